/-! 91: the other calls -/
section OC
variable {N B n nk nv sn ou m : Nat} {wd ow s : Nat → Nat} {Sc Sr Sc' Sr' S0 S : xS}
theorem LR_t (h : LR B Sc Sr) {n' : Nat} (tp : r_tp Sc' Sr' n') (c1 : ∀ q, q < 503 → ¬ q = 1 → ¬ q = 3 → Sc'.1 q = Sc.1 q) (c2 : ∀ q, q < 503 → Sc'.2.1 q = Sc.2.1 q) (r1 : ∀ q j, 503 ≤ q → q < 533 → ¬ q = 504 → ¬ (q = 503 ∧ (j = 0 ∨ j = 2)) → Sr'.1 q j = Sr.1 q j) (r2 : ∀ q, 503 ≤ q → q < 533 → Sr'.2.1 q = Sr.2.1 q) : LR B Sc' Sr' := by
  have r3 : ∀ q, 505 ≤ q → q < 533 → Sr'.1 q = Sr.1 q := fun q a b => funext fun j => r1 q j (by omega) b (by omega) (by omega)
  obtain ⟨n, nk, nv, wd, ow, sn, ou, ⟨h1, h2, h3, h4, h5, h6, h7, h8⟩, ⟨g1, g2, g3, g4, g5, g6, g7⟩, k⟩ := h
  refine ⟨n', nk, nv, wd, ow, sn, ou, ⟨tp, r_vo_c h2 (c2 _ (by omega)) (r2 _ (by omega) (by omega)), r_nw_d h3 (fun q _ _ => c1 q (by omega) (by omega) (by omega)) (fun q _ _ => c2 q (by omega)) (fun q _ _ => r3 q (by omega) (by omega)) (fun q _ _ => r2 q (by omega) (by omega)), by rw [c1 7 (by omega) (by omega) (by omega)]; exact h4, by rw [r1 _ _ (by omega) (by omega) (by omega) (by omega)]; exact h5, by rw [c1 7 (by omega) (by omega) (by omega)]; exact h6, by rw [r1 _ _ (by omega) (by omega) (by omega) (by omega)]; exact h7, by rw [c1 0 (by omega) (by omega) (by omega), r1 _ _ (by omega) (by omega) (by omega) (by omega)]; exact h8⟩, ⟨RT_x g1 (fun q hq => c1 q (by unfold rwC at hq; omega) (by unfold rwC at hq; omega) (by unfold rwC at hq; omega)) (c2 30 (by omega)) (fun q hq => r3 q (by unfold rwR at hq; omega) (by unfold rwR at hq; omega)) (r1 _ _ (by omega) (by omega) (by omega) (by omega)), g2, g3, by rw [c1 409 (by omega) (by omega) (by omega)]; exact g4, by rw [r1 _ _ (by omega) (by omega) (by omega) (by omega)]; exact g5, fun j hj => by rw [c1 411 (by omega) (by omega) (by omega), r3 532 (by omega) (by omega)]; exact g6 j hj, by rw [c1 409 (by omega) (by omega) (by omega), r1 _ _ (by omega) (by omega) (by omega) (by omega)]; exact g7⟩, ?_⟩
  rw [c1 0 (by omega) (by omega) (by omega), r1 503 23 (by omega) (by omega) (by omega) (by omega)]
  rcases k with k | ⟨k1, k2, ns, np, nu, A, D, k3⟩
  · exact Or.inl k
  · exact Or.inr ⟨k1, k2, ns, np, nu, A, D, PRG_g k3 (fun q j hq _ => by rw [c1 q (by omega) (by omega) (by omega)]) (r3 518 (by omega) (by omega)) (r1 _ _ (by omega) (by omega) (by omega) (by omega))⟩
/-- the reference's answer's kind is set -/
theorem LR_0 {v : Int32} (h : LR B Sc Sr) : LR B Sc (sI Sr 503 0 v) := LR_x h (fun _ _ => rfl) (fun _ _ => rfl) (fun q j _ _ c => by rw [sI_c, if_neg c]) (fun _ _ _ => rfl)
theorem LR_e (h : LR B Sc Sr) : LR B (sE Sc) Sr := LR_x h (fun _ _ => rfl) (fun _ _ => rfl) (fun _ _ _ _ _ => rfl) (fun _ _ _ => rfl)
/-- a throw, alike -/
theorem CAL_1 {k : Nat} {c1 c2 : String} {v : Int32} {fc fr : Option xr} (hk : 1 ≤ k) (h : LR B Sc Sr) (h1 : fc = some (.inr c1, sE Sc)) (h2 : fr = some (rI v (sI Sr 503 0 1))) : CAL k B c1 c2 Sc Sr fc fr := ⟨_, _, _, h1, h2, Or.inr (Or.inl ⟨hk, _, rfl, by simp (disch := omega) only [nn_add, nn_addl, l_add_nn, nn_sub, nn_subl, nn_m1, nn_mull, nn_t, nn_i, l_t, nn_lt, nn_le, nn_eq, nn_ltl, l_lt_nn, nn_lel, l_le_nn, nn_eql, l_eql, nn_nm1, xin_nn, xin_l, m1_lt, m1_le, m1_p, m1_z, dlt_T, dlt_F, dle_T, dle_F, deq_T, deq_F, sI_c, sI_n, sI_J, sI_E, sJ_c, sJ_n, sJ_I, sJ_E, sE_I, sE_J, sE_E, xcI_i, xcJ_i, xcR_i, xcV_i, xcI_e, xcJ_e, xcR_e, xcV_e, if_true, if_false, ite_true, ite_false, true_and, and_true, false_and, and_false, or_true, true_or, or_false, false_or, not_true_eq_false, not_false_eq_true, eq_self, ne_eq, ↓reduceIte, Nat.reduceEqDiff, Nat.reduceLT, Nat.reduceLeDiff, Nat.reduceAdd, Nat.reduceMul, Nat.reduceSub, Int32.reduceLT, Int32.reduceLE, reduceCtorEq]⟩), LR_0 (LR_e h), KC_e _, KR_s _ (by omega)⟩
theorem CAL_2 {k : Nat} {c1 c2 : String} {v : Int32} {fc fr : Option xr} (hk : 2 ≤ k) (h : LR B Sc Sr) (h1 : fc = some (.inr c2, sE Sc)) (h2 : fr = some (rI v (sI Sr 503 0 2))) : CAL k B c1 c2 Sc Sr fc fr := ⟨_, _, _, h1, h2, Or.inr (Or.inr ⟨hk, _, rfl, by simp (disch := omega) only [nn_add, nn_addl, l_add_nn, nn_sub, nn_subl, nn_m1, nn_mull, nn_t, nn_i, l_t, nn_lt, nn_le, nn_eq, nn_ltl, l_lt_nn, nn_lel, l_le_nn, nn_eql, l_eql, nn_nm1, xin_nn, xin_l, m1_lt, m1_le, m1_p, m1_z, dlt_T, dlt_F, dle_T, dle_F, deq_T, deq_F, sI_c, sI_n, sI_J, sI_E, sJ_c, sJ_n, sJ_I, sJ_E, sE_I, sE_J, sE_E, xcI_i, xcJ_i, xcR_i, xcV_i, xcI_e, xcJ_e, xcR_e, xcV_e, if_true, if_false, ite_true, ite_false, true_and, and_true, false_and, and_false, or_true, true_or, or_false, false_or, not_true_eq_false, not_false_eq_true, eq_self, ne_eq, ↓reduceIte, Nat.reduceEqDiff, Nat.reduceLT, Nat.reduceLeDiff, Nat.reduceAdd, Nat.reduceMul, Nat.reduceSub, Int32.reduceLT, Int32.reduceLE, reduceCtorEq]⟩), LR_0 (LR_e h), KC_e _, KR_s _ (by omega)⟩
theorem CAL_0 {k : Nat} {c1 c2 : String} {v : Int32} {fc fr : Option xr} (h : LR B Sc Sr) (h1 : fc = some (rI v Sc)) (h2 : fr = some (rI v (sI Sr 503 0 0))) : CAL k B c1 c2 Sc Sr fc fr := ⟨_, _, _, h1, h2, Or.inl ⟨_, rfl, by simp (disch := omega) only [nn_add, nn_addl, l_add_nn, nn_sub, nn_subl, nn_m1, nn_mull, nn_t, nn_i, l_t, nn_lt, nn_le, nn_eq, nn_ltl, l_lt_nn, nn_lel, l_le_nn, nn_eql, l_eql, nn_nm1, xin_nn, xin_l, m1_lt, m1_le, m1_p, m1_z, dlt_T, dlt_F, dle_T, dle_F, deq_T, deq_F, sI_c, sI_n, sI_J, sI_E, sJ_c, sJ_n, sJ_I, sJ_E, sE_I, sE_J, sE_E, xcI_i, xcJ_i, xcR_i, xcV_i, xcI_e, xcJ_e, xcR_e, xcV_e, if_true, if_false, ite_true, ite_false, true_and, and_true, false_and, and_false, or_true, true_or, or_false, false_or, not_true_eq_false, not_false_eq_true, eq_self, ne_eq, ↓reduceIte, Nat.reduceEqDiff, Nat.reduceLT, Nat.reduceLeDiff, Nat.reduceAdd, Nat.reduceMul, Nat.reduceSub, Int32.reduceLT, Int32.reduceLE, reduceCtorEq]⟩, LR_0 h, KC_r _, KR_s _ (by omega)⟩
theorem i_nn {x : Int32} {a b : Int32} (h1 : ¬ x < a) (h2 : x ≤ b) (ha : 0 ≤ a.toInt) : ∃ k : Nat, x = nn k ∧ a.toInt ≤ (k : Int) ∧ (k : Int) ≤ b.toInt := by
  rw [Int32.lt_iff_toInt_lt] at h1
  rw [Int32.le_iff_toInt_le] at h2
  refine ⟨x.toInt.toNat, ?_, by omega, by omega⟩
  have hb := Int32.toInt_lt b
  apply Int32.toInt_inj.mp
  rw [nn_i (by omega)]
  omega
theorem p_place {c1 c2 : String} (h : LR B Sc Sr) : CAL 0 B c1 c2 Sc Sr (f_X11_place N Sc) (f_X12_place N Sr) := by
  have h0 := h
  obtain ⟨n, nk, nv, wd, ow, sn, ou, ⟨h1, h2, h3, h4, h5, h6, h7, h8⟩, _⟩ := h0
  exact CAL_0 h rfl (by unfold f_X12_place; rw [h8])
theorem p_steps {c1 c2 : String} (h : LR B Sc Sr) : CAL 0 B c1 c2 Sc Sr (f_X11_steps N Sc) (f_X12_steps N Sr) := by
  have h0 := h
  obtain ⟨n, nk, nv, wd, ow, sn, ou, _, ⟨g1, g2, g3, g4, g5, g6, g7⟩, _⟩ := h0
  exact CAL_0 h rfl (by unfold f_X12_steps; rw [g7])
theorem p_printed {c1 c2 : String} (h : LR B Sc Sr) : CAL 0 B c1 c2 Sc Sr (f_X11_printed N Sc) (f_X12_printed N Sr) := by
  have h0 := h
  obtain ⟨n, nk, nv, wd, ow, sn, ou, _, ⟨g1, g2, g3, g4, g5, g6, g7⟩, _⟩ := h0
  exact CAL_0 h rfl (by unfold f_X12_printed; rw [g4, g5])
theorem p_prnt {x : Int32} (hB : B < 2000000000) (h : LR B Sc Sr) : CAL 1 B "java/lang/IndexOutOfBoundsException" "java/lang/IllegalStateException" Sc Sr (f_X11_print N x Sc) (f_X12_print N x Sr) := by
  have h0 := h
  obtain ⟨n, nk, nv, wd, ow, sn, ou, _, ⟨g1, g2, g3, g4, g5, g6, g7⟩, _⟩ := h0
  unfold f_X11_print f_X12_print
  rw [g4, g5]
  have bad : CAL 1 B "java/lang/IndexOutOfBoundsException" "java/lang/IllegalStateException" Sc Sr (f_X11_print_29 N Sc) (f_X12_print_24 N x Sr) := by
    refine CAL_1 (v := 0) (by omega) h rfl ?_
    unfold f_X12_print_24 f_X12_print_29 f_X12_print_52
    rw [if_neg (by decide)]
  by_cases q1 : x < 0
  · rw [if_pos q1, if_pos q1]
    exact bad
  · rw [if_neg q1, if_neg q1]
    by_cases q2 : nn ou ≤ x
    · rw [if_pos q2, if_pos q2]
      exact bad
    · rw [if_neg q2, if_neg q2]
      by_cases q3 : nn ou - 64 ≤ x
      · rw [if_pos q3, if_pos q3]
        have e : ∃ k, x = nn k ∧ k < 2147483648 := by
          have hb := Int32.toInt_lt x
          rw [Int32.lt_iff_toInt_lt] at q1
          have z0 : (0 : Int32).toInt = 0 := rfl
          refine ⟨x.toInt.toNat, ?_, by omega⟩
          apply Int32.toInt_inj.mp
          rw [nn_i (by omega)]
          omega
        obtain ⟨k, e, hk⟩ := e
        subst e
        have hm : k % 64 < 64 := Nat.mod_lt _ (by decide)
        rw [md64 hk]
        refine CAL_0 (v := Sr.1 532 (k % 64)) h ?_ ?_
        · rw [if_pos ((xin_nn (by omega)).mpr hm), nn_t (by omega), g6 _ hm]
        · unfold f_X12_print_29 f_X12_print_52
          rw [if_pos rfl, md64 hk, if_pos ((xin_nn (by omega)).mpr hm), nn_t (by omega)]
      · rw [if_neg q3, if_neg q3]
        exact bad
theorem kof_l {w : Nat} (h : DBR Sc Sr ow nk wd sn) (hw : w < 64) : ∀ (e j n : Nat), j + e = 8 → 1 ≤ j → (∀ k, 1 ≤ k → k < j → ¬ ow w = k) → e < n → f_X10_kindOf_2 N n (nn w) (nn j) Sc = some (rI (nn (ow w)) Sc) := by
  intro e
  induction e with
  | zero =>
    intro j n hj h1 hk hn
    obtain ⟨n, rfl⟩ : ∃ k, n = k + 1 := ⟨n - 1, by omega⟩
    have h7 := (h.1 w hw).1
    have h8 := h.2.2.2.2.2.2.1
    have : ow w = 0 := by
      by_cases z : ow w = 0
      · exact z
      · exact absurd rfl (hk (ow w) (by omega) (by omega))
    rw [f_X10_kindOf_2.eq_2, if_pos (by simp (disch := omega) only [nn_add, nn_addl, l_add_nn, nn_sub, nn_subl, nn_m1, nn_mull, nn_t, nn_i, l_t, nn_lt, nn_le, nn_eq, nn_ltl, l_lt_nn, nn_lel, l_le_nn, nn_eql, l_eql, nn_nm1, xin_nn, xin_l, m1_lt, m1_le, m1_p, m1_z, dlt_T, dlt_F, dle_T, dle_F, deq_T, deq_F, sI_c, sI_n, sI_J, sI_E, sJ_c, sJ_n, sJ_I, sJ_E, sE_I, sE_J, sE_E, xcI_i, xcJ_i, xcR_i, xcV_i, xcI_e, xcJ_e, xcR_e, xcV_e, if_true, if_false, ite_true, ite_false, true_and, and_true, false_and, and_false, or_true, true_or, or_false, false_or, not_true_eq_false, not_false_eq_true, eq_self, ne_eq, ↓reduceIte, Nat.reduceEqDiff, Nat.reduceLT, Nat.reduceLeDiff, Nat.reduceAdd, Nat.reduceMul, Nat.reduceSub, Int32.reduceLT, Int32.reduceLE, reduceCtorEq] <;> omega), this]
    rfl
  | succ e ih =>
    intro j n hj h1 hk hn
    obtain ⟨n, rfl⟩ : ∃ k, n = k + 1 := ⟨n - 1, by omega⟩
    have hb := h.2.1 w hw j h1 (by omega)
    rw [f_X10_kindOf_2.eq_2, if_neg (by simp (disch := omega) only [nn_add, nn_addl, l_add_nn, nn_sub, nn_subl, nn_m1, nn_mull, nn_t, nn_i, l_t, nn_lt, nn_le, nn_eq, nn_ltl, l_lt_nn, nn_lel, l_le_nn, nn_eql, l_eql, nn_nm1, xin_nn, xin_l, m1_lt, m1_le, m1_p, m1_z, dlt_T, dlt_F, dle_T, dle_F, deq_T, deq_F, sI_c, sI_n, sI_J, sI_E, sJ_c, sJ_n, sJ_I, sJ_E, sE_I, sE_J, sE_E, xcI_i, xcJ_i, xcR_i, xcV_i, xcI_e, xcJ_e, xcR_e, xcV_e, if_true, if_false, ite_true, ite_false, true_and, and_true, false_and, and_false, or_true, true_or, or_false, false_or, not_true_eq_false, not_false_eq_true, eq_self, ne_eq, ↓reduceIte, Nat.reduceEqDiff, Nat.reduceLT, Nat.reduceLeDiff, Nat.reduceAdd, Nat.reduceMul, Nat.reduceSub, Int32.reduceLT, Int32.reduceLE, reduceCtorEq] <;> omega), if_pos ((xin_nn (by omega)).mpr (by omega)), nn_t (by omega)]
    by_cases q : ow w = j
    · rw [if_neg (fun z => by
        have := (bt_0 (Sc.2.1 30 j) hw).mp z
        rw [hb, decide_eq_true q] at this
        cases this), q]
    · rw [if_pos ((bt_0 (Sc.2.1 30 j) hw).mpr (by rw [hb, decide_eq_false q])), nn_addl]
      exact ih (j + 1) n (by omega) (by omega) (fun k k1 k2 => by
        by_cases z : k = j
        · rw [z]; exact q
        · exact hk k k1 (by omega)) (by omega)
theorem p_word {x1 x2 : Int32} (hN : 1000 < N) (h : LR B Sc Sr) : CAL 1 B "java/lang/IllegalArgumentException" "java/lang/IllegalStateException" Sc Sr (f_X11_word N x1 x2 Sc) (f_X12_word N x1 x2 Sr) := by
  have h0 := h
  obtain ⟨n, nk, nv, wd, ow, sn, ou, ⟨_, _, h3, _⟩, ⟨g1, _⟩, _⟩ := h0
  unfold f_X11_word f_X12_word
  have bad : CAL 1 B "java/lang/IllegalArgumentException" "java/lang/IllegalStateException" Sc Sr (f_X11_word_20 N Sc) (f_X12_word_21 N x1 x2 Sr) := by
    refine CAL_1 (v := 0) (by omega) h rfl ?_
    unfold f_X12_word_21 f_X12_word_26
    rw [if_neg (by decide)]
  by_cases q1 : x1 < 0
  · rw [if_pos q1, if_pos q1]
    exact bad
  · rw [if_neg q1, if_neg q1]
    by_cases q2 : 64 ≤ x1
    · rw [if_pos q2, if_pos (by
        rw [Int32.le_iff_toInt_le] at q2
        rw [Int32.lt_iff_toInt_lt]
        have z0 : (64 : Int32).toInt = 64 := rfl
        have z1 : (63 : Int32).toInt = 63 := rfl
        omega)]
      exact bad
    · have q2' : ¬ (63 : Int32) < x1 := by
        rw [Int32.le_iff_toInt_le] at q2
        rw [Int32.lt_iff_toInt_lt]
        have z0 : (64 : Int32).toInt = 64 := rfl
        have z1 : (63 : Int32).toInt = 63 := rfl
        omega
      rw [if_neg q2, if_neg q2']
      by_cases q3 : x2 < 0
      · rw [if_pos q3, if_pos q3]
        exact bad
      · rw [if_neg q3, if_neg q3]
        by_cases q4 : x2 ≤ 6
        · rw [if_pos q4, if_pos q4]
          obtain ⟨f, ef, f1, f2⟩ := i_nn q3 q4 (by decide)
          have z6 : (6 : Int32).toInt = 6 := rfl
          rw [z6] at f2
          obtain ⟨w, ew, w1, w2⟩ := i_nn (x := x1) (a := 0) (b := 63) q1 (by
            rw [Int32.lt_iff_toInt_lt] at q2'
            rw [Int32.le_iff_toInt_le]
            omega) (by decide)
          have z63 : (63 : Int32).toInt = 63 := rfl
          rw [z63] at w2
          subst ef ew
          have hw : w < 64 := by omega
          obtain ⟨d1, d2, d3, d4, d5, d6, d7, d8⟩ := g1.1
          have hk := kof_l (N := N) g1.1 hw 7 1 N (by omega) (by omega) (fun k k1 k2 => by omega) (by omega)
          have hk' : f_X10_kindOf N (nn w) Sc = some (rI (nn (ow w)) Sc) := hk
          obtain ⟨e1, e2⟩ := d1 w hw
          unfold f_X11_word_45 f_X12_word_26 f_X12_word_75 f_X12_word_92
          have xw : xin (nn w) 64 := (xin_nn (by omega)).mpr hw
          rw [xcI_of hk', if_pos rfl]
          simp only [if_pos xw]
          rw [nn_t (a := w) (by omega), e2]
          by_cases q5 : f = 0
          · subst q5
            rw [if_pos (show nn 0 = 0 from rfl), if_pos (show nn 0 = 0 from rfl)]
            exact CAL_0 h rfl rfl
          · have nf : ¬ nn f = 0 := by simp (disch := omega) only [nn_add, nn_addl, l_add_nn, nn_sub, nn_subl, nn_m1, nn_mull, nn_t, nn_i, l_t, nn_lt, nn_le, nn_eq, nn_ltl, l_lt_nn, nn_lel, l_le_nn, nn_eql, l_eql, nn_nm1, xin_nn, xin_l, m1_lt, m1_le, m1_p, m1_z, dlt_T, dlt_F, dle_T, dle_F, deq_T, deq_F, sI_c, sI_n, sI_J, sI_E, sJ_c, sJ_n, sJ_I, sJ_E, sE_I, sE_J, sE_E, xcI_i, xcJ_i, xcR_i, xcV_i, xcI_e, xcJ_e, xcR_e, xcV_e, if_true, if_false, ite_true, ite_false, true_and, and_true, false_and, and_false, or_true, true_or, or_false, false_or, not_true_eq_false, not_false_eq_true, eq_self, ne_eq, ↓reduceIte, Nat.reduceEqDiff, Nat.reduceLT, Nat.reduceLeDiff, Nat.reduceAdd, Nat.reduceMul, Nat.reduceSub, Int32.reduceLT, Int32.reduceLE, reduceCtorEq] <;> omega
            rw [if_neg nf, if_neg nf]
            by_cases q6 : ow w = 0
            · rw [q6, if_pos (show nn 0 = 0 from rfl), if_pos (show nn 0 = 0 from rfl)]
              exact CAL_0 h rfl rfl
            · have nk0 : ¬ nn (ow w) = 0 := by simp (disch := omega) only [nn_add, nn_addl, l_add_nn, nn_sub, nn_subl, nn_m1, nn_mull, nn_t, nn_i, l_t, nn_lt, nn_le, nn_eq, nn_ltl, l_lt_nn, nn_lel, l_le_nn, nn_eql, l_eql, nn_nm1, xin_nn, xin_l, m1_lt, m1_le, m1_p, m1_z, dlt_T, dlt_F, dle_T, dle_F, deq_T, deq_F, sI_c, sI_n, sI_J, sI_E, sJ_c, sJ_n, sJ_I, sJ_E, sE_I, sE_J, sE_E, xcI_i, xcJ_i, xcR_i, xcV_i, xcI_e, xcJ_e, xcR_e, xcV_e, if_true, if_false, ite_true, ite_false, true_and, and_true, false_and, and_false, or_true, true_or, or_false, false_or, not_true_eq_false, not_false_eq_true, eq_self, ne_eq, ↓reduceIte, Nat.reduceEqDiff, Nat.reduceLT, Nat.reduceLeDiff, Nat.reduceAdd, Nat.reduceMul, Nat.reduceSub, Int32.reduceLT, Int32.reduceLE, reduceCtorEq] <;> omega
              obtain ⟨f', rfl⟩ : ∃ f', f = f' + 1 := ⟨f - 1, by omega⟩
              obtain ⟨o', eo⟩ : ∃ o', ow w = o' + 1 := ⟨ow w - 1, by omega⟩
              obtain ⟨u1, u2, _⟩ := d3 w hw q6
              obtain ⟨b1, b2, b3, b4⟩ := h3.2.2.2.1 o' (by omega)
              rw [if_neg nk0, if_neg nk0, nn_s1, eo, nn_s1, if_pos ((xin_nn (by omega)).mpr (by omega)), if_pos ((xin_nn (by omega)).mpr (by omega)), nn_t (a := f') (by omega), nn_t (a := o') (by omega), b3, nn_mull, nn_add, show 6 * w + (f' + 1) = 6 * w + f' + 1 by omega, nn_s1, if_pos (c := xin (nn (6 * w + f')) 384) ((xin_nn (by omega)).mpr (by omega)), nn_t (a := 6 * w + f') (by omega), u1 f' (by omega)]
              by_cases q7 : f' + 1 ≤ wd o'
              · rw [if_pos (by simp (disch := omega) only [nn_add, nn_addl, l_add_nn, nn_sub, nn_subl, nn_m1, nn_mull, nn_t, nn_i, l_t, nn_lt, nn_le, nn_eq, nn_ltl, l_lt_nn, nn_lel, l_le_nn, nn_eql, l_eql, nn_nm1, xin_nn, xin_l, m1_lt, m1_le, m1_p, m1_z, dlt_T, dlt_F, dle_T, dle_F, deq_T, deq_F, sI_c, sI_n, sI_J, sI_E, sJ_c, sJ_n, sJ_I, sJ_E, sE_I, sE_J, sE_E, xcI_i, xcJ_i, xcR_i, xcV_i, xcI_e, xcJ_e, xcR_e, xcV_e, if_true, if_false, ite_true, ite_false, true_and, and_true, false_and, and_false, or_true, true_or, or_false, false_or, not_true_eq_false, not_false_eq_true, eq_self, ne_eq, ↓reduceIte, Nat.reduceEqDiff, Nat.reduceLT, Nat.reduceLeDiff, Nat.reduceAdd, Nat.reduceMul, Nat.reduceSub, Int32.reduceLT, Int32.reduceLE, reduceCtorEq] <;> omega)]
                exact CAL_0 h rfl rfl
              · rw [if_neg (by simp (disch := omega) only [nn_add, nn_addl, l_add_nn, nn_sub, nn_subl, nn_m1, nn_mull, nn_t, nn_i, l_t, nn_lt, nn_le, nn_eq, nn_ltl, l_lt_nn, nn_lel, l_le_nn, nn_eql, l_eql, nn_nm1, xin_nn, xin_l, m1_lt, m1_le, m1_p, m1_z, dlt_T, dlt_F, dle_T, dle_F, deq_T, deq_F, sI_c, sI_n, sI_J, sI_E, sJ_c, sJ_n, sJ_I, sJ_E, sE_I, sE_J, sE_E, xcI_i, xcJ_i, xcR_i, xcV_i, xcI_e, xcJ_e, xcR_e, xcV_e, if_true, if_false, ite_true, ite_false, true_and, and_true, false_and, and_false, or_true, true_or, or_false, false_or, not_true_eq_false, not_false_eq_true, eq_self, ne_eq, ↓reduceIte, Nat.reduceEqDiff, Nat.reduceLT, Nat.reduceLeDiff, Nat.reduceAdd, Nat.reduceMul, Nat.reduceSub, Int32.reduceLT, Int32.reduceLE, reduceCtorEq] <;> omega)]
                rw [eo, show o' + 1 - 1 = o' by omega] at u2
                rw [u2 f' (by omega) (by omega)]
                exact CAL_0 h rfl rfl
        · rw [if_neg q4, if_neg q4]
          exact bad
theorem rec_l (hr : ∀ v, v < 64 → S.1 511 v = nn (ow v) ∧ ow v ≤ 7) : ∀ (e w n a : Nat), w + e = 64 → a ≤ w → e < n → f_X12_records_9 N n (nn a) (nn w) S = some (rI (nn (a + cnt (fun i => decide (¬ ow (w + i) = 0)) e)) S) := by
  intro e
  induction e with
  | zero =>
    intro w n a hw ha hn
    obtain ⟨n, rfl⟩ : ∃ k, n = k + 1 := ⟨n - 1, by omega⟩
    rw [f_X12_records_9.eq_2, if_pos (by simp (disch := omega) only [nn_add, nn_addl, l_add_nn, nn_sub, nn_subl, nn_m1, nn_mull, nn_t, nn_i, l_t, nn_lt, nn_le, nn_eq, nn_ltl, l_lt_nn, nn_lel, l_le_nn, nn_eql, l_eql, nn_nm1, xin_nn, xin_l, m1_lt, m1_le, m1_p, m1_z, dlt_T, dlt_F, dle_T, dle_F, deq_T, deq_F, sI_c, sI_n, sI_J, sI_E, sJ_c, sJ_n, sJ_I, sJ_E, sE_I, sE_J, sE_E, xcI_i, xcJ_i, xcR_i, xcV_i, xcI_e, xcJ_e, xcR_e, xcV_e, if_true, if_false, ite_true, ite_false, true_and, and_true, false_and, and_false, or_true, true_or, or_false, false_or, not_true_eq_false, not_false_eq_true, eq_self, ne_eq, ↓reduceIte, Nat.reduceEqDiff, Nat.reduceLT, Nat.reduceLeDiff, Nat.reduceAdd, Nat.reduceMul, Nat.reduceSub, Int32.reduceLT, Int32.reduceLE, reduceCtorEq] <;> omega)]
    rfl
  | succ e ih =>
    intro w n a hw ha hn
    obtain ⟨n, rfl⟩ : ∃ k, n = k + 1 := ⟨n - 1, by omega⟩
    obtain ⟨r1, r2⟩ := hr w (by omega)
    rw [f_X12_records_9.eq_2, if_neg (by simp (disch := omega) only [nn_add, nn_addl, l_add_nn, nn_sub, nn_subl, nn_m1, nn_mull, nn_t, nn_i, l_t, nn_lt, nn_le, nn_eq, nn_ltl, l_lt_nn, nn_lel, l_le_nn, nn_eql, l_eql, nn_nm1, xin_nn, xin_l, m1_lt, m1_le, m1_p, m1_z, dlt_T, dlt_F, dle_T, dle_F, deq_T, deq_F, sI_c, sI_n, sI_J, sI_E, sJ_c, sJ_n, sJ_I, sJ_E, sE_I, sE_J, sE_E, xcI_i, xcJ_i, xcR_i, xcV_i, xcI_e, xcJ_e, xcR_e, xcV_e, if_true, if_false, ite_true, ite_false, true_and, and_true, false_and, and_false, or_true, true_or, or_false, false_or, not_true_eq_false, not_false_eq_true, eq_self, ne_eq, ↓reduceIte, Nat.reduceEqDiff, Nat.reduceLT, Nat.reduceLeDiff, Nat.reduceAdd, Nat.reduceMul, Nat.reduceSub, Int32.reduceLT, Int32.reduceLE, reduceCtorEq] <;> omega), if_pos ((xin_nn (by omega)).mpr (by omega)), nn_t (by omega), r1]
    unfold f_X12_records_30
    have ec : cnt (fun i => decide (¬ ow (w + i) = 0)) (e + 1) = (decide (¬ ow w = 0)).toNat + cnt (fun i => decide (¬ ow (w + 1 + i) = 0)) e := by
      rw [show e + 1 = 1 + e by omega, cnt_a]
      congr 1
      · show 0 + (decide (¬ ow (w + 0) = 0)).toNat = _
        rw [Nat.zero_add, Nat.add_zero]
      · exact cnt_c e (fun i _ => by rw [show w + (1 + i) = w + 1 + i by omega])
    rw [ec, show nn w + 1 = nn (w + 1) from nn_addl w 1]
    by_cases q : ow w = 0
    · rw [q, if_pos (by decide), show nn a + 0 = nn a from by rw [show (0 : Int32) = nn 0 from rfl, nn_add, Nat.add_zero], ih (w + 1) n a (by omega) (by omega) (by omega), decide_eq_false (fun z => z rfl), show false.toNat = 0 from rfl, Nat.zero_add]
    · rw [if_neg (by simp (disch := omega) only [nn_add, nn_addl, l_add_nn, nn_sub, nn_subl, nn_m1, nn_mull, nn_t, nn_i, l_t, nn_lt, nn_le, nn_eq, nn_ltl, l_lt_nn, nn_lel, l_le_nn, nn_eql, l_eql, nn_nm1, xin_nn, xin_l, m1_lt, m1_le, m1_p, m1_z, dlt_T, dlt_F, dle_T, dle_F, deq_T, deq_F, sI_c, sI_n, sI_J, sI_E, sJ_c, sJ_n, sJ_I, sJ_E, sE_I, sE_J, sE_E, xcI_i, xcJ_i, xcR_i, xcV_i, xcI_e, xcJ_e, xcR_e, xcV_e, if_true, if_false, ite_true, ite_false, true_and, and_true, false_and, and_false, or_true, true_or, or_false, false_or, not_true_eq_false, not_false_eq_true, eq_self, ne_eq, ↓reduceIte, Nat.reduceEqDiff, Nat.reduceLT, Nat.reduceLeDiff, Nat.reduceAdd, Nat.reduceMul, Nat.reduceSub, Int32.reduceLT, Int32.reduceLE, reduceCtorEq] <;> omega), show nn a + 1 = nn (a + 1) from nn_addl a 1, ih (w + 1) n (a + 1) (by omega) (by omega) (by omega), decide_eq_true q, show true.toNat = 1 from rfl, Nat.add_assoc]
theorem p_records {c1 c2 : String} (hN : 1000 < N) (h : LR B Sc Sr) : CAL 0 B c1 c2 Sc Sr (f_X11_records N Sc) (f_X12_records N Sr) := by
  have h0 := h
  obtain ⟨n, nk, nv, wd, ow, sn, ou, _, ⟨g1, _⟩, _⟩ := h0
  obtain ⟨y, r1, r2⟩ := p_taken (N := N) hN g1.1
  have hk7 := g1.1.2.2.2.2.2.2.1
  have hr := rec_l (N := N) (S := sI Sr 503 0 0) (ow := ow) (fun v hv => ⟨by simp (disch := omega) only [nn_add, nn_addl, l_add_nn, nn_sub, nn_subl, nn_m1, nn_mull, nn_t, nn_i, l_t, nn_lt, nn_le, nn_eq, nn_ltl, l_lt_nn, nn_lel, l_le_nn, nn_eql, l_eql, nn_nm1, xin_nn, xin_l, m1_lt, m1_le, m1_p, m1_z, dlt_T, dlt_F, dle_T, dle_F, deq_T, deq_F, sI_c, sI_n, sI_J, sI_E, sJ_c, sJ_n, sJ_I, sJ_E, sE_I, sE_J, sE_E, xcI_i, xcJ_i, xcR_i, xcV_i, xcI_e, xcJ_e, xcR_e, xcV_e, if_true, if_false, ite_true, ite_false, true_and, and_true, false_and, and_false, or_true, true_or, or_false, false_or, not_true_eq_false, not_false_eq_true, eq_self, ne_eq, ↓reduceIte, Nat.reduceEqDiff, Nat.reduceLT, Nat.reduceLeDiff, Nat.reduceAdd, Nat.reduceMul, Nat.reduceSub, Int32.reduceLT, Int32.reduceLE, reduceCtorEq]; exact (g1.1.1 v hv).2, by have := (g1.1.1 v hv).1; omega⟩) 64 0 N 0 (by omega) (by omega) (by omega)
  have e : cnt (bt y) 64 = 0 + cnt (fun i => decide (¬ ow (0 + i) = 0)) 64 := by
    rw [Nat.zero_add]
    exact cnt_c 64 (fun v hv => by rw [r2 v hv, Nat.zero_add])
  refine CAL_0 (v := nn (cnt (bt y) 64)) h ?_ ?_
  · unfold f_X11_records
    rw [xcJ_of r1, xcI_of p_bitCount]
  · unfold f_X12_records
    rw [e]
    exact hr
theorem p_feed {y : Int64} {x : Int32} (hN : 1000 < N) (h : LR B Sc Sr) : CAL 2 B "java/lang/IllegalArgumentException" "java/lang/IllegalStateException" Sc Sr (f_X11_feed N y x Sc) (f_X12_feed N y x Sr) := by
  have h0 := h
  obtain ⟨n, nk, nv, wd, ow, sn, ou, ⟨h1, _⟩, _⟩ := h0
  unfold f_X11_feed f_X12_feed
  have bad : CAL 2 B "java/lang/IllegalArgumentException" "java/lang/IllegalStateException" Sc Sr (f_X11_feed_11 N Sc) (f_X12_feed_12 N y x Sr) := by
    refine CAL_1 (v := 0) (by omega) h rfl ?_
    unfold f_X12_feed_12 f_X12_feed_33
    rw [if_neg (by decide)]
  by_cases q1 : x < 1
  · rw [if_pos q1, if_pos q1]
    exact bad
  · rw [if_neg q1, if_neg q1]
    by_cases q2 : x ≤ 8
    · rw [if_pos q2, if_pos q2]
      obtain ⟨k, ek, k1, k2⟩ := i_nn q1 q2 (by decide)
      have z8 : (8 : Int32).toInt = 8 := rfl
      have z1 : (1 : Int32).toInt = 1 := rfl
      rw [z8] at k2
      rw [z1] at k1
      subst ek
      obtain ⟨t1, t2, t3, t4⟩ := h1
      rw [t2, t3, nn_add]
      by_cases q3 : n + k ≤ 500
      · rw [if_pos (by simp (disch := omega) only [nn_add, nn_addl, l_add_nn, nn_sub, nn_subl, nn_m1, nn_mull, nn_t, nn_i, l_t, nn_lt, nn_le, nn_eq, nn_ltl, l_lt_nn, nn_lel, l_le_nn, nn_eql, l_eql, nn_nm1, xin_nn, xin_l, m1_lt, m1_le, m1_p, m1_z, dlt_T, dlt_F, dle_T, dle_F, deq_T, deq_F, sI_c, sI_n, sI_J, sI_E, sJ_c, sJ_n, sJ_I, sJ_E, sE_I, sE_J, sE_E, xcI_i, xcJ_i, xcR_i, xcV_i, xcI_e, xcJ_e, xcR_e, xcV_e, if_true, if_false, ite_true, ite_false, true_and, and_true, false_and, and_false, or_true, true_or, or_false, false_or, not_true_eq_false, not_false_eq_true, eq_self, ne_eq, ↓reduceIte, Nat.reduceEqDiff, Nat.reduceLT, Nat.reduceLeDiff, Nat.reduceAdd, Nat.reduceMul, Nat.reduceSub, Int32.reduceLT, Int32.reduceLE, reduceCtorEq] <;> omega), if_pos (by simp (disch := omega) only [nn_add, nn_addl, l_add_nn, nn_sub, nn_subl, nn_m1, nn_mull, nn_t, nn_i, l_t, nn_lt, nn_le, nn_eq, nn_ltl, l_lt_nn, nn_lel, l_le_nn, nn_eql, l_eql, nn_nm1, xin_nn, xin_l, m1_lt, m1_le, m1_p, m1_z, dlt_T, dlt_F, dle_T, dle_F, deq_T, deq_F, sI_c, sI_n, sI_J, sI_E, sJ_c, sJ_n, sJ_I, sJ_E, sE_I, sE_J, sE_E, xcI_i, xcJ_i, xcR_i, xcV_i, xcI_e, xcJ_e, xcR_e, xcV_e, if_true, if_false, ite_true, ite_false, true_and, and_true, false_and, and_false, or_true, true_or, or_false, false_or, not_true_eq_false, not_false_eq_true, eq_self, ne_eq, ↓reduceIte, Nat.reduceEqDiff, Nat.reduceLT, Nat.reduceLeDiff, Nat.reduceAdd, Nat.reduceMul, Nat.reduceSub, Int32.reduceLT, Int32.reduceLE, reduceCtorEq] <;> omega)]
        have tp0 : r_tp Sc (sI Sr 503 0 0) n := r_tp_c ⟨t1, t2, t3, t4⟩ rfl rfl (by simp (disch := omega) only [nn_add, nn_addl, l_add_nn, nn_sub, nn_subl, nn_m1, nn_mull, nn_t, nn_i, l_t, nn_lt, nn_le, nn_eq, nn_ltl, l_lt_nn, nn_lel, l_le_nn, nn_eql, l_eql, nn_nm1, xin_nn, xin_l, m1_lt, m1_le, m1_p, m1_z, dlt_T, dlt_F, dle_T, dle_F, deq_T, deq_F, sI_c, sI_n, sI_J, sI_E, sJ_c, sJ_n, sJ_I, sJ_E, sE_I, sE_J, sE_E, xcI_i, xcJ_i, xcR_i, xcV_i, xcI_e, xcJ_e, xcR_e, xcV_e, if_true, if_false, ite_true, ite_false, true_and, and_true, false_and, and_false, or_true, true_or, or_false, false_or, not_true_eq_false, not_false_eq_true, eq_self, ne_eq, ↓reduceIte, Nat.reduceEqDiff, Nat.reduceLT, Nat.reduceLeDiff, Nat.reduceAdd, Nat.reduceMul, Nat.reduceSub, Int32.reduceLT, Int32.reduceLE, reduceCtorEq]) (by simp (disch := omega) only [nn_add, nn_addl, l_add_nn, nn_sub, nn_subl, nn_m1, nn_mull, nn_t, nn_i, l_t, nn_lt, nn_le, nn_eq, nn_ltl, l_lt_nn, nn_lel, l_le_nn, nn_eql, l_eql, nn_nm1, xin_nn, xin_l, m1_lt, m1_le, m1_p, m1_z, dlt_T, dlt_F, dle_T, dle_F, deq_T, deq_F, sI_c, sI_n, sI_J, sI_E, sJ_c, sJ_n, sJ_I, sJ_E, sE_I, sE_J, sE_E, xcI_i, xcJ_i, xcR_i, xcV_i, xcI_e, xcJ_e, xcR_e, xcV_e, if_true, if_false, ite_true, ite_false, true_and, and_true, false_and, and_false, or_true, true_or, or_false, false_or, not_true_eq_false, not_false_eq_true, eq_self, ne_eq, ↓reduceIte, Nat.reduceEqDiff, Nat.reduceLT, Nat.reduceLeDiff, Nat.reduceAdd, Nat.reduceMul, Nat.reduceSub, Int32.reduceLT, Int32.reduceLE, reduceCtorEq])
        obtain ⟨S1, S2, p1, p2, p3, p4, p5, p6, p7, p8, p9, p10⟩ := p_feed_loop N y k n N N Sc (sI Sr 503 0 0) tp0 q3 (by omega) (by omega) (by omega)
        refine ⟨_, _, S2, p1, ?_, Or.inl ⟨_, rfl, by rw [p9 0 (by omega)]; simp (disch := omega) only [nn_add, nn_addl, l_add_nn, nn_sub, nn_subl, nn_m1, nn_mull, nn_t, nn_i, l_t, nn_lt, nn_le, nn_eq, nn_ltl, l_lt_nn, nn_lel, l_le_nn, nn_eql, l_eql, nn_nm1, xin_nn, xin_l, m1_lt, m1_le, m1_p, m1_z, dlt_T, dlt_F, dle_T, dle_F, deq_T, deq_F, sI_c, sI_n, sI_J, sI_E, sJ_c, sJ_n, sJ_I, sJ_E, sE_I, sE_J, sE_E, xcI_i, xcJ_i, xcR_i, xcV_i, xcI_e, xcJ_e, xcR_e, xcV_e, if_true, if_false, ite_true, ite_false, true_and, and_true, false_and, and_false, or_true, true_or, or_false, false_or, not_true_eq_false, not_false_eq_true, eq_self, ne_eq, ↓reduceIte, Nat.reduceEqDiff, Nat.reduceLT, Nat.reduceLeDiff, Nat.reduceAdd, Nat.reduceMul, Nat.reduceSub, Int32.reduceLT, Int32.reduceLE, reduceCtorEq]⟩, ?_, ?_, ?_⟩
        · unfold f_X12_feed_33
          rw [if_pos rfl]
          exact p2
        · exact LR_t h p3 (fun q a b c => p4 q b c) (fun q a => by rw [p7]) (fun q j a b c d => by
            by_cases z : q = 503
            · subst z
              rw [p9 j (by omega), sI_c, if_neg (by omega)]
            · rw [p8 q z c, sI_n z]) (fun q a b => by rw [p10]; rfl)
        · exact ⟨fun q hq => p4 q (by omega) (by omega), fun q hq => by rw [p7], by rw [p7]; omega⟩
        · exact ⟨fun q hq => by rw [p8 q (by omega) (by omega), sI_n (by omega)], fun q hq => by rw [p10]; rfl, by rw [p10]; rfl⟩
      · rw [if_neg (by simp (disch := omega) only [nn_add, nn_addl, l_add_nn, nn_sub, nn_subl, nn_m1, nn_mull, nn_t, nn_i, l_t, nn_lt, nn_le, nn_eq, nn_ltl, l_lt_nn, nn_lel, l_le_nn, nn_eql, l_eql, nn_nm1, xin_nn, xin_l, m1_lt, m1_le, m1_p, m1_z, dlt_T, dlt_F, dle_T, dle_F, deq_T, deq_F, sI_c, sI_n, sI_J, sI_E, sJ_c, sJ_n, sJ_I, sJ_E, sE_I, sE_J, sE_E, xcI_i, xcJ_i, xcR_i, xcV_i, xcI_e, xcJ_e, xcR_e, xcV_e, if_true, if_false, ite_true, ite_false, true_and, and_true, false_and, and_false, or_true, true_or, or_false, false_or, not_true_eq_false, not_false_eq_true, eq_self, ne_eq, ↓reduceIte, Nat.reduceEqDiff, Nat.reduceLT, Nat.reduceLeDiff, Nat.reduceAdd, Nat.reduceMul, Nat.reduceSub, Int32.reduceLT, Int32.reduceLE, reduceCtorEq] <;> omega), if_neg (by simp (disch := omega) only [nn_add, nn_addl, l_add_nn, nn_sub, nn_subl, nn_m1, nn_mull, nn_t, nn_i, l_t, nn_lt, nn_le, nn_eq, nn_ltl, l_lt_nn, nn_lel, l_le_nn, nn_eql, l_eql, nn_nm1, xin_nn, xin_l, m1_lt, m1_le, m1_p, m1_z, dlt_T, dlt_F, dle_T, dle_F, deq_T, deq_F, sI_c, sI_n, sI_J, sI_E, sJ_c, sJ_n, sJ_I, sJ_E, sE_I, sE_J, sE_E, xcI_i, xcJ_i, xcR_i, xcV_i, xcI_e, xcJ_e, xcR_e, xcV_e, if_true, if_false, ite_true, ite_false, true_and, and_true, false_and, and_false, or_true, true_or, or_false, false_or, not_true_eq_false, not_false_eq_true, eq_self, ne_eq, ↓reduceIte, Nat.reduceEqDiff, Nat.reduceLT, Nat.reduceLeDiff, Nat.reduceAdd, Nat.reduceMul, Nat.reduceSub, Int32.reduceLT, Int32.reduceLE, reduceCtorEq] <;> omega)]
        refine CAL_2 (v := 0) (by omega) h rfl ?_
        unfold f_X12_feed_33
        rw [if_neg (by decide)]
    · rw [if_neg q2, if_neg q2]
      exact bad
end OC
