/-! 87: records are set -/
def cdp (U : List xV) : List Int32 := U.flatMap (fun u => nn u.1 :: nn (cE u.2.2).length :: cE u.2.2)
theorem cdp_cs (u : xV) (U : List xV) : cdp (u :: U) = (nn u.1 :: nn (cE u.2.2).length :: cE u.2.2) ++ cdp U := List.flatMap_cons
section SE
variable {N n t i C c sp ns np nu nk nv fu B sn ou p b d κ sz k f m a us w r nU : Nat} {wd A ow : Nat → Nat} {D : Nat → xD} {S S' Sc Sr Sc' Sr' : xS} {sc : Nat → Nat → Nat → Prop} {E : List xCe} {V F : Nat → Int32} {Fw Cv : Nat → Nat → Int32} {s : Nat → Nat → Prop} {rc : Prop} {x2 x6 : Int32}
theorem envC_i (h : envC S V F Cv rc s x2) (hk : kvi S S') : envC S' V F Cv rc s x2 := by
  obtain ⟨h1, h2, h3⟩ := h
  refine ⟨fun v hv => by rw [kvi_q hk (by omega) (by omega) (by omega)]; exact h1 v hv, fun z => ?_, fun b d z => ?_⟩
  · obtain ⟨w, a1, a2, a3⟩ := h2 z
    exact ⟨w, a1, a2, fun f hf => by rw [kvi_q hk (by omega) (by omega) (by omega)]; exact a3 f hf⟩
  · obtain ⟨a0, k, wd, a1, a2, a3, a4, a5⟩ := h3 b d z
    refine ⟨a0, k, wd, a1, a2, by rw [kvi_q hk (by omega) (by omega) (by omega)]; exact a3, by rw [kvi_q hk (by omega) (by omega) (by omega)]; exact a4, fun f hf => ?_⟩
    rw [kvi_q (q := 96) hk (by omega) (by omega) (by omega), kvi_q (q := 491 + b) hk (by omega) (by omega) (by omega), kvi_q (q := 32 + wd) hk (by omega) (by omega) (by omega)]
    exact a5 f hf
theorem envR_i (h : envR S V F Cv rc s x6) (hk : kmi S S') : envR S' V F Cv rc s x6 := by
  obtain ⟨h1, h2, h3⟩ := h
  refine ⟨fun v hv => by rw [kmi_q hk (by omega)]; exact h1 v hv, fun z => ?_, fun b d z => ?_⟩
  · obtain ⟨w, a1, a2, a3, a4⟩ := h2 z
    exact ⟨w, a1, a2, by rw [kmi_q hk (by omega)]; exact a3, fun f hf => by rw [kmi_q hk (by omega)]; exact a4 f hf⟩
  · obtain ⟨a0, k, wd, a1, a2, a3, a4, a5⟩ := h3 b d z
    refine ⟨a0, k, wd, a1, a2, by rw [kmi_q hk (by omega)]; exact a3, by rw [kmi_q hk (by omega)]; exact a4, fun f hf => ?_⟩
    rw [kmi_q (q := 511) hk (by omega), kmi_q (q := 513) hk (by omega), kmi_q (q := 527) hk (by omega), kmi_q (q := 512) hk (by omega)]
    exact a5 f hf
theorem PUT_g {rk0 wk : Nat} {U : List xV} (h : PUT S np nu rk0 wk s us U) (hk : kpg S S') (hnp : np ≤ 151) : PUT S' np nu rk0 wk s us U := by
  obtain ⟨p1, p2, p3, p4⟩ := h
  refine ⟨p1, p2, fun j hj => ?_, fun u hu => ⟨(p4 u hu).1, EXC_g (p4 u hu).2 hk hnp⟩⟩
  rw [hk 100 _ (by omega) (fun z => by obtain ⟨_, z1, _⟩ := z; omega), hk 101 _ (by omega) (fun z => by obtain ⟨_, z1, _⟩ := z; omega)]
  exact p3 j hj
/-- what an expression within a record is worth, in the class -/
theorem x_within (hN : 1000 < N) (he : envC S V F Cv True s (nn w)) (hX : EXC S np (k + 1) s p E) (hnp : np ≤ 151) (h97 : S.1 97 5 = nn np) : ∃ S', f_X2_within N (nn p) (nn w) S = some (rI (evl V F Cv (fl E)) S') ∧ k412 S S' := by
  obtain ⟨x1, x2, x3, x4, x5⟩ := hX
  obtain ⟨y1, y2⟩ := fl_si (E := E) (fun e he => by
    have := x3 e he
    have et : (¬ (k + 1) = 0) = True := eq_true (by omega)
    rw [et] at this
    exact this)
  exact p_within hN he y1 x1 x2 (by omega) hnp h97 (by rw [y2]; exact x4)
theorem x_eval {q : Nat} (hN : 1000 < N) (he : envR Sr V F Cv True s (nn w)) (hX : EXC S np (k + 1) s p E) (hnp : np ≤ 151) (hp : seg (Sr.1 518) q (cE E)) (hq : q + (cE E).length < 3000) : ∃ S', f_X12_eval N (nn q) (nn (cE E).length) (nn w) Sr = some (rI (evl V F Cv (fl E)) S') ∧ k524 Sr S' := by
  obtain ⟨x1, x2, x3, x4, x5⟩ := hX
  obtain ⟨y1, y2⟩ := fl_si (E := E) (fun e he => by
    have := x3 e he
    have et : (¬ (k + 1) = 0) = True := eq_true (by omega)
    rw [et] at this
    exact this)
  exact p_eval1 hN rfl rfl he y1 hp hq (by omega) (by rw [y2]; exact x4)
def vls (V : Nat → Int32) (F : Nat → Int32) (Cv : Nat → Nat → Int32) (U : List xV) (j : Nat) : Int32 := evl V F Cv (fl (U.getD j (0, 0, [])).2.2)
/-- the class finds the values of one record -/
theorem s29_l {k16 : Nat → Int64 → Int32 → xS → Option xr} {y : Int64} (hN : 1000 < N) (hi : i < 151) (hw : w < 64) (hy : bt y w = true) (hnp : np ≤ 151) : ∀ (U : List xV) (m n : Nat) (S : xS), S.1 (102 + 2 * i) 7 = nn us → S.1 (102 + 2 * i) 8 = nn (us + m + U.length) → m + U.length ≤ 6 → us + m + U.length ≤ 150 → (∀ j, j < U.length → S.1 101 (us + m + j) = nn (U.getD j (0, 0, [])).2.1) → (∀ u ∈ U, EXC S np (k + 1) s u.2.1 u.2.2) → S.1 97 5 = nn np → envC S V F Cv True s (nn w) → U.length < n →
    ∃ S', f_X2_set_29 N k16 n (102 + 2 * i) y (nn w) (nn (us + m)) S = k16 (102 + 2 * i) y (nn (w + 1)) S' ∧ kvi S S' ∧ (∀ q, ¬ q = 412 → ¬ q = 414 + w → S'.1 q = S.1 q) ∧ (∀ j, j < m → S'.1 (414 + w) j = S.1 (414 + w) j) ∧ ∀ j, j < U.length → S'.1 (414 + w) (m + j) = vls V F Cv U j := by
  have xs : xStep (102 + 2 * i) := ⟨by omega, by omega, by omega⟩
  have xw : xin (nn w) 64 := (xin_nn (by omega)).mpr hw
  have q1 : ¬ (lg_cmp ((((y : Int64).toUInt64 >>> ((nn w : Int32).toInt64.toUInt64 &&& Int64.toUInt64 63)).toInt64) &&& 1) 0 = 0) := fun z => by
    have := (bt_0 y (w := w) (by omega)).mp z
    rw [hy] at this
    cases this
  intro U
  induction U with
  | nil =>
    intro m n S h7 h8 hm hus h101 hX h97 he hn
    obtain ⟨n, rfl⟩ : ∃ k, n = k + 1 := ⟨n - 1, by omega⟩
    refine ⟨S, ?_, kvi_r S, fun _ _ _ => rfl, fun _ _ => rfl, fun j hj => absurd hj (Nat.not_lt_zero _)⟩
    rw [f_X2_set_29.eq_2, if_pos xs, h8, if_pos (by simp only [List.length_nil, Nat.add_zero] at hus ⊢; simp (disch := omega) only [nn_add, nn_addl, l_add_nn, nn_sub, nn_subl, nn_m1, nn_mull, nn_t, nn_i, l_t, nn_lt, nn_le, nn_eq, nn_ltl, l_lt_nn, nn_lel, l_le_nn, nn_eql, l_eql, nn_nm1, xin_nn, xin_l, m1_lt, m1_le, m1_p, m1_z, dlt_T, dlt_F, dle_T, dle_F, deq_T, deq_F, sI_c, sI_n, sI_J, sI_E, sJ_c, sJ_n, sJ_I, sJ_E, sE_I, sE_J, sE_E, xcI_i, xcJ_i, xcR_i, xcV_i, xcI_e, xcJ_e, xcR_e, xcV_e, if_true, if_false, ite_true, ite_false, true_and, and_true, false_and, and_false, or_true, true_or, or_false, false_or, not_true_eq_false, not_false_eq_true, eq_self, ne_eq, ↓reduceIte, Nat.reduceEqDiff, Nat.reduceLT, Nat.reduceLeDiff, Nat.reduceAdd, Nat.reduceMul, Nat.reduceSub, Int32.reduceLT, Int32.reduceLE, reduceCtorEq] <;> omega)]
    unfold f_X2_set_86
    rw [nn_addl]
  | cons u U ih =>
    intro m n S h7 h8 hm hus h101 hX h97 he hn
    obtain ⟨n, rfl⟩ : ∃ k, n = k + 1 := ⟨n - 1, by omega⟩
    simp only [List.length_cons] at hm hus h8 hn
    have e101 : S.1 101 (us + m) = nn u.2.1 := h101 0 (by simp)
    obtain ⟨S1, r1, r2⟩ := x_within (N := N) (w := w) hN he (hX u List.mem_cons_self) hnp h97
    have kc1 : kvi S (sI S1 (414 + w) m (evl V F Cv (fl u.2.2))) := kvi_t (kvi_v ⟨fun q j a _ => by rw [r2.1 q a], r2.2⟩) (kvi_s (by omega))
    have gz : (sI S1 (414 + w) m (evl V F Cv (fl u.2.2))).1 (102 + 2 * i) = S.1 (102 + 2 * i) := kvi_q kc1 (by omega) (by omega) (by omega)
    obtain ⟨S2, t1, t2, t3, t4, t5⟩ := ih (m + 1) n (sI S1 (414 + w) m (evl V F Cv (fl u.2.2))) (by rw [gz]; exact h7) (by rw [gz, h8]; congr 1; omega) (by omega) (by omega) (fun j hj => by
      rw [kvi_q kc1 (by omega) (by omega) (by omega)]
      have := h101 (j + 1) (by simp only [List.length_cons]; omega)
      rw [show us + (m + 1) + j = us + m + (j + 1) by omega, this]
      rfl) (fun x hx => EXC_g (hX x (List.mem_cons_of_mem _ hx)) (kpg_i kc1) hnp) (by rw [kvi_q kc1 (by omega) (by omega) (by omega)]; exact h97) (envC_i he kc1) (by omega)
    refine ⟨S2, ?_, kvi_t kc1 t2, fun q a1 a2 => by rw [t3 q a1 a2, sI_n a2, r2.1 q a1], fun j hj => ?_, fun j hj => ?_⟩
    · rw [f_X2_set_29.eq_2, if_pos xs, h8, if_neg (by simp (disch := omega) only [nn_add, nn_addl, l_add_nn, nn_sub, nn_subl, nn_m1, nn_mull, nn_t, nn_i, l_t, nn_lt, nn_le, nn_eq, nn_ltl, l_lt_nn, nn_lel, l_le_nn, nn_eql, l_eql, nn_nm1, xin_nn, xin_l, m1_lt, m1_le, m1_p, m1_z, dlt_T, dlt_F, dle_T, dle_F, deq_T, deq_F, sI_c, sI_n, sI_J, sI_E, sJ_c, sJ_n, sJ_I, sJ_E, sE_I, sE_J, sE_E, xcI_i, xcJ_i, xcR_i, xcV_i, xcI_e, xcJ_e, xcR_e, xcV_e, if_true, if_false, ite_true, ite_false, true_and, and_true, false_and, and_false, or_true, true_or, or_false, false_or, not_true_eq_false, not_false_eq_true, eq_self, ne_eq, ↓reduceIte, Nat.reduceEqDiff, Nat.reduceLT, Nat.reduceLeDiff, Nat.reduceAdd, Nat.reduceMul, Nat.reduceSub, Int32.reduceLT, Int32.reduceLE, reduceCtorEq] <;> omega), if_neg q1, if_pos xw, if_pos ((xin_nn (by omega)).mpr (by omega)), nn_t (a := us + m) (by omega), e101, xcI_of r1, h7, nn_sub (by omega), show us + m - us = m by omega, if_pos ((xin_nn (by omega)).mpr (by omega)), nn_t (by omega), nn_t (by omega), nn_addl]
      exact t1
    · rw [t4 j (by omega), sI_c, if_neg (by omega), r2.1 (414 + w) (by omega)]
    · cases j with
      | zero =>
        rw [t4 (m + 0) (by omega), sI_c, if_pos ⟨rfl, by omega⟩]
        rfl
      | succ j =>
        have := t5 j (by simp only [List.length_cons] at hj; omega)
        rw [show m + (j + 1) = m + 1 + j by omega, this]
        rfl
theorem s16_l {U : List xV} {y : Int64} {ch : Nat → Bool} {wk : Nat} (hN : 1000 < N) (hi : i < 151) (hnp : np ≤ 151) (hnu : nu ≤ 150) (hy : ∀ v, v < 64 → bt y v = ch v) : ∀ (e w n : Nat) (S : xS), w + e = 64 → S.1 (102 + 2 * i) 7 = nn us → S.1 (102 + 2 * i) 8 = nn (us + U.length) → PUT S np nu (k + 1) wk s us U → S.1 97 5 = nn np → (∀ v, v < 64 → envC S V (Fw v) Cv True s (nn v)) → e < n →
    ∃ S', f_X2_set_16 N n (102 + 2 * i) y (nn w) S = f_X2_set_95 N N (102 + 2 * i) y 0 S' ∧ kvi S S' ∧ (∀ v, v < w → S'.1 (414 + v) = S.1 (414 + v)) ∧ ∀ v, w ≤ v → v < 64 → ch v = true → ∀ j, j < U.length → S'.1 (414 + v) j = vls V (Fw v) Cv U j := by
  have xs : xStep (102 + 2 * i) := ⟨by omega, by omega, by omega⟩
  intro e
  induction e with
  | zero =>
    intro w n S hw h7 h8 hP h97 he hn
    obtain ⟨n, rfl⟩ : ∃ k, n = k + 1 := ⟨n - 1, by omega⟩
    exact ⟨S, by rw [f_X2_set_16.eq_2, if_pos (by simp (disch := omega) only [nn_add, nn_addl, l_add_nn, nn_sub, nn_subl, nn_m1, nn_mull, nn_t, nn_i, l_t, nn_lt, nn_le, nn_eq, nn_ltl, l_lt_nn, nn_lel, l_le_nn, nn_eql, l_eql, nn_nm1, xin_nn, xin_l, m1_lt, m1_le, m1_p, m1_z, dlt_T, dlt_F, dle_T, dle_F, deq_T, deq_F, sI_c, sI_n, sI_J, sI_E, sJ_c, sJ_n, sJ_I, sJ_E, sE_I, sE_J, sE_E, xcI_i, xcJ_i, xcR_i, xcV_i, xcI_e, xcJ_e, xcR_e, xcV_e, if_true, if_false, ite_true, ite_false, true_and, and_true, false_and, and_false, or_true, true_or, or_false, false_or, not_true_eq_false, not_false_eq_true, eq_self, ne_eq, ↓reduceIte, Nat.reduceEqDiff, Nat.reduceLT, Nat.reduceLeDiff, Nat.reduceAdd, Nat.reduceMul, Nat.reduceSub, Int32.reduceLT, Int32.reduceLE, reduceCtorEq] <;> omega)], kvi_r S, fun _ _ => rfl, fun v h1 h2 => by omega⟩
  | succ e ih =>
    intro w n S hw h7 h8 hP h97 he hn
    obtain ⟨n, rfl⟩ : ∃ k, n = k + 1 := ⟨n - 1, by omega⟩
    have hP0 := hP
    obtain ⟨p1, p2, p3, p4⟩ := hP
    have hstep : ∃ S1, f_X2_set_29 N (f_X2_set_16 N n) N (102 + 2 * i) y (nn w) (nn us) S = f_X2_set_16 N n (102 + 2 * i) y (nn (w + 1)) S1 ∧ kvi S S1 ∧ (∀ q, ¬ q = 412 → ¬ q = 414 + w → S1.1 q = S.1 q) ∧ (ch w = true → ∀ j, j < U.length → S1.1 (414 + w) j = vls V (Fw w) Cv U j) := by
      by_cases q : ch w = true
      · obtain ⟨S1, r1, r2, r3, r4, r5⟩ := s29_l (N := N) (k16 := f_X2_set_16 N n) (y := y) (i := i) (w := w) (us := us) (V := V) (F := Fw w) (Cv := Cv) hN hi (by omega) (by rw [hy w (by omega)]; exact q) hnp U 0 N S h7 h8 (by omega) (by omega) (fun j hj => (p3 j hj).2) (fun u hu => (p4 u hu).2) h97 (he w (by omega)) (by omega)
        exact ⟨S1, r1, r2, r3, fun _ j hj => by rw [← r5 j hj, Nat.zero_add]⟩
      · refine ⟨S, ?_, kvi_r S, fun _ _ _ => rfl, fun z => absurd z q⟩
        obtain ⟨M, hM⟩ : ∃ M, N = M + 1 := ⟨N - 1, by omega⟩
        have e1 : f_X2_set_29 N (f_X2_set_16 N n) (M + 1) (102 + 2 * i) y (nn w) (nn us) S = f_X2_set_16 N n (102 + 2 * i) y (nn (w + 1)) S := by
          rw [f_X2_set_29.eq_2, if_pos xs, if_pos ((bt_0 y (w := w) (by omega)).mpr (by rw [hy w (by omega)]; exact Bool.eq_false_iff.mpr q))]
          unfold f_X2_set_86
          rw [nn_addl, ite_self]
        rw [← hM] at e1
        exact e1
    obtain ⟨S1, r1, r2, r3, r4⟩ := hstep
    have gz : S1.1 (102 + 2 * i) = S.1 (102 + 2 * i) := kvi_q r2 (by omega) (by omega) (by omega)
    obtain ⟨S2, t1, t2, t3, t4⟩ := ih (w + 1) n S1 (by omega) (by rw [gz]; exact h7) (by rw [gz]; exact h8) (PUT_g hP0 (kpg_i r2) hnp) (by rw [kvi_q r2 (by omega) (by omega) (by omega)]; exact h97) (fun v hv => envC_i (he v hv) r2) (by omega)
    refine ⟨S2, ?_, kvi_t r2 t2, fun v hv => by rw [t3 v (by omega), r3 _ (by omega) (by omega)], fun v h1 h2 hc j hj => ?_⟩
    · rw [f_X2_set_16.eq_2, if_neg (by simp (disch := omega) only [nn_add, nn_addl, l_add_nn, nn_sub, nn_subl, nn_m1, nn_mull, nn_t, nn_i, l_t, nn_lt, nn_le, nn_eq, nn_ltl, l_lt_nn, nn_lel, l_le_nn, nn_eql, l_eql, nn_nm1, xin_nn, xin_l, m1_lt, m1_le, m1_p, m1_z, dlt_T, dlt_F, dle_T, dle_F, deq_T, deq_F, sI_c, sI_n, sI_J, sI_E, sJ_c, sJ_n, sJ_I, sJ_E, sE_I, sE_J, sE_E, xcI_i, xcJ_i, xcR_i, xcV_i, xcI_e, xcJ_e, xcR_e, xcV_e, if_true, if_false, ite_true, ite_false, true_and, and_true, false_and, and_false, or_true, true_or, or_false, false_or, not_true_eq_false, not_false_eq_true, eq_self, ne_eq, ↓reduceIte, Nat.reduceEqDiff, Nat.reduceLT, Nat.reduceLeDiff, Nat.reduceAdd, Nat.reduceMul, Nat.reduceSub, Int32.reduceLT, Int32.reduceLE, reduceCtorEq] <;> omega), if_pos xs, h7, r1]
      exact t1
    · by_cases z : v = w
      · subst z
        rw [t3 v (by omega)]
        exact r4 hc j hj
      · exact t4 v (by omega) h2 hc j hj
theorem s95_l {U : List xV} {y : Int64} {ch : Nat → Bool} {wk : Nat} (hN : 1000 < N) (hi : i < 151) (hnp : np ≤ 151) (hnu : nu ≤ 150) (hk : k < 7) (hwk : wk ≤ 6) (hy : ∀ v, v < 64 → bt y v = ch v) : ∀ (e w n : Nat) (S : xS), w + e = 64 → S.1 (102 + 2 * i) 7 = nn us → S.1 (102 + 2 * i) 8 = nn (us + U.length) → S.1 (102 + 2 * i) 1 = nn (k + 1) → PUT S np nu (k + 1) wk s us U → e < n →
    ∃ S', f_X2_set_95 N n (102 + 2 * i) y (nn w) S = some (rV S') ∧ (∀ q, (q < 32 ∨ 95 < q) → S'.1 q = S.1 q) ∧ S'.2 = S.2 ∧ (∀ v, v < w → S'.1 (32 + v) = S.1 (32 + v)) ∧ ∀ v, w ≤ v → v < 64 → S'.1 (32 + v) = if ch v = true then pfl (S.1 (414 + v)) (S.1 (20 + (k + 1))) (U.map (fun u => u.1)) 0 (S.1 (32 + v)) else S.1 (32 + v) := by
  intro e
  induction e with
  | zero =>
    intro w n S hw h7 h8 h1 hP hn
    obtain ⟨n, rfl⟩ : ∃ k, n = k + 1 := ⟨n - 1, by omega⟩
    exact ⟨S, by rw [f_X2_set_95.eq_2, if_pos (by simp (disch := omega) only [nn_add, nn_addl, l_add_nn, nn_sub, nn_subl, nn_m1, nn_mull, nn_t, nn_i, l_t, nn_lt, nn_le, nn_eq, nn_ltl, l_lt_nn, nn_lel, l_le_nn, nn_eql, l_eql, nn_nm1, xin_nn, xin_l, m1_lt, m1_le, m1_p, m1_z, dlt_T, dlt_F, dle_T, dle_F, deq_T, deq_F, sI_c, sI_n, sI_J, sI_E, sJ_c, sJ_n, sJ_I, sJ_E, sE_I, sE_J, sE_E, xcI_i, xcJ_i, xcR_i, xcV_i, xcI_e, xcJ_e, xcR_e, xcV_e, if_true, if_false, ite_true, ite_false, true_and, and_true, false_and, and_false, or_true, true_or, or_false, false_or, not_true_eq_false, not_false_eq_true, eq_self, ne_eq, ↓reduceIte, Nat.reduceEqDiff, Nat.reduceLT, Nat.reduceLeDiff, Nat.reduceAdd, Nat.reduceMul, Nat.reduceSub, Int32.reduceLT, Int32.reduceLE, reduceCtorEq] <;> omega)], fun _ _ => rfl, rfl, fun _ _ => rfl, fun v h1 h2 => by omega⟩
  | succ e ih =>
    intro w n S hw h7 h8 h1 hP hn
    obtain ⟨n, rfl⟩ : ∃ k, n = k + 1 := ⟨n - 1, by omega⟩
    rw [f_X2_set_95.eq_2, if_neg (by simp (disch := omega) only [nn_add, nn_addl, l_add_nn, nn_sub, nn_subl, nn_m1, nn_mull, nn_t, nn_i, l_t, nn_lt, nn_le, nn_eq, nn_ltl, l_lt_nn, nn_lel, l_le_nn, nn_eql, l_eql, nn_nm1, xin_nn, xin_l, m1_lt, m1_le, m1_p, m1_z, dlt_T, dlt_F, dle_T, dle_F, deq_T, deq_F, sI_c, sI_n, sI_J, sI_E, sJ_c, sJ_n, sJ_I, sJ_E, sE_I, sE_J, sE_E, xcI_i, xcJ_i, xcR_i, xcV_i, xcI_e, xcJ_e, xcR_e, xcV_e, if_true, if_false, ite_true, ite_false, true_and, and_true, false_and, and_false, or_true, true_or, or_false, false_or, not_true_eq_false, not_false_eq_true, eq_self, ne_eq, ↓reduceIte, Nat.reduceEqDiff, Nat.reduceLT, Nat.reduceLeDiff, Nat.reduceAdd, Nat.reduceMul, Nat.reduceSub, Int32.reduceLT, Int32.reduceLE, reduceCtorEq] <;> omega)]
    unfold f_X2_set_127
    rw [nn_addl]
    by_cases q : ch w = true
    · obtain ⟨S1, r1, r2, r3, r4⟩ := p_put (N := N) (i := i) (us := us) (r := w) (w := w) (k := k) hN hi (by omega) (by omega) hk hwk hnu h8 h7 h1 hP
      have g : ∀ q, (q < 32 ∨ 95 < q) → S1.1 q = S.1 q := fun q hq => r2 q (by omega)
      obtain ⟨S2, t1, t2, t3, t4, t5⟩ := ih (w + 1) n S1 (by omega) (by rw [g _ (by omega)]; exact h7) (by rw [g _ (by omega)]; exact h8) (by rw [g _ (by omega)]; exact h1) (PUT_g hP (fun q j hq _ => by rw [g q (by omega)]) hnp) (by omega)
      refine ⟨S2, ?_, fun q hq => by rw [t2 q hq, g q hq], t3.trans r3, fun v hv => by rw [t4 v (by omega), r2 _ (by omega)], fun v v1 v2 => ?_⟩
      · rw [if_neg (fun z => by
          have := (bt_0 y (w := w) (by omega)).mp z
          rw [hy w (by omega), q] at this
          cases this), if_pos ((xin_nn (by omega)).mpr (by omega)), nn_t (by omega), xcV_of r1]
        exact t1
      · by_cases z : v = w
        · subst z
          rw [t4 v (by omega), if_pos q, r4]
        · rw [t5 v (by omega) v2, r2 (414 + v) (by omega), r2 (20 + (k + 1)) (by omega), r2 (32 + v) (by omega)]
    · rw [if_pos ((bt_0 y (w := w) (by omega)).mpr (by rw [hy w (by omega)]; exact Bool.eq_false_iff.mpr q))]
      obtain ⟨S2, t1, t2, t3, t4, t5⟩ := ih (w + 1) n S (by omega) h7 h8 h1 hP (by omega)
      refine ⟨S2, t1, t2, t3, fun v hv => t4 v (by omega), fun v v1 v2 => ?_⟩
      by_cases z : v = w
      · subst z
        rw [t4 v (by omega), if_neg q]
      · exact t5 v (by omega) v2
/-- the reference: the values of one record -/
theorem s133_l {k76 : Int32 → Int32 → Int32 → Int32 → Int32 → xS → Option xr} {x3 x5 : Int32} {M : Nat → Int32} (hN : 1000 < N) (hw : w < 64) (hk : k < 7) (hnp : np ≤ 151) (hU6 : nU ≤ 6) : ∀ (U : List xV) (m q n : Nat) (S : xS) (vals : Nat → Int32), m + U.length = nU → seg (S.1 518) q (cdp U) → q + (cdp U).length < 2900 → (∀ u ∈ U, u.1 < 6 ∧ (∃ b, 1 ≤ b ∧ b ≤ 32 ∧ M u.1 = (ll (2 ^ b - 1)).toInt32 ∧ S.1 508 (6 * k + u.1) = nn b) ∧ EXC Sc np (k + 1) s u.2.1 u.2.2) → envR S V F Cv True s (nn w) → S.1 531 w = 1 → (∀ j, j < U.length → vals (m + j) = vls V F Cv U j) → U.length < n →
    ∃ S', f_X12_setAll_133 N k76 n (nn k) x3 (nn nU) x5 (nn w) (nn q) (nn m) S = k76 (nn k) x3 (nn nU) x5 (nn (w + 1)) S' ∧ (∀ q, ¬ q = 524 → ¬ q = 530 → S'.1 q = S.1 q) ∧ S'.2 = S.2 ∧ (∀ p, ¬ (6 * w ≤ p ∧ p < 6 * w + 6) → S'.1 530 p = S.1 530 p) ∧ ∀ g, S'.1 530 (6 * w + g) = pfl vals M (U.map (fun u => u.1)) m (fun g => S.1 530 (6 * w + g)) g := by
  have xw : xin (nn w) 64 := (xin_nn (by omega)).mpr hw
  have ew : (nn w).toNatClampNeg = w := nn_t (by omega)
  intro U
  induction U with
  | nil =>
    intro m q n S vals hm hs hq hX he h531 hv hn
    obtain ⟨n, rfl⟩ : ∃ k, n = k + 1 := ⟨n - 1, by omega⟩
    refine ⟨S, ?_, fun _ _ _ => rfl, rfl, fun _ _ => rfl, fun _ => rfl⟩
    simp only [List.length_nil, Nat.add_zero] at hm
    rw [f_X12_setAll_133.eq_2, if_pos (by simp (disch := omega) only [nn_add, nn_addl, l_add_nn, nn_sub, nn_subl, nn_m1, nn_mull, nn_t, nn_i, l_t, nn_lt, nn_le, nn_eq, nn_ltl, l_lt_nn, nn_lel, l_le_nn, nn_eql, l_eql, nn_nm1, xin_nn, xin_l, m1_lt, m1_le, m1_p, m1_z, dlt_T, dlt_F, dle_T, dle_F, deq_T, deq_F, sI_c, sI_n, sI_J, sI_E, sJ_c, sJ_n, sJ_I, sJ_E, sE_I, sE_J, sE_E, xcI_i, xcJ_i, xcR_i, xcV_i, xcI_e, xcJ_e, xcR_e, xcV_e, if_true, if_false, ite_true, ite_false, true_and, and_true, false_and, and_false, or_true, true_or, or_false, false_or, not_true_eq_false, not_false_eq_true, eq_self, ne_eq, ↓reduceIte, Nat.reduceEqDiff, Nat.reduceLT, Nat.reduceLeDiff, Nat.reduceAdd, Nat.reduceMul, Nat.reduceSub, Int32.reduceLT, Int32.reduceLE, reduceCtorEq] <;> omega)]
    unfold f_X12_setAll_221
    rw [nn_addl]
  | cons u U ih =>
    intro m q n S vals hm hs hq hX he h531 hv hn
    obtain ⟨n, rfl⟩ : ∃ k, n = k + 1 := ⟨n - 1, by omega⟩
    simp only [List.length_cons] at hm hn
    rw [cdp_cs] at hs hq
    simp only [List.length_append, List.length_cons] at hq
    obtain ⟨s1, s2⟩ := seg_app.mp hs
    obtain ⟨c0, s3⟩ := seg_hd s1
    obtain ⟨c1, s4⟩ := seg_hd s3
    obtain ⟨f6, ⟨bb, b1, b2, b3, b4⟩, hXu⟩ := hX u List.mem_cons_self
    obtain ⟨S1, r1, r2⟩ := x_eval (N := N) (q := q + 1 + 1) hN he hXu hnp s4 (by omega)
    have v0 : vals m = evl V F Cv (fl u.2.2) := hv 0 (by simp)
    have kr1 : kmi S (sI S1 530 (6 * w + u.1) (evl V F Cv (fl u.2.2) &&& M u.1)) := kmi_t (kmi_5 r2) (kmi_s (by omega))
    have g : ∀ q, ¬ q = 524 → ¬ q = 530 → (sI S1 530 (6 * w + u.1) (evl V F Cv (fl u.2.2) &&& M u.1)).1 q = S.1 q := fun q a b => by rw [sI_n b, r2.1 q a]
    simp only [List.length_cons] at s2
    obtain ⟨S2, t1, t2, t3, t4, t5⟩ := ih (m + 1) (q + ((cE u.2.2).length + 1 + 1)) n (sI S1 530 (6 * w + u.1) (evl V F Cv (fl u.2.2) &&& M u.1)) vals (by omega) (by rw [g 518 (by omega) (by omega)]; exact s2) (by omega) (fun x hx => by
      rw [g 508 (by omega) (by omega)]
      exact hX x (List.mem_cons_of_mem _ hx)) (envR_i he kr1) (by rw [g 531 (by omega) (by omega)]; exact h531) (fun j hj => by
      have := hv (j + 1) (by simp only [List.length_cons]; omega)
      rw [show m + 1 + j = m + (j + 1) by omega, this]
      rfl) (by omega)
    refine ⟨S2, ?_, fun q a b => by rw [t2 q a b, g q a b], t3.trans r2.2, fun p hp => by rw [t4 p hp, sI_c, if_neg (by omega), r2.1 530 (by omega)], fun g' => ?_⟩
    · have c1' : S.1 518 (q + 1) = nn (cE u.2.2).length := c1
      have r1' : f_X12_eval N (nn (q + 2)) (nn (cE u.2.2).length) (nn w) S = some (rI (evl V F Cv (fl u.2.2)) S1) := r1
      have b4' : S1.1 508 (6 * k + u.1) = nn bb := by rw [r2.1 508 (by omega)]; exact b4
      rw [f_X12_setAll_133.eq_2, if_neg (by simp (disch := omega) only [nn_add, nn_addl, l_add_nn, nn_sub, nn_subl, nn_m1, nn_mull, nn_t, nn_i, l_t, nn_lt, nn_le, nn_eq, nn_ltl, l_lt_nn, nn_lel, l_le_nn, nn_eql, l_eql, nn_nm1, xin_nn, xin_l, m1_lt, m1_le, m1_p, m1_z, dlt_T, dlt_F, dle_T, dle_F, deq_T, deq_F, sI_c, sI_n, sI_J, sI_E, sJ_c, sJ_n, sJ_I, sJ_E, sE_I, sE_J, sE_E, xcI_i, xcJ_i, xcR_i, xcV_i, xcI_e, xcJ_e, xcR_e, xcV_e, if_true, if_false, ite_true, ite_false, true_and, and_true, false_and, and_false, or_true, true_or, or_false, false_or, not_true_eq_false, not_false_eq_true, eq_self, ne_eq, ↓reduceIte, Nat.reduceEqDiff, Nat.reduceLT, Nat.reduceLeDiff, Nat.reduceAdd, Nat.reduceMul, Nat.reduceSub, Int32.reduceLT, Int32.reduceLE, reduceCtorEq] <;> omega), if_pos xw, ew, h531, if_neg (by decide), if_pos ((xin_nn (by omega)).mpr (by omega)), nn_addl, nn_addl, if_pos ((xin_nn (by omega)).mpr (by omega)), nn_t (a := q + 1) (by omega), c1', nn_t (a := q) (by omega), c0, xcI_of r1', xcI_of (p_kut b1 b2 hk f6 b4'), nn_mull, nn_add, if_pos ((xin_nn (by omega)).mpr (by omega)), nn_t (a := 6 * w + u.1) (by omega), r2.1 518 (by omega), c1', nn_addl, ← b3]
      have e7 : nn q + (2 + nn (cE u.2.2).length) = nn (q + ((cE u.2.2).length + 1 + 1)) := by
        rw [l_add_nn, nn_add]
        congr 1
        omega
      rw [e7]
      exact t1
    · rw [t5 g']
      show pfl vals M (U.map (fun u => u.1)) (m + 1) _ g' = pfl vals M (U.map (fun u => u.1)) (m + 1) _ g'
      congr 1
      funext g
      rw [sI_c, r2.1 530 (by omega), v0]
      by_cases z : g = u.1
      · rw [if_pos ⟨rfl, by omega⟩, if_pos z]
      · rw [if_neg (by omega), if_neg z]
theorem s91_l {k76 : Int32 → Int32 → Int32 → Int32 → Int32 → xS → Option xr} {x2 x3 x4 x5 x7 : Int32} (hw : w < 64) : ∀ (e j n : Nat) (S : xS), j + e = 6 → e < n → ∃ S', f_X12_setAll_91 N k76 n x2 x3 x4 x5 (nn w) x7 (nn j) S = f_X12_setAll_133 N k76 N x2 x3 x4 x5 (nn w) x7 0 S' ∧ (∀ q, ¬ q = 530 → S'.1 q = S.1 q) ∧ S'.2 = S.2 ∧ ∀ p, S'.1 530 p = if 6 * w + j ≤ p ∧ p < 6 * w + 6 then S.1 512 p else S.1 530 p := by
  intro e
  induction e with
  | zero =>
    intro j n S hj hn
    obtain ⟨n, rfl⟩ : ∃ k, n = k + 1 := ⟨n - 1, by omega⟩
    exact ⟨S, by rw [f_X12_setAll_91.eq_2, if_pos (by simp (disch := omega) only [nn_add, nn_addl, l_add_nn, nn_sub, nn_subl, nn_m1, nn_mull, nn_t, nn_i, l_t, nn_lt, nn_le, nn_eq, nn_ltl, l_lt_nn, nn_lel, l_le_nn, nn_eql, l_eql, nn_nm1, xin_nn, xin_l, m1_lt, m1_le, m1_p, m1_z, dlt_T, dlt_F, dle_T, dle_F, deq_T, deq_F, sI_c, sI_n, sI_J, sI_E, sJ_c, sJ_n, sJ_I, sJ_E, sE_I, sE_J, sE_E, xcI_i, xcJ_i, xcR_i, xcV_i, xcI_e, xcJ_e, xcR_e, xcV_e, if_true, if_false, ite_true, ite_false, true_and, and_true, false_and, and_false, or_true, true_or, or_false, false_or, not_true_eq_false, not_false_eq_true, eq_self, ne_eq, ↓reduceIte, Nat.reduceEqDiff, Nat.reduceLT, Nat.reduceLeDiff, Nat.reduceAdd, Nat.reduceMul, Nat.reduceSub, Int32.reduceLT, Int32.reduceLE, reduceCtorEq] <;> omega)], fun _ _ => rfl, rfl, fun p => by rw [if_neg (by omega)]⟩
  | succ e ih =>
    intro j n S hj hn
    obtain ⟨n, rfl⟩ : ∃ k, n = k + 1 := ⟨n - 1, by omega⟩
    obtain ⟨S', r1, r2, r3, r4⟩ := ih (j + 1) n (sI S 530 (6 * w + j) (S.1 512 (6 * w + j))) (by omega) (by omega)
    refine ⟨S', ?_, fun q hq => by rw [r2 q hq, sI_n hq], r3, fun p => ?_⟩
    · rw [f_X12_setAll_91.eq_2, if_neg (by simp (disch := omega) only [nn_add, nn_addl, l_add_nn, nn_sub, nn_subl, nn_m1, nn_mull, nn_t, nn_i, l_t, nn_lt, nn_le, nn_eq, nn_ltl, l_lt_nn, nn_lel, l_le_nn, nn_eql, l_eql, nn_nm1, xin_nn, xin_l, m1_lt, m1_le, m1_p, m1_z, dlt_T, dlt_F, dle_T, dle_F, deq_T, deq_F, sI_c, sI_n, sI_J, sI_E, sJ_c, sJ_n, sJ_I, sJ_E, sE_I, sE_J, sE_E, xcI_i, xcJ_i, xcR_i, xcV_i, xcI_e, xcJ_e, xcR_e, xcV_e, if_true, if_false, ite_true, ite_false, true_and, and_true, false_and, and_false, or_true, true_or, or_false, false_or, not_true_eq_false, not_false_eq_true, eq_self, ne_eq, ↓reduceIte, Nat.reduceEqDiff, Nat.reduceLT, Nat.reduceLeDiff, Nat.reduceAdd, Nat.reduceMul, Nat.reduceSub, Int32.reduceLT, Int32.reduceLE, reduceCtorEq] <;> omega), nn_mull, nn_add, if_pos ((xin_nn (by omega)).mpr (by omega)), nn_t (by omega), nn_addl]
      exact r1
    · rw [r4 p, sI_n (q' := 512) (by omega), sI_c]
      by_cases z : p = 6 * w + j
      · rw [if_neg (by omega), if_pos ⟨rfl, z⟩, if_pos (by omega), z]
      · rw [if_neg (c := 530 = 530 ∧ p = 6 * w + j) (by omega)]
        by_cases z2 : 6 * w + (j + 1) ≤ p ∧ p < 6 * w + 6
        · rw [if_pos z2, if_pos (by omega)]
        · rw [if_neg z2, if_neg (by omega)]
theorem s230_l {x5 : Int32} : ∀ (e p n : Nat) (S : xS), p + e = 384 → e < n → ∃ S', f_X12_setAll_230 N n x5 (nn p) S = some (rI x5 S') ∧ (∀ q, ¬ q = 512 → S'.1 q = S.1 q) ∧ S'.2 = S.2 ∧ ∀ j, S'.1 512 j = if p ≤ j ∧ j < 384 then S.1 530 j else S.1 512 j := by
  intro e
  induction e with
  | zero =>
    intro p n S hp hn
    obtain ⟨n, rfl⟩ : ∃ k, n = k + 1 := ⟨n - 1, by omega⟩
    exact ⟨S, by rw [f_X12_setAll_230.eq_2, if_pos (by simp (disch := omega) only [nn_add, nn_addl, l_add_nn, nn_sub, nn_subl, nn_m1, nn_mull, nn_t, nn_i, l_t, nn_lt, nn_le, nn_eq, nn_ltl, l_lt_nn, nn_lel, l_le_nn, nn_eql, l_eql, nn_nm1, xin_nn, xin_l, m1_lt, m1_le, m1_p, m1_z, dlt_T, dlt_F, dle_T, dle_F, deq_T, deq_F, sI_c, sI_n, sI_J, sI_E, sJ_c, sJ_n, sJ_I, sJ_E, sE_I, sE_J, sE_E, xcI_i, xcJ_i, xcR_i, xcV_i, xcI_e, xcJ_e, xcR_e, xcV_e, if_true, if_false, ite_true, ite_false, true_and, and_true, false_and, and_false, or_true, true_or, or_false, false_or, not_true_eq_false, not_false_eq_true, eq_self, ne_eq, ↓reduceIte, Nat.reduceEqDiff, Nat.reduceLT, Nat.reduceLeDiff, Nat.reduceAdd, Nat.reduceMul, Nat.reduceSub, Int32.reduceLT, Int32.reduceLE, reduceCtorEq] <;> omega)], fun _ _ => rfl, rfl, fun j => by rw [if_neg (by omega)]⟩
  | succ e ih =>
    intro p n S hp hn
    obtain ⟨n, rfl⟩ : ∃ k, n = k + 1 := ⟨n - 1, by omega⟩
    obtain ⟨S', r1, r2, r3, r4⟩ := ih (p + 1) n (sI S 512 p (S.1 530 p)) (by omega) (by omega)
    refine ⟨S', ?_, fun q hq => by rw [r2 q hq, sI_n hq], r3, fun j => ?_⟩
    · rw [f_X12_setAll_230.eq_2, if_neg (by simp (disch := omega) only [nn_add, nn_addl, l_add_nn, nn_sub, nn_subl, nn_m1, nn_mull, nn_t, nn_i, l_t, nn_lt, nn_le, nn_eq, nn_ltl, l_lt_nn, nn_lel, l_le_nn, nn_eql, l_eql, nn_nm1, xin_nn, xin_l, m1_lt, m1_le, m1_p, m1_z, dlt_T, dlt_F, dle_T, dle_F, deq_T, deq_F, sI_c, sI_n, sI_J, sI_E, sJ_c, sJ_n, sJ_I, sJ_E, sE_I, sE_J, sE_E, xcI_i, xcJ_i, xcR_i, xcV_i, xcI_e, xcJ_e, xcR_e, xcV_e, if_true, if_false, ite_true, ite_false, true_and, and_true, false_and, and_false, or_true, true_or, or_false, false_or, not_true_eq_false, not_false_eq_true, eq_self, ne_eq, ↓reduceIte, Nat.reduceEqDiff, Nat.reduceLT, Nat.reduceLeDiff, Nat.reduceAdd, Nat.reduceMul, Nat.reduceSub, Int32.reduceLT, Int32.reduceLE, reduceCtorEq] <;> omega), if_pos ((xin_nn (by omega)).mpr (by omega)), nn_t (by omega), nn_addl]
      exact r1
    · rw [r4 j, sI_n (q' := 530) (by omega), sI_c]
      by_cases z : j = p
      · rw [if_neg (by omega), if_pos ⟨rfl, z⟩, if_pos (by omega), z]
      · rw [if_neg (c := 512 = 512 ∧ j = p) (by omega)]
        by_cases z2 : p + 1 ≤ j ∧ j < 384
        · rw [if_pos z2, if_pos (by omega)]
        · rw [if_neg z2, if_neg (by omega)]
theorem s44_l {x3 : Int32} (hU6 : nU ≤ 6) : ∀ (U : List xV) (m q n : Nat), m + U.length = nU → seg (S.1 518) q (cdp U) → q + (cdp U).length < 2900 → U.length < n → f_X12_setAll_44 N n (nn k) x3 (nn nU) (nn q) (nn m) S = f_X12_setAll_76 N N (nn k) x3 (nn nU) (nn (q + (cdp U).length)) 0 S := by
  intro U
  induction U with
  | nil =>
    intro m q n hm hs hq hn
    obtain ⟨n, rfl⟩ : ∃ k, n = k + 1 := ⟨n - 1, by omega⟩
    simp only [List.length_nil, Nat.add_zero] at hm
    rw [f_X12_setAll_44.eq_2, if_pos (by simp (disch := omega) only [nn_add, nn_addl, l_add_nn, nn_sub, nn_subl, nn_m1, nn_mull, nn_t, nn_i, l_t, nn_lt, nn_le, nn_eq, nn_ltl, l_lt_nn, nn_lel, l_le_nn, nn_eql, l_eql, nn_nm1, xin_nn, xin_l, m1_lt, m1_le, m1_p, m1_z, dlt_T, dlt_F, dle_T, dle_F, deq_T, deq_F, sI_c, sI_n, sI_J, sI_E, sJ_c, sJ_n, sJ_I, sJ_E, sE_I, sE_J, sE_E, xcI_i, xcJ_i, xcR_i, xcV_i, xcI_e, xcJ_e, xcR_e, xcV_e, if_true, if_false, ite_true, ite_false, true_and, and_true, false_and, and_false, or_true, true_or, or_false, false_or, not_true_eq_false, not_false_eq_true, eq_self, ne_eq, ↓reduceIte, Nat.reduceEqDiff, Nat.reduceLT, Nat.reduceLeDiff, Nat.reduceAdd, Nat.reduceMul, Nat.reduceSub, Int32.reduceLT, Int32.reduceLE, reduceCtorEq] <;> omega)]
    rfl
  | cons u U ih =>
    intro m q n hm hs hq hn
    obtain ⟨n, rfl⟩ : ∃ k, n = k + 1 := ⟨n - 1, by omega⟩
    simp only [List.length_cons] at hm hn
    rw [cdp_cs] at hs hq ⊢
    simp only [List.length_append, List.length_cons] at hq ⊢
    obtain ⟨s1, s2⟩ := seg_app.mp hs
    obtain ⟨c0, s3⟩ := seg_hd s1
    obtain ⟨c1, s4⟩ := seg_hd s3
    simp only [List.length_cons] at s2
    have e7 : nn q + (2 + nn (cE u.2.2).length) = nn (q + ((cE u.2.2).length + 1 + 1)) := by
      rw [l_add_nn, nn_add]
      congr 1
      omega
    have := ih (m + 1) (q + ((cE u.2.2).length + 1 + 1)) n (by omega) s2 (by omega) (by omega)
    rw [f_X12_setAll_44.eq_2, if_neg (by simp (disch := omega) only [nn_add, nn_addl, l_add_nn, nn_sub, nn_subl, nn_m1, nn_mull, nn_t, nn_i, l_t, nn_lt, nn_le, nn_eq, nn_ltl, l_lt_nn, nn_lel, l_le_nn, nn_eql, l_eql, nn_nm1, xin_nn, xin_l, m1_lt, m1_le, m1_p, m1_z, dlt_T, dlt_F, dle_T, dle_F, deq_T, deq_F, sI_c, sI_n, sI_J, sI_E, sJ_c, sJ_n, sJ_I, sJ_E, sE_I, sE_J, sE_E, xcI_i, xcJ_i, xcR_i, xcV_i, xcI_e, xcJ_e, xcR_e, xcV_e, if_true, if_false, ite_true, ite_false, true_and, and_true, false_and, and_false, or_true, true_or, or_false, false_or, not_true_eq_false, not_false_eq_true, eq_self, ne_eq, ↓reduceIte, Nat.reduceEqDiff, Nat.reduceLT, Nat.reduceLeDiff, Nat.reduceAdd, Nat.reduceMul, Nat.reduceSub, Int32.reduceLT, Int32.reduceLE, reduceCtorEq] <;> omega), nn_addl, if_pos ((xin_nn (by omega)).mpr (by omega)), nn_t (by omega), c1, e7, nn_addl, this]
    congr 2
    omega
theorem s76_l {U : List xV} {M : Nat → Int32} {ch : Nat → Bool} {x5 : Int32} {x3 : Nat} (hN : 1000 < N) (hk : k < 7) (hnp : np ≤ 151) (hU6 : U.length ≤ 6) (hx3 : x3 + 1 + (cdp U).length < 2900) : ∀ (e w n : Nat) (S : xS), w + e = 64 → seg (S.1 518) (x3 + 1) (cdp U) → (∀ u ∈ U, u.1 < 6 ∧ (∃ b, 1 ≤ b ∧ b ≤ 32 ∧ M u.1 = (ll (2 ^ b - 1)).toInt32 ∧ S.1 508 (6 * k + u.1) = nn b) ∧ EXC Sc np (k + 1) s u.2.1 u.2.2) → (∀ v, v < 64 → ch v = true → envR S V (Fw v) Cv True s (nn v)) → (∀ v, v < 64 → S.1 531 v = if ch v = true then 1 else 0) → e < n →
    ∃ S', f_X12_setAll_76 N n (nn k) (nn x3) (nn U.length) x5 (nn w) S = f_X12_setAll_230 N N x5 0 S' ∧ (∀ q, ¬ q = 524 → ¬ q = 530 → S'.1 q = S.1 q) ∧ S'.2 = S.2 ∧ (∀ p, p < 6 * w → S'.1 530 p = S.1 530 p) ∧ ∀ v, w ≤ v → v < 64 → ∀ g, g < 6 → S'.1 530 (6 * v + g) = if ch v = true then pfl (vls V (Fw v) Cv U) M (U.map (fun u => u.1)) 0 (fun g => S.1 512 (6 * v + g)) g else S.1 512 (6 * v + g) := by
  intro e
  induction e with
  | zero =>
    intro w n S hw hs hX he h531 hn
    obtain ⟨n, rfl⟩ : ∃ k, n = k + 1 := ⟨n - 1, by omega⟩
    exact ⟨S, by rw [f_X12_setAll_76.eq_2, if_pos (by simp (disch := omega) only [nn_add, nn_addl, l_add_nn, nn_sub, nn_subl, nn_m1, nn_mull, nn_t, nn_i, l_t, nn_lt, nn_le, nn_eq, nn_ltl, l_lt_nn, nn_lel, l_le_nn, nn_eql, l_eql, nn_nm1, xin_nn, xin_l, m1_lt, m1_le, m1_p, m1_z, dlt_T, dlt_F, dle_T, dle_F, deq_T, deq_F, sI_c, sI_n, sI_J, sI_E, sJ_c, sJ_n, sJ_I, sJ_E, sE_I, sE_J, sE_E, xcI_i, xcJ_i, xcR_i, xcV_i, xcI_e, xcJ_e, xcR_e, xcV_e, if_true, if_false, ite_true, ite_false, true_and, and_true, false_and, and_false, or_true, true_or, or_false, false_or, not_true_eq_false, not_false_eq_true, eq_self, ne_eq, ↓reduceIte, Nat.reduceEqDiff, Nat.reduceLT, Nat.reduceLeDiff, Nat.reduceAdd, Nat.reduceMul, Nat.reduceSub, Int32.reduceLT, Int32.reduceLE, reduceCtorEq] <;> omega)], fun _ _ _ => rfl, rfl, fun _ _ => rfl, fun v h1 h2 => by omega⟩
  | succ e ih =>
    intro w n S hw hs hX he h531 hn
    obtain ⟨n, rfl⟩ : ∃ k, n = k + 1 := ⟨n - 1, by omega⟩
    obtain ⟨S1, a1, a2, a3, a4⟩ := s91_l (N := N) (k76 := f_X12_setAll_76 N n) (x2 := nn k) (x3 := nn x3) (x4 := nn U.length) (x5 := x5) (x7 := nn (x3 + 1)) (w := w) (by omega) 6 0 N S (by omega) (by omega)
    have kr1 : kmi S S1 := ⟨fun q j h1 h2 => by rw [a2 q (by omega)], a3⟩
    have hstep : ∃ S2, f_X12_setAll_133 N (f_X12_setAll_76 N n) N (nn k) (nn x3) (nn U.length) x5 (nn w) (nn (x3 + 1)) 0 S1 = f_X12_setAll_76 N n (nn k) (nn x3) (nn U.length) x5 (nn (w + 1)) S2 ∧ (∀ q, ¬ q = 524 → ¬ q = 530 → S2.1 q = S1.1 q) ∧ S2.2 = S1.2 ∧ (∀ p, ¬ (6 * w ≤ p ∧ p < 6 * w + 6) → S2.1 530 p = S1.1 530 p) ∧ ∀ g, S2.1 530 (6 * w + g) = if ch w = true then pfl (vls V (Fw w) Cv U) M (U.map (fun u => u.1)) 0 (fun g => S1.1 530 (6 * w + g)) g else S1.1 530 (6 * w + g) := by
      by_cases q : ch w = true
      · obtain ⟨S2, b1, b2, b3, b4, b5⟩ := s133_l (N := N) (k76 := f_X12_setAll_76 N n) (x3 := nn x3) (x5 := x5) (M := M) (w := w) (k := k) (nU := U.length) (V := V) (F := Fw w) (Cv := Cv) hN (by omega) hk hnp hU6 U 0 (x3 + 1) N S1 (vls V (Fw w) Cv U) (by omega) (by rw [a2 518 (by omega)]; exact hs) (by omega) (fun u hu => by
          rw [a2 508 (by omega)]
          exact hX u hu) (envR_i (he w (by omega) q) kr1) (by rw [a2 531 (by omega), h531 w (by omega), if_pos q]) (fun j hj => by rw [Nat.zero_add]) (by omega)
        exact ⟨S2, b1, b2, b3, b4, fun g => by rw [if_pos q]; exact b5 g⟩
      · refine ⟨S1, ?_, fun _ _ _ => rfl, rfl, fun _ _ => rfl, fun g => by rw [if_neg q]⟩
        obtain ⟨M', hM⟩ : ∃ M, N = M + 1 := ⟨N - 1, by omega⟩
        have e1 : f_X12_setAll_133 N (f_X12_setAll_76 N n) (M' + 1) (nn k) (nn x3) (nn U.length) x5 (nn w) (nn (x3 + 1)) 0 S1 = f_X12_setAll_76 N n (nn k) (nn x3) (nn U.length) x5 (nn (w + 1)) S1 := by
          rw [f_X12_setAll_133.eq_2, if_pos ((xin_nn (by omega)).mpr (by omega)), nn_t (by omega), a2 531 (by omega), h531 w (by omega), if_neg q, if_pos rfl, ite_self]
          unfold f_X12_setAll_221
          rw [nn_addl]
        rw [← hM] at e1
        exact e1
    obtain ⟨S2, b1, b2, b3, b4, b5⟩ := hstep
    have g : ∀ q, ¬ q = 524 → ¬ q = 530 → S2.1 q = S.1 q := fun q x y => by rw [b2 q x y, a2 q y]
    have kr2 : kmi S S2 := ⟨fun q j h1 h2 => by rw [g q (by omega) (by omega)], b3.trans a3⟩
    obtain ⟨S3, t1, t2, t3, t4, t5⟩ := ih (w + 1) n S2 (by omega) (by rw [g 518 (by omega) (by omega)]; exact hs) (fun u hu => by
      rw [g 508 (by omega) (by omega)]
      exact hX u hu) (fun v hv hc => envR_i (he v hv hc) kr2) (fun v hv => by rw [g 531 (by omega) (by omega)]; exact h531 v hv) (by omega)
    refine ⟨S3, ?_, fun q x y => by rw [t2 q x y, g q x y], t3.trans (b3.trans a3), fun p hp => by rw [t4 p (by omega), b4 p (by omega), a4 p, if_neg (by omega)], fun v v1 v2 g' hg => ?_⟩
    · rw [f_X12_setAll_76.eq_2, if_neg (by simp (disch := omega) only [nn_add, nn_addl, l_add_nn, nn_sub, nn_subl, nn_m1, nn_mull, nn_t, nn_i, l_t, nn_lt, nn_le, nn_eq, nn_ltl, l_lt_nn, nn_lel, l_le_nn, nn_eql, l_eql, nn_nm1, xin_nn, xin_l, m1_lt, m1_le, m1_p, m1_z, dlt_T, dlt_F, dle_T, dle_F, deq_T, deq_F, sI_c, sI_n, sI_J, sI_E, sJ_c, sJ_n, sJ_I, sJ_E, sE_I, sE_J, sE_E, xcI_i, xcJ_i, xcR_i, xcV_i, xcI_e, xcJ_e, xcR_e, xcV_e, if_true, if_false, ite_true, ite_false, true_and, and_true, false_and, and_false, or_true, true_or, or_false, false_or, not_true_eq_false, not_false_eq_true, eq_self, ne_eq, ↓reduceIte, Nat.reduceEqDiff, Nat.reduceLT, Nat.reduceLeDiff, Nat.reduceAdd, Nat.reduceMul, Nat.reduceSub, Int32.reduceLT, Int32.reduceLE, reduceCtorEq] <;> omega), nn_addl]
      exact a1.trans (b1.trans t1)
    · by_cases z : v = w
      · subst z
        have h6 : ∀ x, x < 6 → S1.1 530 (6 * v + x) = S.1 512 (6 * v + x) := fun x hx => by rw [a4, if_pos (by omega)]
        rw [t4 _ (by omega), b5 g']
        by_cases q : ch v = true
        · rw [if_pos q, if_pos q]
          exact pfl_c _ _ _ _ (fun _ _ _ => rfl) (fun _ _ => rfl) (h6 g' hg)
        · rw [if_neg q, if_neg q]
          exact h6 g' hg
      · rw [t5 v (by omega) v2 g' hg, g 512 (by omega) (by omega)]
end SE
