/-! 74: expressions with aggregates, in the class -/
def agp (S : xS) (q : Nat) : Prop := 103 ≤ q ∧ q ≤ 403 ∧ q % 2 = 1 ∧ ∃ a, 17 ≤ a ∧ a ≤ 20 ∧ S.1 q 0 = nn a
/-- only the stack and the numbers of aggregates may change -/
def kv (S S' : xS) : Prop := (∀ q j, ¬ q = 412 → ¬ (j = 1 ∧ agp S q) → S'.1 q j = S.1 q j) ∧ S'.2 = S.2
section VC
variable {N n : Nat} {ow : Nat → Nat} {V F : Nat → Int32} {Fw : Nat → Nat → Int32} {C : Nat → Nat → Int32} {sc : Nat → Nat → Prop} {rc : Prop} {x2 : Int32} {S S' S2 : xS}
theorem kv_r (S : xS) : kv S S := ⟨fun _ _ _ _ => rfl, rfl⟩
theorem kv_4 (h : k412 S S') : kv S S' := ⟨fun q j a _ => by rw [h.1 q a], h.2⟩
theorem kv_p (h : kv S S') {q : Nat} (hq : ¬ q = 412) : agp S' q ↔ agp S q := by
  unfold agp
  rw [h.1 q 0 hq (by omega)]
theorem kv_t (h : kv S S') (g : kv S' S2) : kv S S2 := ⟨fun q j a b => by rw [g.1 q j a (by rw [kv_p h a]; exact b), h.1 q j a b], g.2.trans h.2⟩
theorem kv_q (h : kv S S') {q : Nat} (hq : ¬ q = 412) (h2 : q < 103 ∨ 403 < q ∨ q % 2 = 0) : S'.1 q = S.1 q := funext fun j => h.1 q j hq (fun z => by
  obtain ⟨_, a1, a2, a3, _⟩ := z
  omega)
theorem kv_it (h : kv S S') {p : Nat} (hp : p < 151) {i : xIt} (hi : itp (S.1 (103 + 2 * p)) p i) : itp (S'.1 (103 + 2 * p)) p i := by
  have hne : ¬ 103 + 2 * p = 412 := by omega
  have e : ∀ j, ¬ j = 1 → S'.1 (103 + 2 * p) j = S.1 (103 + 2 * p) j := fun j hj => h.1 _ j hne (fun z => hj z.1)
  have e1 : ∀ a, S.1 (103 + 2 * p) 0 = nn a → 40 < a → a < 100 → S'.1 (103 + 2 * p) 1 = S.1 (103 + 2 * p) 1 := fun a ha h4 h5 => h.1 _ 1 hne (fun z => by
    obtain ⟨_, _, _, _, b, b1, b2, b3⟩ := z
    rw [ha] at b3
    have := (nn_eq (by omega) (by omega)).mp b3
    omega)
  unfold itp at hi ⊢
  rw [e 0 (by decide), e 2 (by decide), e 3 (by decide), e 4 (by decide), e 5 (by decide), e 6 (by decide)]
  by_cases c1 : i.1 = 1
  · rw [if_pos c1] at hi ⊢
    rw [e1 41 hi.1 (by decide) (by decide)]
    exact hi
  · rw [if_neg c1] at hi ⊢
    by_cases c2 : i.1 = 2
    · rw [if_pos c2] at hi ⊢
      rw [e1 45 hi.1 (by decide) (by decide)]
      exact hi
    · rw [if_neg c2] at hi ⊢
      exact hi
theorem kv_sg (h : kv S S') {p : Nat} {L : List xIt} (hp : p + L.length ≤ 151) (hs : segp S.1 p L) : segp S'.1 p L := fun j hj => kv_it h (by omega) (hs j hj)
theorem envC_v (h : envC S V F C rc sc x2) (hk : kv S S') : envC S' V F C rc sc x2 := by
  obtain ⟨h1, h2, h3⟩ := h
  refine ⟨fun v hv => by rw [kv_q hk (by decide) (by decide)]; exact h1 v hv, fun z => ?_, fun b d z => ?_⟩
  · obtain ⟨w, a1, a2, a3⟩ := h2 z
    exact ⟨w, a1, a2, fun f hf => by rw [kv_q hk (by omega) (by omega)]; exact a3 f hf⟩
  · obtain ⟨a0, k, wd, a1, a2, a3, a4, a5⟩ := h3 b d z
    refine ⟨a0, k, wd, a1, a2, by rw [kv_q hk (by decide) (by decide)]; exact a3, by rw [kv_q hk (by omega) (by omega)]; exact a4, fun f hf => ?_⟩
    rw [kv_q (q := 96) hk (by decide) (by decide), kv_q (q := 491 + b) hk (by omega) (by omega), kv_q (q := 32 + wd) hk (by omega) (by omega)]
    exact a5 f hf
def ENC (S : xS) (ow : Nat → Nat) (V : Nat → Int32) (Fw : Nat → Nat → Int32) (C : Nat → Nat → Int32) (sc : Nat → Nat → Prop) : Prop := (∀ v, v < 64 → ∀ k, 1 ≤ k → k ≤ 7 → bt (S.2.1 30 k) v = decide (ow v = k)) ∧ envC S V (fun _ => 0) C False sc 0 ∧ ∀ v, v < 64 → ∀ f, f < 6 → S.1 (32 + v) f = Fw v f
theorem ENC_w (h : ENC S ow V Fw C sc) {v : Nat} (hv : v < 64) : envC S V (Fw v) C True sc (nn v) := ⟨h.2.1.1, fun _ => ⟨v, hv, rfl, h.2.2 v hv⟩, h.2.1.2.2⟩
theorem ENC_f (h : ENC S ow V Fw C sc) : envC S V F C False sc x2 := ⟨h.2.1.1, fun z => z.elim, h.2.1.2.2⟩
theorem ENC_v (h : ENC S ow V Fw C sc) (hk : kv S S') : ENC S' ow V Fw C sc := ⟨by rw [hk.2]; exact h.1, envC_v h.2.1 hk, fun v hv f hf => by rw [kv_q hk (by omega) (by omega)]; exact h.2.2 v hv f hf⟩
def NUM (S : xS) (ow : Nat → Nat) (V : Nat → Int32) (Fw : Nat → Nat → Int32) (C : Nat → Nat → Int32) : Nat → List xCe → Prop
  | _, [] => True
  | p, e :: E => ((e.1.1 = 30 ∨ e.1.1 = 32) → S.1 (103 + 2 * p) 1 = aggE ow V Fw C e) ∧ NUM S ow V Fw C (p + (fle e).length) E
theorem fl_cs (z : xCe) (E : List xCe) : fl (z :: E) = fle z ++ fl E := by unfold fl; rw [List.flatMap_cons]
theorem fle_pos (z : xCe) : 1 ≤ (fle z).length := by unfold fle; split <;> simp
theorem fle_len {z : xCe} (h : z.1.1 = 30 ∨ z.1.1 = 32) : (fle z).length = if z.1.1 = 30 then z.2.length + 2 else 1 := by
  unfold fle
  split
  · simp
  · rfl
/-- an aggregate's part -/
theorem agg_part {z : xCe} {p np : Nat} (h : z.1.1 = 30 ∨ z.1.1 = 32) (hg : gok z.1) (h6 : z.1.1 = 30 → z.1.2.2.2.2 = z.2.length) (hc : ∀ i ∈ cnd z, iok True sc i) (hd : dpx 0 (tg2 (cnd z)) = some 1) (hs : segp S.1 p (fle z)) (hp : p + (fle z).length ≤ np) (hnp : np ≤ 151) (h97 : S.1 97 5 = nn np) :
    S.1 (103 + 2 * p) 0 = 17 + nn (whE z) ∧ S.1 (103 + 2 * p) 2 = nn (z.1.2.2.1 + 1) ∧ (¬ whE z = 0 → S.1 (103 + 2 * p) 3 = nn z.1.2.2.2.1) ∧ S.1 (103 + 2 * p) 6 = nn (p + (fle z).length) ∧ whE z ≤ 3 ∧ ∃ o, S.1 (103 + 2 * p) 5 = oI o ∧ (∀ y, o = some y → CND S np y.1 sc y.2) ∧ ∀ v, chw V Fw C o v = (if z.1.1 = 30 then decide (¬ evl V (Fw v) C z.2 = 0) else true) := by
  have hl := fle_len h
  obtain ⟨g1, g2, a, g3, g4⟩ := hg
  have hwa : whE z = a := by unfold whE; rw [g4, nn_t (by omega)]
  have hz0 : (z.1.2.1 = 0) ↔ whE z = 0 := by
    rw [g4, hwa]
    exact nn_eql (by omega) (by decide)
  have hw' : nn (whE z) = z.1.2.1 := by rw [hwa, g4]
  rw [hw']
  rcases h with q | q
  · rw [if_pos q] at hl
    have hf : fle z = z.1 :: (z.2 ++ [itE]) := by unfold fle; rw [if_pos q]
    rw [hf] at hs
    obtain ⟨s1, s2⟩ := segp_cs hs
    obtain ⟨s3, s4⟩ := segp_app.mp s2
    have s5 := segp_1.mp s4
    unfold itp at s1 s5
    rw [if_neg (by omega), if_neg (by omega), if_neg (by omega), if_neg (by omega), if_neg (by omega), if_pos q] at s1
    obtain ⟨t1, t2, t3, t4, t5⟩ := s1
    have hcn : cnd z = z.2 := by unfold cnd; rw [if_pos q]
    rw [hcn] at hc hd
    refine ⟨t1, t2, fun y => t3 (fun u => y (hz0.mp u)), ?_, by omega, some (p + 1, z.2), t4, ?_, fun v => ?_⟩
    · rw [t5, hl, h6 q]
      congr 1
      omega
    · intro y hy
      injection hy with hy
      subst hy
      refine ⟨hc, s3, ?_, by show p + 1 + z.2.length < np; omega, hnp, h97, hd⟩
      exact s5
    · rw [if_pos q]
      rfl
  · rw [if_neg (by omega)] at hl
    have hf : fle z = [z.1] := by unfold fle; rw [if_neg (by omega)]
    rw [hf] at hs
    have s1 := segp_1.mp hs
    unfold itp at s1
    rw [if_neg (by omega), if_neg (by omega), if_neg (by omega), if_neg (by omega), if_neg (by omega), if_neg (by omega), if_pos q] at s1
    obtain ⟨t1, t2, t3, t4, t5⟩ := s1
    refine ⟨t1, t2, fun y => t3 (fun u => y (hz0.mp u)), ?_, by omega, none, t4, fun y hy => (by cases hy), fun v => ?_⟩
    · rw [t5, hl]
    · rw [if_neg (by omega)]
      rfl
theorem sim_act {i : xIt} {p : Nat} (hi : iok False sc i) (hp : itp (S.1 (103 + 2 * p)) p i) : ∃ a, S.1 (103 + 2 * p) 0 = nn a ∧ a < 100 ∧ ¬ a = 0 ∧ (a < 17 ∨ 20 < a) := by
  have hac : ∀ g, g < 23 → (g = 5 ∨ g = 6 ∨ 10 ≤ g) → acti g < 100 ∧ ¬ acti g = 0 ∧ (acti g < 17 ∨ 20 < acti g) := by decide
  unfold iok at hi
  unfold itp at hp
  rcases hi with z | ⟨z, z2⟩ | ⟨z, z2, z3⟩ | ⟨z, z2, z3⟩ | z | z | z
  · rw [if_pos z] at hp
    exact ⟨41, hp.1, by decide, by decide, by decide⟩
  · rw [if_neg (by omega), if_pos z] at hp
    exact ⟨45, hp.1, by decide, by decide, by decide⟩
  · exact z2.elim
  · rw [if_neg (by omega), if_neg (by omega), if_neg (by omega), if_pos z] at hp
    exact ⟨47, hp.1, by decide, by decide, by decide⟩
  · rw [if_neg (by omega), if_neg (by omega), if_neg (by omega), if_neg (by omega), if_neg (by omega), if_neg (by omega), if_neg (by omega)] at hp
    exact ⟨_, hp, hac i.1 (by omega) (by omega)⟩
  · rw [if_neg (by omega), if_neg (by omega), if_neg (by omega), if_neg (by omega), if_neg (by omega), if_neg (by omega), if_neg (by omega)] at hp
    exact ⟨_, hp, hac i.1 (by omega) (by omega)⟩
  · rw [if_neg (by omega), if_neg (by omega), if_neg (by omega), if_neg (by omega), if_neg (by omega), if_neg (by omega), if_neg (by omega)] at hp
    exact ⟨_, hp, hac i.1 (by omega) (by omega)⟩
theorem v_pass (hN : 1000 < N) (p0 : Int32) (np : Nat) (hnp : np ≤ 151) : ∀ (E : List xCe) (p n : Nat) (S : xS), ENC S ow V Fw C sc → (∀ z ∈ E, cok False sc z) → segp S.1 p (fl E) → p + (fl E).length < np → S.1 97 5 = nn np →
    ∃ S', f_X2_value_2 N (n + E.length) p0 (nn p) S = f_X2_value_2 N n p0 (nn (p + (fl E).length)) S' ∧ kv S S' ∧ NUM S' ow V Fw C p E ∧ ∀ j, j < p → S'.1 (103 + 2 * j) 1 = S.1 (103 + 2 * j) 1 := by
  intro E
  induction E with
  | nil => intro p n S _ _ _ _ _; exact ⟨S, rfl, kv_r S, trivial, fun _ _ => rfl⟩
  | cons z E ih =>
    intro p n S hen hi hp hq h97
    rw [fl_cs] at hp
    rw [fl_cs, List.length_append] at hq
    obtain ⟨p1, p2⟩ := segp_app.mp hp
    have hpos := fle_pos z
    have ep : (nn p).toNatClampNeg = p := nn_t (by omega)
    have x151 : xin (nn p) 151 := (xin_nn (by omega)).mpr (by omega)
    have cont : ∀ S1, f_X2_value_2 N (n + E.length + 1) p0 (nn p) S = f_X2_value_2 N (n + E.length) p0 (nn (p + (fle z).length)) S1 → kv S S1 → ((z.1.1 = 30 ∨ z.1.1 = 32) → S1.1 (103 + 2 * p) 1 = aggE ow V Fw C z) → (∀ j, j < p → S1.1 (103 + 2 * j) 1 = S.1 (103 + 2 * j) 1) → ∃ S', f_X2_value_2 N (n + (z :: E).length) p0 (nn p) S = f_X2_value_2 N n p0 (nn (p + (fl (z :: E)).length)) S' ∧ kv S S' ∧ NUM S' ow V Fw C p (z :: E) ∧ ∀ j, j < p → S'.1 (103 + 2 * j) 1 = S.1 (103 + 2 * j) 1 := by
      intro S1 g1 g2 g3 g4
      obtain ⟨S2, r1, r2, r3, r4⟩ := ih (p + (fle z).length) n S1 (ENC_v hen g2) (fun u hu => hi u (List.mem_cons_of_mem _ hu)) (kv_sg g2 (by omega) p2) (by omega) (by rw [kv_q g2 (by decide) (by decide)]; exact h97)
      refine ⟨S2, ?_, kv_t g2 r2, ⟨fun h => ?_, r3⟩, fun j hj => ?_⟩
      · rw [List.length_cons, ← Nat.add_assoc, g1, r1, fl_cs, List.length_append, Nat.add_assoc]
      · rw [r4 p (by omega)]
        exact g3 h
      · rw [r4 j (by omega)]
        exact g4 j hj
    have disp : ∀ a, S.1 (103 + 2 * p) 0 = nn a → a < 100 → ¬ a = 0 → f_X2_value_2 N (n + E.length + 1) p0 (nn p) S = if a < 17 then f_X2_value_2 N (n + E.length) p0 (nn (p + 1)) S else if 20 < a then f_X2_value_2 N (n + E.length) p0 (nn (p + 1)) S else xcI (f_X2_aggregate N (103 + 2 * p) S) (fun v27 S26 => xcI (f_J9_max_7cf53 N (nn p) (((sI S26 (103 + 2 * p) 1 v27).1 (103 + 2 * p) 6) - 1) (sI S26 (103 + 2 * p) 1 v27)) (fun v33 S32 => f_X2_value_76 N (f_X2_value_2 N (n + E.length)) p0 v33 S32)) := by
      intro a h0 ha ha0
      rw [f_X2_value_2.eq_2, h97, if_neg (by simp (disch := omega) only [nn_add, nn_addl, l_add_nn, nn_sub, nn_subl, nn_m1, nn_mull, nn_t, nn_i, l_t, nn_lt, nn_le, nn_eq, nn_ltl, l_lt_nn, nn_lel, l_le_nn, nn_eql, l_eql, nn_nm1, xin_nn, xin_l, m1_lt, m1_le, m1_p, m1_z, dlt_T, dlt_F, dle_T, dle_F, deq_T, deq_F, sI_c, sI_n, sI_J, sI_E, sJ_c, sJ_n, sJ_I, sJ_E, sE_I, sE_J, sE_E, xcI_i, xcJ_i, xcR_i, xcV_i, xcI_e, xcJ_e, xcR_e, xcV_e, if_true, if_false, ite_true, ite_false, true_and, and_true, false_and, and_false, or_true, true_or, or_false, false_or, not_true_eq_false, not_false_eq_true, eq_self, ne_eq, ↓reduceIte, Nat.reduceEqDiff, Nat.reduceLT, Nat.reduceLeDiff, Nat.reduceAdd, Nat.reduceMul, Nat.reduceSub, Int32.reduceLT, Int32.reduceLE, reduceCtorEq]), if_pos x151]
      simp only [ep, h0]
      rw [if_neg (by simp (disch := omega) only [nn_add, nn_addl, l_add_nn, nn_sub, nn_subl, nn_m1, nn_mull, nn_t, nn_i, l_t, nn_lt, nn_le, nn_eq, nn_ltl, l_lt_nn, nn_lel, l_le_nn, nn_eql, l_eql, nn_nm1, xin_nn, xin_l, m1_lt, m1_le, m1_p, m1_z, dlt_T, dlt_F, dle_T, dle_F, deq_T, deq_F, sI_c, sI_n, sI_J, sI_E, sJ_c, sJ_n, sJ_I, sJ_E, sE_I, sE_J, sE_E, xcI_i, xcJ_i, xcR_i, xcV_i, xcI_e, xcJ_e, xcR_e, xcV_e, if_true, if_false, ite_true, ite_false, true_and, and_true, false_and, and_false, or_true, true_or, or_false, false_or, not_true_eq_false, not_false_eq_true, eq_self, ne_eq, ↓reduceIte, Nat.reduceEqDiff, Nat.reduceLT, Nat.reduceLeDiff, Nat.reduceAdd, Nat.reduceMul, Nat.reduceSub, Int32.reduceLT, Int32.reduceLE, reduceCtorEq])]
      unfold f_X2_value_76
      rw [nn_addl]
      by_cases c1 : a < 17
      · rw [if_pos (by simp (disch := omega) only [nn_add, nn_addl, l_add_nn, nn_sub, nn_subl, nn_m1, nn_mull, nn_t, nn_i, l_t, nn_lt, nn_le, nn_eq, nn_ltl, l_lt_nn, nn_lel, l_le_nn, nn_eql, l_eql, nn_nm1, xin_nn, xin_l, m1_lt, m1_le, m1_p, m1_z, dlt_T, dlt_F, dle_T, dle_F, deq_T, deq_F, sI_c, sI_n, sI_J, sI_E, sJ_c, sJ_n, sJ_I, sJ_E, sE_I, sE_J, sE_E, xcI_i, xcJ_i, xcR_i, xcV_i, xcI_e, xcJ_e, xcR_e, xcV_e, if_true, if_false, ite_true, ite_false, true_and, and_true, false_and, and_false, or_true, true_or, or_false, false_or, not_true_eq_false, not_false_eq_true, eq_self, ne_eq, ↓reduceIte, Nat.reduceEqDiff, Nat.reduceLT, Nat.reduceLeDiff, Nat.reduceAdd, Nat.reduceMul, Nat.reduceSub, Int32.reduceLT, Int32.reduceLE, reduceCtorEq]), if_pos c1]
      · rw [if_neg (by simp (disch := omega) only [nn_add, nn_addl, l_add_nn, nn_sub, nn_subl, nn_m1, nn_mull, nn_t, nn_i, l_t, nn_lt, nn_le, nn_eq, nn_ltl, l_lt_nn, nn_lel, l_le_nn, nn_eql, l_eql, nn_nm1, xin_nn, xin_l, m1_lt, m1_le, m1_p, m1_z, dlt_T, dlt_F, dle_T, dle_F, deq_T, deq_F, sI_c, sI_n, sI_J, sI_E, sJ_c, sJ_n, sJ_I, sJ_E, sE_I, sE_J, sE_E, xcI_i, xcJ_i, xcR_i, xcV_i, xcI_e, xcJ_e, xcR_e, xcV_e, if_true, if_false, ite_true, ite_false, true_and, and_true, false_and, and_false, or_true, true_or, or_false, false_or, not_true_eq_false, not_false_eq_true, eq_self, ne_eq, ↓reduceIte, Nat.reduceEqDiff, Nat.reduceLT, Nat.reduceLeDiff, Nat.reduceAdd, Nat.reduceMul, Nat.reduceSub, Int32.reduceLT, Int32.reduceLE, reduceCtorEq]), if_neg c1]
        by_cases c2 : 20 < a
        · rw [if_pos (by simp (disch := omega) only [nn_add, nn_addl, l_add_nn, nn_sub, nn_subl, nn_m1, nn_mull, nn_t, nn_i, l_t, nn_lt, nn_le, nn_eq, nn_ltl, l_lt_nn, nn_lel, l_le_nn, nn_eql, l_eql, nn_nm1, xin_nn, xin_l, m1_lt, m1_le, m1_p, m1_z, dlt_T, dlt_F, dle_T, dle_F, deq_T, deq_F, sI_c, sI_n, sI_J, sI_E, sJ_c, sJ_n, sJ_I, sJ_E, sE_I, sE_J, sE_E, xcI_i, xcJ_i, xcR_i, xcV_i, xcI_e, xcJ_e, xcR_e, xcV_e, if_true, if_false, ite_true, ite_false, true_and, and_true, false_and, and_false, or_true, true_or, or_false, false_or, not_true_eq_false, not_false_eq_true, eq_self, ne_eq, ↓reduceIte, Nat.reduceEqDiff, Nat.reduceLT, Nat.reduceLeDiff, Nat.reduceAdd, Nat.reduceMul, Nat.reduceSub, Int32.reduceLT, Int32.reduceLE, reduceCtorEq]), if_pos c2]
        · rw [if_neg (by simp (disch := omega) only [nn_add, nn_addl, l_add_nn, nn_sub, nn_subl, nn_m1, nn_mull, nn_t, nn_i, l_t, nn_lt, nn_le, nn_eq, nn_ltl, l_lt_nn, nn_lel, l_le_nn, nn_eql, l_eql, nn_nm1, xin_nn, xin_l, m1_lt, m1_le, m1_p, m1_z, dlt_T, dlt_F, dle_T, dle_F, deq_T, deq_F, sI_c, sI_n, sI_J, sI_E, sJ_c, sJ_n, sJ_I, sJ_E, sE_I, sE_J, sE_E, xcI_i, xcJ_i, xcR_i, xcV_i, xcI_e, xcJ_e, xcR_e, xcV_e, if_true, if_false, ite_true, ite_false, true_and, and_true, false_and, and_false, or_true, true_or, or_false, false_or, not_true_eq_false, not_false_eq_true, eq_self, ne_eq, ↓reduceIte, Nat.reduceEqDiff, Nat.reduceLT, Nat.reduceLeDiff, Nat.reduceAdd, Nat.reduceMul, Nat.reduceSub, Int32.reduceLT, Int32.reduceLE, reduceCtorEq]), if_neg c2]
    rcases cok_g (hi z List.mem_cons_self) with ⟨c1, c2, c3, c4⟩ | ⟨c1, c2, c3, c4, c5, c6⟩
    · rw [c4] at p1
      obtain ⟨a, a1, a2, a3, a4⟩ := sim_act c1 (segp_1.mp p1)
      refine cont S ?_ (kv_r S) (fun h => absurd h c3) (fun _ _ => rfl)
      rw [disp a a1 a2 a3, c4]
      rcases a4 with y | y
      · rw [if_pos y]
        rfl
      · rw [if_neg (by omega), if_pos y]
        rfl
    · obtain ⟨t1, t2, t3, t4, t5, o, t6, t7, t8⟩ := agg_part (V := V) (Fw := Fw) (C := C) c1 c2 c6 c3 c4 p1 (by omega) hnp h97
      have ta : S.1 (103 + 2 * p) 0 = nn (17 + whE z) := by rw [t1, l_add_nn]
      obtain ⟨S1, r1, r2⟩ := p_aggC (N := N) (V := V) (Fw := Fw) (C := C) (np := np) hN c2.1 (show p < 151 by omega) t5 c2.2.1 o t1 t2 t3 t6 t7 (fun v hv _ => ENC_w hen hv)
      have hval : agf (whE z) (fun v => bt (S.2.1 30 (z.1.2.2.1 + 1)) v && chw V Fw C o v) (fun v => S.1 (32 + v) z.1.2.2.2.1) 64 0 0 0 = aggE ow V Fw C z := by
        unfold aggE
        apply agf_c
        intro v _ hv
        have hg := c2.1
        refine ⟨?_, fun _ => hen.2.2 v (by omega) _ c2.2.1⟩
        rw [hen.1 v (by omega) _ (by omega) (by omega), t8 v]
      rw [hval] at r1
      refine cont (sI S1 (103 + 2 * p) 1 (aggE ow V Fw C z)) ?_ ?_ (fun _ => by simp (disch := omega) only [nn_add, nn_addl, l_add_nn, nn_sub, nn_subl, nn_m1, nn_mull, nn_t, nn_i, l_t, nn_lt, nn_le, nn_eq, nn_ltl, l_lt_nn, nn_lel, l_le_nn, nn_eql, l_eql, nn_nm1, xin_nn, xin_l, m1_lt, m1_le, m1_p, m1_z, dlt_T, dlt_F, dle_T, dle_F, deq_T, deq_F, sI_c, sI_n, sI_J, sI_E, sJ_c, sJ_n, sJ_I, sJ_E, sE_I, sE_J, sE_E, xcI_i, xcJ_i, xcR_i, xcV_i, xcI_e, xcJ_e, xcR_e, xcV_e, if_true, if_false, ite_true, ite_false, true_and, and_true, false_and, and_false, or_true, true_or, or_false, false_or, not_true_eq_false, not_false_eq_true, eq_self, ne_eq, ↓reduceIte, Nat.reduceEqDiff, Nat.reduceLT, Nat.reduceLeDiff, Nat.reduceAdd, Nat.reduceMul, Nat.reduceSub, Int32.reduceLT, Int32.reduceLE, reduceCtorEq]) (fun j hj => ?_)
      · rw [disp _ ta (by omega) (by omega), if_neg (by omega), if_neg (by omega), xcI_of r1]
        have e6 : (sI S1 (103 + 2 * p) 1 (aggE ow V Fw C z)).1 (103 + 2 * p) 6 = nn (p + (fle z).length) := by
          rw [sI_c, if_neg (by omega), r2.1 _ (by omega)]
          exact t4
        rw [e6, xcI_of (p_maxC (by omega) (by omega))]
        unfold f_X2_value_76
        rw [Int32.sub_add_cancel]
      · refine kv_t (kv_4 r2) ⟨fun q j a b => ?_, rfl⟩
        rw [sI_c, if_neg]
        intro y
        refine b ⟨y.2, ?_⟩
        rw [y.1]
        refine ⟨by omega, by omega, by omega, 17 + whE z, by omega, by omega, ?_⟩
        rw [r2.1 _ (by omega)]
        exact ta
      · rw [sI_c, if_neg (by omega), r2.1 _ (by omega)]
end VC
