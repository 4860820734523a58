/-! 50: the pieces of statements -/
theorem r_bk_A {Sc Sr : xS} {nb ns nk : Nat} {ty op kd A A' : Nat → Nat} (h : r_bk Sc Sr nb ns ty op kd A nk) (hA : ∀ j, j ≤ ns → A' j = A j) (hn : ns + 1 ≤ 150) : r_bk Sc Sr nb (ns + 1) ty op kd A' nk := by
  obtain ⟨h1, h2, h3, h4, h5⟩ := h
  refine ⟨h1, hn, h3, h4, fun i hi => ?_⟩
  obtain ⟨a1, a2, a3, a4, a5, a6, a7, a8, a9⟩ := h5 i hi
  rw [hA (op i + 1) (by omega), hA (op i) (by omega)]
  exact ⟨a1, a2, by omega, a4, a5, a6, a7, a8, a9⟩
def whI (o : Option (Nat × List xCe)) : Int32 := match o with
  | none => -1
  | some z => nn z.1
def whX (k : Nat) (o : Option (Nat × List xCe)) (X : List xX) : List xX := match o with
  | none => X
  | some z => (k + 1, z.1, z.2) :: X
section RU
variable {S0 R0 Sc Sr Sc' Sr' : xS} {m t t' nk nv nv' nb ns np0 nu0 np rk0 N : Nat} {s wd ty op kd A : Nat → Nat} {Z : Nat → Int32} {L : List Int32} {X : List xX} {U : List (Nat × Nat)} {M : List Nat} {D : Nat → xD}
theorem MI_sign (h : MI S0 R0 Sc Sr m s t nk nv wd nb ns ty op kd A np0 nu0 np Z L X U M) (k : Nat) {x c : Int32} (hx : x = nn k) (hc : c = nn (sg k)) (hk : 21 ≤ k) (hk2 : k ≤ 39) :
    (s t = k ∧ t < m ∧ f_X9_take N x Sc = some (rV (sI Sc 1 7 (nn (t + 1)))) ∧ f_X12_sign N c Sr = some (rI 1 (sI Sr 503 20 (nn (t + 1)))) ∧ MI S0 R0 (sI Sc 1 7 (nn (t + 1))) (sI Sr 503 20 (nn (t + 1))) m s (t + 1) nk nv wd nb ns ty op kd A np0 nu0 np Z L X U M) ∨ (f_X9_take N x Sc = some (rA (sE Sc)) ∧ f_X12_sign N c Sr = some (rI 0 (badR Sr s t)) ∧ r_bad (sE Sc) (badR Sr s t) m s nk nv wd) := by
  by_cases hs : s t = k
  · have ht := h.1.lt (by omega) (by omega)
    exact Or.inl ⟨hs, ht, p_take1 h.1 hx (by omega) (by omega) hs, p_sign1 h.1 k hc hk hk2 hs, MI_n h ht⟩
  · exact Or.inr ⟨p_take0 h.1 hx (by omega) hs, p_sign0 h.1 k hc hk hk2 hs, p_bad h.1⟩
theorem MI_kind (hN : 1000 < N) (h : MI S0 R0 Sc Sr m s t nk nv wd nb ns ty op kd A np0 nu0 np Z L X U M) :
    (∃ k, k < nk ∧ s t = 40 ∧ t < m ∧ f_X7_takeKind N Sc = some (rI (nn (k + 1)) (sI Sc 1 7 (nn (t + 1)))) ∧ f_X12_takeKind N Sr = some (rI (nn k) (sI Sr 503 20 (nn (t + 1)))) ∧ MI S0 R0 (sI Sc 1 7 (nn (t + 1))) (sI Sr 503 20 (nn (t + 1))) m s (t + 1) nk nv wd nb ns ty op kd A np0 nu0 np Z L X U M) ∨ (f_X7_takeKind N Sc = some (rA (sE Sc)) ∧ f_X12_takeKind N Sr = some (rI (-1) (badR Sr s t)) ∧ r_bad (sE Sc) (badR Sr s t) m s nk nv wd) := by
  rcases p_takeKind (N := N) (by omega) h.1 with ⟨k, h1, h2, h3, h4, h5⟩ | ⟨h4, h5⟩
  · exact Or.inl ⟨k, h1, h2, h3, h4, h5, MI_n h h3⟩
  · exact Or.inr ⟨h4, h5, p_bad h.1⟩
theorem MI_field (hN : 1000 < N) (h : MI S0 R0 Sc Sr m s t nk nv wd nb ns ty op kd A np0 nu0 np Z L X U M) {k : Nat} (hk : k < nk) :
    (∃ f, f < wd k ∧ f < 6 ∧ t < m ∧ f_X7_takeField N (nn (k + 1)) Sc = some (rI (nn f) (sI Sc 1 7 (nn (t + 1)))) ∧ f_X12_takeField N (nn k) Sr = some (rI (nn f) (sI Sr 503 20 (nn (t + 1)))) ∧ MI S0 R0 (sI Sc 1 7 (nn (t + 1))) (sI Sr 503 20 (nn (t + 1))) m s (t + 1) nk nv wd nb ns ty op kd A np0 nu0 np Z L X U M) ∨ (f_X7_takeField N (nn (k + 1)) Sc = some (rA (sE Sc)) ∧ f_X12_takeField N (nn k) Sr = some (rI (-1) (badR Sr s t)) ∧ r_bad (sE Sc) (badR Sr s t) m s nk nv wd) := by
  rcases p_takeField (N := N) (by omega) h.1 hk with ⟨f, h1, h2, h3, h4, h5, h6⟩ | ⟨h5, h6⟩
  · exact Or.inl ⟨f, h1, h2, h4, h5, h6, MI_n h h4⟩
  · exact Or.inr ⟨h5, h6, p_bad h.1⟩
theorem MI_inl (hN : 1000 < N) (h : MI S0 R0 Sc Sr m s t nk nv wd nb ns ty op kd A np0 nu0 np Z L X U M) (hp : np + 1 ≤ t) (hc : A ns + L.length + 2 ≤ 12 * t) :
    (∃ t2 nv2 E np2 Sc2 Sr2, t ≤ t2 ∧ nv ≤ nv2 ∧ A ns + (L ++ inl E).length ≤ 12 * t2 ∧ f_X1_read N 0 Sc = some (rI (nn np) Sc2) ∧ f_X12_inline N Sr = some (rI 1 Sr2) ∧ MI S0 R0 Sc2 Sr2 m s t2 nk nv2 wd nb ns ty op kd A np0 nu0 np2 Z (L ++ inl E) ((0, np, E) :: X) U M) ∨ (∃ Sc2 Sr2, f_X1_read N 0 Sc = some (rA Sc2) ∧ f_X12_inline N Sr = some (rI 0 Sr2) ∧ r_bad Sc2 Sr2 m s nk nv wd) := by
  have htm := h.1.2.1
  have hm := h.1.1.1
  obtain ⟨e1, m1⟩ := MI_em (N := N) (v := 112) h (by omega)
  have hl : (L ++ [112]).length = L.length + 1 := by rw [List.length_append]; rfl
  have hre : recI 0 = -1 := rfl
  rcases MI_meas (N := N) (rk0 := 0) hN m1 hp (by rw [hl]; omega) (Nat.zero_le _) with ⟨t2, nv2, E, np2, Sc2, Sr2, q1, q2, q3, q4, q5, q6⟩ | ⟨Sc2, Sr2, q4, q5, q6⟩
  · have ea : L ++ [112] ++ nn (cE E).length :: cE E = L ++ inl E := by unfold inl; simp
    rw [ea] at q3 q6
    rw [hre] at q5
    refine Or.inl ⟨t2, nv2, E, np2, Sc2, Sr2, q1, q2, q3, q4, ?_, q6⟩
    unfold f_X12_inline
    rw [xcV_of e1, xcI_of q5, if_pos (Or.inr rfl)]
  · rw [hre] at q5
    refine Or.inr ⟨Sc2, Sr2, q4, ?_, q6⟩
    unfold f_X12_inline
    rw [xcV_of e1, xcI_of q5, if_pos (Or.inl rfl)]
theorem MI_where (hN : 1000 < N) (h : MI S0 R0 Sc Sr m s t nk nv wd nb ns ty op kd A np0 nu0 np Z L X U M) (hc : A ns + L.length + 1 ≤ 12 * t) {k : Nat} (hk : k < nk) :
    (∃ t2 nv2 o np2 Sc2 Sr2, t ≤ t2 ∧ nv ≤ nv2 ∧ A ns + (L ++ whc o).length ≤ 12 * t2 ∧ f_X6_where N (nn (k + 1)) Sc = some (rI (whI o) Sc2) ∧ f_X12_whereOf N (nn k) Sr = some (rI 1 Sr2) ∧ MI S0 R0 Sc2 Sr2 m s t2 nk nv2 wd nb ns ty op kd A np0 nu0 np2 Z (L ++ whc o) (whX k o X) U M) ∨ (∃ Sc2 Sr2, f_X6_where N (nn (k + 1)) Sc = some (rA Sc2) ∧ f_X12_whereOf N (nn k) Sr = some (rI 0 Sr2) ∧ r_bad Sc2 Sr2 m s nk nv wd) := by
  have htm := h.1.2.1
  have hm := h.1.1.1
  have hnp : np ≤ t := h.2.2.2.2.2.2.2.2.2.2.2.2.2.2.2.2.2.1
  by_cases hs : s t = 4
  · have ht := h.1.lt (by omega) (by omega)
    have m1 := MI_n h ht
    have hre : recI (k + 1) = nn k := by unfold recI; rw [if_neg (by omega), Nat.add_sub_cancel]
    have h20 := h.1.2.2.2.1
    rcases MI_meas (N := N) (rk0 := k + 1) hN m1 (by omega) (by omega) hk with ⟨t2, nv2, E, np2, Sc2, Sr2, q1, q2, q3, q4, q5, q6⟩ | ⟨Sc2, Sr2, q4, q5, q6⟩
    · rw [hre] at q5
      refine Or.inl ⟨t2, nv2, some (np, E), np2, Sc2, Sr2, by omega, q2, q3, ?_, ?_, q6⟩
      · unfold f_X6_where
        rw [xcI_of (p_passed1 (N := N) h.1 (k := 4) (x := 4) rfl (by decide) hs), if_neg (by decide), xcI_of q4]
        rfl
      · unfold f_X12_whereOf
        rw [xcI_of (p_isWord1 (N := N) h.1 4 (c := 3) rfl (by decide) (by decide) hs), if_neg (by decide), h20, nn_addl, xcI_of q5, if_pos (Or.inr rfl)]
    · rw [hre] at q5
      refine Or.inr ⟨Sc2, Sr2, ?_, ?_, q6⟩
      · unfold f_X6_where
        rw [xcI_of (p_passed1 (N := N) h.1 (k := 4) (x := 4) rfl (by decide) hs), if_neg (by decide), xcI_oe q4]
      · unfold f_X12_whereOf
        rw [xcI_of (p_isWord1 (N := N) h.1 4 (c := 3) rfl (by decide) (by decide) hs), if_neg (by decide), h20, nn_addl, xcI_of q5, if_pos (Or.inl rfl)]
  · obtain ⟨e1, m1⟩ := MI_em (N := N) (v := 0) h (by omega)
    refine Or.inl ⟨t, nv, none, np, Sc, _, Nat.le_refl _, Nat.le_refl _, ?_, ?_, ?_, m1⟩
    · show A ns + (L ++ [0]).length ≤ 12 * t
      rw [List.length_append]
      exact hc
    · unfold f_X6_where
      rw [xcI_of (p_passed0 (N := N) h.1 (k := 4) (x := 4) rfl (by decide) hs), if_pos rfl, sI_id h.1.2.2.1]
      rfl
    · unfold f_X12_whereOf
      rw [xcI_of (p_isWord0 (N := N) h.1 4 (c := 3) rfl (by decide) (by decide) hs), if_pos rfl, xcV_of e1]
theorem MI_0 (h : SJ Sc Sr m s t nk nv wd nb ns ty op kd A D np nu0) (hn : ns < 150) (a : Nat) {x : Int32} (hx : x = nn a) : f_X5_addStep N x Sc = some (rR (102 + 2 * ns) (sI (sI Sc (102 + 2 * ns) 0 (nn a)) 97 4 (nn (ns + 1)))) ∧ MI Sc Sr (sI (sI Sc (102 + 2 * ns) 0 (nn a)) 97 4 (nn (ns + 1))) Sr m s t nk nv wd nb ns ty op kd A np nu0 np (fun i => if i = 0 then nn a else Sc.1 (102 + 2 * ns) i) [] [] [] [] := by
  subst hx
  obtain ⟨h1, h2, h3, h4, h5, h6, h7, h8, h9, h10, h11, h12, h13, h14, h15, h16, h17⟩ := h
  have hm := h1.1.1
  have htm := h1.2.1
  obtain ⟨b1, b2, b3, b4, b5⟩ := h2
  refine ⟨by simp (disch := omega) only [nn_add, nn_addl, l_add_nn, nn_sub, nn_subl, nn_m1, nn_mull, nn_t, nn_i, l_t, nn_lt, nn_le, nn_eq, nn_ltl, l_lt_nn, nn_lel, l_le_nn, nn_eql, l_eql, nn_nm1, xin_nn, xin_l, m1_lt, m1_le, m1_p, m1_z, dlt_T, dlt_F, dle_T, dle_F, deq_T, deq_F, sI_c, sI_n, sI_J, sI_E, sJ_c, sJ_n, sJ_I, sJ_E, sE_I, sE_J, sE_E, xcI_i, xcJ_i, xcR_i, xcV_i, xcI_e, xcJ_e, xcR_e, xcV_e, if_true, if_false, ite_true, ite_false, true_and, and_true, false_and, and_false, or_true, true_or, or_false, false_or, not_true_eq_false, not_false_eq_true, eq_self, ne_eq, ↓reduceIte, Nat.reduceEqDiff, Nat.reduceLT, Nat.reduceLeDiff, Nat.reduceAdd, Nat.reduceMul, Nat.reduceSub, Int32.reduceLT, Int32.reduceLE, reduceCtorEq, f_X5_addStep, h3], r_P_c h1 (agc_s (agc_s (agc_r _) (by omega)) (by omega)) (agr_r _), ⟨b1, b2, by simp (disch := omega) only [nn_add, nn_addl, l_add_nn, nn_sub, nn_subl, nn_m1, nn_mull, nn_t, nn_i, l_t, nn_lt, nn_le, nn_eq, nn_ltl, l_lt_nn, nn_lel, l_le_nn, nn_eql, l_eql, nn_nm1, xin_nn, xin_l, m1_lt, m1_le, m1_p, m1_z, dlt_T, dlt_F, dle_T, dle_F, deq_T, deq_F, sI_c, sI_n, sI_J, sI_E, sJ_c, sJ_n, sJ_I, sJ_E, sE_I, sE_J, sE_E, xcI_i, xcJ_i, xcR_i, xcV_i, xcI_e, xcJ_e, xcR_e, xcV_e, if_true, if_false, ite_true, ite_false, true_and, and_true, false_and, and_false, or_true, true_or, or_false, false_or, not_true_eq_false, not_false_eq_true, eq_self, ne_eq, ↓reduceIte, Nat.reduceEqDiff, Nat.reduceLT, Nat.reduceLeDiff, Nat.reduceAdd, Nat.reduceMul, Nat.reduceSub, Int32.reduceLT, Int32.reduceLE, reduceCtorEq, b3], b4, fun i hi => ?_⟩, by simp (disch := omega) only [nn_add, nn_addl, l_add_nn, nn_sub, nn_subl, nn_m1, nn_mull, nn_t, nn_i, l_t, nn_lt, nn_le, nn_eq, nn_ltl, l_lt_nn, nn_lel, l_le_nn, nn_eql, l_eql, nn_nm1, xin_nn, xin_l, m1_lt, m1_le, m1_p, m1_z, dlt_T, dlt_F, dle_T, dle_F, deq_T, deq_F, sI_c, sI_n, sI_J, sI_E, sJ_c, sJ_n, sJ_I, sJ_E, sE_I, sE_J, sE_E, xcI_i, xcJ_i, xcR_i, xcV_i, xcI_e, xcJ_e, xcR_e, xcV_e, if_true, if_false, ite_true, ite_false, true_and, and_true, false_and, and_false, or_true, true_or, or_false, false_or, not_true_eq_false, not_false_eq_true, eq_self, ne_eq, ↓reduceIte, Nat.reduceEqDiff, Nat.reduceLT, Nat.reduceLeDiff, Nat.reduceAdd, Nat.reduceMul, Nat.reduceSub, Int32.reduceLT, Int32.reduceLE, reduceCtorEq], by simp (disch := omega) only [nn_add, nn_addl, l_add_nn, nn_sub, nn_subl, nn_m1, nn_mull, nn_t, nn_i, l_t, nn_lt, nn_le, nn_eq, nn_ltl, l_lt_nn, nn_lel, l_le_nn, nn_eql, l_eql, nn_nm1, xin_nn, xin_l, m1_lt, m1_le, m1_p, m1_z, dlt_T, dlt_F, dle_T, dle_F, deq_T, deq_F, sI_c, sI_n, sI_J, sI_E, sJ_c, sJ_n, sJ_I, sJ_E, sE_I, sE_J, sE_E, xcI_i, xcJ_i, xcR_i, xcV_i, xcI_e, xcJ_e, xcR_e, xcV_e, if_true, if_false, ite_true, ite_false, true_and, and_true, false_and, and_false, or_true, true_or, or_false, false_or, not_true_eq_false, not_false_eq_true, eq_self, ne_eq, ↓reduceIte, Nat.reduceEqDiff, Nat.reduceLT, Nat.reduceLeDiff, Nat.reduceAdd, Nat.reduceMul, Nat.reduceSub, Int32.reduceLT, Int32.reduceLE, reduceCtorEq, h4], by simp (disch := omega) only [nn_add, nn_addl, l_add_nn, nn_sub, nn_subl, nn_m1, nn_mull, nn_t, nn_i, l_t, nn_lt, nn_le, nn_eq, nn_ltl, l_lt_nn, nn_lel, l_le_nn, nn_eql, l_eql, nn_nm1, xin_nn, xin_l, m1_lt, m1_le, m1_p, m1_z, dlt_T, dlt_F, dle_T, dle_F, deq_T, deq_F, sI_c, sI_n, sI_J, sI_E, sJ_c, sJ_n, sJ_I, sJ_E, sE_I, sE_J, sE_E, xcI_i, xcJ_i, xcR_i, xcV_i, xcI_e, xcJ_e, xcR_e, xcV_e, if_true, if_false, ite_true, ite_false, true_and, and_true, false_and, and_false, or_true, true_or, or_false, false_or, not_true_eq_false, not_false_eq_true, eq_self, ne_eq, ↓reduceIte, Nat.reduceEqDiff, Nat.reduceLT, Nat.reduceLeDiff, Nat.reduceAdd, Nat.reduceMul, Nat.reduceSub, Int32.reduceLT, Int32.reduceLE, reduceCtorEq, h5]; rfl, by rw [h6]; rfl, by simp (disch := omega) only [nn_add, nn_addl, l_add_nn, nn_sub, nn_subl, nn_m1, nn_mull, nn_t, nn_i, l_t, nn_lt, nn_le, nn_eq, nn_ltl, l_lt_nn, nn_lel, l_le_nn, nn_eql, l_eql, nn_nm1, xin_nn, xin_l, m1_lt, m1_le, m1_p, m1_z, dlt_T, dlt_F, dle_T, dle_F, deq_T, deq_F, sI_c, sI_n, sI_J, sI_E, sJ_c, sJ_n, sJ_I, sJ_E, sE_I, sE_J, sE_E, xcI_i, xcJ_i, xcR_i, xcV_i, xcI_e, xcJ_e, xcR_e, xcV_e, if_true, if_false, ite_true, ite_false, true_and, and_true, false_and, and_false, or_true, true_or, or_false, false_or, not_true_eq_false, not_false_eq_true, eq_self, ne_eq, ↓reduceIte, Nat.reduceEqDiff, Nat.reduceLT, Nat.reduceLeDiff, Nat.reduceAdd, Nat.reduceMul, Nat.reduceSub, Int32.reduceLT, Int32.reduceLE, reduceCtorEq, h7], h8, h9, CK_s (CK_s ⟨fun _ _ _ => rfl, fun _ _ _ => rfl, fun _ _ => ⟨rfl, rfl⟩⟩ ⟨fun k a b => by omega, fun k a b => by omega, by omega⟩) ⟨fun k a b => by omega, fun k a b => by omega, by omega⟩, fun _ _ => rfl, ?_, fun i hi => absurd hi (Nat.not_lt_zero i), fun x hx => absurd hx List.not_mem_nil, fun i hi => absurd hi (Nat.not_lt_zero i), fun i hi => absurd hi (Nat.not_lt_zero i), Nat.le_refl _, h11, h12, by omega⟩
  · have := b5 i hi
    have h3 := this.2.2.1
    simp (disch := omega) only [nn_add, nn_addl, l_add_nn, nn_sub, nn_subl, nn_m1, nn_mull, nn_t, nn_i, l_t, nn_lt, nn_le, nn_eq, nn_ltl, l_lt_nn, nn_lel, l_le_nn, nn_eql, l_eql, nn_nm1, xin_nn, xin_l, m1_lt, m1_le, m1_p, m1_z, dlt_T, dlt_F, dle_T, dle_F, deq_T, deq_F, sI_c, sI_n, sI_J, sI_E, sJ_c, sJ_n, sJ_I, sJ_E, sE_I, sE_J, sE_E, xcI_i, xcJ_i, xcR_i, xcV_i, xcI_e, xcJ_e, xcR_e, xcV_e, if_true, if_false, ite_true, ite_false, true_and, and_true, false_and, and_false, or_true, true_or, or_false, false_or, not_true_eq_false, not_false_eq_true, eq_self, ne_eq, ↓reduceIte, Nat.reduceEqDiff, Nat.reduceLT, Nat.reduceLeDiff, Nat.reduceAdd, Nat.reduceMul, Nat.reduceSub, Int32.reduceLT, Int32.reduceLE, reduceCtorEq]
    exact this.2.2.2
  · funext i
    rw [sI_n (by omega), sI_c]
    by_cases hi : i = 0
    · subst hi; simp
    · rw [if_neg (by omega), if_neg hi]
theorem A_mono (h : ∀ i, i < ns → STP Sc Sr np nu0 nk nv wd A (opd op nb i) i (D i)) : ∀ j i, i + j ≤ ns → A i + j ≤ A (i + j) := by
  intro j
  induction j with
  | zero => intro i _; exact Nat.le_refl _
  | succ j ih =>
    intro i hi
    have := ih i (by omega)
    obtain ⟨_, _, ⟨L, _, _, e, e2⟩, _⟩ := h (i + j) (by omega)
    have e3 : A (i + (j + 1)) = A (i + j) + L.length + tgl (D (i + j)).1 := e
    omega
/-- a plain step is done -/
theorem SI_fin {nv0 t0 nk0 : Nat} {wd0 : Nat → Nat} (hS : SJ S0 R0 m s t0 nk0 nv0 wd0 nb ns ty op kd A D np0 nu0) (hl : ∀ i, i + 1 = ns → ¬ (D i).1 = 8) (hnk : nk0 ≤ nk) (hnv : nv0 ≤ nv) (hwd : ∀ k, k < nk0 → wd k = wd0 k) (h : MI S0 R0 Sc Sr m s t nk nv wd nb ns ty op kd A np0 nu0 np Z L X U M) (ht0 : t0 ≤ t) (d : xD) (hd : d.2.2.2.2.2 = scb3 nb ty kd) (ha : ¬ tga d.1) (hZ : Z 0 = nn d.1) (h50 : d.1 ≤ 50) (hF : STF Sc Z np (nu0 + U.length) nk nv wd d L) (h1 : 1 ≤ L.length) (hb : A ns + L.length ≤ 12 * t) (h1n : ns + 1 ≤ t) :
    SJ Sc Sr m s t nk nv wd nb (ns + 1) ty op kd (upw A (ns + 1) (A ns + L.length)) (uD D ns d) np (nu0 + U.length) ∧ ∀ i, i < ns + 1 → tga (uD D ns d i).1 → ¬ opd op nb i → (uD D ns d i).2.1 < ns + 1 := by
  obtain ⟨g1, g2, g3, g4, g5, g6, g7, g8, g9, g10, g11, g12, g13, g14, g15, g16, g17, g18, g19, g20⟩ := h
  obtain ⟨k1, k2, k3, k4, k5, k6, k7, k8, k9, k10, k11, k12, k13, k14, k15, k16, k17⟩ := hS
  have hA : ∀ j, j ≤ ns → upw A (ns + 1) (A ns + L.length) j = A j := fun j hj => upw_n (by omega)
  have htm := k1.2.1
  have hm := k1.1.1
  obtain ⟨f1, f2, f3⟩ := FA k16 k17 hd ha hl
  refine ⟨⟨g1, r_bk_A g2 hA (by omega), g3, g4, g5, by rw [upw_s]; exact g6, g7, g8, g9, h1n, g18, g19, by rw [upw_s]; exact hb, by rw [hA 0 (by omega)]; exact k14, fun i hi => ?_, f1, f2⟩, f3⟩
  by_cases e : i = ns
  · subst e
    rw [uD_s]
    refine ⟨by rw [g12]; exact hZ, h50, ⟨L, by rw [g12]; exact hF, by rw [hA i (Nat.le_refl _)]; exact g13, ?_, h1⟩, fun z => absurd z ha⟩
    rw [upw_s, hA i (Nat.le_refl _), tgl_0 ha]
    rfl
  · have hi2 : i < ns := by omega
    rw [uD_n e]
    have mo := A_mono k15 (ns - (i + 1)) (i + 1) (by omega)
    rw [show i + 1 + (ns - (i + 1)) = ns by omega] at mo
    exact STP_c (k15 i hi2) (g10.1 i hi2 (by omega)) (fun k hk => g10.2.1 k hk (by omega)) g10.2.2 (fun k _ hk => g11 k (by omega)) g17 (by omega) hnk hnv hwd (hA i (by omega)) (hA (i + 1) (by omega)) (fun a b => hA _ ((k16 i hi2).2.2.2.2 a b).1) (fun z => z)
end RU
