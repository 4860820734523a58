/-! 51: plain statements -/
/-- what becomes of a statement -/
def SO (m : Nat) (s : Nat → Nat) (t nk nv : Nat) (wd : Nat → Nat) (fc fr : Option xr) : Prop :=
  (∃ t2 nk2 nv2 wd2 nb2 ns2 ty2 op2 kd2 A2 D2 np2 nu2 Sc2 Sr2, t < t2 ∧ nk ≤ nk2 ∧ nv ≤ nv2 ∧ (∀ k, k < nk → wd2 k = wd k) ∧ fc = some (rV Sc2) ∧ fr = some (rI 1 Sr2) ∧ SI Sc2 Sr2 m s t2 nk2 nv2 wd2 nb2 ns2 ty2 op2 kd2 A2 D2 np2 nu2) ∨ (∃ Sc2 Sr2, fc = some (rA Sc2) ∧ fr = some (rI 0 Sr2) ∧ r_bad Sc2 Sr2 m s nk nv wd)
section PS
variable {S0 R0 Sc Sr Sc' Sr' : xS} {m t t' nk nv nv' nb ns np0 nu0 nu np rk0 N : Nat} {s wd ty op kd A : Nat → Nat} {Z : Nat → Int32} {L : List Int32} {X : List xX} {U : List (Nat × Nat)} {M : List Nat} {D : Nat → xD}
theorem MI_x (h : MI S0 R0 Sc Sr m s t nk nv wd nb ns ty op kd A np0 nu0 np Z L X U M) {x : xX} (hx : x ∈ X) : EXC Sc np x.1 (sc2 (scb3 nb ty kd)) x.2.1 x.2.2 := EXC_m (h.2.2.2.2.2.2.2.2.2.2.2.2.2.1 x hx) (fun b d z => scb_3 kd z)
theorem MI_np (h : MI S0 R0 Sc Sr m s t nk nv wd nb ns ty op kd A np0 nu0 np Z L X U M) : np ≤ t ∧ t ≤ m ∧ m ≤ 150 ∧ nu0 + U.length ≤ t := ⟨h.2.2.2.2.2.2.2.2.2.2.2.2.2.2.2.2.2.1, h.1.2.1, h.1.1.1, h.2.2.2.2.2.2.2.2.2.2.2.2.2.2.2.2.2.2.1⟩
theorem SI_b (h : SI Sc Sr m s t nk nv wd nb ns ty op kd A D np nu) : ns ≤ t ∧ np ≤ t ∧ nu ≤ t ∧ A ns ≤ 12 * t ∧ t ≤ m ∧ m ≤ 150 ∧ nk ≤ 7 ∧ nb ≤ 10 := ⟨h.2.2.2.2.2.2.2.2.2.1, h.2.2.2.2.2.2.2.2.2.2.1, h.2.2.2.2.2.2.2.2.2.2.2.1, h.2.2.2.2.2.2.2.2.2.2.2.2.1, h.1.2.1, h.1.1.1, h.1.2.2.2.2.2.1.1, h.2.1.1⟩
theorem SI_done {nv0 t0 : Nat} (hS : SI S0 R0 m s t0 nk nv0 wd nb ns ty op kd A D np0 nu0) (h : MI S0 R0 Sc Sr m s t nk nv wd nb ns ty op kd A np0 nu0 np Z L X U M) (ht0 : t0 < t) (hnv : nv0 ≤ nv) (d : xD) (hd : d.2.2.2.2.2 = scb3 nb ty kd) (ha : ¬ tga d.1) (hZ : Z 0 = nn d.1) (h50 : d.1 ≤ 50) (hF : STF Sc Z np (nu0 + U.length) nk nv wd d L) (h1 : 1 ≤ L.length) (hb : A ns + L.length ≤ 12 * t) (h8 : ¬ d.1 = 8) :
    SI Sc Sr m s t nk nv wd nb (ns + 1) ty op kd (upw A (ns + 1) (A ns + L.length)) (uD D ns d) np (nu0 + U.length) := by
  obtain ⟨b1, _⟩ := SI_b hS
  refine SJ_I (SI_fin (SI_J hS) hS.2.2.2.2.2.2.2.2.2.2.2.2.2.2.2.2.2 (Nat.le_refl _) hnv (fun _ _ => rfl) h (by omega) d hd ha hZ h50 hF h1 hb (by omega)).1 (fun i hi => ?_)
  have : i = ns := by omega
  subst this
  rw [uD_s]
  exact h8
theorem so_ok {t2 nv2 ns2 np2 nu2 : Nat} {A2 : Nat → Nat} {D2 : Nat → xD} {Sc2 Sr2 : xS} {fc fr : Option xr} (ht : t < t2) (hv : nv ≤ nv2) (h1 : fc = some (rV Sc2)) (h2 : fr = some (rI 1 Sr2)) (h : SI Sc2 Sr2 m s t2 nk nv2 wd nb ns2 ty op kd A2 D2 np2 nu2) : SO m s t nk nv wd fc fr := Or.inl ⟨t2, nk, nv2, wd, nb, ns2, ty, op, kd, A2, D2, np2, nu2, Sc2, Sr2, ht, Nat.le_refl _, hv, fun _ _ => rfl, h1, h2, h⟩
/-- the reference's way to a statement -/
theorem st_pre (h : r_P Sc Sr m s t nk nv wd) (hs : 1 ≤ s t ∧ s t ≤ 20) : Sr.1 503 20 = nn t ∧ Sr.1 514 t = nn 3 ∧ Sr.2.1 516 t = ll (s t - 1) ∧ t ≤ 150 ∧ f_X12_isSign N 125 Sr = some (rI 0 Sr) := by
  have hl := s_le h
  have b2 := p_tok h
  rw [(tkr_3 hl).mpr hs] at b2
  have b3 := (h.1.2.2.2.2.2 t h.2.1).2.2.2.1 (by omega) (by omega)
  rw [show tki (s t) = s t - 1 from if_pos (by omega)] at b3
  exact ⟨h.2.2.2.1, b2, b3, by have := h.2.1; have := h.1.1; omega, p_isSign0 (N := N) h 32 (c := 125) rfl (by decide) (by decide) (by omega)⟩
theorem st_on (h : r_P Sc Sr m s t nk nv wd) (k : Nat) (hk : k = 1 ∨ k = 2 ∨ k = 4) (hs : s t = k + 1) : f_X12_statement N Sr = xcI (f_X12_onKind N (nn k) Sr) (fun v S => if xbo v then some (.inl (some (.inl v)), S) else none) := by
  obtain ⟨a1, a2, a3, a4, a5⟩ := st_pre (N := N) h (by omega)
  rw [hs, Nat.add_sub_cancel] at a3
  rcases hk with rfl | rfl | rfl <;> simp (disch := omega) only [nn_add, nn_addl, l_add_nn, nn_sub, nn_subl, nn_m1, nn_mull, nn_t, nn_i, l_t, nn_lt, nn_le, nn_eq, nn_ltl, l_lt_nn, nn_lel, l_le_nn, nn_eql, l_eql, nn_nm1, xin_nn, xin_l, m1_lt, m1_le, m1_p, m1_z, dlt_T, dlt_F, dle_T, dle_F, deq_T, deq_F, sI_c, sI_n, sI_J, sI_E, sJ_c, sJ_n, sJ_I, sJ_E, sE_I, sE_J, sE_E, xcI_i, xcJ_i, xcR_i, xcV_i, xcI_e, xcJ_e, xcR_e, xcV_e, if_true, if_false, ite_true, ite_false, true_and, and_true, false_and, and_false, or_true, true_or, or_false, false_or, not_true_eq_false, not_false_eq_true, eq_self, ne_eq, ↓reduceIte, Nat.reduceEqDiff, Nat.reduceLT, Nat.reduceLeDiff, Nat.reduceAdd, Nat.reduceMul, Nat.reduceSub, Int32.reduceLT, Int32.reduceLE, reduceCtorEq, f_X12_statement, ↓xcI_of a5, a1, a2, a3, ll_nn, List.mem_cons, List.not_mem_nil, ci_eq]
theorem st_lp (h : r_P Sc Sr m s t nk nv wd) (k : Nat) (hk : k = 0 ∨ k = 1) (hs : s t = 7 - k) : f_X12_statement N Sr = xcI (f_X12_letOrPrint N (nn k) Sr) (fun v S => if xbo v then some (.inl (some (.inl v)), S) else none) := by
  obtain ⟨a1, a2, a3, a4, a5⟩ := st_pre (N := N) h (by omega)
  rw [hs] at a3
  rcases hk with rfl | rfl <;> simp (disch := omega) only [nn_add, nn_addl, l_add_nn, nn_sub, nn_subl, nn_m1, nn_mull, nn_t, nn_i, l_t, nn_lt, nn_le, nn_eq, nn_ltl, l_lt_nn, nn_lel, l_le_nn, nn_eql, l_eql, nn_nm1, xin_nn, xin_l, m1_lt, m1_le, m1_p, m1_z, dlt_T, dlt_F, dle_T, dle_F, deq_T, deq_F, sI_c, sI_n, sI_J, sI_E, sJ_c, sJ_n, sJ_I, sJ_E, sE_I, sE_J, sE_E, xcI_i, xcJ_i, xcR_i, xcV_i, xcI_e, xcJ_e, xcR_e, xcV_e, if_true, if_false, ite_true, ite_false, true_and, and_true, false_and, and_false, or_true, true_or, or_false, false_or, not_true_eq_false, not_false_eq_true, eq_self, ne_eq, ↓reduceIte, Nat.reduceEqDiff, Nat.reduceLT, Nat.reduceLeDiff, Nat.reduceAdd, Nat.reduceMul, Nat.reduceSub, Int32.reduceLT, Int32.reduceLE, reduceCtorEq, f_X12_statement, f_X12_statement_156, ↓xcI_of a5, a1, a2, a3, ll_nn, List.mem_cons, List.not_mem_nil, ci_eq] <;> rfl
theorem st_cd (h : r_P Sc Sr m s t nk nv wd) (k : Nat) (hk : k = 0 ∨ k = 1) (hs : s t = 10 + 2 * k) : f_X12_statement N Sr = xcI (f_X12_condition N (nn k) Sr) (fun v S => if xbo v then some (.inl (some (.inl v)), S) else none) := by
  obtain ⟨a1, a2, a3, a4, a5⟩ := st_pre (N := N) h (by omega)
  rw [hs] at a3
  rcases hk with rfl | rfl <;> simp (disch := omega) only [nn_add, nn_addl, l_add_nn, nn_sub, nn_subl, nn_m1, nn_mull, nn_t, nn_i, l_t, nn_lt, nn_le, nn_eq, nn_ltl, l_lt_nn, nn_lel, l_le_nn, nn_eql, l_eql, nn_nm1, xin_nn, xin_l, m1_lt, m1_le, m1_p, m1_z, dlt_T, dlt_F, dle_T, dle_F, deq_T, deq_F, sI_c, sI_n, sI_J, sI_E, sJ_c, sJ_n, sJ_I, sJ_E, sE_I, sE_J, sE_E, xcI_i, xcJ_i, xcR_i, xcV_i, xcI_e, xcJ_e, xcR_e, xcV_e, if_true, if_false, ite_true, ite_false, true_and, and_true, false_and, and_false, or_true, true_or, or_false, false_or, not_true_eq_false, not_false_eq_true, eq_self, ne_eq, ↓reduceIte, Nat.reduceEqDiff, Nat.reduceLT, Nat.reduceLeDiff, Nat.reduceAdd, Nat.reduceMul, Nat.reduceSub, Int32.reduceLT, Int32.reduceLE, reduceCtorEq, f_X12_statement, f_X12_statement_177, ↓xcI_of a5, a1, a2, a3, ll_nn, List.mem_cons, List.not_mem_nil, ci_eq] <;> rfl
theorem st_each (h : r_P Sc Sr m s t nk nv wd) (hs : s t = 8) : f_X12_statement N Sr = xcI (f_X12_each N Sr) (fun v S => if xbo v then some (.inl (some (.inl v)), S) else none) := by
  obtain ⟨a1, a2, a3, a4, a5⟩ := st_pre (N := N) h (by omega)
  rw [hs] at a3
  simp (disch := omega) only [nn_add, nn_addl, l_add_nn, nn_sub, nn_subl, nn_m1, nn_mull, nn_t, nn_i, l_t, nn_lt, nn_le, nn_eq, nn_ltl, l_lt_nn, nn_lel, l_le_nn, nn_eql, l_eql, nn_nm1, xin_nn, xin_l, m1_lt, m1_le, m1_p, m1_z, dlt_T, dlt_F, dle_T, dle_F, deq_T, deq_F, sI_c, sI_n, sI_J, sI_E, sJ_c, sJ_n, sJ_I, sJ_E, sE_I, sE_J, sE_E, xcI_i, xcJ_i, xcR_i, xcV_i, xcI_e, xcJ_e, xcR_e, xcV_e, if_true, if_false, ite_true, ite_false, true_and, and_true, false_and, and_false, or_true, true_or, or_false, false_or, not_true_eq_false, not_false_eq_true, eq_self, ne_eq, ↓reduceIte, Nat.reduceEqDiff, Nat.reduceLT, Nat.reduceLeDiff, Nat.reduceAdd, Nat.reduceMul, Nat.reduceSub, Int32.reduceLT, Int32.reduceLE, reduceCtorEq, f_X12_statement, ↓xcI_of a5, a1, a2, a3, ll_nn, List.mem_cons, List.not_mem_nil, ci_eq]
theorem st_rem (h : r_P Sc Sr m s t nk nv wd) (hs : s t = 13) : f_X12_statement N Sr = xcI (f_X12_cursor N 1 Sr) (fun v S => if xbo v then some (.inl (some (.inl v)), S) else none) := by
  obtain ⟨a1, a2, a3, a4, a5⟩ := st_pre (N := N) h (by omega)
  rw [hs] at a3
  simp (disch := omega) only [nn_add, nn_addl, l_add_nn, nn_sub, nn_subl, nn_m1, nn_mull, nn_t, nn_i, l_t, nn_lt, nn_le, nn_eq, nn_ltl, l_lt_nn, nn_lel, l_le_nn, nn_eql, l_eql, nn_nm1, xin_nn, xin_l, m1_lt, m1_le, m1_p, m1_z, dlt_T, dlt_F, dle_T, dle_F, deq_T, deq_F, sI_c, sI_n, sI_J, sI_E, sJ_c, sJ_n, sJ_I, sJ_E, sE_I, sE_J, sE_E, xcI_i, xcJ_i, xcR_i, xcV_i, xcI_e, xcJ_e, xcR_e, xcV_e, if_true, if_false, ite_true, ite_false, true_and, and_true, false_and, and_false, or_true, true_or, or_false, false_or, not_true_eq_false, not_false_eq_true, eq_self, ne_eq, ↓reduceIte, Nat.reduceEqDiff, Nat.reduceLT, Nat.reduceLeDiff, Nat.reduceAdd, Nat.reduceMul, Nat.reduceSub, Int32.reduceLT, Int32.reduceLE, reduceCtorEq, f_X12_statement, ↓xcI_of a5, a1, a2, a3, ll_nn, List.mem_cons, List.not_mem_nil, ci_eq]
theorem st_kind (h : r_P Sc Sr m s t nk nv wd) (hs : s t = 1) : f_X12_statement N Sr = xcV (f_X12_emit N 100 Sr) (fun S => xcI (f_X12_newKind N S) (fun v S => if xbo v then some (.inl (some (.inl v)), S) else none)) := by
  obtain ⟨a1, a2, a3, a4, a5⟩ := st_pre (N := N) h (by omega)
  rw [hs] at a3
  simp (disch := omega) only [nn_add, nn_addl, l_add_nn, nn_sub, nn_subl, nn_m1, nn_mull, nn_t, nn_i, l_t, nn_lt, nn_le, nn_eq, nn_ltl, l_lt_nn, nn_lel, l_le_nn, nn_eql, l_eql, nn_nm1, xin_nn, xin_l, m1_lt, m1_le, m1_p, m1_z, dlt_T, dlt_F, dle_T, dle_F, deq_T, deq_F, sI_c, sI_n, sI_J, sI_E, sJ_c, sJ_n, sJ_I, sJ_E, sE_I, sE_J, sE_E, xcI_i, xcJ_i, xcR_i, xcV_i, xcI_e, xcJ_e, xcR_e, xcV_e, if_true, if_false, ite_true, ite_false, true_and, and_true, false_and, and_false, or_true, true_or, or_false, false_or, not_true_eq_false, not_false_eq_true, eq_self, ne_eq, ↓reduceIte, Nat.reduceEqDiff, Nat.reduceLT, Nat.reduceLeDiff, Nat.reduceAdd, Nat.reduceMul, Nat.reduceSub, Int32.reduceLT, Int32.reduceLE, reduceCtorEq, f_X12_statement, ↓xcI_of a5, a1, a2, a3, ll_nn, List.mem_cons, List.not_mem_nil, ci_eq]
theorem st_ends (h : r_P Sc Sr m s t nk nv wd) (hs : s t = 32) : f_X12_statement N Sr = xcI (f_X12_ends N Sr) (fun v S => if xbo v then some (.inl (some (.inl v)), S) else none) := by
  have a5 := p_isSign1 (N := N) h 32 (c := 125) rfl (by decide) (by decide) hs
  unfold f_X12_statement
  rw [xcI_of a5, if_neg (by decide)]
theorem st_chg (h : r_P Sc Sr m s t nk nv wd) (hs : s t = 40) : f_X12_statement N Sr = xcI (f_X12_cursor N 0 Sr) (fun v S => if xbo v then some (.inl (some (.inl v)), S) else none) := by
  have a1 := h.2.2.2.1
  have a2 := p_tok h
  rw [hs, show tkr 40 = 1 from rfl] at a2
  have a5 := p_isSign0 (N := N) h 32 (c := 125) rfl (by decide) (by decide) (by omega)
  have htm := h.2.1
  have hm := h.1.1
  simp (disch := omega) only [nn_add, nn_addl, l_add_nn, nn_sub, nn_subl, nn_m1, nn_mull, nn_t, nn_i, l_t, nn_lt, nn_le, nn_eq, nn_ltl, l_lt_nn, nn_lel, l_le_nn, nn_eql, l_eql, nn_nm1, xin_nn, xin_l, m1_lt, m1_le, m1_p, m1_z, dlt_T, dlt_F, dle_T, dle_F, deq_T, deq_F, sI_c, sI_n, sI_J, sI_E, sJ_c, sJ_n, sJ_I, sJ_E, sE_I, sE_J, sE_E, xcI_i, xcJ_i, xcR_i, xcV_i, xcI_e, xcJ_e, xcR_e, xcV_e, if_true, if_false, ite_true, ite_false, true_and, and_true, false_and, and_false, or_true, true_or, or_false, false_or, not_true_eq_false, not_false_eq_true, eq_self, ne_eq, ↓reduceIte, Nat.reduceEqDiff, Nat.reduceLT, Nat.reduceLeDiff, Nat.reduceAdd, Nat.reduceMul, Nat.reduceSub, Int32.reduceLT, Int32.reduceLE, reduceCtorEq, f_X12_statement, ↓xcI_of a5, a1, a2]
theorem st_bad (h : r_P Sc Sr m s t nk nv wd) (hs : s t = 4 ∨ s t = 9 ∨ s t = 11 ∨ (14 ≤ s t ∧ ¬ s t = 32 ∧ ¬ s t = 40)) : f_X12_statement N Sr = some (rI 0 (badR Sr s t)) := by
  have a1 := h.2.2.2.1
  have a2 := p_tok h
  have hl := s_le h
  have a5 := p_isSign0 (N := N) h 32 (c := 125) rfl (by decide) (by decide) (by omega)
  have htm := h.2.1
  have hm := h.1.1
  have b9 := tkr_lt (s t)
  have a6 := p_wrong (N := N) h
  by_cases h3 : 1 ≤ s t ∧ s t ≤ 20
  · obtain ⟨_, _, a3, _, _⟩ := st_pre (N := N) h h3
    rw [(tkr_3 hl).mpr h3] at a2
    simp (disch := omega) only [nn_add, nn_addl, l_add_nn, nn_sub, nn_subl, nn_m1, nn_mull, nn_t, nn_i, l_t, nn_lt, nn_le, nn_eq, nn_ltl, l_lt_nn, nn_lel, l_le_nn, nn_eql, l_eql, nn_nm1, xin_nn, xin_l, m1_lt, m1_le, m1_p, m1_z, dlt_T, dlt_F, dle_T, dle_F, deq_T, deq_F, sI_c, sI_n, sI_J, sI_E, sJ_c, sJ_n, sJ_I, sJ_E, sE_I, sE_J, sE_E, xcI_i, xcJ_i, xcR_i, xcV_i, xcI_e, xcJ_e, xcR_e, xcV_e, if_true, if_false, ite_true, ite_false, true_and, and_true, false_and, and_false, or_true, true_or, or_false, false_or, not_true_eq_false, not_false_eq_true, eq_self, ne_eq, ↓reduceIte, Nat.reduceEqDiff, Nat.reduceLT, Nat.reduceLeDiff, Nat.reduceAdd, Nat.reduceMul, Nat.reduceSub, Int32.reduceLT, Int32.reduceLE, reduceCtorEq, f_X12_statement, ↓xcI_of a5, a1, a2, a3, ll_nn, List.mem_cons, List.not_mem_nil, ci_eq, a6, xbo]
  · have n3 : ¬ tkr (s t) = 3 := fun z => h3 ((tkr_3 hl).mp z)
    have n1 : ¬ tkr (s t) = 1 := fun z => by have := (tkr_1 hl).mp z; omega
    simp (disch := omega) only [nn_add, nn_addl, l_add_nn, nn_sub, nn_subl, nn_m1, nn_mull, nn_t, nn_i, l_t, nn_lt, nn_le, nn_eq, nn_ltl, l_lt_nn, nn_lel, l_le_nn, nn_eql, l_eql, nn_nm1, xin_nn, xin_l, m1_lt, m1_le, m1_p, m1_z, dlt_T, dlt_F, dle_T, dle_F, deq_T, deq_F, sI_c, sI_n, sI_J, sI_E, sJ_c, sJ_n, sJ_I, sJ_E, sE_I, sE_J, sE_E, xcI_i, xcJ_i, xcR_i, xcV_i, xcI_e, xcJ_e, xcR_e, xcV_e, if_true, if_false, ite_true, ite_false, true_and, and_true, false_and, and_false, or_true, true_or, or_false, false_or, not_true_eq_false, not_false_eq_true, eq_self, ne_eq, ↓reduceIte, Nat.reduceEqDiff, Nat.reduceLT, Nat.reduceLeDiff, Nat.reduceAdd, Nat.reduceMul, Nat.reduceSub, Int32.reduceLT, Int32.reduceLE, reduceCtorEq, f_X12_statement, ↓xcI_of a5, a1, a2, a6, xbo]
theorem xb1 {S : xS} : (fun (v : Int32) (S : xS) => if xbo v then (some (.inl (some (.inl v)), S) : Option xr) else none) 1 S = some (rI 1 S) := if_pos (Or.inr rfl)
theorem xb0 {S : xS} : (fun (v : Int32) (S : xS) => if xbo v then (some (.inl (some (.inl v)), S) : Option xr) else none) 0 S = some (rI 0 S) := if_pos (Or.inl rfl)
theorem p_print (hN : 1000 < N) (h : SI Sc Sr m s t nk nv wd nb ns ty op kd A D np nu) (hs : s t = 7) : SO m s t nk nv wd (f_X6_output N Sc) (f_X12_statement N Sr) := by
  have ht := h.1.lt (by omega) (by omega)
  obtain ⟨c1, c2, c3, c4, c5, c6, c7, c8⟩ := SI_b h
  obtain ⟨a1, m0⟩ := MI_0 (N := N) (SI_J h) (by omega) 7 (x := 7) rfl
  obtain ⟨e1, m1⟩ := MI_em (N := N) (v := 100) m0 (by simp only [List.length_nil]; omega)
  have m2 := MI_n m1 ht
  have hp := p_pass (N := N) m1.1 ht
  have h20 := m1.1.2.2.2.1
  have xs : xStep (102 + 2 * ns) := ⟨by omega, by omega, by omega⟩
  have cls : f_X6_output N Sc = xcI (f_X1_read N 0 (sI (sI (sI Sc (102 + 2 * ns) 0 (nn 7)) 97 4 (nn (ns + 1))) 1 7 (nn (t + 1)))) (fun v15 S14 => xcV (f_X9_take N 34 (sI S14 (102 + 2 * ns) 6 v15)) (fun S17 => some (.inl none, S17))) := by
    unfold f_X6_output
    rw [xcR_of a1, xcV_of hp]
    simp only [if_pos xs]
  have ref : f_X12_statement N Sr = xcI (xcI (f_X12_inline N (sI (em Sr (A ns + ([] : List Int32).length) 100) 503 20 (nn (t + 1)))) (fun v65 S64 => if v65 = 0 then some (.inl (some (.inl 0)), S64) else f_X12_letOrPrint_97 N 0 102 S64)) (fun v S => if xbo v then some (.inl (some (.inl v)), S) else none) := by
    rw [st_lp h.1 0 (Or.inl rfl) hs]
    unfold f_X12_letOrPrint
    rw [xcV_of e1, if_pos (show nn 0 = 0 from rfl), h20, nn_addl]
    rfl
  rcases MI_inl hN m2 (by omega) (by simp only [List.length_append, List.length_cons, List.length_nil]; omega) with ⟨t2, nv2, E, np2, Sc2, Sr2, q1, q2, q3, q4, q5, q6⟩ | ⟨Sc2, Sr2, q4, q5, q6⟩
  · rw [xcI_of q4] at cls
    rw [xcI_of q5, if_neg (by decide)] at ref
    obtain ⟨d1, d2, d3, d4⟩ := MI_np q6
    have m3 := MI_set q6 6 (nn np)
    obtain ⟨e2, m4⟩ := MI_em (N := N) (v := 102) m3 (by omega)
    obtain ⟨e3, m5⟩ := MI_em (N := N) (v := 0) m4 (by rw [List.length_append, List.length_singleton]; omega)
    unfold f_X12_letOrPrint_97 at ref
    rw [xcV_of e2, xcV_of e3] at ref
    rcases MI_sign (N := N) m5 34 (x := 34) (c := 59) rfl rfl (by decide) (by decide) with ⟨r1, r2, r3, r4, m6⟩ | ⟨r3, r4, r5⟩
    · rw [xcV_of r3] at cls
      rw [xcI_of r4, if_pos (Or.inr rfl), xcI_i, if_pos (Or.inr rfl)] at ref
      refine so_ok (t2 := t2 + 1) (by omega) q2 cls ref (SI_done h m6 (by omega) (by omega) (7, 0, 0, 0, 0, scb3 nb ty kd) rfl (show ¬ tga 7 by unfold tga; decide) rfl (show 7 ≤ 50 by decide) ?_ (by simp) ?_ (show ¬ 7 = 8 by decide))
      · exact Or.inr (Or.inr (Or.inr (Or.inr (Or.inr (Or.inl ⟨rfl, np, E, rfl, MI_x m6 List.mem_cons_self, by simp⟩)))))
      · simp only [List.length_append, List.length_cons, List.length_nil] at q3 ⊢
        omega
    · rw [xcV_oe r3] at cls
      rw [xcI_of r4, if_pos (Or.inl rfl), xcI_i, if_pos (Or.inl rfl)] at ref
      exact Or.inr ⟨_, _, cls, ref, r_bad_v r5 q2⟩
  · rw [xcI_oe q4] at cls
    rw [xcI_of q5, if_pos rfl, xcI_i, if_pos (Or.inl rfl)] at ref
    exact Or.inr ⟨_, _, cls, ref, q6⟩
end PS
