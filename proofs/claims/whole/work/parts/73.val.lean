/-! 73: expressions with aggregates, in the reference -/
def whE (e : xCe) : Nat := e.1.2.1.toNatClampNeg
/-- what an aggregate is worth -/
def aggE (ow : Nat → Nat) (V : Nat → Int32) (Fw : Nat → Nat → Int32) (C : Nat → Nat → Int32) (e : xCe) : Int32 := agf (whE e) (fun v => decide (ow v = e.1.2.2.1 + 1) && (if e.1.1 = 30 then decide (¬ evl V (Fw v) C e.2 = 0) else true)) (fun v => Fw v e.1.2.2.2.1) 64 0 0 0
def stE (ow : Nat → Nat) (V : Nat → Int32) (Fw : Nat → Nat → Int32) (C : Nat → Nat → Int32) (e : xCe) (st : List Int32) : List Int32 := if e.1.1 = 30 ∨ e.1.1 = 32 then aggE ow V Fw C e :: st else stp V (fun _ => 0) C e.1 st
def evE (ow : Nat → Nat) (V : Nat → Int32) (Fw : Nat → Nat → Int32) (C : Nat → Nat → Int32) : List xCe → List Int32 → List Int32
  | [], st => st
  | e :: E, st => evE ow V Fw C E (stE ow V Fw C e st)
abbrev it1 : xIt := (1, 1, 0, 0, 0)
def cnd (e : xCe) : List xIt := if e.1.1 = 30 then e.2 else [it1]
section VR
variable {N n : Nat} {ow : Nat → Nat} {V F : Nat → Int32} {Fw : Nat → Nat → Int32} {C : Nat → Nat → Int32} {sc : Nat → Nat → Prop} {x1 xl x6 x7 x8 x9 : Int32} {S S' : xS}
/-- what the reference's rows say, for all words -/
def ENR (S : xS) (ow : Nat → Nat) (V : Nat → Int32) (Fw : Nat → Nat → Int32) (C : Nat → Nat → Int32) (sc : Nat → Nat → Prop) : Prop := (∀ v, v < 64 → ow v ≤ 7 ∧ S.1 511 v = nn (ow v)) ∧ envR S V (fun _ => 0) C False sc 0 ∧ ∀ v, v < 64 → ¬ ow v = 0 → ∀ f, f < 6 → S.1 512 (6 * v + f) = Fw v f
theorem ENR_w (h : ENR S ow V Fw C sc) {v : Nat} (hv : v < 64) (h0 : ¬ ow v = 0) : envR S V (Fw v) C True sc (nn v) := by
  obtain ⟨h1, ⟨e1, e2, e3⟩, h3⟩ := h
  refine ⟨e1, fun _ => ⟨v, hv, rfl, ?_, h3 v hv h0⟩, e3⟩
  rw [(h1 v hv).2]
  have := (h1 v hv).1
  simp (disch := omega) only [nn_add, nn_addl, l_add_nn, nn_sub, nn_subl, nn_m1, nn_mull, nn_t, nn_i, l_t, nn_lt, nn_le, nn_eq, nn_ltl, l_lt_nn, nn_lel, l_le_nn, nn_eql, l_eql, nn_nm1, xin_nn, xin_l, m1_lt, m1_le, m1_p, m1_z, dlt_T, dlt_F, dle_T, dle_F, deq_T, deq_F, sI_c, sI_n, sI_J, sI_E, sJ_c, sJ_n, sJ_I, sJ_E, sE_I, sE_J, sE_E, xcI_i, xcJ_i, xcR_i, xcV_i, xcI_e, xcJ_e, xcR_e, xcV_e, if_true, if_false, ite_true, ite_false, true_and, and_true, false_and, and_false, or_true, true_or, or_false, false_or, not_true_eq_false, not_false_eq_true, eq_self, ne_eq, ↓reduceIte, Nat.reduceEqDiff, Nat.reduceLT, Nat.reduceLeDiff, Nat.reduceAdd, Nat.reduceMul, Nat.reduceSub, Int32.reduceLT, Int32.reduceLE, reduceCtorEq]
theorem ENR_f (h : ENR S ow V Fw C sc) : envR S V F C False sc x6 := ⟨h.2.1.1, fun z => z.elim, h.2.1.2.2⟩
theorem ENR_k (h : ENR S ow V Fw C sc) (hk : k524 S S') : ENR S' ow V Fw C sc := ⟨fun v hv => ⟨(h.1 v hv).1, by rw [hk.1 511 (by decide)]; exact (h.1 v hv).2⟩, envR_k h.2.1 hk, fun v hv h0 f hf => by rw [hk.1 512 (by decide)]; exact h.2.2 v hv h0 f hf⟩
theorem e_agg {q what k f E0 : Nat} {c : List xIt} {st : List Int32} (hN : 1000 < N) (hE : x1 + xl = nn E0) (hE2 : E0 < 3000) (hq : q + 4 + (cdl c).length + 1 ≤ E0) (hst : st.length + c.length + 1 < 200) (hA : AGC S q what k f c sc) (hen : ENR S ow V Fw C sc) (hs : SK S 524 st) (hn : 64 * (c.length + 1) + 1 ≤ n) :
    ∃ n2 x6' x7' x8' x9' S', n ≤ n2 + (64 * (c.length + 1) + 1) ∧ f_X12_eval_18 N n x1 xl (nn st.length) (nn q) x6 x7 x8 x9 S = f_X12_eval_18 N n2 x1 xl (nn (st.length + 1)) (nn (q + 4 + (cdl c).length + 1)) x6' x7' x8' x9' S' ∧ SK S' 524 (agf what (fun v => decide (ow v = k + 1) && decide (¬ evl V (Fw v) C c = 0)) (fun v => Fw v f) 64 0 0 0 :: st) ∧ k524 S S' := by
  have ⟨a1, a2, a3, a4, a5, a6, a7, a8, a9, a10, a11⟩ := hA
  obtain ⟨m, hm⟩ : ∃ m, n = m + 1 := ⟨n - 1, by omega⟩
  obtain ⟨w0, u1, u2, u3, u4, u5⟩ := p_next_l (N := N) (k := k) a10 hen.1 64 0 N (by omega) (by omega)
  have u5' : f_X12_nextOf N (nn k) 0 S = some (rI (nn w0) S) := u5
  have ts : (nn st.length).toNatClampNeg = st.length := nn_t (by omega)
  have e2' : (nn q + 2 : Int32) = nn (q + 2) := nn_addl q 2
  have e4' : (nn q + 4 : Int32) = nn (q + 4) := nn_addl q 4
  have es : (nn st.length + 1 : Int32) = nn (st.length + 1) := nn_addl _ 1
  have t2 : (nn (q + 2)).toNatClampNeg = q + 2 := nn_t (by omega)
  have d30 : f_X12_eval_18 N n x1 xl (nn st.length) (nn q) x6 x7 x8 x9 S = if 64 ≤ nn w0 then xcI (f_X12_endOf N (nn q) S) (fun v167 S166 => f_X12_eval_333 N (f_X12_eval_18 N m) x1 xl (nn st.length) (nn w0) (nn q) 0 0 v167 S166) else f_X12_eval_333 N (f_X12_eval_18 N m) x1 xl (nn st.length) (nn w0) (nn q) 0 0 (nn (q + 4)) S := by
    rw [hm, e_disp (by rw [hE]; simp (disch := omega) only [nn_add, nn_addl, l_add_nn, nn_sub, nn_subl, nn_m1, nn_mull, nn_t, nn_i, l_t, nn_lt, nn_le, nn_eq, nn_ltl, l_lt_nn, nn_lel, l_le_nn, nn_eql, l_eql, nn_nm1, xin_nn, xin_l, m1_lt, m1_le, m1_p, m1_z, dlt_T, dlt_F, dle_T, dle_F, deq_T, deq_F, sI_c, sI_n, sI_J, sI_E, sJ_c, sJ_n, sJ_I, sJ_E, sE_I, sE_J, sE_E, xcI_i, xcJ_i, xcR_i, xcV_i, xcI_e, xcJ_e, xcR_e, xcV_e, if_true, if_false, ite_true, ite_false, true_and, and_true, false_and, and_false, or_true, true_or, or_false, false_or, not_true_eq_false, not_false_eq_true, eq_self, ne_eq, ↓reduceIte, Nat.reduceEqDiff, Nat.reduceLT, Nat.reduceLeDiff, Nat.reduceAdd, Nat.reduceMul, Nat.reduceSub, Int32.reduceLT, Int32.reduceLE, reduceCtorEq, not_false_eq_true]) (by omega) a1 (by decide), if_neg (by decide), if_neg (by decide), if_neg (by decide), if_neg (by decide), if_neg (by decide), if_neg (by decide), if_pos rfl]
    simp only [e2', e4', t2, a3, if_pos ((xin_nn (a := q + 2) (n := 3000) (by omega)).mpr (by omega))]
    rw [xcI_of u5']
  have hch : ∀ v, v < 64 → ow v = k + 1 → Fw v f = S.1 512 (6 * v + f) := fun v hv h0 => (hen.2.2 v hv (by omega) f a11).symm
  have sk := agf_skip (what := what) (ch := fun v => decide (ow v = k + 1) && decide (¬ evl V (Fw v) C c = 0)) (val := fun v => Fw v f) (res := 0) (cn := 0) w0 (64 - w0) 0 (fun v a b => by
    have := u4 v a (by omega)
    simp [this])
  rw [show w0 + (64 - w0) = 64 by omega, Nat.zero_add] at sk
  by_cases c64 : w0 = 64
  · subst c64
    have hend := p_endOf_l (N := N) (S := S) c (q + 4) N a7 a5 a6 (by omega) (by omega)
    have hend' : f_X12_endOf N (nn q) S = some (rI (nn (q + 4 + (cdl c).length + 1)) S) := by
      unfold f_X12_endOf
      rw [e4']
      exact hend
    rw [if_pos (by simp (disch := omega) only [nn_add, nn_addl, l_add_nn, nn_sub, nn_subl, nn_m1, nn_mull, nn_t, nn_i, l_t, nn_lt, nn_le, nn_eq, nn_ltl, l_lt_nn, nn_lel, l_le_nn, nn_eql, l_eql, nn_nm1, xin_nn, xin_l, m1_lt, m1_le, m1_p, m1_z, dlt_T, dlt_F, dle_T, dle_F, deq_T, deq_F, sI_c, sI_n, sI_J, sI_E, sJ_c, sJ_n, sJ_I, sJ_E, sE_I, sE_J, sE_E, xcI_i, xcJ_i, xcR_i, xcV_i, xcI_e, xcJ_e, xcR_e, xcV_e, if_true, if_false, ite_true, ite_false, true_and, and_true, false_and, and_false, or_true, true_or, or_false, false_or, not_true_eq_false, not_false_eq_true, eq_self, ne_eq, ↓reduceIte, Nat.reduceEqDiff, Nat.reduceLT, Nat.reduceLeDiff, Nat.reduceAdd, Nat.reduceMul, Nat.reduceSub, Int32.reduceLT, Int32.reduceLE, reduceCtorEq]), xcI_of hend'] at d30
    refine ⟨m, nn 64, nn q, 0, 0, sI S 524 st.length 0, by omega, ?_, ?_, k524_s⟩
    · rw [d30]
      unfold f_X12_eval_333 f_X12_eval_502
      rw [if_pos (show nn 64 = 64 from rfl), if_pos ((xin_nn (by omega)).mpr (by omega)), ts, es]
    · rw [sk]
      show SK _ 524 (0 :: st)
      exact ⟨by simp (disch := omega) only [nn_add, nn_addl, l_add_nn, nn_sub, nn_subl, nn_m1, nn_mull, nn_t, nn_i, l_t, nn_lt, nn_le, nn_eq, nn_ltl, l_lt_nn, nn_lel, l_le_nn, nn_eql, l_eql, nn_nm1, xin_nn, xin_l, m1_lt, m1_le, m1_p, m1_z, dlt_T, dlt_F, dle_T, dle_F, deq_T, deq_F, sI_c, sI_n, sI_J, sI_E, sJ_c, sJ_n, sJ_I, sJ_E, sE_I, sE_J, sE_E, xcI_i, xcJ_i, xcR_i, xcV_i, xcI_e, xcJ_e, xcR_e, xcV_e, if_true, if_false, ite_true, ite_false, true_and, and_true, false_and, and_false, or_true, true_or, or_false, false_or, not_true_eq_false, not_false_eq_true, eq_self, ne_eq, ↓reduceIte, Nat.reduceEqDiff, Nat.reduceLT, Nat.reduceLeDiff, Nat.reduceAdd, Nat.reduceMul, Nat.reduceSub, Int32.reduceLT, Int32.reduceLE, reduceCtorEq], SK_s hs (by omega)⟩
  · have how := u3.resolve_left c64
    rw [if_neg (by simp (disch := omega) only [nn_add, nn_addl, l_add_nn, nn_sub, nn_subl, nn_m1, nn_mull, nn_t, nn_i, l_t, nn_lt, nn_le, nn_eq, nn_ltl, l_lt_nn, nn_lel, l_le_nn, nn_eql, l_eql, nn_nm1, xin_nn, xin_l, m1_lt, m1_le, m1_p, m1_z, dlt_T, dlt_F, dle_T, dle_F, deq_T, deq_F, sI_c, sI_n, sI_J, sI_E, sJ_c, sJ_n, sJ_I, sJ_E, sE_I, sE_J, sE_E, xcI_i, xcJ_i, xcR_i, xcV_i, xcI_e, xcJ_e, xcR_e, xcV_e, if_true, if_false, ite_true, ite_false, true_and, and_true, false_and, and_false, or_true, true_or, or_false, false_or, not_true_eq_false, not_false_eq_true, eq_self, ne_eq, ↓reduceIte, Nat.reduceEqDiff, Nat.reduceLT, Nat.reduceLeDiff, Nat.reduceAdd, Nat.reduceMul, Nat.reduceSub, Int32.reduceLT, Int32.reduceLE, reduceCtorEq])] at d30
    have d2 : f_X12_eval_18 N n x1 xl (nn st.length) (nn q) x6 x7 x8 x9 S = f_X12_eval_18 N m x1 xl (nn st.length) (nn (q + 4)) (nn w0) (nn q) 0 0 S := by
      rw [d30]
      unfold f_X12_eval_333 f_X12_eval_502
      rw [if_neg (by simp (disch := omega) only [nn_add, nn_addl, l_add_nn, nn_sub, nn_subl, nn_m1, nn_mull, nn_t, nn_i, l_t, nn_lt, nn_le, nn_eq, nn_ltl, l_lt_nn, nn_lel, l_le_nn, nn_eql, l_eql, nn_nm1, xin_nn, xin_l, m1_lt, m1_le, m1_p, m1_z, dlt_T, dlt_F, dle_T, dle_F, deq_T, deq_F, sI_c, sI_n, sI_J, sI_E, sJ_c, sJ_n, sJ_I, sJ_E, sE_I, sE_J, sE_E, xcI_i, xcJ_i, xcR_i, xcV_i, xcI_e, xcJ_e, xcR_e, xcV_e, if_true, if_false, ite_true, ite_false, true_and, and_true, false_and, and_false, or_true, true_or, or_false, false_or, not_true_eq_false, not_false_eq_true, eq_self, ne_eq, ↓reduceIte, Nat.reduceEqDiff, Nat.reduceLT, Nat.reduceLeDiff, Nat.reduceAdd, Nat.reduceMul, Nat.reduceSub, Int32.reduceLT, Int32.reduceLE, reduceCtorEq])]
    have hmul : (64 - w0) * (c.length + 1) ≤ 64 * (c.length + 1) := Nat.mul_le_mul_right _ (by omega)
    obtain ⟨n2, y6, y8, y9, S2, v1, v2, v3, v4⟩ := e_agl (N := N) (V := V) (Fw := Fw) (C := C) hN hE hE2 hq hst (fun v => Fw v f) (64 - w0) w0 m 0 0 S (by omega) (by omega) how hA hen.1 (fun v hv h0 => ENR_w hen hv (by omega)) hch hs (by omega)
    refine ⟨n2, y6, nn q, y8, y9, S2, by omega, d2.trans v2, ?_, v4⟩
    rw [sk]
    exact v3
theorem itc_g {e : xCe} (h : e.1.1 = 30 ∨ e.1.1 = 32) (hg : gok e.1) : cdl (fle e) = [30, nn (whE e), nn e.1.2.2.1, nn e.1.2.2.2.1] ++ cdl (cnd e) ++ [31] := by
  obtain ⟨g1, g2, a, g3, g4⟩ := hg
  have hw : nn (whE e) = e.1.2.1 := by
    unfold whE
    rw [g4, nn_t (by omega)]
  rw [hw]
  rcases h with z | z
  · unfold fle cnd
    rw [if_pos z, if_pos z, cdl_cs, cdl_app, cdl_1]
    have : itc e.1 = [30, e.1.2.1, nn e.1.2.2.1, nn e.1.2.2.2.1] := by
      unfold itc
      rw [if_neg (by omega), if_neg (by omega), if_neg (by omega), if_neg (by omega), if_pos (Or.inr z)]
    rw [this, ← List.append_assoc]
    rfl
  · unfold fle cnd
    rw [if_neg (by omega), if_neg (by omega), cdl_1, cdl_1]
    have : itc e.1 = [30, e.1.2.1, nn e.1.2.2.1, nn e.1.2.2.2.1, 1, 1, 31] := by
      unfold itc
      rw [if_neg (by omega), if_neg (by omega), if_neg (by omega), if_neg (by omega), if_neg (by omega), if_pos z]
    rw [this]
    rfl
theorem cok_g {e : xCe} (h : cok False sc e) : (iok False sc e.1 ∧ e.2 = [] ∧ ¬ (e.1.1 = 30 ∨ e.1.1 = 32) ∧ fle e = [e.1]) ∨ ((e.1.1 = 30 ∨ e.1.1 = 32) ∧ gok e.1 ∧ (∀ i ∈ cnd e, iok True sc i) ∧ dpx 0 (tg2 (cnd e)) = some 1 ∧ (cnd e).length ≤ e.2.length + 1 ∧ (e.1.1 = 30 → e.1.2.2.2.2 = e.2.length)) := by
  rcases h with ⟨h1, h2⟩ | ⟨h0, h1, h2, h3⟩ | ⟨h0, h1, h2, h3, h4, h5⟩
  · have hn : ¬ (e.1.1 = 30 ∨ e.1.1 = 32) := by
      unfold iok at h1
      omega
    refine Or.inl ⟨h1, h2, hn, ?_⟩
    unfold fle
    rw [if_neg (fun z => hn (Or.inl z))]
  · refine Or.inr ⟨Or.inr h1, h2, ?_, ?_, ?_, fun z => by omega⟩
    · unfold cnd
      rw [if_neg (by omega)]
      intro i hi
      rw [List.mem_singleton.mp hi]
      exact Or.inl rfl
    · unfold cnd
      rw [if_neg (by omega)]
      rfl
    · unfold cnd
      rw [if_neg (by omega)]
      simp
  · refine Or.inr ⟨Or.inl h1, h2, ?_, ?_, ?_, fun _ => h3⟩
    · unfold cnd
      rw [if_pos h1]
      exact h4
    · unfold cnd
      rw [if_pos h1]
      exact h5
    · unfold cnd
      rw [if_pos h1]
      omega
theorem aggE_r (e : xCe) (h : e.1.1 = 30 ∨ e.1.1 = 32) : agf (whE e) (fun v => decide (ow v = e.1.2.2.1 + 1) && decide (¬ evl V (Fw v) C (cnd e) = 0)) (fun v => Fw v e.1.2.2.2.1) 64 0 0 0 = aggE ow V Fw C e := by
  unfold aggE cnd
  rcases h with z | z
  · rw [if_pos z]
    apply agf_c
    intro v _ _
    refine ⟨?_, fun _ => rfl⟩
    simp [z]
  · rw [if_neg (by omega)]
    apply agf_c
    intro v _ _
    refine ⟨?_, fun _ => rfl⟩
    have : evl V (Fw v) C [it1] = 1 := rfl
    simp [this, z]
theorem e_runE (E0 : Nat) (hN : 1000 < N) (hE : x1 + xl = nn E0) (hE2 : E0 < 3000) : ∀ (E : List xCe) (st : List Int32) (q e n : Nat) (x6 x7 x8 x9 : Int32) (S : xS), ENR S ow V Fw C sc → (∀ z ∈ E, cok False sc z ∧ z.2.length ≤ 150) → seg (S.1 518) q (cdl (fl E)) → q + (cdl (fl E)).length ≤ E0 → SK S 524 st → dpx st.length (tgs E) = some e → st.length + E.length ≤ 151 → (∀ z ∈ E, st.length + E.length + z.2.length ≤ 170) → E.length * 10000 ≤ n →
    ∃ n2 x6' x7' x8' x9' S', n ≤ n2 + E.length * 10000 ∧ f_X12_eval_18 N n x1 xl (nn st.length) (nn q) x6 x7 x8 x9 S = f_X12_eval_18 N n2 x1 xl (nn (evE ow V Fw C E st).length) (nn (q + (cdl (fl E)).length)) x6' x7' x8' x9' S' ∧ SK S' 524 (evE ow V Fw C E st) ∧ k524 S S' ∧ (evE ow V Fw C E st).length = e := by
  intro E
  induction E with
  | nil =>
    intro st q e n x6 x7 x8 x9 S hen hi hp hq hs hd hb hb2 hn
    refine ⟨n, x6, x7, x8, x9, S, by simp, rfl, hs, k524_r S, ?_⟩
    injection hd
  | cons z E ih =>
    intro st q e n x6 x7 x8 x9 S hen hi hp hq hs hd hb hb2 hn
    obtain ⟨hz, hz2⟩ := hi z List.mem_cons_self
    have hfl : fl (z :: E) = fle z ++ fl E := by unfold fl; rw [List.flatMap_cons]
    rw [hfl, cdl_app, List.length_append] at hq
    rw [hfl, cdl_app] at hp
    obtain ⟨p1, p2⟩ := seg_app.mp hp
    rw [List.length_cons] at hb hn
    have hb3 := hb2 z List.mem_cons_self
    rw [List.length_cons] at hb3
    have hd' : dpx st.length (z.1.1 :: tgs E) = some e := hd
    have hn' : E.length * 10000 + 10000 ≤ n := by
      rw [Nat.add_mul, Nat.one_mul] at hn
      exact hn
    have cont : ∀ (n2 : Nat) (y6 y7 y8 y9 : Int32) (S1 : xS), n ≤ n2 + 10000 → f_X12_eval_18 N n x1 xl (nn st.length) (nn q) x6 x7 x8 x9 S = f_X12_eval_18 N n2 x1 xl (nn (stE ow V Fw C z st).length) (nn (q + (cdl (fle z)).length)) y6 y7 y8 y9 S1 → SK S1 524 (stE ow V Fw C z st) → k524 S S1 → dpx (stE ow V Fw C z st).length (tgs E) = some e → (stE ow V Fw C z st).length ≤ st.length + 1 →
        ∃ n2 x6' x7' x8' x9' S', n ≤ n2 + (E.length + 1) * 10000 ∧ f_X12_eval_18 N n x1 xl (nn st.length) (nn q) x6 x7 x8 x9 S = f_X12_eval_18 N n2 x1 xl (nn (evE ow V Fw C (z :: E) st).length) (nn (q + (cdl (fl (z :: E))).length)) x6' x7' x8' x9' S' ∧ SK S' 524 (evE ow V Fw C (z :: E) st) ∧ k524 S S' ∧ (evE ow V Fw C (z :: E) st).length = e := by
      intro n2 y6 y7 y8 y9 S1 g1 g2 g3 g4 g5 g6
      obtain ⟨n3, t6, t7, t8, t9, S2, r1, r2, r3, r4, r5⟩ := ih (stE ow V Fw C z st) (q + (cdl (fle z)).length) e n2 y6 y7 y8 y9 S1 (ENR_k hen g4) (fun u hu => hi u (List.mem_cons_of_mem _ hu)) (by rw [g4.1 518 (by decide)]; exact p2) (by omega) g3 g5 (by omega) (fun u hu => by
        have := hb2 u (List.mem_cons_of_mem _ hu)
        rw [List.length_cons] at this
        omega) (Nat.le_of_add_le_add_right (Nat.le_trans hn' g1))
      refine ⟨n3, t6, t7, t8, t9, S2, by omega, ?_, r3, k524_t g4 r4, r5⟩
      rw [g2, r2, hfl, cdl_app, List.length_append, Nat.add_assoc]
      rfl
    rw [List.length_cons]
    rcases cok_g hz with ⟨c1, c2, c3, c4⟩ | ⟨c1, c2, c3, c4, c5, c6⟩
    · obtain ⟨d1, d2, d3, d4⟩ := stp_len (V := V) (F := fun _ => 0) (C := C) c1 hd'
      obtain ⟨m, hm⟩ : ∃ m, n = m + 1 := ⟨n - 1, by omega⟩
      rw [c4, cdl_1] at p1 hq
      have hit : (itc z.1).length ≤ 7 := by
        rcases itc_s c1 with ⟨_, y⟩ | ⟨_, y⟩ | ⟨_, y⟩ | ⟨_, y⟩ | ⟨_, y⟩ <;> rw [y] <;> simp
      have h1p := itc_pos (i := z.1)
      obtain ⟨S1, q1, q2, q3⟩ := e_step (N := N) (n := m) (x1 := x1) (xl := xl) (x7 := x7) (x8 := x8) (x9 := x9) (ENR_f (F := fun _ => 0) (x6 := x6) hen) c1 p1 (by rw [hE]; simp (disch := omega) only [nn_add, nn_addl, l_add_nn, nn_sub, nn_subl, nn_m1, nn_mull, nn_t, nn_i, l_t, nn_lt, nn_le, nn_eq, nn_ltl, l_lt_nn, nn_lel, l_le_nn, nn_eql, l_eql, nn_nm1, xin_nn, xin_l, m1_lt, m1_le, m1_p, m1_z, dlt_T, dlt_F, dle_T, dle_F, deq_T, deq_F, sI_c, sI_n, sI_J, sI_E, sJ_c, sJ_n, sJ_I, sJ_E, sE_I, sE_J, sE_E, xcI_i, xcJ_i, xcR_i, xcV_i, xcI_e, xcJ_e, xcR_e, xcV_e, if_true, if_false, ite_true, ite_false, true_and, and_true, false_and, and_false, or_true, true_or, or_false, false_or, not_true_eq_false, not_false_eq_true, eq_self, ne_eq, ↓reduceIte, Nat.reduceEqDiff, Nat.reduceLT, Nat.reduceLeDiff, Nat.reduceAdd, Nat.reduceMul, Nat.reduceSub, Int32.reduceLT, Int32.reduceLE, reduceCtorEq, not_false_eq_true]) (by omega) hs (by omega) d2 d3
      have e1 : stE ow V Fw C z st = stp V (fun _ => 0) C z.1 st := by unfold stE; rw [if_neg c3]
      refine cont m x6 x7 x8 x9 S1 (by omega) ?_ (by rw [e1]; exact q2) q3 (by rw [e1]; exact d1) (by rw [e1]; exact d4)
      rw [hm, q1, e1, c4, cdl_1]
    · have e1 : stE ow V Fw C z st = aggE ow V Fw C z :: st := by unfold stE; rw [if_pos c1]
      have hcg := itc_g c1 c2
      rw [hcg] at p1
      obtain ⟨g1, g2, a, g3, g4⟩ := c2
      have hwa : whE z = a := by unfold whE; rw [g4, nn_t (by omega)]
      have hlen : (cdl (fle z)).length = 4 + (cdl (cnd z)).length + 1 := by
        rw [hcg, List.length_append, List.length_append]
        rfl
      obtain ⟨s1, s2⟩ := seg_app.mp p1
      obtain ⟨s3, s4⟩ := seg_app.mp s1
      have hA : AGC S q (whE z) z.1.2.2.1 z.1.2.2.2.1 (cnd z) sc := by
        refine ⟨?_, ?_, ?_, ?_, s4, ?_, c3, c4, by omega, g1, g2⟩
        · have := s3 0 (by simp)
          rw [Nat.add_zero] at this
          exact this
        · exact s3 1 (by simp)
        · exact s3 2 (by simp)
        · exact s3 3 (by simp)
        · have := s2 0 (by simp)
          rw [List.length_append, Nat.add_zero] at this
          rw [show q + 4 + (cdl (cnd z)).length = q + (4 + (cdl (cnd z)).length) by omega]
          exact this
      have hmul : 64 * ((cnd z).length + 1) + 1 ≤ 10000 := by omega
      obtain ⟨n2, y6, y7, y8, y9, S1, v1, v2, v3, v4⟩ := e_agg (N := N) (x6 := x6) (x7 := x7) (x8 := x8) (x9 := x9) (V := V) (Fw := Fw) (C := C) hN hE hE2 (by omega) (by omega) hA hen hs (show 64 * ((cnd z).length + 1) + 1 ≤ n by omega)
      rw [aggE_r z c1] at v3
      refine cont n2 y6 y7 y8 y9 S1 (by omega) ?_ (by rw [e1]; exact v3) v4 ?_ (by rw [e1]; simp)
      · rw [v2, e1, hlen, List.length_cons, show q + (4 + (cdl (cnd z)).length + 1) = q + 4 + (cdl (cnd z)).length + 1 by omega]
      · rw [e1]
        rw [dpx_c, if_neg (by omega), if_neg (by omega)] at hd'
        exact hd'
end VR
