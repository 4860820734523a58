/-! 75: a value, in both -/
def evv (ow : Nat → Nat) (V : Nat → Int32) (Fw : Nat → Nat → Int32) (C : Nat → Nat → Int32) (E : List xCe) : Int32 := (evE ow V Fw C E []).headD 0
section VV
variable {N n : Nat} {ow : Nat → Nat} {V F : Nat → Int32} {Fw : Nat → Nat → Int32} {C : Nat → Nat → Int32} {sc : Nat → Nat → Prop} {x2 x6 : Int32} {S S' : xS}
theorem NUM_k (hk : k412 S S') : ∀ (E : List xCe) (p : Nat), p + (fl E).length < 151 → NUM S ow V Fw C p E → NUM S' ow V Fw C p E := by
  intro E
  induction E with
  | nil => intro p _ _; trivial
  | cons z E ih =>
    intro p hp h
    rw [fl_cs, List.length_append] at hp
    exact ⟨fun y => by rw [hk.1 _ (by omega)]; exact h.1 y, ih _ (by omega) h.2⟩
theorem w_runE (np : Nat) (hnp : np ≤ 151) : ∀ (E : List xCe) (st : List Int32) (p e n : Nat) (S : xS), ENC S ow V Fw C sc → (∀ z ∈ E, cok False sc z) → segp S.1 p (fl E) → NUM S ow V Fw C p E → p + (fl E).length < np → S.1 97 5 = nn np → SK S 412 st → dpx st.length (tgs E) = some e → st.length + E.length < 151 →
    ∃ S', f_X2_within_5 N (n + E.length) x2 (nn st.length - 1) (nn p) S = f_X2_within_5 N n x2 (nn (evE ow V Fw C E st).length - 1) (nn (p + (fl E).length)) S' ∧ SK S' 412 (evE ow V Fw C E st) ∧ k412 S S' ∧ (evE ow V Fw C E st).length = e := by
  intro E
  induction E with
  | nil =>
    intro st p e n S _ _ _ _ _ _ hs hd _
    refine ⟨S, rfl, hs, k412_r S, ?_⟩
    injection hd
  | cons z E ih =>
    intro st p e n S hen hi hp hnu hq h97 hs hd hb
    rw [fl_cs] at hp
    rw [fl_cs, List.length_append] at hq
    rw [List.length_cons] at hb
    obtain ⟨p1, p2⟩ := segp_app.mp hp
    have hpos := fle_pos z
    have hd' : dpx st.length (z.1.1 :: tgs E) = some e := hd
    have cont : ∀ S1, f_X2_within_5 N (n + E.length + 1) x2 (nn st.length - 1) (nn p) S = f_X2_within_5 N (n + E.length) x2 (nn (stE ow V Fw C z st).length - 1) (nn (p + (fle z).length)) S1 → SK S1 412 (stE ow V Fw C z st) → k412 S S1 → dpx (stE ow V Fw C z st).length (tgs E) = some e → (stE ow V Fw C z st).length ≤ st.length + 1 → ∃ S', f_X2_within_5 N (n + (z :: E).length) x2 (nn st.length - 1) (nn p) S = f_X2_within_5 N n x2 (nn (evE ow V Fw C (z :: E) st).length - 1) (nn (p + (fl (z :: E)).length)) S' ∧ SK S' 412 (evE ow V Fw C (z :: E) st) ∧ k412 S S' ∧ (evE ow V Fw C (z :: E) st).length = e := by
      intro S1 g1 g2 g3 g4 g5
      obtain ⟨S2, r1, r2, r3, r4⟩ := ih (stE ow V Fw C z st) (p + (fle z).length) e n S1 (ENC_v hen (kv_4 g3)) (fun u hu => hi u (List.mem_cons_of_mem _ hu)) (segp_c p2 (fun k a b => g3.1 _ (by omega))) (NUM_k g3 E _ (by omega) hnu.2) (by omega) (by rw [g3.1 97 (by decide)]; exact h97) g2 g4 (by omega)
      refine ⟨S2, ?_, r2, k412_t g3 r3, r4⟩
      rw [List.length_cons, ← Nat.add_assoc, g1, r1, fl_cs, List.length_append, Nat.add_assoc]
      rfl
    rcases cok_g (hi z List.mem_cons_self) with ⟨c1, c2, c3, c4⟩ | ⟨c1, c2, c3, c4, c5, c6⟩
    · rw [c4] at p1 hq
      obtain ⟨d1, d2, d3, d4⟩ := stp_len (V := V) (F := fun _ => 0) (C := C) c1 hd'
      have e1 : stE ow V Fw C z st = stp V (fun _ => 0) C z.1 st := by unfold stE; rw [if_neg c3]
      have hql : p + ([z.1].length + (fl E).length) < np := hq
      obtain ⟨S1, q1, q2, q3⟩ := w_step (N := N) (n := n + E.length) (x2 := x2) (ENC_f (F := fun _ => 0) (x2 := x2) hen) c1 (segp_1.mp p1) (show p < np by omega) hnp h97 hs (by omega) d2 d3
      refine cont S1 ?_ (by rw [e1]; exact q2) q3 (by rw [e1]; exact d1) (by rw [e1]; exact d4)
      rw [q1, e1, c4]
      rfl
    · have e1 : stE ow V Fw C z st = aggE ow V Fw C z :: st := by unfold stE; rw [if_pos c1]
      obtain ⟨t1, t2, t3, t4, t5, o, t6, t7, t8⟩ := agg_part (V := V) (Fw := Fw) (C := C) c1 c2 c6 c3 c4 p1 (by omega) hnp h97
      have ta : S.1 (103 + 2 * p) 0 = nn (17 + whE z) := by rw [t1, l_add_nn]
      have hn1 := hnu.1 c1
      have hpu : nn st.length - 1 + 1 = nn st.length := by rw [Int32.sub_add_cancel]
      have xd : xin (nn st.length) 151 := (xin_nn (by omega)).mpr (by omega)
      have ed : (nn st.length).toNatClampNeg = st.length := nn_t (by omega)
      refine cont (sI S 412 st.length (aggE ow V Fw C z)) ?_ ?_ k412_s ?_ (by rw [e1]; simp)
      · rw [w_disp (a := 17 + whE z) (show p < np by omega) hnp h97 ta (by omega) (by omega), if_neg (by omega), if_pos (by omega), hpu, if_pos xd, ed, hn1]
        have e6 : (sI S 412 st.length (aggE ow V Fw C z)).1 (103 + 2 * p) 6 = nn (p + (fle z).length) := by
          rw [sI_n (by omega)]
          exact t4
        rw [e6, xcI_of (p_maxC (by omega) (by omega))]
        unfold f_X2_within_411
        rw [Int32.sub_add_cancel, e1, List.length_cons, nn_s1]
      · rw [e1]
        exact ⟨by simp (disch := omega) only [nn_add, nn_addl, l_add_nn, nn_sub, nn_subl, nn_m1, nn_mull, nn_t, nn_i, l_t, nn_lt, nn_le, nn_eq, nn_ltl, l_lt_nn, nn_lel, l_le_nn, nn_eql, l_eql, nn_nm1, xin_nn, xin_l, m1_lt, m1_le, m1_p, m1_z, dlt_T, dlt_F, dle_T, dle_F, deq_T, deq_F, sI_c, sI_n, sI_J, sI_E, sJ_c, sJ_n, sJ_I, sJ_E, sE_I, sE_J, sE_E, xcI_i, xcJ_i, xcR_i, xcV_i, xcI_e, xcJ_e, xcR_e, xcV_e, if_true, if_false, ite_true, ite_false, true_and, and_true, false_and, and_false, or_true, true_or, or_false, false_or, not_true_eq_false, not_false_eq_true, eq_self, ne_eq, ↓reduceIte, Nat.reduceEqDiff, Nat.reduceLT, Nat.reduceLeDiff, Nat.reduceAdd, Nat.reduceMul, Nat.reduceSub, Int32.reduceLT, Int32.reduceLE, reduceCtorEq], SK_s hs (by omega)⟩
      · rw [e1]
        rw [dpx_c, if_neg (by omega), if_neg (by omega)] at hd'
        exact hd'
theorem fl_le (E : List xCe) : E.length ≤ (fl E).length := by
  induction E with
  | nil => exact Nat.le_refl _
  | cons z E ih =>
    rw [fl_cs, List.length_append, List.length_cons]
    have := fle_pos z
    omega
theorem fl_in {E : List xCe} {z : xCe} (h : z ∈ E) (hz : cok False sc z) : E.length + z.2.length ≤ (fl E).length := by
  have hz2 : z.2.length + 1 ≤ (fle z).length := by
    rcases cok_g hz with ⟨c1, c2, c3, c4⟩ | ⟨c1, c2, c3, c4, c5, c6⟩
    · rw [c2, c4]; simp
    · rcases c1 with y | y
      · rw [fle_len (Or.inl y), if_pos y]; omega
      · have : z.2 = [] := by
          rcases hz with ⟨u1, u2⟩ | ⟨u0, u1, u2, u3⟩ | ⟨u0, u1, u2⟩
          · exact u2
          · exact u3
          · omega
        rw [this]
        have := fle_pos z
        simp
        omega
  induction E with
  | nil => cases h
  | cons u E ih =>
    rw [fl_cs, List.length_append, List.length_cons]
    rcases List.mem_cons.mp h with y | y
    · subst y
      have := fl_le E
      omega
    · have := ih y
      have := fle_pos u
      omega
/-- the class's value of an expression without a record -/
theorem p_valueC {E : List xCe} {p np : Nat} (hN : 1000 < N) (hen : ENC S ow V Fw C sc) (hX : EXC S np 0 sc p E) (hnp : np ≤ 151) (h97 : S.1 97 5 = nn np) : ∃ S', f_X2_value N (nn p) S = some (rI (evv ow V Fw C E) S') ∧ kv S S' := by
  obtain ⟨h1, h2, h3, h4, h5⟩ := hX
  have hi : ∀ z ∈ E, cok False sc z := fun z hz => by
    have := h3 z hz
    have e : (¬ (0 : Nat) = 0) = False := by simp
    rw [e] at this
    exact this
  have hle := fl_le E
  obtain ⟨S1, r1, r2, r3, r4⟩ := v_pass (N := N) hN (nn p) np hnp E p (N - E.length) S hen hi h1 (by omega) h97
  rw [show N - E.length + E.length = N by omega] at r1
  obtain ⟨m, hm⟩ : ∃ m, N - E.length = m + 1 := ⟨N - E.length - 1, by omega⟩
  have h97' : S1.1 97 5 = nn np := by rw [kv_q r2 (by decide) (by decide)]; exact h97
  have hend : S1.1 (103 + 2 * (p + (fl E).length)) 0 = 0 := by rw [r2.1 _ 0 (by omega) (by omega)]; exact h2
  have ep : (nn (p + (fl E).length)).toNatClampNeg = p + (fl E).length := nn_t (by omega)
  have r1' : f_X2_value N (nn p) S = f_X2_value_82 N (nn p) S1 := by
    show f_X2_value_2 N N (nn p) (nn p) S = _
    rw [r1, hm, f_X2_value_2.eq_2, h97', if_neg (by simp (disch := omega) only [nn_add, nn_addl, l_add_nn, nn_sub, nn_subl, nn_m1, nn_mull, nn_t, nn_i, l_t, nn_lt, nn_le, nn_eq, nn_ltl, l_lt_nn, nn_lel, l_le_nn, nn_eql, l_eql, nn_nm1, xin_nn, xin_l, m1_lt, m1_le, m1_p, m1_z, dlt_T, dlt_F, dle_T, dle_F, deq_T, deq_F, sI_c, sI_n, sI_J, sI_E, sJ_c, sJ_n, sJ_I, sJ_E, sE_I, sE_J, sE_E, xcI_i, xcJ_i, xcR_i, xcV_i, xcI_e, xcJ_e, xcR_e, xcV_e, if_true, if_false, ite_true, ite_false, true_and, and_true, false_and, and_false, or_true, true_or, or_false, false_or, not_true_eq_false, not_false_eq_true, eq_self, ne_eq, ↓reduceIte, Nat.reduceEqDiff, Nat.reduceLT, Nat.reduceLeDiff, Nat.reduceAdd, Nat.reduceMul, Nat.reduceSub, Int32.reduceLT, Int32.reduceLE, reduceCtorEq]), if_pos ((xin_nn (by omega)).mpr (by omega)), ep, if_pos hend]
  obtain ⟨S2, q1, q2, q3, q4⟩ := w_runE (N := N) (x2 := -1) np hnp E [] p 1 (N - E.length) S1 (ENC_v hen r2) hi (kv_sg r2 (by omega) h1) r3 (by omega) h97' trivial h4 (by simp only [List.length_nil]; omega)
  rw [show N - E.length + E.length = N by omega] at q1
  have q1' : f_X2_within N (nn p) (-1) S1 = f_X2_within_5 N (N - E.length) (-1) (nn (evE ow V Fw C E []).length - 1) (nn (p + (fl E).length)) S2 := q1
  refine ⟨S2, ?_, kv_t r2 (kv_4 q3)⟩
  have hw : f_X2_within N (nn p) (-1) S1 = some (rI (evv ow V Fw C E) S2) := by
    rw [q1', hm, w_end (show p + (fl E).length < np by omega) hnp (by rw [q3.1 97 (by decide)]; exact h97') (by rw [q3.1 _ (by omega)]; exact hend)]
    unfold evv
    cases hev : evE ow V Fw C E [] with
    | nil => rw [hev] at q4; simp at q4
    | cons v r =>
      rw [hev] at q2 q4
      have : r = [] := by
        cases r with
        | nil => rfl
        | cons a b => simp at q4
      subst this
      rw [show S2.1 412 0 = v from q2.1]
      rfl
  rw [r1']
  unfold f_X2_value_82
  rw [xcI_of hw]
/-- the reference's -/
theorem p_valueR {E : List xCe} {q : Nat} {x1 xl : Int32} (hN : 2000000 < N) (hx1 : x1 = nn q) (hxl : xl = nn (cE E).length) (hen : ENR S ow V Fw C sc) (h3 : ∀ e ∈ E, cok (¬ (0 : Nat) = 0) sc e) (h4 : dpx 0 (tgs E) = some 1) (hp : seg (S.1 518) q (cE E)) (hq : q + (cE E).length < 3000) (hE : (fl E).length ≤ 150) : ∃ S', f_X12_eval N x1 xl x6 S = some (rI (evv ow V Fw C E) S') ∧ k524 S S' := by
  have hi : ∀ z ∈ E, cok False sc z := fun z hz => by
    have := h3 z hz
    have e : (¬ (0 : Nat) = 0) = False := by simp
    rw [e] at this
    exact this
  have hle := fl_le E
  have hEe : x1 + xl = nn (q + (cdl (fl E)).length) := by rw [hx1, hxl, nn_add]; rfl
  obtain ⟨n2, y6, y7, y8, y9, S1, r1, r2, r3, r4, r5⟩ := e_runE (N := N) (x1 := x1) (xl := xl) (q + (cdl (fl E)).length) (by omega) hEe hq E [] q 1 N x6 0 0 0 S hen (fun z hz => ⟨hi z hz, by have := fl_in hz (hi z hz); omega⟩) hp (Nat.le_refl _) trivial h4 (by simp only [List.length_nil]; omega) (fun z hz => by have := fl_in hz (hi z hz); simp only [List.length_nil]; omega) (by omega)
  have r2' : f_X12_eval N x1 xl x6 S = f_X12_eval_18 N n2 x1 xl (nn (evE ow V Fw C E []).length) (nn (q + (cdl (fl E)).length)) y6 y7 y8 y9 S1 := by
    rw [← r2, hx1]
    rfl
  obtain ⟨m, hm⟩ : ∃ m, n2 = m + 1 := ⟨n2 - 1, by omega⟩
  refine ⟨S1, ?_, r4⟩
  rw [r2', hm, e_end _ hEe hq]
  unfold evv
  cases hev : evE ow V Fw C E [] with
  | nil => rw [hev] at r5; simp at r5
  | cons v r =>
    rw [hev] at r3 r5
    have : r = [] := by
      cases r with
      | nil => rfl
      | cons a b => simp at r5
    subst this
    rw [show S1.1 524 0 = v from r3.1]
    rfl
end VV
