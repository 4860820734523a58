/-! 72: aggregates, the reference's -/
section AR
variable {N n : Nat} {V : Nat → Int32} {Fw : Nat → Nat → Int32} {C : Nat → Nat → Int32} {sc : Nat → Nat → Prop} {x1 xl x6 x7 x8 x9 : Int32}
theorem p_next_l {S : xS} {ow : Nat → Nat} {k : Nat} (hk : k < 7) (h1 : ∀ v, v < 64 → ow v ≤ 7 ∧ S.1 511 v = nn (ow v)) : ∀ (d w n : Nat), w + d = 64 → d < n → ∃ w', w ≤ w' ∧ w' ≤ 64 ∧ (w' = 64 ∨ ow w' = k + 1) ∧ (∀ v, w ≤ v → v < w' → ¬ ow v = k + 1) ∧ f_X12_nextOf_2 N n (nn k) (nn w) S = some (rI (nn w') S) := by
  intro d
  induction d with
  | zero =>
    intro w n hw hn
    obtain ⟨n, rfl⟩ := Nat.exists_eq_succ_of_ne_zero (Nat.ne_of_gt (Nat.zero_lt_of_lt hn))
    refine ⟨w, Nat.le_refl _, by omega, Or.inl (by omega), fun v a b => by omega, ?_⟩
    rw [f_X12_nextOf_2.eq_2, if_pos (by simp (disch := omega) only [nn_add, nn_addl, l_add_nn, nn_sub, nn_subl, nn_m1, nn_mull, nn_t, nn_i, l_t, nn_lt, nn_le, nn_eq, nn_ltl, l_lt_nn, nn_lel, l_le_nn, nn_eql, l_eql, nn_nm1, xin_nn, xin_l, m1_lt, m1_le, m1_p, m1_z, dlt_T, dlt_F, dle_T, dle_F, deq_T, deq_F, sI_c, sI_n, sI_J, sI_E, sJ_c, sJ_n, sJ_I, sJ_E, sE_I, sE_J, sE_E, xcI_i, xcJ_i, xcR_i, xcV_i, xcI_e, xcJ_e, xcR_e, xcV_e, if_true, if_false, ite_true, ite_false, true_and, and_true, false_and, and_false, or_true, true_or, or_false, false_or, not_true_eq_false, not_false_eq_true, eq_self, ne_eq, ↓reduceIte, Nat.reduceEqDiff, Nat.reduceLT, Nat.reduceLeDiff, Nat.reduceAdd, Nat.reduceMul, Nat.reduceSub, Int32.reduceLT, Int32.reduceLE, reduceCtorEq])]
    rfl
  | succ d ih =>
    intro w n hw hn
    obtain ⟨n, rfl⟩ := Nat.exists_eq_succ_of_ne_zero (Nat.ne_of_gt (Nat.zero_lt_of_lt hn))
    obtain ⟨o1, o2⟩ := h1 w (by omega)
    have st : f_X12_nextOf_2 N (n + 1) (nn k) (nn w) S = if nn (ow w) = nn (k + 1) then some (rI (nn w) S) else f_X12_nextOf_2 N n (nn k) (nn (w + 1)) S := by
      rw [f_X12_nextOf_2.eq_2, if_neg (by simp (disch := omega) only [nn_add, nn_addl, l_add_nn, nn_sub, nn_subl, nn_m1, nn_mull, nn_t, nn_i, l_t, nn_lt, nn_le, nn_eq, nn_ltl, l_lt_nn, nn_lel, l_le_nn, nn_eql, l_eql, nn_nm1, xin_nn, xin_l, m1_lt, m1_le, m1_p, m1_z, dlt_T, dlt_F, dle_T, dle_F, deq_T, deq_F, sI_c, sI_n, sI_J, sI_E, sJ_c, sJ_n, sJ_I, sJ_E, sE_I, sE_J, sE_E, xcI_i, xcJ_i, xcR_i, xcV_i, xcI_e, xcJ_e, xcR_e, xcV_e, if_true, if_false, ite_true, ite_false, true_and, and_true, false_and, and_false, or_true, true_or, or_false, false_or, not_true_eq_false, not_false_eq_true, eq_self, ne_eq, ↓reduceIte, Nat.reduceEqDiff, Nat.reduceLT, Nat.reduceLeDiff, Nat.reduceAdd, Nat.reduceMul, Nat.reduceSub, Int32.reduceLT, Int32.reduceLE, reduceCtorEq]), if_pos ((xin_nn (by omega)).mpr (by omega)), nn_t (by omega), o2, nn_addl, nn_addl]
      rfl
    by_cases q : ow w = k + 1
    · refine ⟨w, Nat.le_refl _, by omega, Or.inr q, fun v a b => by omega, ?_⟩
      rw [st, if_pos (by rw [q])]
    · obtain ⟨w', a1, a2, a3, a4, a5⟩ := ih (w + 1) n (by omega) (by omega)
      refine ⟨w', by omega, a2, a3, fun v a b => ?_, ?_⟩
      · by_cases e : v = w
        · subst e; exact q
        · exact a4 v (by omega) b
      · rw [st, if_neg (fun z => q ((nn_eq (by omega) (by omega)).mp z))]
        exact a5
theorem p_aggd {what : Nat} {res cn v : Int32} {S : xS} (h : what ≤ 3) : f_X12_aggregated N (nn what) res cn v S = some (rI (agv what res cn v) S) := by
  have : what = 0 ∨ what = 1 ∨ what = 2 ∨ what = 3 := by omega
  unfold f_X12_aggregated f_X12_aggregated_57 agv
  rcases this with rfl | rfl | rfl | rfl
  · rfl
  · rfl
  · rw [if_neg (by decide), if_neg (by decide), if_neg (show ¬ (2 : Nat) = 0 by decide), if_neg (show ¬ (2 : Nat) = 1 by decide)]
    by_cases c : cn = 0
    · rw [if_pos c, if_pos c]
    · rw [if_neg c, if_neg c, if_pos (show nn 2 = 2 from rfl), if_pos (show (2 : Nat) = 2 from rfl)]
      by_cases q : res ≤ v
      · rw [if_pos q, if_pos q]
      · rw [if_neg q, if_neg q]
  · rw [if_neg (by decide), if_neg (by decide), if_neg (show ¬ (3 : Nat) = 0 by decide), if_neg (show ¬ (3 : Nat) = 1 by decide)]
    by_cases c : cn = 0
    · rw [if_pos c, if_pos c]
    · rw [if_neg c, if_neg c, if_neg (show ¬ nn 3 = 2 by decide), if_neg (show ¬ (3 : Nat) = 2 by decide)]
      by_cases q : v ≤ res
      · rw [if_pos q, if_pos q]
      · rw [if_neg q, if_neg q]
theorem p_endOf_l {S : xS} : ∀ (L : List xIt) (q n : Nat), (∀ i ∈ L, iok True sc i) → seg (S.1 518) q (cdl L) → S.1 518 (q + (cdl L).length) = nn 31 → q + (cdl L).length < 3000 → L.length < n → f_X12_endOf_4 N n (nn q) S = some (rI (nn (q + (cdl L).length + 1)) S) := by
  intro L
  induction L with
  | nil =>
    intro q n hi hp h31 hq hn
    obtain ⟨n, rfl⟩ := Nat.exists_eq_succ_of_ne_zero (Nat.ne_of_gt (Nat.zero_lt_of_lt hn))
    have h31' : S.1 518 q = nn 31 := h31
    have hq' : q < 3000 := hq
    rw [f_X12_endOf_4.eq_2, if_pos ((xin_nn (by omega)).mpr hq'), nn_t (by omega), h31', if_pos (show nn 31 = 31 from rfl), nn_addl]
    rfl
  | cons i L ih =>
    intro q n hi hp h31 hq hn
    obtain ⟨n, rfl⟩ := Nat.exists_eq_succ_of_ne_zero (Nat.ne_of_gt (Nat.zero_lt_of_lt hn))
    rw [cdl_cs, List.length_append] at hq h31
    rw [cdl_cs] at hp
    rw [List.length_cons] at hn
    obtain ⟨p1, p2⟩ := seg_app.mp hp
    have h1 := itc_pos (i := i)
    have ih' := ih (q + (itc i).length) n (fun j hj => hi j (List.mem_cons_of_mem _ hj)) p2 (by rw [Nat.add_assoc]; exact h31) (by omega) (by omega)
    have c0 : S.1 518 q = (itc i).getD 0 0 := by
      have := p1 0 h1
      rw [Nat.add_zero] at this
      exact this
    have st : ∀ a l, a < 100 → ¬ a = 31 → S.1 518 q = nn a → (itc i).length = l → (if a = 4 then 3 else if 4 ≤ a then 1 else 2) = l → f_X12_endOf_4 N (n + 1) (nn q) S = f_X12_endOf_4 N n (nn (q + (itc i).length)) S := by
      intro a l ha ha2 h0 hl hx
      rw [f_X12_endOf_4.eq_2, if_pos ((xin_nn (by omega)).mpr (by omega)), nn_t (by omega), h0, if_neg (by simp (disch := omega) only [nn_add, nn_addl, l_add_nn, nn_sub, nn_subl, nn_m1, nn_mull, nn_t, nn_i, l_t, nn_lt, nn_le, nn_eq, nn_ltl, l_lt_nn, nn_lel, l_le_nn, nn_eql, l_eql, nn_nm1, xin_nn, xin_l, m1_lt, m1_le, m1_p, m1_z, dlt_T, dlt_F, dle_T, dle_F, deq_T, deq_F, sI_c, sI_n, sI_J, sI_E, sJ_c, sJ_n, sJ_I, sJ_E, sE_I, sE_J, sE_E, xcI_i, xcJ_i, xcR_i, xcV_i, xcI_e, xcJ_e, xcR_e, xcV_e, if_true, if_false, ite_true, ite_false, true_and, and_true, false_and, and_false, or_true, true_or, or_false, false_or, not_true_eq_false, not_false_eq_true, eq_self, ne_eq, ↓reduceIte, Nat.reduceEqDiff, Nat.reduceLT, Nat.reduceLeDiff, Nat.reduceAdd, Nat.reduceMul, Nat.reduceSub, Int32.reduceLT, Int32.reduceLE, reduceCtorEq])]
      unfold f_X12_endOf_45
      by_cases c4 : a = 4
      · rw [if_pos c4] at hx
        rw [if_pos (by rw [c4]; rfl), nn_addl, hl, ← hx]
      · rw [if_neg c4] at hx
        rw [if_neg (by simp (disch := omega) only [nn_add, nn_addl, l_add_nn, nn_sub, nn_subl, nn_m1, nn_mull, nn_t, nn_i, l_t, nn_lt, nn_le, nn_eq, nn_ltl, l_lt_nn, nn_lel, l_le_nn, nn_eql, l_eql, nn_nm1, xin_nn, xin_l, m1_lt, m1_le, m1_p, m1_z, dlt_T, dlt_F, dle_T, dle_F, deq_T, deq_F, sI_c, sI_n, sI_J, sI_E, sJ_c, sJ_n, sJ_I, sJ_E, sE_I, sE_J, sE_E, xcI_i, xcJ_i, xcR_i, xcV_i, xcI_e, xcJ_e, xcR_e, xcV_e, if_true, if_false, ite_true, ite_false, true_and, and_true, false_and, and_false, or_true, true_or, or_false, false_or, not_true_eq_false, not_false_eq_true, eq_self, ne_eq, ↓reduceIte, Nat.reduceEqDiff, Nat.reduceLT, Nat.reduceLeDiff, Nat.reduceAdd, Nat.reduceMul, Nat.reduceSub, Int32.reduceLT, Int32.reduceLE, reduceCtorEq])]
        by_cases c5 : 4 ≤ a
        · rw [if_pos c5] at hx
          rw [if_pos (by simp (disch := omega) only [nn_add, nn_addl, l_add_nn, nn_sub, nn_subl, nn_m1, nn_mull, nn_t, nn_i, l_t, nn_lt, nn_le, nn_eq, nn_ltl, l_lt_nn, nn_lel, l_le_nn, nn_eql, l_eql, nn_nm1, xin_nn, xin_l, m1_lt, m1_le, m1_p, m1_z, dlt_T, dlt_F, dle_T, dle_F, deq_T, deq_F, sI_c, sI_n, sI_J, sI_E, sJ_c, sJ_n, sJ_I, sJ_E, sE_I, sE_J, sE_E, xcI_i, xcJ_i, xcR_i, xcV_i, xcI_e, xcJ_e, xcR_e, xcV_e, if_true, if_false, ite_true, ite_false, true_and, and_true, false_and, and_false, or_true, true_or, or_false, false_or, not_true_eq_false, not_false_eq_true, eq_self, ne_eq, ↓reduceIte, Nat.reduceEqDiff, Nat.reduceLT, Nat.reduceLeDiff, Nat.reduceAdd, Nat.reduceMul, Nat.reduceSub, Int32.reduceLT, Int32.reduceLE, reduceCtorEq]), nn_addl, hl, ← hx]
        · rw [if_neg c5] at hx
          rw [if_neg (by simp (disch := omega) only [nn_add, nn_addl, l_add_nn, nn_sub, nn_subl, nn_m1, nn_mull, nn_t, nn_i, l_t, nn_lt, nn_le, nn_eq, nn_ltl, l_lt_nn, nn_lel, l_le_nn, nn_eql, l_eql, nn_nm1, xin_nn, xin_l, m1_lt, m1_le, m1_p, m1_z, dlt_T, dlt_F, dle_T, dle_F, deq_T, deq_F, sI_c, sI_n, sI_J, sI_E, sJ_c, sJ_n, sJ_I, sJ_E, sE_I, sE_J, sE_E, xcI_i, xcJ_i, xcR_i, xcV_i, xcI_e, xcJ_e, xcR_e, xcV_e, if_true, if_false, ite_true, ite_false, true_and, and_true, false_and, and_false, or_true, true_or, or_false, false_or, not_true_eq_false, not_false_eq_true, eq_self, ne_eq, ↓reduceIte, Nat.reduceEqDiff, Nat.reduceLT, Nat.reduceLeDiff, Nat.reduceAdd, Nat.reduceMul, Nat.reduceSub, Int32.reduceLT, Int32.reduceLE, reduceCtorEq]), nn_addl, hl, ← hx]
    have fin : f_X12_endOf_4 N (n + 1) (nn q) S = f_X12_endOf_4 N n (nn (q + (itc i).length)) S := by
      rcases itc_s (hi i List.mem_cons_self) with ⟨z, hl⟩ | ⟨z, hl⟩ | ⟨z, hl⟩ | ⟨z, hl⟩ | ⟨z, hl⟩
      · exact st 1 2 (by decide) (by decide) (by rw [c0, hl]; rfl) (by rw [hl]; rfl) rfl
      · exact st 2 2 (by decide) (by decide) (by rw [c0, hl]; rfl) (by rw [hl]; rfl) rfl
      · exact st 3 2 (by decide) (by decide) (by rw [c0, hl]; rfl) (by rw [hl]; rfl) rfl
      · exact st 4 3 (by decide) (by decide) (by rw [c0, hl]; rfl) (by rw [hl]; rfl) rfl
      · exact st i.1 1 (by omega) (by omega) (by rw [c0, hl]; rfl) (by rw [hl]; rfl) (by rw [if_neg (by omega), if_pos (by omega)])
    rw [fin, ih', cdl_cs, List.length_append]
    congr 3
    omega
/-- the code of an aggregate at q -/
def AGC (S : xS) (q what k f : Nat) (c : List xIt) (sc : Nat → Nat → Prop) : Prop := S.1 518 q = nn 30 ∧ S.1 518 (q + 1) = nn what ∧ S.1 518 (q + 2) = nn k ∧ S.1 518 (q + 3) = nn f ∧ seg (S.1 518) (q + 4) (cdl c) ∧ S.1 518 (q + 4 + (cdl c).length) = nn 31 ∧ (∀ i ∈ c, iok True sc i) ∧ dpx 0 (tg2 c) = some 1 ∧ what ≤ 3 ∧ k < 7 ∧ f < 6
theorem AGC_k {S S' : xS} {q what k f : Nat} {c : List xIt} (h : AGC S q what k f c sc) (hk : k524 S S') : AGC S' q what k f c sc := by
  unfold AGC
  rw [hk.1 518 (by decide)]
  exact h
theorem e_agl {q what k f E0 : Nat} {c : List xIt} {ow : Nat → Nat} {st : List Int32} (hN : 1000 < N) (hE : x1 + xl = nn E0) (hE2 : E0 < 3000) (hq : q + 4 + (cdl c).length + 1 ≤ E0) (hst : st.length + c.length + 1 < 200) (val : Nat → Int32) : ∀ (d w n : Nat) (res cn : Int32) (S : xS), w + d = 64 → w < 64 → ow w = k + 1 → AGC S q what k f c sc → (∀ v, v < 64 → ow v ≤ 7 ∧ S.1 511 v = nn (ow v)) → (∀ v, v < 64 → ow v = k + 1 → envR S V (Fw v) C True sc (nn v)) → (∀ v, v < 64 → ow v = k + 1 → val v = S.1 512 (6 * v + f)) → SK S 524 st → d * (c.length + 1) ≤ n →
    ∃ n2 x6' x8' x9' S', n ≤ n2 + d * (c.length + 1) ∧ f_X12_eval_18 N n x1 xl (nn st.length) (nn (q + 4)) (nn w) (nn q) res cn S = f_X12_eval_18 N n2 x1 xl (nn (st.length + 1)) (nn (q + 4 + (cdl c).length + 1)) x6' (nn q) x8' x9' S' ∧ SK S' 524 (agf what (fun v => decide (ow v = k + 1) && decide (¬ evl V (Fw v) C c = 0)) val d w res cn :: st) ∧ k524 S S' := by
  intro d
  induction d using Nat.strongRecOn with
  | ind d ih =>
    intro w n res cn S hw hw2 how hA h1 he hv hs hn
    have ⟨a1, a2, a3, a4, a5, a6, a7, a8, a9, a10, a11⟩ := hA
    obtain ⟨d', rfl⟩ : ∃ d', d = d' + 1 := ⟨d - 1, by omega⟩
    rw [Nat.add_mul, Nat.one_mul] at hn
    obtain ⟨m, hm⟩ : ∃ m, n = m + 1 + c.length := ⟨n - c.length - 1, by omega⟩
    have hcl := cdl_pos a8
    obtain ⟨e1, e2⟩ : ∃ e, dpx st.length (tg2 c) = some e := by
      have hh := evs_1 (V := V) (F := Fw w) (C := C) a7 a8 st
      refine ⟨st.length + 1, ?_⟩
      have gen : ∀ (L : List Nat) (a b e : Nat), dpx a L = some e → dpx (a + b) L = some (e + b) := by
        intro L
        induction L with
        | nil => intro a b e h; injection h with h; show some (a + b) = some (e + b); rw [h]
        | cons g r ihg =>
          intro a b e h
          rw [dpx_c] at h ⊢
          by_cases z : g = 5 ∨ g = 6
          · rw [if_pos z] at h ⊢
            by_cases y : 1 ≤ a
            · rw [if_pos y] at h
              rw [if_pos (by omega)]
              exact ihg a b e h
            · rw [if_neg y] at h; cases h
          · rw [if_neg z] at h ⊢
            by_cases y : 10 ≤ g ∧ g ≤ 22
            · rw [if_pos y] at h ⊢
              by_cases u : 2 ≤ a
              · rw [if_pos u] at h
                rw [if_pos (by omega), show a + b - 1 = (a - 1) + b by omega]
                exact ihg (a - 1) b e h
              · rw [if_neg u] at h; cases h
            · rw [if_neg y] at h ⊢
              rw [show a + b + 1 = (a + 1) + b by omega]
              exact ihg (a + 1) b e h
      have := gen (tg2 c) 0 st.length 1 a8
      rw [Nat.zero_add, Nat.add_comm 1] at this
      exact this
    obtain ⟨S1, r1, r2, r3, r4⟩ := e_run (N := N) (x1 := x1) (xl := xl) (x7 := nn q) (x8 := res) (x9 := cn) E0 hE hE2 c st (q + 4) e1 (m + 1) S (he w hw2 how) a7 a5 (by omega) hs e2 (by omega)
    rw [evs_1 a7 a8 st] at r1 r2
    rw [← hm] at r1
    have hl1 : (evl V (Fw w) C c :: st).length = st.length + 1 := rfl
    rw [hl1] at r1
    have hA1 := AGC_k hA r3
    have ⟨b1, b2, b3, b4, b5, b6, b7, b8, b9, b10, b11⟩ := hA1
    have h11 : ∀ v, v < 64 → ow v ≤ 7 ∧ S1.1 511 v = nn (ow v) := fun v hv2 => ⟨(h1 v hv2).1, by rw [r3.1 511 (by decide)]; exact (h1 v hv2).2⟩
    have hs1 : SK S1 524 st := r2.2
    have htop : S1.1 524 st.length = evl V (Fw w) C c := r2.1
    have hm1 : nn (st.length + 1) + (-1) = nn st.length := by rw [nn_pm, nn_s1]
    obtain ⟨w', u1, u2, u3, u4, u5⟩ := p_next_l (N := N) (k := k) b10 h11 (64 - (w + 1)) (w + 1) N (by omega) (by omega)
    have u5' : f_X12_nextOf N (nn k) (nn (w + 1)) S1 = some (rI (nn w') S1) := u5
    -- what comes behind the condition
    have tail : ∀ (r' c' : Int32), f_X12_eval_18 N n x1 xl (nn st.length) (nn (q + 4)) (nn w) (nn q) res cn S = f_X12_eval_413 N (f_X12_eval_18 N m) x1 xl (nn st.length) (nn (q + 4 + (cdl c).length)) (nn w) (nn q) r' c' S1 → agf what (fun v => decide (ow v = k + 1) && decide (¬ evl V (Fw v) C c = 0)) val (d' + 1) w res cn = agf what (fun v => decide (ow v = k + 1) && decide (¬ evl V (Fw v) C c = 0)) val d' (w + 1) r' c' → ∃ n2 x6' x8' x9' S', n ≤ n2 + (d' + 1) * (c.length + 1) ∧ f_X12_eval_18 N n x1 xl (nn st.length) (nn (q + 4)) (nn w) (nn q) res cn S = f_X12_eval_18 N n2 x1 xl (nn (st.length + 1)) (nn (q + 4 + (cdl c).length + 1)) x6' (nn q) x8' x9' S' ∧ SK S' 524 (agf what (fun v => decide (ow v = k + 1) && decide (¬ evl V (Fw v) C c = 0)) val (d' + 1) w res cn :: st) ∧ k524 S S' := by
      intro r' c' g1 g2
      have sk := agf_skip (what := what) (ch := fun v => decide (ow v = k + 1) && decide (¬ evl V (Fw v) C c = 0)) (val := val) (res := r') (cn := c') (w' - (w + 1)) (64 - w') (w + 1) (fun v a b => by
        have := u4 v a (by omega)
        simp [this])
      rw [show w' - (w + 1) + (64 - w') = d' by omega, show w + 1 + (w' - (w + 1)) = w' by omega] at sk
      have g3 : f_X12_eval_413 N (f_X12_eval_18 N m) x1 xl (nn st.length) (nn (q + 4 + (cdl c).length)) (nn w) (nn q) r' c' S1 = if 64 ≤ nn w' then f_X12_eval_18 N m x1 xl (nn (st.length + 1)) (nn (q + 4 + (cdl c).length + 1)) (nn w') (nn q) r' c' (sI S1 524 st.length r') else f_X12_eval_18 N m x1 xl (nn st.length) (nn (q + 4)) (nn w') (nn q) r' c' S1 := by
        unfold f_X12_eval_413 f_X12_eval_502
        have e2 : (nn q + 2 : Int32) = nn (q + 2) := nn_addl q 2
        have e4 : (nn q + 4 : Int32) = nn (q + 4) := nn_addl q 4
        have ew : (nn w + 1 : Int32) = nn (w + 1) := nn_addl w 1
        have es : (nn st.length + 1 : Int32) = nn (st.length + 1) := nn_addl _ 1
        have eq : (nn (q + 4 + (cdl c).length) + 1 : Int32) = nn (q + 4 + (cdl c).length + 1) := nn_addl _ 1
        have t2 : (nn (q + 2)).toNatClampNeg = q + 2 := nn_t (by omega)
        have ts : (nn st.length).toNatClampNeg = st.length := nn_t (by omega)
        simp only [e2, e4, ew, es, eq, t2, ts, b3, if_pos ((xin_nn (a := q + 2) (n := 3000) (by omega)).mpr (by omega)), if_pos ((xin_nn (a := st.length) (n := 200) (by omega)).mpr (by omega))]
        rw [xcI_of u5']
      rw [g2, sk]
      by_cases c64 : w' = 64
      · subst c64
        rw [if_pos (by simp (disch := omega) only [nn_add, nn_addl, l_add_nn, nn_sub, nn_subl, nn_m1, nn_mull, nn_t, nn_i, l_t, nn_lt, nn_le, nn_eq, nn_ltl, l_lt_nn, nn_lel, l_le_nn, nn_eql, l_eql, nn_nm1, xin_nn, xin_l, m1_lt, m1_le, m1_p, m1_z, dlt_T, dlt_F, dle_T, dle_F, deq_T, deq_F, sI_c, sI_n, sI_J, sI_E, sJ_c, sJ_n, sJ_I, sJ_E, sE_I, sE_J, sE_E, xcI_i, xcJ_i, xcR_i, xcV_i, xcI_e, xcJ_e, xcR_e, xcV_e, if_true, if_false, ite_true, ite_false, true_and, and_true, false_and, and_false, or_true, true_or, or_false, false_or, not_true_eq_false, not_false_eq_true, eq_self, ne_eq, ↓reduceIte, Nat.reduceEqDiff, Nat.reduceLT, Nat.reduceLeDiff, Nat.reduceAdd, Nat.reduceMul, Nat.reduceSub, Int32.reduceLT, Int32.reduceLE, reduceCtorEq])] at g3
        refine ⟨m, nn 64, r', c', sI S1 524 st.length r', ?_, g1.trans g3, ?_, k524_t r3 k524_s⟩
        · rw [Nat.add_mul, Nat.one_mul]
          omega
        · show SK _ 524 (r' :: st)
          exact ⟨by simp (disch := omega) only [nn_add, nn_addl, l_add_nn, nn_sub, nn_subl, nn_m1, nn_mull, nn_t, nn_i, l_t, nn_lt, nn_le, nn_eq, nn_ltl, l_lt_nn, nn_lel, l_le_nn, nn_eql, l_eql, nn_nm1, xin_nn, xin_l, m1_lt, m1_le, m1_p, m1_z, dlt_T, dlt_F, dle_T, dle_F, deq_T, deq_F, sI_c, sI_n, sI_J, sI_E, sJ_c, sJ_n, sJ_I, sJ_E, sE_I, sE_J, sE_E, xcI_i, xcJ_i, xcR_i, xcV_i, xcI_e, xcJ_e, xcR_e, xcV_e, if_true, if_false, ite_true, ite_false, true_and, and_true, false_and, and_false, or_true, true_or, or_false, false_or, not_true_eq_false, not_false_eq_true, eq_self, ne_eq, ↓reduceIte, Nat.reduceEqDiff, Nat.reduceLT, Nat.reduceLeDiff, Nat.reduceAdd, Nat.reduceMul, Nat.reduceSub, Int32.reduceLT, Int32.reduceLE, reduceCtorEq], SK_s hs1 (by omega)⟩
      · rw [if_neg (by simp (disch := omega) only [nn_add, nn_addl, l_add_nn, nn_sub, nn_subl, nn_m1, nn_mull, nn_t, nn_i, l_t, nn_lt, nn_le, nn_eq, nn_ltl, l_lt_nn, nn_lel, l_le_nn, nn_eql, l_eql, nn_nm1, xin_nn, xin_l, m1_lt, m1_le, m1_p, m1_z, dlt_T, dlt_F, dle_T, dle_F, deq_T, deq_F, sI_c, sI_n, sI_J, sI_E, sJ_c, sJ_n, sJ_I, sJ_E, sE_I, sE_J, sE_E, xcI_i, xcJ_i, xcR_i, xcV_i, xcI_e, xcJ_e, xcR_e, xcV_e, if_true, if_false, ite_true, ite_false, true_and, and_true, false_and, and_false, or_true, true_or, or_false, false_or, not_true_eq_false, not_false_eq_true, eq_self, ne_eq, ↓reduceIte, Nat.reduceEqDiff, Nat.reduceLT, Nat.reduceLeDiff, Nat.reduceAdd, Nat.reduceMul, Nat.reduceSub, Int32.reduceLT, Int32.reduceLE, reduceCtorEq])] at g3
        have how' := u3.resolve_left c64
        have hmul : (64 - w') * (c.length + 1) ≤ d' * (c.length + 1) := Nat.mul_le_mul_right _ (by omega)
        obtain ⟨n2, y6, y8, y9, S2, v1, v2, v3, v4⟩ := ih (64 - w') (by omega) w' m r' c' S1 (by omega) (by omega) how' hA1 h11 (fun v hv2 hz => envR_k (he v hv2 hz) r3) (fun v hv2 hz => by rw [r3.1 512 (by decide)]; exact hv v hv2 hz) hs1 (by omega)
        refine ⟨n2, y6, y8, y9, S2, ?_, g1.trans (g3.trans v2), v3, k524_t r3 v4⟩
        rw [Nat.add_mul, Nat.one_mul]
        omega
    have d31 : f_X12_eval_18 N n x1 xl (nn st.length) (nn (q + 4)) (nn w) (nn q) res cn S = if evl V (Fw w) C c = 0 then f_X12_eval_413 N (f_X12_eval_18 N m) x1 xl (nn st.length) (nn (q + 4 + (cdl c).length)) (nn w) (nn q) res cn S1 else f_X12_eval_413 N (f_X12_eval_18 N m) x1 xl (nn st.length) (nn (q + 4 + (cdl c).length)) (nn w) (nn q) (agv what res cn (val w)) (cn + 1) S1 := by
      have ts : (nn st.length).toNatClampNeg = st.length := nn_t (by omega)
      have e1' : (nn q + 1 : Int32) = nn (q + 1) := nn_addl q 1
      have e3' : (nn q + 3 : Int32) = nn (q + 3) := nn_addl q 3
      have t1 : (nn (q + 1)).toNatClampNeg = q + 1 := nn_t (by omega)
      have t3 : (nn (q + 3)).toNatClampNeg = q + 3 := nn_t (by omega)
      rw [r1, e_disp (by rw [hE]; simp (disch := omega) only [nn_add, nn_addl, l_add_nn, nn_sub, nn_subl, nn_m1, nn_mull, nn_t, nn_i, l_t, nn_lt, nn_le, nn_eq, nn_ltl, l_lt_nn, nn_lel, l_le_nn, nn_eql, l_eql, nn_nm1, xin_nn, xin_l, m1_lt, m1_le, m1_p, m1_z, dlt_T, dlt_F, dle_T, dle_F, deq_T, deq_F, sI_c, sI_n, sI_J, sI_E, sJ_c, sJ_n, sJ_I, sJ_E, sE_I, sE_J, sE_E, xcI_i, xcJ_i, xcR_i, xcV_i, xcI_e, xcJ_e, xcR_e, xcV_e, if_true, if_false, ite_true, ite_false, true_and, and_true, false_and, and_false, or_true, true_or, or_false, false_or, not_true_eq_false, not_false_eq_true, eq_self, ne_eq, ↓reduceIte, Nat.reduceEqDiff, Nat.reduceLT, Nat.reduceLeDiff, Nat.reduceAdd, Nat.reduceMul, Nat.reduceSub, Int32.reduceLT, Int32.reduceLE, reduceCtorEq, not_false_eq_true]) (by omega) b6 (by decide), if_neg (by decide), if_neg (by decide), if_neg (by decide), if_neg (by decide), if_neg (by decide), if_neg (by decide), if_neg (by decide), if_pos rfl, hm1]
      simp only [ts, e1', e3', t1, t3, htop, b2, b4, if_pos ((xin_nn (a := st.length) (n := 200) (by omega)).mpr (by omega)), if_pos ((xin_nn (a := q + 1) (n := 3000) (by omega)).mpr (by omega)), if_pos ((xin_nn (a := q + 3) (n := 3000) (by omega)).mpr (by omega))]
      have h511 : ¬ S1.1 511 w = 0 := by
        rw [(h11 w hw2).2, how]
        simp (disch := omega) only [nn_add, nn_addl, l_add_nn, nn_sub, nn_subl, nn_m1, nn_mull, nn_t, nn_i, l_t, nn_lt, nn_le, nn_eq, nn_ltl, l_lt_nn, nn_lel, l_le_nn, nn_eql, l_eql, nn_nm1, xin_nn, xin_l, m1_lt, m1_le, m1_p, m1_z, dlt_T, dlt_F, dle_T, dle_F, deq_T, deq_F, sI_c, sI_n, sI_J, sI_E, sJ_c, sJ_n, sJ_I, sJ_E, sE_I, sE_J, sE_E, xcI_i, xcJ_i, xcR_i, xcV_i, xcI_e, xcJ_e, xcR_e, xcV_e, if_true, if_false, ite_true, ite_false, true_and, and_true, false_and, and_false, or_true, true_or, or_false, false_or, not_true_eq_false, not_false_eq_true, eq_self, ne_eq, ↓reduceIte, Nat.reduceEqDiff, Nat.reduceLT, Nat.reduceLeDiff, Nat.reduceAdd, Nat.reduceMul, Nat.reduceSub, Int32.reduceLT, Int32.reduceLE, reduceCtorEq]
      have hvw : S1.1 512 (6 * w + f) = val w := by
        rw [r3.1 512 (by decide)]
        exact (hv w hw2 how).symm
      rw [xcI_of (p_valueOf hw2 b11), if_neg h511, hvw, xcI_of (p_aggd b9)]
    have hch : (decide (ow w = k + 1) && decide (¬ evl V (Fw w) C c = 0)) = decide (¬ evl V (Fw w) C c = 0) := by
      simp [how]
    by_cases cz : evl V (Fw w) C c = 0
    · rw [if_pos cz] at d31
      refine tail res cn d31 ?_
      rw [agf_s, hch, if_neg (by simp [cz])]
    · rw [if_neg cz] at d31
      refine tail _ _ d31 ?_
      rw [agf_s, hch, if_pos (by simp [cz])]
end AR
