/-! 68: what an expression is worth, in the reference -/
section EX3
variable {N n : Nat} {S S' : xS} {x y : Int32} {V F : Nat → Int32} {C : Nat → Nat → Int32} {rc : Prop} {sc : Nat → Nat → Prop} {x1 xl x6 x7 x8 x9 : Int32}
theorem p_valueOf {w f : Nat} (hw : w < 64) (hf : f < 6) : f_X12_valueOf N (nn w) (nn f) S = some (rI (if S.1 511 w = 0 then 0 else S.1 512 (6 * w + f)) S) := by
  have ew : (nn w).toNatClampNeg = w := nn_t (by omega)
  have e6 : (6 : Int32) * nn w + nn f = nn (6 * w + f) := by rw [nn_mull, nn_add]
  have e6t : (nn (6 * w + f)).toNatClampNeg = 6 * w + f := nn_t (by omega)
  unfold f_X12_valueOf f_X12_valueOf_24
  simp only [ew, e6, e6t, if_pos ((xin_nn (a := w) (n := 64) (by omega)).mpr hw), if_pos ((xin_nn (a := 6 * w + f) (n := 384) (by omega)).mpr (by omega))]
  by_cases q : S.1 511 w = 0
  · rw [if_pos q, if_pos q]
  · rw [if_neg q, if_neg q]
theorem p_there {d k wd : Nat} (hd : d < 12) (hk : k < 64) (hw : wd < 64) (h1 : S.1 529 d = nn k) (h2 : S.1 526 (64 * d + k) = nn wd) : f_X12_cursorThere N (nn d) S = some (rI (if S.1 511 wd = 0 then 0 else if S.1 513 wd = S.1 527 (64 * d + k) then 1 else 0) S) := by
  have ed : (nn d).toNatClampNeg = d := nn_t (by omega)
  have e6 : (64 : Int32) * nn d + nn k = nn (64 * d + k) := by rw [nn_mull, nn_add]
  have e6t : (nn (64 * d + k)).toNatClampNeg = 64 * d + k := nn_t (by omega)
  have ew : (nn wd).toNatClampNeg = wd := nn_t (by omega)
  unfold f_X12_cursorThere f_X12_cursorThere_47 f_X12_cursorThere_48
  simp only [ed, h1, e6, e6t, h2, ew, if_pos ((xin_nn (a := d) (n := 12) (by omega)).mpr hd), if_pos ((xin_nn (a := 64 * d + k) (n := 768) (by omega)).mpr (by omega)), if_pos ((xin_nn (a := wd) (n := 64) (by omega)).mpr hw)]
  by_cases q : S.1 511 wd = 0
  · rw [if_pos q, if_pos q, if_pos (Or.inl rfl)]
  · rw [if_neg q, if_neg q]
    by_cases q2 : S.1 513 wd = S.1 527 (64 * d + k)
    · rw [if_pos q2, if_pos q2, if_pos (Or.inr rfl)]
    · rw [if_neg q2, if_neg q2, if_pos (Or.inl rfl)]
theorem itc_s {i : xIt} (hi : iok rc sc i) : (i.1 = 1 ∧ itc i = [1, i.2.1]) ∨ (i.1 = 2 ∧ itc i = [2, nn i.2.2.1]) ∨ (i.1 = 3 ∧ itc i = [3, nn i.2.2.2.1]) ∨ (i.1 = 4 ∧ itc i = [4, nn i.2.2.2.2, nn i.2.2.2.1]) ∨ ((i.1 = 5 ∨ i.1 = 6 ∨ (10 ≤ i.1 ∧ i.1 ≤ 22)) ∧ itc i = [nn i.1]) := by
  unfold iok at hi
  unfold itc
  rcases hi with z | ⟨z, z2⟩ | ⟨z, z2, z3⟩ | ⟨z, z2, z3⟩ | z | z | z
  · exact Or.inl ⟨z, by rw [if_pos z]⟩
  · exact Or.inr (Or.inl ⟨z, by rw [if_neg (by omega), if_pos z]⟩)
  · exact Or.inr (Or.inr (Or.inl ⟨z, by rw [if_neg (by omega), if_neg (by omega), if_pos z]⟩))
  · exact Or.inr (Or.inr (Or.inr (Or.inl ⟨z, by rw [if_neg (by omega), if_neg (by omega), if_neg (by omega), if_pos z]⟩)))
  · exact Or.inr (Or.inr (Or.inr (Or.inr ⟨Or.inl z, by rw [if_neg (by omega), if_neg (by omega), if_neg (by omega), if_neg (by omega), if_neg (by omega), if_neg (by omega)]⟩)))
  · exact Or.inr (Or.inr (Or.inr (Or.inr ⟨Or.inr (Or.inl z), by rw [if_neg (by omega), if_neg (by omega), if_neg (by omega), if_neg (by omega), if_neg (by omega), if_neg (by omega)]⟩)))
  · exact Or.inr (Or.inr (Or.inr (Or.inr ⟨Or.inr (Or.inr z), by rw [if_neg (by omega), if_neg (by omega), if_neg (by omega), if_neg (by omega), if_neg (by omega), if_neg (by omega)]⟩)))
/-- one item of the reference's -/
theorem e_step {q : Nat} {i : xIt} {st : List Int32} (he : envR S V F C rc sc x6) (hi : iok rc sc i) (hp : seg (S.1 518) q (itc i)) (hq : ¬ (x1 + xl) ≤ nn q) (hq2 : q + (itc i).length < 3000) (hs : SK S 524 st) (hd : st.length < 199) (hd5 : i.1 = 5 ∨ i.1 = 6 → 1 ≤ st.length) (hd10 : 10 ≤ i.1 ∧ i.1 ≤ 22 → 2 ≤ st.length) :
    ∃ S', f_X12_eval_18 N (n + 1) x1 xl (nn st.length) (nn q) x6 x7 x8 x9 S = f_X12_eval_18 N n x1 xl (nn (stp V F C i st).length) (nn (q + (itc i).length)) x6 x7 x8 x9 S' ∧ SK S' 524 (stp V F C i st) ∧ k524 S S' := by
  obtain ⟨e1, e2, e3⟩ := he
  have xd : xin (nn st.length) 200 := (xin_nn (by omega)).mpr (by omega)
  have ed : (nn st.length).toNatClampNeg = st.length := nn_t (by omega)
  have push : ∀ v, f_X12_eval_18 N (n + 1) x1 xl (nn st.length) (nn q) x6 x7 x8 x9 S = f_X12_eval_18 N n x1 xl (nn (st.length + 1)) (nn (q + (itc i).length)) x6 x7 x8 x9 (sI S 524 st.length v) → stp V F C i st = v :: st → ∃ S', f_X12_eval_18 N (n + 1) x1 xl (nn st.length) (nn q) x6 x7 x8 x9 S = f_X12_eval_18 N n x1 xl (nn (stp V F C i st).length) (nn (q + (itc i).length)) x6 x7 x8 x9 S' ∧ SK S' 524 (stp V F C i st) ∧ k524 S S' := by
    intro v h1 h2
    refine ⟨sI S 524 st.length v, ?_, ?_, k524_s⟩
    · rw [h1, h2]
      rfl
    · rw [h2]
      exact ⟨by simp (disch := omega) only [nn_add, nn_addl, l_add_nn, nn_sub, nn_subl, nn_m1, nn_mull, nn_t, nn_i, l_t, nn_lt, nn_le, nn_eq, nn_ltl, l_lt_nn, nn_lel, l_le_nn, nn_eql, l_eql, nn_nm1, xin_nn, xin_l, m1_lt, m1_le, m1_p, m1_z, dlt_T, dlt_F, dle_T, dle_F, deq_T, deq_F, sI_c, sI_n, sI_J, sI_E, sJ_c, sJ_n, sJ_I, sJ_E, sE_I, sE_J, sE_E, xcI_i, xcJ_i, xcR_i, xcV_i, xcI_e, xcJ_e, xcR_e, xcV_e, if_true, if_false, ite_true, ite_false, true_and, and_true, false_and, and_false, or_true, true_or, or_false, false_or, not_true_eq_false, not_false_eq_true, eq_self, ne_eq, ↓reduceIte, Nat.reduceEqDiff, Nat.reduceLT, Nat.reduceLeDiff, Nat.reduceAdd, Nat.reduceMul, Nat.reduceSub, Int32.reduceLT, Int32.reduceLE, reduceCtorEq], SK_s hs (by omega)⟩
  have c0 : ∀ l, itc i = l → 1 ≤ l.length → S.1 518 q = l.getD 0 0 := fun l hl h1 => by
    have := hp 0 (by rw [hl]; exact h1)
    rw [Nat.add_zero, hl] at this
    exact this
  have c1 : ∀ l, itc i = l → 2 ≤ l.length → S.1 518 (q + 1) = l.getD 1 0 := fun l hl h1 => by
    have := hp 1 (by rw [hl]; exact h1)
    rw [hl] at this
    exact this
  have c2 : ∀ l, itc i = l → 3 ≤ l.length → S.1 518 (q + 2) = l.getD 2 0 := fun l hl h1 => by
    have := hp 2 (by rw [hl]; exact h1)
    rw [hl] at this
    exact this
  have hi2 := hi
  unfold iok at hi2
  rcases itc_s hi with ⟨z, hl⟩ | ⟨z, hl⟩ | ⟨z, hl⟩ | ⟨z, hl⟩ | ⟨z, hl⟩
  · have f0 : S.1 518 q = nn 1 := c0 _ hl (by simp)
    have f1 : S.1 518 (q + 1) = i.2.1 := c1 _ hl (by simp)
    rw [hl] at hq2
    have hq3 : q + 2 < 3000 := hq2
    refine push i.2.1 ?_ (by unfold stp; rw [if_pos z])
    rw [hl, e_disp hq (by omega) f0 (by decide), if_pos rfl, nn_addl, if_pos ((xin_nn (by show q + 1 < 2147483648; omega)).mpr (by show q + 1 < 3000; omega)), if_pos xd, ed, nn_t (by show q + 1 < 2147483648; omega)]
    show f_X12_eval_502 N (f_X12_eval_18 N n) x1 xl (nn st.length + 1) (nn q + 2) x6 x7 x8 x9 (sI S 524 st.length (S.1 518 (q + 1))) = _
    rw [f1, nn_addl, nn_addl]
    rfl
  · have z2 : i.2.2.1 < 20 := by omega
    have f0 : S.1 518 q = nn 2 := c0 _ hl (by simp)
    have f1 : S.1 518 (q + 1) = nn i.2.2.1 := c1 _ hl (by simp)
    rw [hl] at hq2
    have hq3 : q + 2 < 3000 := hq2
    refine push (V i.2.2.1) ?_ (by unfold stp; rw [if_neg (by omega), if_pos z])
    rw [hl, e_disp hq (by omega) f0 (by decide), if_neg (by decide), if_pos rfl, nn_addl, if_pos ((xin_nn (by show q + 1 < 2147483648; omega)).mpr (by show q + 1 < 3000; omega)), nn_t (by show q + 1 < 2147483648; omega)]
    show (if xin (S.1 518 (q + 1)) 20 then _ else _) = _
    rw [f1, if_pos ((xin_nn (by omega)).mpr z2), if_pos xd, ed, nn_t (by omega), e1 _ z2]
    show f_X12_eval_502 N (f_X12_eval_18 N n) x1 xl (nn st.length + 1) (nn q + 2) x6 x7 x8 x9 (sI S 524 st.length (V i.2.2.1)) = _
    rw [nn_addl, nn_addl]
    rfl
  · have z3 : rc ∧ i.2.2.2.1 < 6 := by
      rcases hi2 with y | ⟨y, y2⟩ | ⟨y, y2, y3⟩ | ⟨y, y2, y3⟩ | y | y | y
      · omega
      · omega
      · exact ⟨y2, y3⟩
      · omega
      · omega
      · omega
      · omega
    obtain ⟨w, a1, a2, a3, a4⟩ := e2 z3.1
    have f0 : S.1 518 q = nn 3 := c0 _ hl (by simp)
    have f1 : S.1 518 (q + 1) = nn i.2.2.2.1 := c1 _ hl (by simp)
    rw [hl] at hq2
    have hq3 : q + 2 < 3000 := hq2
    refine push (F i.2.2.2.1) ?_ (by unfold stp; rw [if_neg (by omega), if_neg (by omega), if_pos z])
    rw [hl, e_disp hq (by omega) f0 (by decide), if_neg (by decide), if_neg (by decide), if_pos rfl, nn_addl, if_pos ((xin_nn (by show q + 1 < 2147483648; omega)).mpr (by show q + 1 < 3000; omega)), nn_t (by show q + 1 < 2147483648; omega)]
    show xcI (f_X12_valueOf N x6 (S.1 518 (q + 1)) S) _ = _
    rw [f1, a2, xcI_of (p_valueOf a1 z3.2), if_neg a3, if_pos xd, ed, a4 _ z3.2]
    show f_X12_eval_502 N (f_X12_eval_18 N n) x1 xl (nn st.length + 1) (nn q + 2) (nn w) x7 x8 x9 (sI S 524 st.length (F i.2.2.2.1)) = _
    rw [nn_addl, nn_addl]
    rfl
  · have z3 : sc i.2.2.1 i.2.2.2.2 ∧ i.2.2.2.1 < 6 := by
      rcases hi2 with y | ⟨y, y2⟩ | ⟨y, y2, y3⟩ | ⟨y, y2, y3⟩ | y | y | y
      · omega
      · omega
      · omega
      · exact ⟨y2, y3⟩
      · omega
      · omega
      · omega
    obtain ⟨a0, k, wd, a1, a2, a3, a4, a5⟩ := e3 _ _ z3.1
    have f0 : S.1 518 q = nn 4 := c0 _ hl (by simp)
    have f1 : S.1 518 (q + 1) = nn i.2.2.2.2 := c1 _ hl (by simp)
    have f2 : S.1 518 (q + 2) = nn i.2.2.2.1 := c2 _ hl (by simp)
    rw [hl] at hq2
    have hq3 : q + 3 < 3000 := hq2
    have hth := p_there (N := N) a0 a1 a2 a3 a4
    have e6 : (64 : Int32) * nn i.2.2.2.2 + nn k = nn (64 * i.2.2.2.2 + k) := by rw [nn_mull, nn_add]
    refine push (C i.2.2.1 i.2.2.2.1) ?_ (by unfold stp; rw [if_neg (by omega), if_neg (by omega), if_neg (by omega), if_pos z])
    rw [hl, e_disp hq (by omega) f0 (by decide), if_neg (by decide), if_neg (by decide), if_neg (by decide), if_pos rfl, nn_addl, if_pos ((xin_nn (by show q + 1 < 2147483648; omega)).mpr (by show q + 1 < 3000; omega)), nn_t (by show q + 1 < 2147483648; omega)]
    show xcI (f_X12_cursorThere N (S.1 518 (q + 1)) S) _ = _
    rw [f1, xcI_of hth, a5 _ z3.2]
    unfold f_X12_eval_206
    have fin : ∀ v, f_X12_eval_502 N (f_X12_eval_18 N n) x1 xl (nn st.length + 1) (nn q + 3) x6 x7 x8 x9 (sI S 524 st.length v) = f_X12_eval_18 N n x1 xl (nn (st.length + 1)) (nn (q + [4, nn i.2.2.2.2, nn i.2.2.2.1].length)) x6 x7 x8 x9 (sI S 524 st.length v) := fun v => by
      rw [nn_addl, nn_addl]
      rfl
    by_cases c3 : S.1 511 wd = 0
    · rw [if_pos c3, if_pos c3, if_pos rfl, if_pos xd, ed]
      exact fin 0
    · rw [if_neg c3, if_neg c3]
      by_cases c4 : S.1 513 wd = S.1 527 (64 * i.2.2.2.2 + k)
      · rw [if_pos c4, if_pos c4, if_neg (by decide), if_pos ((xin_nn (by omega)).mpr a0), nn_t (by omega), a3, e6, if_pos ((xin_nn (by omega)).mpr (by omega)), nn_t (by omega), a4, nn_addl, if_pos ((xin_nn (by show q + 2 < 2147483648; omega)).mpr (by show q + 2 < 3000; omega)), nn_t (by show q + 2 < 2147483648; omega)]
        show xcI (f_X12_valueOf N (nn wd) (S.1 518 (q + 2)) S) _ = _
        rw [f2, xcI_of (p_valueOf a2 z3.2), if_neg c3, if_pos xd, ed]
        exact fin _
      · rw [if_neg c4, if_neg c4, if_pos rfl, if_pos xd, ed]
        exact fin 0
  · have f0 : S.1 518 q = nn i.1 := c0 _ hl (by simp)
    rw [hl] at hq2
    have hq3 : q + 1 < 3000 := hq2
    have fin : ∀ (x : Int32) (r : List Int32) (v : Int32), SK S 524 (x :: r) → f_X12_eval_18 N (n + 1) x1 xl (nn st.length) (nn q) x6 x7 x8 x9 S = f_X12_eval_18 N n x1 xl (nn (r.length + 1)) (nn (q + 1)) x6 x7 x8 x9 (sI S 524 r.length v) → stp V F C i st = v :: r → ∃ S', f_X12_eval_18 N (n + 1) x1 xl (nn st.length) (nn q) x6 x7 x8 x9 S = f_X12_eval_18 N n x1 xl (nn (stp V F C i st).length) (nn (q + (itc i).length)) x6 x7 x8 x9 S' ∧ SK S' 524 (stp V F C i st) ∧ k524 S S' := by
      intro x r v h0 h1 h2
      refine ⟨sI S 524 r.length v, ?_, ?_, k524_s⟩
      · rw [h1, h2, hl]
        rfl
      · rw [h2]
        exact ⟨by simp (disch := omega) only [nn_add, nn_addl, l_add_nn, nn_sub, nn_subl, nn_m1, nn_mull, nn_t, nn_i, l_t, nn_lt, nn_le, nn_eq, nn_ltl, l_lt_nn, nn_lel, l_le_nn, nn_eql, l_eql, nn_nm1, xin_nn, xin_l, m1_lt, m1_le, m1_p, m1_z, dlt_T, dlt_F, dle_T, dle_F, deq_T, deq_F, sI_c, sI_n, sI_J, sI_E, sJ_c, sJ_n, sJ_I, sJ_E, sE_I, sE_J, sE_E, xcI_i, xcJ_i, xcR_i, xcV_i, xcI_e, xcJ_e, xcR_e, xcV_e, if_true, if_false, ite_true, ite_false, true_and, and_true, false_and, and_false, or_true, true_or, or_false, false_or, not_true_eq_false, not_false_eq_true, eq_self, ne_eq, ↓reduceIte, Nat.reduceEqDiff, Nat.reduceLT, Nat.reduceLeDiff, Nat.reduceAdd, Nat.reduceMul, Nat.reduceSub, Int32.reduceLT, Int32.reduceLE, reduceCtorEq], SK_s h0.2 (by omega)⟩
    rcases z with z | z | z
    · obtain ⟨x, r, h0⟩ : ∃ x r, st = x :: r := by
        cases st with
        | nil => have := hd5 (Or.inl z); simp at this
        | cons x r => exact ⟨x, r, rfl⟩
      have hln : st.length = r.length + 1 := by rw [h0]; rfl
      rw [h0] at hs
      refine fin x r (-x) hs ?_ (by unfold stp; rw [if_neg (by omega), if_neg (by omega), if_neg (by omega), if_neg (by omega), if_pos z, h0])
      rw [z] at f0
      rw [e_disp hq (by omega) f0 (by decide), if_neg (by decide), if_neg (by decide), if_neg (by decide), if_neg (by decide), if_pos rfl]
      unfold f_X12_eval_229 f_X12_eval_273
      rw [if_pos (show nn 5 = 5 from rfl), hln, nn_s1, if_pos ((xin_nn (by omega)).mpr (by omega)), if_pos ((xin_nn (by omega)).mpr (by omega)), nn_t (by omega), hs.1, nn_addl]
      rfl
    · obtain ⟨x, r, h0⟩ : ∃ x r, st = x :: r := by
        cases st with
        | nil => have := hd5 (Or.inr z); simp at this
        | cons x r => exact ⟨x, r, rfl⟩
      have hln : st.length = r.length + 1 := by rw [h0]; rfl
      rw [h0] at hs
      refine fin x r (if x = 0 then 1 else 0) hs ?_ (by unfold stp; rw [if_neg (by omega), if_neg (by omega), if_neg (by omega), if_neg (by omega), if_neg (by omega), if_pos z, h0])
      rw [z] at f0
      rw [e_disp hq (by omega) f0 (by decide), if_neg (by decide), if_neg (by decide), if_neg (by decide), if_neg (by decide), if_neg (by decide), if_pos rfl]
      unfold f_X12_eval_229 f_X12_eval_273
      have er : (nn r.length).toNatClampNeg = r.length := nn_t (by omega)
      have xr : xin (nn r.length) 200 := (xin_nn (by omega)).mpr (by omega)
      rw [if_neg (by decide), hln, nn_s1, if_pos xr]
      simp only [er, show S.1 524 r.length = x from hs.1, nn_addl, if_pos xr]
      by_cases c3 : x = 0
      · rw [if_pos c3, if_pos c3]
        rfl
      · rw [if_neg c3, if_neg c3]
        rfl
    · obtain ⟨y, x, r, h0⟩ : ∃ y x r, st = y :: x :: r := by
        cases st with
        | nil => have := hd10 z; simp at this
        | cons y r =>
          cases r with
          | nil => have := hd10 z; simp at this
          | cons x r => exact ⟨y, x, r, rfl⟩
      have hln : st.length = r.length + 1 + 1 := by rw [h0]; rfl
      have hs2 := hs
      rw [h0] at hs2
      obtain ⟨s1, s2, s3⟩ := hs2
      have s1' : S.1 524 (r.length + 1) = y := s1
      refine fin x r (opv i.1 x y) ⟨s2, s3⟩ ?_ (by unfold stp; rw [if_neg (by omega), if_neg (by omega), if_neg (by omega), if_neg (by omega), if_neg (by omega), if_neg (by omega), h0])
      have hm1 : nn st.length + (-1) = nn (r.length + 1) := by rw [hln, nn_pm, nn_s1]
      have hm2 : nn (r.length + 1) - 1 = nn r.length := nn_s1 _
      rw [e_disp hq (by omega) f0 (by omega), if_neg (by omega), if_neg (by omega), if_neg (by omega), if_neg (by omega), if_neg (by omega), if_neg (by omega), if_neg (by omega), if_neg (by omega), hm1, hm2, if_pos ((xin_nn (by omega)).mpr (by omega)), if_pos ((xin_nn (by omega)).mpr (by omega)), nn_t (by omega), nn_t (by omega), s1', s2, xcI_of (p_operate z), nn_addl]
      rfl
end EX3
