/-! 85: a record is inserted -/
/-- fields that are put, one after the other -/
def pfl (vals M : Nat → Int32) : List Nat → Nat → (Nat → Int32) → Nat → Int32
  | [], _, F => F
  | f :: L, j, F => pfl vals M L (j + 1) (fun g => if g = f then vals j &&& M f else F g)
theorem pfl_c {vals vals' M M' : Nat → Int32} {g : Nat} : ∀ (fs : List Nat) (j : Nat) (F F' : Nat → Int32), (∀ q, j ≤ q → q < j + fs.length → vals q = vals' q) → (∀ f ∈ fs, M f = M' f) → F g = F' g → pfl vals M fs j F g = pfl vals' M' fs j F' g := by
  intro fs
  induction fs with
  | nil => intro j F F' _ _ h; exact h
  | cons f fs ih =>
    intro j F F' h1 h2 h3
    refine ih (j + 1) _ _ (fun q a b => h1 q (by omega) (by simp only [List.length_cons]; omega)) (fun x hx => h2 x (List.mem_cons_of_mem _ hx)) ?_
    show (if g = f then vals j &&& M f else F g) = (if g = f then vals' j &&& M' f else F' g)
    rw [h1 j (by omega) (by simp only [List.length_cons]; omega), h2 f List.mem_cons_self, h3]
theorem pfl_o {vals M : Nat → Int32} {g : Nat} : ∀ (fs : List Nat) (j : Nat) (F : Nat → Int32), (∀ f ∈ fs, ¬ f = g) → pfl vals M fs j F g = F g := by
  intro fs
  induction fs with
  | nil => intro j F _; rfl
  | cons f fs ih =>
    intro j F h
    show pfl vals M fs (j + 1) _ g = _
    rw [ih (j + 1) _ (fun x hx => h x (List.mem_cons_of_mem _ hx))]
    exact if_neg (fun z => h f List.mem_cons_self z.symm)
theorem gd_map {U : List xV} : ∀ (j : Nat), (U.map (fun u => u.1)).getD j 0 = (U.getD j (0, 0, [])).1 := by
  induction U with
  | nil => intro j; rfl
  | cons u U ih =>
    intro j
    cases j with
    | zero => rfl
    | succ j => exact ih j
theorem gd_nn {U : List xV} : ∀ (j : Nat), j < U.length → (U.map (fun u => nn u.1)).getD j 0 = nn (U.getD j (0, 0, [])).1 := by
  induction U with
  | nil => intro j h; exact absurd h (Nat.not_lt_zero _)
  | cons u U ih =>
    intro j h
    cases j with
    | zero => rfl
    | succ j => exact ih j (by simp only [List.length_cons] at h; omega)
theorem lstw {P : Nat → Prop} [DecidablePred P] : ∀ n, (∃ w, w < n ∧ P w ∧ ∀ v, v < w → ¬ P v) ∨ ∀ v, v < n → ¬ P v := by
  intro n
  induction n with
  | zero => exact Or.inr (fun v hv => by omega)
  | succ n ih =>
    rcases ih with ⟨w, h1, h2, h3⟩ | h
    · exact Or.inl ⟨w, by omega, h2, h3⟩
    · by_cases q : P n
      · exact Or.inl ⟨n, by omega, q, h⟩
      · refine Or.inr (fun v hv => ?_)
        by_cases z : v = n
        · rw [z]; exact q
        · exact h v (by omega)
section IN
variable {N n t i C c sp ns np nu nk nv fu B sn ou p b d κ sz k f m a us w r : Nat} {wd A ow : Nat → Nat} {D : Nat → xD} {S Sc Sr Sc' Sr' : xS} {sc : Nat → Nat → Nat → Prop} {E : List xCe}
theorem put_l (hi : i < 151) (hw : w < 64) (hr : r < 64) (hk : k < 7) : ∀ (fs : List Nat) (j n : Nat) (S : xS), S.1 (102 + 2 * i) 8 = nn (us + j + fs.length) → S.1 (102 + 2 * i) 7 = nn us → S.1 (102 + 2 * i) 1 = nn (k + 1) → (∀ q, q < fs.length → S.1 100 (us + j + q) = nn (fs.getD q 0)) → (∀ f ∈ fs, f < 6) → j + fs.length ≤ 6 → us + j + fs.length ≤ 151 → fs.length < n →
    ∃ S', f_X2_put_6 N n (102 + 2 * i) (nn w) (414 + r) (nn (us + j)) S = some (rV S') ∧ (∀ q, ¬ q = 32 + w → S'.1 q = S.1 q) ∧ S'.2 = S.2 ∧ S'.1 (32 + w) = pfl (S.1 (414 + r)) (S.1 (20 + (k + 1))) fs j (S.1 (32 + w)) := by
  have xs : xStep (102 + 2 * i) := ⟨by omega, by omega, by omega⟩
  have xr : xReg414 (414 + r) := ⟨by omega, by omega⟩
  intro fs
  induction fs with
  | nil =>
    intro j n S h8 h7 h1 h100 hf hj hu hn
    obtain ⟨n, rfl⟩ : ∃ k, n = k + 1 := ⟨n - 1, by omega⟩
    refine ⟨S, ?_, fun _ _ => rfl, rfl, rfl⟩
    simp only [List.length_nil, Nat.add_zero] at h8 hj hu
    rw [f_X2_put_6.eq_2, if_pos xs, h8, if_pos (by simp (disch := omega) only [nn_add, nn_addl, l_add_nn, nn_sub, nn_subl, nn_m1, nn_mull, nn_t, nn_i, l_t, nn_lt, nn_le, nn_eq, nn_ltl, l_lt_nn, nn_lel, l_le_nn, nn_eql, l_eql, nn_nm1, xin_nn, xin_l, m1_lt, m1_le, m1_p, m1_z, dlt_T, dlt_F, dle_T, dle_F, deq_T, deq_F, sI_c, sI_n, sI_J, sI_E, sJ_c, sJ_n, sJ_I, sJ_E, sE_I, sE_J, sE_E, xcI_i, xcJ_i, xcR_i, xcV_i, xcI_e, xcJ_e, xcR_e, xcV_e, if_true, if_false, ite_true, ite_false, true_and, and_true, false_and, and_false, or_true, true_or, or_false, false_or, not_true_eq_false, not_false_eq_true, eq_self, ne_eq, ↓reduceIte, Nat.reduceEqDiff, Nat.reduceLT, Nat.reduceLeDiff, Nat.reduceAdd, Nat.reduceMul, Nat.reduceSub, Int32.reduceLT, Int32.reduceLE, reduceCtorEq] <;> omega)]
  | cons f fs ih =>
    intro j n S h8 h7 h1 h100 hf hj hu hn
    obtain ⟨n, rfl⟩ : ∃ k, n = k + 1 := ⟨n - 1, by omega⟩
    simp only [List.length_cons] at h8 hj hu hn
    have f6 : f < 6 := hf f List.mem_cons_self
    have e100 : S.1 100 (us + j) = nn f := h100 0 (by simp)
    have es : nn (us + j) - nn us = nn j := by rw [nn_sub (by omega)]; congr 1; omega
    have tj : (nn j).toNatClampNeg = j := nn_t (by omega)
    obtain ⟨S', r1, r2, r3, r4⟩ := ih (j + 1) n (sI S (32 + w) f (S.1 (414 + r) j &&& S.1 (20 + (k + 1)) f)) (by rw [sI_n (by omega), h8]; congr 1; omega) (by rw [sI_n (by omega)]; exact h7) (by rw [sI_n (by omega)]; exact h1) (fun q hq => by
      rw [sI_n (by omega)]
      have := h100 (q + 1) (by simp only [List.length_cons]; omega)
      rw [show us + (j + 1) + q = us + j + (q + 1) by omega, this]
      rfl) (fun x hx => hf x (List.mem_cons_of_mem _ hx)) (by omega) (by omega) (by omega)
    refine ⟨S', ?_, fun q hq => by rw [r2 q hq, sI_n hq], r3, ?_⟩
    · rw [f_X2_put_6.eq_2, if_pos xs, h8, if_neg (by simp (disch := omega) only [nn_add, nn_addl, l_add_nn, nn_sub, nn_subl, nn_m1, nn_mull, nn_t, nn_i, l_t, nn_lt, nn_le, nn_eq, nn_ltl, l_lt_nn, nn_lel, l_le_nn, nn_eql, l_eql, nn_nm1, xin_nn, xin_l, m1_lt, m1_le, m1_p, m1_z, dlt_T, dlt_F, dle_T, dle_F, deq_T, deq_F, sI_c, sI_n, sI_J, sI_E, sJ_c, sJ_n, sJ_I, sJ_E, sE_I, sE_J, sE_E, xcI_i, xcJ_i, xcR_i, xcV_i, xcI_e, xcJ_e, xcR_e, xcV_e, if_true, if_false, ite_true, ite_false, true_and, and_true, false_and, and_false, or_true, true_or, or_false, false_or, not_true_eq_false, not_false_eq_true, eq_self, ne_eq, ↓reduceIte, Nat.reduceEqDiff, Nat.reduceLT, Nat.reduceLeDiff, Nat.reduceAdd, Nat.reduceMul, Nat.reduceSub, Int32.reduceLT, Int32.reduceLE, reduceCtorEq] <;> omega), if_pos ((xin_nn (by omega)).mpr (by omega)), if_pos ((xin_nn (by omega)).mpr hw), if_pos xr, h7, es, if_pos ((xin_nn (by omega)).mpr (by omega)), h1, if_pos ((xin_nn (by omega)).mpr (by omega)), nn_t (a := us + j) (by omega), e100, if_pos ((xin_nn (by omega)).mpr f6), nn_t (a := f) (by omega), nn_t (a := w) (by omega), tj, nn_t (a := k + 1) (by omega), nn_addl]
      exact r1
    · rw [r4, sI_n (q' := 414 + r) (by omega), sI_n (q' := 20 + (k + 1)) (by omega)]
      show _ = pfl _ _ fs (j + 1) _
      congr 1
      funext g
      rw [sI_c]
      by_cases z : g = f
      · rw [if_pos ⟨rfl, z⟩, if_pos z]
      · rw [if_neg (fun y => z y.2), if_neg z]
theorem p_put {U : List xV} {rk0 wk : Nat} {s : Nat → Nat → Prop} (hN : 1000 < N) (hi : i < 151) (hw : w < 64) (hr : r < 64) (hk : k < 7) (hwk : wk ≤ 6) (hnu : nu ≤ 150) (h8 : S.1 (102 + 2 * i) 8 = nn (us + U.length)) (h7 : S.1 (102 + 2 * i) 7 = nn us) (h1 : S.1 (102 + 2 * i) 1 = nn (k + 1)) (hP : PUT S np nu rk0 wk s us U) :
    ∃ S', f_X2_put N (102 + 2 * i) (nn w) (414 + r) S = some (rV S') ∧ (∀ q, ¬ q = 32 + w → S'.1 q = S.1 q) ∧ S'.2 = S.2 ∧ S'.1 (32 + w) = pfl (S.1 (414 + r)) (S.1 (20 + (k + 1))) (U.map (fun u => u.1)) 0 (S.1 (32 + w)) := by
  obtain ⟨p1, p2, p3, p4⟩ := hP
  have hl : (U.map (fun u => u.1)).length = U.length := List.length_map _
  obtain ⟨S', r1, r2⟩ := put_l (N := N) (i := i) (us := us) hi hw hr hk (U.map (fun u => u.1)) 0 N S (by rw [hl]; exact h8) h7 h1 (fun q hq => by
    rw [hl] at hq
    rw [gd_map]
    exact (p3 q hq).1) (fun f hf => by
    obtain ⟨u, hu, e⟩ := List.mem_map.mp hf
    have := (p4 u hu).1
    omega) (by rw [hl]; omega) (by rw [hl]; omega) (by rw [hl]; omega)
  refine ⟨S', ?_, r2⟩
  unfold f_X2_put
  rw [if_pos (show xStep (102 + 2 * i) from ⟨by omega, by omega, by omega⟩), h7]
  exact r1
theorem i117_l {M : Nat → Int32} (ha : a < 2900) (hw : w < 64) (hk : k < 7) : ∀ (fs : List Nat) (j n : Nat) (S : xS), (∀ q, q < fs.length → S.1 518 (a + 3 + j + q) = nn (fs.getD q 0)) → (∀ f ∈ fs, f < 6 ∧ ∃ b, 1 ≤ b ∧ b ≤ 32 ∧ M f = (ll (2 ^ b - 1)).toInt32 ∧ S.1 508 (6 * k + f) = nn b) → j + fs.length ≤ 6 → fs.length < n →
    ∃ S', f_X12_insert_117 N n (nn a) (nn k) (nn (j + fs.length)) (nn w) (nn j) S = some (rI 1 S') ∧ (∀ q, ¬ q = 512 → S'.1 q = S.1 q) ∧ S'.2 = S.2 ∧ (∀ p, ¬ (6 * w ≤ p ∧ p < 6 * w + 6) → S'.1 512 p = S.1 512 p) ∧ ∀ g, S'.1 512 (6 * w + g) = pfl (S.1 525) M fs j (fun g => S.1 512 (6 * w + g)) g := by
  intro fs
  induction fs with
  | nil =>
    intro j n S h1 h2 hj hn
    obtain ⟨n, rfl⟩ : ∃ k, n = k + 1 := ⟨n - 1, by omega⟩
    refine ⟨S, ?_, fun _ _ => rfl, rfl, fun _ _ => rfl, fun _ => rfl⟩
    rw [f_X12_insert_117.eq_2, if_pos (by simp only [List.length_nil, Nat.add_zero]; simp (disch := omega) only [nn_add, nn_addl, l_add_nn, nn_sub, nn_subl, nn_m1, nn_mull, nn_t, nn_i, l_t, nn_lt, nn_le, nn_eq, nn_ltl, l_lt_nn, nn_lel, l_le_nn, nn_eql, l_eql, nn_nm1, xin_nn, xin_l, m1_lt, m1_le, m1_p, m1_z, dlt_T, dlt_F, dle_T, dle_F, deq_T, deq_F, sI_c, sI_n, sI_J, sI_E, sJ_c, sJ_n, sJ_I, sJ_E, sE_I, sE_J, sE_E, xcI_i, xcJ_i, xcR_i, xcV_i, xcI_e, xcJ_e, xcR_e, xcV_e, if_true, if_false, ite_true, ite_false, true_and, and_true, false_and, and_false, or_true, true_or, or_false, false_or, not_true_eq_false, not_false_eq_true, eq_self, ne_eq, ↓reduceIte, Nat.reduceEqDiff, Nat.reduceLT, Nat.reduceLeDiff, Nat.reduceAdd, Nat.reduceMul, Nat.reduceSub, Int32.reduceLT, Int32.reduceLE, reduceCtorEq] <;> omega)]
  | cons f fs ih =>
    intro j n S h1 h2 hj hn
    obtain ⟨n, rfl⟩ : ∃ k, n = k + 1 := ⟨n - 1, by omega⟩
    simp only [List.length_cons] at hj hn
    obtain ⟨f6, bb, b1, b2, b3, b4⟩ := h2 f List.mem_cons_self
    have e5 : S.1 518 (a + 3 + j) = nn f := h1 0 (by simp)
    have ta : (nn (a + 3 + j)).toNatClampNeg = a + 3 + j := nn_t (by omega)
    have tj : (nn j).toNatClampNeg = j := nn_t (by omega)
    obtain ⟨S', r1, r2, r3, r4, r5⟩ := ih (j + 1) n (sI S 512 (6 * w + f) (S.1 525 j &&& M f)) (fun q hq => by
      rw [sI_n (by omega)]
      have := h1 (q + 1) (by simp only [List.length_cons]; omega)
      rw [show a + 3 + (j + 1) + q = a + 3 + j + (q + 1) by omega, this]
      rfl) (fun x hx => by
      rw [sI_n (q' := 508) (by omega)]
      exact h2 x (List.mem_cons_of_mem _ hx)) (by omega) (by omega)
    refine ⟨S', ?_, fun q hq => by rw [r2 q hq, sI_n hq], r3, fun p hp => by rw [r4 p hp, sI_c, if_neg (by omega)], fun g => ?_⟩
    · rw [f_X12_insert_117.eq_2, if_neg (by simp only [List.length_cons]; simp (disch := omega) only [nn_add, nn_addl, l_add_nn, nn_sub, nn_subl, nn_m1, nn_mull, nn_t, nn_i, l_t, nn_lt, nn_le, nn_eq, nn_ltl, l_lt_nn, nn_lel, l_le_nn, nn_eql, l_eql, nn_nm1, xin_nn, xin_l, m1_lt, m1_le, m1_p, m1_z, dlt_T, dlt_F, dle_T, dle_F, deq_T, deq_F, sI_c, sI_n, sI_J, sI_E, sJ_c, sJ_n, sJ_I, sJ_E, sE_I, sE_J, sE_E, xcI_i, xcJ_i, xcR_i, xcV_i, xcI_e, xcJ_e, xcR_e, xcV_e, if_true, if_false, ite_true, ite_false, true_and, and_true, false_and, and_false, or_true, true_or, or_false, false_or, not_true_eq_false, not_false_eq_true, eq_self, ne_eq, ↓reduceIte, Nat.reduceEqDiff, Nat.reduceLT, Nat.reduceLeDiff, Nat.reduceAdd, Nat.reduceMul, Nat.reduceSub, Int32.reduceLT, Int32.reduceLE, reduceCtorEq] <;> omega), nn_addl, nn_add, if_pos ((xin_nn (by omega)).mpr (by omega)), if_pos ((xin_nn (by omega)).mpr (by omega)), ta, e5, tj, xcI_of (p_kut b1 b2 hk f6 b4), nn_mull, nn_add, if_pos ((xin_nn (by omega)).mpr (by omega)), nn_t (a := 6 * w + f) (by omega), nn_addl, ← b3]
      simp only [List.length_cons]
      rw [show j + (fs.length + 1) = j + 1 + fs.length by omega]
      exact r1
    · rw [r5 g, sI_n (q' := 525) (by omega)]
      show _ = pfl _ _ fs (j + 1) _ g
      congr 1
      funext g
      rw [sI_c]
      by_cases z : g = f
      · rw [if_pos ⟨rfl, by omega⟩, if_pos z]
      · rw [if_neg (by omega), if_neg z]
theorem i87_l {x3 : Int32} (hw : w < 64) : ∀ (e j n : Nat) (S : xS), j + e = 6 → e < n → ∃ S', f_X12_insert_87 N n (nn a) (nn k) x3 (nn w) (nn j) S = f_X12_insert_117 N N (nn a) (nn k) x3 (nn w) 0 S' ∧ (∀ q, ¬ q = 512 → S'.1 q = S.1 q) ∧ S'.2 = S.2 ∧ ∀ p, S'.1 512 p = if 6 * w + j ≤ p ∧ p < 6 * w + 6 then 0 else S.1 512 p := by
  intro e
  induction e with
  | zero =>
    intro j n S hj hn
    obtain ⟨n, rfl⟩ : ∃ k, n = k + 1 := ⟨n - 1, by omega⟩
    exact ⟨S, by rw [f_X12_insert_87.eq_2, if_pos (by simp (disch := omega) only [nn_add, nn_addl, l_add_nn, nn_sub, nn_subl, nn_m1, nn_mull, nn_t, nn_i, l_t, nn_lt, nn_le, nn_eq, nn_ltl, l_lt_nn, nn_lel, l_le_nn, nn_eql, l_eql, nn_nm1, xin_nn, xin_l, m1_lt, m1_le, m1_p, m1_z, dlt_T, dlt_F, dle_T, dle_F, deq_T, deq_F, sI_c, sI_n, sI_J, sI_E, sJ_c, sJ_n, sJ_I, sJ_E, sE_I, sE_J, sE_E, xcI_i, xcJ_i, xcR_i, xcV_i, xcI_e, xcJ_e, xcR_e, xcV_e, if_true, if_false, ite_true, ite_false, true_and, and_true, false_and, and_false, or_true, true_or, or_false, false_or, not_true_eq_false, not_false_eq_true, eq_self, ne_eq, ↓reduceIte, Nat.reduceEqDiff, Nat.reduceLT, Nat.reduceLeDiff, Nat.reduceAdd, Nat.reduceMul, Nat.reduceSub, Int32.reduceLT, Int32.reduceLE, reduceCtorEq] <;> omega)], fun _ _ => rfl, rfl, fun p => by rw [if_neg (by omega)]⟩
  | succ e ih =>
    intro j n S hj hn
    obtain ⟨n, rfl⟩ : ∃ k, n = k + 1 := ⟨n - 1, by omega⟩
    obtain ⟨S', r1, r2, r3, r4⟩ := ih (j + 1) n (sI S 512 (6 * w + j) 0) (by omega) (by omega)
    refine ⟨S', ?_, fun q hq => by rw [r2 q hq, sI_n hq], r3, fun p => ?_⟩
    · rw [f_X12_insert_87.eq_2, if_neg (by simp (disch := omega) only [nn_add, nn_addl, l_add_nn, nn_sub, nn_subl, nn_m1, nn_mull, nn_t, nn_i, l_t, nn_lt, nn_le, nn_eq, nn_ltl, l_lt_nn, nn_lel, l_le_nn, nn_eql, l_eql, nn_nm1, xin_nn, xin_l, m1_lt, m1_le, m1_p, m1_z, dlt_T, dlt_F, dle_T, dle_F, deq_T, deq_F, sI_c, sI_n, sI_J, sI_E, sJ_c, sJ_n, sJ_I, sJ_E, sE_I, sE_J, sE_E, xcI_i, xcJ_i, xcR_i, xcV_i, xcI_e, xcJ_e, xcR_e, xcV_e, if_true, if_false, ite_true, ite_false, true_and, and_true, false_and, and_false, or_true, true_or, or_false, false_or, not_true_eq_false, not_false_eq_true, eq_self, ne_eq, ↓reduceIte, Nat.reduceEqDiff, Nat.reduceLT, Nat.reduceLeDiff, Nat.reduceAdd, Nat.reduceMul, Nat.reduceSub, Int32.reduceLT, Int32.reduceLE, reduceCtorEq] <;> omega), nn_mull, nn_add, if_pos ((xin_nn (by omega)).mpr (by omega)), nn_t (by omega), nn_addl]
      exact r1
    · rw [r4 p, sI_c]
      by_cases z : p = 6 * w + j
      · rw [if_neg (by omega), if_pos ⟨rfl, z⟩, if_pos (by omega)]
      · rw [if_neg (c := 512 = 512 ∧ p = 6 * w + j) (by omega)]
        by_cases z2 : 6 * w + (j + 1) ≤ p ∧ p < 6 * w + 6
        · rw [if_pos z2, if_pos (by omega)]
        · rw [if_neg z2, if_neg (by omega)]
theorem a54_l (hw : w < 64) : ∀ (e j n : Nat) (S : xS), j + e = 6 → e < n → ∃ S', f_X10_add_54 N n (nn w) (nn j) S = some (rI (nn w) S') ∧ (∀ q, ¬ q = 32 + w → S'.1 q = S.1 q) ∧ S'.2 = S.2 ∧ ∀ g, S'.1 (32 + w) g = if j ≤ g ∧ g < 6 then 0 else S.1 (32 + w) g := by
  intro e
  induction e with
  | zero =>
    intro j n S hj hn
    obtain ⟨n, rfl⟩ : ∃ k, n = k + 1 := ⟨n - 1, by omega⟩
    exact ⟨S, by rw [f_X10_add_54.eq_2, if_pos (by simp (disch := omega) only [nn_add, nn_addl, l_add_nn, nn_sub, nn_subl, nn_m1, nn_mull, nn_t, nn_i, l_t, nn_lt, nn_le, nn_eq, nn_ltl, l_lt_nn, nn_lel, l_le_nn, nn_eql, l_eql, nn_nm1, xin_nn, xin_l, m1_lt, m1_le, m1_p, m1_z, dlt_T, dlt_F, dle_T, dle_F, deq_T, deq_F, sI_c, sI_n, sI_J, sI_E, sJ_c, sJ_n, sJ_I, sJ_E, sE_I, sE_J, sE_E, xcI_i, xcJ_i, xcR_i, xcV_i, xcI_e, xcJ_e, xcR_e, xcV_e, if_true, if_false, ite_true, ite_false, true_and, and_true, false_and, and_false, or_true, true_or, or_false, false_or, not_true_eq_false, not_false_eq_true, eq_self, ne_eq, ↓reduceIte, Nat.reduceEqDiff, Nat.reduceLT, Nat.reduceLeDiff, Nat.reduceAdd, Nat.reduceMul, Nat.reduceSub, Int32.reduceLT, Int32.reduceLE, reduceCtorEq] <;> omega)], fun _ _ => rfl, rfl, fun p => by rw [if_neg (by omega)]⟩
  | succ e ih =>
    intro j n S hj hn
    obtain ⟨n, rfl⟩ : ∃ k, n = k + 1 := ⟨n - 1, by omega⟩
    obtain ⟨S', r1, r2, r3, r4⟩ := ih (j + 1) n (sI S (32 + w) j 0) (by omega) (by omega)
    refine ⟨S', ?_, fun q hq => by rw [r2 q hq, sI_n hq], r3, fun p => ?_⟩
    · rw [f_X10_add_54.eq_2, if_neg (by simp (disch := omega) only [nn_add, nn_addl, l_add_nn, nn_sub, nn_subl, nn_m1, nn_mull, nn_t, nn_i, l_t, nn_lt, nn_le, nn_eq, nn_ltl, l_lt_nn, nn_lel, l_le_nn, nn_eql, l_eql, nn_nm1, xin_nn, xin_l, m1_lt, m1_le, m1_p, m1_z, dlt_T, dlt_F, dle_T, dle_F, deq_T, deq_F, sI_c, sI_n, sI_J, sI_E, sJ_c, sJ_n, sJ_I, sJ_E, sE_I, sE_J, sE_E, xcI_i, xcJ_i, xcR_i, xcV_i, xcI_e, xcJ_e, xcR_e, xcV_e, if_true, if_false, ite_true, ite_false, true_and, and_true, false_and, and_false, or_true, true_or, or_false, false_or, not_true_eq_false, not_false_eq_true, eq_self, ne_eq, ↓reduceIte, Nat.reduceEqDiff, Nat.reduceLT, Nat.reduceLeDiff, Nat.reduceAdd, Nat.reduceMul, Nat.reduceSub, Int32.reduceLT, Int32.reduceLE, reduceCtorEq] <;> omega), if_pos ((xin_nn (by omega)).mpr hw), if_pos ((xin_nn (by omega)).mpr (by omega)), nn_t (by omega), nn_t (by omega), nn_addl]
      exact r1
    · rw [r4 p, sI_c]
      by_cases z : p = j
      · rw [if_neg (by omega), if_pos ⟨rfl, z⟩, if_pos (by omega)]
      · rw [if_neg (c := 32 + w = 32 + w ∧ p = j) (by omega)]
        by_cases z2 : j + 1 ≤ p ∧ p < 6
        · rw [if_pos z2, if_pos (by omega)]
        · rw [if_neg z2, if_neg (by omega)]
theorem tak_l : ∀ (e j n : Nat) (y : Int64), j + e = 8 → e < n → ∃ y', f_X10_taken_4 N n y (nn j) S = some (rJ y' S) ∧ ∀ v, bt y' v = true ↔ (bt y v = true ∨ ∃ k, j ≤ k ∧ k ≤ 7 ∧ bt (S.2.1 30 k) v = true) := by
  intro e
  induction e with
  | zero =>
    intro j n y hj hn
    obtain ⟨n, rfl⟩ : ∃ k, n = k + 1 := ⟨n - 1, by omega⟩
    refine ⟨y, by rw [f_X10_taken_4.eq_2, if_pos (by simp (disch := omega) only [nn_add, nn_addl, l_add_nn, nn_sub, nn_subl, nn_m1, nn_mull, nn_t, nn_i, l_t, nn_lt, nn_le, nn_eq, nn_ltl, l_lt_nn, nn_lel, l_le_nn, nn_eql, l_eql, nn_nm1, xin_nn, xin_l, m1_lt, m1_le, m1_p, m1_z, dlt_T, dlt_F, dle_T, dle_F, deq_T, deq_F, sI_c, sI_n, sI_J, sI_E, sJ_c, sJ_n, sJ_I, sJ_E, sE_I, sE_J, sE_E, xcI_i, xcJ_i, xcR_i, xcV_i, xcI_e, xcJ_e, xcR_e, xcV_e, if_true, if_false, ite_true, ite_false, true_and, and_true, false_and, and_false, or_true, true_or, or_false, false_or, not_true_eq_false, not_false_eq_true, eq_self, ne_eq, ↓reduceIte, Nat.reduceEqDiff, Nat.reduceLT, Nat.reduceLeDiff, Nat.reduceAdd, Nat.reduceMul, Nat.reduceSub, Int32.reduceLT, Int32.reduceLE, reduceCtorEq] <;> omega)], fun v => ⟨Or.inl, fun z => ?_⟩⟩
    rcases z with z | ⟨k, z1, z2, _⟩
    · exact z
    · omega
  | succ e ih =>
    intro j n y hj hn
    obtain ⟨n, rfl⟩ : ∃ k, n = k + 1 := ⟨n - 1, by omega⟩
    obtain ⟨y', r1, r2⟩ := ih (j + 1) n (y ||| S.2.1 30 j) (by omega) (by omega)
    refine ⟨y', ?_, fun v => ?_⟩
    · rw [f_X10_taken_4.eq_2, if_neg (by simp (disch := omega) only [nn_add, nn_addl, l_add_nn, nn_sub, nn_subl, nn_m1, nn_mull, nn_t, nn_i, l_t, nn_lt, nn_le, nn_eq, nn_ltl, l_lt_nn, nn_lel, l_le_nn, nn_eql, l_eql, nn_nm1, xin_nn, xin_l, m1_lt, m1_le, m1_p, m1_z, dlt_T, dlt_F, dle_T, dle_F, deq_T, deq_F, sI_c, sI_n, sI_J, sI_E, sJ_c, sJ_n, sJ_I, sJ_E, sE_I, sE_J, sE_E, xcI_i, xcJ_i, xcR_i, xcV_i, xcI_e, xcJ_e, xcR_e, xcV_e, if_true, if_false, ite_true, ite_false, true_and, and_true, false_and, and_false, or_true, true_or, or_false, false_or, not_true_eq_false, not_false_eq_true, eq_self, ne_eq, ↓reduceIte, Nat.reduceEqDiff, Nat.reduceLT, Nat.reduceLeDiff, Nat.reduceAdd, Nat.reduceMul, Nat.reduceSub, Int32.reduceLT, Int32.reduceLE, reduceCtorEq] <;> omega), if_pos ((xin_nn (by omega)).mpr (by omega)), nn_t (by omega), nn_addl]
      exact r1
    · rw [r2 v, bt_or, Bool.or_eq_true]
      constructor
      · rintro ((z | z) | ⟨k, z1, z2, z3⟩)
        · exact Or.inl z
        · exact Or.inr ⟨j, by omega, by omega, z⟩
        · exact Or.inr ⟨k, by omega, z2, z3⟩
      · rintro (z | ⟨k, z1, z2, z3⟩)
        · exact Or.inl (Or.inl z)
        · by_cases q : k = j
          · subst q; exact Or.inl (Or.inr z3)
          · exact Or.inr ⟨k, by omega, z2, z3⟩
theorem p_taken (hN : 1000 < N) (h : DBR Sc Sr ow nk wd sn) : ∃ y, f_X10_taken N Sc = some (rJ y Sc) ∧ ∀ v, v < 64 → bt y v = decide (¬ ow v = 0) := by
  obtain ⟨y, r1, r2⟩ := tak_l (N := N) (S := Sc) 7 1 N 0 (by omega) (by omega)
  refine ⟨y, r1, fun v hv => ?_⟩
  obtain ⟨d1, d2, _, _, _, _, d7, _⟩ := h
  by_cases q : ow v = 0
  · rw [decide_eq_false (fun z => z q)]
    refine Bool.eq_false_iff.mpr (fun z => ?_)
    rcases (r2 v).mp z with z | ⟨k, z1, z2, z3⟩
    · rw [bt_z] at z; cases z
    · rw [d2 v hv k z1 z2] at z3
      have := of_decide_eq_true z3
      omega
  · rw [decide_eq_true q]
    refine (r2 v).mpr (Or.inr ⟨ow v, by omega, by have := (d1 v hv).1; omega, ?_⟩)
    rw [d2 v hv _ (by omega) (by have := (d1 v hv).1; omega)]
    exact decide_eq_true rfl
theorem p_add (hN : 1000 < N) (h : DBR Sc Sr ow nk wd sn) (hk : k < 7) (hw : w < 64) (h0 : ow w = 0) (hl : ∀ v, v < w → ¬ ow v = 0) : ∃ S', f_X10_add N (nn (k + 1)) Sc = some (rI (nn w) S') ∧ (∀ q, ¬ q = 29 → ¬ q = 96 → ¬ q = 32 + w → S'.1 q = Sc.1 q) ∧ S'.1 29 3 = nn (sn + 1) ∧ (∀ v, S'.1 96 v = if v = w then nn (sn + 1) else Sc.1 96 v) ∧ (∀ g, g < 6 → S'.1 (32 + w) g = 0) ∧ (∀ j, ¬ j = k + 1 → S'.2.1 30 j = Sc.2.1 30 j) ∧ (∀ v, v < 64 → bt (S'.2.1 30 (k + 1)) v = (bt (Sc.2.1 30 (k + 1)) v || decide (v = w))) := by
  obtain ⟨y, r1, r2⟩ := p_taken (N := N) hN h
  have e29 : Sc.1 29 3 = nn sn := h.2.2.2.2.1
  have hz := p_ntz (N := N) (S := Sc) (y ^^^ (-1)) (k := w) hw (by rw [bt_not _ hw, r2 w hw, decide_eq_false (fun z => z h0)]; rfl) (fun j hj => by rw [bt_not _ (by omega), r2 j (by omega), decide_eq_true (hl j hj)]; rfl)
  obtain ⟨S', s1, s2, s3, s4⟩ := a54_l (N := N) (w := w) hw 6 0 N (sI (sI (sJ Sc 30 (k + 1) ((Sc.2.1 30 (k + 1)) ||| on1 w)) 29 3 (nn (sn + 1))) 96 w (nn (sn + 1))) (by omega) (by omega)
  refine ⟨S', ?_, fun q a1 a2 a3 => by rw [s2 q a3, sI_n a2, sI_n a1, sJ_I], ?_, fun v => ?_, fun g hg => by rw [s4 g, if_pos (by omega)], fun j hj => ?_, fun v hv => ?_⟩
  · unfold f_X10_add
    rw [xcJ_of r1, xcI_of hz, if_neg (by simp (disch := omega) only [nn_add, nn_addl, l_add_nn, nn_sub, nn_subl, nn_m1, nn_mull, nn_t, nn_i, l_t, nn_lt, nn_le, nn_eq, nn_ltl, l_lt_nn, nn_lel, l_le_nn, nn_eql, l_eql, nn_nm1, xin_nn, xin_l, m1_lt, m1_le, m1_p, m1_z, dlt_T, dlt_F, dle_T, dle_F, deq_T, deq_F, sI_c, sI_n, sI_J, sI_E, sJ_c, sJ_n, sJ_I, sJ_E, sE_I, sE_J, sE_E, xcI_i, xcJ_i, xcR_i, xcV_i, xcI_e, xcJ_e, xcR_e, xcV_e, if_true, if_false, ite_true, ite_false, true_and, and_true, false_and, and_false, or_true, true_or, or_false, false_or, not_true_eq_false, not_false_eq_true, eq_self, ne_eq, ↓reduceIte, Nat.reduceEqDiff, Nat.reduceLT, Nat.reduceLeDiff, Nat.reduceAdd, Nat.reduceMul, Nat.reduceSub, Int32.reduceLT, Int32.reduceLE, reduceCtorEq] <;> omega), if_pos ((xin_nn (by omega)).mpr (by omega)), if_pos ((xin_nn (by omega)).mpr hw), nn_t (by omega), nn_t (by omega), e29, nn_addl]
    exact s1
  · rw [s2 29 (by omega)]
    simp (disch := omega) only [nn_add, nn_addl, l_add_nn, nn_sub, nn_subl, nn_m1, nn_mull, nn_t, nn_i, l_t, nn_lt, nn_le, nn_eq, nn_ltl, l_lt_nn, nn_lel, l_le_nn, nn_eql, l_eql, nn_nm1, xin_nn, xin_l, m1_lt, m1_le, m1_p, m1_z, dlt_T, dlt_F, dle_T, dle_F, deq_T, deq_F, sI_c, sI_n, sI_J, sI_E, sJ_c, sJ_n, sJ_I, sJ_E, sE_I, sE_J, sE_E, xcI_i, xcJ_i, xcR_i, xcV_i, xcI_e, xcJ_e, xcR_e, xcV_e, if_true, if_false, ite_true, ite_false, true_and, and_true, false_and, and_false, or_true, true_or, or_false, false_or, not_true_eq_false, not_false_eq_true, eq_self, ne_eq, ↓reduceIte, Nat.reduceEqDiff, Nat.reduceLT, Nat.reduceLeDiff, Nat.reduceAdd, Nat.reduceMul, Nat.reduceSub, Int32.reduceLT, Int32.reduceLE, reduceCtorEq]
  · rw [s2 96 (by omega), sI_c]
    by_cases z : v = w
    · rw [if_pos ⟨rfl, z⟩, if_pos z]
    · rw [if_neg (fun y => z y.2), if_neg z, sI_n (by omega), sJ_I]
  · rw [s3, sI_J, sI_J, sJ_c, if_neg (by omega)]
  · rw [s3, sI_J, sI_J, sJ_c, if_pos ⟨rfl, rfl⟩, bt_or, bt_on w hw v hv]
theorem p_addf (hN : 1000 < N) (h : DBR Sc Sr ow nk wd sn) (hl : ∀ v, v < 64 → ¬ ow v = 0) : f_X10_add N (nn (k + 1)) Sc = some (rI (-1) Sc) := by
  obtain ⟨y, r1, r2⟩ := p_taken (N := N) hN h
  have hz := p_ntz0 (N := N) (S := Sc) (y ^^^ (-1)) (fun j hj => by rw [bt_not _ (by omega), r2 j (by omega), decide_eq_true (hl j hj)]; rfl)
  unfold f_X10_add
  rw [xcJ_of r1, xcI_of hz, if_pos rfl]
/-- a word more -/
theorem RT_in (h : RT Sc Sr ow nk wd sn nv sc) (hw : w < 64) (h0 : ow w = 0) (hk : k < nk) (hsn : sn + 1 < 2000000000) (hc1 : ∀ q, rwC q → ¬ q = 29 → ¬ q = 96 → ¬ q = 32 + w → Sc'.1 q = Sc.1 q) (hc2 : Sc'.1 29 3 = nn (sn + 1)) (hc3 : ∀ v, Sc'.1 96 v = if v = w then nn (sn + 1) else Sc.1 96 v) (hc4 : ∀ j, ¬ j = k + 1 → Sc'.2.1 30 j = Sc.2.1 30 j) (hc5 : ∀ v, v < 64 → bt (Sc'.2.1 30 (k + 1)) v = (bt (Sc.2.1 30 (k + 1)) v || decide (v = w))) (hr1 : ∀ q, rwR q → ¬ q = 511 → ¬ q = 512 → ¬ q = 513 → Sr'.1 q = Sr.1 q) (hr2 : Sr'.1 503 14 = nn (sn + 1)) (hr3 : ∀ v, Sr'.1 511 v = if v = w then nn (k + 1) else Sr.1 511 v) (hr4 : ∀ v, Sr'.1 513 v = if v = w then nn (sn + 1) else Sr.1 513 v) (hr5 : ∀ p, ¬ (6 * w ≤ p ∧ p < 6 * w + 6) → Sr'.1 512 p = Sr.1 512 p) (hF : ∀ g, g < 6 → Sc'.1 (32 + w) g = Sr'.1 512 (6 * w + g)) (hF2 : ∀ g, g < 6 → wd k ≤ g → Sr'.1 512 (6 * w + g) = 0) : RT Sc' Sr' (fun v => if v = w then k + 1 else ow v) nk wd (sn + 1) nv sc := by
  obtain ⟨⟨d1, d2, d3, d4, d5, d6, d7, d8⟩, hv, hc⟩ := h
  refine ⟨⟨fun v hv => ?_, fun v hv j j1 j2 => ?_, fun v hv h1 => ?_, fun v hv h1 => ?_, hc2, hr2, d7, hsn⟩, fun v hv2 => by rw [hc1 410 (by unfold rwC; omega) (by omega) (by omega) (by omega), hr1 510 (by unfold rwR; omega) (by omega) (by omega) (by omega)]; exact hv v hv2, fun b d κ z => ?_⟩
  · rw [hr3 v]
    by_cases q : v = w
    · simp only [if_pos q]
      exact ⟨by omega, trivial⟩
    · simp only [if_neg q]
      exact d1 v hv
  · by_cases q : v = w
    · simp only [if_pos q]
      by_cases q2 : j = k + 1
      · subst q2
        rw [hc5 v hv, q]
        simp
      · rw [hc4 j q2, d2 v hv j j1 j2, q, h0, decide_eq_false (by omega), decide_eq_false (by omega)]
    · simp only [if_neg q]
      by_cases q2 : j = k + 1
      · subst q2
        rw [hc5 v hv, d2 v hv _ j1 j2, decide_eq_false q, Bool.or_false]
      · rw [hc4 j q2, d2 v hv j j1 j2]
  · by_cases q : v = w
    · subst q
      simp only [if_pos]
      refine ⟨hF, by rw [show k + 1 - 1 = k by omega]; exact hF2, sn + 1, by omega, by omega, by rw [hc3, if_pos rfl], by rw [hr4, if_pos rfl]⟩
    · simp only [if_neg q] at h1 ⊢
      obtain ⟨g1, g2, u, g3, g4, g5, g6⟩ := d3 v hv h1
      refine ⟨fun f hf => ?_, fun f hf hwf => ?_, u, g3, by omega, by rw [hc3, if_neg q]; exact g5, by rw [hr4, if_neg q]; exact g6⟩
      · rw [hc1 (32 + v) (by unfold rwC; omega) (by omega) (by omega) (by omega), hr5 _ (by omega)]
        exact g1 f hf
      · rw [hr5 _ (by omega)]
        exact g2 f hf hwf
  · by_cases q : v = w
    · simp only [if_pos q] at h1
      omega
    · simp only [if_neg q] at h1
      rw [hc3, if_neg q]
      exact d4 v hv h1
  · obtain ⟨e1, e2, a, sz, a1, a2, a3, a4, a5, a6, a7⟩ := hc b d κ z
    refine ⟨e1, e2, a, sz, a1, by rw [hc1 502 (by unfold rwC; omega) (by omega) (by omega) (by omega)]; exact a2, by rw [hr1 529 (by unfold rwR; omega) (by omega) (by omega) (by omega)]; exact a3, a4, by rw [hc1 501 (by unfold rwC; omega) (by omega) (by omega) (by omega)]; exact a5, by rw [hr1 528 (by unfold rwR; omega) (by omega) (by omega) (by omega)]; exact a6, fun j hj => ?_⟩
    obtain ⟨w', u, b1, b2, b3, b4, b5, b6, b7, b8⟩ := a7 j hj
    rw [hc1 (480 + b) (by unfold rwC; omega) (by omega) (by omega) (by omega), hc1 (491 + b) (by unfold rwC; omega) (by omega) (by omega) (by omega), hr1 526 (by unfold rwR; omega) (by omega) (by omega) (by omega), hr1 527 (by unfold rwR; omega) (by omega) (by omega) (by omega)]
    refine ⟨w', u, b1, b2, by omega, b4, b5, b6, b7, ?_⟩
    rw [hc3]
    by_cases q : w' = w
    · rw [if_pos q]
      intro z
      have := (nn_eq (by omega) (by omega)).mp z
      omega
    · simp only [if_neg q]
      exact b8
/-- the first word that is free, in the reference -/
theorem i21_l {x1 x2 x3 : Int32} (hr : ∀ v, v < 64 → S.1 511 v = nn (ow v) ∧ ow v ≤ 7) (hw : w ≤ 64) (hw2 : w = 64 ∨ ow w = 0) (hl : ∀ v, v < w → ¬ ow v = 0) : ∀ (e j n : Nat), j + e = w → e < n → f_X12_insert_21 N n x1 x2 x3 (nn j) S = f_X12_insert_44 N x1 x2 x3 (nn w) S := by
  intro e
  induction e with
  | zero =>
    intro j n hj hn
    obtain ⟨n, rfl⟩ : ∃ k, n = k + 1 := ⟨n - 1, by omega⟩
    rw [Nat.add_zero] at hj
    subst hj
    rw [f_X12_insert_21.eq_2]
    by_cases q : j = 64
    · rw [if_pos (by simp (disch := omega) only [nn_add, nn_addl, l_add_nn, nn_sub, nn_subl, nn_m1, nn_mull, nn_t, nn_i, l_t, nn_lt, nn_le, nn_eq, nn_ltl, l_lt_nn, nn_lel, l_le_nn, nn_eql, l_eql, nn_nm1, xin_nn, xin_l, m1_lt, m1_le, m1_p, m1_z, dlt_T, dlt_F, dle_T, dle_F, deq_T, deq_F, sI_c, sI_n, sI_J, sI_E, sJ_c, sJ_n, sJ_I, sJ_E, sE_I, sE_J, sE_E, xcI_i, xcJ_i, xcR_i, xcV_i, xcI_e, xcJ_e, xcR_e, xcV_e, if_true, if_false, ite_true, ite_false, true_and, and_true, false_and, and_false, or_true, true_or, or_false, false_or, not_true_eq_false, not_false_eq_true, eq_self, ne_eq, ↓reduceIte, Nat.reduceEqDiff, Nat.reduceLT, Nat.reduceLeDiff, Nat.reduceAdd, Nat.reduceMul, Nat.reduceSub, Int32.reduceLT, Int32.reduceLE, reduceCtorEq] <;> omega)]
    · rw [if_neg (by simp (disch := omega) only [nn_add, nn_addl, l_add_nn, nn_sub, nn_subl, nn_m1, nn_mull, nn_t, nn_i, l_t, nn_lt, nn_le, nn_eq, nn_ltl, l_lt_nn, nn_lel, l_le_nn, nn_eql, l_eql, nn_nm1, xin_nn, xin_l, m1_lt, m1_le, m1_p, m1_z, dlt_T, dlt_F, dle_T, dle_F, deq_T, deq_F, sI_c, sI_n, sI_J, sI_E, sJ_c, sJ_n, sJ_I, sJ_E, sE_I, sE_J, sE_E, xcI_i, xcJ_i, xcR_i, xcV_i, xcI_e, xcJ_e, xcR_e, xcV_e, if_true, if_false, ite_true, ite_false, true_and, and_true, false_and, and_false, or_true, true_or, or_false, false_or, not_true_eq_false, not_false_eq_true, eq_self, ne_eq, ↓reduceIte, Nat.reduceEqDiff, Nat.reduceLT, Nat.reduceLeDiff, Nat.reduceAdd, Nat.reduceMul, Nat.reduceSub, Int32.reduceLT, Int32.reduceLE, reduceCtorEq] <;> omega), if_pos ((xin_nn (by omega)).mpr (by omega)), nn_t (by omega), (hr j (by omega)).1, hw2.resolve_left q, if_pos (show nn 0 = 0 from rfl)]
  | succ e ih =>
    intro j n hj hn
    obtain ⟨n, rfl⟩ : ∃ k, n = k + 1 := ⟨n - 1, by omega⟩
    have h7 := (hr j (by omega)).2
    have h0 := hl j (by omega)
    rw [f_X12_insert_21.eq_2, if_neg (by simp (disch := omega) only [nn_add, nn_addl, l_add_nn, nn_sub, nn_subl, nn_m1, nn_mull, nn_t, nn_i, l_t, nn_lt, nn_le, nn_eq, nn_ltl, l_lt_nn, nn_lel, l_le_nn, nn_eql, l_eql, nn_nm1, xin_nn, xin_l, m1_lt, m1_le, m1_p, m1_z, dlt_T, dlt_F, dle_T, dle_F, deq_T, deq_F, sI_c, sI_n, sI_J, sI_E, sJ_c, sJ_n, sJ_I, sJ_E, sE_I, sE_J, sE_E, xcI_i, xcJ_i, xcR_i, xcV_i, xcI_e, xcJ_e, xcR_e, xcV_e, if_true, if_false, ite_true, ite_false, true_and, and_true, false_and, and_false, or_true, true_or, or_false, false_or, not_true_eq_false, not_false_eq_true, eq_self, ne_eq, ↓reduceIte, Nat.reduceEqDiff, Nat.reduceLT, Nat.reduceLeDiff, Nat.reduceAdd, Nat.reduceMul, Nat.reduceSub, Int32.reduceLT, Int32.reduceLE, reduceCtorEq] <;> omega), if_pos ((xin_nn (by omega)).mpr (by omega)), nn_t (by omega), (hr j (by omega)).1, if_neg (by simp (disch := omega) only [nn_add, nn_addl, l_add_nn, nn_sub, nn_subl, nn_m1, nn_mull, nn_t, nn_i, l_t, nn_lt, nn_le, nn_eq, nn_ltl, l_lt_nn, nn_lel, l_le_nn, nn_eql, l_eql, nn_nm1, xin_nn, xin_l, m1_lt, m1_le, m1_p, m1_z, dlt_T, dlt_F, dle_T, dle_F, deq_T, deq_F, sI_c, sI_n, sI_J, sI_E, sJ_c, sJ_n, sJ_I, sJ_E, sE_I, sE_J, sE_E, xcI_i, xcJ_i, xcR_i, xcV_i, xcI_e, xcJ_e, xcR_e, xcV_e, if_true, if_false, ite_true, ite_false, true_and, and_true, false_and, and_false, or_true, true_or, or_false, false_or, not_true_eq_false, not_false_eq_true, eq_self, ne_eq, ↓reduceIte, Nat.reduceEqDiff, Nat.reduceLT, Nat.reduceLeDiff, Nat.reduceAdd, Nat.reduceMul, Nat.reduceSub, Int32.reduceLT, Int32.reduceLE, reduceCtorEq] <;> omega), nn_addl]
    exact ih (j + 1) n (by omega) (by omega)
end IN
