/-! 83: words that go, words that change -/
theorem msk_lt : ∀ b, b < 32 → 1 ≤ b → (((1 : Int32) <<< (nn b &&& 31)) - 1) = (ll (2 ^ b - 1)).toInt32 := by decide +kernel
theorem msk_32 : (ll (2 ^ 32 - 1)).toInt32 = -1 := by decide +kernel
theorem and_m1 (x : Int32) : x &&& (-1) = x := by
  apply Int32.toBitVec_inj.mp
  rw [Int32.toBitVec_and, show (-1 : Int32).toBitVec = BitVec.allOnes 32 from by decide, BitVec.and_allOnes]
section DE
variable {N n t i C c sp ns np nu nk nv fu B sn ou p b d κ sz k f : Nat} {wd A ow : Nat → Nat} {D : Nat → xD} {S Sc Sr Sc' Sr' : xS} {sc : Nat → Nat → Nat → Prop} {E : List xCe}
theorem p_kut {x : Int32} (hb1 : 1 ≤ b) (hb2 : b ≤ 32) (hk : k < 7) (hf : f < 6) (h : S.1 508 (6 * k + f) = nn b) : f_X12_cut N (nn k) (nn f) x S = some (rI (x &&& (ll (2 ^ b - 1)).toInt32) S) := by
  have e1 : (6 * nn k + nn f : Int32) = nn (6 * k + f) := by rw [nn_mull, nn_add]
  unfold f_X12_cut f_X12_cut_32
  rw [e1, if_pos ((xin_nn (by omega)).mpr (by omega)), nn_t (by omega), h]
  by_cases q : b = 32
  · subst q
    rw [if_pos (show nn 32 = 32 from rfl), msk_32, and_m1]
  · rw [if_neg (by simp (disch := omega) only [nn_add, nn_addl, l_add_nn, nn_sub, nn_subl, nn_m1, nn_mull, nn_t, nn_i, l_t, nn_lt, nn_le, nn_eq, nn_ltl, l_lt_nn, nn_lel, l_le_nn, nn_eql, l_eql, nn_nm1, xin_nn, xin_l, m1_lt, m1_le, m1_p, m1_z, dlt_T, dlt_F, dle_T, dle_F, deq_T, deq_F, sI_c, sI_n, sI_J, sI_E, sJ_c, sJ_n, sJ_I, sJ_E, sE_I, sE_J, sE_E, xcI_i, xcJ_i, xcR_i, xcV_i, xcI_e, xcJ_e, xcR_e, xcV_e, if_true, if_false, ite_true, ite_false, true_and, and_true, false_and, and_false, or_true, true_or, or_false, false_or, not_true_eq_false, not_false_eq_true, eq_self, ne_eq, ↓reduceIte, Nat.reduceEqDiff, Nat.reduceLT, Nat.reduceLeDiff, Nat.reduceAdd, Nat.reduceMul, Nat.reduceSub, Int32.reduceLT, Int32.reduceLE, reduceCtorEq] <;> omega), msk_lt b (by omega) hb1]
/-- some words are let go -/
theorem RT_rm {rem : Nat → Bool} (h : RT Sc Sr ow nk wd sn nv sc) (hk : k < 7) (hrem : ∀ v, v < 64 → rem v = true → ow v = k + 1) (hc1 : ∀ q, ¬ q = 96 → Sc'.1 q = Sc.1 q) (hc2 : ∀ v, v < 64 → Sc'.1 96 v = if rem v = true then 0 else Sc.1 96 v) (hc3 : ∀ j, ¬ j = k + 1 → Sc'.2.1 30 j = Sc.2.1 30 j) (hc4 : ∀ v, v < 64 → bt (Sc'.2.1 30 (k + 1)) v = (bt (Sc.2.1 30 (k + 1)) v && !rem v)) (hr1 : ∀ q, ¬ q = 511 → Sr'.1 q = Sr.1 q) (hr2 : ∀ v, v < 64 → Sr'.1 511 v = if rem v = true then 0 else Sr.1 511 v) : RT Sc' Sr' (fun v => if rem v = true then 0 else ow v) nk wd sn nv sc := by
  obtain ⟨⟨d1, d2, d3, d4, d5, d6, d7, d8⟩, hv, hc⟩ := h
  refine ⟨⟨fun v hv => ?_, fun v hv j j1 j2 => ?_, fun v hv h0 => ?_, fun v hv h0 => ?_, by rw [hc1 29 (by decide)]; exact d5, by rw [hr1 503 (by decide)]; exact d6, d7, d8⟩, fun v hv2 => by rw [hc1 410 (by decide), hr1 510 (by decide)]; exact hv v hv2, fun b d κ z => ?_⟩
  · rw [hr2 v hv]
    by_cases q : rem v = true
    · simp only [if_pos q]
      exact ⟨Nat.zero_le _, rfl⟩
    · simp only [if_neg q]
      exact d1 v hv
  · by_cases q : rem v = true
    · simp only [if_pos q]
      by_cases q2 : j = k + 1
      · subst q2
        rw [hc4 v hv, q]
        simp
      · rw [hc3 j q2, d2 v hv j j1 j2, hrem v hv q]
        rw [decide_eq_false (by omega), decide_eq_false (by omega)]
    · simp only [if_neg q]
      by_cases q2 : j = k + 1
      · subst q2
        rw [hc4 v hv, d2 v hv _ j1 j2, Bool.eq_false_iff.mpr q]
        simp
      · rw [hc3 j q2, d2 v hv j j1 j2]
  · by_cases q : rem v = true
    · simp only [if_pos q] at h0
      exact absurd trivial h0
    · simp only [if_neg q] at h0 ⊢
      obtain ⟨g1, g2, u, g3, g4, g5, g6⟩ := d3 v hv h0
      rw [hc1 (32 + v) (by omega), hr1 512 (by omega), hr1 513 (by omega), hc2 v hv, if_neg q]
      exact ⟨g1, g2, u, g3, g4, g5, g6⟩
  · rw [hc2 v hv]
    by_cases q : rem v = true
    · rw [if_pos q]
    · simp only [if_neg q] at h0 ⊢
      exact d4 v hv h0
  · obtain ⟨e1, e2, a, sz, a1, a2, a3, a4, a5, a6, a7⟩ := hc b d κ z
    refine ⟨e1, e2, a, sz, a1, by rw [hc1 502 (by omega)]; exact a2, by rw [hr1 529 (by omega)]; exact a3, a4, by rw [hc1 501 (by omega)]; exact a5, by rw [hr1 528 (by omega)]; exact a6, fun j hj => ?_⟩
    obtain ⟨w, u, b1, b2, b3, b4, b5, b6, b7, b8⟩ := a7 j hj
    rw [hc1 (480 + b) (by omega), hc1 (491 + b) (by omega), hr1 526 (by omega), hr1 527 (by omega)]
    refine ⟨w, u, b1, b2, b3, b4, b5, b6, b7, ?_⟩
    rw [hc2 w b1]
    by_cases q : rem w = true
    · rw [if_pos q]
      intro z
      have := (nn_eq (a := 0) (by omega) (by omega)).mp z
      omega
    · simp only [if_neg q]
      exact b8
/-- fields of words change alike -/
theorem RT_st (h : RT Sc Sr ow nk wd sn nv sc) (hc1 : ∀ q, (q < 32 ∨ 95 < q) → rwC q → Sc'.1 q = Sc.1 q) (hc2 : Sc'.2.1 30 = Sc.2.1 30) (hr1 : ∀ q, ¬ q = 512 → rwR q → Sr'.1 q = Sr.1 q) (hr2 : Sr'.1 503 14 = Sr.1 503 14) (hF : ∀ v, v < 64 → ¬ ow v = 0 → (∀ f, f < 6 → Sc'.1 (32 + v) f = Sr'.1 512 (6 * v + f)) ∧ (∀ f, f < 6 → wd (ow v - 1) ≤ f → Sr'.1 512 (6 * v + f) = 0)) : RT Sc' Sr' ow nk wd sn nv sc := by
  obtain ⟨⟨d1, d2, d3, d4, d5, d6, d7, d8⟩, hv, hc⟩ := h
  have e96 : Sc'.1 96 = Sc.1 96 := hc1 96 (by omega) (by unfold rwC; omega)
  refine ⟨⟨fun v hv => by rw [hr1 511 (by omega) (by unfold rwR; omega)]; exact d1 v hv, by rw [hc2]; exact d2, fun v hv h0 => ?_, fun v hv h0 => by rw [e96]; exact d4 v hv h0, by rw [hc1 29 (by omega) (by unfold rwC; omega)]; exact d5, by rw [hr2]; exact d6, d7, d8⟩, fun v hv2 => by rw [hc1 410 (by omega) (by unfold rwC; omega), hr1 510 (by omega) (by unfold rwR; omega)]; exact hv v hv2, fun b d κ z => ?_⟩
  · obtain ⟨_, _, g⟩ := d3 v hv h0
    rw [e96, hr1 513 (by omega) (by unfold rwR; omega)]
    exact ⟨(hF v hv h0).1, (hF v hv h0).2, g⟩
  · obtain ⟨e1, e2, e3⟩ := hc b d κ z
    exact ⟨e1, e2, CST_y e1 (fun q hq => hc1 q (by omega) (by unfold rwC; omega)) (fun q a b => hr1 q (by omega) (by unfold rwR; omega)) e3⟩
theorem free_l {y : Int64} : ∀ (e w n : Nat) (S : xS), w + e = 64 → e < n → ∃ S', f_X10_free_17 N n y (nn w) S = some (rV S') ∧ (∀ q, ¬ q = 96 → S'.1 q = S.1 q) ∧ S'.2 = S.2 ∧ ∀ v, v < 64 → S'.1 96 v = if w ≤ v ∧ bt y v = true then 0 else S.1 96 v := by
  intro e
  induction e with
  | zero =>
    intro w n S hw hn
    obtain ⟨n, rfl⟩ : ∃ k, n = k + 1 := ⟨n - 1, by omega⟩
    refine ⟨S, ?_, fun _ _ => rfl, rfl, fun v hv => by rw [if_neg (by omega)]⟩
    rw [f_X10_free_17.eq_2, if_pos (by simp (disch := omega) only [nn_add, nn_addl, l_add_nn, nn_sub, nn_subl, nn_m1, nn_mull, nn_t, nn_i, l_t, nn_lt, nn_le, nn_eq, nn_ltl, l_lt_nn, nn_lel, l_le_nn, nn_eql, l_eql, nn_nm1, xin_nn, xin_l, m1_lt, m1_le, m1_p, m1_z, dlt_T, dlt_F, dle_T, dle_F, deq_T, deq_F, sI_c, sI_n, sI_J, sI_E, sJ_c, sJ_n, sJ_I, sJ_E, sE_I, sE_J, sE_E, xcI_i, xcJ_i, xcR_i, xcV_i, xcI_e, xcJ_e, xcR_e, xcV_e, if_true, if_false, ite_true, ite_false, true_and, and_true, false_and, and_false, or_true, true_or, or_false, false_or, not_true_eq_false, not_false_eq_true, eq_self, ne_eq, ↓reduceIte, Nat.reduceEqDiff, Nat.reduceLT, Nat.reduceLeDiff, Nat.reduceAdd, Nat.reduceMul, Nat.reduceSub, Int32.reduceLT, Int32.reduceLE, reduceCtorEq] <;> omega)]
  | succ e ih =>
    intro w n S hw hn
    obtain ⟨n, rfl⟩ : ∃ k, n = k + 1 := ⟨n - 1, by omega⟩
    rw [f_X10_free_17.eq_2, if_neg (by simp (disch := omega) only [nn_add, nn_addl, l_add_nn, nn_sub, nn_subl, nn_m1, nn_mull, nn_t, nn_i, l_t, nn_lt, nn_le, nn_eq, nn_ltl, l_lt_nn, nn_lel, l_le_nn, nn_eql, l_eql, nn_nm1, xin_nn, xin_l, m1_lt, m1_le, m1_p, m1_z, dlt_T, dlt_F, dle_T, dle_F, deq_T, deq_F, sI_c, sI_n, sI_J, sI_E, sJ_c, sJ_n, sJ_I, sJ_E, sE_I, sE_J, sE_E, xcI_i, xcJ_i, xcR_i, xcV_i, xcI_e, xcJ_e, xcR_e, xcV_e, if_true, if_false, ite_true, ite_false, true_and, and_true, false_and, and_false, or_true, true_or, or_false, false_or, not_true_eq_false, not_false_eq_true, eq_self, ne_eq, ↓reduceIte, Nat.reduceEqDiff, Nat.reduceLT, Nat.reduceLeDiff, Nat.reduceAdd, Nat.reduceMul, Nat.reduceSub, Int32.reduceLT, Int32.reduceLE, reduceCtorEq] <;> omega)]
    unfold f_X10_free_43
    rw [nn_addl]
    by_cases q : bt y w = true
    · rw [if_neg (fun z => by
        have := (bt_0 y (w := w) (by omega)).mp z
        rw [q] at this
        cases this), if_pos ((xin_nn (by omega)).mpr (by omega)), nn_t (by omega)]
      obtain ⟨S', r1, r2, r3, r4⟩ := ih (w + 1) n (sI S 96 w 0) (by omega) (by omega)
      refine ⟨S', r1, fun q hq => by rw [r2 q hq, sI_n hq], r3, fun v hv => ?_⟩
      rw [r4 v hv, sI_c]
      by_cases z : v = w
      · subst z
        rw [if_neg (by omega), if_pos ⟨rfl, rfl⟩, if_pos ⟨Nat.le_refl _, q⟩]
      · rw [if_neg (c := 96 = 96 ∧ v = w) (by omega)]
        by_cases z2 : w + 1 ≤ v ∧ bt y v = true
        · rw [if_pos z2, if_pos ⟨by omega, z2.2⟩]
        · rw [if_neg z2, if_neg (fun z3 => z2 ⟨by omega, z3.2⟩)]
    · rw [if_pos ((bt_0 y (w := w) (by omega)).mpr (Bool.eq_false_iff.mpr q))]
      obtain ⟨S', r1, r2, r3, r4⟩ := ih (w + 1) n S (by omega) (by omega)
      refine ⟨S', r1, r2, r3, fun v hv => ?_⟩
      rw [r4 v hv]
      by_cases z2 : w + 1 ≤ v ∧ bt y v = true
      · rw [if_pos z2, if_pos ⟨by omega, z2.2⟩]
      · rw [if_neg z2, if_neg (fun z3 => by
          by_cases z : v = w
          · subst z; exact q z3.2
          · exact z2 ⟨by omega, z3.2⟩)]
theorem p_free {y : Int64} (hN : 1000 < N) (hk : k < 7) : ∃ S', f_X10_free N (nn (k + 1)) y S = some (rV S') ∧ (∀ q, ¬ q = 96 → S'.1 q = S.1 q) ∧ (∀ v, v < 64 → S'.1 96 v = if bt y v = true then 0 else S.1 96 v) ∧ (∀ j, ¬ j = k + 1 → S'.2.1 30 j = S.2.1 30 j) ∧ (∀ v, v < 64 → bt (S'.2.1 30 (k + 1)) v = (bt (S.2.1 30 (k + 1)) v && !bt y v)) := by
  obtain ⟨S', r1, r2, r3, r4⟩ := free_l (N := N) (y := y) 64 0 N (sJ S 30 (k + 1) ((S.2.1 30 (k + 1)) &&& (y ^^^ (-1)))) (by omega) (by omega)
  refine ⟨S', ?_, fun q hq => by rw [r2 q hq, sJ_I], fun v hv => ?_, fun j hj => ?_, fun v hv => ?_⟩
  · unfold f_X10_free
    rw [if_pos ((xin_nn (by omega)).mpr (by omega)), nn_t (by omega)]
    exact r1
  · rw [r4 v hv, sJ_I]
    simp only [Nat.zero_le, true_and]
  · rw [r3, sJ_c, if_neg (by omega)]
  · rw [r3, sJ_c, if_pos ⟨rfl, rfl⟩, bt_and, bt_not _ hv]
theorem del_l {ch : Nat → Bool} {a x : Nat} (ha : a < 2900) (hx : S.1 518 (a + 2) = nn x) : ∀ (e w n : Nat) (S' : xS), w + e = 64 → e < n → S'.1 518 = S.1 518 → (∀ v, v < 64 → S'.1 531 v = if ch v = true then 1 else 0) → ∃ S2, f_X12_step_212 N n (nn a) (nn w) S' = some (rI (nn (a + 3 + x)) S2) ∧ (∀ q, ¬ q = 511 → S2.1 q = S'.1 q) ∧ S2.2 = S'.2 ∧ ∀ v, v < 64 → S2.1 511 v = if w ≤ v ∧ ch v = true then 0 else S'.1 511 v := by
  intro e
  induction e with
  | zero =>
    intro w n S' hw hn h5 h531
    obtain ⟨n, rfl⟩ : ∃ k, n = k + 1 := ⟨n - 1, by omega⟩
    refine ⟨S', ?_, fun _ _ => rfl, rfl, fun v hv => by rw [if_neg (by omega)]⟩
    rw [f_X12_step_212.eq_2, if_pos (by simp (disch := omega) only [nn_add, nn_addl, l_add_nn, nn_sub, nn_subl, nn_m1, nn_mull, nn_t, nn_i, l_t, nn_lt, nn_le, nn_eq, nn_ltl, l_lt_nn, nn_lel, l_le_nn, nn_eql, l_eql, nn_nm1, xin_nn, xin_l, m1_lt, m1_le, m1_p, m1_z, dlt_T, dlt_F, dle_T, dle_F, deq_T, deq_F, sI_c, sI_n, sI_J, sI_E, sJ_c, sJ_n, sJ_I, sJ_E, sE_I, sE_J, sE_E, xcI_i, xcJ_i, xcR_i, xcV_i, xcI_e, xcJ_e, xcR_e, xcV_e, if_true, if_false, ite_true, ite_false, true_and, and_true, false_and, and_false, or_true, true_or, or_false, false_or, not_true_eq_false, not_false_eq_true, eq_self, ne_eq, ↓reduceIte, Nat.reduceEqDiff, Nat.reduceLT, Nat.reduceLeDiff, Nat.reduceAdd, Nat.reduceMul, Nat.reduceSub, Int32.reduceLT, Int32.reduceLE, reduceCtorEq] <;> omega), nn_addl, nn_addl, if_pos ((xin_nn (by omega)).mpr (by omega)), nn_t (by omega), h5, hx, nn_add]
  | succ e ih =>
    intro w n S' hw hn h5 h531
    obtain ⟨n, rfl⟩ : ∃ k, n = k + 1 := ⟨n - 1, by omega⟩
    rw [f_X12_step_212.eq_2, if_neg (by simp (disch := omega) only [nn_add, nn_addl, l_add_nn, nn_sub, nn_subl, nn_m1, nn_mull, nn_t, nn_i, l_t, nn_lt, nn_le, nn_eq, nn_ltl, l_lt_nn, nn_lel, l_le_nn, nn_eql, l_eql, nn_nm1, xin_nn, xin_l, m1_lt, m1_le, m1_p, m1_z, dlt_T, dlt_F, dle_T, dle_F, deq_T, deq_F, sI_c, sI_n, sI_J, sI_E, sJ_c, sJ_n, sJ_I, sJ_E, sE_I, sE_J, sE_E, xcI_i, xcJ_i, xcR_i, xcV_i, xcI_e, xcJ_e, xcR_e, xcV_e, if_true, if_false, ite_true, ite_false, true_and, and_true, false_and, and_false, or_true, true_or, or_false, false_or, not_true_eq_false, not_false_eq_true, eq_self, ne_eq, ↓reduceIte, Nat.reduceEqDiff, Nat.reduceLT, Nat.reduceLeDiff, Nat.reduceAdd, Nat.reduceMul, Nat.reduceSub, Int32.reduceLT, Int32.reduceLE, reduceCtorEq] <;> omega), if_pos ((xin_nn (by omega)).mpr (by omega)), nn_t (by omega), h531 w (by omega)]
    unfold f_X12_step_234
    rw [nn_addl]
    by_cases q : ch w = true
    · rw [if_pos q, if_neg (by decide)]
      obtain ⟨S2, r1, r2, r3, r4⟩ := ih (w + 1) n (sI S' 511 w 0) (by omega) (by omega) (by rw [sI_n (by omega)]; exact h5) (fun v hv => by rw [sI_n (by omega)]; exact h531 v hv)
      refine ⟨S2, r1, fun q hq => by rw [r2 q hq, sI_n hq], r3, fun v hv => ?_⟩
      rw [r4 v hv, sI_c]
      by_cases z : v = w
      · subst z
        rw [if_neg (by omega), if_pos ⟨rfl, rfl⟩, if_pos ⟨Nat.le_refl _, q⟩]
      · rw [if_neg (c := 511 = 511 ∧ v = w) (by omega)]
        by_cases z2 : w + 1 ≤ v ∧ ch v = true
        · rw [if_pos z2, if_pos ⟨by omega, z2.2⟩]
        · rw [if_neg z2, if_neg (fun z3 => z2 ⟨by omega, z3.2⟩)]
    · rw [if_neg q, if_pos rfl]
      obtain ⟨S2, r1, r2, r3, r4⟩ := ih (w + 1) n S' (by omega) (by omega) h5 h531
      refine ⟨S2, r1, r2, r3, fun v hv => ?_⟩
      rw [r4 v hv]
      by_cases z2 : w + 1 ≤ v ∧ ch v = true
      · rw [if_pos z2, if_pos ⟨by omega, z2.2⟩]
      · rw [if_neg z2, if_neg (fun z3 => by
          by_cases z : v = w
          · subst z; exact q z3.2
          · exact z2 ⟨by omega, z3.2⟩)]
/-- the reference's turn of a code that does something -/
theorem r_go {a a2 : Nat} {S1 : xS} (hP : PRG Sc Sr ns np nu nk nv wd A D) (ha : a < A ns) (h : f_X12_step N (nn a) Sr = some (rI (nn a2) S1)) : ∀ n, f_X12_run_58 N (n + 1) (nn a) Sr = f_X12_run_58 N n (nn a2) S1 := fun n => by rw [r_turn hP ha, xcI_of h]
theorem t_del {o : Option (Nat × List xCe)} (hN : 1000 < N) (hi : i < ns) (h : PS ns np nu nk nv fu B wd A D i sp ow sn ou Sc Sr) (ha : (D i).1 = 3) (h0 : Sc.1 (102 + 2 * i) 0 = nn (D i).1) (hk : k < nk) (z1 : Sc.1 (102 + 2 * i) 1 = nn (k + 1)) (hw : WHR Sc (Sc.1 (102 + 2 * i)) np k (sc2 (D i).2.2.2.2.2) o) (hs : seg (Sr.1 518) (A i) (100 :: 104 :: nn k :: whc o)) (hA : A (i + 1) = A i + 3 + (whc o).length) : OUT N ns np nu nk nv fu B wd A D t 4 (fun _ q => q = sp) (fun n => f_X2_goThrough_74 N (f_X2_goThrough_14 N n) (nn (i + 1)) (nn t) (102 + 2 * i) Sc) (fun n => f_X12_run_58 N n (nn (A i + 1)) Sr) := by
  have hps := h
  obtain ⟨h1, h2, h3, h4, h5, h6⟩ := h
  have hn := h1.1
  have hA8 := h1.2.2.2.2.2.2.1
  obtain ⟨l1, l2⟩ := PRG_lt h1 hi
  rw [ha] at h0
  obtain ⟨x, L, wx, wl⟩ := whc_h (o := o)
  obtain ⟨_, s1⟩ := seg_hd hs
  obtain ⟨c0, s2⟩ := seg_hd s1
  obtain ⟨c1, s5⟩ := seg_hd s2
  have c4 : Sr.1 518 (A i + 1 + 2) = nn x := by
    have := s5
    rw [wx] at this
    exact (seg_hd this).1
  obtain ⟨ch, S1, S2, y, r1, r2, r3, r4, r5, r6, r7⟩ := chs (N := N) hN h1 h3 hk hw s5 (by omega)
  have kv1 : kv Sc S1 := ⟨fun q j a _ => by rw [r3.1 q a], r3.2⟩
  obtain ⟨k1, k2, k3, k4, k5, k6⟩ := PS_v hps kv1 r4
  have hnk : nk ≤ 7 := k3.1.2.2.2.2.2.2.1
  obtain ⟨S3, q1, q2, q3, q4, q5⟩ := p_free (N := N) (k := k) (S := S1) (y := y) hN (by omega)
  obtain ⟨S4, p1, p2, p3, p4⟩ := del_l (N := N) (S := S2) (ch := ch) (a := A i + 1) (x := x) (by omega) (by rw [r4.1 518 (by decide) (by decide)]; exact c4) 64 0 N S2 (by omega) (by omega) rfl r6
  have ca : f_X2_act N (102 + 2 * i) Sc = some (rV S3) := by
    rw [a_disp (c := 3) (by omega) h0 (by decide), if_pos rfl, z1, xcJ_of r1, xcV_of q1]
    rfl
  have rr : f_X12_step N (nn (A i + 1)) Sr = some (rI (nn (A (i + 1))) S4) := by
    rw [r_disp (by omega) c0 (by decide), if_neg (by decide), if_neg (by decide), if_neg (by decide), if_neg (by decide), if_pos rfl]
    have c1' : Sr.1 518 (A i + 1 + 1) = nn k := c1
    have r2' : f_X12_choose N (nn k) (nn (A i + 1 + 2)) Sr = some (rV S2) := r2
    simp only [nn_addl, show (nn (A i + 1 + 1)).toNatClampNeg = A i + 1 + 1 from nn_t (by omega), if_pos ((xin_nn (a := A i + 1 + 1) (n := 3000) (by omega)).mpr (by omega)), c1']
    rw [xcV_of r2', hA, show A i + 3 + (whc o).length = A i + 1 + 3 + x by omega]
    exact p1
  have f4 : ∀ v, v < 64 → S4.1 511 v = if ch v = true then 0 else S2.1 511 v := fun v hv => by
    rw [p4 v hv]
    simp only [Nat.zero_le, true_and]
  have w3 := RT_rm (k := k) (rem := ch) (Sc' := S3) (Sr' := S4) k3 (by omega) r7 q2 (fun v hv => by rw [q3 v hv, r5 v hv]) q4 (fun v hv => by rw [q5 v hv, r5 v hv]) p2 f4
  refine OUT_n (sn := sn) (ou := ou) (Sc := S3) (Sr := S4) hi (by omega) (by omega) (by omega) (fun n => g_act (c := 3) (by omega) h0 (by decide) (by decide) (by decide) (by decide) (by decide) (by decide) ca) ⟨1, by omega, r_go h1 (by omega) rr⟩ ?_ ?_ w3 ?_ (by omega) (by omega)
  · exact PRG_g k1 (fun q j hq _ => by rw [q2 q (by omega)]) (p2 518 (by omega)) (by rw [p2 503 (by omega)])
  · exact KDS_x k2 hnk (fun q a b => q2 q (by omega)) (p2 508 (by omega))
  · exact RM_x k4 (q2 409 (by omega)) (q2 411 (by omega)) ⟨by rw [p2 503 (by omega)], by rw [p2 503 (by omega)], by rw [p2 503 (by omega)], by rw [p2 503 (by omega)]; exact k4.2.2.2.2.2.2.2.2.2.2⟩ (p2 532 (by omega))
/-- where a cursor in scope stands, and whether the record is there -/
theorem cur_at (hR : RT Sc Sr ow nk wd sn nv sc) (hsc : sc b d κ) : ∃ w, w < 64 ∧ ((f_X0_at N (nn b) Sc = some (rI (nn w) Sc) ∧ f_X12_cursorThere N (nn d) Sr = some (rI 1 Sr) ∧ ow w = κ + 1) ∨ (f_X0_at N (nn b) Sc = some (rI (-1) Sc) ∧ f_X12_cursorThere N (nn d) Sr = some (rI 0 Sr))) ∧ b < 10 ∧ d < 12 ∧ ∃ j, j < 64 ∧ Sr.1 529 d = nn j ∧ Sr.1 526 (64 * d + j) = nn w := by
  obtain ⟨e1, e2, j, sz, a1, a2, a3, a4, a5, a6, a7⟩ := hR.2.2 b d κ hsc
  obtain ⟨w, u, b1, b2, b3, b4, b5, b6, b7, b8⟩ := a7 j a1
  have h1 := p_at (N := N) e1 (by omega) b1 a2 b4
  have h2 := p_there (N := N) e2 (by omega) b1 a3 b5
  rw [b6] at h1
  rw [b7] at h2
  refine ⟨w, b1, ?_, e1, e2, j, by omega, a3, b5⟩
  by_cases q : Sc.1 96 w = nn u
  · obtain ⟨q1, q2⟩ := (DBR_at hR.1 b1 b2 b3).mp q
    rw [if_pos q] at h1
    rw [if_neg q1, if_pos q2] at h2
    exact Or.inl ⟨h1, h2, b8 q⟩
  · rw [if_neg q] at h1
    have q1 : (if Sr.1 511 w = 0 then (0 : Int32) else if Sr.1 513 w = nn u then 1 else 0) = 0 := by
      by_cases r1 : Sr.1 511 w = 0
      · rw [if_pos r1]
      · by_cases r2 : Sr.1 513 w = nn u
        · exact absurd ((DBR_at hR.1 b1 b2 b3).mpr ⟨r1, r2⟩) q
        · rw [if_neg r1, if_neg r2]
    rw [q1] at h2
    exact Or.inr ⟨h1, h2⟩
theorem t_rem (hN : 1000 < N) (hi : i < ns) (h : PS ns np nu nk nv fu B wd A D i sp ow sn ou Sc Sr) (ha : (D i).1 = 13) (h0 : Sc.1 (102 + 2 * i) 0 = nn (D i).1) (hk : k < nk) (z1 : Sc.1 (102 + 2 * i) 1 = nn (k + 1)) (z3 : Sc.1 (102 + 2 * i) 3 = nn (D i).2.2.2.1) (hsc : (D i).2.2.2.2.2 (D i).2.2.2.1 (D i).2.2.2.2.1 k) (hs : seg (Sr.1 518) (A i) [100, 109, nn (D i).2.2.2.2.1, nn k]) (hA : A (i + 1) = A i + 4) : OUT N ns np nu nk nv fu B wd A D t 4 (fun _ q => q = sp) (fun n => f_X2_goThrough_74 N (f_X2_goThrough_14 N n) (nn (i + 1)) (nn t) (102 + 2 * i) Sc) (fun n => f_X12_run_58 N n (nn (A i + 1)) Sr) := by
  obtain ⟨h1, h2, h3, h4, h5, h6⟩ := h
  have hn := h1.1
  have hA8 := h1.2.2.2.2.2.2.1
  have hnk : nk ≤ 7 := h3.1.2.2.2.2.2.2.1
  obtain ⟨l1, l2⟩ := PRG_lt h1 hi
  rw [ha] at h0
  obtain ⟨_, s1⟩ := seg_hd hs
  obtain ⟨c0, s2⟩ := seg_hd s1
  obtain ⟨c1, s5⟩ := seg_hd s2
  have c1' : Sr.1 518 (A i + 1 + 1) = nn (D i).2.2.2.2.1 := c1
  generalize (D i).2.2.2.1 = b at *
  generalize (D i).2.2.2.2.1 = d at *
  have xs : xStep (102 + 2 * i) := ⟨by omega, by omega, by omega⟩
  obtain ⟨w, w1, w2, w3, w4, j, w5, w6, w7⟩ := cur_at (N := N) h3 hsc
  rcases w2 with ⟨g1, g2, g3⟩ | ⟨g1, g2⟩
  · obtain ⟨S3, q1, q2, q3, q4, q5⟩ := p_free (N := N) (k := k) (S := Sc) (y := on1 w) hN (by omega)
    have ca : f_X2_act N (102 + 2 * i) Sc = some (rV S3) := by
      rw [a_disp (c := 13) (by omega) h0 (by decide), if_neg (by decide), if_neg (by decide), if_neg (by decide), if_neg (by decide), if_neg (by decide), if_pos rfl]
      have e : f_X2_remove N (102 + 2 * i) Sc = some (rV S3) := by
        unfold f_X2_remove
        rw [if_pos xs, z3, xcI_of g1, if_neg (fun z => (nn_nm1 (by omega)).mp z), z1]
        have q1' : f_X10_free N (nn (k + 1)) ((1 : Int64) <<< ((nn w : Int32).toInt64 &&& 63)) Sc = some (rV S3) := q1
        rw [xcV_of q1']
        rfl
      rw [xcV_of e]
      rfl
    have rr : f_X12_step N (nn (A i + 1)) Sr = some (rI (nn (A (i + 1))) (sI Sr 511 w 0)) := by
      rw [r_disp (by omega) c0 (by decide), if_neg (by decide), if_neg (by decide), if_neg (by decide), if_neg (by decide), if_neg (by decide), if_neg (by decide), if_neg (by decide), if_neg (by decide), if_neg (by decide), if_pos rfl]
      simp only [nn_addl, show (nn (A i + 1 + 1)).toNatClampNeg = A i + 1 + 1 from nn_t (by omega), if_pos ((xin_nn (a := A i + 1 + 1) (n := 3000) (by omega)).mpr (by omega)), c1']
      rw [xcI_of g2, if_neg (by decide)]
      simp only [show (nn (A i + 1 + 1)).toNatClampNeg = A i + 1 + 1 from nn_t (by omega), c1', show (nn d).toNatClampNeg = d from nn_t (by omega), w6, nn_mull, nn_add, show (nn (64 * d + j)).toNatClampNeg = 64 * d + j from nn_t (by omega), w7, show (nn w).toNatClampNeg = w from nn_t (by omega), if_pos ((xin_nn (a := d) (n := 12) (by omega)).mpr w4), if_pos ((xin_nn (a := 64 * d + j) (n := 768) (by omega)).mpr (by omega)), if_pos ((xin_nn (a := w) (n := 64) (by omega)).mpr w1)]
      unfold f_X12_step_378
      rw [nn_addl, hA]
    have w3 := RT_rm (k := k) (rem := bt (on1 w)) (Sc' := S3) (Sr' := sI Sr 511 w 0) h3 (by omega) (fun v hv hr => by
      rw [bt_on w w1 v hv] at hr
      rw [of_decide_eq_true hr]
      exact g3) q2 q3 q4 q5 (fun q hq => by rw [sI_n hq]) (fun v hv => by
      rw [sI_c, bt_on w w1 v hv]
      by_cases z : v = w
      · rw [if_pos ⟨rfl, z⟩, if_pos (decide_eq_true z)]
      · rw [if_neg (by omega), if_neg (by rw [decide_eq_true_eq]; exact z)])
    refine OUT_n (sn := sn) (ou := ou) (Sc := S3) (Sr := sI Sr 511 w 0) hi (by omega) (by omega) (by omega) (fun n => g_act (c := 13) (by omega) h0 (by decide) (by decide) (by decide) (by decide) (by decide) (by decide) ca) ⟨1, by omega, r_go h1 (by omega) rr⟩ ?_ ?_ w3 ?_ (by omega) (by omega)
    · exact PRG_g h1 (fun q j hq _ => by rw [q2 q (by omega)]) (by simp (disch := omega) only [nn_add, nn_addl, l_add_nn, nn_sub, nn_subl, nn_m1, nn_mull, nn_t, nn_i, l_t, nn_lt, nn_le, nn_eq, nn_ltl, l_lt_nn, nn_lel, l_le_nn, nn_eql, l_eql, nn_nm1, xin_nn, xin_l, m1_lt, m1_le, m1_p, m1_z, dlt_T, dlt_F, dle_T, dle_F, deq_T, deq_F, sI_c, sI_n, sI_J, sI_E, sJ_c, sJ_n, sJ_I, sJ_E, sE_I, sE_J, sE_E, xcI_i, xcJ_i, xcR_i, xcV_i, xcI_e, xcJ_e, xcR_e, xcV_e, if_true, if_false, ite_true, ite_false, true_and, and_true, false_and, and_false, or_true, true_or, or_false, false_or, not_true_eq_false, not_false_eq_true, eq_self, ne_eq, ↓reduceIte, Nat.reduceEqDiff, Nat.reduceLT, Nat.reduceLeDiff, Nat.reduceAdd, Nat.reduceMul, Nat.reduceSub, Int32.reduceLT, Int32.reduceLE, reduceCtorEq]) (by simp (disch := omega) only [nn_add, nn_addl, l_add_nn, nn_sub, nn_subl, nn_m1, nn_mull, nn_t, nn_i, l_t, nn_lt, nn_le, nn_eq, nn_ltl, l_lt_nn, nn_lel, l_le_nn, nn_eql, l_eql, nn_nm1, xin_nn, xin_l, m1_lt, m1_le, m1_p, m1_z, dlt_T, dlt_F, dle_T, dle_F, deq_T, deq_F, sI_c, sI_n, sI_J, sI_E, sJ_c, sJ_n, sJ_I, sJ_E, sE_I, sE_J, sE_E, xcI_i, xcJ_i, xcR_i, xcV_i, xcI_e, xcJ_e, xcR_e, xcV_e, if_true, if_false, ite_true, ite_false, true_and, and_true, false_and, and_false, or_true, true_or, or_false, false_or, not_true_eq_false, not_false_eq_true, eq_self, ne_eq, ↓reduceIte, Nat.reduceEqDiff, Nat.reduceLT, Nat.reduceLeDiff, Nat.reduceAdd, Nat.reduceMul, Nat.reduceSub, Int32.reduceLT, Int32.reduceLE, reduceCtorEq])
    · exact KDS_x h2 hnk (fun q a b => q2 q (by omega)) (by simp (disch := omega) only [nn_add, nn_addl, l_add_nn, nn_sub, nn_subl, nn_m1, nn_mull, nn_t, nn_i, l_t, nn_lt, nn_le, nn_eq, nn_ltl, l_lt_nn, nn_lel, l_le_nn, nn_eql, l_eql, nn_nm1, xin_nn, xin_l, m1_lt, m1_le, m1_p, m1_z, dlt_T, dlt_F, dle_T, dle_F, deq_T, deq_F, sI_c, sI_n, sI_J, sI_E, sJ_c, sJ_n, sJ_I, sJ_E, sE_I, sE_J, sE_E, xcI_i, xcJ_i, xcR_i, xcV_i, xcI_e, xcJ_e, xcR_e, xcV_e, if_true, if_false, ite_true, ite_false, true_and, and_true, false_and, and_false, or_true, true_or, or_false, false_or, not_true_eq_false, not_false_eq_true, eq_self, ne_eq, ↓reduceIte, Nat.reduceEqDiff, Nat.reduceLT, Nat.reduceLeDiff, Nat.reduceAdd, Nat.reduceMul, Nat.reduceSub, Int32.reduceLT, Int32.reduceLE, reduceCtorEq])
    · exact RM_x h4 (q2 409 (by omega)) (q2 411 (by omega)) ⟨by simp (disch := omega) only [nn_add, nn_addl, l_add_nn, nn_sub, nn_subl, nn_m1, nn_mull, nn_t, nn_i, l_t, nn_lt, nn_le, nn_eq, nn_ltl, l_lt_nn, nn_lel, l_le_nn, nn_eql, l_eql, nn_nm1, xin_nn, xin_l, m1_lt, m1_le, m1_p, m1_z, dlt_T, dlt_F, dle_T, dle_F, deq_T, deq_F, sI_c, sI_n, sI_J, sI_E, sJ_c, sJ_n, sJ_I, sJ_E, sE_I, sE_J, sE_E, xcI_i, xcJ_i, xcR_i, xcV_i, xcI_e, xcJ_e, xcR_e, xcV_e, if_true, if_false, ite_true, ite_false, true_and, and_true, false_and, and_false, or_true, true_or, or_false, false_or, not_true_eq_false, not_false_eq_true, eq_self, ne_eq, ↓reduceIte, Nat.reduceEqDiff, Nat.reduceLT, Nat.reduceLeDiff, Nat.reduceAdd, Nat.reduceMul, Nat.reduceSub, Int32.reduceLT, Int32.reduceLE, reduceCtorEq], by simp (disch := omega) only [nn_add, nn_addl, l_add_nn, nn_sub, nn_subl, nn_m1, nn_mull, nn_t, nn_i, l_t, nn_lt, nn_le, nn_eq, nn_ltl, l_lt_nn, nn_lel, l_le_nn, nn_eql, l_eql, nn_nm1, xin_nn, xin_l, m1_lt, m1_le, m1_p, m1_z, dlt_T, dlt_F, dle_T, dle_F, deq_T, deq_F, sI_c, sI_n, sI_J, sI_E, sJ_c, sJ_n, sJ_I, sJ_E, sE_I, sE_J, sE_E, xcI_i, xcJ_i, xcR_i, xcV_i, xcI_e, xcJ_e, xcR_e, xcV_e, if_true, if_false, ite_true, ite_false, true_and, and_true, false_and, and_false, or_true, true_or, or_false, false_or, not_true_eq_false, not_false_eq_true, eq_self, ne_eq, ↓reduceIte, Nat.reduceEqDiff, Nat.reduceLT, Nat.reduceLeDiff, Nat.reduceAdd, Nat.reduceMul, Nat.reduceSub, Int32.reduceLT, Int32.reduceLE, reduceCtorEq], by simp (disch := omega) only [nn_add, nn_addl, l_add_nn, nn_sub, nn_subl, nn_m1, nn_mull, nn_t, nn_i, l_t, nn_lt, nn_le, nn_eq, nn_ltl, l_lt_nn, nn_lel, l_le_nn, nn_eql, l_eql, nn_nm1, xin_nn, xin_l, m1_lt, m1_le, m1_p, m1_z, dlt_T, dlt_F, dle_T, dle_F, deq_T, deq_F, sI_c, sI_n, sI_J, sI_E, sJ_c, sJ_n, sJ_I, sJ_E, sE_I, sE_J, sE_E, xcI_i, xcJ_i, xcR_i, xcV_i, xcI_e, xcJ_e, xcR_e, xcV_e, if_true, if_false, ite_true, ite_false, true_and, and_true, false_and, and_false, or_true, true_or, or_false, false_or, not_true_eq_false, not_false_eq_true, eq_self, ne_eq, ↓reduceIte, Nat.reduceEqDiff, Nat.reduceLT, Nat.reduceLeDiff, Nat.reduceAdd, Nat.reduceMul, Nat.reduceSub, Int32.reduceLT, Int32.reduceLE, reduceCtorEq], by simp (disch := omega) only [nn_add, nn_addl, l_add_nn, nn_sub, nn_subl, nn_m1, nn_mull, nn_t, nn_i, l_t, nn_lt, nn_le, nn_eq, nn_ltl, l_lt_nn, nn_lel, l_le_nn, nn_eql, l_eql, nn_nm1, xin_nn, xin_l, m1_lt, m1_le, m1_p, m1_z, dlt_T, dlt_F, dle_T, dle_F, deq_T, deq_F, sI_c, sI_n, sI_J, sI_E, sJ_c, sJ_n, sJ_I, sJ_E, sE_I, sE_J, sE_E, xcI_i, xcJ_i, xcR_i, xcV_i, xcI_e, xcJ_e, xcR_e, xcV_e, if_true, if_false, ite_true, ite_false, true_and, and_true, false_and, and_false, or_true, true_or, or_false, false_or, not_true_eq_false, not_false_eq_true, eq_self, ne_eq, ↓reduceIte, Nat.reduceEqDiff, Nat.reduceLT, Nat.reduceLeDiff, Nat.reduceAdd, Nat.reduceMul, Nat.reduceSub, Int32.reduceLT, Int32.reduceLE, reduceCtorEq]; exact h4.2.2.2.2.2.2.2.2.2.2⟩ (by simp (disch := omega) only [nn_add, nn_addl, l_add_nn, nn_sub, nn_subl, nn_m1, nn_mull, nn_t, nn_i, l_t, nn_lt, nn_le, nn_eq, nn_ltl, l_lt_nn, nn_lel, l_le_nn, nn_eql, l_eql, nn_nm1, xin_nn, xin_l, m1_lt, m1_le, m1_p, m1_z, dlt_T, dlt_F, dle_T, dle_F, deq_T, deq_F, sI_c, sI_n, sI_J, sI_E, sJ_c, sJ_n, sJ_I, sJ_E, sE_I, sE_J, sE_E, xcI_i, xcJ_i, xcR_i, xcV_i, xcI_e, xcJ_e, xcR_e, xcV_e, if_true, if_false, ite_true, ite_false, true_and, and_true, false_and, and_false, or_true, true_or, or_false, false_or, not_true_eq_false, not_false_eq_true, eq_self, ne_eq, ↓reduceIte, Nat.reduceEqDiff, Nat.reduceLT, Nat.reduceLeDiff, Nat.reduceAdd, Nat.reduceMul, Nat.reduceSub, Int32.reduceLT, Int32.reduceLE, reduceCtorEq])
  · have ca : f_X2_act N (102 + 2 * i) Sc = some (rV Sc) := by
      rw [a_disp (c := 13) (by omega) h0 (by decide), if_neg (by decide), if_neg (by decide), if_neg (by decide), if_neg (by decide), if_neg (by decide), if_pos rfl]
      have e : f_X2_remove N (102 + 2 * i) Sc = some (rV Sc) := by
        unfold f_X2_remove
        rw [if_pos xs, z3, xcI_of g1, if_pos rfl]
        rfl
      rw [xcV_of e]
      rfl
    have rr : f_X12_step N (nn (A i + 1)) Sr = some (rI (nn (A (i + 1))) Sr) := by
      rw [r_disp (by omega) c0 (by decide), if_neg (by decide), if_neg (by decide), if_neg (by decide), if_neg (by decide), if_neg (by decide), if_neg (by decide), if_neg (by decide), if_neg (by decide), if_neg (by decide), if_pos rfl]
      simp only [nn_addl, show (nn (A i + 1 + 1)).toNatClampNeg = A i + 1 + 1 from nn_t (by omega), if_pos ((xin_nn (a := A i + 1 + 1) (n := 3000) (by omega)).mpr (by omega)), c1']
      rw [xcI_of g2, if_pos rfl]
      unfold f_X12_step_378
      rw [nn_addl, hA]
    exact OUT_n hi (by omega) (by omega) (by omega) (fun n => g_act (c := 13) (by omega) h0 (by decide) (by decide) (by decide) (by decide) (by decide) (by decide) ca) ⟨1, by omega, r_go h1 (by omega) rr⟩ h1 h2 h3 h4 (by omega) (by omega)
end DE
