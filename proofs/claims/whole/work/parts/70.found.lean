/-! 70: the records that a condition holds for -/
section FD
variable {N : Nat} {V : Nat → Int32} {Fw : Nat → Nat → Int32} {C : Nat → Nat → Int32} {sc : Nat → Nat → Prop} {L : List xIt}
/-- the parts of a condition stand at p -/
def CND (S : xS) (np p : Nat) (sc : Nat → Nat → Prop) (L : List xIt) : Prop := (∀ i ∈ L, iok True sc i) ∧ segp S.1 p L ∧ S.1 (103 + 2 * (p + L.length)) 0 = 0 ∧ p + L.length < np ∧ np ≤ 151 ∧ S.1 97 5 = nn np ∧ dpx 0 (tg2 L) = some 1
theorem CND_k {S S' : xS} {np p : Nat} (h : CND S np p sc L) (hk : k412 S S') : CND S' np p sc L := by
  obtain ⟨h1, h2, h3, h4, h5, h6, h7⟩ := h
  exact ⟨h1, segp_c h2 (fun k a b => hk.1 _ (by omega)), by rw [hk.1 _ (by omega)]; exact h3, h4, h5, by rw [hk.1 97 (by decide)]; exact h6, h7⟩
theorem p_found_l (hN : 1000 < N) (all : Int64) (np p : Nat) : ∀ (d w n : Nat) (y5 : Int64) (S : xS), w + d = 64 → CND S np p sc L → (∀ v, v < 64 → bt all v = true → envC S V (Fw v) C True sc (nn v)) → d < n →
    ∃ S' y, f_X2_found_23 N n (nn p) all y5 (nn w) S = some (rJ y S') ∧ k412 S S' ∧ ∀ v, v < 64 → bt y v = (bt y5 v || (decide (w ≤ v) && (bt all v && decide (¬ evl V (Fw v) C L = 0)))) := by
  intro d
  induction d with
  | zero =>
    intro w n y5 S hw hc he hn
    obtain ⟨n, rfl⟩ := Nat.exists_eq_succ_of_ne_zero (Nat.ne_of_gt (Nat.zero_lt_of_lt hn))
    refine ⟨S, y5, ?_, k412_r S, fun v hv => ?_⟩
    · rw [f_X2_found_23.eq_2, if_pos (by simp (disch := omega) only [nn_add, nn_addl, l_add_nn, nn_sub, nn_subl, nn_m1, nn_mull, nn_t, nn_i, l_t, nn_lt, nn_le, nn_eq, nn_ltl, l_lt_nn, nn_lel, l_le_nn, nn_eql, l_eql, nn_nm1, xin_nn, xin_l, m1_lt, m1_le, m1_p, m1_z, dlt_T, dlt_F, dle_T, dle_F, deq_T, deq_F, sI_c, sI_n, sI_J, sI_E, sJ_c, sJ_n, sJ_I, sJ_E, sE_I, sE_J, sE_E, xcI_i, xcJ_i, xcR_i, xcV_i, xcI_e, xcJ_e, xcR_e, xcV_e, if_true, if_false, ite_true, ite_false, true_and, and_true, false_and, and_false, or_true, true_or, or_false, false_or, not_true_eq_false, not_false_eq_true, eq_self, ne_eq, ↓reduceIte, Nat.reduceEqDiff, Nat.reduceLT, Nat.reduceLeDiff, Nat.reduceAdd, Nat.reduceMul, Nat.reduceSub, Int32.reduceLT, Int32.reduceLE, reduceCtorEq])]
    · rw [show decide (w ≤ v) = false by simp; omega]
      simp
  | succ d ih =>
    intro w n y5 S hw hc he hn
    obtain ⟨n, rfl⟩ := Nat.exists_eq_succ_of_ne_zero (Nat.ne_of_gt (Nat.zero_lt_of_lt hn))
    have hb := bt_0 all (w := w) (by omega)
    by_cases q : bt all w = false
    · obtain ⟨S1, y, r1, r2, r3⟩ := ih (w + 1) n y5 S (by omega) hc he (by omega)
      refine ⟨S1, y, ?_, r2, fun v hv => ?_⟩
      · rw [f_X2_found_23.eq_2, if_neg (by simp (disch := omega) only [nn_add, nn_addl, l_add_nn, nn_sub, nn_subl, nn_m1, nn_mull, nn_t, nn_i, l_t, nn_lt, nn_le, nn_eq, nn_ltl, l_lt_nn, nn_lel, l_le_nn, nn_eql, l_eql, nn_nm1, xin_nn, xin_l, m1_lt, m1_le, m1_p, m1_z, dlt_T, dlt_F, dle_T, dle_F, deq_T, deq_F, sI_c, sI_n, sI_J, sI_E, sJ_c, sJ_n, sJ_I, sJ_E, sE_I, sE_J, sE_E, xcI_i, xcJ_i, xcR_i, xcV_i, xcI_e, xcJ_e, xcR_e, xcV_e, if_true, if_false, ite_true, ite_false, true_and, and_true, false_and, and_false, or_true, true_or, or_false, false_or, not_true_eq_false, not_false_eq_true, eq_self, ne_eq, ↓reduceIte, Nat.reduceEqDiff, Nat.reduceLT, Nat.reduceLeDiff, Nat.reduceAdd, Nat.reduceMul, Nat.reduceSub, Int32.reduceLT, Int32.reduceLE, reduceCtorEq]), if_pos (hb.mpr q)]
        unfold f_X2_found_60
        rw [nn_addl]
        exact r1
      · rw [r3 v hv]
        by_cases e : v = w
        · subst e
          rw [q]
          simp
        · congr 2
          by_cases z : w + 1 ≤ v
          · simp [z, Nat.le_of_succ_le z]
          · have : ¬ w ≤ v := by omega
            simp [z, this]
    · have qt : bt all w = true := by
        cases h : bt all w
        · exact absurd h q
        · rfl
      obtain ⟨c1, c2, c3, c4, c5, c6, c7⟩ := hc
      obtain ⟨S1, g1, g2⟩ := p_within (N := N) hN (he w (by omega) qt) c1 c2 c3 c4 c5 c6 c7
      have hc1 := CND_k ⟨c1, c2, c3, c4, c5, c6, c7⟩ g2
      have step : f_X2_found_23 N (n + 1) (nn p) all y5 (nn w) S = f_X2_found_23 N n (nn p) all (if evl V (Fw w) C L = 0 then y5 else y5 ||| on1 w) (nn (w + 1)) S1 := by
        rw [f_X2_found_23.eq_2, if_neg (by simp (disch := omega) only [nn_add, nn_addl, l_add_nn, nn_sub, nn_subl, nn_m1, nn_mull, nn_t, nn_i, l_t, nn_lt, nn_le, nn_eq, nn_ltl, l_lt_nn, nn_lel, l_le_nn, nn_eql, l_eql, nn_nm1, xin_nn, xin_l, m1_lt, m1_le, m1_p, m1_z, dlt_T, dlt_F, dle_T, dle_F, deq_T, deq_F, sI_c, sI_n, sI_J, sI_E, sJ_c, sJ_n, sJ_I, sJ_E, sE_I, sE_J, sE_E, xcI_i, xcJ_i, xcR_i, xcV_i, xcI_e, xcJ_e, xcR_e, xcV_e, if_true, if_false, ite_true, ite_false, true_and, and_true, false_and, and_false, or_true, true_or, or_false, false_or, not_true_eq_false, not_false_eq_true, eq_self, ne_eq, ↓reduceIte, Nat.reduceEqDiff, Nat.reduceLT, Nat.reduceLeDiff, Nat.reduceAdd, Nat.reduceMul, Nat.reduceSub, Int32.reduceLT, Int32.reduceLE, reduceCtorEq]), if_neg (fun z => q (hb.mp z)), xcI_of g1]
        unfold f_X2_found_60
        by_cases z : evl V (Fw w) C L = 0
        · rw [if_pos z, if_pos z, nn_addl]
        · rw [if_neg z, if_neg z, nn_addl]
          rfl
      obtain ⟨S2, y, r1, r2, r3⟩ := ih (w + 1) n (if evl V (Fw w) C L = 0 then y5 else y5 ||| on1 w) S1 (by omega) hc1 (fun v hv hb => envC_k (he v hv hb) g2) (by omega)
      refine ⟨S2, y, step.trans r1, k412_t g2 r2, fun v hv => ?_⟩
      rw [r3 v hv]
      by_cases e : v = w
      · subst e
        have : decide (v + 1 ≤ v) = false := by simp
        rw [this, qt]
        by_cases z : evl V (Fw v) C L = 0
        · rw [if_pos z]
          simp [z]
        · rw [if_neg z, bt_or, bt_on v hv v hv]
          simp [z]
      · have e2 : (if evl V (Fw w) C L = 0 then bt y5 v else bt (y5 ||| on1 w) v) = bt y5 v := by
          by_cases z : evl V (Fw w) C L = 0
          · rw [if_pos z]
          · rw [if_neg z, bt_or, bt_on w (by omega) v hv]
            simp [e]
        have e3 : bt (if evl V (Fw w) C L = 0 then y5 else y5 ||| on1 w) v = bt y5 v := by
          rw [← e2]
          split <;> rfl
        rw [e3]
        congr 2
        by_cases z : w + 1 ≤ v
        · simp [z, Nat.le_of_succ_le z]
        · have : ¬ w ≤ v := by omega
          simp [z, this]
/-- what is chosen, as the class's bits say -/
def chw (V : Nat → Int32) (Fw : Nat → Nat → Int32) (C : Nat → Nat → Int32) (o : Option (Nat × List xIt)) (w : Nat) : Bool := match o with
  | none => true
  | some z => decide (¬ evl V (Fw w) C z.2 = 0)
def oI (o : Option (Nat × List xIt)) : Int32 := match o with
  | none => -1
  | some z => nn z.1
theorem p_found {S : xS} {np k : Nat} (hN : 1000 < N) (hk : k < 7) (o : Option (Nat × List xIt)) (hc : ∀ z, o = some z → CND S np z.1 sc z.2) (he : ∀ v, v < 64 → bt (S.2.1 30 (k + 1)) v = true → envC S V (Fw v) C True sc (nn v)) :
    ∃ S' y, f_X2_found N (nn (k + 1)) (oI o) S = some (rJ y S') ∧ k412 S S' ∧ ∀ v, v < 64 → bt y v = (bt (S.2.1 30 (k + 1)) v && chw V Fw C o v) := by
  have ek : (nn (k + 1)).toNatClampNeg = k + 1 := nn_t (by omega)
  have x8 : xin (nn (k + 1)) 8 := (xin_nn (by omega)).mpr (by omega)
  cases o with
  | none =>
    refine ⟨S, S.2.1 30 (k + 1), ?_, k412_r S, fun v hv => by unfold chw; simp⟩
    unfold f_X2_found oI
    rw [if_pos x8, if_pos rfl, ek]
  | some z =>
    have hz := hc z rfl
    have hb := hz.2.2.2.1
    have hb2 := hz.2.2.2.2.1
    obtain ⟨S1, y, r1, r2, r3⟩ := p_found_l (N := N) (V := V) (Fw := Fw) (C := C) hN (S.2.1 30 (k + 1)) np z.1 64 0 N 0 S (by omega) hz he (by omega)
    refine ⟨S1, y, ?_, r2, fun v hv => ?_⟩
    · unfold f_X2_found oI
      rw [if_pos x8, if_neg (by simp (disch := omega) only [nn_add, nn_addl, l_add_nn, nn_sub, nn_subl, nn_m1, nn_mull, nn_t, nn_i, l_t, nn_lt, nn_le, nn_eq, nn_ltl, l_lt_nn, nn_lel, l_le_nn, nn_eql, l_eql, nn_nm1, xin_nn, xin_l, m1_lt, m1_le, m1_p, m1_z, dlt_T, dlt_F, dle_T, dle_F, deq_T, deq_F, sI_c, sI_n, sI_J, sI_E, sJ_c, sJ_n, sJ_I, sJ_E, sE_I, sE_J, sE_E, xcI_i, xcJ_i, xcR_i, xcV_i, xcI_e, xcJ_e, xcR_e, xcV_e, if_true, if_false, ite_true, ite_false, true_and, and_true, false_and, and_false, or_true, true_or, or_false, false_or, not_true_eq_false, not_false_eq_true, eq_self, ne_eq, ↓reduceIte, Nat.reduceEqDiff, Nat.reduceLT, Nat.reduceLeDiff, Nat.reduceAdd, Nat.reduceMul, Nat.reduceSub, Int32.reduceLT, Int32.reduceLE, reduceCtorEq, not_false_eq_true]), ek]
      exact r1
    · rw [r3 v hv, bt_z]
      unfold chw
      simp
def k531 (S S' : xS) : Prop := (∀ q, ¬ q = 524 → ¬ q = 531 → S'.1 q = S.1 q) ∧ S'.2 = S.2
theorem k531_t {A B D : xS} (h : k531 A B) (g : k531 B D) : k531 A D := ⟨fun q a b => (g.1 q a b).trans (h.1 q a b), g.2.trans h.2⟩
theorem k531_5 {A B : xS} (h : k524 A B) : k531 A B := ⟨fun q a _ => h.1 q a, h.2⟩
theorem k531_s {S : xS} {j : Nat} {v : Int32} : k531 S (sI S 531 j v) := ⟨fun q _ b => by rw [sI_n b], rfl⟩
theorem envR_5 {S S' : xS} {F : Nat → Int32} {rc : Prop} {x6 : Int32} (h : envR S V F C rc sc x6) (hk : k531 S S') : envR S' V F C rc sc x6 := by
  obtain ⟨h1, h2, h3⟩ := h
  refine ⟨fun v hv => by rw [hk.1 510 (by decide) (by decide)]; exact h1 v hv, fun z => ?_, fun b d z => ?_⟩
  · obtain ⟨w, a1, a2, a3, a4⟩ := h2 z
    exact ⟨w, a1, a2, by rw [hk.1 511 (by decide) (by decide)]; exact a3, fun f hf => by rw [hk.1 512 (by decide) (by decide)]; exact a4 f hf⟩
  · obtain ⟨a0, k, wd, a1, a2, a3, a4, a5⟩ := h3 b d z
    refine ⟨a0, k, wd, a1, a2, by rw [hk.1 529 (by decide) (by decide)]; exact a3, by rw [hk.1 526 (by decide) (by decide)]; exact a4, fun f hf => ?_⟩
    rw [hk.1 511 (by decide) (by decide), hk.1 513 (by decide) (by decide), hk.1 527 (by decide) (by decide), hk.1 512 (by decide) (by decide)]
    exact a5 f hf
/-- the code of a condition: its length, then the items; or 0 -/
def wcd (o : Option (Nat × List xIt)) : List Int32 := match o with
  | none => [0]
  | some z => nn (cdl z.2).length :: cdl z.2
theorem cdl_pos {L : List xIt} (hd : dpx 0 (tg2 L) = some 1) : 1 ≤ (cdl L).length := by
  cases L with
  | nil => injection hd with h; omega
  | cons i L =>
    rw [cdl_cs, List.length_append]
    have := itc_pos (i := i)
    omega
theorem p_choose_l (hN : 1000 < N) {k a : Nat} {ow : Nat → Nat} (hk : k < 7) (o : Option (Nat × List xIt)) (ho : ∀ z, o = some z → (∀ i ∈ z.2, iok True sc i) ∧ dpx 0 (tg2 z.2) = some 1 ∧ z.2.length < 199) (ha : a + (wcd o).length < 3000) : ∀ (d w n : Nat) (S : xS), w + d = 64 → (∀ v, v < 64 → ow v ≤ 7 ∧ S.1 511 v = nn (ow v)) → seg (S.1 518) a (wcd o) → (∀ v, v < 64 → ow v = k + 1 → envR S V (Fw v) C True sc (nn v)) → d < n →
    ∃ S', f_X12_choose_2 N n (nn k) (nn a) (nn w) S = some (rV S') ∧ k531 S S' ∧ (∀ v, v < w → S'.1 531 v = S.1 531 v) ∧ ∀ v, w ≤ v → v < 64 → S'.1 531 v = if ow v = k + 1 ∧ chw V Fw C o v = true then 1 else 0 := by
  intro d
  induction d with
  | zero =>
    intro w n S hw h1 h2 he hn
    obtain ⟨n, rfl⟩ := Nat.exists_eq_succ_of_ne_zero (Nat.ne_of_gt (Nat.zero_lt_of_lt hn))
    refine ⟨S, ?_, ⟨fun _ _ _ => rfl, rfl⟩, fun v _ => rfl, fun v a b => by omega⟩
    rw [f_X12_choose_2.eq_2, if_pos (by simp (disch := omega) only [nn_add, nn_addl, l_add_nn, nn_sub, nn_subl, nn_m1, nn_mull, nn_t, nn_i, l_t, nn_lt, nn_le, nn_eq, nn_ltl, l_lt_nn, nn_lel, l_le_nn, nn_eql, l_eql, nn_nm1, xin_nn, xin_l, m1_lt, m1_le, m1_p, m1_z, dlt_T, dlt_F, dle_T, dle_F, deq_T, deq_F, sI_c, sI_n, sI_J, sI_E, sJ_c, sJ_n, sJ_I, sJ_E, sE_I, sE_J, sE_E, xcI_i, xcJ_i, xcR_i, xcV_i, xcI_e, xcJ_e, xcR_e, xcV_e, if_true, if_false, ite_true, ite_false, true_and, and_true, false_and, and_false, or_true, true_or, or_false, false_or, not_true_eq_false, not_false_eq_true, eq_self, ne_eq, ↓reduceIte, Nat.reduceEqDiff, Nat.reduceLT, Nat.reduceLeDiff, Nat.reduceAdd, Nat.reduceMul, Nat.reduceSub, Int32.reduceLT, Int32.reduceLE, reduceCtorEq])]
  | succ d ih =>
    intro w n S hw h1 h2 he hn
    obtain ⟨n, rfl⟩ := Nat.exists_eq_succ_of_ne_zero (Nat.ne_of_gt (Nat.zero_lt_of_lt hn))
    have ew : (nn w).toNatClampNeg = w := nn_t (by omega)
    have x64 : xin (nn w) 64 := (xin_nn (by omega)).mpr (by omega)
    have ea : (nn a).toNatClampNeg = a := nn_t (by omega)
    have x3 : xin (nn a) 3000 := (xin_nn (by omega)).mpr (by omega)
    obtain ⟨o1, o2⟩ := h1 w (by omega)
    have key : ∀ (S1 : xS), k531 S S1 → S1.1 531 = S.1 531 → f_X12_choose_2 N (n + 1) (nn k) (nn a) (nn w) S = f_X12_choose_2 N n (nn k) (nn a) (nn (w + 1)) (sI S1 531 w (if ow w = k + 1 ∧ chw V Fw C o w = true then 1 else 0)) → ∃ S', f_X12_choose_2 N (n + 1) (nn k) (nn a) (nn w) S = some (rV S') ∧ k531 S S' ∧ (∀ v, v < w → S'.1 531 v = S.1 531 v) ∧ ∀ v, w ≤ v → v < 64 → S'.1 531 v = if ow v = k + 1 ∧ chw V Fw C o v = true then 1 else 0 := by
      intro S1 hk1 h531 hst
      have hk2 : k531 S (sI S1 531 w (if ow w = k + 1 ∧ chw V Fw C o w = true then 1 else 0)) := k531_t hk1 k531_s
      obtain ⟨S2, r1, r2, r3, r4⟩ := ih (w + 1) n _ (by omega) (fun v hv => ⟨(h1 v hv).1, by rw [hk2.1 511 (by decide) (by decide)]; exact (h1 v hv).2⟩) (by rw [hk2.1 518 (by decide) (by decide)]; exact h2) (fun v hv z => envR_5 (he v hv z) hk2) (by omega)
      refine ⟨S2, hst.trans r1, k531_t hk2 r2, fun v hv => ?_, fun v a b => ?_⟩
      · rw [r3 v (by omega), sI_c, if_neg (by omega), h531]
      · by_cases e : v = w
        · subst e
          rw [r3 v (by omega), sI_c, if_pos ⟨rfl, rfl⟩]
        · exact r4 v (by omega) b
    have e56 : ∀ (x : Int32) (S1 : xS), (x = 0 ∨ x = 1) → f_X12_choose_56 N (f_X12_choose_2 N n) (nn k) (nn a) (nn w) x (nn w) S1 = f_X12_choose_2 N n (nn k) (nn a) (nn (w + 1)) (sI S1 531 w x) := fun x S1 hx => by
      unfold f_X12_choose_56
      rw [if_pos x64, if_pos hx, ew, nn_addl]
    have st0 : f_X12_choose_2 N (n + 1) (nn k) (nn a) (nn w) S = if nn (ow w) = nn (k + 1) then if S.1 518 a = 0 then f_X12_choose_51 N (f_X12_choose_2 N n) (nn k) (nn a) (nn w) (nn w) S else xcI (f_X12_eval N (nn (a + 1)) (S.1 518 a) (nn w) S) (fun v29 S28 => if v29 = 0 then f_X12_choose_55 N (f_X12_choose_2 N n) (nn k) (nn a) (nn w) (nn w) S28 else f_X12_choose_51 N (f_X12_choose_2 N n) (nn k) (nn a) (nn w) (nn w) S28) else f_X12_choose_55 N (f_X12_choose_2 N n) (nn k) (nn a) (nn w) (nn w) S := by
      rw [f_X12_choose_2.eq_2, if_neg (by simp (disch := omega) only [nn_add, nn_addl, l_add_nn, nn_sub, nn_subl, nn_m1, nn_mull, nn_t, nn_i, l_t, nn_lt, nn_le, nn_eq, nn_ltl, l_lt_nn, nn_lel, l_le_nn, nn_eql, l_eql, nn_nm1, xin_nn, xin_l, m1_lt, m1_le, m1_p, m1_z, dlt_T, dlt_F, dle_T, dle_F, deq_T, deq_F, sI_c, sI_n, sI_J, sI_E, sJ_c, sJ_n, sJ_I, sJ_E, sE_I, sE_J, sE_E, xcI_i, xcJ_i, xcR_i, xcV_i, xcI_e, xcJ_e, xcR_e, xcV_e, if_true, if_false, ite_true, ite_false, true_and, and_true, false_and, and_false, or_true, true_or, or_false, false_or, not_true_eq_false, not_false_eq_true, eq_self, ne_eq, ↓reduceIte, Nat.reduceEqDiff, Nat.reduceLT, Nat.reduceLeDiff, Nat.reduceAdd, Nat.reduceMul, Nat.reduceSub, Int32.reduceLT, Int32.reduceLE, reduceCtorEq]), if_pos x64]
      simp only [ew, o2, nn_addl, ea, if_pos x3]
    by_cases q : ow w = k + 1
    · rw [if_pos (by rw [q])] at st0
      cases o with
      | none =>
        have f0 : S.1 518 a = 0 := by
          have := h2 0 (by unfold wcd; simp)
          exact this
        rw [if_pos f0] at st0
        refine key S ⟨fun _ _ _ => rfl, rfl⟩ rfl ?_
        rw [st0]
        unfold f_X12_choose_51
        rw [e56 1 S (Or.inr rfl), if_pos ⟨q, rfl⟩]
      | some z =>
        obtain ⟨z1, z2, z3⟩ := ho z rfl
        have hp := cdl_pos z2
        have hla : a + 1 + (cdl z.2).length < 3000 := by
          have : (wcd (some z)).length = (cdl z.2).length + 1 := rfl
          omega
        have f0 : S.1 518 a = nn (cdl z.2).length := by
          have := h2 0 (by unfold wcd; simp)
          exact this
        have hseg : seg (S.1 518) (a + 1) (cdl z.2) := by
          have h3 : wcd (some z) = [nn (cdl z.2).length] ++ cdl z.2 := rfl
          rw [h3] at h2
          exact (seg_app.mp h2).2
        rw [if_neg (by rw [f0]; simp (disch := omega) only [nn_add, nn_addl, l_add_nn, nn_sub, nn_subl, nn_m1, nn_mull, nn_t, nn_i, l_t, nn_lt, nn_le, nn_eq, nn_ltl, l_lt_nn, nn_lel, l_le_nn, nn_eql, l_eql, nn_nm1, xin_nn, xin_l, m1_lt, m1_le, m1_p, m1_z, dlt_T, dlt_F, dle_T, dle_F, deq_T, deq_F, sI_c, sI_n, sI_J, sI_E, sJ_c, sJ_n, sJ_I, sJ_E, sE_I, sE_J, sE_E, xcI_i, xcJ_i, xcR_i, xcV_i, xcI_e, xcJ_e, xcR_e, xcV_e, if_true, if_false, ite_true, ite_false, true_and, and_true, false_and, and_false, or_true, true_or, or_false, false_or, not_true_eq_false, not_false_eq_true, eq_self, ne_eq, ↓reduceIte, Nat.reduceEqDiff, Nat.reduceLT, Nat.reduceLeDiff, Nat.reduceAdd, Nat.reduceMul, Nat.reduceSub, Int32.reduceLT, Int32.reduceLE, reduceCtorEq]), f0] at st0
        obtain ⟨S1, g1, g2⟩ := p_eval1 (N := N) (x1 := nn (a + 1)) (xl := nn (cdl z.2).length) hN rfl rfl (he w (by omega) q) z1 hseg hla z3 z2
        rw [xcI_of g1] at st0
        refine key S1 (k531_5 g2) (g2.1 531 (by decide)) ?_
        rw [st0]
        unfold f_X12_choose_55 f_X12_choose_51
        by_cases c : evl V (Fw w) C z.2 = 0
        · rw [if_pos c, e56 0 S1 (Or.inl rfl), if_neg (fun y => by have := y.2; unfold chw at this; simp [c] at this)]
        · rw [if_neg c, e56 1 S1 (Or.inr rfl), if_pos ⟨q, by unfold chw; simp [c]⟩]
    · rw [if_neg (fun y => q ((nn_eq (by omega) (by omega)).mp y))] at st0
      refine key S ⟨fun _ _ _ => rfl, rfl⟩ rfl ?_
      rw [st0]
      unfold f_X12_choose_55
      rw [e56 0 S (Or.inl rfl), if_neg (fun y => q y.1)]
theorem p_choose {S : xS} {k a : Nat} {ow : Nat → Nat} (hN : 1000 < N) (hk : k < 7) (o : Option (Nat × List xIt)) (ho : ∀ z, o = some z → (∀ i ∈ z.2, iok True sc i) ∧ dpx 0 (tg2 z.2) = some 1 ∧ z.2.length < 199) (ha : a + (wcd o).length < 3000) (h1 : ∀ v, v < 64 → ow v ≤ 7 ∧ S.1 511 v = nn (ow v)) (h2 : seg (S.1 518) a (wcd o)) (he : ∀ v, v < 64 → ow v = k + 1 → envR S V (Fw v) C True sc (nn v)) :
    ∃ S', f_X12_choose N (nn k) (nn a) S = some (rV S') ∧ k531 S S' ∧ ∀ v, v < 64 → S'.1 531 v = if ow v = k + 1 ∧ chw V Fw C o v = true then 1 else 0 := by
  obtain ⟨S1, r1, r2, r3, r4⟩ := p_choose_l (N := N) (V := V) (Fw := Fw) (C := C) hN hk o ho ha 64 0 N S (by omega) h1 h2 he (by omega)
  exact ⟨S1, r1, r2, fun v hv => r4 v (Nat.zero_le _) hv⟩
end FD
