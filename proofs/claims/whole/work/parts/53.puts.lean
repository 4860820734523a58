/-! 53: fields that are given -/
def pc6 (b : Nat) : Nat := (b.testBit 0).toNat + (b.testBit 1).toNat + (b.testBit 2).toNat + (b.testBit 3).toNat + (b.testBit 4).toNat + (b.testBit 5).toNat
theorem pc6_le (b : Nat) : pc6 b ≤ 6 := by
  have : ∀ x : Bool, x.toNat ≤ 1 := by decide
  unfold pc6
  have h0 := this (b.testBit 0)
  have h1 := this (b.testBit 1)
  have h2 := this (b.testBit 2)
  have h3 := this (b.testBit 3)
  have h4 := this (b.testBit 4)
  have h5 := this (b.testBit 5)
  omega
set_option maxRecDepth 100000 in
theorem msk_a : ∀ b, b < 64 → ∀ f, f < 6 → ((((((nn b).toUInt32 >>> ((nn f).toUInt32 &&& Int32.toUInt32 31)).toInt32) &&& 1) = 0) ↔ b.testBit f = false) := by decide +kernel
set_option maxRecDepth 100000 in
theorem msk_b : ∀ b, b < 64 → ∀ f, f < 6 → ((((nn b >>> (nn f &&& 31)) &&& 1) = 1) ↔ b.testBit f = true) := by decide +kernel
set_option maxRecDepth 100000 in
theorem msk_c : ∀ b, b < 64 → ∀ f, f < 6 → (nn b ||| ((1 : Int32) <<< (nn f &&& 31))) = nn (b ||| 2 ^ f) ∧ (b ||| 2 ^ f) < 64 := by decide +kernel
set_option maxRecDepth 100000 in
theorem msk_d : ∀ b, b < 64 → ∀ f, f < 6 → b.testBit f = false → pc6 (b ||| 2 ^ f) = pc6 b + 1 := by decide +kernel
def cpu (st f : Nat) (E : List xCe) : List Int32 := if st = 0 then inl E else nn f :: nn (cE E).length :: cE E
def uf (v : xV) : Nat × Nat := (v.1, v.2.1)
section PU
variable {S0 R0 Sc Sr Sc' Sr' : xS} {m t t' nk nv nv' nb ns np0 nu0 nu np rk0 N k st : Nat} {s wd ty op kd A : Nat → Nat} {Z : Nat → Int32} {L : List Int32} {X : List xX} {U : List (Nat × Nat)} {M : List Nat} {D : Nat → xD}
theorem MI_pat {L1 L2 : List Int32} {v w : Int32} (h : MI S0 R0 Sc Sr m s t nk nv wd nb ns ty op kd A np0 nu0 np Z (L1 ++ v :: L2) X U M) : MI S0 R0 Sc (sI Sr 518 (A ns + L1.length) w) m s t nk nv wd nb ns ty op kd A np0 nu0 np Z (L1 ++ w :: L2) X U M := by
  obtain ⟨h1, h2, h3, h4, h5, h6, h7, h8, h9, h10, h11, h12, h13, h14, h15, h16, h17, h18, h19, h20⟩ := h
  have y1 : yfr Sr (sI Sr 518 (A ns + L1.length) w) := yfr_s (yfr_r _) (by omega)
  refine ⟨r_P_f h1 (xfr_r _) y1, r_bk_f h2 (xfr_r _) y1, h3, h4, h5, ?_, h7, by simp (disch := omega) only [nn_add, nn_addl, l_add_nn, nn_sub, nn_subl, nn_m1, nn_mull, nn_t, nn_i, l_t, nn_lt, nn_le, nn_eq, nn_ltl, l_lt_nn, nn_lel, l_le_nn, nn_eql, l_eql, nn_nm1, xin_nn, xin_l, m1_lt, m1_le, m1_p, m1_z, dlt_T, dlt_F, dle_T, dle_F, deq_T, deq_F, sI_c, sI_n, sI_J, sI_E, sJ_c, sJ_n, sJ_I, sJ_E, sE_I, sE_J, sE_E, xcI_i, xcJ_i, xcR_i, xcV_i, xcI_e, xcJ_e, xcR_e, xcV_e, if_true, if_false, ite_true, ite_false, true_and, and_true, false_and, and_false, or_true, true_or, or_false, false_or, not_true_eq_false, not_false_eq_true, eq_self, ne_eq, ↓reduceIte, Nat.reduceEqDiff, Nat.reduceLT, Nat.reduceLeDiff, Nat.reduceAdd, Nat.reduceMul, Nat.reduceSub, Int32.reduceLT, Int32.reduceLE, reduceCtorEq, h8], by simp (disch := omega) only [nn_add, nn_addl, l_add_nn, nn_sub, nn_subl, nn_m1, nn_mull, nn_t, nn_i, l_t, nn_lt, nn_le, nn_eq, nn_ltl, l_lt_nn, nn_lel, l_le_nn, nn_eql, l_eql, nn_nm1, xin_nn, xin_l, m1_lt, m1_le, m1_p, m1_z, dlt_T, dlt_F, dle_T, dle_F, deq_T, deq_F, sI_c, sI_n, sI_J, sI_E, sJ_c, sJ_n, sJ_I, sJ_E, sE_I, sE_J, sE_E, xcI_i, xcJ_i, xcR_i, xcV_i, xcI_e, xcJ_e, xcR_e, xcV_e, if_true, if_false, ite_true, ite_false, true_and, and_true, false_and, and_false, or_true, true_or, or_false, false_or, not_true_eq_false, not_false_eq_true, eq_self, ne_eq, ↓reduceIte, Nat.reduceEqDiff, Nat.reduceLT, Nat.reduceLeDiff, Nat.reduceAdd, Nat.reduceMul, Nat.reduceSub, Int32.reduceLT, Int32.reduceLE, reduceCtorEq, h9], h10, RK_s h11 (by omega), h12, ?_, h14, h15, fun j hj => by simp (disch := omega) only [nn_add, nn_addl, l_add_nn, nn_sub, nn_subl, nn_m1, nn_mull, nn_t, nn_i, l_t, nn_lt, nn_le, nn_eq, nn_ltl, l_lt_nn, nn_lel, l_le_nn, nn_eql, l_eql, nn_nm1, xin_nn, xin_l, m1_lt, m1_le, m1_p, m1_z, dlt_T, dlt_F, dle_T, dle_F, deq_T, deq_F, sI_c, sI_n, sI_J, sI_E, sJ_c, sJ_n, sJ_I, sJ_E, sE_I, sE_J, sE_E, xcI_i, xcJ_i, xcR_i, xcV_i, xcI_e, xcJ_e, xcR_e, xcV_e, if_true, if_false, ite_true, ite_false, true_and, and_true, false_and, and_false, or_true, true_or, or_false, false_or, not_true_eq_false, not_false_eq_true, eq_self, ne_eq, ↓reduceIte, Nat.reduceEqDiff, Nat.reduceLT, Nat.reduceLeDiff, Nat.reduceAdd, Nat.reduceMul, Nat.reduceSub, Int32.reduceLT, Int32.reduceLE, reduceCtorEq]; exact h16 j hj, h17, h18, h19, h20⟩
  · rw [sI_n (by omega), h6]
    simp
  · rw [show L1 ++ v :: L2 = (L1 ++ [v]) ++ L2 by simp] at h13
    rw [show L1 ++ w :: L2 = (L1 ++ [w]) ++ L2 by simp]
    obtain ⟨g1, g2⟩ := seg_app.mp h13
    obtain ⟨g3, _⟩ := seg_app.mp g1
    rw [List.length_append, List.length_singleton] at g2
    refine seg_app.mpr ⟨seg_sn g3 (fun k hk => by rw [sI_c, if_neg (by omega)]) (by simp (disch := omega) only [nn_add, nn_addl, l_add_nn, nn_sub, nn_subl, nn_m1, nn_mull, nn_t, nn_i, l_t, nn_lt, nn_le, nn_eq, nn_ltl, l_lt_nn, nn_lel, l_le_nn, nn_eql, l_eql, nn_nm1, xin_nn, xin_l, m1_lt, m1_le, m1_p, m1_z, dlt_T, dlt_F, dle_T, dle_F, deq_T, deq_F, sI_c, sI_n, sI_J, sI_E, sJ_c, sJ_n, sJ_I, sJ_E, sE_I, sE_J, sE_E, xcI_i, xcJ_i, xcR_i, xcV_i, xcI_e, xcJ_e, xcR_e, xcV_e, if_true, if_false, ite_true, ite_false, true_and, and_true, false_and, and_false, or_true, true_or, or_false, false_or, not_true_eq_false, not_false_eq_true, eq_self, ne_eq, ↓reduceIte, Nat.reduceEqDiff, Nat.reduceLT, Nat.reduceLeDiff, Nat.reduceAdd, Nat.reduceMul, Nat.reduceSub, Int32.reduceLT, Int32.reduceLE, reduceCtorEq]), ?_⟩
    rw [List.length_append, List.length_singleton]
    exact seg_c g2 (fun i a b => by rw [sI_c, if_neg (by omega)])
/-- one field given -/
theorem p_put1 (hN : 1000 < N) (hst : (st = 0 ∧ rk0 = 0) ∨ (st = 1 ∧ rk0 = k + 1)) (hk : k < nk) (h : MI S0 R0 Sc Sr m s t nk nv wd nb ns ty op kd A np0 nu0 np Z L X U M) (b : Nat) (hb : b < 64) (hM : st = 0 → M.length = U.length) (hpc : U.length = pc6 b) (hZ : Z 1 = nn (k + 1)) (hp : np ≤ t) (hc : A ns + L.length + 3 ≤ 12 * t) (hu : nu0 + U.length + 1 ≤ t) :
    (∃ t2 nv2 f E np2 Sc2 Sr2, t < t2 ∧ nv ≤ nv2 ∧ A ns + (L ++ cpu st f E).length ≤ 12 * t2 ∧ f < 6 ∧ f < wd k ∧ b.testBit f = false ∧ (∀ kk, f_X6_puts_40 N kk (102 + 2 * ns) (nn rk0) (nn b) (nn U.length) Sc = kk (102 + 2 * ns) (nn rk0) (nn (b ||| 2 ^ f)) (nn (U.length + 1)) Sc2) ∧ (∀ n x3, f_X12_puts_23 N (n + 1) (nn k) (nn st) x3 (nn U.length) (nn b) 1 Sr = f_X12_puts_150 N (f_X12_puts_23 N n) (nn k) (nn st) x3 (nn U.length) (nn (b ||| 2 ^ f)) Sr2) ∧ MI S0 R0 Sc2 Sr2 m s t2 nk nv2 wd nb ns ty op kd A np0 nu0 np2 Z (L ++ cpu st f E) ((rk0, np, E) :: X) (U ++ [(f, np)]) (if st = 0 then M ++ [f] else M)) ∨
    (∃ Sc2 Sr2, (∀ kk, f_X6_puts_40 N kk (102 + 2 * ns) (nn rk0) (nn b) (nn U.length) Sc = some (rA Sc2)) ∧ (∀ n x3, f_X12_puts_23 N (n + 1) (nn k) (nn st) x3 (nn U.length) (nn b) 1 Sr = some (rI 0 Sr2)) ∧ r_bad Sc2 Sr2 m s nk nv wd) := by
  have hP := h.1
  have hl := s_le hP
  have b2 := p_tok hP
  have b9 := tkr_lt (s t)
  have h20 := hP.2.2.2.1
  obtain ⟨d1, d2, d3, d4⟩ := MI_np h
  have n7 := hP.2.2.2.2.2.1.1
  have hns : ns < 150 := h.2.2.2.2.2.2.2.2.2.2.2.2.2.2.2.2.2.2.2
  have xs : xStep (102 + 2 * ns) := ⟨by omega, by omega, by omega⟩
  have hZ2 : Sc.1 (102 + 2 * ns) 1 = nn (k + 1) := by
    have := h.2.2.2.2.2.2.2.2.2.2.2.1
    rw [this]; exact hZ
  have hkd := hP.2.2.2.2.2.1.2.2.2.1 k hk
  have hw6 := hkd.1
  have n77 : f_X12_puts_77 N Sr = some (rI 0 (badR Sr s t)) := by
    unfold f_X12_puts_77
    rw [xcI_of (p_wrong hP), if_pos (Or.inl rfl)]
  by_cases h4 : s t = 40
  · have ht := hP.lt (by omega) (by omega)
    rw [h4, show tkr 40 = 1 from rfl] at b2
    have hcl : ∀ kk, f_X6_puts_40 N kk (102 + 2 * ns) (nn rk0) (nn b) (nn U.length) Sc = xcI (f_X3_field N (nn (k + 1)) (Sc.2.1 6 t) Sc) (fun v50 S49 => if v50 = ((-1)) then f_X6_puts_75 N S49 else if ((((nn b).toUInt32 >>> (v50.toUInt32 &&& Int32.toUInt32 31)).toInt32) &&& 1) = 0 then xcV (f_X9_pass N S49) (fun S53 => xcV (f_X9_take N 21 S53) (fun S55 => xcI (f_X1_read N (nn rk0) S55) (fun v58 S57 => xcV (f_X5_addPut N v50 v58 S57) (fun S59 => kk (102 + 2 * ns) (nn rk0) (nn b ||| (1 <<< (v50 &&& 31))) (nn U.length + 1) S59)))) else f_X6_puts_75 N S49) := fun kk => by
      unfold f_X6_puts_40
      rw [if_pos xs, p_name1 hP h4, xcJ_i, hZ2]
    have hrf : ∀ n x3, f_X12_puts_23 N (n + 1) (nn k) (nn st) x3 (nn U.length) (nn b) 1 Sr = xcI (f_X12_fieldOf N (nn k) (Sr.2.1 516 t) Sr) (fun v129 S128 => f_X12_puts_59 N (f_X12_puts_23 N n) (nn k) (nn st) x3 (nn U.length) (nn b) v129 S128) := fun n x3 => by
      rw [f_X12_puts_23.eq_2, if_neg (by decide), h20, if_pos ((xin_nn (by omega)).mpr (by omega)), nn_t (by omega), b2, if_pos (show nn 1 = 1 from rfl)]
    rcases p_field (N := N) (by omega) (by omega) hkd (p_nameR hP h4) with ⟨f, hf, f1, f2⟩ | ⟨f1, f2⟩
    · have a1 := msk_a b hb f (by omega)
      have a2 := msk_b b hb f (by omega)
      obtain ⟨a3, a4⟩ := msk_c b hb f (by omega)
      by_cases ht0 : b.testBit f = true
      · refine Or.inr ⟨sE Sc, badR Sr s t, fun kk => ?_, fun n x3 => ?_, p_bad hP⟩
        · rw [hcl, xcI_of f1, if_neg (by simp (disch := omega) only [nn_add, nn_addl, l_add_nn, nn_sub, nn_subl, nn_m1, nn_mull, nn_t, nn_i, l_t, nn_lt, nn_le, nn_eq, nn_ltl, l_lt_nn, nn_lel, l_le_nn, nn_eql, l_eql, nn_nm1, xin_nn, xin_l, m1_lt, m1_le, m1_p, m1_z, dlt_T, dlt_F, dle_T, dle_F, deq_T, deq_F, sI_c, sI_n, sI_J, sI_E, sJ_c, sJ_n, sJ_I, sJ_E, sE_I, sE_J, sE_E, xcI_i, xcJ_i, xcR_i, xcV_i, xcI_e, xcJ_e, xcR_e, xcV_e, if_true, if_false, ite_true, ite_false, true_and, and_true, false_and, and_false, or_true, true_or, or_false, false_or, not_true_eq_false, not_false_eq_true, eq_self, ne_eq, ↓reduceIte, Nat.reduceEqDiff, Nat.reduceLT, Nat.reduceLeDiff, Nat.reduceAdd, Nat.reduceMul, Nat.reduceSub, Int32.reduceLT, Int32.reduceLE, reduceCtorEq, not_false_eq_true]), if_neg (fun z => by rw [a1.mp z] at ht0; cases ht0)]
          rfl
        · rw [hrf, xcI_of f2, f_X12_puts_59, if_neg (by simp (disch := omega) only [nn_add, nn_addl, l_add_nn, nn_sub, nn_subl, nn_m1, nn_mull, nn_t, nn_i, l_t, nn_lt, nn_le, nn_eq, nn_ltl, l_lt_nn, nn_lel, l_le_nn, nn_eql, l_eql, nn_nm1, xin_nn, xin_l, m1_lt, m1_le, m1_p, m1_z, dlt_T, dlt_F, dle_T, dle_F, deq_T, deq_F, sI_c, sI_n, sI_J, sI_E, sJ_c, sJ_n, sJ_I, sJ_E, sE_I, sE_J, sE_E, xcI_i, xcJ_i, xcR_i, xcV_i, xcI_e, xcJ_e, xcR_e, xcV_e, if_true, if_false, ite_true, ite_false, true_and, and_true, false_and, and_false, or_true, true_or, or_false, false_or, not_true_eq_false, not_false_eq_true, eq_self, ne_eq, ↓reduceIte, Nat.reduceEqDiff, Nat.reduceLT, Nat.reduceLeDiff, Nat.reduceAdd, Nat.reduceMul, Nat.reduceSub, Int32.reduceLT, Int32.reduceLE, reduceCtorEq]), if_pos (a2.mpr ht0), n77]
      · have htf : b.testBit f = false := by
          cases hq : b.testBit f
          · rfl
          · exact absurd hq ht0
        have m1 := MI_n h ht
        have hcl2 : ∀ kk, f_X6_puts_40 N kk (102 + 2 * ns) (nn rk0) (nn b) (nn U.length) Sc = xcV (f_X9_take N 21 (sI Sc 1 7 (nn (t + 1)))) (fun S55 => xcI (f_X1_read N (nn rk0) S55) (fun v58 S57 => xcV (f_X5_addPut N (nn f) v58 S57) (fun S59 => kk (102 + 2 * ns) (nn rk0) (nn (b ||| 2 ^ f)) (nn (U.length + 1)) S59))) := fun kk => by
          rw [hcl, xcI_of f1, if_neg (by simp (disch := omega) only [nn_add, nn_addl, l_add_nn, nn_sub, nn_subl, nn_m1, nn_mull, nn_t, nn_i, l_t, nn_lt, nn_le, nn_eq, nn_ltl, l_lt_nn, nn_lel, l_le_nn, nn_eql, l_eql, nn_nm1, xin_nn, xin_l, m1_lt, m1_le, m1_p, m1_z, dlt_T, dlt_F, dle_T, dle_F, deq_T, deq_F, sI_c, sI_n, sI_J, sI_E, sJ_c, sJ_n, sJ_I, sJ_E, sE_I, sE_J, sE_E, xcI_i, xcJ_i, xcR_i, xcV_i, xcI_e, xcJ_e, xcR_e, xcV_e, if_true, if_false, ite_true, ite_false, true_and, and_true, false_and, and_false, or_true, true_or, or_false, false_or, not_true_eq_false, not_false_eq_true, eq_self, ne_eq, ↓reduceIte, Nat.reduceEqDiff, Nat.reduceLT, Nat.reduceLeDiff, Nat.reduceAdd, Nat.reduceMul, Nat.reduceSub, Int32.reduceLT, Int32.reduceLE, reduceCtorEq, not_false_eq_true]), if_pos (a1.mpr htf), xcV_of (p_pass hP ht), a3, nn_addl]
        have hrf2 : ∀ n x3, f_X12_puts_23 N (n + 1) (nn k) (nn st) x3 (nn U.length) (nn b) 1 Sr = xcI (f_X12_sign N 61 (sI Sr 503 20 (nn (t + 1)))) (fun v105 S104 => if v105 = 0 then some (.inl (some (.inl 0)), S104) else if nn st = 0 then xcI (f_X12_inline N S104) (fun v109 S108 => if v109 = 0 then some (.inl (some (.inl 0)), S108) else if xin (nn U.length) 8 then f_X12_puts_150 N (f_X12_puts_23 N n) (nn k) (nn st) x3 (nn U.length) (nn (b ||| 2 ^ f)) (sI S108 525 (nn U.length).toNatClampNeg (nn f)) else none) else xcV (f_X12_emit N (nn f) S104) (fun S112 => xcI (f_X12_measured N (nn k) S112) (fun v115 S114 => if v115 = 0 then some (.inl (some (.inl 0)), S114) else f_X12_puts_150 N (f_X12_puts_23 N n) (nn k) (nn st) x3 (nn U.length) (nn (b ||| 2 ^ f)) S114))) := fun n x3 => by
          rw [hrf, xcI_of f2, f_X12_puts_59, if_neg (by simp (disch := omega) only [nn_add, nn_addl, l_add_nn, nn_sub, nn_subl, nn_m1, nn_mull, nn_t, nn_i, l_t, nn_lt, nn_le, nn_eq, nn_ltl, l_lt_nn, nn_lel, l_le_nn, nn_eql, l_eql, nn_nm1, xin_nn, xin_l, m1_lt, m1_le, m1_p, m1_z, dlt_T, dlt_F, dle_T, dle_F, deq_T, deq_F, sI_c, sI_n, sI_J, sI_E, sJ_c, sJ_n, sJ_I, sJ_E, sE_I, sE_J, sE_E, xcI_i, xcJ_i, xcR_i, xcV_i, xcI_e, xcJ_e, xcR_e, xcV_e, if_true, if_false, ite_true, ite_false, true_and, and_true, false_and, and_false, or_true, true_or, or_false, false_or, not_true_eq_false, not_false_eq_true, eq_self, ne_eq, ↓reduceIte, Nat.reduceEqDiff, Nat.reduceLT, Nat.reduceLeDiff, Nat.reduceAdd, Nat.reduceMul, Nat.reduceSub, Int32.reduceLT, Int32.reduceLE, reduceCtorEq]), if_neg (fun z => ht0 (a2.mp z)), h20, nn_addl, a3]
        rcases MI_sign (N := N) m1 21 (x := 21) (c := 61) rfl rfl (by decide) (by decide) with ⟨r1, r2, r3, r4, m2⟩ | ⟨r3, r4, r5⟩
        · have hU6 := pc6_le b
          rcases hst with ⟨rfl, rfl⟩ | ⟨rfl, rfl⟩
          · rcases MI_inl hN m2 (by omega) (by omega) with ⟨t2, nv2, E, np2, Sc2, Sr2, q1, q2, q3, q4, q5, q6⟩ | ⟨Sc2, Sr2, q4, q5, q6⟩
            · have q4 : f_X1_read N (nn 0) _ = _ := q4
              obtain ⟨p1, m3⟩ := MI_put (N := N) q6 f np (by omega)
              have m4 := MI_main m3 f
              refine Or.inl ⟨t2, nv2, f, E, np2, _, _, by omega, q2, q3, by omega, hf, htf, fun kk => ?_, fun n x3 => ?_, m4⟩
              · rw [hcl2, xcV_of r3, xcI_of q4, xcV_of p1]
              · rw [hrf2, xcI_of r4, if_neg (by decide), if_pos (show nn 0 = 0 from rfl), xcI_of q5, if_neg (by decide), if_pos ((xin_nn (by omega)).mpr (by omega)), nn_t (by omega), hM rfl]
            · have q4 : f_X1_read N (nn 0) _ = _ := q4
              refine Or.inr ⟨Sc2, Sr2, fun kk => ?_, fun n x3 => ?_, q6⟩
              · rw [hcl2, xcV_of r3, xcI_oe q4]
              · rw [hrf2, xcI_of r4, if_neg (by decide), if_pos (show nn 0 = 0 from rfl), xcI_of q5, if_pos rfl]
          · obtain ⟨e2, m3⟩ := MI_em (N := N) (v := nn f) m2 (by omega)
            have hre : recI (k + 1) = nn k := by unfold recI; rw [if_neg (by omega), Nat.add_sub_cancel]
            rcases MI_meas (N := N) (rk0 := k + 1) hN m3 (by omega) (by rw [List.length_append, List.length_singleton]; omega) hk with ⟨t2, nv2, E, np2, Sc2, Sr2, q1, q2, q3, q4, q5, q6⟩ | ⟨Sc2, Sr2, q4, q5, q6⟩
            · rw [hre] at q5
              rw [show L ++ [nn f] ++ nn (cE E).length :: cE E = L ++ cpu 1 f E by unfold cpu; simp] at q3 q6
              obtain ⟨p1, m4⟩ := MI_put (N := N) q6 f np (by omega)
              refine Or.inl ⟨t2, nv2, f, E, np2, _, _, by omega, q2, q3, by omega, hf, htf, fun kk => ?_, fun n x3 => ?_, m4⟩
              · rw [hcl2, xcV_of r3, xcI_of q4, xcV_of p1]
              · rw [hrf2, xcI_of r4, if_neg (by decide), if_neg (by decide), xcV_of e2, xcI_of q5, if_neg (by decide)]
            · rw [hre] at q5
              refine Or.inr ⟨Sc2, Sr2, fun kk => ?_, fun n x3 => ?_, q6⟩
              · rw [hcl2, xcV_of r3, xcI_oe q4]
              · rw [hrf2, xcI_of r4, if_neg (by decide), if_neg (by decide), xcV_of e2, xcI_of q5, if_pos rfl]
        · refine Or.inr ⟨_, _, fun kk => ?_, fun n x3 => ?_, r5⟩
          · rw [hcl2, xcV_oe r3]
          · rw [hrf2, xcI_of r4, if_pos rfl]
    · refine Or.inr ⟨sE Sc, badR Sr s t, fun kk => ?_, fun n x3 => ?_, p_bad hP⟩
      · rw [hcl, xcI_of f1, if_pos rfl]
        rfl
      · rw [hrf, xcI_of f2, f_X12_puts_59, if_pos (by decide), n77]
  · have n1 : ¬ tkr (s t) = 1 := fun z => h4 ((tkr_1 hl).mp z)
    refine Or.inr ⟨sE Sc, badR Sr s t, fun kk => ?_, fun n x3 => ?_, p_bad hP⟩
    · unfold f_X6_puts_40
      rw [if_pos xs, p_name0 hP h4, xcJ_i, hZ2, xcI_of (p_field0 (by omega) (by omega) hkd), if_pos rfl]
      rfl
    · rw [f_X12_puts_23.eq_2, if_neg (by decide), h20, if_pos ((xin_nn (by omega)).mpr (by omega)), nn_t (by omega), b2, if_neg (by simp (disch := omega) only [nn_add, nn_addl, l_add_nn, nn_sub, nn_subl, nn_m1, nn_mull, nn_t, nn_i, l_t, nn_lt, nn_le, nn_eq, nn_ltl, l_lt_nn, nn_lel, l_le_nn, nn_eql, l_eql, nn_nm1, xin_nn, xin_l, m1_lt, m1_le, m1_p, m1_z, dlt_T, dlt_F, dle_T, dle_F, deq_T, deq_F, sI_c, sI_n, sI_J, sI_E, sJ_c, sJ_n, sJ_I, sJ_E, sE_I, sE_J, sE_E, xcI_i, xcJ_i, xcR_i, xcV_i, xcI_e, xcJ_e, xcR_e, xcV_e, if_true, if_false, ite_true, ite_false, true_and, and_true, false_and, and_false, or_true, true_or, or_false, false_or, not_true_eq_false, not_false_eq_true, eq_self, ne_eq, ↓reduceIte, Nat.reduceEqDiff, Nat.reduceLT, Nat.reduceLeDiff, Nat.reduceAdd, Nat.reduceMul, Nat.reduceSub, Int32.reduceLT, Int32.reduceLE, reduceCtorEq]), f_X12_puts_59, if_pos (by decide), n77]
theorem p_puts_l (hN : 1000 < N) (hst : (st = 0 ∧ rk0 = 0) ∨ (st = 1 ∧ rk0 = k + 1)) (hk : k < nk) (hZ : Z 1 = nn (k + 1)) (x3 : Int32) : ∀ (j t nv b np : Nat) (L : List Int32) (X : List xX) (U : List (Nat × Nat)) (M : List Nat) (Sc Sr : xS) (n1 n2 : Nat), MI S0 R0 Sc Sr m s t nk nv wd nb ns ty op kd A np0 nu0 np Z L X U M → U.length + j = 7 → b < 64 → (st = 0 → M.length = U.length) → U.length = pc6 b → A ns + L.length + 3 ≤ 12 * t → nu0 + U.length + 1 ≤ t → j < n1 → j < n2 →
    (∃ (t2 nv2 np2 : Nat) (V : List xV) (X2 : List xX) (M2 : List Nat) (n3 : Nat) (b2 : Int32) (Sc2 Sr2 : xS), t < t2 ∧ nv ≤ nv2 ∧ A ns + (L ++ V.flatMap (fun v => cpu st v.1 v.2.2)).length ≤ 12 * t2 ∧ V.length + U.length ≤ 6 ∧ f_X6_puts_40 N (f_X6_puts_16 N n1) (102 + 2 * ns) (nn rk0) (nn b) (nn U.length) Sc = f_X6_puts_129 N (102 + 2 * ns) Sc2 ∧ f_X12_puts_23 N n2 (nn k) (nn st) x3 (nn U.length) (nn b) 1 Sr = f_X12_puts_23 N (n3 + 1) (nn k) (nn st) x3 (nn (U.length + V.length)) b2 0 Sr2 ∧ MI S0 R0 Sc2 Sr2 m s t2 nk nv2 wd nb ns ty op kd A np0 nu0 np2 Z (L ++ V.flatMap (fun v => cpu st v.1 v.2.2)) X2 (U ++ V.map uf) M2 ∧ (∀ v ∈ V, v.1 < wd k ∧ (rk0, v.2.1, v.2.2) ∈ X2) ∧ (∀ x ∈ X, x ∈ X2) ∧ (st = 0 → M2 = M ++ V.map (fun v => v.1))) ∨
    (∃ Sc2 Sr2, f_X6_puts_40 N (f_X6_puts_16 N n1) (102 + 2 * ns) (nn rk0) (nn b) (nn U.length) Sc = some (rA Sc2) ∧ f_X12_puts_23 N n2 (nn k) (nn st) x3 (nn U.length) (nn b) 1 Sr = some (rI 0 Sr2) ∧ r_bad Sc2 Sr2 m s nk nv wd) := by
  intro j
  induction j with
  | zero =>
    intro t nv b np L X U M Sc Sr n1 n2 h hj hb hM hpc
    have := pc6_le b
    omega
  | succ j ih =>
    intro t nv b np L X U M Sc Sr n1 n2 h hj hb hM hpc hc hu hn1 hn2
    obtain ⟨n1, rfl⟩ := Nat.exists_eq_succ_of_ne_zero (Nat.ne_of_gt (Nat.zero_lt_of_lt hn1))
    obtain ⟨n2, rfl⟩ := Nat.exists_eq_succ_of_ne_zero (Nat.ne_of_gt (Nat.zero_lt_of_lt hn2))
    obtain ⟨d1, d2, d3, d4⟩ := MI_np h
    rcases p_put1 hN hst hk h b hb hM hpc hZ d1 hc hu with ⟨t2, nv2, f, E, np2, Sc2, Sr2, q1, q2, q3, q4, q5, q6, q7, q8, q9⟩ | ⟨Sc2, Sr2, q1, q2, q3⟩
    · obtain ⟨a3, a4⟩ := msk_c b hb f q4
      have a5 := msk_d b hb f q4 q6
      have a6 := pc6_le (b ||| 2 ^ f)
      have hU2 : (U ++ [(f, np)]).length = U.length + 1 := by rw [List.length_append, List.length_singleton]
      obtain ⟨g1, g2, g3, g4⟩ := MI_np q9
      have q7' := q7 (f_X6_puts_16 N (n1 + 1))
      have q8' := q8 n2 x3
      have hcl : f_X6_puts_16 N (n1 + 1) (102 + 2 * ns) (nn rk0) (nn (b ||| 2 ^ f)) (nn (U.length + 1)) Sc2 = xcI (f_X9_passed N 33 Sc2) (fun v64 S63 => if v64 = 0 then f_X6_puts_129 N (102 + 2 * ns) S63 else f_X6_puts_40 N (f_X6_puts_16 N n1) (102 + 2 * ns) (nn rk0) (nn (b ||| 2 ^ f)) (nn (U.length + 1)) S63) := by
        rw [f_X6_puts_16.eq_2, if_neg (by simp (disch := omega) only [nn_add, nn_addl, l_add_nn, nn_sub, nn_subl, nn_m1, nn_mull, nn_t, nn_i, l_t, nn_lt, nn_le, nn_eq, nn_ltl, l_lt_nn, nn_lel, l_le_nn, nn_eql, l_eql, nn_nm1, xin_nn, xin_l, m1_lt, m1_le, m1_p, m1_z, dlt_T, dlt_F, dle_T, dle_F, deq_T, deq_F, sI_c, sI_n, sI_J, sI_E, sJ_c, sJ_n, sJ_I, sJ_E, sE_I, sE_J, sE_E, xcI_i, xcJ_i, xcR_i, xcV_i, xcI_e, xcJ_e, xcR_e, xcV_e, if_true, if_false, ite_true, ite_false, true_and, and_true, false_and, and_false, or_true, true_or, or_false, false_or, not_true_eq_false, not_false_eq_true, eq_self, ne_eq, ↓reduceIte, Nat.reduceEqDiff, Nat.reduceLT, Nat.reduceLeDiff, Nat.reduceAdd, Nat.reduceMul, Nat.reduceSub, Int32.reduceLT, Int32.reduceLE, reduceCtorEq]), if_neg (by simp (disch := omega) only [nn_add, nn_addl, l_add_nn, nn_sub, nn_subl, nn_m1, nn_mull, nn_t, nn_i, l_t, nn_lt, nn_le, nn_eq, nn_ltl, l_lt_nn, nn_lel, l_le_nn, nn_eql, l_eql, nn_nm1, xin_nn, xin_l, m1_lt, m1_le, m1_p, m1_z, dlt_T, dlt_F, dle_T, dle_F, deq_T, deq_F, sI_c, sI_n, sI_J, sI_E, sJ_c, sJ_n, sJ_I, sJ_E, sE_I, sE_J, sE_E, xcI_i, xcJ_i, xcR_i, xcV_i, xcI_e, xcJ_e, xcR_e, xcV_e, if_true, if_false, ite_true, ite_false, true_and, and_true, false_and, and_false, or_true, true_or, or_false, false_or, not_true_eq_false, not_false_eq_true, eq_self, ne_eq, ↓reduceIte, Nat.reduceEqDiff, Nat.reduceLT, Nat.reduceLeDiff, Nat.reduceAdd, Nat.reduceMul, Nat.reduceSub, Int32.reduceLT, Int32.reduceLE, reduceCtorEq])]
      by_cases h33 : s t2 = 33
      · have ht2 := q9.1.lt (by omega) (by omega)
        have m2 := MI_n q9 ht2
        have ih' := ih (t2 + 1) nv2 (b ||| 2 ^ f) np2 _ _ _ _ _ _ n1 n2 m2 (by rw [hU2]; omega) a4 (fun z => by subst z; rw [if_pos rfl, List.length_append, hU2, hM rfl]; rfl) (by rw [hU2]; omega) (by omega) (by rw [hU2]; omega) (by omega) (by omega)
        rw [hU2] at ih'
        have hc1 : f_X6_puts_40 N (f_X6_puts_16 N (n1 + 1)) (102 + 2 * ns) (nn rk0) (nn b) (nn U.length) Sc = f_X6_puts_40 N (f_X6_puts_16 N n1) (102 + 2 * ns) (nn rk0) (nn (b ||| 2 ^ f)) (nn (U.length + 1)) (sI Sc2 1 7 (nn (t2 + 1))) := by
          rw [q7', hcl, xcI_of (p_passed1 (N := N) q9.1 (k := 33) (x := 33) rfl (by decide) h33), if_neg (by decide)]
        have hr1 : f_X12_puts_23 N (n2 + 1) (nn k) (nn st) x3 (nn U.length) (nn b) 1 Sr = f_X12_puts_23 N n2 (nn k) (nn st) x3 (nn (U.length + 1)) (nn (b ||| 2 ^ f)) 1 (sI Sr2 503 20 (nn (t2 + 1))) := by
          rw [q8', f_X12_puts_150, xcI_of (p_isSign1 (N := N) q9.1 33 (c := 44) rfl (by decide) (by decide) h33), if_neg (by decide), q9.1.2.2.2.1, nn_addl, nn_addl]
          rfl
        rcases ih' with ⟨t3, nv3, np3, V, X3, M3, n3, b3, Sc3, Sr3, l1, l2, l3, l4, l5, l6, l7, l8, l9, l10⟩ | ⟨Sc3, Sr3, l5, l6, l7⟩
        · refine Or.inl ⟨t3, nv3, np3, (f, np, E) :: V, X3, M3, n3, b3, Sc3, Sr3, by omega, by omega, ?_, by rw [List.length_cons]; omega, by show f_X6_puts_40 N (f_X6_puts_16 N (n1 + 1)) (102 + 2 * ns) (nn rk0) (nn b) (nn U.length) Sc = _; rw [hc1]; exact l5, ?_, ?_, ?_, fun x hx => l9 x (List.mem_cons_of_mem _ hx), ?_⟩
          · rw [List.flatMap_cons, ← List.append_assoc]; exact l3
          · show f_X12_puts_23 N (n2 + 1) (nn k) (nn st) x3 (nn U.length) (nn b) 1 Sr = _
            rw [hr1, l6, List.length_cons, show U.length + 1 + V.length = U.length + (V.length + 1) by omega]
          · rw [List.flatMap_cons, ← List.append_assoc, List.map_cons, show U ++ uf (f, np, E) :: V.map uf = U ++ [(f, np)] ++ V.map uf by unfold uf; simp]; exact l7
          · intro v hv
            rcases List.mem_cons.mp hv with z | z
            · rw [z]; exact ⟨q5, l9 _ List.mem_cons_self⟩
            · exact l8 v z
          · intro z
            rw [l10 z, if_pos z, List.map_cons]
            simp
        · refine Or.inr ⟨Sc3, Sr3, ?_, ?_, r_bad_v l7 q2⟩
          · show f_X6_puts_40 N (f_X6_puts_16 N (n1 + 1)) (102 + 2 * ns) (nn rk0) (nn b) (nn U.length) Sc = _
            rw [hc1]; exact l5
          · show f_X12_puts_23 N (n2 + 1) (nn k) (nn st) x3 (nn U.length) (nn b) 1 Sr = _
            rw [hr1]; exact l6
      · obtain ⟨n2, rfl⟩ := Nat.exists_eq_succ_of_ne_zero (show n2 ≠ 0 by omega)
        refine Or.inl ⟨t2, nv2, np2, [(f, np, E)], _, _, n2, nn (b ||| 2 ^ f), Sc2, Sr2, q1, q2, by simpa using q3, by rw [List.length_singleton]; omega, ?_, ?_, by simpa [uf] using q9, ?_, fun x hx => List.mem_cons_of_mem _ hx, ?_⟩
        · show f_X6_puts_40 N (f_X6_puts_16 N (n1 + 1)) (102 + 2 * ns) (nn rk0) (nn b) (nn U.length) Sc = _
          rw [q7', hcl, xcI_of (p_passed0 (N := N) q9.1 (k := 33) (x := 33) rfl (by decide) h33), if_pos rfl, sI_id q9.1.2.2.1]
        · show f_X12_puts_23 N (n2 + 1 + 1) (nn k) (nn st) x3 (nn U.length) (nn b) 1 Sr = _
          rw [q8', f_X12_puts_150, xcI_of (p_isSign0 (N := N) q9.1 33 (c := 44) rfl (by decide) (by decide) h33), if_pos rfl, nn_addl, List.length_singleton]
          rfl
        · intro v hv
          rw [List.mem_singleton.mp hv]
          exact ⟨q5, List.mem_cons_self⟩
        · intro z
          rw [if_pos z]
          rfl
    · exact Or.inr ⟨Sc2, Sr2, q1 _, q2 n2 x3, q3⟩
end PU
