/-! 32: names in two bases -/
def vr (b : Nat) : List Nat → Nat
  | [] => 0
  | d :: L => b * vr b L + d
def lets (L : List Nat) : Prop := ∀ d ∈ L, 1 ≤ d ∧ d ≤ 26
theorem lets_c {d : Nat} {L : List Nat} (h : lets (d :: L)) : 1 ≤ d ∧ d ≤ 26 ∧ lets L := ⟨(h d List.mem_cons_self).1, (h d List.mem_cons_self).2, fun x hx => h x (List.mem_cons_of_mem _ hx)⟩
theorem vr_inj {b : Nat} (hb : 27 ≤ b) : ∀ L L2 : List Nat, lets L → lets L2 → vr b L = vr b L2 → L = L2 := by
  intro L
  induction L with
  | nil =>
    intro L2 _ h2 h
    cases L2 with
    | nil => rfl
    | cons d L2 =>
      have := (lets_c h2).1
      simp only [vr] at h
      omega
  | cons d L ih =>
    intro L2 h1 h2 h
    cases L2 with
    | nil =>
      have := (lets_c h1).1
      simp only [vr] at h
      omega
    | cons d2 L2 =>
      obtain ⟨a1, a2, a3⟩ := lets_c h1
      obtain ⟨b1, b2, b3⟩ := lets_c h2
      simp only [vr] at h
      have hm : (b * vr b L + d) % b = (b * vr b L2 + d2) % b := by rw [h]
      rw [Nat.mul_add_mod, Nat.mul_add_mod, Nat.mod_eq_of_lt (by omega), Nat.mod_eq_of_lt (by omega)] at hm
      subst hm
      have h3 : b * vr b L = b * vr b L2 := by omega
      rw [ih L2 a3 b3 (Nat.eq_of_mul_eq_mul_left (by omega) h3)]
theorem vr_lt {b : Nat} (hb : 27 ≤ b) : ∀ L : List Nat, lets L → vr b L < b ^ L.length := by
  intro L
  induction L with
  | nil => intro _; simp [vr]
  | cons d L ih =>
    intro h
    obtain ⟨a1, a2, a3⟩ := lets_c h
    have := ih a3
    simp only [vr, List.length_cons, Nat.pow_succ]
    have h1 : b * (vr b L + 1) ≤ b * b ^ L.length := Nat.mul_le_mul_left _ this
    rw [Nat.mul_add] at h1
    rw [Nat.mul_comm (b ^ L.length)]
    omega
theorem vr_lt8 {b : Nat} (hb : 27 ≤ b) (hb2 : b ≤ 32) {L : List Nat} (h : lets L) (hl : L.length ≤ 8) : vr b L < 1099511627776 := by
  have h1 := vr_lt hb L h
  have h2 : b ^ L.length ≤ b ^ 8 := Nat.pow_le_pow_right (by omega) hl
  have h3 : b ^ 8 ≤ 32 ^ 8 := Nat.pow_le_pow_left hb2 8
  omega
theorem vr_pos {b : Nat} (hb : 27 ≤ b) {L : List Nat} (h : lets L) (hn : L ≠ []) : 0 < vr b L := by
  cases L with
  | nil => exact absurd rfl hn
  | cons d L =>
    have := (lets_c h).1
    simp only [vr]
    omega
def ll (a : Nat) : Int64 := Int64.ofNat a
theorem ll_i {a : Nat} (h : a < 9223372036854775808) : (ll a).toInt = a := Int64.toInt_ofNat_of_lt h
theorem ll_eq {a b : Nat} (h : a < 9223372036854775808) (h2 : b < 9223372036854775808) : (ll a = ll b) ↔ a = b := by
  rw [← Int64.toInt_inj, ll_i h, ll_i h2]; omega
theorem ll_lt {a b : Nat} (h : a < 9223372036854775808) (h2 : b < 9223372036854775808) : (ll a < ll b) ↔ a < b := by
  rw [Int64.lt_iff_toInt_lt, ll_i h, ll_i h2]; omega
theorem ll_le {a b : Nat} (h : a < 9223372036854775808) (h2 : b < 9223372036854775808) : (ll a ≤ ll b) ↔ a ≤ b := by
  rw [Int64.le_iff_toInt_le, ll_i h, ll_i h2]; omega
theorem nn_ll {a : Nat} (h : a < 2147483648) : (nn a).toInt64 = ll a := by
  unfold nn ll
  exact Int32.toInt64_ofNat' (by rw [Int32.toInt_maxValue]; omega)
theorem ll_nn (a : Nat) : (ll a).toInt32 = nn a := Int64.toInt32_ofNat'
/-- a name: the class's number and the reference's -/
def NmR (x y : Int64) : Prop := ∃ L : List Nat, L ≠ [] ∧ L.length ≤ 8 ∧ lets L ∧ x = ll (vr 32 L) ∧ y = ll (vr 27 L)
theorem NmR_iff {x y x2 y2 : Int64} (h : NmR x y) (h2 : NmR x2 y2) : x = x2 ↔ y = y2 := by
  obtain ⟨L, a1, a2, a3, rfl, rfl⟩ := h
  obtain ⟨M, b1, b2, b3, rfl, rfl⟩ := h2
  have c1 := vr_lt8 (b := 32) (by decide) (by decide) a3 a2
  have c2 := vr_lt8 (b := 32) (by decide) (by decide) b3 b2
  have c3 := vr_lt8 (b := 27) (by decide) (by decide) a3 a2
  have c4 := vr_lt8 (b := 27) (by decide) (by decide) b3 b2
  rw [ll_eq (by omega) (by omega), ll_eq (by omega) (by omega)]
  exact ⟨fun e => by rw [vr_inj (by decide) L M a3 b3 e], fun e => by rw [vr_inj (by decide) L M a3 b3 e]⟩
theorem NmR_nz {x y : Int64} (h : NmR x y) : ¬ x = 0 := by
  obtain ⟨L, a1, a2, a3, rfl, rfl⟩ := h
  have c1 := vr_lt8 (b := 32) (by decide) (by decide) a3 a2
  have c2 := vr_pos (b := 32) (by decide) a3 a1
  rw [show (0 : Int64) = ll 0 from rfl, ll_eq (by omega) (by omega)]
  omega
/-- a kind's fields -/
def r_kd (Sc Sr : xS) (k wd : Nat) : Prop := wd ≤ 6 ∧ Sc.1 9 (k + 1) = nn wd ∧ Sr.1 506 k = nn wd ∧ ∀ f, f < wd → NmR (Sc.2.1 (11 + (k + 1)) f) (Sr.2.1 507 (6 * k + f)) ∧ ∃ b, 1 ≤ b ∧ b ≤ 32 ∧ Sc.1 (20 + (k + 1)) f = ((ll (2 ^ b - 1)).toInt32) ∧ Sr.1 508 (6 * k + f) = nn b
def r_nm (Sc Sr : xS) (nk nv : Nat) : Prop := nk ≤ 7 ∧ nv ≤ 20 ∧ (∀ k, k < nk → NmR (Sc.2.1 8 (k + 1)) (Sr.2.1 505 k)) ∧ (∀ k, k < nk → ∃ wd, r_kd Sc Sr k wd) ∧ (∀ v, v < nv → NmR (Sc.2.1 28 v) (Sr.2.1 509 v))
theorem p_kind_l {Sc Sr : xS} {N nk : Nat} {x y : Int64} (hn : nk ≤ 7) (h : ∀ k, k < nk → NmR (Sc.2.1 8 (k + 1)) (Sr.2.1 505 k)) (c1 : Sc.1 7 5 = nn nk) (c2 : Sr.1 503 3 = nn nk) (hx : NmR x y) : ∀ (d i m m2 : Nat), i + d = nk → d < m → d < m2 →
    (∃ k, k < nk ∧ f_X3_kind_2 N m x (nn (i + 1)) Sc = some (rI (nn (k + 1)) Sc) ∧ f_X12_kindOf_2 N m2 y (nn i) Sr = some (rI (nn k) Sr)) ∨ (f_X3_kind_2 N m x (nn (i + 1)) Sc = some (rI 0 Sc) ∧ f_X12_kindOf_2 N m2 y (nn i) Sr = some (rI (-1) Sr)) := by
  intro d
  induction d with
  | zero =>
    intro i m m2 hi hm hm2
    obtain ⟨m, rfl⟩ := Nat.exists_eq_succ_of_ne_zero (Nat.ne_of_gt (Nat.zero_lt_of_lt hm))
    obtain ⟨m2, rfl⟩ := Nat.exists_eq_succ_of_ne_zero (Nat.ne_of_gt (Nat.zero_lt_of_lt hm2))
    refine Or.inr ⟨?_, ?_⟩
    · rw [f_X3_kind_2.eq_2, c1]; simp (disch := omega) only [nn_add, nn_addl, l_add_nn, nn_sub, nn_subl, nn_m1, nn_mull, nn_t, nn_i, l_t, nn_lt, nn_le, nn_eq, nn_ltl, l_lt_nn, nn_lel, l_le_nn, nn_eql, l_eql, nn_nm1, xin_nn, xin_l, m1_lt, m1_le, m1_p, m1_z, dlt_T, dlt_F, dle_T, dle_F, deq_T, deq_F, sI_c, sI_n, sI_J, sI_E, sJ_c, sJ_n, sJ_I, sJ_E, sE_I, sE_J, sE_E, xcI_i, xcJ_i, xcR_i, xcV_i, xcI_e, xcJ_e, xcR_e, xcV_e, if_true, if_false, ite_true, ite_false, true_and, and_true, false_and, and_false, or_true, true_or, or_false, false_or, not_true_eq_false, not_false_eq_true, eq_self, ne_eq, ↓reduceIte, Nat.reduceEqDiff, Nat.reduceLT, Nat.reduceLeDiff, Nat.reduceAdd, Nat.reduceMul, Nat.reduceSub, Int32.reduceLT, Int32.reduceLE, reduceCtorEq]
    · rw [f_X12_kindOf_2.eq_2, c2]; simp (disch := omega) only [nn_add, nn_addl, l_add_nn, nn_sub, nn_subl, nn_m1, nn_mull, nn_t, nn_i, l_t, nn_lt, nn_le, nn_eq, nn_ltl, l_lt_nn, nn_lel, l_le_nn, nn_eql, l_eql, nn_nm1, xin_nn, xin_l, m1_lt, m1_le, m1_p, m1_z, dlt_T, dlt_F, dle_T, dle_F, deq_T, deq_F, sI_c, sI_n, sI_J, sI_E, sJ_c, sJ_n, sJ_I, sJ_E, sE_I, sE_J, sE_E, xcI_i, xcJ_i, xcR_i, xcV_i, xcI_e, xcJ_e, xcR_e, xcV_e, if_true, if_false, ite_true, ite_false, true_and, and_true, false_and, and_false, or_true, true_or, or_false, false_or, not_true_eq_false, not_false_eq_true, eq_self, ne_eq, ↓reduceIte, Nat.reduceEqDiff, Nat.reduceLT, Nat.reduceLeDiff, Nat.reduceAdd, Nat.reduceMul, Nat.reduceSub, Int32.reduceLT, Int32.reduceLE, reduceCtorEq]
  | succ d ih =>
    intro i m m2 hi hm hm2
    obtain ⟨m, rfl⟩ := Nat.exists_eq_succ_of_ne_zero (Nat.ne_of_gt (Nat.zero_lt_of_lt hm))
    obtain ⟨m2, rfl⟩ := Nat.exists_eq_succ_of_ne_zero (Nat.ne_of_gt (Nat.zero_lt_of_lt hm2))
    rw [f_X3_kind_2.eq_2, f_X12_kindOf_2.eq_2, c1, c2]
    simp (disch := omega) only [nn_add, nn_addl, l_add_nn, nn_sub, nn_subl, nn_m1, nn_mull, nn_t, nn_i, l_t, nn_lt, nn_le, nn_eq, nn_ltl, l_lt_nn, nn_lel, l_le_nn, nn_eql, l_eql, nn_nm1, xin_nn, xin_l, m1_lt, m1_le, m1_p, m1_z, dlt_T, dlt_F, dle_T, dle_F, deq_T, deq_F, sI_c, sI_n, sI_J, sI_E, sJ_c, sJ_n, sJ_I, sJ_E, sE_I, sE_J, sE_E, xcI_i, xcJ_i, xcR_i, xcV_i, xcI_e, xcJ_e, xcR_e, xcV_e, if_true, if_false, ite_true, ite_false, true_and, and_true, false_and, and_false, or_true, true_or, or_false, false_or, not_true_eq_false, not_false_eq_true, eq_self, ne_eq, ↓reduceIte, Nat.reduceEqDiff, Nat.reduceLT, Nat.reduceLeDiff, Nat.reduceAdd, Nat.reduceMul, Nat.reduceSub, Int32.reduceLT, Int32.reduceLE, reduceCtorEq, lg_cmp_eq]
    have hI := NmR_iff (h i (by omega)) hx
    by_cases he : Sc.2.1 8 (i + 1) = x
    · rw [if_pos he, if_pos (hI.mp he)]
      exact Or.inl ⟨i, by omega, rfl, rfl⟩
    · rw [if_neg he, if_neg (fun z => he (hI.mpr z))]
      exact ih (i + 1) m m2 (by omega) (by omega) (by omega)
theorem p_kind {Sc Sr : xS} {N nk nv : Nat} {x y : Int64} (hN : 100 < N) (h : r_nm Sc Sr nk nv) (c1 : Sc.1 7 5 = nn nk) (c2 : Sr.1 503 3 = nn nk) (hx : NmR x y) :
    (∃ k, k < nk ∧ f_X3_kind N x Sc = some (rI (nn (k + 1)) Sc) ∧ f_X12_kindOf N y Sr = some (rI (nn k) Sr)) ∨ (f_X3_kind N x Sc = some (rI 0 Sc) ∧ f_X12_kindOf N y Sr = some (rI (-1) Sr)) :=
  p_kind_l h.1 h.2.2.1 c1 c2 hx nk 0 N N (by omega) (by have := h.1; omega) (by have := h.1; omega)
theorem p_kind0_l {Sc Sr : xS} {N nk : Nat} (hn : nk ≤ 7) (h : ∀ k, k < nk → NmR (Sc.2.1 8 (k + 1)) (Sr.2.1 505 k)) (c1 : Sc.1 7 5 = nn nk) : ∀ (d i m : Nat), i + d = nk → d < m → f_X3_kind_2 N m 0 (nn (i + 1)) Sc = some (rI 0 Sc) := by
  intro d
  induction d with
  | zero =>
    intro i m hi hm
    obtain ⟨m, rfl⟩ := Nat.exists_eq_succ_of_ne_zero (Nat.ne_of_gt (Nat.zero_lt_of_lt hm))
    rw [f_X3_kind_2.eq_2, c1]; simp (disch := omega) only [nn_add, nn_addl, l_add_nn, nn_sub, nn_subl, nn_m1, nn_mull, nn_t, nn_i, l_t, nn_lt, nn_le, nn_eq, nn_ltl, l_lt_nn, nn_lel, l_le_nn, nn_eql, l_eql, nn_nm1, xin_nn, xin_l, m1_lt, m1_le, m1_p, m1_z, dlt_T, dlt_F, dle_T, dle_F, deq_T, deq_F, sI_c, sI_n, sI_J, sI_E, sJ_c, sJ_n, sJ_I, sJ_E, sE_I, sE_J, sE_E, xcI_i, xcJ_i, xcR_i, xcV_i, xcI_e, xcJ_e, xcR_e, xcV_e, if_true, if_false, ite_true, ite_false, true_and, and_true, false_and, and_false, or_true, true_or, or_false, false_or, not_true_eq_false, not_false_eq_true, eq_self, ne_eq, ↓reduceIte, Nat.reduceEqDiff, Nat.reduceLT, Nat.reduceLeDiff, Nat.reduceAdd, Nat.reduceMul, Nat.reduceSub, Int32.reduceLT, Int32.reduceLE, reduceCtorEq]
  | succ d ih =>
    intro i m hi hm
    obtain ⟨m, rfl⟩ := Nat.exists_eq_succ_of_ne_zero (Nat.ne_of_gt (Nat.zero_lt_of_lt hm))
    rw [f_X3_kind_2.eq_2, c1]
    simp (disch := omega) only [nn_add, nn_addl, l_add_nn, nn_sub, nn_subl, nn_m1, nn_mull, nn_t, nn_i, l_t, nn_lt, nn_le, nn_eq, nn_ltl, l_lt_nn, nn_lel, l_le_nn, nn_eql, l_eql, nn_nm1, xin_nn, xin_l, m1_lt, m1_le, m1_p, m1_z, dlt_T, dlt_F, dle_T, dle_F, deq_T, deq_F, sI_c, sI_n, sI_J, sI_E, sJ_c, sJ_n, sJ_I, sJ_E, sE_I, sE_J, sE_E, xcI_i, xcJ_i, xcR_i, xcV_i, xcI_e, xcJ_e, xcR_e, xcV_e, if_true, if_false, ite_true, ite_false, true_and, and_true, false_and, and_false, or_true, true_or, or_false, false_or, not_true_eq_false, not_false_eq_true, eq_self, ne_eq, ↓reduceIte, Nat.reduceEqDiff, Nat.reduceLT, Nat.reduceLeDiff, Nat.reduceAdd, Nat.reduceMul, Nat.reduceSub, Int32.reduceLT, Int32.reduceLE, reduceCtorEq, lg_cmp_eq]
    rw [if_neg (NmR_nz (h i (by omega)))]
    exact ih (i + 1) m (by omega) (by omega)
theorem p_kind0 {Sc Sr : xS} {N nk nv : Nat} (hN : 100 < N) (h : r_nm Sc Sr nk nv) (c1 : Sc.1 7 5 = nn nk) : f_X3_kind N 0 Sc = some (rI 0 Sc) :=
  p_kind0_l h.1 h.2.2.1 c1 nk 0 N (by omega) (by have := h.1; omega)
theorem p_field_l {Sc Sr : xS} {N k wd : Nat} {x y : Int64} (hk : k < 7) (h : r_kd Sc Sr k wd) (hx : NmR x y) : ∀ (d i m m2 : Nat), i + d = wd → d < m → d < m2 →
    (∃ f, f < wd ∧ f_X3_field_3 N m (nn (k + 1)) x (nn i) Sc = some (rI (nn f) Sc) ∧ f_X12_fieldOf_3 N m2 (nn k) y (nn i) Sr = some (rI (nn f) Sr)) ∨ (f_X3_field_3 N m (nn (k + 1)) x (nn i) Sc = some (rI (-1) Sc) ∧ f_X12_fieldOf_3 N m2 (nn k) y (nn i) Sr = some (rI (-1) Sr)) := by
  obtain ⟨h1, h2, h3, h4⟩ := h
  intro d
  induction d with
  | zero =>
    intro i m m2 hi hm hm2
    obtain ⟨m, rfl⟩ := Nat.exists_eq_succ_of_ne_zero (Nat.ne_of_gt (Nat.zero_lt_of_lt hm))
    obtain ⟨m2, rfl⟩ := Nat.exists_eq_succ_of_ne_zero (Nat.ne_of_gt (Nat.zero_lt_of_lt hm2))
    refine Or.inr ⟨?_, ?_⟩
    · rw [f_X3_field_3.eq_2]; simp (disch := omega) only [nn_add, nn_addl, l_add_nn, nn_sub, nn_subl, nn_m1, nn_mull, nn_t, nn_i, l_t, nn_lt, nn_le, nn_eq, nn_ltl, l_lt_nn, nn_lel, l_le_nn, nn_eql, l_eql, nn_nm1, xin_nn, xin_l, m1_lt, m1_le, m1_p, m1_z, dlt_T, dlt_F, dle_T, dle_F, deq_T, deq_F, sI_c, sI_n, sI_J, sI_E, sJ_c, sJ_n, sJ_I, sJ_E, sE_I, sE_J, sE_E, xcI_i, xcJ_i, xcR_i, xcV_i, xcI_e, xcJ_e, xcR_e, xcV_e, if_true, if_false, ite_true, ite_false, true_and, and_true, false_and, and_false, or_true, true_or, or_false, false_or, not_true_eq_false, not_false_eq_true, eq_self, ne_eq, ↓reduceIte, Nat.reduceEqDiff, Nat.reduceLT, Nat.reduceLeDiff, Nat.reduceAdd, Nat.reduceMul, Nat.reduceSub, Int32.reduceLT, Int32.reduceLE, reduceCtorEq, h2]
    · rw [f_X12_fieldOf_3.eq_2]; simp (disch := omega) only [nn_add, nn_addl, l_add_nn, nn_sub, nn_subl, nn_m1, nn_mull, nn_t, nn_i, l_t, nn_lt, nn_le, nn_eq, nn_ltl, l_lt_nn, nn_lel, l_le_nn, nn_eql, l_eql, nn_nm1, xin_nn, xin_l, m1_lt, m1_le, m1_p, m1_z, dlt_T, dlt_F, dle_T, dle_F, deq_T, deq_F, sI_c, sI_n, sI_J, sI_E, sJ_c, sJ_n, sJ_I, sJ_E, sE_I, sE_J, sE_E, xcI_i, xcJ_i, xcR_i, xcV_i, xcI_e, xcJ_e, xcR_e, xcV_e, if_true, if_false, ite_true, ite_false, true_and, and_true, false_and, and_false, or_true, true_or, or_false, false_or, not_true_eq_false, not_false_eq_true, eq_self, ne_eq, ↓reduceIte, Nat.reduceEqDiff, Nat.reduceLT, Nat.reduceLeDiff, Nat.reduceAdd, Nat.reduceMul, Nat.reduceSub, Int32.reduceLT, Int32.reduceLE, reduceCtorEq, h3]
  | succ d ih =>
    intro i m m2 hi hm hm2
    obtain ⟨m, rfl⟩ := Nat.exists_eq_succ_of_ne_zero (Nat.ne_of_gt (Nat.zero_lt_of_lt hm))
    obtain ⟨m2, rfl⟩ := Nat.exists_eq_succ_of_ne_zero (Nat.ne_of_gt (Nat.zero_lt_of_lt hm2))
    rw [f_X3_field_3.eq_2, f_X12_fieldOf_3.eq_2]
    simp (disch := omega) only [nn_add, nn_addl, l_add_nn, nn_sub, nn_subl, nn_m1, nn_mull, nn_t, nn_i, l_t, nn_lt, nn_le, nn_eq, nn_ltl, l_lt_nn, nn_lel, l_le_nn, nn_eql, l_eql, nn_nm1, xin_nn, xin_l, m1_lt, m1_le, m1_p, m1_z, dlt_T, dlt_F, dle_T, dle_F, deq_T, deq_F, sI_c, sI_n, sI_J, sI_E, sJ_c, sJ_n, sJ_I, sJ_E, sE_I, sE_J, sE_E, xcI_i, xcJ_i, xcR_i, xcV_i, xcI_e, xcJ_e, xcR_e, xcV_e, if_true, if_false, ite_true, ite_false, true_and, and_true, false_and, and_false, or_true, true_or, or_false, false_or, not_true_eq_false, not_false_eq_true, eq_self, ne_eq, ↓reduceIte, Nat.reduceEqDiff, Nat.reduceLT, Nat.reduceLeDiff, Nat.reduceAdd, Nat.reduceMul, Nat.reduceSub, Int32.reduceLT, Int32.reduceLE, reduceCtorEq, lg_cmp_eq, h2, h3]
    have hI := NmR_iff (h4 i (by omega)).1 hx
    by_cases he : Sc.2.1 (11 + (k + 1)) i = x
    · rw [if_pos he, if_pos (hI.mp he)]
      exact Or.inl ⟨i, by omega, rfl, rfl⟩
    · rw [if_neg he, if_neg (fun z => he (hI.mpr z))]
      exact ih (i + 1) m m2 (by omega) (by omega) (by omega)
theorem p_field {Sc Sr : xS} {N k wd : Nat} {x y : Int64} (hN : 100 < N) (hk : k < 7) (h : r_kd Sc Sr k wd) (hx : NmR x y) :
    (∃ f, f < wd ∧ f_X3_field N (nn (k + 1)) x Sc = some (rI (nn f) Sc) ∧ f_X12_fieldOf N (nn k) y Sr = some (rI (nn f) Sr)) ∨ (f_X3_field N (nn (k + 1)) x Sc = some (rI (-1) Sc) ∧ f_X12_fieldOf N (nn k) y Sr = some (rI (-1) Sr)) :=
  p_field_l hk h hx wd 0 N N (by omega) (by have := h.1; omega) (by have := h.1; omega)
theorem p_field0_l {Sc Sr : xS} {N k wd : Nat} (hk : k < 7) (h : r_kd Sc Sr k wd) : ∀ (d i m : Nat), i + d = wd → d < m → f_X3_field_3 N m (nn (k + 1)) 0 (nn i) Sc = some (rI (-1) Sc) := by
  obtain ⟨h1, h2, h3, h4⟩ := h
  intro d
  induction d with
  | zero =>
    intro i m hi hm
    obtain ⟨m, rfl⟩ := Nat.exists_eq_succ_of_ne_zero (Nat.ne_of_gt (Nat.zero_lt_of_lt hm))
    rw [f_X3_field_3.eq_2]; simp (disch := omega) only [nn_add, nn_addl, l_add_nn, nn_sub, nn_subl, nn_m1, nn_mull, nn_t, nn_i, l_t, nn_lt, nn_le, nn_eq, nn_ltl, l_lt_nn, nn_lel, l_le_nn, nn_eql, l_eql, nn_nm1, xin_nn, xin_l, m1_lt, m1_le, m1_p, m1_z, dlt_T, dlt_F, dle_T, dle_F, deq_T, deq_F, sI_c, sI_n, sI_J, sI_E, sJ_c, sJ_n, sJ_I, sJ_E, sE_I, sE_J, sE_E, xcI_i, xcJ_i, xcR_i, xcV_i, xcI_e, xcJ_e, xcR_e, xcV_e, if_true, if_false, ite_true, ite_false, true_and, and_true, false_and, and_false, or_true, true_or, or_false, false_or, not_true_eq_false, not_false_eq_true, eq_self, ne_eq, ↓reduceIte, Nat.reduceEqDiff, Nat.reduceLT, Nat.reduceLeDiff, Nat.reduceAdd, Nat.reduceMul, Nat.reduceSub, Int32.reduceLT, Int32.reduceLE, reduceCtorEq, h2]
  | succ d ih =>
    intro i m hi hm
    obtain ⟨m, rfl⟩ := Nat.exists_eq_succ_of_ne_zero (Nat.ne_of_gt (Nat.zero_lt_of_lt hm))
    rw [f_X3_field_3.eq_2]
    simp (disch := omega) only [nn_add, nn_addl, l_add_nn, nn_sub, nn_subl, nn_m1, nn_mull, nn_t, nn_i, l_t, nn_lt, nn_le, nn_eq, nn_ltl, l_lt_nn, nn_lel, l_le_nn, nn_eql, l_eql, nn_nm1, xin_nn, xin_l, m1_lt, m1_le, m1_p, m1_z, dlt_T, dlt_F, dle_T, dle_F, deq_T, deq_F, sI_c, sI_n, sI_J, sI_E, sJ_c, sJ_n, sJ_I, sJ_E, sE_I, sE_J, sE_E, xcI_i, xcJ_i, xcR_i, xcV_i, xcI_e, xcJ_e, xcR_e, xcV_e, if_true, if_false, ite_true, ite_false, true_and, and_true, false_and, and_false, or_true, true_or, or_false, false_or, not_true_eq_false, not_false_eq_true, eq_self, ne_eq, ↓reduceIte, Nat.reduceEqDiff, Nat.reduceLT, Nat.reduceLeDiff, Nat.reduceAdd, Nat.reduceMul, Nat.reduceSub, Int32.reduceLT, Int32.reduceLE, reduceCtorEq, lg_cmp_eq, h2]
    rw [if_neg (NmR_nz (h4 i (by omega)).1)]
    exact ih (i + 1) m (by omega) (by omega)
theorem p_field0 {Sc Sr : xS} {N k wd : Nat} (hN : 100 < N) (hk : k < 7) (h : r_kd Sc Sr k wd) : f_X3_field N (nn (k + 1)) 0 Sc = some (rI (-1) Sc) :=
  p_field0_l hk h wd 0 N (by omega) (by have := h.1; omega)
theorem p_var_l {Sc Sr : xS} {N nv : Nat} {x y : Int64} (hn : nv ≤ 20) (h : ∀ k, k < nv → NmR (Sc.2.1 28 k) (Sr.2.1 509 k)) (c1 : Sc.1 7 6 = nn nv) (c2 : Sr.1 503 8 = nn nv) (hx : NmR x y) : ∀ (d i m m2 : Nat), i + d = nv → d < m → d < m2 →
    (∃ k, k < nv ∧ f_X3_variable_2 N m x (nn i) Sc = some (rI (nn k) Sc) ∧ f_X12_varOf_2 N m2 y (nn i) Sr = some (rI (nn k) Sr)) ∨ (f_X3_variable_2 N m x (nn i) Sc = some (rI (-1) Sc) ∧ f_X12_varOf_2 N m2 y (nn i) Sr = some (rI (-1) Sr)) := by
  intro d
  induction d with
  | zero =>
    intro i m m2 hi hm hm2
    obtain ⟨m, rfl⟩ := Nat.exists_eq_succ_of_ne_zero (Nat.ne_of_gt (Nat.zero_lt_of_lt hm))
    obtain ⟨m2, rfl⟩ := Nat.exists_eq_succ_of_ne_zero (Nat.ne_of_gt (Nat.zero_lt_of_lt hm2))
    refine Or.inr ⟨?_, ?_⟩
    · rw [f_X3_variable_2.eq_2, c1]; simp (disch := omega) only [nn_add, nn_addl, l_add_nn, nn_sub, nn_subl, nn_m1, nn_mull, nn_t, nn_i, l_t, nn_lt, nn_le, nn_eq, nn_ltl, l_lt_nn, nn_lel, l_le_nn, nn_eql, l_eql, nn_nm1, xin_nn, xin_l, m1_lt, m1_le, m1_p, m1_z, dlt_T, dlt_F, dle_T, dle_F, deq_T, deq_F, sI_c, sI_n, sI_J, sI_E, sJ_c, sJ_n, sJ_I, sJ_E, sE_I, sE_J, sE_E, xcI_i, xcJ_i, xcR_i, xcV_i, xcI_e, xcJ_e, xcR_e, xcV_e, if_true, if_false, ite_true, ite_false, true_and, and_true, false_and, and_false, or_true, true_or, or_false, false_or, not_true_eq_false, not_false_eq_true, eq_self, ne_eq, ↓reduceIte, Nat.reduceEqDiff, Nat.reduceLT, Nat.reduceLeDiff, Nat.reduceAdd, Nat.reduceMul, Nat.reduceSub, Int32.reduceLT, Int32.reduceLE, reduceCtorEq]
    · rw [f_X12_varOf_2.eq_2, c2]; simp (disch := omega) only [nn_add, nn_addl, l_add_nn, nn_sub, nn_subl, nn_m1, nn_mull, nn_t, nn_i, l_t, nn_lt, nn_le, nn_eq, nn_ltl, l_lt_nn, nn_lel, l_le_nn, nn_eql, l_eql, nn_nm1, xin_nn, xin_l, m1_lt, m1_le, m1_p, m1_z, dlt_T, dlt_F, dle_T, dle_F, deq_T, deq_F, sI_c, sI_n, sI_J, sI_E, sJ_c, sJ_n, sJ_I, sJ_E, sE_I, sE_J, sE_E, xcI_i, xcJ_i, xcR_i, xcV_i, xcI_e, xcJ_e, xcR_e, xcV_e, if_true, if_false, ite_true, ite_false, true_and, and_true, false_and, and_false, or_true, true_or, or_false, false_or, not_true_eq_false, not_false_eq_true, eq_self, ne_eq, ↓reduceIte, Nat.reduceEqDiff, Nat.reduceLT, Nat.reduceLeDiff, Nat.reduceAdd, Nat.reduceMul, Nat.reduceSub, Int32.reduceLT, Int32.reduceLE, reduceCtorEq]
  | succ d ih =>
    intro i m m2 hi hm hm2
    obtain ⟨m, rfl⟩ := Nat.exists_eq_succ_of_ne_zero (Nat.ne_of_gt (Nat.zero_lt_of_lt hm))
    obtain ⟨m2, rfl⟩ := Nat.exists_eq_succ_of_ne_zero (Nat.ne_of_gt (Nat.zero_lt_of_lt hm2))
    rw [f_X3_variable_2.eq_2, f_X12_varOf_2.eq_2, c1, c2]
    simp (disch := omega) only [nn_add, nn_addl, l_add_nn, nn_sub, nn_subl, nn_m1, nn_mull, nn_t, nn_i, l_t, nn_lt, nn_le, nn_eq, nn_ltl, l_lt_nn, nn_lel, l_le_nn, nn_eql, l_eql, nn_nm1, xin_nn, xin_l, m1_lt, m1_le, m1_p, m1_z, dlt_T, dlt_F, dle_T, dle_F, deq_T, deq_F, sI_c, sI_n, sI_J, sI_E, sJ_c, sJ_n, sJ_I, sJ_E, sE_I, sE_J, sE_E, xcI_i, xcJ_i, xcR_i, xcV_i, xcI_e, xcJ_e, xcR_e, xcV_e, if_true, if_false, ite_true, ite_false, true_and, and_true, false_and, and_false, or_true, true_or, or_false, false_or, not_true_eq_false, not_false_eq_true, eq_self, ne_eq, ↓reduceIte, Nat.reduceEqDiff, Nat.reduceLT, Nat.reduceLeDiff, Nat.reduceAdd, Nat.reduceMul, Nat.reduceSub, Int32.reduceLT, Int32.reduceLE, reduceCtorEq, lg_cmp_eq]
    have hI := NmR_iff (h i (by omega)) hx
    by_cases he : Sc.2.1 28 i = x
    · rw [if_pos he, if_pos (hI.mp he)]
      exact Or.inl ⟨i, by omega, rfl, rfl⟩
    · rw [if_neg he, if_neg (fun z => he (hI.mpr z))]
      exact ih (i + 1) m m2 (by omega) (by omega) (by omega)
theorem p_var {Sc Sr : xS} {N nk nv : Nat} {x y : Int64} (hN : 100 < N) (h : r_nm Sc Sr nk nv) (c1 : Sc.1 7 6 = nn nv) (c2 : Sr.1 503 8 = nn nv) (hx : NmR x y) :
    (∃ k, k < nv ∧ f_X3_variable N x Sc = some (rI (nn k) Sc) ∧ f_X12_varOf N y Sr = some (rI (nn k) Sr)) ∨ (f_X3_variable N x Sc = some (rI (-1) Sc) ∧ f_X12_varOf N y Sr = some (rI (-1) Sr)) :=
  p_var_l h.2.1 h.2.2.2.2 c1 c2 hx nv 0 N N (by omega) (by have := h.2.1; omega) (by have := h.2.1; omega)
