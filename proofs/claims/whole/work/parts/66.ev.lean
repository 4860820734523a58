/-! 66: what an expression is worth -/
def opv (g : Nat) (x y : Int32) : Int32 := if g = 10 then (if x = 0 then (if y = 0 then 0 else 1) else 1) else if g = 11 then (if x = 0 then 0 else if y = 0 then 0 else 1) else if g = 12 then (if x = y then 1 else 0) else if g = 13 then (if x = y then 0 else 1) else if g = 14 then (if y ≤ x then 0 else 1) else if g = 15 then (if y < x then 0 else 1) else if g = 16 then (if x ≤ y then 0 else 1) else if g = 17 then (if x < y then 0 else 1) else if g = 18 then x + y else if g = 19 then x - y else if g = 20 then x * y else if g = 21 then (if y = 0 then 0 else x / y) else (if y = 0 then 0 else x - x / y * y)
section EV
variable {N n : Nat} {S S' : xS} {x y : Int32}
theorem p_joined {g : Nat} (h : 10 ≤ g ∧ g ≤ 22) : f_X2_joined N (nn (acti g)) x y S = some (rI (opv g x y) S) := by
  have : g = 10 ∨ g = 11 ∨ g = 12 ∨ g = 13 ∨ g = 14 ∨ g = 15 ∨ g = 16 ∨ g = 17 ∨ g = 18 ∨ g = 19 ∨ g = 20 ∨ g = 21 ∨ g = 22 := by omega
  rcases this with rfl | rfl | rfl | rfl | rfl | rfl | rfl | rfl | rfl | rfl | rfl | rfl | rfl
  all_goals simp (disch := omega) only [nn_add, nn_addl, l_add_nn, nn_sub, nn_subl, nn_m1, nn_mull, nn_t, nn_i, l_t, nn_lt, nn_le, nn_eq, nn_ltl, l_lt_nn, nn_lel, l_le_nn, nn_eql, l_eql, nn_nm1, xin_nn, xin_l, m1_lt, m1_le, m1_p, m1_z, dlt_T, dlt_F, dle_T, dle_F, deq_T, deq_F, sI_c, sI_n, sI_J, sI_E, sJ_c, sJ_n, sJ_I, sJ_E, sE_I, sE_J, sE_E, xcI_i, xcJ_i, xcR_i, xcV_i, xcI_e, xcJ_e, xcR_e, xcV_e, if_true, if_false, ite_true, ite_false, true_and, and_true, false_and, and_false, or_true, true_or, or_false, false_or, not_true_eq_false, not_false_eq_true, eq_self, ne_eq, ↓reduceIte, Nat.reduceEqDiff, Nat.reduceLT, Nat.reduceLeDiff, Nat.reduceAdd, Nat.reduceMul, Nat.reduceSub, Int32.reduceLT, Int32.reduceLE, reduceCtorEq, f_X2_joined, acti, opv, List.mem_cons, List.not_mem_nil, ci_eq, f_X2_joined_147, f_X2_joined_146, f_X2_joined_133, f_X2_joined_128, f_X2_joined_249, f_X2_joined_158, f_X2_joined_180, f_X2_joined_202, f_X2_joined_237, f_X2_joined_169, f_X2_joined_191, f_X2_joined_213]
  all_goals (repeat' split)
  all_goals first | rfl | contradiction
theorem p_operate {g : Nat} (h : 10 ≤ g ∧ g ≤ 22) : f_X12_operate N (nn g) x y S = some (rI (opv g x y) S) := by
  have : g = 10 ∨ g = 11 ∨ g = 12 ∨ g = 13 ∨ g = 14 ∨ g = 15 ∨ g = 16 ∨ g = 17 ∨ g = 18 ∨ g = 19 ∨ g = 20 ∨ g = 21 ∨ g = 22 := by omega
  rcases this with rfl | rfl | rfl | rfl | rfl | rfl | rfl | rfl | rfl | rfl | rfl | rfl | rfl
  all_goals simp (disch := omega) only [nn_add, nn_addl, l_add_nn, nn_sub, nn_subl, nn_m1, nn_mull, nn_t, nn_i, l_t, nn_lt, nn_le, nn_eq, nn_ltl, l_lt_nn, nn_lel, l_le_nn, nn_eql, l_eql, nn_nm1, xin_nn, xin_l, m1_lt, m1_le, m1_p, m1_z, dlt_T, dlt_F, dle_T, dle_F, deq_T, deq_F, sI_c, sI_n, sI_J, sI_E, sJ_c, sJ_n, sJ_I, sJ_E, sE_I, sE_J, sE_E, xcI_i, xcJ_i, xcR_i, xcV_i, xcI_e, xcJ_e, xcR_e, xcV_e, if_true, if_false, ite_true, ite_false, true_and, and_true, false_and, and_false, or_true, true_or, or_false, false_or, not_true_eq_false, not_false_eq_true, eq_self, ne_eq, ↓reduceIte, Nat.reduceEqDiff, Nat.reduceLT, Nat.reduceLeDiff, Nat.reduceAdd, Nat.reduceMul, Nat.reduceSub, Int32.reduceLT, Int32.reduceLE, reduceCtorEq, f_X12_operate, opv, List.mem_cons, List.not_mem_nil, ci_eq, f_X12_operate_77, f_X12_operate_72, f_X12_operate_91, f_X12_operate_90, f_X12_operate_102, f_X12_operate_113, f_X12_operate_124, f_X12_operate_135, f_X12_operate_146, f_X12_operate_157, f_X12_operate_181, f_X12_operate_193]
  all_goals (repeat' split)
  all_goals first | rfl | contradiction
/-- a stack in row c, its top first -/
def SK (S : xS) (c : Nat) : List Int32 → Prop
  | [] => True
  | v :: r => S.1 c r.length = v ∧ SK S c r
theorem SK_s {c q j : Nat} {v : Int32} : ∀ {st : List Int32}, SK S c st → (¬ q = c ∨ st.length ≤ j) → SK (sI S q j v) c st := by
  intro st
  induction st with
  | nil => intro _ _; trivial
  | cons a r ih =>
    intro h hq
    rw [List.length_cons] at hq
    refine ⟨?_, ih h.2 (by omega)⟩
    rw [sI_c, if_neg (by omega)]
    exact h.1
theorem SK_k {c : Nat} {st : List Int32} (h : SK S c st) (hc : S'.1 c = S.1 c) : SK S' c st := by
  induction st with
  | nil => trivial
  | cons a r ih => exact ⟨by rw [hc]; exact h.1, ih h.2⟩
def stp (V F : Nat → Int32) (C : Nat → Nat → Int32) (i : xIt) (st : List Int32) : List Int32 :=
  if i.1 = 1 then i.2.1 :: st else if i.1 = 2 then V i.2.2.1 :: st else if i.1 = 3 then F i.2.2.2.1 :: st else if i.1 = 4 then C i.2.2.1 i.2.2.2.1 :: st
  else if i.1 = 5 then (match st with
    | [] => []
    | x :: r => (-x) :: r)
  else if i.1 = 6 then (match st with
    | [] => []
    | x :: r => (if x = 0 then 1 else 0) :: r)
  else (match st with
    | y :: x :: r => opv i.1 x y :: r
    | _ => [])
def evs (V F : Nat → Int32) (C : Nat → Nat → Int32) : List xIt → List Int32 → List Int32
  | [], st => st
  | i :: L, st => evs V F C L (stp V F C i st)
/-- what the class's rows say of variables, fields, cursors -/
def envC (S : xS) (V F : Nat → Int32) (C : Nat → Nat → Int32) (rc : Prop) (sc : Nat → Nat → Prop) (x2 : Int32) : Prop := (∀ v, v < 20 → S.1 410 v = V v) ∧ (rc → ∃ w, w < 64 ∧ x2 = nn w ∧ ∀ f, f < 6 → S.1 (32 + w) f = F f) ∧ (∀ b d, sc b d → b < 10 ∧ ∃ k wd, k < 64 ∧ wd < 64 ∧ S.1 502 b = nn k ∧ S.1 (480 + b) k = nn wd ∧ ∀ f, f < 6 → C b f = if S.1 96 wd = S.1 (491 + b) k then S.1 (32 + wd) f else 0)
def envR (S : xS) (V F : Nat → Int32) (C : Nat → Nat → Int32) (rc : Prop) (sc : Nat → Nat → Prop) (x6 : Int32) : Prop := (∀ v, v < 20 → S.1 510 v = V v) ∧ (rc → ∃ w, w < 64 ∧ x6 = nn w ∧ ¬ S.1 511 w = 0 ∧ ∀ f, f < 6 → S.1 512 (6 * w + f) = F f) ∧ (∀ b d, sc b d → d < 12 ∧ ∃ k wd, k < 64 ∧ wd < 64 ∧ S.1 529 d = nn k ∧ S.1 526 (64 * d + k) = nn wd ∧ ∀ f, f < 6 → C b f = if S.1 511 wd = 0 then 0 else if S.1 513 wd = S.1 527 (64 * d + k) then S.1 512 (6 * wd + f) else 0)
def k412 (S S' : xS) : Prop := (∀ q, ¬ q = 412 → S'.1 q = S.1 q) ∧ S'.2 = S.2
def k524 (S S' : xS) : Prop := (∀ q, ¬ q = 524 → S'.1 q = S.1 q) ∧ S'.2 = S.2
theorem k412_r (S : xS) : k412 S S := ⟨fun _ _ => rfl, rfl⟩
theorem k524_r (S : xS) : k524 S S := ⟨fun _ _ => rfl, rfl⟩
theorem k412_t {A B D : xS} (h : k412 A B) (g : k412 B D) : k412 A D := ⟨fun q a => (g.1 q a).trans (h.1 q a), g.2.trans h.2⟩
theorem k524_t {A B D : xS} (h : k524 A B) (g : k524 B D) : k524 A D := ⟨fun q a => (g.1 q a).trans (h.1 q a), g.2.trans h.2⟩
theorem k412_s {j : Nat} {v : Int32} : k412 S (sI S 412 j v) := ⟨fun q a => by rw [sI_n a], rfl⟩
theorem k524_s {j : Nat} {v : Int32} : k524 S (sI S 524 j v) := ⟨fun q a => by rw [sI_n a], rfl⟩
variable {V F : Nat → Int32} {C : Nat → Nat → Int32} {rc : Prop} {sc : Nat → Nat → Prop} {x2 : Int32}
theorem envC_k (h : envC S V F C rc sc x2) (hk : k412 S S') : envC S' V F C rc sc x2 := by
  obtain ⟨h1, h2, h3⟩ := h
  refine ⟨fun v hv => by rw [hk.1 410 (by decide)]; exact h1 v hv, fun z => ?_, fun b d z => ?_⟩
  · obtain ⟨w, a1, a2, a3⟩ := h2 z
    exact ⟨w, a1, a2, fun f hf => by rw [hk.1 (32 + w) (by omega)]; exact a3 f hf⟩
  · obtain ⟨a0, k, wd, a1, a2, a3, a4, a5⟩ := h3 b d z
    refine ⟨a0, k, wd, a1, a2, by rw [hk.1 502 (by decide)]; exact a3, by rw [hk.1 _ (by omega)]; exact a4, fun f hf => ?_⟩
    rw [hk.1 96 (by decide), hk.1 (491 + b) (by omega), hk.1 (32 + wd) (by omega)]
    exact a5 f hf
theorem envR_k {x6 : Int32} (h : envR S V F C rc sc x6) (hk : k524 S S') : envR S' V F C rc sc x6 := by
  obtain ⟨h1, h2, h3⟩ := h
  refine ⟨fun v hv => by rw [hk.1 510 (by decide)]; exact h1 v hv, fun z => ?_, fun b d z => ?_⟩
  · obtain ⟨w, a1, a2, a3, a4⟩ := h2 z
    exact ⟨w, a1, a2, by rw [hk.1 511 (by decide)]; exact a3, fun f hf => by rw [hk.1 512 (by decide)]; exact a4 f hf⟩
  · obtain ⟨a0, k, wd, a1, a2, a3, a4, a5⟩ := h3 b d z
    refine ⟨a0, k, wd, a1, a2, by rw [hk.1 529 (by decide)]; exact a3, by rw [hk.1 526 (by decide)]; exact a4, fun f hf => ?_⟩
    rw [hk.1 511 (by decide), hk.1 513 (by decide), hk.1 527 (by decide), hk.1 512 (by decide)]
    exact a5 f hf
theorem p_at {b k wd : Nat} (hb : b < 10) (hk : k < 64) (hw : wd < 64) (h1 : S.1 502 b = nn k) (h2 : S.1 (480 + b) k = nn wd) : f_X0_at N (nn b) S = some (rI (if S.1 96 wd = S.1 (491 + b) k then nn wd else -1) S) := by
  have eb : (nn b).toNatClampNeg = b := nn_t (by omega)
  have ek : (nn k).toNatClampNeg = k := nn_t (by omega)
  have ew : (nn wd).toNatClampNeg = wd := nn_t (by omega)
  unfold f_X0_at f_X0_at_41
  simp only [eb, h1, ek, h2, ew, if_pos ((xin_nn (a := b) (n := 10) (by omega)).mpr hb), if_pos ((xin_nn (a := k) (n := 64) (by omega)).mpr hk), if_pos ((xin_nn (a := wd) (n := 64) (by omega)).mpr hw)]
  by_cases q : S.1 96 wd = S.1 (491 + b) k
  · rw [if_pos q, if_pos q]
  · rw [if_neg q, if_neg q]
/-- the class's jump behind an aggregate goes on -/
theorem p_maxC {a b : Nat} (h : a < b) (hb : b < 1000) : f_J9_max_7cf53 N (nn a) (nn b - 1) S = some (rI (nn b - 1) S) := by
  obtain ⟨c, rfl⟩ : ∃ c, b = c + 1 := ⟨b - 1, by omega⟩
  rw [nn_s1]
  unfold f_J9_max_7cf53 f_J9_max_7cf53_10
  by_cases q : a < c
  · rw [if_pos (by simp (disch := omega) only [nn_add, nn_addl, l_add_nn, nn_sub, nn_subl, nn_m1, nn_mull, nn_t, nn_i, l_t, nn_lt, nn_le, nn_eq, nn_ltl, l_lt_nn, nn_lel, l_le_nn, nn_eql, l_eql, nn_nm1, xin_nn, xin_l, m1_lt, m1_le, m1_p, m1_z, dlt_T, dlt_F, dle_T, dle_F, deq_T, deq_F, sI_c, sI_n, sI_J, sI_E, sJ_c, sJ_n, sJ_I, sJ_E, sE_I, sE_J, sE_E, xcI_i, xcJ_i, xcR_i, xcV_i, xcI_e, xcJ_e, xcR_e, xcV_e, if_true, if_false, ite_true, ite_false, true_and, and_true, false_and, and_false, or_true, true_or, or_false, false_or, not_true_eq_false, not_false_eq_true, eq_self, ne_eq, ↓reduceIte, Nat.reduceEqDiff, Nat.reduceLT, Nat.reduceLeDiff, Nat.reduceAdd, Nat.reduceMul, Nat.reduceSub, Int32.reduceLT, Int32.reduceLE, reduceCtorEq])]
  · have : a = c := by omega
    subst this
    rw [if_neg (by simp (disch := omega) only [nn_add, nn_addl, l_add_nn, nn_sub, nn_subl, nn_m1, nn_mull, nn_t, nn_i, l_t, nn_lt, nn_le, nn_eq, nn_ltl, l_lt_nn, nn_lel, l_le_nn, nn_eql, l_eql, nn_nm1, xin_nn, xin_l, m1_lt, m1_le, m1_p, m1_z, dlt_T, dlt_F, dle_T, dle_F, deq_T, deq_F, sI_c, sI_n, sI_J, sI_E, sJ_c, sJ_n, sJ_I, sJ_E, sE_I, sE_J, sE_E, xcI_i, xcJ_i, xcR_i, xcV_i, xcI_e, xcJ_e, xcR_e, xcV_e, if_true, if_false, ite_true, ite_false, true_and, and_true, false_and, and_false, or_true, true_or, or_false, false_or, not_true_eq_false, not_false_eq_true, eq_self, ne_eq, ↓reduceIte, Nat.reduceEqDiff, Nat.reduceLT, Nat.reduceLeDiff, Nat.reduceAdd, Nat.reduceMul, Nat.reduceSub, Int32.reduceLT, Int32.reduceLE, reduceCtorEq])]
theorem w_disp {x3 : Int32} {p np a : Nat} (hp2 : p < np) (hnp : np ≤ 151) (h97 : S.1 97 5 = nn np) (h0 : S.1 (103 + 2 * p) 0 = nn a) (ha : a < 100) (ha0 : ¬ a = 0) : f_X2_within_5 N (n + 1) x2 x3 (nn p) S =
      if a = 16 then
        if xin x3 151 then
        if (S.1 412 x3.toNatClampNeg) = 0 then
          f_X2_within_360 N (f_X2_within_5 N n) x2 x3 (nn p) 1 x3 S
        else
          f_X2_within_360 N (f_X2_within_5 N n) x2 x3 (nn p) 0 x3 S
        else none
      else
      if a = 17 ∨ a = 18 ∨ a = 19 ∨ a = 20 then
        if xin (x3 + 1) 151 then
        xcI (f_J9_max_7cf53 N (nn p) (((sI S 412 ((x3 + 1).toNatClampNeg) (S.1 (103 + 2 * p) 1)).1 (103 + 2 * p) 6) - 1) (sI S 412 ((x3 + 1).toNatClampNeg) (S.1 (103 + 2 * p) 1))) (fun v81 S80 =>
        f_X2_within_411 N (f_X2_within_5 N n) x2 (x3 + 1) v81 S80
        )
        else none
      else
      if a = 41 then
        if xin (x3 + 1) 151 then
        f_X2_within_411 N (f_X2_within_5 N n) x2 (x3 + 1) (nn p) (sI S 412 ((x3 + 1).toNatClampNeg) (S.1 (103 + 2 * p) 1))
        else none
      else
      if a = 44 then
        if xin x3 151 then
        f_X2_within_411 N (f_X2_within_5 N n) x2 x3 (nn p) (sI S 412 x3.toNatClampNeg (-(S.1 412 x3.toNatClampNeg)))
        else none
      else
      if a = 45 then
        if xin (S.1 (103 + 2 * p) 1) 20 then
        if xin (x3 + 1) 151 then
        f_X2_within_411 N (f_X2_within_5 N n) x2 (x3 + 1) (nn p) (sI S 412 ((x3 + 1).toNatClampNeg) (S.1 410 ((S.1 (103 + 2 * p) 1).toNatClampNeg)))
        else none
        else none
      else
      if a = 46 then
        if xin x2 64 then
        if xin (S.1 (103 + 2 * p) 3) 6 then
        if xin (x3 + 1) 151 then
        f_X2_within_411 N (f_X2_within_5 N n) x2 (x3 + 1) (nn p) (sI S 412 ((x3 + 1).toNatClampNeg) (S.1 (32 + x2.toNatClampNeg) ((S.1 (103 + 2 * p) 3).toNatClampNeg)))
        else none
        else none
        else none
      else
      if a = 47 then
        xcI (f_X0_at N (S.1 (103 + 2 * p) 4) S) (fun v89 S88 =>
        if v89 = ((-1)) then
          f_X2_within_306 N (f_X2_within_5 N n) x2 (x3 + 1) (nn p) 0 (x3 + 1) S88
        else
          if xin v89 64 then
          if xin (S88.1 (103 + 2 * p) 3) 6 then
          f_X2_within_306 N (f_X2_within_5 N n) x2 (x3 + 1) (nn p) (S88.1 (32 + v89.toNatClampNeg) ((S88.1 (103 + 2 * p) 3).toNatClampNeg)) (x3 + 1) S88
          else none
          else none
        )
      else
      if xin (x3 + (-1)) 151 then
      if xin ((x3 + (-1)) + 1) 151 then
      xcI (f_X2_joined N (nn a) (S.1 412 ((x3 + (-1)).toNatClampNeg)) (S.1 412 (((x3 + (-1)) + 1).toNatClampNeg)) S) (fun v96 S95 =>
      f_X2_within_411 N (f_X2_within_5 N n) x2 (x3 + (-1)) (nn p) (sI S95 412 ((x3 + (-1)).toNatClampNeg) v96)
      )
      else none
      else none := by
  have ep : (nn p).toNatClampNeg = p := nn_t (by omega)
  have x151 : xin (nn p) 151 := (xin_nn (by omega)).mpr (by omega)
  have ei : (nn a).toInt = (a : Int) := nn_i (by omega)
  rw [f_X2_within_5.eq_2, h97, if_neg (by simp (disch := omega) only [nn_add, nn_addl, l_add_nn, nn_sub, nn_subl, nn_m1, nn_mull, nn_t, nn_i, l_t, nn_lt, nn_le, nn_eq, nn_ltl, l_lt_nn, nn_lel, l_le_nn, nn_eql, l_eql, nn_nm1, xin_nn, xin_l, m1_lt, m1_le, m1_p, m1_z, dlt_T, dlt_F, dle_T, dle_F, deq_T, deq_F, sI_c, sI_n, sI_J, sI_E, sJ_c, sJ_n, sJ_I, sJ_E, sE_I, sE_J, sE_E, xcI_i, xcJ_i, xcR_i, xcV_i, xcI_e, xcJ_e, xcR_e, xcV_e, if_true, if_false, ite_true, ite_false, true_and, and_true, false_and, and_false, or_true, true_or, or_false, false_or, not_true_eq_false, not_false_eq_true, eq_self, ne_eq, ↓reduceIte, Nat.reduceEqDiff, Nat.reduceLT, Nat.reduceLeDiff, Nat.reduceAdd, Nat.reduceMul, Nat.reduceSub, Int32.reduceLT, Int32.reduceLE, reduceCtorEq]), if_pos x151]
  simp only [ep, h0]
  rw [if_neg (by simp (disch := omega) only [nn_add, nn_addl, l_add_nn, nn_sub, nn_subl, nn_m1, nn_mull, nn_t, nn_i, l_t, nn_lt, nn_le, nn_eq, nn_ltl, l_lt_nn, nn_lel, l_le_nn, nn_eql, l_eql, nn_nm1, xin_nn, xin_l, m1_lt, m1_le, m1_p, m1_z, dlt_T, dlt_F, dle_T, dle_F, deq_T, deq_F, sI_c, sI_n, sI_J, sI_E, sJ_c, sJ_n, sJ_I, sJ_E, sE_I, sE_J, sE_E, xcI_i, xcJ_i, xcR_i, xcV_i, xcI_e, xcJ_e, xcR_e, xcV_e, if_true, if_false, ite_true, ite_false, true_and, and_true, false_and, and_false, or_true, true_or, or_false, false_or, not_true_eq_false, not_false_eq_true, eq_self, ne_eq, ↓reduceIte, Nat.reduceEqDiff, Nat.reduceLT, Nat.reduceLeDiff, Nat.reduceAdd, Nat.reduceMul, Nat.reduceSub, Int32.reduceLT, Int32.reduceLE, reduceCtorEq])]
  simp only [ei, List.mem_cons, List.not_mem_nil, or_false, ci_eq]
theorem w_end {x3 : Int32} {p np : Nat} (hp2 : p < np) (hnp : np ≤ 151) (h97 : S.1 97 5 = nn np) (h0 : S.1 (103 + 2 * p) 0 = 0) : f_X2_within_5 N (n + 1) x2 x3 (nn p) S = some (rI (S.1 412 0) S) := by
  have ep : (nn p).toNatClampNeg = p := nn_t (by omega)
  have x151 : xin (nn p) 151 := (xin_nn (by omega)).mpr (by omega)
  rw [f_X2_within_5.eq_2, h97, if_neg (by simp (disch := omega) only [nn_add, nn_addl, l_add_nn, nn_sub, nn_subl, nn_m1, nn_mull, nn_t, nn_i, l_t, nn_lt, nn_le, nn_eq, nn_ltl, l_lt_nn, nn_lel, l_le_nn, nn_eql, l_eql, nn_nm1, xin_nn, xin_l, m1_lt, m1_le, m1_p, m1_z, dlt_T, dlt_F, dle_T, dle_F, deq_T, deq_F, sI_c, sI_n, sI_J, sI_E, sJ_c, sJ_n, sJ_I, sJ_E, sE_I, sE_J, sE_E, xcI_i, xcJ_i, xcR_i, xcV_i, xcI_e, xcJ_e, xcR_e, xcV_e, if_true, if_false, ite_true, ite_false, true_and, and_true, false_and, and_false, or_true, true_or, or_false, false_or, not_true_eq_false, not_false_eq_true, eq_self, ne_eq, ↓reduceIte, Nat.reduceEqDiff, Nat.reduceLT, Nat.reduceLeDiff, Nat.reduceAdd, Nat.reduceMul, Nat.reduceSub, Int32.reduceLT, Int32.reduceLE, reduceCtorEq]), if_pos x151]
  simp only [ep, h0]
  rw [if_pos trivial]
  unfold f_X2_within_417
  rw [if_pos (by decide)]
  rfl
/-- one part of the class's -/
theorem w_step {p np : Nat} {i : xIt} {st : List Int32} (he : envC S V F C rc sc x2) (hi : iok rc sc i) (hp : itp (S.1 (103 + 2 * p)) p i) (hp2 : p < np) (hnp : np ≤ 151) (h97 : S.1 97 5 = nn np) (hs : SK S 412 st) (hd : st.length < 150) (hd5 : i.1 = 5 ∨ i.1 = 6 → 1 ≤ st.length) (hd10 : 10 ≤ i.1 ∧ i.1 ≤ 22 → 2 ≤ st.length) :
    ∃ S', f_X2_within_5 N (n + 1) x2 (nn st.length - 1) (nn p) S = f_X2_within_5 N n x2 (nn (stp V F C i st).length - 1) (nn (p + 1)) S' ∧ SK S' 412 (stp V F C i st) ∧ k412 S S' := by
  obtain ⟨e1, e2, e3⟩ := he
  have hpu : nn st.length - 1 + 1 = nn st.length := by
    rw [Int32.sub_add_cancel]
  have xd : xin (nn st.length) 151 := (xin_nn (by omega)).mpr (by omega)
  have ed : (nn st.length).toNatClampNeg = st.length := nn_t (by omega)
  have push : ∀ v, f_X2_within_5 N (n + 1) x2 (nn st.length - 1) (nn p) S = f_X2_within_411 N (f_X2_within_5 N n) x2 (nn st.length) (nn p) (sI S 412 st.length v) → stp V F C i st = v :: st → ∃ S', f_X2_within_5 N (n + 1) x2 (nn st.length - 1) (nn p) S = f_X2_within_5 N n x2 (nn (stp V F C i st).length - 1) (nn (p + 1)) S' ∧ SK S' 412 (stp V F C i st) ∧ k412 S S' := by
    intro v h1 h2
    refine ⟨sI S 412 st.length v, ?_, ?_, k412_s⟩
    · rw [h1, h2]
      unfold f_X2_within_411
      rw [nn_addl, List.length_cons, nn_s1]
    · rw [h2]
      exact ⟨by simp (disch := omega) only [nn_add, nn_addl, l_add_nn, nn_sub, nn_subl, nn_m1, nn_mull, nn_t, nn_i, l_t, nn_lt, nn_le, nn_eq, nn_ltl, l_lt_nn, nn_lel, l_le_nn, nn_eql, l_eql, nn_nm1, xin_nn, xin_l, m1_lt, m1_le, m1_p, m1_z, dlt_T, dlt_F, dle_T, dle_F, deq_T, deq_F, sI_c, sI_n, sI_J, sI_E, sJ_c, sJ_n, sJ_I, sJ_E, sE_I, sE_J, sE_E, xcI_i, xcJ_i, xcR_i, xcV_i, xcI_e, xcJ_e, xcR_e, xcV_e, if_true, if_false, ite_true, ite_false, true_and, and_true, false_and, and_false, or_true, true_or, or_false, false_or, not_true_eq_false, not_false_eq_true, eq_self, ne_eq, ↓reduceIte, Nat.reduceEqDiff, Nat.reduceLT, Nat.reduceLeDiff, Nat.reduceAdd, Nat.reduceMul, Nat.reduceSub, Int32.reduceLT, Int32.reduceLE, reduceCtorEq], SK_s hs (by omega)⟩
  have top : ∀ (x : Int32) (r : List Int32) (v : Int32), st = x :: r → f_X2_within_5 N (n + 1) x2 (nn st.length - 1) (nn p) S = f_X2_within_411 N (f_X2_within_5 N n) x2 (nn r.length) (nn p) (sI S 412 r.length v) → stp V F C i st = v :: r → ∃ S', f_X2_within_5 N (n + 1) x2 (nn st.length - 1) (nn p) S = f_X2_within_5 N n x2 (nn (stp V F C i st).length - 1) (nn (p + 1)) S' ∧ SK S' 412 (stp V F C i st) ∧ k412 S S' := by
    intro x r v h0 h1 h2
    rw [h0] at hs
    refine ⟨sI S 412 r.length v, ?_, ?_, k412_s⟩
    · rw [h1, h2]
      unfold f_X2_within_411
      rw [nn_addl, List.length_cons, nn_s1]
    · rw [h2]
      exact ⟨by simp (disch := omega) only [nn_add, nn_addl, l_add_nn, nn_sub, nn_subl, nn_m1, nn_mull, nn_t, nn_i, l_t, nn_lt, nn_le, nn_eq, nn_ltl, l_lt_nn, nn_lel, l_le_nn, nn_eql, l_eql, nn_nm1, xin_nn, xin_l, m1_lt, m1_le, m1_p, m1_z, dlt_T, dlt_F, dle_T, dle_F, deq_T, deq_F, sI_c, sI_n, sI_J, sI_E, sJ_c, sJ_n, sJ_I, sJ_E, sE_I, sE_J, sE_E, xcI_i, xcJ_i, xcR_i, xcV_i, xcI_e, xcJ_e, xcR_e, xcV_e, if_true, if_false, ite_true, ite_false, true_and, and_true, false_and, and_false, or_true, true_or, or_false, false_or, not_true_eq_false, not_false_eq_true, eq_self, ne_eq, ↓reduceIte, Nat.reduceEqDiff, Nat.reduceLT, Nat.reduceLeDiff, Nat.reduceAdd, Nat.reduceMul, Nat.reduceSub, Int32.reduceLT, Int32.reduceLE, reduceCtorEq], SK_s hs.2 (by omega)⟩
  unfold iok at hi
  rcases hi with z | ⟨z, z2⟩ | ⟨z, z2, z3⟩ | ⟨z, z2, z3⟩ | z | z | z
  · unfold itp at hp
    rw [if_pos z] at hp
    refine push i.2.1 ?_ (by unfold stp; rw [if_pos z])
    rw [w_disp (a := 41) hp2 hnp h97 hp.1 (by decide) (by decide), if_neg (by decide), if_neg (by decide), if_pos rfl, hpu, if_pos xd, ed, hp.2]
  · unfold itp at hp
    rw [if_neg (by omega), if_pos z] at hp
    refine push (V i.2.2.1) ?_ (by unfold stp; rw [if_neg (by omega), if_pos z])
    rw [w_disp (a := 45) hp2 hnp h97 hp.1 (by decide) (by decide), if_neg (by decide), if_neg (by decide), if_neg (by decide), if_neg (by decide), if_pos rfl, hpu, hp.2, if_pos ((xin_nn (by omega)).mpr z2), if_pos xd, ed, nn_t (by omega), e1 _ z2]
  · obtain ⟨w, a1, a2, a3⟩ := e2 z2
    unfold itp at hp
    rw [if_neg (by omega), if_neg (by omega), if_pos z] at hp
    refine push (F i.2.2.2.1) ?_ (by unfold stp; rw [if_neg (by omega), if_neg (by omega), if_pos z])
    rw [w_disp (a := 46) hp2 hnp h97 hp.1 (by decide) (by decide), if_neg (by decide), if_neg (by decide), if_neg (by decide), if_neg (by decide), if_neg (by decide), if_pos rfl, hpu, hp.2, a2, if_pos ((xin_nn (by omega)).mpr a1), if_pos ((xin_nn (by omega)).mpr z3), if_pos xd, ed, nn_t (by omega), nn_t (by omega), a3 _ z3]
  · obtain ⟨a0, k, wd, a1, a2, a3, a4, a5⟩ := e3 _ _ z2
    unfold itp at hp
    rw [if_neg (by omega), if_neg (by omega), if_neg (by omega), if_pos z] at hp
    obtain ⟨p1, p2, p3⟩ := hp
    have hat := p_at (N := N) a0 a1 a2 a3 a4
    refine push (C i.2.2.1 i.2.2.2.1) ?_ (by unfold stp; rw [if_neg (by omega), if_neg (by omega), if_neg (by omega), if_pos z])
    rw [w_disp (a := 47) hp2 hnp h97 p1 (by decide) (by decide), if_neg (by decide), if_neg (by decide), if_neg (by decide), if_neg (by decide), if_neg (by decide), if_neg (by decide), if_pos rfl, hpu, p2, xcI_of hat, a5 _ z3]
    unfold f_X2_within_306
    by_cases q : S.1 96 wd = S.1 (491 + i.2.2.1) k
    · rw [if_pos q, if_pos q, if_neg (by simp (disch := omega) only [nn_add, nn_addl, l_add_nn, nn_sub, nn_subl, nn_m1, nn_mull, nn_t, nn_i, l_t, nn_lt, nn_le, nn_eq, nn_ltl, l_lt_nn, nn_lel, l_le_nn, nn_eql, l_eql, nn_nm1, xin_nn, xin_l, m1_lt, m1_le, m1_p, m1_z, dlt_T, dlt_F, dle_T, dle_F, deq_T, deq_F, sI_c, sI_n, sI_J, sI_E, sJ_c, sJ_n, sJ_I, sJ_E, sE_I, sE_J, sE_E, xcI_i, xcJ_i, xcR_i, xcV_i, xcI_e, xcJ_e, xcR_e, xcV_e, if_true, if_false, ite_true, ite_false, true_and, and_true, false_and, and_false, or_true, true_or, or_false, false_or, not_true_eq_false, not_false_eq_true, eq_self, ne_eq, ↓reduceIte, Nat.reduceEqDiff, Nat.reduceLT, Nat.reduceLeDiff, Nat.reduceAdd, Nat.reduceMul, Nat.reduceSub, Int32.reduceLT, Int32.reduceLE, reduceCtorEq, not_false_eq_true]), if_pos ((xin_nn (by omega)).mpr a2), p3, if_pos ((xin_nn (by omega)).mpr z3), if_pos xd, ed, nn_t (by omega), nn_t (by omega)]
    · rw [if_neg q, if_neg q, if_pos rfl, if_pos xd, ed]
  · unfold itp at hp
    rw [if_neg (by omega), if_neg (by omega), if_neg (by omega), if_neg (by omega), if_neg (by omega), if_neg (by omega), if_neg (by omega), z] at hp
    obtain ⟨x, r, h0⟩ : ∃ x r, st = x :: r := by
      cases st with
      | nil => have := hd5 (Or.inl z); simp at this
      | cons x r => exact ⟨x, r, rfl⟩
    have hl : st.length = r.length + 1 := by rw [h0]; rfl
    rw [h0] at hs
    refine top x r (-x) h0 ?_ (by unfold stp; rw [if_neg (by omega), if_neg (by omega), if_neg (by omega), if_neg (by omega), if_pos z, h0])
    rw [w_disp (a := 44) hp2 hnp h97 hp (by decide) (by decide), if_neg (by decide), if_neg (by decide), if_neg (by decide), if_pos rfl, hl, nn_s1, if_pos ((xin_nn (by omega)).mpr (by omega)), nn_t (by omega), hs.1]
  · unfold itp at hp
    rw [if_neg (by omega), if_neg (by omega), if_neg (by omega), if_neg (by omega), if_neg (by omega), if_neg (by omega), if_neg (by omega), z] at hp
    obtain ⟨x, r, h0⟩ : ∃ x r, st = x :: r := by
      cases st with
      | nil => have := hd5 (Or.inr z); simp at this
      | cons x r => exact ⟨x, r, rfl⟩
    have hl : st.length = r.length + 1 := by rw [h0]; rfl
    rw [h0] at hs
    refine top x r (if x = 0 then 1 else 0) h0 ?_ (by unfold stp; rw [if_neg (by omega), if_neg (by omega), if_neg (by omega), if_neg (by omega), if_neg (by omega), if_pos z, h0])
    rw [w_disp (a := 16) hp2 hnp h97 hp (by decide) (by decide), if_pos rfl, hl, nn_s1, if_pos ((xin_nn (by omega)).mpr (by omega)), nn_t (by omega), hs.1]
    unfold f_X2_within_360
    by_cases q : x = 0
    · rw [if_pos q, if_pos q, if_pos ((xin_nn (by omega)).mpr (by omega)), nn_t (by omega)]
    · rw [if_neg q, if_neg q, if_pos ((xin_nn (by omega)).mpr (by omega)), nn_t (by omega)]
  · unfold itp at hp
    rw [if_neg (by omega), if_neg (by omega), if_neg (by omega), if_neg (by omega), if_neg (by omega), if_neg (by omega), if_neg (by omega)] at hp
    obtain ⟨y, x, r, h0⟩ : ∃ y x r, st = y :: x :: r := by
      cases st with
      | nil => have := hd10 z; simp at this
      | cons y r =>
        cases r with
        | nil => have := hd10 z; simp at this
        | cons x r => exact ⟨y, x, r, rfl⟩
    have hl : st.length = r.length + 1 + 1 := by rw [h0]; rfl
    have hs2 := hs
    rw [h0] at hs2
    obtain ⟨s1, s2, s3⟩ := hs2
    have s1' : S.1 412 (r.length + 1) = y := s1
    have hac : ∀ g, g < 23 → 10 ≤ g → acti g < 100 ∧ ¬ acti g = 0 ∧ ¬ acti g = 16 ∧ ¬ (acti g = 17 ∨ acti g = 18 ∨ acti g = 19 ∨ acti g = 20) ∧ ¬ acti g = 41 ∧ ¬ acti g = 44 := by decide
    have hac2 : ∀ g, g < 23 → 10 ≤ g → ¬ acti g = 45 ∧ ¬ acti g = 46 ∧ ¬ acti g = 47 := by decide
    obtain ⟨c1, c2, c3, c4, c5, c6⟩ := hac i.1 (by omega) z.1
    obtain ⟨c7, c8, c9⟩ := hac2 i.1 (by omega) z.1
    have hm : nn st.length - 1 + (-1) = nn r.length := by
      rw [hl, nn_s1, nn_pm, nn_s1]
    refine ⟨sI S 412 r.length (opv i.1 x y), ?_, ?_, k412_s⟩
    · have est : stp V F C i st = opv i.1 x y :: r := by
        unfold stp
        rw [if_neg (by omega), if_neg (by omega), if_neg (by omega), if_neg (by omega), if_neg (by omega), if_neg (by omega), h0]
      rw [w_disp hp2 hnp h97 hp c1 c2, if_neg c3, if_neg c4, if_neg c5, if_neg c6, if_neg c7, if_neg c8, if_neg c9, hm, nn_addl, if_pos ((xin_nn (by omega)).mpr (by omega)), if_pos ((xin_nn (by omega)).mpr (by show r.length + 1 < 151; omega)), nn_t (by omega), nn_t (by show r.length + 1 < 2147483648; omega)]
      show xcI (f_X2_joined N (nn (acti i.1)) (S.1 412 r.length) (S.1 412 (r.length + 1)) S) _ = _
      rw [s1', s2, xcI_of (p_joined z), est]
      unfold f_X2_within_411
      rw [nn_addl, List.length_cons, nn_s1]
    · have est : stp V F C i st = opv i.1 x y :: r := by
        unfold stp
        rw [if_neg (by omega), if_neg (by omega), if_neg (by omega), if_neg (by omega), if_neg (by omega), if_neg (by omega), h0]
      rw [est]
      exact ⟨by simp (disch := omega) only [nn_add, nn_addl, l_add_nn, nn_sub, nn_subl, nn_m1, nn_mull, nn_t, nn_i, l_t, nn_lt, nn_le, nn_eq, nn_ltl, l_lt_nn, nn_lel, l_le_nn, nn_eql, l_eql, nn_nm1, xin_nn, xin_l, m1_lt, m1_le, m1_p, m1_z, dlt_T, dlt_F, dle_T, dle_F, deq_T, deq_F, sI_c, sI_n, sI_J, sI_E, sJ_c, sJ_n, sJ_I, sJ_E, sE_I, sE_J, sE_E, xcI_i, xcJ_i, xcR_i, xcV_i, xcI_e, xcJ_e, xcR_e, xcV_e, if_true, if_false, ite_true, ite_false, true_and, and_true, false_and, and_false, or_true, true_or, or_false, false_or, not_true_eq_false, not_false_eq_true, eq_self, ne_eq, ↓reduceIte, Nat.reduceEqDiff, Nat.reduceLT, Nat.reduceLeDiff, Nat.reduceAdd, Nat.reduceMul, Nat.reduceSub, Int32.reduceLT, Int32.reduceLE, reduceCtorEq], SK_s s3 (by omega)⟩
end EV
