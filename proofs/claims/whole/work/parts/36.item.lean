/-! 36: what an expression is read into: items; the class's parts and the reference's code of them -/
abbrev xIt : Type := Nat × Int32 × Nat × Nat × Nat
theorem ci_eq {a k : Nat} : ((a : Int) = (no_index (OfNat.ofNat k) : Int)) ↔ a = OfNat.ofNat k := ⟨fun h => Int.ofNat.inj h, fun h => congrArg Int.ofNat h⟩
def rk (a : Nat) : Nat := if a = 14 then 2 else if a = 15 then 1 else if a = 16 then 3 else if a = 21 ∨ a = 22 ∨ a = 23 ∨ a = 37 ∨ a = 38 ∨ a = 39 then 4 else if a = 24 ∨ a = 25 then 5 else if a = 26 ∨ a = 27 ∨ a = 28 then 6 else if a = 44 then 7 else 0
theorem rk_lt (a : Nat) : rk a < 8 := by
  unfold rk
  repeat' split
  all_goals decide
theorem p_rank {N a : Nat} {S : xS} (h : a < 100) : f_X1_rank N (nn a) S = some (rI (nn (rk a)) S) := by
  simp (disch := omega) only [nn_add, nn_addl, l_add_nn, nn_sub, nn_subl, nn_m1, nn_mull, nn_t, nn_i, l_t, nn_lt, nn_le, nn_eq, nn_ltl, l_lt_nn, nn_lel, l_le_nn, nn_eql, l_eql, nn_nm1, xin_nn, xin_l, m1_lt, m1_le, m1_p, m1_z, dlt_T, dlt_F, dle_T, dle_F, deq_T, deq_F, sI_c, sI_n, sI_J, sI_E, sJ_c, sJ_n, sJ_I, sJ_E, sE_I, sE_J, sE_E, xcI_i, xcJ_i, xcR_i, xcV_i, xcI_e, xcJ_e, xcR_e, xcV_e, if_true, if_false, ite_true, ite_false, true_and, and_true, false_and, and_false, or_true, true_or, or_false, false_or, not_true_eq_false, not_false_eq_true, eq_self, ne_eq, ↓reduceIte, Nat.reduceEqDiff, Nat.reduceLT, Nat.reduceLeDiff, Nat.reduceAdd, Nat.reduceMul, Nat.reduceSub, Int32.reduceLT, Int32.reduceLE, reduceCtorEq, f_X1_rank, List.mem_cons, List.not_mem_nil, ci_eq, rk]
  repeat' split
  all_goals rfl
/-- a waiting act in the reference's numbers -/
def pm (a : Nat) : Nat := if a = 29 then 1 else if a = 4 then 2 else if a = 44 then 5 else if a = 16 then 6 else if a = 15 then 10 else if a = 14 then 11 else if a = 21 then 12 else if a = 37 then 13 else if a = 22 then 14 else if a = 38 then 15 else if a = 23 then 16 else if a = 39 then 17 else a - 6
def wok (a : Nat) : Prop := a = 29 ∨ a = 4 ∨ a = 44 ∨ a = 16 ∨ a = 15 ∨ a = 14 ∨ (21 ≤ a ∧ a ≤ 28) ∨ a = 37 ∨ a = 38 ∨ a = 39
theorem wok_lt {a : Nat} (h : wok a) : a < 45 := by unfold wok at h; omega
abbrev isb (a : Nat) : Prop := a = 15 ∨ a = 14 ∨ (21 ≤ a ∧ a ≤ 28) ∨ a = 37 ∨ a = 38 ∨ a = 39
def sth (o : Nat) : Nat := if o = 10 then 1 else if o = 11 then 2 else if o = 6 then 3 else if o < 12 then (if o = 5 then 7 else 0) else if o ≤ 17 then 4 else if o ≤ 19 then 5 else 6
theorem p_strength {N o : Nat} {S : xS} (h : o < 100) : f_X12_strength N (nn o) S = some (rI (nn (sth o)) S) := by
  have e : o = 10 ∨ o = 11 ∨ o = 6 ∨ o = 5 ∨ (o < 12 ∧ ¬ o = 10 ∧ ¬ o = 11 ∧ ¬ o = 6 ∧ ¬ o = 5) ∨ (12 ≤ o ∧ o ≤ 17) ∨ o = 18 ∨ o = 19 ∨ 20 ≤ o := by omega
  rcases e with rfl | rfl | rfl | rfl | e | e | rfl | rfl | e
  all_goals simp (disch := omega) only [nn_add, nn_addl, l_add_nn, nn_sub, nn_subl, nn_m1, nn_mull, nn_t, nn_i, l_t, nn_lt, nn_le, nn_eq, nn_ltl, l_lt_nn, nn_lel, l_le_nn, nn_eql, l_eql, nn_nm1, xin_nn, xin_l, m1_lt, m1_le, m1_p, m1_z, dlt_T, dlt_F, dle_T, dle_F, deq_T, deq_F, sI_c, sI_n, sI_J, sI_E, sJ_c, sJ_n, sJ_I, sJ_E, sE_I, sE_J, sE_E, xcI_i, xcJ_i, xcR_i, xcV_i, xcI_e, xcJ_e, xcR_e, xcV_e, if_true, if_false, ite_true, ite_false, true_and, and_true, false_and, and_false, or_true, true_or, or_false, false_or, not_true_eq_false, not_false_eq_true, eq_self, ne_eq, ↓reduceIte, Nat.reduceEqDiff, Nat.reduceLT, Nat.reduceLeDiff, Nat.reduceAdd, Nat.reduceMul, Nat.reduceSub, Int32.reduceLT, Int32.reduceLE, reduceCtorEq, f_X12_strength, f_X12_strength_84, f_X12_strength_46, f_X12_strength_58, sth]
  all_goals rfl
theorem sth_pm {a : Nat} (h : wok a) : sth (pm a) = rk a ∧ pm a < 23 := by
  have hl := wok_lt h
  have : ∀ j, j < 45 → (j = 29 ∨ j = 4 ∨ j = 44 ∨ j = 16 ∨ j = 15 ∨ j = 14 ∨ (21 ≤ j ∧ j ≤ 28) ∨ j = 37 ∨ j = 38 ∨ j = 39) → sth (pm j) = rk j ∧ pm j < 23 := by decide
  exact this a hl h
def acti (g : Nat) : Nat := if g = 5 then 44 else if g = 6 then 16 else if g = 10 then 15 else if g = 11 then 14 else if g = 12 then 21 else if g = 13 then 37 else if g = 14 then 22 else if g = 15 then 38 else if g = 16 then 23 else if g = 17 then 39 else if g = 31 then 0 else g + 6
theorem acti_pm {a : Nat} (h : wok a) (h0 : 1 ≤ rk a) : acti (pm a) = a ∧ (pm a = 5 ∨ pm a = 6 ∨ (10 ≤ pm a ∧ pm a ≤ 22)) ∧ ((10 ≤ pm a ∧ pm a ≤ 22) ↔ isb a) := by
  have hl := wok_lt h
  have e1 : ∀ j, j < 45 → (j = 29 ∨ j = 4 ∨ j = 44 ∨ j = 16 ∨ j = 15 ∨ j = 14 ∨ (21 ≤ j ∧ j ≤ 28) ∨ j = 37 ∨ j = 38 ∨ j = 39) → 1 ≤ rk j → acti (pm j) = j := by decide
  have e2 : ∀ j, j < 45 → (j = 29 ∨ j = 4 ∨ j = 44 ∨ j = 16 ∨ j = 15 ∨ j = 14 ∨ (21 ≤ j ∧ j ≤ 28) ∨ j = 37 ∨ j = 38 ∨ j = 39) → 1 ≤ rk j → (pm j = 5 ∨ pm j = 6 ∨ (10 ≤ pm j ∧ pm j ≤ 22)) := by decide
  have e3 : ∀ j, j < 45 → 1 ≤ rk j → (10 ≤ pm j ∧ pm j ≤ 22) → (j = 15 ∨ j = 14 ∨ (21 ≤ j ∧ j ≤ 28) ∨ j = 37 ∨ j = 38 ∨ j = 39) := by decide
  have e4 : ∀ j, j < 45 → (j = 15 ∨ j = 14 ∨ (21 ≤ j ∧ j ≤ 28) ∨ j = 37 ∨ j = 38 ∨ j = 39) → (10 ≤ pm j ∧ pm j ≤ 22) := by decide
  exact ⟨e1 a hl h h0, e2 a hl h h0, e3 a hl h0, e4 a hl⟩
theorem rk_0 {a : Nat} (h : wok a) : rk a = 0 ↔ a = 29 ∨ a = 4 := by
  have hl := wok_lt h
  have : ∀ j, j < 45 → (j = 29 ∨ j = 4 ∨ j = 44 ∨ j = 16 ∨ j = 15 ∨ j = 14 ∨ (21 ≤ j ∧ j ≤ 28) ∨ j = 37 ∨ j = 38 ∨ j = 39) → (rk j = 0 ↔ j = 29 ∨ j = 4) := by decide
  exact this a hl h
/-- an item's code: 1 a number, 2 a variable, 3 a field, 4 a cursor's field, 5 6 minus and not, 10 to 22 what joins two, 29 30 an aggregate with a where, 31 its end, 32 an aggregate without -/
def itc (i : xIt) : List Int32 :=
  if i.1 = 1 then [1, i.2.1] else if i.1 = 2 then [2, nn i.2.2.1] else if i.1 = 3 then [3, nn i.2.2.2.1] else if i.1 = 4 then [4, nn i.2.2.2.2, nn i.2.2.2.1]
  else if i.1 = 29 ∨ i.1 = 30 then [30, i.2.1, nn i.2.2.1, nn i.2.2.2.1] else if i.1 = 32 then [30, i.2.1, nn i.2.2.1, nn i.2.2.2.1, 1, 1, 31] else [nn i.1]
/-- an item as the class's part p -/
def itp (P : Nat → Int32) (p : Nat) (i : xIt) : Prop :=
  if i.1 = 1 then P 0 = 41 ∧ P 1 = i.2.1 else if i.1 = 2 then P 0 = 45 ∧ P 1 = nn i.2.2.1 else if i.1 = 3 then P 0 = 46 ∧ P 3 = nn i.2.2.2.1 else if i.1 = 4 then P 0 = 47 ∧ P 4 = nn i.2.2.1 ∧ P 3 = nn i.2.2.2.1
  else if i.1 = 29 then P 0 = 17 + i.2.1 ∧ P 2 = nn (i.2.2.1 + 1) ∧ (¬ i.2.1 = 0 → P 3 = nn i.2.2.2.1) ∧ P 5 = nn (p + 1)
  else if i.1 = 30 then P 0 = 17 + i.2.1 ∧ P 2 = nn (i.2.2.1 + 1) ∧ (¬ i.2.1 = 0 → P 3 = nn i.2.2.2.1) ∧ P 5 = nn (p + 1) ∧ P 6 = nn (p + 2 + i.2.2.2.2)
  else if i.1 = 32 then P 0 = 17 + i.2.1 ∧ P 2 = nn (i.2.2.1 + 1) ∧ (¬ i.2.1 = 0 → P 3 = nn i.2.2.2.1) ∧ P 5 = -1 ∧ P 6 = nn (p + 1)
  else P 0 = nn (acti i.1)
def seg (f : Nat → Int32) (a : Nat) (L : List Int32) : Prop := ∀ i, i < L.length → f (a + i) = L.getD i 0
def segp (f : Nat → Nat → Int32) (p : Nat) (L : List xIt) : Prop := ∀ i, i < L.length → itp (f (103 + 2 * (p + i))) (p + i) (L.getD i (0, 0, 0, 0, 0))
theorem gd_l {α : Type} {L M : List α} {i : Nat} {z : α} (h : i < L.length) : (L ++ M).getD i z = L.getD i z := by
  rw [List.getD_eq_getElem?_getD, List.getD_eq_getElem?_getD, List.getElem?_append_left h]
theorem gd_r {α : Type} {L M : List α} {i : Nat} {z : α} (h : L.length ≤ i) : (L ++ M).getD i z = M.getD (i - L.length) z := by
  rw [List.getD_eq_getElem?_getD, List.getD_eq_getElem?_getD, List.getElem?_append_right h]
theorem seg_app {f : Nat → Int32} {a : Nat} {L M : List Int32} : seg f a (L ++ M) ↔ seg f a L ∧ seg f (a + L.length) M := by
  constructor
  · intro h
    refine ⟨fun i hi => ?_, fun i hi => ?_⟩
    · have := h i (by rw [List.length_append]; omega)
      rw [this, gd_l hi]
    · have := h (L.length + i) (by rw [List.length_append]; omega)
      rw [Nat.add_assoc, this, gd_r (by omega), Nat.add_sub_cancel_left]
  · rintro ⟨h1, h2⟩ i hi
    rw [List.length_append] at hi
    rcases Nat.lt_or_ge i L.length with h | h
    · rw [h1 i h, gd_l h]
    · have := h2 (i - L.length) (by omega)
      rw [show a + L.length + (i - L.length) = a + i by omega] at this
      rw [this, gd_r h]
theorem seg_c {f g : Nat → Int32} {a : Nat} {L : List Int32} (h : seg f a L) (hg : ∀ i, i < a + L.length → a ≤ i → g i = f i) : seg g a L := fun i hi => by
  rw [hg (a + i) (by omega) (by omega)]
  exact h i hi
theorem segp_app {f : Nat → Nat → Int32} {a : Nat} {L M : List xIt} : segp f a (L ++ M) ↔ segp f a L ∧ segp f (a + L.length) M := by
  constructor
  · intro h
    refine ⟨fun i hi => ?_, fun i hi => ?_⟩
    · have := h i (by rw [List.length_append]; omega)
      rw [gd_l hi] at this
      exact this
    · have := h (L.length + i) (by rw [List.length_append]; omega)
      rw [gd_r (by omega), Nat.add_sub_cancel_left] at this
      rw [Nat.add_assoc]
      exact this
  · rintro ⟨h1, h2⟩ i hi
    rw [List.length_append] at hi
    rcases Nat.lt_or_ge i L.length with h | h
    · rw [gd_l h]
      exact h1 i h
    · have := h2 (i - L.length) (by omega)
      rw [show a + L.length + (i - L.length) = a + i by omega] at this
      rw [gd_r h]
      exact this
theorem segp_c {f g : Nat → Nat → Int32} {a : Nat} {L : List xIt} (h : segp f a L) (hg : ∀ i, i < a + L.length → a ≤ i → g (103 + 2 * i) = f (103 + 2 * i)) : segp g a L := fun i hi => by
  rw [hg (a + i) (by omega) (by omega)]
  exact h i hi
theorem segp_1 {f : Nat → Nat → Int32} {a : Nat} {i : xIt} : segp f a [i] ↔ itp (f (103 + 2 * a)) a i := by
  constructor
  · intro h
    exact h 0 (by simp)
  · intro h j hj
    have : j = 0 := by simpa using hj
    subst this
    exact h
def cdl (L : List xIt) : List Int32 := L.flatMap itc
theorem cdl_app (L M : List xIt) : cdl (L ++ M) = cdl L ++ cdl M := by unfold cdl; exact List.flatMap_append
theorem cdl_1 (i : xIt) : cdl [i] = itc i := by unfold cdl; simp
/-- the parts from p0 on and the code from a0 on are these items -/
def XC (Sc Sr : xS) (p0 a0 : Nat) (L : List xIt) : Prop := Sc.1 97 5 = nn (p0 + L.length) ∧ Sr.1 503 25 = nn (a0 + (cdl L).length) ∧ segp Sc.1 p0 L ∧ seg (Sr.1 518) a0 (cdl L)
theorem XC_s {Sc Sr Sc' Sr' : xS} {p0 a0 : Nat} {L : List xIt} (h : XC Sc Sr p0 a0 L) (i : xIt) (h1 : Sc'.1 97 5 = nn (p0 + L.length + 1)) (h2 : ∀ k, k < p0 + L.length → Sc'.1 (103 + 2 * k) = Sc.1 (103 + 2 * k)) (h3 : itp (Sc'.1 (103 + 2 * (p0 + L.length))) (p0 + L.length) i) (h4 : Sr'.1 503 25 = nn (a0 + (cdl L).length + (itc i).length)) (h5 : ∀ k, k < a0 + (cdl L).length → Sr'.1 518 k = Sr.1 518 k) (h6 : seg (Sr'.1 518) (a0 + (cdl L).length) (itc i)) : XC Sc' Sr' p0 a0 (L ++ [i]) := by
  obtain ⟨a1, a2, a3, a4⟩ := h
  refine ⟨by rw [h1, List.length_append]; rfl, by rw [h4, cdl_app, cdl_1, List.length_append, Nat.add_assoc], segp_app.mpr ⟨segp_c a3 (fun k hk _ => h2 k hk), segp_1.mpr h3⟩, ?_⟩
  rw [cdl_app, cdl_1]
  exact seg_app.mpr ⟨seg_c a4 (fun k hk _ => h5 k hk), h6⟩
theorem XC_c {Sc Sr Sc' Sr' : xS} {p0 a0 : Nat} {L : List xIt} (h : XC Sc Sr p0 a0 L) (h1 : Sc'.1 97 5 = Sc.1 97 5) (h2 : ∀ k, k < p0 + L.length → Sc'.1 (103 + 2 * k) = Sc.1 (103 + 2 * k)) (h4 : Sr'.1 503 25 = Sr.1 503 25) (h5 : Sr'.1 518 = Sr.1 518) : XC Sc' Sr' p0 a0 L := by
  obtain ⟨a1, a2, a3, a4⟩ := h
  exact ⟨h1.trans a1, h4.trans a2, segp_c a3 (fun k hk _ => h2 k hk), by rw [h5]; exact a4⟩
/-- the waiting acts -/
def XW (Sc Sr : xS) (tp : Nat) (w : Nat → Nat) : Prop := tp ≤ 150 ∧ Sc.1 407 5 = nn tp ∧ Sr.1 503 28 = nn tp ∧ ∀ i, i < tp → wok (w i) ∧ Sc.1 408 i = nn (w i) ∧ Sr.1 519 i = nn (pm (w i))
def recI (r : Nat) : Int32 := if r = 0 then -1 else nn (r - 1)
/-- depth, brackets, the record's kind -/
def XD (Sc Sr : xS) (d br rec : Nat) : Prop := d ≤ 10 ∧ br ≤ d ∧ Sc.1 405 5 = nn d ∧ Sr.1 503 26 = nn d ∧ Sc.1 407 6 = nn br ∧ Sc.1 407 7 = nn rec ∧ Sr.1 503 29 = recI rec ∧ rec ≤ 7
