/-! 69: rows of items in the reference; conditions -/
section EX4
variable {N n : Nat} {S S' : xS} {V F : Nat → Int32} {C : Nat → Nat → Int32} {rc : Prop} {sc : Nat → Nat → Prop} {x1 xl x6 x7 x8 x9 : Int32}
theorem cdl_cs (i : xIt) (L : List xIt) : cdl (i :: L) = itc i ++ cdl L := by unfold cdl; rw [List.flatMap_cons]
theorem itc_pos {i : xIt} : 1 ≤ (itc i).length := by
  unfold itc
  repeat' split
  all_goals simp
theorem e_run (E0 : Nat) (hE : x1 + xl = nn E0) (hE2 : E0 < 3000) : ∀ (L : List xIt) (st : List Int32) (q e n : Nat) (S : xS), envR S V F C rc sc x6 → (∀ i ∈ L, iok rc sc i) → seg (S.1 518) q (cdl L) → q + (cdl L).length ≤ E0 → SK S 524 st → dpx st.length (tg2 L) = some e → st.length + L.length < 200 →
    ∃ S', f_X12_eval_18 N (n + L.length) x1 xl (nn st.length) (nn q) x6 x7 x8 x9 S = f_X12_eval_18 N n x1 xl (nn (evs V F C L st).length) (nn (q + (cdl L).length)) x6 x7 x8 x9 S' ∧ SK S' 524 (evs V F C L st) ∧ k524 S S' ∧ (evs V F C L st).length = e := by
  intro L
  induction L with
  | nil =>
    intro st q e n S he hi hp hq hs hd hb
    refine ⟨S, rfl, hs, k524_r S, ?_⟩
    injection hd
  | cons i L ih =>
    intro st q e n S he hi hp hq hs hd hb
    rw [cdl_cs, List.length_append] at hq
    rw [cdl_cs] at hp
    rw [List.length_cons] at hb
    obtain ⟨p1, p2⟩ := seg_app.mp hp
    have h1 := itc_pos (i := i)
    obtain ⟨d1, d2, d3, d4⟩ := stp_len (V := V) (F := F) (C := C) (hi i List.mem_cons_self) hd
    obtain ⟨S1, q1, q2, q3⟩ := e_step (N := N) (n := n + L.length) (x1 := x1) (xl := xl) (x7 := x7) (x8 := x8) (x9 := x9) he (hi i List.mem_cons_self) p1 (by rw [hE]; simp (disch := omega) only [nn_add, nn_addl, l_add_nn, nn_sub, nn_subl, nn_m1, nn_mull, nn_t, nn_i, l_t, nn_lt, nn_le, nn_eq, nn_ltl, l_lt_nn, nn_lel, l_le_nn, nn_eql, l_eql, nn_nm1, xin_nn, xin_l, m1_lt, m1_le, m1_p, m1_z, dlt_T, dlt_F, dle_T, dle_F, deq_T, deq_F, sI_c, sI_n, sI_J, sI_E, sJ_c, sJ_n, sJ_I, sJ_E, sE_I, sE_J, sE_E, xcI_i, xcJ_i, xcR_i, xcV_i, xcI_e, xcJ_e, xcR_e, xcV_e, if_true, if_false, ite_true, ite_false, true_and, and_true, false_and, and_false, or_true, true_or, or_false, false_or, not_true_eq_false, not_false_eq_true, eq_self, ne_eq, ↓reduceIte, Nat.reduceEqDiff, Nat.reduceLT, Nat.reduceLeDiff, Nat.reduceAdd, Nat.reduceMul, Nat.reduceSub, Int32.reduceLT, Int32.reduceLE, reduceCtorEq, not_false_eq_true]) (by omega) hs (by omega) d2 d3
    obtain ⟨S2, r1, r2, r3, r4⟩ := ih (stp V F C i st) (q + (itc i).length) e n S1 (envR_k he q3) (fun j hj => hi j (List.mem_cons_of_mem _ hj)) (by rw [q3.1 518 (by decide)]; exact p2) (by omega) q2 d1 (by omega)
    refine ⟨S2, ?_, r2, k524_t q3 r3, r4⟩
    rw [List.length_cons, ← Nat.add_assoc, q1, r1, cdl_cs, List.length_append, Nat.add_assoc]
    rfl
theorem e_end (E0 : Nat) (hE : x1 + xl = nn E0) (hE2 : E0 < 3000) {x4 : Int32} : f_X12_eval_18 N (n + 1) x1 xl x4 (nn E0) x6 x7 x8 x9 S = some (rI (S.1 524 0) S) := by
  rw [f_X12_eval_18.eq_2, hE, if_pos (by simp (disch := omega) only [nn_add, nn_addl, l_add_nn, nn_sub, nn_subl, nn_m1, nn_mull, nn_t, nn_i, l_t, nn_lt, nn_le, nn_eq, nn_ltl, l_lt_nn, nn_lel, l_le_nn, nn_eql, l_eql, nn_nm1, xin_nn, xin_l, m1_lt, m1_le, m1_p, m1_z, dlt_T, dlt_F, dle_T, dle_F, deq_T, deq_F, sI_c, sI_n, sI_J, sI_E, sJ_c, sJ_n, sJ_I, sJ_E, sE_I, sE_J, sE_E, xcI_i, xcJ_i, xcR_i, xcV_i, xcI_e, xcJ_e, xcR_e, xcV_e, if_true, if_false, ite_true, ite_false, true_and, and_true, false_and, and_false, or_true, true_or, or_false, false_or, not_true_eq_false, not_false_eq_true, eq_self, ne_eq, ↓reduceIte, Nat.reduceEqDiff, Nat.reduceLT, Nat.reduceLeDiff, Nat.reduceAdd, Nat.reduceMul, Nat.reduceSub, Int32.reduceLT, Int32.reduceLE, reduceCtorEq, Nat.le_refl]), if_pos (by decide)]
  rfl
/-- a condition or a value with a record -/
theorem p_eval1 {L : List xIt} {q : Nat} (hN : 1000 < N) (hx1 : x1 = nn q) (hxl : xl = nn (cdl L).length) (he : envR S V F C rc sc x6) (hi : ∀ i ∈ L, iok rc sc i) (hp : seg (S.1 518) q (cdl L)) (hq : q + (cdl L).length < 3000) (hL : L.length < 199) (hd : dpx 0 (tg2 L) = some 1) : ∃ S', f_X12_eval N x1 xl x6 S = some (rI (evl V F C L) S') ∧ k524 S S' := by
  have hE : x1 + xl = nn (q + (cdl L).length) := by rw [hx1, hxl, nn_add]
  obtain ⟨S1, q1, q2, q3, q4⟩ := e_run (N := N) (x7 := 0) (x8 := 0) (x9 := 0) (q + (cdl L).length) hE hq L [] q 1 (N - L.length) S he hi hp (Nat.le_refl _) trivial hd (by simp only [List.length_nil]; omega)
  rw [show N - L.length + L.length = N by omega] at q1
  have q1' : f_X12_eval N x1 xl x6 S = f_X12_eval_18 N (N - L.length) x1 xl (nn (evs V F C L []).length) (nn (q + (cdl L).length)) x6 0 0 0 S1 := by
    rw [← q1, hx1]
    rfl
  obtain ⟨m, hm⟩ : ∃ m, N - L.length = m + 1 := ⟨N - L.length - 1, by omega⟩
  refine ⟨S1, ?_, q3⟩
  rw [q1', hm, e_end _ hE hq]
  unfold evl
  cases hev : evs V F C L [] with
  | nil => rw [hev] at q4; simp at q4
  | cons v r =>
    rw [hev] at q2 q4
    have : r = [] := by
      cases r with
      | nil => rfl
      | cons a b => simp at q4
    subst this
    rw [show S1.1 524 0 = v from q2.1]
    rfl
theorem stp_app {i : xIt} {a st : List Int32} (hi : iok rc sc i) (hd5 : i.1 = 5 ∨ i.1 = 6 → 1 ≤ a.length) (hd10 : 10 ≤ i.1 ∧ i.1 ≤ 22 → 2 ≤ a.length) : stp V F C i (a ++ st) = stp V F C i a ++ st := by
  unfold iok at hi
  unfold stp
  rcases hi with z | ⟨z, z2⟩ | ⟨z, z2, z3⟩ | ⟨z, z2, z3⟩ | z | z | z
  · rw [if_pos z, if_pos z]; rfl
  · rw [if_neg (by omega), if_pos z, if_neg (by omega), if_pos z]; rfl
  · rw [if_neg (by omega), if_neg (by omega), if_pos z, if_neg (by omega), if_neg (by omega), if_pos z]; rfl
  · rw [if_neg (by omega), if_neg (by omega), if_neg (by omega), if_pos z, if_neg (by omega), if_neg (by omega), if_neg (by omega), if_pos z]; rfl
  · rw [if_neg (by omega), if_neg (by omega), if_neg (by omega), if_neg (by omega), if_pos z, if_neg (by omega), if_neg (by omega), if_neg (by omega), if_neg (by omega), if_pos z]
    cases a with
    | nil => have := hd5 (Or.inl z); simp at this
    | cons x r => rfl
  · rw [if_neg (by omega), if_neg (by omega), if_neg (by omega), if_neg (by omega), if_neg (by omega), if_pos z, if_neg (by omega), if_neg (by omega), if_neg (by omega), if_neg (by omega), if_neg (by omega), if_pos z]
    cases a with
    | nil => have := hd5 (Or.inr z); simp at this
    | cons x r => rfl
  · rw [if_neg (by omega), if_neg (by omega), if_neg (by omega), if_neg (by omega), if_neg (by omega), if_neg (by omega), if_neg (by omega), if_neg (by omega), if_neg (by omega), if_neg (by omega), if_neg (by omega), if_neg (by omega)]
    cases a with
    | nil => have := hd10 z; simp at this
    | cons y r =>
      cases r with
      | nil => have := hd10 z; simp at this
      | cons x r => rfl
theorem evs_app : ∀ (L : List xIt) (a st : List Int32) (e : Nat), (∀ i ∈ L, iok rc sc i) → dpx a.length (tg2 L) = some e → evs V F C L (a ++ st) = evs V F C L a ++ st := by
  intro L
  induction L with
  | nil => intro a st e _ _; rfl
  | cons i L ih =>
    intro a st e hi hd
    obtain ⟨d1, d2, d3, d4⟩ := stp_len (V := V) (F := F) (C := C) (hi i List.mem_cons_self) hd
    show evs V F C L (stp V F C i (a ++ st)) = evs V F C L (stp V F C i a) ++ st
    rw [stp_app (hi i List.mem_cons_self) d2 d3]
    exact ih _ st e (fun j hj => hi j (List.mem_cons_of_mem _ hj)) d1
theorem evs_len : ∀ (L : List xIt) (a : List Int32) (e : Nat), (∀ i ∈ L, iok rc sc i) → dpx a.length (tg2 L) = some e → (evs V F C L a).length = e := by
  intro L
  induction L with
  | nil => intro a e _ hd; injection hd
  | cons i L ih =>
    intro a e hi hd
    obtain ⟨d1, d2, d3, d4⟩ := stp_len (V := V) (F := F) (C := C) (hi i List.mem_cons_self) hd
    exact ih _ e (fun j hj => hi j (List.mem_cons_of_mem _ hj)) d1
theorem evs_1 {L : List xIt} (hi : ∀ i ∈ L, iok rc sc i) (hd : dpx 0 (tg2 L) = some 1) (st : List Int32) : evs V F C L st = evl V F C L :: st := by
  have h1 := evs_app (V := V) (F := F) (C := C) L [] st 1 hi hd
  have h2 := evs_len (V := V) (F := F) (C := C) L [] 1 hi hd
  rw [List.nil_append] at h1
  rw [h1]
  unfold evl
  cases hev : evs V F C L [] with
  | nil => rw [hev] at h2; simp at h2
  | cons v r =>
    rw [hev] at h2
    have : r = [] := by
      cases r with
      | nil => rfl
      | cons a b => simp at h2
    subst this
    rfl
end EX4
