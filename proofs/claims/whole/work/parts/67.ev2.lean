/-! 67: what an expression is worth, on -/
section EW
variable {N n : Nat} {S S' : xS} {x y : Int32} {V F : Nat → Int32} {C : Nat → Nat → Int32} {rc : Prop} {sc : Nat → Nat → Prop} {x2 : Int32}
theorem stp_len {i : xIt} {st : List Int32} (hi : iok rc sc i) {e : Nat} {r : List Nat} (h : dpx st.length (i.1 :: r) = some e) : dpx (stp V F C i st).length r = some e ∧ (i.1 = 5 ∨ i.1 = 6 → 1 ≤ st.length) ∧ (10 ≤ i.1 ∧ i.1 ≤ 22 → 2 ≤ st.length) ∧ (stp V F C i st).length ≤ st.length + 1 := by
  rw [dpx_c] at h
  unfold iok at hi
  have push : ∀ v, stp V F C i st = v :: st → i.1 ≤ 4 → dpx (stp V F C i st).length r = some e ∧ (i.1 = 5 ∨ i.1 = 6 → 1 ≤ st.length) ∧ (10 ≤ i.1 ∧ i.1 ≤ 22 → 2 ≤ st.length) ∧ (stp V F C i st).length ≤ st.length + 1 := by
    intro v hv hi
    rw [if_neg (by omega), if_neg (by omega)] at h
    rw [hv]
    exact ⟨h, fun z => by omega, fun z => by omega, Nat.le_refl _⟩
  rcases hi with z | ⟨z, z2⟩ | ⟨z, z2, z3⟩ | ⟨z, z2, z3⟩ | z | z | z
  · exact push _ (by unfold stp; rw [if_pos z]) (by omega)
  · exact push _ (by unfold stp; rw [if_neg (by omega), if_pos z]) (by omega)
  · exact push _ (by unfold stp; rw [if_neg (by omega), if_neg (by omega), if_pos z]) (by omega)
  · exact push _ (by unfold stp; rw [if_neg (by omega), if_neg (by omega), if_neg (by omega), if_pos z]) (by omega)
  · rw [if_pos (Or.inl z)] at h
    cases st with
    | nil => simp at h
    | cons x s =>
      rw [if_pos (by simp)] at h
      have e1 : stp V F C i (x :: s) = (-x) :: s := by unfold stp; rw [if_neg (by omega), if_neg (by omega), if_neg (by omega), if_neg (by omega), if_pos z]
      rw [e1]
      exact ⟨h, fun _ => by simp, fun z => by omega, by simp⟩
  · rw [if_pos (Or.inr z)] at h
    cases st with
    | nil => simp at h
    | cons x s =>
      rw [if_pos (by simp)] at h
      have e1 : stp V F C i (x :: s) = (if x = 0 then 1 else 0) :: s := by unfold stp; rw [if_neg (by omega), if_neg (by omega), if_neg (by omega), if_neg (by omega), if_neg (by omega), if_pos z]
      rw [e1]
      exact ⟨h, fun _ => by simp, fun z => by omega, by simp⟩
  · rw [if_neg (by omega), if_pos z] at h
    cases st with
    | nil => simp at h
    | cons y s =>
      cases s with
      | nil => simp at h
      | cons x s =>
        rw [if_pos (by simp)] at h
        have e1 : stp V F C i (y :: x :: s) = opv i.1 x y :: s := by unfold stp; rw [if_neg (by omega), if_neg (by omega), if_neg (by omega), if_neg (by omega), if_neg (by omega), if_neg (by omega)]
        rw [e1]
        exact ⟨h, fun z => by omega, fun _ => by simp, by simp⟩
theorem segp_cs {f : Nat → Nat → Int32} {p : Nat} {i : xIt} {L : List xIt} (h : segp f p (i :: L)) : itp (f (103 + 2 * p)) p i ∧ segp f (p + 1) L := by
  have : i :: L = [i] ++ L := rfl
  rw [this] at h
  obtain ⟨h1, h2⟩ := segp_app.mp h
  exact ⟨segp_1.mp h1, h2⟩
theorem w_run : ∀ (L : List xIt) (st : List Int32) (p np e n : Nat) (S : xS), envC S V F C rc sc x2 → (∀ i ∈ L, iok rc sc i) → segp S.1 p L → p + L.length < np → np ≤ 151 → S.1 97 5 = nn np → SK S 412 st → dpx st.length (tg2 L) = some e → st.length + L.length < 151 →
    ∃ S', f_X2_within_5 N (n + L.length) x2 (nn st.length - 1) (nn p) S = f_X2_within_5 N n x2 (nn (evs V F C L st).length - 1) (nn (p + L.length)) S' ∧ SK S' 412 (evs V F C L st) ∧ k412 S S' ∧ (evs V F C L st).length = e := by
  intro L
  induction L with
  | nil =>
    intro st p np e n S he hi hp hp2 hnp h97 hs hd hb
    refine ⟨S, rfl, hs, k412_r S, ?_⟩
    injection hd
  | cons i L ih =>
    intro st p np e n S he hi hp hp2 hnp h97 hs hd hb
    rw [List.length_cons] at hp2 hb
    obtain ⟨p1, p2⟩ := segp_cs hp
    obtain ⟨d1, d2, d3, d4⟩ := stp_len (V := V) (F := F) (C := C) (hi i List.mem_cons_self) hd
    obtain ⟨S1, q1, q2, q3⟩ := w_step (N := N) (n := n + L.length) he (hi i List.mem_cons_self) p1 (by omega) hnp h97 hs (by omega) d2 d3
    obtain ⟨S2, r1, r2, r3, r4⟩ := ih (stp V F C i st) (p + 1) np e n S1 (envC_k he q3) (fun j hj => hi j (List.mem_cons_of_mem _ hj)) (segp_c p2 (fun k a b => q3.1 _ (by omega))) (by omega) hnp (by rw [q3.1 97 (by decide)]; exact h97) q2 d1 (by omega)
    refine ⟨S2, ?_, r2, k412_t q3 r3, r4⟩
    rw [List.length_cons, ← Nat.add_assoc, q1, r1, show p + (L.length + 1) = p + 1 + L.length by omega]
    rfl
def evl (V F : Nat → Int32) (C : Nat → Nat → Int32) (L : List xIt) : Int32 := (evs V F C L []).headD 0
theorem p_within {L : List xIt} {p np : Nat} (hN : 1000 < N) (he : envC S V F C rc sc x2) (hi : ∀ i ∈ L, iok rc sc i) (hp : segp S.1 p L) (h0 : S.1 (103 + 2 * (p + L.length)) 0 = 0) (hp2 : p + L.length < np) (hnp : np ≤ 151) (h97 : S.1 97 5 = nn np) (hd : dpx 0 (tg2 L) = some 1) : ∃ S', f_X2_within N (nn p) x2 S = some (rI (evl V F C L) S') ∧ k412 S S' := by
  obtain ⟨S1, q1, q2, q3, q4⟩ := w_run (N := N) L [] p np 1 (N - L.length) S he hi hp hp2 hnp h97 trivial hd (by simp only [List.length_nil]; omega)
  rw [show N - L.length + L.length = N by omega] at q1
  have q1' : f_X2_within N (nn p) x2 S = f_X2_within_5 N (N - L.length) x2 (nn (evs V F C L []).length - 1) (nn (p + L.length)) S1 := q1
  obtain ⟨m, hm⟩ : ∃ m, N - L.length = m + 1 := ⟨N - L.length - 1, by omega⟩
  refine ⟨S1, ?_, q3⟩
  rw [q1', hm, w_end hp2 hnp (by rw [q3.1 97 (by decide)]; exact h97) (by rw [q3.1 _ (by omega)]; exact h0)]
  unfold evl
  cases hev : evs V F C L [] with
  | nil => rw [hev] at q4; simp at q4
  | cons v r =>
    rw [hev] at q2 q4
    have : r = [] := by
      cases r with
      | nil => rfl
      | cons a b => simp at q4
    subst this
    rw [show S1.1 412 0 = v from q2.1]
    rfl
theorem e_disp {x1 xl x4 x6 x7 x8 x9 : Int32} {q a : Nat} (hq : ¬ (x1 + xl) ≤ nn q) (hq2 : q < 3000) (h0 : S.1 518 q = nn a) (ha : a < 100) : f_X12_eval_18 N (n + 1) x1 xl x4 (nn q) x6 x7 x8 x9 S =
    if a = 1 then
      if xin ((nn q) + 1) 3000 then
      if xin x4 200 then
      f_X12_eval_502 N (f_X12_eval_18 N n) x1 xl (x4 + 1) ((nn q) + 2) x6 x7 x8 x9 (sI S 524 x4.toNatClampNeg (S.1 518 (((nn q) + 1).toNatClampNeg)))
      else none
      else none
    else
      if a = 2 then
        if xin ((nn q) + 1) 3000 then
        if xin (S.1 518 (((nn q) + 1).toNatClampNeg)) 20 then
        if xin x4 200 then
        f_X12_eval_502 N (f_X12_eval_18 N n) x1 xl (x4 + 1) ((nn q) + 2) x6 x7 x8 x9 (sI S 524 x4.toNatClampNeg (S.1 510 ((S.1 518 (((nn q) + 1).toNatClampNeg)).toNatClampNeg)))
        else none
        else none
        else none
      else
        if a = 3 then
          if xin ((nn q) + 1) 3000 then
          xcI (f_X12_valueOf N x6 (S.1 518 (((nn q) + 1).toNatClampNeg)) S) (fun v147 S146 =>
          if xin x4 200 then
          f_X12_eval_502 N (f_X12_eval_18 N n) x1 xl (x4 + 1) ((nn q) + 2) x6 x7 x8 x9 (sI S146 524 x4.toNatClampNeg v147)
          else none
          )
          else none
        else
          if a = 4 then
            if xin ((nn q) + 1) 3000 then
            xcI (f_X12_cursorThere N (S.1 518 (((nn q) + 1).toNatClampNeg)) S) (fun v152 S151 =>
            if v152 = 0 then
              f_X12_eval_206 N (f_X12_eval_18 N n) x1 xl x4 (nn q) x6 x7 x8 x9 0 x4 S151
            else
              if xin (S.1 518 (((nn q) + 1).toNatClampNeg)) 12 then
              if xin ((64 * (S.1 518 (((nn q) + 1).toNatClampNeg))) + (S151.1 529 ((S.1 518 (((nn q) + 1).toNatClampNeg)).toNatClampNeg))) 768 then
              if xin ((nn q) + 2) 3000 then
              xcI (f_X12_valueOf N (S151.1 526 (((64 * (S.1 518 (((nn q) + 1).toNatClampNeg))) + (S151.1 529 ((S.1 518 (((nn q) + 1).toNatClampNeg)).toNatClampNeg))).toNatClampNeg)) (S151.1 518 (((nn q) + 2).toNatClampNeg)) S151) (fun v158 S157 =>
              f_X12_eval_206 N (f_X12_eval_18 N n) x1 xl x4 (nn q) x6 x7 x8 x9 v158 x4 S157
              )
              else none
              else none
              else none
            )
            else none
          else
            if a = 5 then
              f_X12_eval_229 N (f_X12_eval_18 N n) x1 xl x4 (nn q) x6 x7 x8 x9 (nn a) S
            else
              if a = 6 then
                f_X12_eval_229 N (f_X12_eval_18 N n) x1 xl x4 (nn q) x6 x7 x8 x9 (nn a) S
              else
                if a = 30 then
                  if xin ((nn q) + 2) 3000 then
                  xcI (f_X12_nextOf N (S.1 518 (((nn q) + 2).toNatClampNeg)) 0 S) (fun v164 S163 =>
                  if 64 ≤ v164 then
                    xcI (f_X12_endOf N (nn q) S163) (fun v167 S166 =>
                    f_X12_eval_333 N (f_X12_eval_18 N n) x1 xl x4 v164 (nn q) 0 0 v167 S166
                    )
                  else
                    f_X12_eval_333 N (f_X12_eval_18 N n) x1 xl x4 v164 (nn q) 0 0 ((nn q) + 4) S163
                  )
                  else none
                else
                  if a = 31 then
                    if xin (x4 + (-1)) 200 then
                    if (S.1 524 ((x4 + (-1)).toNatClampNeg)) = 0 then
                      f_X12_eval_413 N (f_X12_eval_18 N n) x1 xl (x4 + (-1)) (nn q) x6 x7 x8 x9 S
                    else
                      if xin (x7 + 1) 3000 then
                      if xin (x7 + 3) 3000 then
                      xcI (f_X12_valueOf N x6 (S.1 518 ((x7 + 3).toNatClampNeg)) S) (fun v174 S173 =>
                      xcI (f_X12_aggregated N (S.1 518 ((x7 + 1).toNatClampNeg)) x8 x9 v174 S173) (fun v176 S175 =>
                      f_X12_eval_413 N (f_X12_eval_18 N n) x1 xl (x4 + (-1)) (nn q) x6 x7 v176 (x9 + 1) S175
                      )
                      )
                      else none
                      else none
                    else none
                  else
                    if xin ((x4 + (-1)) - 1) 200 then
                    if xin (x4 + (-1)) 200 then
                    xcI (f_X12_operate N (nn a) (S.1 524 (((x4 + (-1)) - 1).toNatClampNeg)) (S.1 524 ((x4 + (-1)).toNatClampNeg)) S) (fun v180 S179 =>
                    f_X12_eval_502 N (f_X12_eval_18 N n) x1 xl (x4 + (-1)) ((nn q) + 1) x6 x7 x8 x9 (sI S179 524 (((x4 + (-1)) - 1).toNatClampNeg) v180)
                    )
                    else none
                    else none := by
  have ep : (nn q).toNatClampNeg = q := nn_t (by omega)
  have x3 : xin (nn q) 3000 := (xin_nn (by omega)).mpr hq2
  rw [f_X12_eval_18.eq_2, if_neg hq, if_pos x3]
  simp only [ep, h0, nn_eql (show a < 2147483648 by omega) (show (1 : Nat) < 2147483648 by decide), nn_eql (show a < 2147483648 by omega) (show (2 : Nat) < 2147483648 by decide), nn_eql (show a < 2147483648 by omega) (show (3 : Nat) < 2147483648 by decide), nn_eql (show a < 2147483648 by omega) (show (4 : Nat) < 2147483648 by decide), nn_eql (show a < 2147483648 by omega) (show (5 : Nat) < 2147483648 by decide), nn_eql (show a < 2147483648 by omega) (show (6 : Nat) < 2147483648 by decide), nn_eql (show a < 2147483648 by omega) (show (30 : Nat) < 2147483648 by decide), nn_eql (show a < 2147483648 by omega) (show (31 : Nat) < 2147483648 by decide)]
end EW
