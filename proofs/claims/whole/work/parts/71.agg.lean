/-! 71: aggregates, the class's -/
def agv (what : Nat) (res cn v : Int32) : Int32 := if what = 0 then res + 1 else if what = 1 then res + v else if cn = 0 then v else if what = 2 then (if res ≤ v then res else v) else (if v ≤ res then res else v)
def agf (what : Nat) (ch : Nat → Bool) (val : Nat → Int32) : Nat → Nat → Int32 → Int32 → Int32
  | 0, _, res, _ => res
  | d + 1, w, res, cn => if ch w = true then agf what ch val d (w + 1) (agv what res cn (val w)) (cn + 1) else agf what ch val d (w + 1) res cn
theorem agf_s {what : Nat} {ch : Nat → Bool} {val : Nat → Int32} {res cn : Int32} (d w : Nat) : agf what ch val (d + 1) w res cn = if ch w = true then agf what ch val d (w + 1) (agv what res cn (val w)) (cn + 1) else agf what ch val d (w + 1) res cn := rfl
theorem agf_c {what : Nat} {ch ch2 : Nat → Bool} {val val2 : Nat → Int32} : ∀ (d w : Nat) (res cn : Int32), (∀ v, w ≤ v → v < w + d → ch2 v = ch v ∧ (ch v = true → val2 v = val v)) → agf what ch2 val2 d w res cn = agf what ch val d w res cn := by
  intro d
  induction d with
  | zero => intro w res cn _; rfl
  | succ d ih =>
    intro w res cn h
    obtain ⟨h1, h2⟩ := h w (Nat.le_refl _) (by omega)
    unfold agf
    by_cases q : ch w = true
    · rw [if_pos q, if_pos (h1.trans q), h2 q]
      exact ih _ _ _ (fun v a b => h v (by omega) (by omega))
    · rw [if_neg q, if_neg (by rw [h1]; exact q)]
      exact ih _ _ _ (fun v a b => h v (by omega) (by omega))
theorem agf_skip {what : Nat} {ch : Nat → Bool} {val : Nat → Int32} {res cn : Int32} : ∀ (j d w : Nat), (∀ v, w ≤ v → v < w + j → ch v = false) → agf what ch val (j + d) w res cn = agf what ch val d (w + j) res cn := by
  intro j
  induction j with
  | zero => intro d w _; rw [Nat.zero_add, Nat.add_zero]
  | succ j ih =>
    intro d w h
    rw [show j + 1 + d = (j + d) + 1 by omega, agf_s, if_neg (by rw [h w (Nat.le_refl _) (by omega)]; decide), ih d (w + 1) (fun v a b => h v (by omega) (by omega)), show w + 1 + j = w + (j + 1) by omega]
theorem agf_0 {ch : Nat → Bool} {val : Nat → Int32} : ∀ (d w r : Nat) (cn : Int32), agf 0 ch val d w (nn r) cn = nn (r + cnt (fun i => ch (w + i)) d) := by
  intro d
  induction d with
  | zero => intro w r cn; rfl
  | succ d ih =>
    intro w r cn
    have e : cnt (fun i => ch (w + i)) (d + 1) = (ch w).toNat + cnt (fun i => ch (w + 1 + i)) d := by
      rw [show d + 1 = 1 + d by omega, cnt_a]
      congr 1
      · show 0 + (ch (w + 0)).toNat = _
        rw [Nat.zero_add, Nat.add_zero]
      · exact cnt_c d (fun i _ => by rw [show w + (1 + i) = w + 1 + i by omega])
    rw [e]
    unfold agf
    by_cases q : ch w = true
    · rw [if_pos q]
      have : agv 0 (nn r) cn (val w) = nn (r + 1) := by
        unfold agv
        rw [if_pos rfl, nn_addl]
      rw [this, ih, q]
      congr 1
      show r + 1 + _ = r + (1 + _)
      omega
    · rw [if_neg q, ih]
      have : ch w = false := by
        cases h : ch w
        · rfl
        · exact absurd h q
      rw [this]
      congr 1
      show r + _ = r + (0 + _)
      omega
section AG
variable {N : Nat} {S : xS} {V : Nat → Int32} {Fw : Nat → Nat → Int32} {C : Nat → Nat → Int32} {sc : Nat → Nat → Prop}
theorem p_agg36 {p what f : Nat} {y : Int64} (hp : p < 151) (hw : 1 ≤ what ∧ what ≤ 3) (h0 : S.1 (103 + 2 * p) 0 = 17 + nn what) (h3 : S.1 (103 + 2 * p) 3 = nn f) (hf : f < 6) : ∀ (d w n c : Nat) (x4 x5 : Int32), w + d = 64 → c ≤ w → x5 = (if c = 0 then 1 else 0) → d < n → f_X2_aggregate_36 N n (103 + 2 * p) y x4 x5 (nn w) S = some (rI (agf what (bt y) (fun v => S.1 (32 + v) f) d w x4 (nn c)) S) := by
  have xp : xPart (103 + 2 * p) := ⟨by omega, by omega, by omega⟩
  have e18 : (S.1 (103 + 2 * p) 0 = 18) ↔ what = 1 := by
    rw [h0, l_add_nn, nn_eql (by show 17 + what < 2147483648; omega) (by decide)]
    show 17 + what = 18 ↔ _
    omega
  have e19 : (S.1 (103 + 2 * p) 0 = 19) ↔ what = 2 := by
    rw [h0, l_add_nn, nn_eql (by show 17 + what < 2147483648; omega) (by decide)]
    show 17 + what = 19 ↔ _
    omega
  have ef : (nn f).toNatClampNeg = f := nn_t (by omega)
  have xf : xin (nn f) 6 := (xin_nn (by omega)).mpr hf
  intro d
  induction d with
  | zero =>
    intro w n c x4 x5 hw2 hc hx hn
    obtain ⟨n, rfl⟩ := Nat.exists_eq_succ_of_ne_zero (Nat.ne_of_gt (Nat.zero_lt_of_lt hn))
    rw [f_X2_aggregate_36.eq_2, if_pos (by simp (disch := omega) only [nn_add, nn_addl, l_add_nn, nn_sub, nn_subl, nn_m1, nn_mull, nn_t, nn_i, l_t, nn_lt, nn_le, nn_eq, nn_ltl, l_lt_nn, nn_lel, l_le_nn, nn_eql, l_eql, nn_nm1, xin_nn, xin_l, m1_lt, m1_le, m1_p, m1_z, dlt_T, dlt_F, dle_T, dle_F, deq_T, deq_F, sI_c, sI_n, sI_J, sI_E, sJ_c, sJ_n, sJ_I, sJ_E, sE_I, sE_J, sE_E, xcI_i, xcJ_i, xcR_i, xcV_i, xcI_e, xcJ_e, xcR_e, xcV_e, if_true, if_false, ite_true, ite_false, true_and, and_true, false_and, and_false, or_true, true_or, or_false, false_or, not_true_eq_false, not_false_eq_true, eq_self, ne_eq, ↓reduceIte, Nat.reduceEqDiff, Nat.reduceLT, Nat.reduceLeDiff, Nat.reduceAdd, Nat.reduceMul, Nat.reduceSub, Int32.reduceLT, Int32.reduceLE, reduceCtorEq])]
    rfl
  | succ d ih =>
    intro w n c x4 x5 hw2 hc hx hn
    obtain ⟨n, rfl⟩ := Nat.exists_eq_succ_of_ne_zero (Nat.ne_of_gt (Nat.zero_lt_of_lt hn))
    have hb := bt_0 y (w := w) (by omega)
    have ew : (nn w).toNatClampNeg = w := nn_t (by omega)
    have x64 : xin (nn w) 64 := (xin_nn (by omega)).mpr (by omega)
    unfold agf
    by_cases q : bt y w = true
    · rw [if_pos q]
      have hcn : (nn c + 1 : Int32) = nn (c + 1) := by rw [nn_addl]
      rw [hcn]
      have nx : ∀ v, f_X2_aggregate_131 N (f_X2_aggregate_36 N n) (103 + 2 * p) y v 0 (nn w) S = some (rI (agf what (bt y) (fun v => S.1 (32 + v) f) d (w + 1) v (nn (c + 1))) S) := fun v => by
        unfold f_X2_aggregate_131
        rw [nn_addl]
        exact ih (w + 1) n (c + 1) v 0 (by omega) (by omega) (by rw [if_neg (by omega)]) (by omega)
      rw [f_X2_aggregate_36.eq_2, if_neg (by simp (disch := omega) only [nn_add, nn_addl, l_add_nn, nn_sub, nn_subl, nn_m1, nn_mull, nn_t, nn_i, l_t, nn_lt, nn_le, nn_eq, nn_ltl, l_lt_nn, nn_lel, l_le_nn, nn_eql, l_eql, nn_nm1, xin_nn, xin_l, m1_lt, m1_le, m1_p, m1_z, dlt_T, dlt_F, dle_T, dle_F, deq_T, deq_F, sI_c, sI_n, sI_J, sI_E, sJ_c, sJ_n, sJ_I, sJ_E, sE_I, sE_J, sE_E, xcI_i, xcJ_i, xcR_i, xcV_i, xcI_e, xcJ_e, xcR_e, xcV_e, if_true, if_false, ite_true, ite_false, true_and, and_true, false_and, and_false, or_true, true_or, or_false, false_or, not_true_eq_false, not_false_eq_true, eq_self, ne_eq, ↓reduceIte, Nat.reduceEqDiff, Nat.reduceLT, Nat.reduceLeDiff, Nat.reduceAdd, Nat.reduceMul, Nat.reduceSub, Int32.reduceLT, Int32.reduceLE, reduceCtorEq]), if_neg (fun z => by rw [hb.mp z] at q; cases q), if_pos x64, if_pos xp]
      simp only [h3, if_pos xf, ew, ef, e18, e19]
      unfold f_X2_aggregate_128 f_X2_aggregate_124 f_X2_aggregate_128
      unfold agv
      rw [if_neg (show ¬ what = 0 by omega)]
      by_cases c1 : what = 1
      · rw [if_pos c1, if_pos c1]
        exact nx _
      · rw [if_neg c1, if_neg c1]
        by_cases c0 : c = 0
        · rw [if_neg (show ¬ x5 = 0 by rw [hx, if_pos c0]; decide), if_pos (show nn c = 0 by rw [c0]; rfl)]
          exact nx _
        · rw [if_pos (show x5 = 0 by rw [hx, if_neg c0]), if_neg (show ¬ nn c = 0 by simp (disch := omega) only [nn_add, nn_addl, l_add_nn, nn_sub, nn_subl, nn_m1, nn_mull, nn_t, nn_i, l_t, nn_lt, nn_le, nn_eq, nn_ltl, l_lt_nn, nn_lel, l_le_nn, nn_eql, l_eql, nn_nm1, xin_nn, xin_l, m1_lt, m1_le, m1_p, m1_z, dlt_T, dlt_F, dle_T, dle_F, deq_T, deq_F, sI_c, sI_n, sI_J, sI_E, sJ_c, sJ_n, sJ_I, sJ_E, sE_I, sE_J, sE_E, xcI_i, xcJ_i, xcR_i, xcV_i, xcI_e, xcJ_e, xcR_e, xcV_e, if_true, if_false, ite_true, ite_false, true_and, and_true, false_and, and_false, or_true, true_or, or_false, false_or, not_true_eq_false, not_false_eq_true, eq_self, ne_eq, ↓reduceIte, Nat.reduceEqDiff, Nat.reduceLT, Nat.reduceLeDiff, Nat.reduceAdd, Nat.reduceMul, Nat.reduceSub, Int32.reduceLT, Int32.reduceLE, reduceCtorEq])]
          by_cases c2 : what = 2
          · rw [if_pos c2, if_pos c2]
            by_cases c3 : x4 ≤ S.1 (32 + w) f
            · rw [if_pos c3, if_pos c3]; exact nx _
            · rw [if_neg c3, if_neg c3]; exact nx _
          · rw [if_neg c2, if_neg c2]
            by_cases c3 : S.1 (32 + w) f ≤ x4
            · rw [if_pos c3, if_pos c3]; exact nx _
            · rw [if_neg c3, if_neg c3]; exact nx _
    · have qf : bt y w = false := by
        cases h : bt y w
        · rfl
        · exact absurd h q
      rw [if_neg q, f_X2_aggregate_36.eq_2, if_neg (by simp (disch := omega) only [nn_add, nn_addl, l_add_nn, nn_sub, nn_subl, nn_m1, nn_mull, nn_t, nn_i, l_t, nn_lt, nn_le, nn_eq, nn_ltl, l_lt_nn, nn_lel, l_le_nn, nn_eql, l_eql, nn_nm1, xin_nn, xin_l, m1_lt, m1_le, m1_p, m1_z, dlt_T, dlt_F, dle_T, dle_F, deq_T, deq_F, sI_c, sI_n, sI_J, sI_E, sJ_c, sJ_n, sJ_I, sJ_E, sE_I, sE_J, sE_E, xcI_i, xcJ_i, xcR_i, xcV_i, xcI_e, xcJ_e, xcR_e, xcV_e, if_true, if_false, ite_true, ite_false, true_and, and_true, false_and, and_false, or_true, true_or, or_false, false_or, not_true_eq_false, not_false_eq_true, eq_self, ne_eq, ↓reduceIte, Nat.reduceEqDiff, Nat.reduceLT, Nat.reduceLeDiff, Nat.reduceAdd, Nat.reduceMul, Nat.reduceSub, Int32.reduceLT, Int32.reduceLE, reduceCtorEq]), if_pos (hb.mpr qf)]
      unfold f_X2_aggregate_131
      rw [nn_addl]
      exact ih (w + 1) n c x4 x5 (by omega) (by omega) hx (by omega)
/-- an aggregate's worth -/
theorem p_aggC {np k p what f : Nat} (hN : 1000 < N) (hk : k < 7) (hp : p < 151) (hw : what ≤ 3) (hf : f < 6) (o : Option (Nat × List xIt)) (h0 : S.1 (103 + 2 * p) 0 = 17 + nn what) (h2 : S.1 (103 + 2 * p) 2 = nn (k + 1)) (h3 : ¬ what = 0 → S.1 (103 + 2 * p) 3 = nn f) (h5 : S.1 (103 + 2 * p) 5 = oI o) (hc : ∀ z, o = some z → CND S np z.1 sc z.2) (he : ∀ v, v < 64 → bt (S.2.1 30 (k + 1)) v = true → envC S V (Fw v) C True sc (nn v)) :
    ∃ S', f_X2_aggregate N (103 + 2 * p) S = some (rI (agf what (fun v => bt (S.2.1 30 (k + 1)) v && chw V Fw C o v) (fun v => S.1 (32 + v) f) 64 0 0 0) S') ∧ k412 S S' := by
  have xp : xPart (103 + 2 * p) := ⟨by omega, by omega, by omega⟩
  obtain ⟨S1, y, r1, r2, r3⟩ := p_found (N := N) (V := V) (Fw := Fw) (C := C) hN hk o hc he
  refine ⟨S1, ?_, r2⟩
  have e0 : S1.1 (103 + 2 * p) = S.1 (103 + 2 * p) := r2.1 _ (by omega)
  have e17 : (S1.1 (103 + 2 * p) 0 = 17) ↔ what = 0 := by
    rw [e0, h0, l_add_nn, nn_eql (by show 17 + what < 2147483648; omega) (by decide)]
    show 17 + what = 17 ↔ _
    omega
  unfold f_X2_aggregate
  rw [if_pos xp, h2, h5, xcJ_of r1]
  by_cases c : what = 0
  · rw [if_pos (e17.mpr c), xcI_of p_bitCount, c]
    have := agf_0 (ch := fun v => bt (S.2.1 30 (k + 1)) v && chw V Fw C o v) (val := fun v => S.1 (32 + v) f) 64 0 0 0
    have e2 : cnt (fun i => (fun v => bt (S.2.1 30 (k + 1)) v && chw V Fw C o v) (0 + i)) 64 = cnt (bt y) 64 := cnt_c 64 (fun i hi => by
      rw [r3 i hi]
      simp)
    rw [e2, Nat.zero_add] at this
    rw [show (0 : Int32) = nn 0 from rfl, ← this]
    rfl
  · rw [if_neg (fun z => c (e17.mp z))]
    have := p_agg36 (N := N) (S := S1) (y := y) hp (show 1 ≤ what ∧ what ≤ 3 by omega) (by rw [e0]; exact h0) (by rw [e0]; exact h3 c) hf 64 0 N 0 0 1 (by omega) (by omega) rfl (by omega)
    have e3 : agf what (bt y) (fun v => S1.1 (32 + v) f) 64 0 0 (nn 0) = agf what (fun v => bt (S.2.1 30 (k + 1)) v && chw V Fw C o v) (fun v => S.1 (32 + v) f) 64 0 0 (nn 0) := agf_c 64 0 0 (nn 0) (fun v _ hv => ⟨r3 v (by omega), fun _ => by show S1.1 (32 + v) f = S.1 (32 + v) f; rw [r2.1 _ (by omega)]⟩)
    rw [e3] at this
    exact this
end AG
