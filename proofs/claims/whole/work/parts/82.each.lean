/-! 82: what is chosen, and cursors that begin -/
theorem fl_si {sc : Nat → Nat → Prop} : ∀ {E : List xCe}, (∀ e ∈ E, cok True sc e) → (∀ i ∈ fl E, iok True sc i) ∧ tg2 (fl E) = tgs E := by
  intro E
  induction E with
  | nil => intro _; exact ⟨fun i hi => (by cases hi), rfl⟩
  | cons e E ih =>
    intro h
    obtain ⟨h1, h2⟩ := ih (fun x hx => h x (List.mem_cons_of_mem _ hx))
    have he : iok True sc e.1 := by
      rcases h e List.mem_cons_self with z | z | z
      · exact z.1
      · exact absurd trivial z.1
      · exact absurd trivial z.1
    have h30 : ¬ e.1.1 = 30 := by
      intro z
      unfold iok at he
      omega
    have ef : fle e = [e.1] := if_neg h30
    rw [fl_cs, ef]
    refine ⟨fun i hi => ?_, ?_⟩
    · rcases List.mem_cons.mp hi with z | z
      · rw [z]; exact he
      · exact h1 i z
    · show e.1.1 :: tg2 (fl E) = _
      rw [h2]
      rfl
def k80 (b : Nat) (S S' : xS) : Prop := (∀ q j, ¬ (q = 480 + b ∨ q = 491 + b ∨ ((q = 501 ∨ q = 502) ∧ j = b)) → S'.1 q j = S.1 q j) ∧ S'.2 = S.2
def k26 (d : Nat) (S S' : xS) : Prop := (∀ q j, ¬ (((q = 526 ∨ q = 527) ∧ 64 * d ≤ j ∧ j < 64 * d + 64) ∨ ((q = 528 ∨ q = 529) ∧ j = d)) → S'.1 q j = S.1 q j) ∧ S'.2 = S.2
theorem k80_r (b : Nat) (S : xS) : k80 b S S := ⟨fun _ _ _ => rfl, rfl⟩
theorem k26_r (d : Nat) (S : xS) : k26 d S S := ⟨fun _ _ _ => rfl, rfl⟩
theorem k80_t {b : Nat} {A B D : xS} (h : k80 b A B) (g : k80 b B D) : k80 b A D := ⟨fun q j a => (g.1 q j a).trans (h.1 q j a), g.2.trans h.2⟩
theorem k26_t {d : Nat} {A B D : xS} (h : k26 d A B) (g : k26 d B D) : k26 d A D := ⟨fun q j a => (g.1 q j a).trans (h.1 q j a), g.2.trans h.2⟩
theorem k80_s {b c j : Nat} {S : xS} {v : Int32} (h : c = 480 + b ∨ c = 491 + b ∨ ((c = 501 ∨ c = 502) ∧ j = b)) : k80 b S (sI S c j v) := ⟨fun q j' a => by rw [sI_c, if_neg (by omega)], rfl⟩
theorem k26_s {d c j : Nat} {S : xS} {v : Int32} (h : ((c = 526 ∨ c = 527) ∧ 64 * d ≤ j ∧ j < 64 * d + 64) ∨ ((c = 528 ∨ c = 529) ∧ j = d)) : k26 d S (sI S c j v) := ⟨fun q j' a => by rw [sI_c, if_neg (by omega)], rfl⟩
theorem k80_q {b q : Nat} {S S' : xS} (hb : b < 10) (h : k80 b S S') (hq : q < 480 ∨ 502 < q) : S'.1 q = S.1 q := funext fun j => h.1 q j (by omega)
theorem k26_q {d q : Nat} {S S' : xS} (h : k26 d S S') (hq : q < 526 ∨ 529 < q) : S'.1 q = S.1 q := funext fun j => h.1 q j (by omega)
section EA
variable {N n t i C c sp ns np nu nk nv fu B sn ou p b d κ sz k f : Nat} {wd A ow : Nat → Nat} {D : Nat → xD} {Sc Sr Sc' Sr' : xS} {sc : Nat → Nat → Nat → Prop}
/-- both choose the same words -/
theorem chs {a : Nat} {Z : Nat → Int32} {o : Option (Nat × List xCe)} (hN : 1000 < N) (hP : PRG Sc Sr ns np nu nk nv wd A D) (hR : RT Sc Sr ow nk wd sn nv sc) (hk : k < nk) (hw : WHR Sc Z np k (sc2 sc) o) (hs : seg (Sr.1 518) a (whc o)) (ha : a + (whc o).length ≤ A ns) :
    ∃ (ch : Nat → Bool) (Sc' Sr' : xS) (y : Int64), f_X2_found N (nn (k + 1)) (Z 5) Sc = some (rJ y Sc') ∧ f_X12_choose N (nn k) (nn a) Sr = some (rV Sr') ∧ k412 Sc Sc' ∧ k531 Sr Sr' ∧ (∀ v, v < 64 → bt y v = ch v) ∧ (∀ v, v < 64 → Sr'.1 531 v = if ch v = true then 1 else 0) ∧ (∀ v, v < 64 → ch v = true → ow v = k + 1) := by
  have hnk : nk ≤ 7 := hR.1.2.2.2.2.2.2.1
  have hnp := hP.2.1
  have h97 := hP.2.2.2.2.1
  have hA := hP.2.2.2.2.2.2.1
  obtain ⟨o', e1, e2, e3, e4⟩ : ∃ o' : Option (Nat × List xIt), Z 5 = oI o' ∧ whc o = wcd o' ∧ (∀ z, o' = some z → CND Sc np z.1 (sc2 sc) z.2) ∧ (∀ z, o' = some z → (∀ i ∈ z.2, iok True (sc2 sc) i) ∧ dpx 0 (tg2 z.2) = some 1 ∧ z.2.length < 199) := by
    cases o with
    | none => exact ⟨none, hw, rfl, fun z hz => (by cases hz), fun z hz => (by cases hz)⟩
    | some z =>
      obtain ⟨w1, x1, x2, x3, x4, x5⟩ := hw
      obtain ⟨y1, y2⟩ := fl_si (E := z.2) (fun e he => by
        have := x3 e he
        have et : (¬ (k + 1) = 0) = True := eq_true (by omega)
        rw [et] at this
        exact this)
      refine ⟨some (z.1, fl z.2), w1, rfl, fun q hq => ?_, fun q hq => ?_⟩
      · injection hq with hq
        subst hq
        exact ⟨y1, x1, x2, by show z.1 + (fl z.2).length < np; omega, hnp, h97, by rw [y2]; exact x4⟩
      · injection hq with hq
        subst hq
        exact ⟨y1, by rw [y2]; exact x4, by show (fl z.2).length < 199; omega⟩
  rw [e1]
  rw [e2] at hs ha
  obtain ⟨S1, y, r1, r2, r3⟩ := p_found (N := N) (k := k) (V := Sc.1 410) (Fw := fun v f => Sc.1 (32 + v) f) (C := cvC Sc) hN (by omega) o' e3 (fun v hv _ => ENC_w (RT_c hR) hv)
  obtain ⟨S2, s1, s2, s3⟩ := p_choose (N := N) (k := k) (a := a) (ow := ow) (V := Sc.1 410) (Fw := fun v f => Sc.1 (32 + v) f) (C := cvC Sc) hN (by omega) o' e4 (by omega) (RT_r hR).1 hs (fun v hv ho => ENR_w (RT_r hR) hv (by omega))
  refine ⟨fun v => decide (ow v = k + 1) && chw (Sc.1 410) (fun v f => Sc.1 (32 + v) f) (cvC Sc) o' v, S1, S2, y, r1, s1, r2, s2, fun v hv => ?_, fun v hv => ?_, fun v hv hc => ?_⟩
  · rw [r3 v hv, hR.1.2.1 v hv (k + 1) (by omega) (by omega)]
  · rw [s3 v hv]
    simp only [Bool.and_eq_true, decide_eq_true_eq]
  · simp only [Bool.and_eq_true, decide_eq_true_eq] at hc
    exact hc.1
/-- a row of the two cursors -/
def VAL (Sc Sr : xS) (ow : Nat → Nat) (b d κ j : Nat) : Prop := ∃ w, w < 64 ∧ ow w = κ + 1 ∧ Sc.1 (480 + b) j = nn w ∧ Sr.1 526 (64 * d + j) = nn w ∧ Sr.1 527 (64 * d + j) = Sr.1 513 w
theorem VAL_n {j jc jr : Nat} {v1 v2 v3 : Int32} (h : VAL Sc Sr ow b d κ j) (hc : ¬ jc = j) (hr : ¬ jr = 64 * d + j) : VAL (sI Sc (480 + b) jc v1) (sI (sI Sr 526 jr v2) 527 jr v3) ow b d κ j := by
  obtain ⟨w, a1, a2, a3, a4, a5⟩ := h
  refine ⟨w, a1, a2, ?_, ?_, ?_⟩
  · rw [sI_c, if_neg (by omega)]; exact a3
  · rw [sI_n (by omega), sI_c, if_neg (by omega)]; exact a4
  · rw [sI_c, if_neg (by omega), sI_n (q' := 513) (by omega), sI_n (q' := 513) (by omega), sI_n (q' := 527) (by omega)]; exact a5
theorem ins_l {kc : Int32 → Int64 → Int32 → Nat → Int32 → Int32 → xS → Option xr} {kr : Int32 → Int32 → Int32 → Int32 → xS → Option xr} {y : Int64} {w : Nat} (hb : b < 10) (hd : d < 12) (hf : f < 6) (hw : w < 64) (hww : ow w = κ + 1) (hc : c < 64) : ∀ (e n m : Nat) (Sc Sr : xS), (∀ j, j < c + 1 → ¬ j = e → VAL Sc Sr ow b d κ j) → (∀ v, v < 64 → ow v = κ + 1 → Sc.1 (32 + v) f = Sr.1 512 (6 * v + f)) → e ≤ c → e < n → e < m →
    ∃ Sc' Sr', f_X0_begin_39 N kc n (nn b) y (nn f) (480 + b) (nn c) (nn w) (nn e) Sc = kc (nn b) y (nn f) (480 + b) (nn (c + 1)) (nn (w + 1)) Sc' ∧ f_X12_beginEach_60 N kr m (nn d) (nn f) (nn c) (nn w) (nn e) Sr = kr (nn d) (nn f) (nn (c + 1)) (nn (w + 1)) Sr' ∧ k80 b Sc Sc' ∧ k26 d Sr Sr' ∧ ∀ j, j < c + 1 → VAL Sc' Sr' ow b d κ j := by
  have xr80 : xReg480 (480 + b) := ⟨by omega, by omega⟩
  have xw : xin (nn w) 64 := (xin_nn (by omega)).mpr hw
  have ew : (nn w).toNatClampNeg = w := nn_t (by omega)
  have xf : xin (nn f) 6 := (xin_nn (by omega)).mpr hf
  have ef : (nn f).toNatClampNeg = f := nn_t (by omega)
  have fin : ∀ (e n m : Nat) (Sc Sr : xS), (∀ j, j < c + 1 → ¬ j = e → VAL Sc Sr ow b d κ j) → e ≤ c → ∃ Sc' Sr', f_X0_begin_96 N kc (nn b) y (nn f) (480 + b) (nn c) (nn w) (nn e) Sc = kc (nn b) y (nn f) (480 + b) (nn (c + 1)) (nn (w + 1)) Sc' ∧ f_X12_beginEach_162 N kr (nn d) (nn f) (nn c) (nn w) (nn e) Sr = kr (nn d) (nn f) (nn (c + 1)) (nn (w + 1)) Sr' ∧ k80 b Sc Sc' ∧ k26 d Sr Sr' ∧ ∀ j, j < c + 1 → VAL Sc' Sr' ow b d κ j := by
    intro e n m Sc Sr hv he
    refine ⟨sI Sc (480 + b) e (nn w), sI (sI Sr 526 (64 * d + e) (nn w)) 527 (64 * d + e) (Sr.1 513 w), ?_, ?_, k80_s (Or.inl rfl), k26_t (k26_s (by omega)) (k26_s (by omega)), fun j hj => ?_⟩
    · unfold f_X0_begin_96 f_X0_begin_106
      rw [if_pos xr80, if_pos ((xin_nn (by omega)).mpr (by omega)), nn_t (by omega), nn_addl, nn_addl]
    · unfold f_X12_beginEach_162 f_X12_beginEach_198
      rw [nn_mull, nn_add, if_pos ((xin_nn (by omega)).mpr (by omega)), if_pos xw, nn_t (by omega), ew, nn_addl, nn_addl]
    · by_cases q : j = e
      · subst q
        refine ⟨w, hw, hww, by simp (disch := omega) only [nn_add, nn_addl, l_add_nn, nn_sub, nn_subl, nn_m1, nn_mull, nn_t, nn_i, l_t, nn_lt, nn_le, nn_eq, nn_ltl, l_lt_nn, nn_lel, l_le_nn, nn_eql, l_eql, nn_nm1, xin_nn, xin_l, m1_lt, m1_le, m1_p, m1_z, dlt_T, dlt_F, dle_T, dle_F, deq_T, deq_F, sI_c, sI_n, sI_J, sI_E, sJ_c, sJ_n, sJ_I, sJ_E, sE_I, sE_J, sE_E, xcI_i, xcJ_i, xcR_i, xcV_i, xcI_e, xcJ_e, xcR_e, xcV_e, if_true, if_false, ite_true, ite_false, true_and, and_true, false_and, and_false, or_true, true_or, or_false, false_or, not_true_eq_false, not_false_eq_true, eq_self, ne_eq, ↓reduceIte, Nat.reduceEqDiff, Nat.reduceLT, Nat.reduceLeDiff, Nat.reduceAdd, Nat.reduceMul, Nat.reduceSub, Int32.reduceLT, Int32.reduceLE, reduceCtorEq], by simp (disch := omega) only [nn_add, nn_addl, l_add_nn, nn_sub, nn_subl, nn_m1, nn_mull, nn_t, nn_i, l_t, nn_lt, nn_le, nn_eq, nn_ltl, l_lt_nn, nn_lel, l_le_nn, nn_eql, l_eql, nn_nm1, xin_nn, xin_l, m1_lt, m1_le, m1_p, m1_z, dlt_T, dlt_F, dle_T, dle_F, deq_T, deq_F, sI_c, sI_n, sI_J, sI_E, sJ_c, sJ_n, sJ_I, sJ_E, sE_I, sE_J, sE_E, xcI_i, xcJ_i, xcR_i, xcV_i, xcI_e, xcJ_e, xcR_e, xcV_e, if_true, if_false, ite_true, ite_false, true_and, and_true, false_and, and_false, or_true, true_or, or_false, false_or, not_true_eq_false, not_false_eq_true, eq_self, ne_eq, ↓reduceIte, Nat.reduceEqDiff, Nat.reduceLT, Nat.reduceLeDiff, Nat.reduceAdd, Nat.reduceMul, Nat.reduceSub, Int32.reduceLT, Int32.reduceLE, reduceCtorEq], by simp (disch := omega) only [nn_add, nn_addl, l_add_nn, nn_sub, nn_subl, nn_m1, nn_mull, nn_t, nn_i, l_t, nn_lt, nn_le, nn_eq, nn_ltl, l_lt_nn, nn_lel, l_le_nn, nn_eql, l_eql, nn_nm1, xin_nn, xin_l, m1_lt, m1_le, m1_p, m1_z, dlt_T, dlt_F, dle_T, dle_F, deq_T, deq_F, sI_c, sI_n, sI_J, sI_E, sJ_c, sJ_n, sJ_I, sJ_E, sE_I, sE_J, sE_E, xcI_i, xcJ_i, xcR_i, xcV_i, xcI_e, xcJ_e, xcR_e, xcV_e, if_true, if_false, ite_true, ite_false, true_and, and_true, false_and, and_false, or_true, true_or, or_false, false_or, not_true_eq_false, not_false_eq_true, eq_self, ne_eq, ↓reduceIte, Nat.reduceEqDiff, Nat.reduceLT, Nat.reduceLeDiff, Nat.reduceAdd, Nat.reduceMul, Nat.reduceSub, Int32.reduceLT, Int32.reduceLE, reduceCtorEq]⟩
      · exact VAL_n (hv j hj q) (by omega) (by omega)
  intro e
  induction e with
  | zero =>
    intro n m Sc Sr hv hF he hn hm
    obtain ⟨n, rfl⟩ : ∃ k, n = k + 1 := ⟨n - 1, by omega⟩
    obtain ⟨m, rfl⟩ : ∃ k, m = k + 1 := ⟨m - 1, by omega⟩
    obtain ⟨S1, S2, r1, r2, r3⟩ := fin 0 n m Sc Sr hv he
    refine ⟨S1, S2, ?_, ?_, r3⟩
    · rw [f_X0_begin_39.eq_2, if_pos (by decide)]
      exact r1
    · rw [f_X12_beginEach_60.eq_2, if_pos (by decide)]
      exact r2
  | succ e ih =>
    intro n m Sc Sr hv hF he hn hm
    obtain ⟨n, rfl⟩ : ∃ k, n = k + 1 := ⟨n - 1, by omega⟩
    obtain ⟨m, rfl⟩ : ∃ k, m = k + 1 := ⟨m - 1, by omega⟩
    obtain ⟨w', a1, a2, a3, a4, a5⟩ := hv e (by omega) (by omega)
    have t0 : ¬ nn (e + 1) ≤ (0 : Int32) := by simp (disch := omega) only [nn_add, nn_addl, l_add_nn, nn_sub, nn_subl, nn_m1, nn_mull, nn_t, nn_i, l_t, nn_lt, nn_le, nn_eq, nn_ltl, l_lt_nn, nn_lel, l_le_nn, nn_eql, l_eql, nn_nm1, xin_nn, xin_l, m1_lt, m1_le, m1_p, m1_z, dlt_T, dlt_F, dle_T, dle_F, deq_T, deq_F, sI_c, sI_n, sI_J, sI_E, sJ_c, sJ_n, sJ_I, sJ_E, sE_I, sE_J, sE_E, xcI_i, xcJ_i, xcR_i, xcV_i, xcI_e, xcJ_e, xcR_e, xcV_e, if_true, if_false, ite_true, ite_false, true_and, and_true, false_and, and_false, or_true, true_or, or_false, false_or, not_true_eq_false, not_false_eq_true, eq_self, ne_eq, ↓reduceIte, Nat.reduceEqDiff, Nat.reduceLT, Nat.reduceLeDiff, Nat.reduceAdd, Nat.reduceMul, Nat.reduceSub, Int32.reduceLT, Int32.reduceLE, reduceCtorEq] <;> omega
    have ew' : (nn w').toNatClampNeg = w' := nn_t (by omega)
    have t1 : (nn (e + 1) - 1 : Int32) = nn e := nn_s1 e
    have te : (nn e).toNatClampNeg = e := nn_t (by omega)
    have te1 : (nn (e + 1)).toNatClampNeg = e + 1 := nn_t (by omega)
    have t2 : (64 * nn d + nn (e + 1) : Int32) = nn (64 * d + (e + 1)) := by rw [nn_mull, nn_add]
    have t3 : (nn (64 * d + (e + 1)) - 1 : Int32) = nn (64 * d + e) := nn_s1 (64 * d + e)
    have t4 : (6 * nn w' + nn f : Int32) = nn (6 * w' + f) := by rw [nn_mull, nn_add]
    have t5 : (6 * nn w + nn f : Int32) = nn (6 * w + f) := by rw [nn_mull, nn_add]
    have u1 : (nn (64 * d + e)).toNatClampNeg = 64 * d + e := nn_t (by omega)
    have u2 : (nn (64 * d + (e + 1))).toNatClampNeg = 64 * d + (e + 1) := nn_t (by omega)
    have u3 : (nn (6 * w' + f)).toNatClampNeg = 6 * w' + f := nn_t (by omega)
    have u4 : (nn (6 * w + f)).toNatClampNeg = 6 * w + f := nn_t (by omega)
    have x1 : xin (nn e) 64 := (xin_nn (by omega)).mpr (by omega)
    have x2 : xin (nn w') 64 := (xin_nn (by omega)).mpr a1
    have x3 : xin (nn (e + 1)) 64 := (xin_nn (by omega)).mpr (by omega)
    have x4 : xin (nn (64 * d + e)) 768 := (xin_nn (by omega)).mpr (by omega)
    have x5 : xin (nn (64 * d + (e + 1))) 768 := (xin_nn (by omega)).mpr (by omega)
    have x6 : xin (nn (6 * w' + f)) 384 := (xin_nn (by omega)).mpr (by omega)
    have x7 : xin (nn (6 * w + f)) 384 := (xin_nn (by omega)).mpr (by omega)
    rw [f_X0_begin_39.eq_2, f_X12_beginEach_60.eq_2]
    simp only [if_neg t0, if_pos xr80, t1, te, a3, ew', ef, ew, if_pos x1, if_pos x2, if_pos xf, if_pos xw, t2, t3, u1, a4, t4, t5, u3, u4, if_pos x4, if_pos x6, if_pos x7, hF w' a1 a2, hF w hw hww, te1, if_pos x3, u2, if_pos x5]
    by_cases q : Sr.1 512 (6 * w' + f) ≤ Sr.1 512 (6 * w + f)
    · simp only [if_pos q]
      exact fin (e + 1) n m Sc Sr hv he
    · simp only [if_neg q]
      have g1 : k80 b Sc (sI Sc (480 + b) (e + 1) (nn w')) := k80_s (Or.inl rfl)
      have g2 : k26 d Sr (sI (sI Sr 526 (64 * d + (e + 1)) (nn w')) 527 (64 * d + (e + 1)) (Sr.1 527 (64 * d + e))) := k26_t (k26_s (by omega)) (k26_s (by omega))
      obtain ⟨S1, S2, r1, r2, r3, r4, r5⟩ := ih n m (sI Sc (480 + b) (e + 1) (nn w')) (sI (sI Sr 526 (64 * d + (e + 1)) (nn w')) 527 (64 * d + (e + 1)) (Sr.1 527 (64 * d + e))) (fun j hj hj2 => by
        by_cases z : j = e + 1
        · subst z
          exact ⟨w', a1, a2, by simp (disch := omega) only [nn_add, nn_addl, l_add_nn, nn_sub, nn_subl, nn_m1, nn_mull, nn_t, nn_i, l_t, nn_lt, nn_le, nn_eq, nn_ltl, l_lt_nn, nn_lel, l_le_nn, nn_eql, l_eql, nn_nm1, xin_nn, xin_l, m1_lt, m1_le, m1_p, m1_z, dlt_T, dlt_F, dle_T, dle_F, deq_T, deq_F, sI_c, sI_n, sI_J, sI_E, sJ_c, sJ_n, sJ_I, sJ_E, sE_I, sE_J, sE_E, xcI_i, xcJ_i, xcR_i, xcV_i, xcI_e, xcJ_e, xcR_e, xcV_e, if_true, if_false, ite_true, ite_false, true_and, and_true, false_and, and_false, or_true, true_or, or_false, false_or, not_true_eq_false, not_false_eq_true, eq_self, ne_eq, ↓reduceIte, Nat.reduceEqDiff, Nat.reduceLT, Nat.reduceLeDiff, Nat.reduceAdd, Nat.reduceMul, Nat.reduceSub, Int32.reduceLT, Int32.reduceLE, reduceCtorEq], by simp (disch := omega) only [nn_add, nn_addl, l_add_nn, nn_sub, nn_subl, nn_m1, nn_mull, nn_t, nn_i, l_t, nn_lt, nn_le, nn_eq, nn_ltl, l_lt_nn, nn_lel, l_le_nn, nn_eql, l_eql, nn_nm1, xin_nn, xin_l, m1_lt, m1_le, m1_p, m1_z, dlt_T, dlt_F, dle_T, dle_F, deq_T, deq_F, sI_c, sI_n, sI_J, sI_E, sJ_c, sJ_n, sJ_I, sJ_E, sE_I, sE_J, sE_E, xcI_i, xcJ_i, xcR_i, xcV_i, xcI_e, xcJ_e, xcR_e, xcV_e, if_true, if_false, ite_true, ite_false, true_and, and_true, false_and, and_false, or_true, true_or, or_false, false_or, not_true_eq_false, not_false_eq_true, eq_self, ne_eq, ↓reduceIte, Nat.reduceEqDiff, Nat.reduceLT, Nat.reduceLeDiff, Nat.reduceAdd, Nat.reduceMul, Nat.reduceSub, Int32.reduceLT, Int32.reduceLE, reduceCtorEq], by simp (disch := omega) only [nn_add, nn_addl, l_add_nn, nn_sub, nn_subl, nn_m1, nn_mull, nn_t, nn_i, l_t, nn_lt, nn_le, nn_eq, nn_ltl, l_lt_nn, nn_lel, l_le_nn, nn_eql, l_eql, nn_nm1, xin_nn, xin_l, m1_lt, m1_le, m1_p, m1_z, dlt_T, dlt_F, dle_T, dle_F, deq_T, deq_F, sI_c, sI_n, sI_J, sI_E, sJ_c, sJ_n, sJ_I, sJ_E, sE_I, sE_J, sE_E, xcI_i, xcJ_i, xcR_i, xcV_i, xcI_e, xcJ_e, xcR_e, xcV_e, if_true, if_false, ite_true, ite_false, true_and, and_true, false_and, and_false, or_true, true_or, or_false, false_or, not_true_eq_false, not_false_eq_true, eq_self, ne_eq, ↓reduceIte, Nat.reduceEqDiff, Nat.reduceLT, Nat.reduceLeDiff, Nat.reduceAdd, Nat.reduceMul, Nat.reduceSub, Int32.reduceLT, Int32.reduceLE, reduceCtorEq]; exact a5⟩
        · exact VAL_n (hv j hj z) (by omega) (by omega)) (fun v hv1 hv2 => by
        rw [k80_q hb g1 (by omega), k26_q g2 (by omega)]
        exact hF v hv1 hv2) (by omega) (by omega) (by omega)
      refine ⟨S1, S2, ?_, ?_, k80_t g1 r3, k26_t g2 r4, r5⟩
      · rw [nn_m1 (by omega)]
        exact r1
      · rw [nn_m1 (by omega)]
        exact r2
/-- when each was entered -/
theorem ent_l (hb : b < 10) (hc : c ≤ 64) : ∀ (e j n : Nat) (S : xS), j + e = c → (∀ j', j' < c → ∃ w, w < 64 ∧ S.1 (480 + b) j' = nn w) → e < n →
    ∃ S', f_X0_begin_115 N n (nn b) (480 + b) (nn c) (nn j) S = some (rV S') ∧ k80 b S S' ∧ S'.1 501 b = nn c ∧ S'.1 502 b = -1 ∧ (∀ j', S'.1 (480 + b) j' = S.1 (480 + b) j') ∧ (∀ j', j' < j → S'.1 (491 + b) j' = S.1 (491 + b) j') ∧ ∀ j', j ≤ j' → j' < c → S'.1 (491 + b) j' = S.1 96 (S.1 (480 + b) j').toNatClampNeg := by
  have xr80 : xReg480 (480 + b) := ⟨by omega, by omega⟩
  have xb : xin (nn b) 10 := (xin_nn (by omega)).mpr hb
  have eb : (nn b).toNatClampNeg = b := nn_t (by omega)
  intro e
  induction e with
  | zero =>
    intro j n S hj hv hn
    obtain ⟨n, rfl⟩ : ∃ k, n = k + 1 := ⟨n - 1, by omega⟩
    refine ⟨sI (sI S 501 b (nn c)) 502 b (-1), ?_, k80_t (k80_s (by omega)) (k80_s (by omega)), by simp (disch := omega) only [nn_add, nn_addl, l_add_nn, nn_sub, nn_subl, nn_m1, nn_mull, nn_t, nn_i, l_t, nn_lt, nn_le, nn_eq, nn_ltl, l_lt_nn, nn_lel, l_le_nn, nn_eql, l_eql, nn_nm1, xin_nn, xin_l, m1_lt, m1_le, m1_p, m1_z, dlt_T, dlt_F, dle_T, dle_F, deq_T, deq_F, sI_c, sI_n, sI_J, sI_E, sJ_c, sJ_n, sJ_I, sJ_E, sE_I, sE_J, sE_E, xcI_i, xcJ_i, xcR_i, xcV_i, xcI_e, xcJ_e, xcR_e, xcV_e, if_true, if_false, ite_true, ite_false, true_and, and_true, false_and, and_false, or_true, true_or, or_false, false_or, not_true_eq_false, not_false_eq_true, eq_self, ne_eq, ↓reduceIte, Nat.reduceEqDiff, Nat.reduceLT, Nat.reduceLeDiff, Nat.reduceAdd, Nat.reduceMul, Nat.reduceSub, Int32.reduceLT, Int32.reduceLE, reduceCtorEq], by simp (disch := omega) only [nn_add, nn_addl, l_add_nn, nn_sub, nn_subl, nn_m1, nn_mull, nn_t, nn_i, l_t, nn_lt, nn_le, nn_eq, nn_ltl, l_lt_nn, nn_lel, l_le_nn, nn_eql, l_eql, nn_nm1, xin_nn, xin_l, m1_lt, m1_le, m1_p, m1_z, dlt_T, dlt_F, dle_T, dle_F, deq_T, deq_F, sI_c, sI_n, sI_J, sI_E, sJ_c, sJ_n, sJ_I, sJ_E, sE_I, sE_J, sE_E, xcI_i, xcJ_i, xcR_i, xcV_i, xcI_e, xcJ_e, xcR_e, xcV_e, if_true, if_false, ite_true, ite_false, true_and, and_true, false_and, and_false, or_true, true_or, or_false, false_or, not_true_eq_false, not_false_eq_true, eq_self, ne_eq, ↓reduceIte, Nat.reduceEqDiff, Nat.reduceLT, Nat.reduceLeDiff, Nat.reduceAdd, Nat.reduceMul, Nat.reduceSub, Int32.reduceLT, Int32.reduceLE, reduceCtorEq], fun j' => by simp (disch := omega) only [nn_add, nn_addl, l_add_nn, nn_sub, nn_subl, nn_m1, nn_mull, nn_t, nn_i, l_t, nn_lt, nn_le, nn_eq, nn_ltl, l_lt_nn, nn_lel, l_le_nn, nn_eql, l_eql, nn_nm1, xin_nn, xin_l, m1_lt, m1_le, m1_p, m1_z, dlt_T, dlt_F, dle_T, dle_F, deq_T, deq_F, sI_c, sI_n, sI_J, sI_E, sJ_c, sJ_n, sJ_I, sJ_E, sE_I, sE_J, sE_E, xcI_i, xcJ_i, xcR_i, xcV_i, xcI_e, xcJ_e, xcR_e, xcV_e, if_true, if_false, ite_true, ite_false, true_and, and_true, false_and, and_false, or_true, true_or, or_false, false_or, not_true_eq_false, not_false_eq_true, eq_self, ne_eq, ↓reduceIte, Nat.reduceEqDiff, Nat.reduceLT, Nat.reduceLeDiff, Nat.reduceAdd, Nat.reduceMul, Nat.reduceSub, Int32.reduceLT, Int32.reduceLE, reduceCtorEq], fun j' _ => by simp (disch := omega) only [nn_add, nn_addl, l_add_nn, nn_sub, nn_subl, nn_m1, nn_mull, nn_t, nn_i, l_t, nn_lt, nn_le, nn_eq, nn_ltl, l_lt_nn, nn_lel, l_le_nn, nn_eql, l_eql, nn_nm1, xin_nn, xin_l, m1_lt, m1_le, m1_p, m1_z, dlt_T, dlt_F, dle_T, dle_F, deq_T, deq_F, sI_c, sI_n, sI_J, sI_E, sJ_c, sJ_n, sJ_I, sJ_E, sE_I, sE_J, sE_E, xcI_i, xcJ_i, xcR_i, xcV_i, xcI_e, xcJ_e, xcR_e, xcV_e, if_true, if_false, ite_true, ite_false, true_and, and_true, false_and, and_false, or_true, true_or, or_false, false_or, not_true_eq_false, not_false_eq_true, eq_self, ne_eq, ↓reduceIte, Nat.reduceEqDiff, Nat.reduceLT, Nat.reduceLeDiff, Nat.reduceAdd, Nat.reduceMul, Nat.reduceSub, Int32.reduceLT, Int32.reduceLE, reduceCtorEq], fun j' h1 h2 => by omega⟩
    rw [f_X0_begin_115.eq_2, if_pos (by simp (disch := omega) only [nn_add, nn_addl, l_add_nn, nn_sub, nn_subl, nn_m1, nn_mull, nn_t, nn_i, l_t, nn_lt, nn_le, nn_eq, nn_ltl, l_lt_nn, nn_lel, l_le_nn, nn_eql, l_eql, nn_nm1, xin_nn, xin_l, m1_lt, m1_le, m1_p, m1_z, dlt_T, dlt_F, dle_T, dle_F, deq_T, deq_F, sI_c, sI_n, sI_J, sI_E, sJ_c, sJ_n, sJ_I, sJ_E, sE_I, sE_J, sE_E, xcI_i, xcJ_i, xcR_i, xcV_i, xcI_e, xcJ_e, xcR_e, xcV_e, if_true, if_false, ite_true, ite_false, true_and, and_true, false_and, and_false, or_true, true_or, or_false, false_or, not_true_eq_false, not_false_eq_true, eq_self, ne_eq, ↓reduceIte, Nat.reduceEqDiff, Nat.reduceLT, Nat.reduceLeDiff, Nat.reduceAdd, Nat.reduceMul, Nat.reduceSub, Int32.reduceLT, Int32.reduceLE, reduceCtorEq] <;> omega), if_pos xb, eb]
  | succ e ih =>
    intro j n S hj hv hn
    obtain ⟨n, rfl⟩ : ∃ k, n = k + 1 := ⟨n - 1, by omega⟩
    obtain ⟨w, a1, a2⟩ := hv j (by omega)
    have ej : (nn j).toNatClampNeg = j := nn_t (by omega)
    have ew : (nn w).toNatClampNeg = w := nn_t (by omega)
    have g1 : k80 b S (sI S (491 + b) j (S.1 96 w)) := k80_s (Or.inr (Or.inl rfl))
    obtain ⟨S1, r1, r2, r3, r4, r5, r6, r7⟩ := ih (j + 1) n (sI S (491 + b) j (S.1 96 w)) (by omega) (fun j' hj' => by
      obtain ⟨w2, c1, c2⟩ := hv j' hj'
      exact ⟨w2, c1, by simp (disch := omega) only [nn_add, nn_addl, l_add_nn, nn_sub, nn_subl, nn_m1, nn_mull, nn_t, nn_i, l_t, nn_lt, nn_le, nn_eq, nn_ltl, l_lt_nn, nn_lel, l_le_nn, nn_eql, l_eql, nn_nm1, xin_nn, xin_l, m1_lt, m1_le, m1_p, m1_z, dlt_T, dlt_F, dle_T, dle_F, deq_T, deq_F, sI_c, sI_n, sI_J, sI_E, sJ_c, sJ_n, sJ_I, sJ_E, sE_I, sE_J, sE_E, xcI_i, xcJ_i, xcR_i, xcV_i, xcI_e, xcJ_e, xcR_e, xcV_e, if_true, if_false, ite_true, ite_false, true_and, and_true, false_and, and_false, or_true, true_or, or_false, false_or, not_true_eq_false, not_false_eq_true, eq_self, ne_eq, ↓reduceIte, Nat.reduceEqDiff, Nat.reduceLT, Nat.reduceLeDiff, Nat.reduceAdd, Nat.reduceMul, Nat.reduceSub, Int32.reduceLT, Int32.reduceLE, reduceCtorEq]; exact c2⟩) (by omega)
    refine ⟨S1, ?_, k80_t g1 r2, r3, r4, fun j' => by rw [r5 j']; simp (disch := omega) only [nn_add, nn_addl, l_add_nn, nn_sub, nn_subl, nn_m1, nn_mull, nn_t, nn_i, l_t, nn_lt, nn_le, nn_eq, nn_ltl, l_lt_nn, nn_lel, l_le_nn, nn_eql, l_eql, nn_nm1, xin_nn, xin_l, m1_lt, m1_le, m1_p, m1_z, dlt_T, dlt_F, dle_T, dle_F, deq_T, deq_F, sI_c, sI_n, sI_J, sI_E, sJ_c, sJ_n, sJ_I, sJ_E, sE_I, sE_J, sE_E, xcI_i, xcJ_i, xcR_i, xcV_i, xcI_e, xcJ_e, xcR_e, xcV_e, if_true, if_false, ite_true, ite_false, true_and, and_true, false_and, and_false, or_true, true_or, or_false, false_or, not_true_eq_false, not_false_eq_true, eq_self, ne_eq, ↓reduceIte, Nat.reduceEqDiff, Nat.reduceLT, Nat.reduceLeDiff, Nat.reduceAdd, Nat.reduceMul, Nat.reduceSub, Int32.reduceLT, Int32.reduceLE, reduceCtorEq], fun j' hj' => by rw [r6 j' (by omega)]; simp (disch := omega) only [nn_add, nn_addl, l_add_nn, nn_sub, nn_subl, nn_m1, nn_mull, nn_t, nn_i, l_t, nn_lt, nn_le, nn_eq, nn_ltl, l_lt_nn, nn_lel, l_le_nn, nn_eql, l_eql, nn_nm1, xin_nn, xin_l, m1_lt, m1_le, m1_p, m1_z, dlt_T, dlt_F, dle_T, dle_F, deq_T, deq_F, sI_c, sI_n, sI_J, sI_E, sJ_c, sJ_n, sJ_I, sJ_E, sE_I, sE_J, sE_E, xcI_i, xcJ_i, xcR_i, xcV_i, xcI_e, xcJ_e, xcR_e, xcV_e, if_true, if_false, ite_true, ite_false, true_and, and_true, false_and, and_false, or_true, true_or, or_false, false_or, not_true_eq_false, not_false_eq_true, eq_self, ne_eq, ↓reduceIte, Nat.reduceEqDiff, Nat.reduceLT, Nat.reduceLeDiff, Nat.reduceAdd, Nat.reduceMul, Nat.reduceSub, Int32.reduceLT, Int32.reduceLE, reduceCtorEq], fun j' h1 h2 => ?_⟩
    · rw [f_X0_begin_115.eq_2, if_neg (by simp (disch := omega) only [nn_add, nn_addl, l_add_nn, nn_sub, nn_subl, nn_m1, nn_mull, nn_t, nn_i, l_t, nn_lt, nn_le, nn_eq, nn_ltl, l_lt_nn, nn_lel, l_le_nn, nn_eql, l_eql, nn_nm1, xin_nn, xin_l, m1_lt, m1_le, m1_p, m1_z, dlt_T, dlt_F, dle_T, dle_F, deq_T, deq_F, sI_c, sI_n, sI_J, sI_E, sJ_c, sJ_n, sJ_I, sJ_E, sE_I, sE_J, sE_E, xcI_i, xcJ_i, xcR_i, xcV_i, xcI_e, xcJ_e, xcR_e, xcV_e, if_true, if_false, ite_true, ite_false, true_and, and_true, false_and, and_false, or_true, true_or, or_false, false_or, not_true_eq_false, not_false_eq_true, eq_self, ne_eq, ↓reduceIte, Nat.reduceEqDiff, Nat.reduceLT, Nat.reduceLeDiff, Nat.reduceAdd, Nat.reduceMul, Nat.reduceSub, Int32.reduceLT, Int32.reduceLE, reduceCtorEq] <;> omega), if_pos xb, if_pos xr80, if_pos ((xin_nn (by omega)).mpr (by omega)), ej, a2, if_pos ((xin_nn (by omega)).mpr a1), ew, eb, nn_addl]
      exact r1
    · by_cases q : j' = j
      · subst q
        rw [r6 j' (by omega), a2, ew]
        simp (disch := omega) only [nn_add, nn_addl, l_add_nn, nn_sub, nn_subl, nn_m1, nn_mull, nn_t, nn_i, l_t, nn_lt, nn_le, nn_eq, nn_ltl, l_lt_nn, nn_lel, l_le_nn, nn_eql, l_eql, nn_nm1, xin_nn, xin_l, m1_lt, m1_le, m1_p, m1_z, dlt_T, dlt_F, dle_T, dle_F, deq_T, deq_F, sI_c, sI_n, sI_J, sI_E, sJ_c, sJ_n, sJ_I, sJ_E, sE_I, sE_J, sE_E, xcI_i, xcJ_i, xcR_i, xcV_i, xcI_e, xcJ_e, xcR_e, xcV_e, if_true, if_false, ite_true, ite_false, true_and, and_true, false_and, and_false, or_true, true_or, or_false, false_or, not_true_eq_false, not_false_eq_true, eq_self, ne_eq, ↓reduceIte, Nat.reduceEqDiff, Nat.reduceLT, Nat.reduceLeDiff, Nat.reduceAdd, Nat.reduceMul, Nat.reduceSub, Int32.reduceLT, Int32.reduceLE, reduceCtorEq]
      · rw [r7 j' (by omega) h2]
        simp (disch := omega) only [nn_add, nn_addl, l_add_nn, nn_sub, nn_subl, nn_m1, nn_mull, nn_t, nn_i, l_t, nn_lt, nn_le, nn_eq, nn_ltl, l_lt_nn, nn_lel, l_le_nn, nn_eql, l_eql, nn_nm1, xin_nn, xin_l, m1_lt, m1_le, m1_p, m1_z, dlt_T, dlt_F, dle_T, dle_F, deq_T, deq_F, sI_c, sI_n, sI_J, sI_E, sJ_c, sJ_n, sJ_I, sJ_E, sE_I, sE_J, sE_E, xcI_i, xcJ_i, xcR_i, xcV_i, xcI_e, xcJ_e, xcR_e, xcV_e, if_true, if_false, ite_true, ite_false, true_and, and_true, false_and, and_false, or_true, true_or, or_false, false_or, not_true_eq_false, not_false_eq_true, eq_self, ne_eq, ↓reduceIte, Nat.reduceEqDiff, Nat.reduceLT, Nat.reduceLeDiff, Nat.reduceAdd, Nat.reduceMul, Nat.reduceSub, Int32.reduceLT, Int32.reduceLE, reduceCtorEq]
theorem beg_l {y : Int64} {ch : Nat → Bool} (hN : 1000 < N) (hb : b < 10) (hd : d < 12) (hf : f < 6) (hy : ∀ v, v < 64 → bt y v = ch v) (hch : ∀ v, v < 64 → ch v = true → ow v = κ + 1) : ∀ (e w c n m : Nat) (Sc Sr : xS), w + e = 64 → c ≤ w → (∀ j, j < c → VAL Sc Sr ow b d κ j) → (∀ v, v < 64 → ow v = κ + 1 → Sc.1 (32 + v) f = Sr.1 512 (6 * v + f)) → (∀ v, v < 64 → Sr.1 531 v = if ch v = true then 1 else 0) → e < n → e < m →
    ∃ Sc' Sr' c', c' ≤ 64 ∧ f_X0_begin_14 N n (nn b) y (nn f) (480 + b) (nn c) (nn w) Sc = some (rV Sc') ∧ f_X12_beginEach_39 N m (nn d) (nn f) (nn c) (nn w) Sr = some (rV Sr') ∧ k80 b Sc Sc' ∧ k26 d Sr Sr' ∧ (∀ j, j < c' → VAL Sc' Sr' ow b d κ j ∧ Sc'.1 (491 + b) j = Sc'.1 96 (Sc'.1 (480 + b) j).toNatClampNeg) ∧ Sc'.1 501 b = nn c' ∧ Sc'.1 502 b = -1 ∧ Sr'.1 528 d = nn c' ∧ Sr'.1 529 d = -1 := by
  have xd : xin (nn d) 12 := (xin_nn (by omega)).mpr hd
  have ed : (nn d).toNatClampNeg = d := nn_t (by omega)
  intro e
  induction e with
  | zero =>
    intro w c n m Sc Sr hw hc hv hF h531 hn hm
    obtain ⟨n, rfl⟩ : ∃ k, n = k + 1 := ⟨n - 1, by omega⟩
    obtain ⟨m, rfl⟩ : ∃ k, m = k + 1 := ⟨m - 1, by omega⟩
    obtain ⟨S1, r1, r2, r3, r4, r5, r6, r7⟩ := ent_l (N := N) (b := b) (c := c) hb (by omega) c 0 N Sc (by omega) (fun j hj => by
      obtain ⟨w2, a1, a2, a3, _⟩ := hv j hj
      exact ⟨w2, a1, a3⟩) (by omega)
    refine ⟨S1, sI (sI Sr 528 d (nn c)) 529 d (-1), c, by omega, ?_, ?_, r2, k26_t (k26_s (by omega)) (k26_s (by omega)), fun j hj => ⟨?_, ?_⟩, r3, r4, by simp (disch := omega) only [nn_add, nn_addl, l_add_nn, nn_sub, nn_subl, nn_m1, nn_mull, nn_t, nn_i, l_t, nn_lt, nn_le, nn_eq, nn_ltl, l_lt_nn, nn_lel, l_le_nn, nn_eql, l_eql, nn_nm1, xin_nn, xin_l, m1_lt, m1_le, m1_p, m1_z, dlt_T, dlt_F, dle_T, dle_F, deq_T, deq_F, sI_c, sI_n, sI_J, sI_E, sJ_c, sJ_n, sJ_I, sJ_E, sE_I, sE_J, sE_E, xcI_i, xcJ_i, xcR_i, xcV_i, xcI_e, xcJ_e, xcR_e, xcV_e, if_true, if_false, ite_true, ite_false, true_and, and_true, false_and, and_false, or_true, true_or, or_false, false_or, not_true_eq_false, not_false_eq_true, eq_self, ne_eq, ↓reduceIte, Nat.reduceEqDiff, Nat.reduceLT, Nat.reduceLeDiff, Nat.reduceAdd, Nat.reduceMul, Nat.reduceSub, Int32.reduceLT, Int32.reduceLE, reduceCtorEq], by simp (disch := omega) only [nn_add, nn_addl, l_add_nn, nn_sub, nn_subl, nn_m1, nn_mull, nn_t, nn_i, l_t, nn_lt, nn_le, nn_eq, nn_ltl, l_lt_nn, nn_lel, l_le_nn, nn_eql, l_eql, nn_nm1, xin_nn, xin_l, m1_lt, m1_le, m1_p, m1_z, dlt_T, dlt_F, dle_T, dle_F, deq_T, deq_F, sI_c, sI_n, sI_J, sI_E, sJ_c, sJ_n, sJ_I, sJ_E, sE_I, sE_J, sE_E, xcI_i, xcJ_i, xcR_i, xcV_i, xcI_e, xcJ_e, xcR_e, xcV_e, if_true, if_false, ite_true, ite_false, true_and, and_true, false_and, and_false, or_true, true_or, or_false, false_or, not_true_eq_false, not_false_eq_true, eq_self, ne_eq, ↓reduceIte, Nat.reduceEqDiff, Nat.reduceLT, Nat.reduceLeDiff, Nat.reduceAdd, Nat.reduceMul, Nat.reduceSub, Int32.reduceLT, Int32.reduceLE, reduceCtorEq]⟩
    · rw [f_X0_begin_14.eq_2, if_pos (by simp (disch := omega) only [nn_add, nn_addl, l_add_nn, nn_sub, nn_subl, nn_m1, nn_mull, nn_t, nn_i, l_t, nn_lt, nn_le, nn_eq, nn_ltl, l_lt_nn, nn_lel, l_le_nn, nn_eql, l_eql, nn_nm1, xin_nn, xin_l, m1_lt, m1_le, m1_p, m1_z, dlt_T, dlt_F, dle_T, dle_F, deq_T, deq_F, sI_c, sI_n, sI_J, sI_E, sJ_c, sJ_n, sJ_I, sJ_E, sE_I, sE_J, sE_E, xcI_i, xcJ_i, xcR_i, xcV_i, xcI_e, xcJ_e, xcR_e, xcV_e, if_true, if_false, ite_true, ite_false, true_and, and_true, false_and, and_false, or_true, true_or, or_false, false_or, not_true_eq_false, not_false_eq_true, eq_self, ne_eq, ↓reduceIte, Nat.reduceEqDiff, Nat.reduceLT, Nat.reduceLeDiff, Nat.reduceAdd, Nat.reduceMul, Nat.reduceSub, Int32.reduceLT, Int32.reduceLE, reduceCtorEq] <;> omega)]
      exact r1
    · rw [f_X12_beginEach_39.eq_2, if_pos (by simp (disch := omega) only [nn_add, nn_addl, l_add_nn, nn_sub, nn_subl, nn_m1, nn_mull, nn_t, nn_i, l_t, nn_lt, nn_le, nn_eq, nn_ltl, l_lt_nn, nn_lel, l_le_nn, nn_eql, l_eql, nn_nm1, xin_nn, xin_l, m1_lt, m1_le, m1_p, m1_z, dlt_T, dlt_F, dle_T, dle_F, deq_T, deq_F, sI_c, sI_n, sI_J, sI_E, sJ_c, sJ_n, sJ_I, sJ_E, sE_I, sE_J, sE_E, xcI_i, xcJ_i, xcR_i, xcV_i, xcI_e, xcJ_e, xcR_e, xcV_e, if_true, if_false, ite_true, ite_false, true_and, and_true, false_and, and_false, or_true, true_or, or_false, false_or, not_true_eq_false, not_false_eq_true, eq_self, ne_eq, ↓reduceIte, Nat.reduceEqDiff, Nat.reduceLT, Nat.reduceLeDiff, Nat.reduceAdd, Nat.reduceMul, Nat.reduceSub, Int32.reduceLT, Int32.reduceLE, reduceCtorEq] <;> omega), if_pos xd, ed]
    · obtain ⟨w2, a1, a2, a3, a4, a5⟩ := hv j hj
      exact ⟨w2, a1, a2, by rw [r5 j]; exact a3, by simp (disch := omega) only [nn_add, nn_addl, l_add_nn, nn_sub, nn_subl, nn_m1, nn_mull, nn_t, nn_i, l_t, nn_lt, nn_le, nn_eq, nn_ltl, l_lt_nn, nn_lel, l_le_nn, nn_eql, l_eql, nn_nm1, xin_nn, xin_l, m1_lt, m1_le, m1_p, m1_z, dlt_T, dlt_F, dle_T, dle_F, deq_T, deq_F, sI_c, sI_n, sI_J, sI_E, sJ_c, sJ_n, sJ_I, sJ_E, sE_I, sE_J, sE_E, xcI_i, xcJ_i, xcR_i, xcV_i, xcI_e, xcJ_e, xcR_e, xcV_e, if_true, if_false, ite_true, ite_false, true_and, and_true, false_and, and_false, or_true, true_or, or_false, false_or, not_true_eq_false, not_false_eq_true, eq_self, ne_eq, ↓reduceIte, Nat.reduceEqDiff, Nat.reduceLT, Nat.reduceLeDiff, Nat.reduceAdd, Nat.reduceMul, Nat.reduceSub, Int32.reduceLT, Int32.reduceLE, reduceCtorEq]; exact a4, by simp (disch := omega) only [nn_add, nn_addl, l_add_nn, nn_sub, nn_subl, nn_m1, nn_mull, nn_t, nn_i, l_t, nn_lt, nn_le, nn_eq, nn_ltl, l_lt_nn, nn_lel, l_le_nn, nn_eql, l_eql, nn_nm1, xin_nn, xin_l, m1_lt, m1_le, m1_p, m1_z, dlt_T, dlt_F, dle_T, dle_F, deq_T, deq_F, sI_c, sI_n, sI_J, sI_E, sJ_c, sJ_n, sJ_I, sJ_E, sE_I, sE_J, sE_E, xcI_i, xcJ_i, xcR_i, xcV_i, xcI_e, xcJ_e, xcR_e, xcV_e, if_true, if_false, ite_true, ite_false, true_and, and_true, false_and, and_false, or_true, true_or, or_false, false_or, not_true_eq_false, not_false_eq_true, eq_self, ne_eq, ↓reduceIte, Nat.reduceEqDiff, Nat.reduceLT, Nat.reduceLeDiff, Nat.reduceAdd, Nat.reduceMul, Nat.reduceSub, Int32.reduceLT, Int32.reduceLE, reduceCtorEq]; exact a5⟩
    · rw [r7 j (by omega) hj, r5 j, k80_q hb r2 (by omega)]
  | succ e ih =>
    intro w c n m Sc Sr hw hc hv hF h531 hn hm
    obtain ⟨n, rfl⟩ : ∃ k, n = k + 1 := ⟨n - 1, by omega⟩
    obtain ⟨m, rfl⟩ : ∃ k, m = k + 1 := ⟨m - 1, by omega⟩
    have n64 : ¬ (64 : Int32) ≤ nn w := by simp (disch := omega) only [nn_add, nn_addl, l_add_nn, nn_sub, nn_subl, nn_m1, nn_mull, nn_t, nn_i, l_t, nn_lt, nn_le, nn_eq, nn_ltl, l_lt_nn, nn_lel, l_le_nn, nn_eql, l_eql, nn_nm1, xin_nn, xin_l, m1_lt, m1_le, m1_p, m1_z, dlt_T, dlt_F, dle_T, dle_F, deq_T, deq_F, sI_c, sI_n, sI_J, sI_E, sJ_c, sJ_n, sJ_I, sJ_E, sE_I, sE_J, sE_E, xcI_i, xcJ_i, xcR_i, xcV_i, xcI_e, xcJ_e, xcR_e, xcV_e, if_true, if_false, ite_true, ite_false, true_and, and_true, false_and, and_false, or_true, true_or, or_false, false_or, not_true_eq_false, not_false_eq_true, eq_self, ne_eq, ↓reduceIte, Nat.reduceEqDiff, Nat.reduceLT, Nat.reduceLeDiff, Nat.reduceAdd, Nat.reduceMul, Nat.reduceSub, Int32.reduceLT, Int32.reduceLE, reduceCtorEq] <;> omega
    have xw : xin (nn w) 64 := (xin_nn (by omega)).mpr (by omega)
    have ew : (nn w).toNatClampNeg = w := nn_t (by omega)
    rw [f_X0_begin_14.eq_2, f_X12_beginEach_39.eq_2, if_neg n64, if_neg n64, if_pos xw, ew, h531 w (by omega)]
    by_cases q : ch w = true
    · have q1 : ¬ (lg_cmp ((((y : Int64).toUInt64 >>> ((nn w : Int32).toInt64.toUInt64 &&& Int64.toUInt64 63)).toInt64) &&& 1) 0 = 0) := fun z => by
        have := (bt_0 y (w := w) (by omega)).mp z
        rw [hy w (by omega), q] at this
        cases this
      rw [if_neg q1, if_pos q, if_neg (by decide)]
      obtain ⟨S1, S2, r1, r2, r3, r4, r5⟩ := ins_l (N := N) (y := y) (kc := f_X0_begin_14 N n) (kr := f_X12_beginEach_39 N m) (w := w) (κ := κ) (ow := ow) hb hd hf (by omega) (hch w (by omega) q) (c := c) (by omega) c N N Sc Sr (fun j h1 h2 => hv j (by omega)) hF (by omega) (by omega) (by omega)
      obtain ⟨S3, S4, c', s0, s1, s2, s3, s4, s5⟩ := ih (w + 1) (c + 1) n m S1 S2 (by omega) (by omega) r5 (fun v h1 h2 => by rw [k80_q hb r3 (by omega), k26_q r4 (by omega)]; exact hF v h1 h2) (fun v hv1 => by rw [k26_q r4 (by omega)]; exact h531 v hv1) (by omega) (by omega)
      exact ⟨S3, S4, c', s0, r1.trans s1, r2.trans s2, k80_t r3 s3, k26_t r4 s4, s5⟩
    · have q1 : (lg_cmp ((((y : Int64).toUInt64 >>> ((nn w : Int32).toInt64.toUInt64 &&& Int64.toUInt64 63)).toInt64) &&& 1) 0 = 0) := (bt_0 y (w := w) (by omega)).mpr (by
        rw [hy w (by omega)]
        exact Bool.eq_false_iff.mpr q)
      rw [if_pos q1, if_neg q, if_pos rfl]
      unfold f_X0_begin_106 f_X12_beginEach_198
      rw [nn_addl]
      exact ih (w + 1) c n m Sc Sr (by omega) (by omega) hv hF h531 (by omega) (by omega)
theorem CST_b {b' d' : Nat} (h : CST Sc Sr ow sn b' d' κ) (hb : b < 10) (hb' : b' < b) (hd' : d' < d) (h1 : k80 b Sc Sc') (h2 : k26 d Sr Sr') : CST Sc' Sr' ow sn b' d' κ := by
  obtain ⟨k, sz, a1, a2, a3, a4, a5, a6, a7⟩ := h
  refine ⟨k, sz, a1, by rw [h1.1 _ _ (by omega)]; exact a2, by rw [h2.1 _ _ (by omega)]; exact a3, a4, by rw [h1.1 _ _ (by omega)]; exact a5, by rw [h2.1 _ _ (by omega)]; exact a6, fun j hj => ?_⟩
  obtain ⟨w, u, b1, b2, b3, b4, b5, b6, b7, b8⟩ := a7 j hj
  refine ⟨w, u, b1, b2, b3, ?_, ?_, ?_, ?_, ?_⟩
  · rw [h1.1 _ _ (by omega)]; exact b4
  · rw [h2.1 _ _ (by omega)]; exact b5
  · rw [h1.1 _ _ (by omega)]; exact b6
  · rw [h2.1 _ _ (by omega)]; exact b7
  · rw [h1.1 _ _ (by omega)]; exact b8
theorem whc_h {o : Option (Nat × List xCe)} : ∃ x L, whc o = nn x :: L ∧ x + 1 = (whc o).length := by
  cases o with
  | none => exact ⟨0, [], rfl, rfl⟩
  | some z => exact ⟨(cE z.2).length, cE z.2, rfl, rfl⟩
theorem t_each {o : Option (Nat × List xCe)} (hN : 1000 < N) (hi : i < ns) (h : PS ns np nu nk nv fu B wd A D i sp ow sn ou Sc Sr) (ha : (D i).1 = 8) (h0 : Sc.1 (102 + 2 * i) 0 = nn (D i).1) (hk : k < nk) (hf : f < 6) (z1 : Sc.1 (102 + 2 * i) 1 = nn (k + 1)) (z2 : Sc.1 (102 + 2 * i) 2 = nn f) (z3 : Sc.1 (102 + 2 * i) 3 = nn (D i).2.2.2.1) (hw : WHR Sc (Sc.1 (102 + 2 * i)) np k (sc2 (D i).2.2.2.2.2) o) (hk2 : k = (D i).2.2.1) (hs : seg (Sr.1 518) (A i) (100 :: 106 :: nn (D i).2.2.2.2.1 :: nn k :: nn f :: whc o)) (hA : A (i + 1) = A i + 5 + (whc o).length) : OUT N ns np nu nk nv fu B wd A D t 4 (fun _ q => q = sp) (fun n => f_X2_goThrough_74 N (f_X2_goThrough_14 N n) (nn (i + 1)) (nn t) (102 + 2 * i) Sc) (fun n => f_X12_run_58 N n (nn (A i + 1)) Sr) := by
  have hps := h
  obtain ⟨h1, h2, h3, h4, h5, h6⟩ := h
  have hn := h1.1
  have hA8 := h1.2.2.2.2.2.2.1
  obtain ⟨l1, l2⟩ := PRG_lt h1 hi
  obtain ⟨f1, f2, f3, f4, f5⟩ := h1.2.2.2.2.2.2.2.2.2.1 i hi
  have hi1 : i + 1 < ns := by
    by_cases q : i + 1 = ns
    · exact absurd ha (h1.2.2.2.2.2.2.2.2.2.2 i q)
    · omega
  obtain ⟨y1, y2, y3⟩ := f2 ha hi1
  obtain ⟨_, _, _, f6, _⟩ := h1.2.2.2.2.2.2.2.2.2.1 (i + 1) hi1
  obtain ⟨y4, y5, y6⟩ := f6.2.1 y1
  rw [y2] at y4
  rw [y3] at y5
  rw [y2, y3] at y6
  rw [ha] at h0
  obtain ⟨x, L, wx, wl⟩ := whc_h (o := o)
  obtain ⟨_, s1⟩ := seg_hd hs
  obtain ⟨c0, s2⟩ := seg_hd s1
  obtain ⟨c1, s3⟩ := seg_hd s2
  obtain ⟨c2, s4⟩ := seg_hd s3
  obtain ⟨c3, s5⟩ := seg_hd s4
  have c4 : Sr.1 518 (A i + 1 + 1 + 1 + 1 + 1) = nn x := by
    have := s5
    rw [wx] at this
    exact (seg_hd this).1
  generalize (D i).2.2.2.1 = b at *
  generalize (D i).2.2.2.2.1 = d at *
  obtain ⟨ch, S1, S2, y, r1, r2, r3, r4, r5, r6, r7⟩ := chs (N := N) hN h1 h3 hk hw s5 (by omega)
  have kv1 : kv Sc S1 := ⟨fun q j a _ => by rw [r3.1 q a], r3.2⟩
  obtain ⟨k1, k2, k3, k4, k5, k6⟩ := PS_v hps kv1 r4
  have hnk : nk ≤ 7 := k3.1.2.2.2.2.2.2.1
  obtain ⟨S3, S4, c', q0, q1, q2, q3, q4, q5, q6, q7, q8, q9⟩ := beg_l (N := N) (y := y) (ch := ch) (ow := ow) (κ := k) hN y4 y5 hf r5 r7 64 0 0 N N S1 S2 (by omega) (by omega) (fun j hj => by omega) (fun v h1 h2 => (k3.1.2.2.1 v h1 (by omega)).1 f hf) r6 (by omega) (by omega)
  have ca : f_X2_act N (102 + 2 * i) Sc = some (rV S3) := by
    rw [a_disp (c := 8) (by omega) h0 (by decide), if_neg (by decide), if_neg (by decide), if_neg (by decide), if_neg (by decide), if_pos rfl, z1, z3, xcJ_of r1, r3.1 (102 + 2 * i) (by omega), z2]
    have e : f_X0_begin N (nn b) y (nn f) S1 = some (rV S3) := by
      unfold f_X0_begin
      rw [if_pos ((xin_nn (by omega)).mpr y4), nn_t (by omega)]
      exact q1
    rw [xcV_of e]
    rfl
  have g518 : S4.1 518 = Sr.1 518 := by rw [k26_q q4 (by omega), r4.1 518 (by decide) (by decide)]
  have rr : ∀ n, f_X12_run_58 N (n + 1) (nn (A i + 1)) Sr = f_X12_run_58 N n (nn (A (i + 1))) S4 := fun n => by
    rw [r_turn h1 (by omega), r_disp (by omega) c0 (by decide), if_neg (by decide), if_neg (by decide), if_neg (by decide), if_neg (by decide), if_neg (by decide), if_neg (by decide), if_pos rfl]
    have e : f_X12_beginEach N (nn (A i + 1)) Sr = some (rV S4) := by
      unfold f_X12_beginEach
      simp only [nn_addl, show (nn (A i + 1 + 1)).toNatClampNeg = A i + 1 + 1 from nn_t (by omega), show (nn (A i + 1 + 2)).toNatClampNeg = A i + 1 + 2 from nn_t (by omega), show (nn (A i + 1 + 3)).toNatClampNeg = A i + 1 + 3 from nn_t (by omega), if_pos ((xin_nn (a := A i + 1 + 1) (n := 3000) (by omega)).mpr (by omega)), if_pos ((xin_nn (a := A i + 1 + 2) (n := 3000) (by omega)).mpr (by omega)), if_pos ((xin_nn (a := A i + 1 + 3) (n := 3000) (by omega)).mpr (by omega))]
      have c1' : Sr.1 518 (A i + 1 + 1) = nn d := c1
      have c2' : Sr.1 518 (A i + 1 + 2) = nn k := c2
      have c3' : Sr.1 518 (A i + 1 + 3) = nn f := c3
      have r2' : f_X12_choose N (nn k) (nn (A i + 1 + 4)) Sr = some (rV S2) := r2
      rw [c1', c2', c3', xcV_of r2']
      exact q2
    rw [xcV_of e]
    have c4' : Sr.1 518 (A i + 1 + 4) = nn x := c4
    simp only [nn_addl, show (nn (A i + 1 + 4)).toNatClampNeg = A i + 1 + 4 from nn_t (by omega), if_pos ((xin_nn (a := A i + 1 + 4) (n := 3000) (by omega)).mpr (by omega)), g518, c4', nn_add]
    rw [xcI_i, hA, show A i + 1 + 5 + x = A i + 5 + (whc o).length by omega]
  refine Or.inr ⟨i + 1, sp, S3, S4, hi, fun n => g_act (c := 8) (by omega) h0 (by decide) (by decide) (by decide) (by decide) (by decide) (by decide) ca, ⟨1, by omega, rr⟩, ⟨ow, sn, ou, ?_, ?_, ⟨?_, ?_, ?_⟩, ?_, ?_, by omega, by omega⟩, rfl⟩
  · exact PRG_g k1 (fun q j hq _ => by rw [k80_q y4 q3 (by omega)]) (k26_q q4 (by omega)) (by rw [k26_q q4 (by omega)])
  · exact KDS_x k2 hnk (fun q a b => k80_q y4 q3 (by omega)) (k26_q q4 (by omega))
  · exact DBR_y k3.1 (fun q a b => k80_q y4 q3 (by omega)) (by rw [q3.2]) (fun q a b => k26_q q4 (by omega)) (by rw [k26_q q4 (by omega)])
  · intro u hu
    rw [k80_q y4 q3 (by omega), k26_q q4 (by omega)]
    exact k3.2.1 u hu
  · intro b' d' κ' z
    rcases f1 (by omega) b' d' κ' z with g | ⟨g, _⟩
    · obtain ⟨g1, g2, g3⟩ := k3.2.2 b' d' κ' g
      rw [scj_lt hi1] at z
      obtain ⟨g4, g5⟩ := y6 b' d' κ' z
      exact ⟨g1, g2, CST_b g3 y4 g4 g5 q3 q4⟩
    · omega
  · intro g1 g2
    rw [y2, y3, show i + 1 - 1 = i by omega, ← hk2]
    refine ⟨y4, y5, 0, c', by omega, by rw [q7]; rfl, by rw [q9]; rfl, q0, q6, q8, fun j hj => ?_⟩
    obtain ⟨⟨w, v1, v2, v3, v4, v5⟩, v6⟩ := q5 j hj
    have d3 := k3.1.2.2.1 w v1 (by omega)
    obtain ⟨_, _, u, u1, u2, u3, u4⟩ := d3
    have e96 : S3.1 96 w = nn u := by rw [k80_q y4 q3 (by omega)]; exact u3
    have e513 : S4.1 513 w = nn u := by rw [k26_q q4 (by omega)]; exact u4
    refine ⟨w, u, v1, u1, u2, v3, v4, ?_, by rw [v5]; exact e513, fun _ => v2⟩
    rw [v6, v3, nn_t (by omega)]
    exact e96
  · exact RM_x k4 (k80_q y4 q3 (by omega)) (k80_q y4 q3 (by omega)) ⟨by rw [k26_q q4 (by omega)], by rw [k26_q q4 (by omega)], by rw [k26_q q4 (by omega)], by rw [k26_q q4 (by omega)]; exact k4.2.2.2.2.2.2.2.2.2.2⟩ (k26_q q4 (by omega))
end EA
