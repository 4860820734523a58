/-! 97: the law -/
section LL
variable {N B B' n zn k : Nat} {Z : Nat → Int32} {S S1 S2 : xS} {c1 c2 : String} {fc q1 : Option xr} {fr K K' : xS → Option xr} {rc : xr}
theorem W_g (hcal : ∀ Sr, LR B S Sr → CAL k B' c1 c2 S Sr fc (fr Sr)) (h : LR B S S) (e : fc = some rc) (h1 : S1.1 = rc.2.1) (h2 : ∀ q, ¬ q = 533 → S1.2.1 q = rc.2.2.1 q) (h3 : S1.2.2 = rc.2.2.2) : ∃ v S2, fr S1 = some (rI v S2) ∧ ANS k c1 c2 rc v S2 ∧ LR B' S2 S2 ∧ S2.2.1 533 = S1.2.1 533 ∧ S2.2.2 ≤ S.2.2 + 2 := by
  obtain ⟨rc0, v0, S0, a1, a2, a3, a4, a5, a6⟩ := hcal S h
  rw [e] at a1
  cases a1
  have hl : LR B S S1 := LR_x h (fun _ _ => rfl) (fun _ _ => rfl) (fun q j x y _ => by rw [h1, a5.1 q x]) (fun q x y => by rw [h2 q (by omega), a5.2.1 q x])
  obtain ⟨rc2, v, S2, b1, b2, b3, b4, b5, b6⟩ := hcal S1 hl
  rw [e] at b1
  cases b1
  refine ⟨v, S2, b2, b3, LR_x b4 (fun q x => by rw [b6.1 q x, h1]) (fun q x => by rw [b6.2.1 q (Or.inl x), h2 q (by omega)]) (fun _ _ _ _ _ => rfl) (fun _ _ _ => rfl), b6.2.1 533 (Or.inr rfl), ?_⟩
  rw [b6.2.2, h3]
  exact a5.2.2
/-- a call that the law wraps -/
def WRP (B' : Nat) (S : xS) (q1 : Option xr) (fr : xS → Option xr) : Prop := ∃ w v S1 S2, q1 = some (rI w S1) ∧ fr S1 = some (rI v S2) ∧ S2.1 503 0 = w ∧ (w = 0 → S2.2.1 533 0 = v.toInt64) ∧ LR B' S2 S2 ∧ S2.2.2 ≤ S.2.2 + 2
theorem W_2 (hcal : ∀ Sr, LR B S Sr → CAL 2 B' c1 c2 S Sr fc (fr Sr)) (h : LR B S S) (hc : ¬ c2 = c1) : WRP B' S (xcW fc (fun v S1 => some (.inl (some (.inl 0)), sJ S1 533 (0 : Int32).toNatClampNeg (v : Int32).toInt64)) c1 c2) fr := by
  obtain ⟨rc0, v0, S0, a1, a2, a3, a4, a5, a6⟩ := hcal S h
  rcases a3 with ⟨Sc', e, z⟩ | ⟨_, Sc', e, z⟩ | ⟨_, Sc', e, z⟩
  · subst e
    obtain ⟨v, S2, b1, b2, b3, b4, b5⟩ := W_g (S1 := sJ Sc' 533 0 v0.toInt64) hcal h a1 rfl (fun q hq => sJ_n hq) rfl
    have hv : v = v0 ∧ S2.1 503 0 = 0 := by
      rcases b2 with ⟨_, y, y2⟩ | ⟨_, _, y, _⟩ | ⟨_, _, y, _⟩
      · cases y
        exact ⟨rfl, y2⟩
      · cases y
      · cases y
    refine ⟨0, v, sJ Sc' 533 0 v0.toInt64, S2, by rw [a1]; rfl, b1, hv.2, fun _ => ?_, b3, b5⟩
    rw [b4, sJ_c, if_pos ⟨rfl, rfl⟩, hv.1]
  · subst e
    obtain ⟨v, S2, b1, b2, b3, b4, b5⟩ := W_g (S1 := Sc') hcal h a1 rfl (fun q hq => rfl) rfl
    have hv : S2.1 503 0 = 1 := by
      rcases b2 with ⟨_, y, y2⟩ | ⟨_, _, y, y2⟩ | ⟨_, _, y, _⟩
      · cases y
      · exact y2
      · injection y with y3 y4
        injection y3 with y3
        exact absurd y3.symm hc
    refine ⟨1, v, Sc', S2, ?_, b1, hv, fun z => absurd z (by decide), b3, b5⟩
    rw [a1]
    unfold xcW
    simp only [if_true]
  · subst e
    obtain ⟨v, S2, b1, b2, b3, b4, b5⟩ := W_g (S1 := Sc') hcal h a1 rfl (fun q hq => rfl) rfl
    have hv : S2.1 503 0 = 2 := by
      rcases b2 with ⟨_, y, y2⟩ | ⟨_, _, y, _⟩ | ⟨_, _, y, y2⟩
      · cases y
      · injection y with y3 y4
        injection y3 with y3
        exact absurd y3 hc
      · exact y2
    refine ⟨2, v, Sc', S2, ?_, b1, hv, fun z => absurd z (by decide), b3, b5⟩
    rw [a1]
    unfold xcW
    simp only [if_neg hc, if_true]
theorem W_1 (hcal : ∀ Sr, LR B S Sr → CAL 1 B' c1 c2 S Sr fc (fr Sr)) (h : LR B S S) : WRP B' S (xcW1 fc (fun v S1 => some (.inl (some (.inl 0)), sJ S1 533 (0 : Int32).toNatClampNeg (v : Int32).toInt64)) c1) fr := by
  obtain ⟨rc0, v0, S0, a1, a2, a3, a4, a5, a6⟩ := hcal S h
  rcases a3 with ⟨Sc', e, z⟩ | ⟨_, Sc', e, z⟩ | ⟨z0, _⟩
  · subst e
    obtain ⟨v, S2, b1, b2, b3, b4, b5⟩ := W_g (S1 := sJ Sc' 533 0 v0.toInt64) hcal h a1 rfl (fun q hq => sJ_n hq) rfl
    have hv : v = v0 ∧ S2.1 503 0 = 0 := by
      rcases b2 with ⟨_, y, y2⟩ | ⟨_, _, y, _⟩ | ⟨_, _, y, _⟩
      · cases y
        exact ⟨rfl, y2⟩
      · cases y
      · cases y
    refine ⟨0, v, sJ Sc' 533 0 v0.toInt64, S2, by rw [a1]; rfl, b1, hv.2, fun _ => ?_, b3, b5⟩
    rw [b4, sJ_c, if_pos ⟨rfl, rfl⟩, hv.1]
  · subst e
    obtain ⟨v, S2, b1, b2, b3, b4, b5⟩ := W_g (S1 := Sc') hcal h a1 rfl (fun q hq => rfl) rfl
    have hv : S2.1 503 0 = 1 := by
      rcases b2 with ⟨_, y, y2⟩ | ⟨_, _, y, y2⟩ | ⟨y0, _⟩
      · cases y
      · exact y2
      · omega
    refine ⟨1, v, Sc', S2, ?_, b1, hv, fun z => absurd z (by decide), b3, b5⟩
    rw [a1]
    unfold xcW1
    simp only [if_true]
  · omega
/-- a call that the law makes plainly -/
theorem W_0 {X : Option xr} {P : Prop} (hcal : ∀ Sr, LR B S Sr → CAL 0 B' c1 c2 S Sr fc (fr Sr)) (h : LR B S S) : ∃ v S1 S2, fc = some (rI v S1) ∧ fr S1 = some (rI v S2) ∧ LR B' S2 S2 ∧ S2.2.2 ≤ S.2.2 + 2 := by
  obtain ⟨rc0, v0, S0, a1, a2, a3, a4, a5, a6⟩ := hcal S h
  rcases a3 with ⟨Sc', e, z⟩ | ⟨z0, _⟩ | ⟨z0, _⟩
  · subst e
    obtain ⟨v, S2, b1, b2, b3, b4, b5⟩ := W_g (S1 := Sc') hcal h a1 rfl (fun q hq => rfl) rfl
    have hv : v = v0 := by
      rcases b2 with ⟨_, y, y2⟩ | ⟨_, _, y, _⟩ | ⟨_, _, y, _⟩
      · cases y
        rfl
      · cases y
      · cases y
    subst hv
    exact ⟨v, Sc', S2, a1, b1, b3, b5⟩
  · omega
  · omega
theorem T_w {X : Option xr} (h : WRP B' S q1 fr) (hK : ∀ S2, LR B' S2 S2 → S2.2.2 ≤ S.2.2 + 2 → K S2 = K' S2) : ∃ S2, LR B' S2 S2 ∧ S2.2.2 ≤ S.2.2 + 2 ∧ xcI q1 (fun v184 S183 => xcI (fr S183) (fun v186 S185 => xcI (f_X12_thrown N S185) (fun v188 S187 =>
      if v188 = v184 then
        if v184 = 0 then
          if xin 0 1 then
          if (lg_cmp (S187.2.1 533 ((0 : Int32).toNatClampNeg)) ((v186 : Int32).toInt64)) = 0 then
            K S187
          else
            some (.inl (some (.inl 0)), S187)
          else none
        else
          K S187
      else
        some (.inl (some (.inl 0)), S187)))) = K' S2 := by
  obtain ⟨w, v, S1, S2, a1, a2, a3, a4, a5, a6⟩ := h
  refine ⟨S2, a5, a6, ?_⟩
  have e : f_X12_thrown N S2 = some (rI w S2) := by
    unfold f_X12_thrown
    rw [a3]
  rw [xcI_of a1, xcI_of a2, xcI_of e, if_pos rfl]
  by_cases q : w = 0
  · rw [if_pos q, if_pos (by decide), show (0 : Int32).toNatClampNeg = 0 from rfl, if_pos ((lg_cmp_eq _ _).mpr (a4 q))]
    exact hK S2 a5 a6
  · rw [if_neg q]
    exact hK S2 a5 a6
theorem law_s {x : Nat} (hN : 10000000 < N) (hB : B + 20000 < 2000000000) (hz : zn ≤ 2048) (hx : x + 4 ≤ zn) (h : LR B S S) : ∃ S2, f_L_law_23 N zn Z (n + 1) (nn x) S = f_L_law_23 N zn Z n (nn (x + 4)) S2 ∧ LR (B + 20000) S2 S2 ∧ S2.2.2 ≤ S.2.2 + 2 := by
  have ez : Int32.ofNat zn - 4 = nn (zn - 4) := nn_subl (k := nat_lit 4) (by show 4 ≤ zn; omega)
  have x0 : xin (nn x) zn := (xin_nn (by omega)).mpr (by omega)
  have x1 : xin (nn x + 1) zn := by rw [nn_addl]; exact (xin_nn (by omega)).mpr (by omega)
  have x2 : xin (nn x + 2) zn := by rw [nn_addl]; exact (xin_nn (by omega)).mpr (by omega)
  have x3 : xin (nn x + 3) zn := by rw [nn_addl]; exact (xin_nn (by omega)).mpr (by omega)
  have e4 : ∀ S2, f_L_law_464 N zn Z (f_L_law_23 N zn Z n) (nn x) S2 = f_L_law_23 N zn Z n (nn (x + 4)) S2 := fun S2 => by
    unfold f_L_law_464
    rw [nn_addl]
  have hm : ∀ S2, LR B S2 S2 → LR (B + 20000) S2 S2 := fun S2 z => LR_m z (by omega)
  have pl : ∀ (v : Int32) (S1 S2 : xS) (fc : Option xr) (fr : xS → Option xr), fc = some (rI v S1) → fr S1 = some (rI v S2) → xcI fc (fun v206 S205 => xcI (fr S205) (fun v208 S207 => if v206 = v208 then f_L_law_464 N zn Z (f_L_law_23 N zn Z n) (nn x) S207 else some (.inl (some (.inl 0)), S207))) = f_L_law_23 N zn Z n (nn (x + 4)) S2 := fun v S1 S2 fc fr h1 h2 => by
    rw [xcI_of h1, xcI_of h2, if_pos rfl, e4]
  rw [f_L_law_23.eq_2, ez, if_neg (by simp (disch := omega) only [nn_add, nn_addl, l_add_nn, nn_sub, nn_subl, nn_m1, nn_mull, nn_t, nn_i, l_t, nn_lt, nn_le, nn_eq, nn_ltl, l_lt_nn, nn_lel, l_le_nn, nn_eql, l_eql, nn_nm1, xin_nn, xin_l, m1_lt, m1_le, m1_p, m1_z, dlt_T, dlt_F, dle_T, dle_F, deq_T, deq_F, sI_c, sI_n, sI_J, sI_E, sJ_c, sJ_n, sJ_I, sJ_E, sE_I, sE_J, sE_E, xcI_i, xcJ_i, xcR_i, xcV_i, xcI_e, xcJ_e, xcR_e, xcV_e, if_true, if_false, ite_true, ite_false, true_and, and_true, false_and, and_false, or_true, true_or, or_false, false_or, not_true_eq_false, not_false_eq_true, eq_self, ne_eq, ↓reduceIte, Nat.reduceEqDiff, Nat.reduceLT, Nat.reduceLeDiff, Nat.reduceAdd, Nat.reduceMul, Nat.reduceSub, Int32.reduceLT, Int32.reduceLE, reduceCtorEq] <;> omega), if_pos x0]
  simp only [if_pos x1, if_pos x2, if_pos x3]
  by_cases o0 : ((Z (nn x).toNatClampNeg) &&& 15 : Int32).toInt ∈ [(0 : Int)]
  · rw [if_pos o0]
    obtain ⟨S2, b1, b2, b3⟩ := T_w (N := N) (X := none) (K := f_L_law_185 N zn Z (f_L_law_23 N zn Z n) (nn x)) (K' := f_L_law_23 N zn Z n (nn (x + 4))) (W_2 (fr := f_X12_feed N _ _) (fun Sr hr => p_feed (N := N) (by omega) hr) h (by decide)) (fun S2 _ _ => e4 S2)
    exact ⟨S2, b3, hm S2 b1, b2⟩
  rw [if_neg o0]
  by_cases o1 : ((Z (nn x).toNatClampNeg) &&& 15 : Int32).toInt ∈ [(1 : Int)]
  · rw [if_pos o1]
    obtain ⟨S2, b1, b2, b3⟩ := T_w (N := N) (X := none) (K := f_L_law_229 N zn Z (f_L_law_23 N zn Z n) (nn x)) (K' := f_L_law_23 N zn Z n (nn (x + 4))) (W_1 (fr := f_X12_load N) (fun Sr hr => p_load (N := N) (by omega) hr) h) (fun S2 _ _ => e4 S2)
    exact ⟨S2, b3, hm S2 b1, b2⟩
  rw [if_neg o1]
  by_cases o2 : ((Z (nn x).toNatClampNeg) &&& 15 : Int32).toInt ∈ [(2 : Int)]
  · rw [if_pos o2]
    obtain ⟨v, S1, S2, b1, b2, b3, b4⟩ := W_0 (X := none) (P := True) (c1 := "") (c2 := "") (fr := f_X12_place N) (fun Sr hr => p_place (N := N) hr) h
    exact ⟨S2, pl v S1 S2 _ _ b1 b2, hm S2 b3, b4⟩
  rw [if_neg o2]
  by_cases o3 : ((Z (nn x).toNatClampNeg) &&& 15 : Int32).toInt ∈ [(3 : Int)]
  · rw [if_pos o3]
    obtain ⟨S2, b1, b2, b3⟩ := T_w (N := N) (X := none) (K := f_L_law_298 N zn Z (f_L_law_23 N zn Z n) (nn x)) (K' := f_L_law_23 N zn Z n (nn (x + 4))) (W_2 (fr := f_X12_run N _) (fun Sr hr => p_runs (N := N) hN hB hr) h (by decide)) (fun S2 _ _ => e4 S2)
    exact ⟨S2, b3, b1, b2⟩
  rw [if_neg o3]
  by_cases o4 : ((Z (nn x).toNatClampNeg) &&& 15 : Int32).toInt ∈ [(4 : Int)]
  · rw [if_pos o4]
    obtain ⟨v, S1, S2, b1, b2, b3, b4⟩ := W_0 (X := none) (P := True) (c1 := "") (c2 := "") (fr := f_X12_steps N) (fun Sr hr => p_steps (N := N) hr) h
    exact ⟨S2, pl v S1 S2 _ _ b1 b2, hm S2 b3, b4⟩
  rw [if_neg o4]
  by_cases o5 : ((Z (nn x).toNatClampNeg) &&& 15 : Int32).toInt ∈ [(5 : Int)]
  · rw [if_pos o5]
    obtain ⟨v, S1, S2, b1, b2, b3, b4⟩ := W_0 (X := none) (P := True) (c1 := "") (c2 := "") (fr := f_X12_printed N) (fun Sr hr => p_printed (N := N) hr) h
    exact ⟨S2, pl v S1 S2 _ _ b1 b2, hm S2 b3, b4⟩
  rw [if_neg o5]
  by_cases o6 : ((Z (nn x).toNatClampNeg) &&& 15 : Int32).toInt ∈ [(6 : Int)]
  · rw [if_pos o6]
    obtain ⟨S2, b1, b2, b3⟩ := T_w (N := N) (X := none) (K := f_L_law_380 N zn Z (f_L_law_23 N zn Z n) (nn x)) (K' := f_L_law_23 N zn Z n (nn (x + 4))) (W_1 (fr := f_X12_print N _) (fun Sr hr => p_prnt (N := N) (by omega) hr) h) (fun S2 _ _ => e4 S2)
    exact ⟨S2, b3, hm S2 b1, b2⟩
  rw [if_neg o6]
  by_cases o7 : ((Z (nn x).toNatClampNeg) &&& 15 : Int32).toInt ∈ [(7 : Int)]
  · rw [if_pos o7]
    obtain ⟨S2, b1, b2, b3⟩ := T_w (N := N) (X := none) (K := f_L_law_448 N zn Z (f_L_law_23 N zn Z n) (nn x)) (K' := f_L_law_23 N zn Z n (nn (x + 4))) (W_1 (fr := f_X12_word N _ _) (fun Sr hr => p_word (N := N) (by omega) hr) h) (fun S2 _ _ => e4 S2)
    exact ⟨S2, b3, hm S2 b1, b2⟩
  rw [if_neg o7]
  by_cases o8 : ((Z (nn x).toNatClampNeg) &&& 15 : Int32).toInt ∈ [(8 : Int)]
  · rw [if_pos o8]
    obtain ⟨v, S1, S2, b1, b2, b3, b4⟩ := W_0 (X := none) (P := True) (c1 := "") (c2 := "") (fr := f_X12_records N) (fun Sr hr => p_records (N := N) (by omega) hr) h
    exact ⟨S2, pl v S1 S2 _ _ b1 b2, hm S2 b3, b4⟩
  rw [if_neg o8, e4]
  exact ⟨S, rfl, hm S h, by omega⟩
/-- the law answers true -/
theorem law_l (hN : 10000000 < N) (hz : zn ≤ 2048) : ∀ (e c n : Nat) (S : xS), zn < 4 * c + 4 * e + 4 → 4 * c ≤ zn → LR (20000 * c) S S → S.2.2 ≤ 2 * c → e < n → ∃ S', f_L_law_23 N zn Z n (nn (4 * c)) S = some (rI 1 S') ∧ S'.2.2 ≤ 1024 := by
  intro e
  induction e with
  | zero =>
    intro c n S h1 h2 h3 h4 h5
    obtain ⟨n, rfl⟩ : ∃ k, n = k + 1 := ⟨n - 1, by omega⟩
    refine ⟨S, ?_, by omega⟩
    have h6 : (Int32.ofNat zn - 4).toInt = (zn : Int) - 4 := by
      have e1 : Int32.ofNat zn - 4 = Int32.ofInt ((zn : Int) - 4) := by
        rw [Int32.ofInt_sub, Int32.ofInt_eq_ofNat]
        rfl
      rw [e1, Int32.toInt_ofInt_of_le (by omega) (by omega)]
    rw [f_L_law_23.eq_2, if_pos (by
      rw [Int32.lt_iff_toInt_lt, h6, nn_i (by omega)]
      omega)]
  | succ e ih =>
    intro c n S h1 h2 h3 h4 h5
    obtain ⟨n, rfl⟩ : ∃ k, n = k + 1 := ⟨n - 1, by omega⟩
    by_cases q : 4 * c + 4 ≤ zn
    · obtain ⟨S2, a1, a2, a3⟩ := law_s (N := N) (Z := Z) (n := n) (x := 4 * c) hN (by omega) hz q h3
      obtain ⟨S', b1, b2⟩ := ih (c + 1) n S2 (by omega) (by omega) (by rw [show 20000 * (c + 1) = 20000 * c + 20000 by omega]; exact a2) (by omega) (by omega)
      refine ⟨S', ?_, b2⟩
      rw [a1, show 4 * c + 4 = 4 * (c + 1) by omega]
      exact b1
    · refine ⟨S, ?_, by omega⟩
      have h6 : (Int32.ofNat zn - 4).toInt = (zn : Int) - 4 := by
        have e1 : Int32.ofNat zn - 4 = Int32.ofInt ((zn : Int) - 4) := by
          rw [Int32.ofInt_sub, Int32.ofInt_eq_ofNat]
          rfl
        rw [e1, Int32.toInt_ofInt_of_le (by omega) (by omega)]
      rw [f_L_law_23.eq_2, if_pos (by
        rw [Int32.lt_iff_toInt_lt, h6, nn_i (by omega)]
        omega)]
end LL
