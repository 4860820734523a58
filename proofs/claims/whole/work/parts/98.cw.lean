/-! 98: loops of the constructors -/
section CW
variable {l : Launch} {w : xW} {h : xH} {F : xO × xH → Prop} {g X X' X0 : Nat → xE} {n sl : Nat}
theorem zI_0 {k j : Nat} (h0 : ¬ k = 0) (h5 : ¬ k = 503) : zI k j = 0 := if_neg (by omega)
theorem cz_st {lo k : Nat} (hk : xStep k) : cz lo k = .inr (8, [.int 0, .int 0, .int 0, .int 0, .int 0, .int 0, .int 0, .int 0, .int 0, .int 0]) := by
  have h0 : ¬ k = 0 := by have := hk.1; omega
  have h5 : ¬ k = 503 := by have := hk.2.1; omega
  unfold cz
  rw [cel_st hk, zI_0 h0 h5, zI_0 h0 h5, zI_0 h0 h5, zI_0 h0 h5, zI_0 h0 h5, zI_0 h0 h5, zI_0 h0 h5, zI_0 h0 h5, zI_0 h0 h5, zI_0 h0 h5]
theorem cz_pa {lo k : Nat} (hk : xPart k) : cz lo k = .inr (4, [.int 0, .int 0, .int 0, .int 0, .int 0, .int 0, .int 0]) := by
  have h0 : ¬ k = 0 := by have := hk.1; omega
  have h5 : ¬ k = 503 := by have := hk.2.1; omega
  unfold cz
  rw [cel_pa hk, zI_0 h0 h5, zI_0 h0 h5, zI_0 h0 h5, zI_0 h0 h5, zI_0 h0 h5, zI_0 h0 h5, zI_0 h0 h5]
theorem ct_X8_init {b : Nat} : XE l w M_X8_init 0 (lv_args 0 [.ref b]) [] h (fun o => o.1 = .inl none ∧ o.2 = h) :=
  ⟨(.inl none, h), ⟨rfl, rfl⟩, e_aload_n dX8_init_0 0 rfl (e_objInit dX8_init_1 (x_in 302 rfl rfl) (x_in 132 rfl rfl) (x_in 133 (by decide +kernel) (by decide +kernel)) (by decide) (Nat.le_of_ble_eq_true rfl) (e_return dX8_init_4 rfl rfl))⟩
theorem ct_X4_init {b : Nat} : XE l w M_X4_init 0 (lv_args 0 [.ref b]) [] h (fun o => o.1 = .inl none ∧ o.2 = h) :=
  ⟨(.inl none, h), ⟨rfl, rfl⟩, e_aload_n dX4_init_0 0 rfl (e_objInit dX4_init_1 (x_in 352 rfl rfl) (x_in 132 rfl rfl) (x_in 133 (by decide +kernel) (by decide +kernel)) (by decide) (Nat.le_of_ble_eq_true rfl) (e_return dX4_init_4 rfl rfl))⟩
def rfn (lo a i : Nat) : Nat → Value := fun j => if j < i then .ref (lo + (a + 2 * j)) else .null
theorem rfn_s {lo a i : Nat} : updV (rfn lo a i) i (.ref (lo + (a + 2 * i))) = rfn lo a (i + 1) := by
  funext j
  unfold updV rfn
  by_cases q : j = i
  · rw [if_pos q, if_pos (by omega), q]
  · rw [if_neg q]
    by_cases q2 : j < i
    · rw [if_pos q2, if_pos (by omega)]
    · rw [if_neg q2, if_neg (by omega)]
set_option maxRecDepth 100000 in
set_option maxHeartbeats 4000000 in
/-- steps and parts -/
theorem cl_X5 : ∀ (e i : Nat) (h : xH) (X : Nat → xE), i + e = 151 → CI w g h (102 + 2 * i) (sl + 17 * i) X → X 97 = cz w.2.1 97 → X 98 = .inl (.object RX8, 151, rfn w.2.1 102 i) → X 99 = .inl (.object RX4, 151, rfn w.2.1 103 i) → X 100 = cz w.2.1 100 → X 101 = cz w.2.1 101 → (∀ k, 102 ≤ k → k < 102 + 2 * i → X k = cz w.2.1 k) → (∀ k, k < 97 → X k = X0 k) →
    XE l w M_X5_init 44 [(1, .int (nn i)), (0, .ref (w.2.1 + 97))] [] h (fun o => o.1 = .inl none ∧ CR w g 404 (sl + 2567) 97 X0 o.2) := by
  intro e
  induction e with
  | zero =>
    intro i h X hi hc h97 h98 h99 h100 h101 hk h0
    rw [Nat.add_zero] at hi
    subst hi
    refine XE_l (pc' := 83) (ls' := [(1, .int (nn 151)), (0, .ref (w.2.1 + 97))]) (st' := []) (fun _ k => e_iload_n dX5_init_44 0 rfl (e_sipush (v := 150) dX5_init_45 (by decide) (e_icmp_gt (tgt := 83) dX5_init_48 rfl (fun _ => k) (fun z => absurd (by decide) z)))) ?_
    refine XE_cong (X' := fun k => if k < 97 then X0 k else cz w.2.1 k) hc (fun k hk2 => ?_) (fun h' hc' => XE_ret dX5_init_83 rfl ⟨rfl, _, CI_s hc' (by omega), fun k k1 k2 => if_neg (by omega), fun k k1 => if_pos k1⟩)
    show xq (X k) (if k < 97 then X0 k else cz w.2.1 k)
    by_cases q1 : k < 97
    · rw [if_pos q1]
      exact xq_e (h0 k q1)
    · rw [if_neg q1]
      by_cases q2 : k = 98
      · subst q2
        rw [h98]
        refine ⟨rfl, rfl, fun j hj => ?_⟩
        show rfn w.2.1 102 151 j = _
        unfold rfn
        rw [if_pos hj]
      · by_cases q3 : k = 99
        · subst q3
          rw [h99]
          refine ⟨rfl, rfl, fun j hj => ?_⟩
          show rfn w.2.1 103 151 j = _
          unfold rfn
          rw [if_pos hj]
        · refine xq_e ?_
          by_cases q4 : 102 ≤ k
          · exact hk k q4 hk2
          · have : k = 97 ∨ k = 100 ∨ k = 101 := by omega
            rcases this with rfl | rfl | rfl
            · exact h97
            · exact h100
            · exact h101
  | succ e ih =>
    intro i h X hi hc h97 h98 h99 h100 h101 hk h0
    have hv : vp_in (nn i) 151 := (xin_nn (by omega)).mpr (by omega)
    have ei : (nn i).toNatClampNeg = i := nn_t (by omega)
    refine XE_l (pc' := 52) (ls' := [(1, .int (nn i)), (0, .ref (w.2.1 + 97))]) (st' := [.ref (w.2.1 + 97)]) (fun _ k => e_iload_n dX5_init_44 0 rfl (e_sipush (v := 150) dX5_init_45 (by decide) (e_icmp_gt (tgt := 83) dX5_init_48 rfl (fun z => absurd z (by show ¬ (150 : Int32) < nn i; simp (disch := omega) only [nn_add, nn_addl, l_add_nn, nn_sub, nn_subl, nn_m1, nn_mull, nn_t, nn_i, l_t, nn_lt, nn_le, nn_eq, nn_ltl, l_lt_nn, nn_lel, l_le_nn, nn_eql, l_eql, nn_nm1, xin_nn, xin_l, m1_lt, m1_le, m1_p, m1_z, dlt_T, dlt_F, dle_T, dle_F, deq_T, deq_F, sI_c, sI_n, sI_J, sI_E, sJ_c, sJ_n, sJ_I, sJ_E, sE_I, sE_J, sE_E, xcI_i, xcJ_i, xcR_i, xcV_i, xcI_e, xcJ_e, xcR_e, xcV_e, if_true, if_false, ite_true, ite_false, true_and, and_true, false_and, and_false, or_true, true_or, or_false, false_or, not_true_eq_false, not_false_eq_true, eq_self, ne_eq, ↓reduceIte, Nat.reduceEqDiff, Nat.reduceLT, Nat.reduceLeDiff, Nat.reduceAdd, Nat.reduceMul, Nat.reduceSub, Int32.reduceLT, Int32.reduceLE, reduceCtorEq] <;> omega)) (fun _ => e_aload_n dX5_init_51 1 rfl k)))) ?_
    refine XE_get (q := 97) (k := 0) (v := .ref (w.2.1 + 98)) hc (by omega) (h97.trans rfl) xc_5 dX5_init_52 fl_X5_11 (by decide) rfl ?_
    refine XE_l (pc' := 56) (ls' := [(1, .int (nn i)), (0, .ref (w.2.1 + 97))]) (st' := [.int (nn i), .ref (w.2.1 + 98)]) (fun _ k => e_iload_n dX5_init_55 0 rfl k) ?_
    refine XE_new (n := 102 + 2 * i) (fs := [.int 0, .int 0, .int 0, .int 0, .int 0, .int 0, .int 0, .int 0, .int 0, .int 0]) hc xc_8 dX5_init_56 (by decide) (x_in 294 rfl rfl) (x_in 298 rfl rfl) in_X8 rfl (fun j hj => match j, hj with | 0, _ => rfl | 1, _ => rfl | 2, _ => rfl | 3, _ => rfl | 4, _ => rfl | 5, _ => rfl | 6, _ => rfl | 7, _ => rfl | 8, _ => rfl | 9, _ => rfl | j + 10, hj => absurd hj (by omega)) (fun h1 hc1 => ?_)
    refine XE_l (pc' := 60) (ls' := [(1, .int (nn i)), (0, .ref (w.2.1 + 97))]) (st' := [.ref (w.2.1 + (102 + 2 * i)), .ref (w.2.1 + (102 + 2 * i)), .int (nn i), .ref (w.2.1 + 98)]) (fun _ k => e_dup dX5_init_59 rfl k) ?_
    refine XE_init (as := []) (rest := [.ref (w.2.1 + (102 + 2 * i)), .int (nn i), .ref (w.2.1 + 98)]) (P := fun h' => h' = h1) dX5_init_60 cs_X5_init_X8_init (Or.inr ⟨_, ml_X5_30⟩) im_X8_init rfl rfl rfl rfl rfl (Nat.le_of_ble_eq_true rfl) (Nat.le_of_ble_eq_true rfl) ct_X8_init (fun h2 e2 => ?_)
    subst e2
    refine XE_aast (N := 151) (q := 98) (v := 102 + 2 * i) (f := rfn w.2.1 102 i) hc1 xc_8 (by omega) ((uX_n (by omega)).trans h98) (by omega) uX_s dX5_init_63 hv (fun h3 hc3 => ?_)
    rw [ei, rfn_s] at hc3
    refine XE_l (pc' := 65) (ls' := [(1, .int (nn i)), (0, .ref (w.2.1 + 97))]) (st' := [.ref (w.2.1 + 97)]) (fun _ k => e_aload_n dX5_init_64 1 rfl k) ?_
    refine XE_get (q := 97) (k := 1) (v := .ref (w.2.1 + 99)) hc3 (by omega) (((uX_n (by omega)).trans ((uX_n (by omega)).trans h97)).trans rfl) xc_5 dX5_init_65 fl_X5_19 (by decide) rfl ?_
    refine XE_l (pc' := 69) (ls' := [(1, .int (nn i)), (0, .ref (w.2.1 + 97))]) (st' := [.int (nn i), .ref (w.2.1 + 99)]) (fun _ k => e_iload_n dX5_init_68 0 rfl k) ?_
    refine XE_new (n := 102 + 2 * i + 1) (fs := [.int 0, .int 0, .int 0, .int 0, .int 0, .int 0, .int 0]) hc3 xc_4 dX5_init_69 (by decide) (x_in 296 rfl rfl) (x_in 348 rfl rfl) in_X4 rfl (fun j hj => match j, hj with | 0, _ => rfl | 1, _ => rfl | 2, _ => rfl | 3, _ => rfl | 4, _ => rfl | 5, _ => rfl | 6, _ => rfl | j + 7, hj => absurd hj (by omega)) (fun h4 hc4 => ?_)
    have e3 : 102 + 2 * i + 1 = 103 + 2 * i := by omega
    rw [e3] at hc4
    show XE l w M_X5_init 72 _ (.ref (w.2.1 + (102 + 2 * i + 1)) :: _) h4 _
    rw [e3]
    refine XE_l (pc' := 73) (ls' := [(1, .int (nn i)), (0, .ref (w.2.1 + 97))]) (st' := [.ref (w.2.1 + (103 + 2 * i)), .ref (w.2.1 + (103 + 2 * i)), .int (nn i), .ref (w.2.1 + 99)]) (fun _ k => e_dup dX5_init_72 rfl k) ?_
    refine XE_init (as := []) (rest := [.ref (w.2.1 + (103 + 2 * i)), .int (nn i), .ref (w.2.1 + 99)]) (P := fun h' => h' = h4) dX5_init_73 cs_X5_init_X4_init (Or.inr ⟨_, ml_X5_31⟩) im_X4_init rfl rfl rfl rfl rfl (Nat.le_of_ble_eq_true rfl) (Nat.le_of_ble_eq_true rfl) ct_X4_init (fun h5 e5 => ?_)
    subst e5
    refine XE_aast (N := 151) (q := 99) (v := 103 + 2 * i) (f := rfn w.2.1 103 i) hc4 xc_4 (by omega) ((uX_n (by omega)).trans ((uX_n (by omega)).trans ((uX_n (by omega)).trans h99))) (by omega) uX_s dX5_init_76 hv (fun h6 hc6 => ?_)
    rw [ei, rfn_s] at hc6
    refine XE_l (pc' := 44) (ls' := [(1, .int (nn (i + 1))), (0, .ref (w.2.1 + 97))]) (st' := []) (fun _ k => e_iinc (v := nn (i + 1)) (ls' := [(1, .int (nn (i + 1))), (0, .ref (w.2.1 + 97))]) dX5_init_77 0 rfl (nn_addl i 1) (by decide) rfl (e_goto (tgt := 44) dX5_init_80 rfl k)) ?_
    rw [show 103 + 2 * i + 1 = 102 + 2 * (i + 1) by omega, show sl + 17 * i + 10 + 7 = sl + 17 * (i + 1) by omega] at hc6
    refine ih (i + 1) h6 _ (by omega) hc6 ?_ ?_ uX_s ?_ ?_ (fun k k1 k2 => ?_) (fun k k1 => ?_)
    · simp (disch := omega) only [uX_n]
      exact h97
    · rw [uX_n (by omega), uX_n (by omega), uX_s]
    · simp (disch := omega) only [uX_n]
      exact h100
    · simp (disch := omega) only [uX_n]
      exact h101
    · by_cases q1 : k = 103 + 2 * i
      · rw [q1, uX_n (by omega), uX_s, cz_pa ⟨by omega, by omega, by omega⟩]
      · by_cases q2 : k = 102 + 2 * i
        · rw [q2, uX_n (by omega), uX_n (by omega), uX_n (by omega), uX_s, cz_st ⟨by omega, by omega, by omega⟩]
        · simp (disch := omega) only [uX_n]
          exact hk k k1 (by omega)
    · simp (disch := omega) only [uX_n]
      exact h0 k k1
set_option maxRecDepth 100000 in
set_option maxHeartbeats 4000000 in
/-- the words of the language -/
theorem cl_X9 (ht : x_TX w g) : ∀ (e p : Nat) (h : xH) (X : Nat → xE), p + e = 103 → CI w g h 7 sl X → X 1 = cz w.2.1 1 → X 2 = .inl (.long, 21, fun j => .long (vv p j)) → (∀ k, 3 ≤ k → k < 7 → X k = cz w.2.1 k) → (∀ k, k < 1 → X k = X0 k) →
    XE l w M_X9_init 52 [(2, .int (nn p)), (1, .int (nn (wix p))), (0, .ref (w.2.1 + 1))] [] h (fun o => o.1 = .inl none ∧ CR w g 7 sl 1 X0 o.2) := by
  intro e
  induction e with
  | zero =>
    intro p h X hp hc h1 h2 hk h0
    rw [Nat.add_zero] at hp
    subst hp
    have t := CI_tx hc ht
    refine XE_l (pc' := 55) (ls' := [(2, .int (nn 103)), (1, .int (nn (wix 103))), (0, .ref (w.2.1 + 1))]) (st' := [.ref (w.2.2 0), .int (nn 103)]) (fun _ k => e_iload_n dX9_init_52 0 rfl (e_ldcS dX9_init_53 rfl (Or.inl ⟨rfl, rfl⟩) k)) ?_
    refine XE_callT (as := []) (rest := [.int (nn 103)]) (v := .int 103) t rfl dX9_init_55 cs_X9_init_J0_length_8abf5 ml_X9_31 im_J0_length_8abf5 se_J0_length_8abf5 rfl rfl (Nat.le_of_ble_eq_true rfl) (Nat.le_of_ble_eq_true rfl) (xs_length t) ?_
    refine XE_l (pc' := 102) (ls' := [(2, .int (nn 103)), (1, .int (nn (wix 103))), (0, .ref (w.2.1 + 1))]) (st' := []) (fun _ k => e_icmp_ge (tgt := 102) dX9_init_58 rfl (fun _ => k) (fun z => absurd (by decide) z)) ?_
    refine XE_cong (X' := fun k => if k < 1 then X0 k else cz w.2.1 k) hc (fun k hk2 => ?_) (fun h' hc' => XE_ret dX9_init_102 rfl ⟨rfl, _, hc', fun k k1 k2 => if_neg (by omega), fun k k1 => if_pos k1⟩)
    show xq (X k) (if k < 1 then X0 k else cz w.2.1 k)
    by_cases q1 : k < 1
    · rw [if_pos q1]
      exact xq_e (h0 k q1)
    · rw [if_neg q1]
      by_cases q2 : k = 2
      · subst q2
        rw [h2]
        refine ⟨rfl, rfl, fun j hj => ?_⟩
        show Value.long (vv 103 j) = Value.long (VOC j)
        rw [vv_end j hj]
      · refine xq_e ?_
        by_cases q3 : k = 1
        · rw [q3]; exact h1
        · exact hk k (by omega) hk2
  | succ e ih =>
    intro p h X hp hc h1 h2 hk h0
    have t := CI_tx hc ht
    have hw := wix_le p (by omega)
    have ew : (nn (wix p)).toNatClampNeg = wix p := nn_t (by omega)
    have hv : vp_in (nn (wix p)) 21 := (xin_nn (by omega)).mpr (by omega)
    generalize ec : (x_by 0).getD p 0 = c at *
    have xc : x_S l w M_J0_charAt_5068e 0 [(0, .ref (w.2.2 0)), (1, .int (nn p))] [] h (.inl (some (.int c)), h) := by
      rw [← ec]
      exact xs_charAt t (by omega)
    refine XE_l (pc' := 55) (ls' := [(2, .int (nn p)), (1, .int (nn (wix p))), (0, .ref (w.2.1 + 1))]) (st' := [.ref (w.2.2 0), .int (nn p)]) (fun _ k => e_iload_n dX9_init_52 0 rfl (e_ldcS dX9_init_53 rfl (Or.inl ⟨rfl, rfl⟩) k)) ?_
    refine XE_callT (as := []) (rest := [.int (nn p)]) (v := .int 103) t rfl dX9_init_55 cs_X9_init_J0_length_8abf5 ml_X9_31 im_J0_length_8abf5 se_J0_length_8abf5 rfl rfl (Nat.le_of_ble_eq_true rfl) (Nat.le_of_ble_eq_true rfl) (xs_length t) ?_
    refine XE_l (pc' := 64) (ls' := [(2, .int (nn p)), (1, .int (nn (wix p))), (0, .ref (w.2.1 + 1))]) (st' := [.int (nn p), .ref (w.2.2 0)]) (fun _ k => e_icmp_ge (tgt := 102) dX9_init_58 rfl (fun z => absurd z (by show ¬ (103 : Int32) ≤ nn p; simp (disch := omega) only [nn_add, nn_addl, l_add_nn, nn_sub, nn_subl, nn_m1, nn_mull, nn_t, nn_i, l_t, nn_lt, nn_le, nn_eq, nn_ltl, l_lt_nn, nn_lel, l_le_nn, nn_eql, l_eql, nn_nm1, xin_nn, xin_l, m1_lt, m1_le, m1_p, m1_z, dlt_T, dlt_F, dle_T, dle_F, deq_T, deq_F, sI_c, sI_n, sI_J, sI_E, sJ_c, sJ_n, sJ_I, sJ_E, sE_I, sE_J, sE_E, xcI_i, xcJ_i, xcR_i, xcV_i, xcI_e, xcJ_e, xcR_e, xcV_e, if_true, if_false, ite_true, ite_false, true_and, and_true, false_and, and_false, or_true, true_or, or_false, false_or, not_true_eq_false, not_false_eq_true, eq_self, ne_eq, ↓reduceIte, Nat.reduceEqDiff, Nat.reduceLT, Nat.reduceLeDiff, Nat.reduceAdd, Nat.reduceMul, Nat.reduceSub, Int32.reduceLT, Int32.reduceLE, reduceCtorEq] <;> omega)) (fun _ => e_ldcS dX9_init_61 rfl (Or.inl ⟨rfl, rfl⟩) (e_iload_n dX9_init_63 0 rfl k))) ?_
    refine XE_callT (as := [.int (nn p)]) (rest := []) (v := .int c) t rfl dX9_init_64 cs_X9_init_J0_charAt_5068e ml_X9_37 im_J0_charAt_5068e se_J0_charAt_5068e rfl rfl (Nat.le_of_ble_eq_true rfl) (Nat.le_of_ble_eq_true rfl) xc ?_
    refine XE_l (pc' := 71) (ls' := [(3, .int c), (2, .int (nn p)), (1, .int (nn (wix p))), (0, .ref (w.2.1 + 1))]) (st' := [.int 32, .int c]) (fun _ k => e_istore_n (ls' := [(3, .int c), (2, .int (nn p)), (1, .int (nn (wix p))), (0, .ref (w.2.1 + 1))]) dX9_init_67 (by decide) rfl (e_iload_n dX9_init_68 0 rfl (e_bipush (v := 32) dX9_init_69 (by decide) k))) ?_
    by_cases q : c = 32
    · have w1 : wix (p + 1) = wix p + 1 := by
        show (if (x_by 0).getD p 0 = 32 then wix p + 1 else wix p) = _
        rw [ec, if_pos q]
      have v1 : ∀ j, vv (p + 1) j = vv p j := fun j => by
        show (if (x_by 0).getD p 0 = 32 then vv p j else _) = _
        rw [ec, if_pos q]
      refine XE_l (pc' := 52) (ls' := [(2, .int (nn (p + 1))), (1, .int (nn (wix (p + 1)))), (0, .ref (w.2.1 + 1))]) (st' := []) (fun _ k => e_icmp_ne (tgt := 80) dX9_init_71 rfl (fun z => absurd q z) (fun _ => e_iinc (v := nn (wix p + 1)) (ls' := [(1, .int (nn (wix p + 1))), (3, .int c), (2, .int (nn p)), (0, .ref (w.2.1 + 1))]) dX9_init_74 2 rfl (nn_addl _ 1) (by decide) rfl (e_goto (tgt := 96) dX9_init_77 rfl (e_iinc (v := nn (p + 1)) (ls' := [(2, .int (nn (p + 1))), (1, .int (nn (wix p + 1))), (3, .int c), (0, .ref (w.2.1 + 1))]) dX9_init_96 2 rfl (nn_addl p 1) (by decide) rfl (e_goto (tgt := 52) dX9_init_99 rfl (x_sub [0, 1, 3] (by rw [w1]; rfl) k)))))) ?_
      refine ih (p + 1) h X (by omega) hc h1 ?_ hk h0
      rw [h2]
      congr 3
      funext j
      rw [v1 j]
    · have w1 : wix (p + 1) = wix p := by
        show (if (x_by 0).getD p 0 = 32 then wix p + 1 else wix p) = _
        rw [ec, if_neg q]
      have v1 : ∀ j, vv (p + 1) j = if j = wix p then vv p j * 32 + ((c - 97) + 1 : Int32).toInt64 else vv p j := fun j => by
        show (if (x_by 0).getD p 0 = 32 then vv p j else if j = wix p then vv p j * 32 + (((x_by 0).getD p 0 - 97) + 1 : Int32).toInt64 else vv p j) = _
        rw [ec, if_neg q]
      refine XE_l (pc' := 81) (ls' := [(3, .int c), (2, .int (nn p)), (1, .int (nn (wix p))), (0, .ref (w.2.1 + 1))]) (st' := [.ref (w.2.1 + 1)]) (fun _ k => e_icmp_ne (tgt := 80) dX9_init_71 rfl (fun _ => e_aload_n dX9_init_80 3 rfl k) (fun z => absurd z q)) ?_
      refine XE_get (q := 1) (k := 0) (v := .ref (w.2.1 + 2)) hc (by decide) (h1.trans rfl) xc_9 dX9_init_81 fl_X9_9 (by decide) rfl ?_
      refine XE_l (pc' := 86) (ls' := [(3, .int c), (2, .int (nn p)), (1, .int (nn (wix p))), (0, .ref (w.2.1 + 1))]) (st' := [.ref (w.2.1 + 1), .int (nn (wix p)), .ref (w.2.1 + 2)]) (fun _ k => e_iload_n dX9_init_84 2 rfl (e_aload_n dX9_init_85 3 rfl k)) ?_
      refine XE_get (q := 1) (k := 0) (v := .ref (w.2.1 + 2)) hc (by decide) (h1.trans rfl) xc_9 dX9_init_86 fl_X9_9 (by decide) rfl ?_
      have hlt : w.2.1 + 2 < h.1 := by have := hc.1; omega
      refine XE_l (pc' := 92) (ls' := [(3, .int c), (2, .int (nn p)), (1, .int (nn (wix p))), (0, .ref (w.2.1 + 1))]) (st' := [.int c, .long (vv p (wix p)), .int (nn (wix p)), .ref (w.2.1 + 2)]) (fun _ k => e_iload_n dX9_init_89 2 rfl (e_lald (v := .long (vv p (wix p))) dX9_init_90 hlt ((hc.2.2.2 2 (by decide)).trans h2) hv (by rw [ew]) (e_iload_n dX9_init_91 0 rfl k))) ?_
      refine XE_callS (as := [.long (vv p (wix p)), .int c]) (rest := [.int (nn (wix p)), .ref (w.2.1 + 2)]) dX9_init_92 cs_X9_init_X9_longer ml_X9_41 st_X9_longer rfl rfl (Nat.le_of_ble_eq_true rfl) (Nat.le_of_ble_eq_true rfl) xs_longer ?_
      refine XE_last (q := 2) (N := 21) (f := fun j => .long (vv p j)) hc (by decide) h2 dX9_init_95 hv (fun h3 hc3 => ?_)
      refine XE_l (pc' := 52) (ls' := [(2, .int (nn (p + 1))), (1, .int (nn (wix (p + 1)))), (0, .ref (w.2.1 + 1))]) (st' := []) (fun _ k => e_iinc (v := nn (p + 1)) (ls' := [(2, .int (nn (p + 1))), (3, .int c), (1, .int (nn (wix p))), (0, .ref (w.2.1 + 1))]) dX9_init_96 1 rfl (nn_addl p 1) (by decide) rfl (e_goto (tgt := 52) dX9_init_99 rfl (x_sub [0, 2, 3] (by rw [w1]; rfl) k))) ?_
      refine ih (p + 1) h3 _ (by omega) hc3 ((uX_n (by decide)).trans h1) ?_ (fun k k1 k2 => (uX_n (by omega)).trans (hk k k1 k2)) (fun k k1 => (uX_n (by omega)).trans (h0 k k1))
      rw [uX_s, ew]
      congr 3
      funext j
      rw [v1 j]
      unfold updV
      by_cases q2 : j = wix p
      · rw [if_pos q2, if_pos q2, q2]
      · rw [if_neg q2, if_neg q2]
end CW
