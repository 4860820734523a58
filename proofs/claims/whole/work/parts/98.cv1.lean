/-! 98: texts, while objects are made -/
def TXh (w : xW) (h : xH) : Prop := w.2.2 0 < h.1 ∧ w.2.2 3 < h.1 ∧ h.2.2 (w.2.2 0) = .inr (100, [.ref (w.2.2 3), .int 0]) ∧ h.2.2 (w.2.2 3) = .inl (.byte, (x_by 0).length, fun j => .int ((x_by 0).getD j 0))
def xq (a b : xE) : Prop := match a, b with
  | .inl x, .inl y => x.1 = y.1 ∧ x.2.1 = y.2.1 ∧ ∀ j, j < x.2.1 → x.2.2 j = y.2.2 j
  | .inr x, .inr y => x = y
  | _, _ => False
theorem xq_r (a : xE) : xq a a := by
  cases a with
  | inl x => exact ⟨rfl, rfl, fun _ _ => rfl⟩
  | inr x => exact rfl
theorem xq_e {a b : xE} (h : a = b) : xq a b := h ▸ xq_r a
theorem x_at_q {D : va_G} {lo : Nat} {s : State} {q : Nat} {a b : xE} {H : Heap} (h : xq a b) (hx : x_at D lo s q a H) : x_at D lo s q b H := by
  cases a with
  | inl x =>
    cases b with
    | inl y =>
      obtain ⟨x1, x2, x3⟩ := x
      obtain ⟨y1, y2, y3⟩ := y
      obtain ⟨e1, e2, e3⟩ := h
      simp only at e1 e2 e3
      subst e1 e2
      obtain ⟨cell, c1, c2, c3, c4, c5, c6⟩ := hx
      exact ⟨cell, c1, c2, c3, c4, fun j hj => by
        show cell.slots[j]? = some (y3 j)
        rw [← e3 j hj]
        exact c5 j hj, c6⟩
    | inr y => exact h.elim
  | inr x =>
    cases b with
    | inl y => exact h.elim
    | inr y =>
      have e : x = y := h
      rw [← e]
      exact hx
/-- characters of the text, the word and its value as far as it is read -/
def wix : Nat → Nat
  | 0 => 1
  | p + 1 => if (x_by 0).getD p 0 = 32 then wix p + 1 else wix p
def vv : Nat → Nat → Int64
  | 0, _ => 0
  | p + 1, j => if (x_by 0).getD p 0 = 32 then vv p j else if j = wix p then vv p j * 32 + (((x_by 0).getD p 0 - 97) + 1 : Int32).toInt64 else vv p j
theorem wix_le : ∀ p, p < 104 → wix p ≤ 20 := by decide +kernel
theorem vv_end : ∀ j, j < 21 → vv 103 j = VOC j := by decide +kernel
theorem chr_c : ∀ p, p < 103 → ((((x_by 0).getD p 0 &&& 255 : Int32).toUInt32 % 65536).toInt32) = (x_by 0).getD p 0 := by decide +kernel
theorem chr_d : ∀ p, p < 103 → ((((x_by 0).getD p 0 : Int32).toUInt32 % 65536).toInt32) = (x_by 0).getD p 0 := by decide +kernel
section CV
variable {l : Launch} {w : xW} {M M' : xM} {pc pc' : Nat} {ls ls' : List (Nat × Value)} {st st' rest : List Value} {h h' : xH} {F : xO × xH → Prop} {g X X' : Nat → xE} {n sl : Nat}
theorem XE_cong (hc : CI w g h n sl X) (hq : ∀ k, k < n → xq (X k) (X' k)) (k : ∀ h', CI w g h' n sl X' → XE l w M pc ls st h' F) : XE l w M pc ls st h F := by
  obtain ⟨h1, h2, h3, h4⟩ := hc
  obtain ⟨o, p, z⟩ := k (h.1, h.2.1, fun a => if a < w.2.1 then h.2.2 a else X' (a - w.2.1)) ⟨h1, h2, fun a ha => by
    show (if a < w.2.1 then h.2.2 a else X' (a - w.2.1)) = g a
    rw [if_pos ha]
    exact h3 a ha, fun k hk => by
    show (if w.2.1 + k < w.2.1 then h.2.2 (w.2.1 + k) else X' (w.2.1 + k - w.2.1)) = X' k
    rw [if_neg (by omega), show w.2.1 + k - w.2.1 = k by omega]⟩
  refine ⟨o, p, z.1, fun pg e R s m args below meth c H locs cells slots mc ms lr C hl hR hS g1 g2 g3 g4 => z.2 pg e R s m args below meth c H locs cells slots mc ms lr C hl ⟨hR.1, fun q hq1 => ?_⟩ hS g1 g2 g3 g4⟩
  have hq2 : q < h.1 := hq1
  have hx := hR.2 q hq2
  show x_at w.1 w.2.1 s q (if q < w.2.1 then h.2.2 q else X' (q - w.2.1)) H
  by_cases c : q < w.2.1
  · rw [if_pos c]
    exact hx
  · rw [if_neg c]
    have e : h.2.2 q = X (q - w.2.1) := by
      have := h4 (q - w.2.1) (by omega)
      rw [show w.2.1 + (q - w.2.1) = q by omega] at this
      exact this
    rw [e] at hx
    exact x_at_q (hq _ (by omega)) hx
theorem CI_tx (hc : CI w g h n sl X) (ht : x_TX w g) : TXh w h := by
  obtain ⟨h1, h2, h3, h4⟩ := hc
  obtain ⟨t1, t2, t3, t4⟩ := ht 0 (by decide)
  have t2' : w.2.2 3 < w.2.1 := t2
  have t4' : g (w.2.2 3) = .inl (.byte, (x_by 0).length, fun j => .int ((x_by 0).getD j 0)) := t4
  exact ⟨by omega, by omega, by rw [h3 _ t1]; exact t3, by rw [h3 _ t2']; exact t4'⟩
theorem XE_callS {idx m : Nat} {as : List Value} {v : Value} (hd : decode (x_b M) pc = .ok (.invokestatic idx, 3)) (hk : x_CS M M' m) (hl1 : Cond.methodLink (x_y M).cls idx (x_y M') ∈ x_w) (hl2 : Cond.static (x_y M') ∈ x_w) (hst : st = as.reverse ++ rest) (hn : as.length = m) (hW : (rest.map fun v => v.category).sum ≤ 8) (hfit : (lg_sl as).length ≤ x_n M')
    (kc : x_S l w M' 0 (lv_args 0 as) [] h (.inl (some v), h)) (kr : XE l w M (pc + 3) ls (v :: rest) h F) : XE l w M pc ls st h F := by
  obtain ⟨o, p, z⟩ := kr
  exact ⟨o, p, e_callS hd hk hl1 hl2 hst hn hW hfit kc (fun v' e => by cases e; exact z) (fun E e => by cases e)⟩
theorem XE_callT {idx m : Nat} {as : List Value} {v : Value} (t : TXh w h) (hCy : (x_y M').cls = "java/lang/String") (hd : decode (x_b M) pc = .ok (.invokevirtual idx, 3)) (hk : x_CS M M' m) (hl1 : Cond.methodLink (x_y M).cls idx (x_y M') ∈ x_w) (hl2 : Cond.instanceMethod (x_y M') ∈ x_w) (hl3 : Cond.selects (x_y M').cls (x_y M') (x_y M') ∈ x_w) (hst : st = as.reverse ++ .ref (w.2.2 0) :: rest) (hn : as.length = m) (hW : (rest.map fun v => v.category).sum ≤ 8) (hfit : (lg_sl (.ref (w.2.2 0) :: as)).length ≤ x_n M')
    (kc : x_S l w M' 0 (lv_args 0 (.ref (w.2.2 0) :: as)) [] h (.inl (some v), h)) (kr : XE l w M (pc + 3) ls (v :: rest) h F) : XE l w M pc ls st h F := by
  obtain ⟨o, p, z⟩ := kr
  exact ⟨o, p, e_callV hd hk hl1 hl2 hl3 hst hn hW hfit t.1 (Or.inr ⟨hCy, _, t.2.2.1⟩) kc (fun v' e => by cases e; exact z) (fun E e => by cases e)⟩
theorem xs_coder (t : TXh w h) : x_S l w M_J0_coder_7d493 0 [(0, .ref (w.2.2 0))] [] h (.inl (some (.int 0)), h) :=
  e_getsC dJ0_coder_7d493_0 fs_J0_38 (e_if_eq (tgt := 13) dJ0_coder_7d493_3 rfl (fun z => absurd z (by decide)) (fun _ => e_aload_n dJ0_coder_7d493_6 0 rfl (e_getK dJ0_coder_7d493_7 fs_J0_15 t.1 t.2.2.1 rfl (e_goto (tgt := 14) dJ0_coder_7d493_10 rfl (e_ireturn (ty := .byte) dJ0_coder_7d493_14 rfl rfl rfl)))))
theorem xs_length (t : TXh w h) : x_S l w M_J0_length_8abf5 0 [(0, .ref (w.2.2 0))] [] h (.inl (some (.int 103)), h) :=
  e_aload_n dJ0_length_8abf5_0 0 rfl (e_getV dJ0_length_8abf5_1 fs_J0_9 t.1 t.2.2.1 rfl (e_alen dJ0_length_8abf5_4 t.2.1 t.2.2.2 rfl (e_aload_n dJ0_length_8abf5_5 0 rfl (e_callV (as := []) (rest := [.int (Int32.ofNat (x_by 0).length)]) (o' := (.inl (some (.int 0)), h)) dJ0_length_8abf5_6 cs_J0_length_8abf5_J0_coder_7d493 ml_J0_335 im_J0_coder_7d493 se_J0_coder_7d493 rfl rfl (Nat.le_of_ble_eq_true rfl) (Nat.le_of_ble_eq_true rfl) t.1 (Or.inr ⟨rfl, _, t.2.2.1⟩) (xs_coder t) (fun v e => by
    cases e
    exact e_ishr dJ0_length_8abf5_9 (e_ireturn (ty := .int) dJ0_length_8abf5_10 rfl rfl rfl)) (fun E e => by cases e)))))
theorem xs_isLatin1 (t : TXh w h) : x_S l w M_J0_isLatin1_aae02 0 [(0, .ref (w.2.2 0))] [] h (.inl (some (.int 1)), h) :=
  e_getsC dJ0_isLatin1_aae02_0 fs_J0_38 (e_if_eq (tgt := 17) dJ0_isLatin1_aae02_3 rfl (fun z => absurd z (by decide)) (fun _ => e_aload_n dJ0_isLatin1_aae02_6 0 rfl (e_getK dJ0_isLatin1_aae02_7 fs_J0_15 t.1 t.2.2.1 rfl (e_if_ne (tgt := 17) dJ0_isLatin1_aae02_10 rfl (fun z => absurd rfl z) (fun _ => e_iconst (v := 1) dJ0_isLatin1_aae02_13 (by decide) (e_goto (tgt := 18) dJ0_isLatin1_aae02_14 rfl (e_ireturn (ty := .boolean) dJ0_isLatin1_aae02_18 rfl rfl rfl)))))))
theorem nar_c {p : Nat} (hp : p < 103) : narrow .char (.int ((x_by 0).getD p 0)) = .int ((x_by 0).getD p 0) := by
  show Value.int _ = Value.int _
  exact congrArg Value.int (chr_d p hp)
theorem xs_charAt1 {p : Nat} (t : TXh w h) (hp : p < 103) : x_S l w M_J1_charAt_3b067 0 [(0, .ref (w.2.2 3)), (1, .int (nn p))] [] h (.inl (some (.int ((x_by 0).getD p 0))), h) := by
  have ep : (nn p).toNatClampNeg = p := nn_t (by omega)
  have hl : (x_by 0).length = 103 := by decide
  refine e_iload_n dJ1_charAt_3b067_0 1 rfl (e_aload_n dJ1_charAt_3b067_1 0 rfl (e_alen dJ1_charAt_3b067_2 t.2.1 t.2.2.2 rfl (e_callS (as := [.int (nn p), .int (Int32.ofNat (x_by 0).length)]) (rest := []) (o' := (.inl none, h)) dJ1_charAt_3b067_3 cs_J1_charAt_3b067_J0_checkIndex_df160 ml_J1_9 st_J0_checkIndex_df160 rfl rfl (Nat.le_of_ble_eq_true rfl) (Nat.le_of_ble_eq_true rfl) (xs_J0_checkIndex (by simp (disch := omega) only [nn_add, nn_addl, l_add_nn, nn_sub, nn_subl, nn_m1, nn_mull, nn_t, nn_i, l_t, nn_lt, nn_le, nn_eq, nn_ltl, l_lt_nn, nn_lel, l_le_nn, nn_eql, l_eql, nn_nm1, xin_nn, xin_l, m1_lt, m1_le, m1_p, m1_z, dlt_T, dlt_F, dle_T, dle_F, deq_T, deq_F, sI_c, sI_n, sI_J, sI_E, sJ_c, sJ_n, sJ_I, sJ_E, sE_I, sE_J, sE_E, xcI_i, xcJ_i, xcR_i, xcV_i, xcI_e, xcJ_e, xcR_e, xcV_e, if_true, if_false, ite_true, ite_false, true_and, and_true, false_and, and_false, or_true, true_or, or_false, false_or, not_true_eq_false, not_false_eq_true, eq_self, ne_eq, ↓reduceIte, Nat.reduceEqDiff, Nat.reduceLT, Nat.reduceLeDiff, Nat.reduceAdd, Nat.reduceMul, Nat.reduceSub, Int32.reduceLT, Int32.reduceLE, reduceCtorEq] <;> omega) (by rw [hl]; show nn p < nn 103; simp (disch := omega) only [nn_add, nn_addl, l_add_nn, nn_sub, nn_subl, nn_m1, nn_mull, nn_t, nn_i, l_t, nn_lt, nn_le, nn_eq, nn_ltl, l_lt_nn, nn_lel, l_le_nn, nn_eql, l_eql, nn_nm1, xin_nn, xin_l, m1_lt, m1_le, m1_p, m1_z, dlt_T, dlt_F, dle_T, dle_F, deq_T, deq_F, sI_c, sI_n, sI_J, sI_E, sJ_c, sJ_n, sJ_I, sJ_E, sE_I, sE_J, sE_E, xcI_i, xcJ_i, xcR_i, xcV_i, xcI_e, xcJ_e, xcR_e, xcV_e, if_true, if_false, ite_true, ite_false, true_and, and_true, false_and, and_false, or_true, true_or, or_false, false_or, not_true_eq_false, not_false_eq_true, eq_self, ne_eq, ↓reduceIte, Nat.reduceEqDiff, Nat.reduceLT, Nat.reduceLeDiff, Nat.reduceAdd, Nat.reduceMul, Nat.reduceSub, Int32.reduceLT, Int32.reduceLE, reduceCtorEq] <;> omega) h) (fun v e => ?_) (fun E e => by cases e))))
  cases e
  refine e_aload_n dJ1_charAt_3b067_6 0 rfl (e_iload_n dJ1_charAt_3b067_7 1 rfl (e_bald (v := .int ((x_by 0).getD p 0)) dJ1_charAt_3b067_8 t.2.1 t.2.2.2 ((xin_nn (by omega)).mpr (by rw [hl]; exact hp)) (by rw [ep]) ?_))
  refine e_sipush (v := 255) dJ1_charAt_3b067_9 (by decide) (e_iand dJ1_charAt_3b067_12 (e_i2c (v := (x_by 0).getD p 0) dJ1_charAt_3b067_13 (chr_c p hp) (e_ireturn (ty := .char) dJ1_charAt_3b067_14 rfl (nar_c hp) rfl)))
theorem xs_charAt {p : Nat} (t : TXh w h) (hp : p < 103) : x_S l w M_J0_charAt_5068e 0 [(0, .ref (w.2.2 0)), (1, .int (nn p))] [] h (.inl (some (.int ((x_by 0).getD p 0))), h) := by
  refine e_aload_n dJ0_charAt_5068e_0 0 rfl (e_callV (as := []) (rest := []) (o' := (.inl (some (.int 1)), h)) dJ0_charAt_5068e_1 cs_J0_charAt_5068e_J0_isLatin1_aae02 ml_J0_492 im_J0_isLatin1_aae02 se_J0_isLatin1_aae02 rfl rfl (Nat.le_of_ble_eq_true rfl) (Nat.le_of_ble_eq_true rfl) t.1 (Or.inr ⟨rfl, _, t.2.2.1⟩) (xs_isLatin1 t) (fun v e => ?_) (fun E e => by cases e))
  cases e
  refine e_if_eq (tgt := 16) dJ0_charAt_5068e_4 rfl (fun z => absurd z (by decide)) (fun _ => e_aload_n dJ0_charAt_5068e_7 0 rfl (e_getV dJ0_charAt_5068e_8 fs_J0_9 t.1 t.2.2.1 rfl (e_iload_n dJ0_charAt_5068e_11 1 rfl (e_callS (as := [.ref (w.2.2 3), .int (nn p)]) (rest := []) (o' := (.inl (some (.int ((x_by 0).getD p 0))), h)) dJ0_charAt_5068e_12 cs_J0_charAt_5068e_J1_charAt_3b067 ml_J0_495 st_J1_charAt_3b067 rfl rfl (Nat.le_of_ble_eq_true rfl) (Nat.le_of_ble_eq_true rfl) (xs_charAt1 t hp) (fun v e => ?_) (fun E e => by cases e)))))
  cases e
  exact e_ireturn (ty := .char) dJ0_charAt_5068e_15 rfl (nar_c hp) rfl
theorem xs_longer {y : Int64} {c : Int32} : x_S l w M_X9_longer 0 [(0, .long y), (2, .int c)] [] h (.inl (some (.long (y * 32 + ((c - 97) + 1 : Int32).toInt64))), h) :=
  e_lload_n dX9_longer_0 0 rfl (e_ldc2 dX9_longer_1 kj_X9_105 (e_lmul dX9_longer_4 (e_iload_n dX9_longer_5 1 rfl (e_bipush (v := 97) dX9_longer_6 (by decide) (e_isub dX9_longer_8 (e_iconst (v := 1) dX9_longer_9 (by decide) (e_iadd dX9_longer_10 (e_i2l (v := ((c - 97) + 1 : Int32).toInt64) dX9_longer_11 rfl (e_ladd dX9_longer_12 (e_lreturn dX9_longer_13 rfl rfl))))))))))
theorem XE_last {q N : Nat} {f : Nat → Value} {i : Int32} {x : Int64} (hc : CI w g h n sl X) (hq : q < n) (hX : X q = .inl (.long, N, f)) (hd : decode (x_b M) pc = .ok (.lastore, 1)) (hi : vp_in i N)
    (kk : ∀ h', CI w g h' n sl (uX X q (.inl (.long, N, updV f i.toNatClampNeg (.long x)))) → XE l w M (pc + 1) ls st h' F) : XE l w M pc ls (.long x :: .int i :: .ref (w.2.1 + q) :: st) h F := by
  obtain ⟨o, p, z⟩ := kk _ (CI_set (e := .inl (.long, N, updV f i.toNatClampNeg (.long x))) hc hq)
  have h1 := hc.1
  exact ⟨o, p, e_last hd (by omega) (by omega) (by rw [hc.2.2.2 q hq]; exact hX) hi z⟩
theorem XE_aast {c q v N N2 : Nat} {C : String} {T : u_T} {ty : Nat → FieldType} {f : Nat → Value} {i : Int32} {fs : List Value} (hc : CI w g h n sl X) (hC : x_CL c C T N2 ty) (hq : q < n) (hX : X q = .inl (.object C, N, f)) (hv : v < n) (hXv : X v = .inr (c, fs)) (hd : decode (x_b M) pc = .ok (.aastore, 1)) (hi : vp_in i N)
    (kk : ∀ h', CI w g h' n sl (uX X q (.inl (.object C, N, updV f i.toNatClampNeg (.ref (w.2.1 + v))))) → XE l w M (pc + 1) ls st h' F) : XE l w M pc ls (.ref (w.2.1 + v) :: .int i :: .ref (w.2.1 + q) :: st) h F := by
  obtain ⟨o, p, z⟩ := kk _ (CI_set (e := .inl (.object C, N, updV f i.toNatClampNeg (.ref (w.2.1 + v)))) hc hq)
  have h1 := hc.1
  exact ⟨o, p, e_aast hC hd (by omega) (by omega) (by rw [hc.2.2.2 q hq]; exact hX) (by omega) (by rw [hc.2.2.2 v hv]; exact hXv) hi z⟩
end CV
