/-! the law's wrappers -/
theorem th_c_L_13 : Cond.classLink RL 13 "java/lang/IllegalArgumentException" ∈ x_w := x_in 619 (by decide +kernel) (by decide +kernel)
theorem th_c_L_15 : Cond.classLink RL 15 "java/lang/IllegalStateException" ∈ x_w := x_in 620 (by decide +kernel) (by decide +kernel)
theorem th_c_L_28 : Cond.classLink RL 28 "java/lang/IndexOutOfBoundsException" ∈ x_w := x_in 1155 (by decide +kernel) (by decide +kernel)
theorem cast_ISE : Cond.castable "java/lang/IllegalStateException" "java/lang/IllegalStateException" ∈ x_w := x_in 690 (by decide +kernel) (by decide +kernel)
theorem cast_IOOBE : Cond.castable "java/lang/IndexOutOfBoundsException" "java/lang/IndexOutOfBoundsException" ∈ x_w := x_in 1162 (by decide +kernel) (by decide +kernel)
section LW
variable {l : Launch} {w : xW} {g : Nat → xE} {M M' : xM} {pc : Nat} {ls ls' : List (Nat × Value)} {st st' rest : List Value} {S S' : xS} {r r' : xr}
theorem et_hand {E nm : String} {n : Int32} (pre suf : List (Nat × Nat × Nat × Nat)) (x : Nat × Nat × Nat × Nat) (ht : x_t M = pre ++ x :: suf)
    (hpass : ∀ z ∈ tableOf pre, covers z pc = false ∨ (z.catchType ≠ 0 ∧ E = "java/lang/IllegalStateException" ∧ Cond.classLink (x_y M).cls z.catchType "java/lang/IllegalArgumentException" ∈ x_w))
    (hx : covers ⟨x.1, x.2.1, x.2.2.1, x.2.2.2⟩ pc = true) (h0 : x.2.2.2 ≠ 0) (hlink : Cond.classLink (x_y M).cls x.2.2.2 nm ∈ x_w) (hcast : Cond.castable E nm ∈ x_w) (k : ∀ (h : xH) (q : Nat), x_S l w M x.2.2.1 ls [.ref q] h (.inl (some (.int n)), h)) (ho : some ((.inl (some (.inl n)), S) : xr) = some r) : ET l w g M pc ls st S E r := fun h hP => by
  cases ho
  exact ⟨h, hP, t_catch pre suf x ht hpass hx h0 hlink hcast (fun q => k h q)⟩
end LW
/-- the class's call in the law: its answer, or a number for what it throws -/
def xcW (q : Option xr) (k : Int32 → xS → Option xr) (c1 c2 : String) : Option xr := match q with
  | some (.inl (some (.inl v)), S) => k v S
  | some (.inr E, S) => if E = c1 then some (.inl (some (.inl 1)), S) else if E = c2 then some (.inl (some (.inl 2)), S) else none
  | _ => none
theorem xcW_s {q : Option xr} {k : Int32 → xS → Option xr} {c1 c2 : String} {r : xr} (h : xcW q k c1 c2 = some r) : (∃ v S, q = some (.inl (some (.inl v)), S) ∧ k v S = some r) ∨ (∃ S, q = some (.inr c1, S) ∧ some ((.inl (some (.inl 1)), S) : xr) = some r) ∨ ∃ S, q = some (.inr c2, S) ∧ some ((.inl (some (.inl 2)), S) : xr) = some r := by
  unfold xcW at h
  split at h
  · exact Or.inl ⟨_, _, rfl, h⟩
  · split at h
    · rename_i e
      subst e
      exact Or.inr (Or.inl ⟨_, rfl, h⟩)
    · split at h
      · rename_i e
        subst e
        exact Or.inr (Or.inr ⟨_, rfl, h⟩)
      · cases h
  · cases h
def xcW1 (q : Option xr) (k : Int32 → xS → Option xr) (c1 : String) : Option xr := match q with
  | some (.inl (some (.inl v)), S) => k v S
  | some (.inr E, S) => if E = c1 then some (.inl (some (.inl 1)), S) else none
  | _ => none
theorem xcW1_s {q : Option xr} {k : Int32 → xS → Option xr} {c1 : String} {r : xr} (h : xcW1 q k c1 = some r) : (∃ v S, q = some (.inl (some (.inl v)), S) ∧ k v S = some r) ∨ (∃ S, q = some (.inr c1, S) ∧ some ((.inl (some (.inl 1)), S) : xr) = some r) := by
  unfold xcW1 at h
  split at h
  · exact Or.inl ⟨_, _, rfl, h⟩
  · obtain ⟨e, h2⟩ := xg h
    subst e
    exact Or.inr ⟨_, rfl, h2⟩
  · cases h
def f_L_feed (N : Nat) (y1 : Int64) (x3 : Int32) (S : xS) : Option xr := xcW (f_X11_feed N y1 x3 S) (fun v S1 => some (.inl (some (.inl 0)), sJ S1 533 (0 : Int32).toNatClampNeg (v : Int32).toInt64)) "java/lang/IllegalArgumentException" "java/lang/IllegalStateException"
set_option maxRecDepth 100000 in
set_option maxHeartbeats 4000000 in
theorem t_L_feed {l : Launch} {w : xW} {g : Nat → xE} (N : Nat) (y1 : Int64) (x3 : Int32) (S : xS) (r : xr) (hf : f_L_feed N y1 x3 S = some r) : ES l w g M_L_feed 0 (lv_args 0 [.ref (w.2.1 + 0), .long y1, .int x3, .ref (w.2.1 + 533)]) [] S r := by
  show ES l w g M_L_feed 0 [(0, .ref (w.2.1 + 0)), (1, .long y1), (3, .int x3), (4, .ref (w.2.1 + 533))] [] S r
  unfold f_L_feed at hf
  refine es_l (pc' := 6) (ls' := [(0, .ref (w.2.1 + 0)), (1, .long y1), (3, .int x3), (4, .ref (w.2.1 + 533))]) (st' := [.int x3, .long y1, .ref (w.2.1 + 0), .int 0, .ref (w.2.1 + 533)]) (fun _ _ k => e_aload dL_feed_0 3 rfl (e_iconst (v := 0) dL_feed_2 (by decide) (e_aload_n dL_feed_3 0 rfl (e_lload_n dL_feed_4 1 rfl (e_iload_n dL_feed_5 2 rfl k))))) ?_
  rcases xcW_s hf with ⟨v, S1, hq, hf⟩ | ⟨S1, hq, hf⟩ | ⟨S1, hq, hf⟩
  · refine es_callV (as := [.long y1, .int x3]) (rest := [.int 0, .ref (w.2.1 + 533)]) xc_11 dL_feed_6 cs_L_feed_X11_feed ml_L_7 im_X11_feed se_X11_feed rfl rfl (Nat.le_of_ble_eq_true rfl) (Nat.le_of_ble_eq_true rfl) (by decide) rfl (cel_0 _ _ _) (r' := (.inl (some (.inl v)), S1)) (t_X11_feed N y1 x3 S _ hq) (fun _ e => ?_) (fun _ e => by cases e)
    cases e
    show ES l w g M_L_feed 9 [(0, .ref (w.2.1 + 0)), (1, .long y1), (3, .int x3), (4, .ref (w.2.1 + 533))] (.int v :: [.int 0, .ref (w.2.1 + 533)]) S1 r
    refine es_l (pc' := 10) (ls' := [(0, .ref (w.2.1 + 0)), (1, .long y1), (3, .int x3), (4, .ref (w.2.1 + 533))]) (st' := .long (v : Int32).toInt64 :: [.int 0, .ref (w.2.1 + 533)]) (fun _ _ k => e_i2l (v := (v : Int32).toInt64) dL_feed_9 rfl k) ?_
    refine es_last dL_feed_10 (by decide) (cel_533 _) (by decide) ?_
    refine es_l (pc' := 23) (ls' := [(0, .ref (w.2.1 + 0)), (1, .long y1), (3, .int x3), (4, .ref (w.2.1 + 533))]) (st' := [.int 0]) (fun _ _ k => e_goto (tgt := 22) dL_feed_11 rfl (e_iconst (v := 0) dL_feed_22 (by decide) k)) ?_
    exact es_ireturn (ty := .int) dL_feed_23 rfl rfl hf
  · refine es_callV (as := [.long y1, .int x3]) (rest := [.int 0, .ref (w.2.1 + 533)]) xc_11 dL_feed_6 cs_L_feed_X11_feed ml_L_7 im_X11_feed se_X11_feed rfl rfl (Nat.le_of_ble_eq_true rfl) (Nat.le_of_ble_eq_true rfl) (by decide) rfl (cel_0 _ _ _) (r' := (.inr "java/lang/IllegalArgumentException", S1)) (t_X11_feed N y1 x3 S _ hq) (fun _ e => by cases e) (fun _ e => ?_)
    cases e
    exact et_hand [] [(0, 11, 18, 15)] (0, 11, 14, 13) rfl (fun z hz => by cases hz) (by decide) (by decide) th_c_L_13 cast_IAE (fun h q => e_astore dL_feed_14 (by decide) rfl (e_iconst (v := 1) dL_feed_16 (by decide) (e_ireturn dL_feed_17 rfl rfl rfl))) hf
  · refine es_callV (as := [.long y1, .int x3]) (rest := [.int 0, .ref (w.2.1 + 533)]) xc_11 dL_feed_6 cs_L_feed_X11_feed ml_L_7 im_X11_feed se_X11_feed rfl rfl (Nat.le_of_ble_eq_true rfl) (Nat.le_of_ble_eq_true rfl) (by decide) rfl (cel_0 _ _ _) (r' := (.inr "java/lang/IllegalStateException", S1)) (t_X11_feed N y1 x3 S _ hq) (fun _ e => by cases e) (fun _ e => ?_)
    cases e
    exact et_hand [(0, 11, 14, 13)] [] (0, 11, 18, 15) rfl (fun z hz => by cases List.mem_singleton.mp hz; exact Or.inr ⟨by decide, rfl, th_c_L_13⟩) (by decide) (by decide) th_c_L_15 cast_ISE (fun h q => e_astore dL_feed_18 (by decide) rfl (e_iconst (v := 2) dL_feed_20 (by decide) (e_ireturn dL_feed_21 rfl rfl rfl))) hf
def f_L_load (N : Nat)  (S : xS) : Option xr := xcW1 (f_X11_load N  S) (fun v S1 => some (.inl (some (.inl 0)), sJ S1 533 (0 : Int32).toNatClampNeg (v : Int32).toInt64)) "java/lang/IllegalArgumentException"
set_option maxRecDepth 100000 in
set_option maxHeartbeats 4000000 in
theorem t_L_load {l : Launch} {w : xW} {g : Nat → xE} (N : Nat)  (S : xS) (r : xr) (hf : f_L_load N  S = some r) : ES l w g M_L_load 0 (lv_args 0 [.ref (w.2.1 + 0), .ref (w.2.1 + 533)]) [] S r := by
  show ES l w g M_L_load 0 [(0, .ref (w.2.1 + 0)), (1, .ref (w.2.1 + 533))] [] S r
  unfold f_L_load at hf
  refine es_l (pc' := 3) (ls' := [(0, .ref (w.2.1 + 0)), (1, .ref (w.2.1 + 533))]) (st' := [.ref (w.2.1 + 0), .int 0, .ref (w.2.1 + 533)]) (fun _ _ k => e_aload_n dL_load_0 1 rfl (e_iconst (v := 0) dL_load_1 (by decide) (e_aload_n dL_load_2 0 rfl k))) ?_
  rcases xcW1_s hf with ⟨v, S1, hq, hf⟩ | ⟨S1, hq, hf⟩
  · refine es_callV (as := []) (rest := [.int 0, .ref (w.2.1 + 533)]) xc_11 dL_load_3 cs_L_load_X11_load ml_L_17 im_X11_load se_X11_load rfl rfl (Nat.le_of_ble_eq_true rfl) (Nat.le_of_ble_eq_true rfl) (by decide) rfl (cel_0 _ _ _) (r' := (.inl (some (.inl v)), S1)) (t_X11_load N  S _ hq) (fun _ e => ?_) (fun _ e => by cases e)
    cases e
    show ES l w g M_L_load 6 [(0, .ref (w.2.1 + 0)), (1, .ref (w.2.1 + 533))] (.int v :: [.int 0, .ref (w.2.1 + 533)]) S1 r
    refine es_l (pc' := 7) (ls' := [(0, .ref (w.2.1 + 0)), (1, .ref (w.2.1 + 533))]) (st' := .long (v : Int32).toInt64 :: [.int 0, .ref (w.2.1 + 533)]) (fun _ _ k => e_i2l (v := (v : Int32).toInt64) dL_load_6 rfl k) ?_
    refine es_last dL_load_7 (by decide) (cel_533 _) (by decide) ?_
    refine es_l (pc' := 15) (ls' := [(0, .ref (w.2.1 + 0)), (1, .ref (w.2.1 + 533))]) (st' := [.int 0]) (fun _ _ k => e_goto (tgt := 14) dL_load_8 rfl (e_iconst (v := 0) dL_load_14 (by decide) k)) ?_
    exact es_ireturn (ty := .int) dL_load_15 rfl rfl hf
  · refine es_callV (as := []) (rest := [.int 0, .ref (w.2.1 + 533)]) xc_11 dL_load_3 cs_L_load_X11_load ml_L_17 im_X11_load se_X11_load rfl rfl (Nat.le_of_ble_eq_true rfl) (Nat.le_of_ble_eq_true rfl) (by decide) rfl (cel_0 _ _ _) (r' := (.inr "java/lang/IllegalArgumentException", S1)) (t_X11_load N  S _ hq) (fun _ e => by cases e) (fun _ e => ?_)
    cases e
    exact et_hand [] [] (0, 8, 11, 13) rfl (fun z hz => by cases hz) (by decide) (by decide) th_c_L_13 cast_IAE (fun h q => e_astore_n dL_load_11 (by decide) rfl (e_iconst (v := 1) dL_load_12 (by decide) (e_ireturn dL_load_13 rfl rfl rfl))) hf
def f_L_run (N : Nat) (x1 : Int32) (S : xS) : Option xr := xcW (f_X11_run N x1 S) (fun v S1 => some (.inl (some (.inl 0)), sJ S1 533 (0 : Int32).toNatClampNeg (v : Int32).toInt64)) "java/lang/IllegalArgumentException" "java/lang/IllegalStateException"
set_option maxRecDepth 100000 in
set_option maxHeartbeats 4000000 in
theorem t_L_run {l : Launch} {w : xW} {g : Nat → xE} (N : Nat) (x1 : Int32) (S : xS) (r : xr) (hf : f_L_run N x1 S = some r) : ES l w g M_L_run 0 (lv_args 0 [.ref (w.2.1 + 0), .int x1, .ref (w.2.1 + 533)]) [] S r := by
  show ES l w g M_L_run 0 [(0, .ref (w.2.1 + 0)), (1, .int x1), (2, .ref (w.2.1 + 533))] [] S r
  unfold f_L_run at hf
  refine es_l (pc' := 4) (ls' := [(0, .ref (w.2.1 + 0)), (1, .int x1), (2, .ref (w.2.1 + 533))]) (st' := [.int x1, .ref (w.2.1 + 0), .int 0, .ref (w.2.1 + 533)]) (fun _ _ k => e_aload_n dL_run_0 2 rfl (e_iconst (v := 0) dL_run_1 (by decide) (e_aload_n dL_run_2 0 rfl (e_iload_n dL_run_3 1 rfl k)))) ?_
  rcases xcW_s hf with ⟨v, S1, hq, hf⟩ | ⟨S1, hq, hf⟩ | ⟨S1, hq, hf⟩
  · refine es_callV (as := [.int x1]) (rest := [.int 0, .ref (w.2.1 + 533)]) xc_11 dL_run_4 cs_L_run_X11_run ml_L_21 im_X11_run se_X11_run rfl rfl (Nat.le_of_ble_eq_true rfl) (Nat.le_of_ble_eq_true rfl) (by decide) rfl (cel_0 _ _ _) (r' := (.inl (some (.inl v)), S1)) (t_X11_run N x1 S _ hq) (fun _ e => ?_) (fun _ e => by cases e)
    cases e
    show ES l w g M_L_run 7 [(0, .ref (w.2.1 + 0)), (1, .int x1), (2, .ref (w.2.1 + 533))] (.int v :: [.int 0, .ref (w.2.1 + 533)]) S1 r
    refine es_l (pc' := 8) (ls' := [(0, .ref (w.2.1 + 0)), (1, .int x1), (2, .ref (w.2.1 + 533))]) (st' := .long (v : Int32).toInt64 :: [.int 0, .ref (w.2.1 + 533)]) (fun _ _ k => e_i2l (v := (v : Int32).toInt64) dL_run_7 rfl k) ?_
    refine es_last dL_run_8 (by decide) (cel_533 _) (by decide) ?_
    refine es_l (pc' := 19) (ls' := [(0, .ref (w.2.1 + 0)), (1, .int x1), (2, .ref (w.2.1 + 533))]) (st' := [.int 0]) (fun _ _ k => e_goto (tgt := 18) dL_run_9 rfl (e_iconst (v := 0) dL_run_18 (by decide) k)) ?_
    exact es_ireturn (ty := .int) dL_run_19 rfl rfl hf
  · refine es_callV (as := [.int x1]) (rest := [.int 0, .ref (w.2.1 + 533)]) xc_11 dL_run_4 cs_L_run_X11_run ml_L_21 im_X11_run se_X11_run rfl rfl (Nat.le_of_ble_eq_true rfl) (Nat.le_of_ble_eq_true rfl) (by decide) rfl (cel_0 _ _ _) (r' := (.inr "java/lang/IllegalArgumentException", S1)) (t_X11_run N x1 S _ hq) (fun _ e => by cases e) (fun _ e => ?_)
    cases e
    exact et_hand [] [(0, 9, 15, 15)] (0, 9, 12, 13) rfl (fun z hz => by cases hz) (by decide) (by decide) th_c_L_13 cast_IAE (fun h q => e_astore_n dL_run_12 (by decide) rfl (e_iconst (v := 1) dL_run_13 (by decide) (e_ireturn dL_run_14 rfl rfl rfl))) hf
  · refine es_callV (as := [.int x1]) (rest := [.int 0, .ref (w.2.1 + 533)]) xc_11 dL_run_4 cs_L_run_X11_run ml_L_21 im_X11_run se_X11_run rfl rfl (Nat.le_of_ble_eq_true rfl) (Nat.le_of_ble_eq_true rfl) (by decide) rfl (cel_0 _ _ _) (r' := (.inr "java/lang/IllegalStateException", S1)) (t_X11_run N x1 S _ hq) (fun _ e => by cases e) (fun _ e => ?_)
    cases e
    exact et_hand [(0, 9, 12, 13)] [] (0, 9, 15, 15) rfl (fun z hz => by cases List.mem_singleton.mp hz; exact Or.inr ⟨by decide, rfl, th_c_L_13⟩) (by decide) (by decide) th_c_L_15 cast_ISE (fun h q => e_astore_n dL_run_15 (by decide) rfl (e_iconst (v := 2) dL_run_16 (by decide) (e_ireturn dL_run_17 rfl rfl rfl))) hf
def f_L_print (N : Nat) (x1 : Int32) (S : xS) : Option xr := xcW1 (f_X11_print N x1 S) (fun v S1 => some (.inl (some (.inl 0)), sJ S1 533 (0 : Int32).toNatClampNeg (v : Int32).toInt64)) "java/lang/IndexOutOfBoundsException"
set_option maxRecDepth 100000 in
set_option maxHeartbeats 4000000 in
theorem t_L_print {l : Launch} {w : xW} {g : Nat → xE} (N : Nat) (x1 : Int32) (S : xS) (r : xr) (hf : f_L_print N x1 S = some r) : ES l w g M_L_print 0 (lv_args 0 [.ref (w.2.1 + 0), .int x1, .ref (w.2.1 + 533)]) [] S r := by
  show ES l w g M_L_print 0 [(0, .ref (w.2.1 + 0)), (1, .int x1), (2, .ref (w.2.1 + 533))] [] S r
  unfold f_L_print at hf
  refine es_l (pc' := 4) (ls' := [(0, .ref (w.2.1 + 0)), (1, .int x1), (2, .ref (w.2.1 + 533))]) (st' := [.int x1, .ref (w.2.1 + 0), .int 0, .ref (w.2.1 + 533)]) (fun _ _ k => e_aload_n dL_print_0 2 rfl (e_iconst (v := 0) dL_print_1 (by decide) (e_aload_n dL_print_2 0 rfl (e_iload_n dL_print_3 1 rfl k)))) ?_
  rcases xcW1_s hf with ⟨v, S1, hq, hf⟩ | ⟨S1, hq, hf⟩
  · refine es_callV (as := [.int x1]) (rest := [.int 0, .ref (w.2.1 + 533)]) xc_11 dL_print_4 cs_L_print_X11_print ml_L_25 im_X11_print se_X11_print rfl rfl (Nat.le_of_ble_eq_true rfl) (Nat.le_of_ble_eq_true rfl) (by decide) rfl (cel_0 _ _ _) (r' := (.inl (some (.inl v)), S1)) (t_X11_print N x1 S _ hq) (fun _ e => ?_) (fun _ e => by cases e)
    cases e
    show ES l w g M_L_print 7 [(0, .ref (w.2.1 + 0)), (1, .int x1), (2, .ref (w.2.1 + 533))] (.int v :: [.int 0, .ref (w.2.1 + 533)]) S1 r
    refine es_l (pc' := 8) (ls' := [(0, .ref (w.2.1 + 0)), (1, .int x1), (2, .ref (w.2.1 + 533))]) (st' := .long (v : Int32).toInt64 :: [.int 0, .ref (w.2.1 + 533)]) (fun _ _ k => e_i2l (v := (v : Int32).toInt64) dL_print_7 rfl k) ?_
    refine es_last dL_print_8 (by decide) (cel_533 _) (by decide) ?_
    refine es_l (pc' := 16) (ls' := [(0, .ref (w.2.1 + 0)), (1, .int x1), (2, .ref (w.2.1 + 533))]) (st' := [.int 0]) (fun _ _ k => e_goto (tgt := 15) dL_print_9 rfl (e_iconst (v := 0) dL_print_15 (by decide) k)) ?_
    exact es_ireturn (ty := .int) dL_print_16 rfl rfl hf
  · refine es_callV (as := [.int x1]) (rest := [.int 0, .ref (w.2.1 + 533)]) xc_11 dL_print_4 cs_L_print_X11_print ml_L_25 im_X11_print se_X11_print rfl rfl (Nat.le_of_ble_eq_true rfl) (Nat.le_of_ble_eq_true rfl) (by decide) rfl (cel_0 _ _ _) (r' := (.inr "java/lang/IndexOutOfBoundsException", S1)) (t_X11_print N x1 S _ hq) (fun _ e => by cases e) (fun _ e => ?_)
    cases e
    exact et_hand [] [] (0, 9, 12, 28) rfl (fun z hz => by cases hz) (by decide) (by decide) th_c_L_28 cast_IOOBE (fun h q => e_astore_n dL_print_12 (by decide) rfl (e_iconst (v := 1) dL_print_13 (by decide) (e_ireturn dL_print_14 rfl rfl rfl))) hf
def f_L_word (N : Nat) (x1 : Int32) (x2 : Int32) (S : xS) : Option xr := xcW1 (f_X11_word N x1 x2 S) (fun v S1 => some (.inl (some (.inl 0)), sJ S1 533 (0 : Int32).toNatClampNeg (v : Int32).toInt64)) "java/lang/IllegalArgumentException"
set_option maxRecDepth 100000 in
set_option maxHeartbeats 4000000 in
theorem t_L_word {l : Launch} {w : xW} {g : Nat → xE} (N : Nat) (x1 : Int32) (x2 : Int32) (S : xS) (r : xr) (hf : f_L_word N x1 x2 S = some r) : ES l w g M_L_word 0 (lv_args 0 [.ref (w.2.1 + 0), .int x1, .int x2, .ref (w.2.1 + 533)]) [] S r := by
  show ES l w g M_L_word 0 [(0, .ref (w.2.1 + 0)), (1, .int x1), (2, .int x2), (3, .ref (w.2.1 + 533))] [] S r
  unfold f_L_word at hf
  refine es_l (pc' := 5) (ls' := [(0, .ref (w.2.1 + 0)), (1, .int x1), (2, .int x2), (3, .ref (w.2.1 + 533))]) (st' := [.int x2, .int x1, .ref (w.2.1 + 0), .int 0, .ref (w.2.1 + 533)]) (fun _ _ k => e_aload_n dL_word_0 3 rfl (e_iconst (v := 0) dL_word_1 (by decide) (e_aload_n dL_word_2 0 rfl (e_iload_n dL_word_3 1 rfl (e_iload_n dL_word_4 2 rfl k))))) ?_
  rcases xcW1_s hf with ⟨v, S1, hq, hf⟩ | ⟨S1, hq, hf⟩
  · refine es_callV (as := [.int x1, .int x2]) (rest := [.int 0, .ref (w.2.1 + 533)]) xc_11 dL_word_5 cs_L_word_X11_word ml_L_30 im_X11_word se_X11_word rfl rfl (Nat.le_of_ble_eq_true rfl) (Nat.le_of_ble_eq_true rfl) (by decide) rfl (cel_0 _ _ _) (r' := (.inl (some (.inl v)), S1)) (t_X11_word N x1 x2 S _ hq) (fun _ e => ?_) (fun _ e => by cases e)
    cases e
    show ES l w g M_L_word 8 [(0, .ref (w.2.1 + 0)), (1, .int x1), (2, .int x2), (3, .ref (w.2.1 + 533))] (.int v :: [.int 0, .ref (w.2.1 + 533)]) S1 r
    refine es_l (pc' := 9) (ls' := [(0, .ref (w.2.1 + 0)), (1, .int x1), (2, .int x2), (3, .ref (w.2.1 + 533))]) (st' := .long (v : Int32).toInt64 :: [.int 0, .ref (w.2.1 + 533)]) (fun _ _ k => e_i2l (v := (v : Int32).toInt64) dL_word_8 rfl k) ?_
    refine es_last dL_word_9 (by decide) (cel_533 _) (by decide) ?_
    refine es_l (pc' := 18) (ls' := [(0, .ref (w.2.1 + 0)), (1, .int x1), (2, .int x2), (3, .ref (w.2.1 + 533))]) (st' := [.int 0]) (fun _ _ k => e_goto (tgt := 17) dL_word_10 rfl (e_iconst (v := 0) dL_word_17 (by decide) k)) ?_
    exact es_ireturn (ty := .int) dL_word_18 rfl rfl hf
  · refine es_callV (as := [.int x1, .int x2]) (rest := [.int 0, .ref (w.2.1 + 533)]) xc_11 dL_word_5 cs_L_word_X11_word ml_L_30 im_X11_word se_X11_word rfl rfl (Nat.le_of_ble_eq_true rfl) (Nat.le_of_ble_eq_true rfl) (by decide) rfl (cel_0 _ _ _) (r' := (.inr "java/lang/IllegalArgumentException", S1)) (t_X11_word N x1 x2 S _ hq) (fun _ e => by cases e) (fun _ e => ?_)
    cases e
    exact et_hand [] [] (0, 10, 13, 13) rfl (fun z hz => by cases hz) (by decide) (by decide) th_c_L_13 cast_IAE (fun h q => e_astore dL_word_13 (by decide) rfl (e_iconst (v := 1) dL_word_15 (by decide) (e_ireturn dL_word_16 rfl rfl rfl))) hf
