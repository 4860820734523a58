/-! JDK: the check of an index -/
section JCK
variable {l : Launch} {w : xW} {g : Nat → xE} {M M' : xM} {S : xS} {r : xr}
theorem xs_J3_checkIndex {a b : Int32} {u : Value} (h1 : ¬ a < 0) (h2 : a < b) (h : xH) : x_S l w M_J3_checkIndex_8e157 0 [(0, .int a), (1, .int b), (2, u)] [] h (.inl (some (.int a)), h) :=
  e_iload_n dJ3_checkIndex_8e157_0 0 rfl (e_if_lt (tgt := 9) dJ3_checkIndex_8e157_1 rfl (fun z => absurd z h1) (fun _ => e_iload_n dJ3_checkIndex_8e157_4 0 rfl (e_iload_n dJ3_checkIndex_8e157_5 1 rfl (e_icmp_lt (tgt := 16) dJ3_checkIndex_8e157_6 rfl (fun _ => e_iload_n dJ3_checkIndex_8e157_16 0 rfl (e_ireturn dJ3_checkIndex_8e157_17 rfl rfl rfl)) (fun z => absurd h2 z)))))
theorem xs_J0_checkIndex {a b : Int32} (h1 : ¬ a < 0) (h2 : a < b) (h : xH) : x_S l w M_J0_checkIndex_df160 0 [(0, .int a), (1, .int b)] [] h (.inl none, h) := by
  refine e_iload_n dJ0_checkIndex_df160_0 0 rfl (e_iload_n dJ0_checkIndex_df160_1 1 rfl (e_getsQ dJ0_checkIndex_df160_2 fs_J0_1053 (fun v hv => ?_)))
  have hfit : (lg_sl [.int a, .int b, v]).length ≤ x_n M_J3_checkIndex_8e157 := by rcases hv with rfl | ⟨t, rfl⟩ <;> exact Nat.le_of_ble_eq_true rfl
  have hcat : v.category = 1 := by rcases hv with rfl | ⟨t, rfl⟩ <;> rfl
  refine e_callS (as := [.int a, .int b, v]) (rest := []) (o' := (.inl (some (.int a)), h)) dJ0_checkIndex_df160_5 cs_J0_checkIndex_df160_J3_checkIndex_8e157 ml_J0_1059 st_J3_checkIndex_8e157 rfl rfl (by decide) hfit (xs_J3_checkIndex h1 h2 h) (fun v' e => ?_) (fun E e => by cases e)
  cases e
  exact e_pop dJ0_checkIndex_df160_8 rfl (e_return dJ0_checkIndex_df160_9 rfl rfl)
def f_J0_checkIndex_df160 (_ : Nat) (x0 x1 : Int32) (S : xS) : Option xr := if ¬ x0 < 0 ∧ x0 < x1 then some (.inl none, S) else none
theorem t_J0_checkIndex_df160 (N : Nat) (x0 x1 : Int32) (S : xS) (r : xr) (hf : f_J0_checkIndex_df160 N x0 x1 S = some r) : ES l w g M_J0_checkIndex_df160 0 (lv_args 0 [.int x0, .int x1]) [] S r := by
  obtain ⟨⟨h1, h2⟩, hf⟩ := xg hf
  exact es_xs (v := none) (fun h => xs_J0_checkIndex h1 h2 h) hf
end JCK
