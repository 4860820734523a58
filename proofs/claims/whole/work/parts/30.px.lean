/-! THE PURE PART. 30: numbers, reads and writes -/
def nn (a : Nat) : Int32 := Int32.ofNat a
theorem nn_z : (0 : Int32) = nn 0 := rfl
theorem nn_add (a b : Nat) : nn a + nn b = nn (a + b) := (Int32.ofNat_add a b).symm
theorem nn_addl (a k : Nat) : nn a + (no_index (OfNat.ofNat k) : Int32) = nn (a + OfNat.ofNat k) := (Int32.ofNat_add a k).symm
theorem l_add_nn (a k : Nat) : (no_index (OfNat.ofNat k) : Int32) + nn a = nn (OfNat.ofNat k + a) := (Int32.ofNat_add k a).symm
theorem nn_sub {a b : Nat} (h : b ≤ a) : nn a - nn b = nn (a - b) := (Int32.ofNat_sub a b h).symm
theorem nn_subl {a k : Nat} (h : OfNat.ofNat k ≤ a) : nn a - (no_index (OfNat.ofNat k) : Int32) = nn (a - OfNat.ofNat k) := (Int32.ofNat_sub a k h).symm
theorem nn_m1 {a : Nat} (h : 1 ≤ a) : nn a + (-1) = nn (a - 1) := by
  have : nn a - 1 = nn (a - 1) := nn_subl (k := nat_lit 1) h
  rw [← this, Int32.sub_eq_add_neg]
theorem nn_pm (a : Nat) : nn a + (-1) = nn a - 1 := by rw [Int32.sub_eq_add_neg]
theorem nn_s1 (a : Nat) : nn (a + 1) - 1 = nn a := nn_subl (k := nat_lit 1) (Nat.le_add_left 1 a)
theorem nn_mull (k a : Nat) : (no_index (OfNat.ofNat k) : Int32) * nn a = nn (OfNat.ofNat k * a) := (Int32.ofNat_mul k a).symm
theorem nn_t {a : Nat} (h : a < 2147483648) : (nn a).toNatClampNeg = a := Int32.toNatClampNeg_ofNat_of_lt h
theorem nn_i {a : Nat} (h : a < 2147483648) : (nn a).toInt = a := Int32.toInt_ofNat_of_lt h
theorem l_t {k : Nat} (h : (OfNat.ofNat k : Nat) < 2147483648) : (no_index (OfNat.ofNat k) : Int32).toNatClampNeg = (OfNat.ofNat k : Nat) := Int32.toNatClampNeg_ofNat_of_lt h
theorem nn_lt {a b : Nat} (h : a < 2147483648) (h2 : b < 2147483648) : (nn a < nn b) ↔ a < b := by
  rw [Int32.lt_iff_toInt_lt, nn_i h, nn_i h2]; omega
theorem nn_le {a b : Nat} (h : a < 2147483648) (h2 : b < 2147483648) : (nn a ≤ nn b) ↔ a ≤ b := by
  rw [Int32.le_iff_toInt_le, nn_i h, nn_i h2]; omega
theorem nn_eq {a b : Nat} (h : a < 2147483648) (h2 : b < 2147483648) : (nn a = nn b) ↔ a = b := by
  rw [← Int32.toInt_inj, nn_i h, nn_i h2]; omega
theorem nn_ltl {a k : Nat} (h : a < 2147483648) (h2 : (OfNat.ofNat k : Nat) < 2147483648) : (nn a < (no_index (OfNat.ofNat k) : Int32)) ↔ a < OfNat.ofNat k := nn_lt h h2
theorem l_lt_nn {a k : Nat} (h : a < 2147483648) (h2 : (OfNat.ofNat k : Nat) < 2147483648) : ((no_index (OfNat.ofNat k) : Int32) < nn a) ↔ OfNat.ofNat k < a := nn_lt h2 h
theorem nn_lel {a k : Nat} (h : a < 2147483648) (h2 : (OfNat.ofNat k : Nat) < 2147483648) : (nn a ≤ (no_index (OfNat.ofNat k) : Int32)) ↔ a ≤ OfNat.ofNat k := nn_le h h2
theorem l_le_nn {a k : Nat} (h : a < 2147483648) (h2 : (OfNat.ofNat k : Nat) < 2147483648) : ((no_index (OfNat.ofNat k) : Int32) ≤ nn a) ↔ OfNat.ofNat k ≤ a := nn_le h2 h
theorem nn_eql {a k : Nat} (h : a < 2147483648) (h2 : (OfNat.ofNat k : Nat) < 2147483648) : (nn a = (no_index (OfNat.ofNat k) : Int32)) ↔ a = OfNat.ofNat k := nn_eq h h2
theorem l_eql {k k2 : Nat} (h : (OfNat.ofNat k : Nat) < 2147483648) (h2 : (OfNat.ofNat k2 : Nat) < 2147483648) : ((no_index (OfNat.ofNat k) : Int32) = (no_index (OfNat.ofNat k2) : Int32)) ↔ (OfNat.ofNat k : Nat) = OfNat.ofNat k2 := nn_eq h h2
theorem nn_nm1 {a : Nat} (h : a < 2147483648) : (nn a = -1) ↔ False := by
  rw [← Int32.toInt_inj, nn_i h, show (-1 : Int32).toInt = -1 from rfl]; exact ⟨fun z => by omega, False.elim⟩
theorem xin_nn {a n : Nat} (h : a < 2147483648) : xin (nn a) n ↔ a < n := by
  unfold xin
  rw [nn_t h, nn_ltl (k := nat_lit 0) h (by decide)]
  show ¬ (a < 0 ∨ n ≤ a) ↔ a < n
  omega
theorem xin_l {k n : Nat} (h : (OfNat.ofNat k : Nat) < 2147483648) : xin (no_index (OfNat.ofNat k)) n ↔ (OfNat.ofNat k : Nat) < n := xin_nn h
theorem m1_lt : ((-1 : Int32) < 0) ↔ True := by decide
theorem m1_le : ((0 : Int32) ≤ -1) ↔ False := by decide
theorem m1_p : (-1 : Int32) + 1 = nn 0 := rfl
theorem m1_z : ((-1 : Int32) = 0) ↔ False := by decide
theorem dlt_T {a b : Nat} (h : a < b) : (a < b) = True := eq_true h
theorem dlt_F {a b : Nat} (h : b ≤ a) : (a < b) = False := eq_false (Nat.not_lt.mpr h)
theorem dle_T {a b : Nat} (h : a ≤ b) : (a ≤ b) = True := eq_true h
theorem dle_F {a b : Nat} (h : b < a) : (a ≤ b) = False := eq_false (Nat.not_le.mpr h)
theorem deq_T {a b : Nat} (h : a = b) : (a = b) = True := eq_true h
theorem deq_F {a b : Nat} (h : ¬ a = b) : (a = b) = False := eq_false h
theorem sI_c (S : xS) (q j : Nat) (v : Int32) (q' j' : Nat) : (sI S q j v).1 q' j' = if q' = q ∧ j' = j then v else S.1 q' j' := by
  unfold sI
  by_cases h : q' = q
  · subst h
    by_cases h2 : j' = j <;> simp [h2]
  · simp [h]
theorem sI_n {S : xS} {q j : Nat} {v : Int32} {q' : Nat} (h : q' ≠ q) : (sI S q j v).1 q' = S.1 q' := by
  unfold sI; simp [h]
theorem sI_J (S : xS) (q j : Nat) (v : Int32) : (sI S q j v).2.1 = S.2.1 := rfl
theorem sI_E (S : xS) (q j : Nat) (v : Int32) : (sI S q j v).2.2 = S.2.2 := rfl
theorem sJ_c (S : xS) (q j : Nat) (v : Int64) (q' j' : Nat) : (sJ S q j v).2.1 q' j' = if q' = q ∧ j' = j then v else S.2.1 q' j' := by
  unfold sJ
  by_cases h : q' = q
  · subst h
    by_cases h2 : j' = j <;> simp [h2]
  · simp [h]
theorem sJ_n {S : xS} {q j : Nat} {v : Int64} {q' : Nat} (h : q' ≠ q) : (sJ S q j v).2.1 q' = S.2.1 q' := by
  unfold sJ; simp [h]
theorem sJ_I (S : xS) (q j : Nat) (v : Int64) : (sJ S q j v).1 = S.1 := rfl
theorem sJ_E (S : xS) (q j : Nat) (v : Int64) : (sJ S q j v).2.2 = S.2.2 := rfl
theorem sE_I (S : xS) : (sE S).1 = S.1 := rfl
theorem sE_J (S : xS) : (sE S).2.1 = S.2.1 := rfl
theorem sE_E (S : xS) : (sE S).2.2 = S.2.2 + 1 := rfl
theorem xcI_i {k : Int32 → xS → Option xr} {v : Int32} {S : xS} : xcI (some (.inl (some (.inl v)), S)) k = k v S := rfl
theorem xcJ_i {k : Int64 → xS → Option xr} {v : Int64} {S : xS} : xcJ (some (.inl (some (.inr (.inl v))), S)) k = k v S := rfl
theorem xcR_i {k : Nat → xS → Option xr} {v : Nat} {S : xS} : xcR (some (.inl (some (.inr (.inr v))), S)) k = k v S := rfl
theorem xcV_i {k : xS → Option xr} {S : xS} : xcV (some (.inl none, S)) k = k S := rfl
theorem xcI_e {k : Int32 → xS → Option xr} {E : String} {S : xS} : xcI (some (.inr E, S)) k = some (.inr E, S) := rfl
theorem xcJ_e {k : Int64 → xS → Option xr} {E : String} {S : xS} : xcJ (some (.inr E, S)) k = some (.inr E, S) := rfl
theorem xcR_e {k : Nat → xS → Option xr} {E : String} {S : xS} : xcR (some (.inr E, S)) k = some (.inr E, S) := rfl
theorem xcV_e {k : xS → Option xr} {E : String} {S : xS} : xcV (some (.inr E, S)) k = some (.inr E, S) := rfl
abbrev rI (v : Int32) (S : xS) : xr := (.inl (some (.inl v)), S)
abbrev rJ (v : Int64) (S : xS) : xr := (.inl (some (.inr (.inl v))), S)
abbrev rR (v : Nat) (S : xS) : xr := (.inl (some (.inr (.inr v))), S)
abbrev rV (S : xS) : xr := (.inl none, S)
abbrev rA (S : xS) : xr := (.inr "java/lang/IllegalArgumentException", S)
abbrev rB (S : xS) : xr := (.inr "java/lang/IllegalStateException", S)
abbrev rC (S : xS) : xr := (.inr "java/lang/IndexOutOfBoundsException", S)
theorem xcI_of {q : Option xr} {k : Int32 → xS → Option xr} {v : Int32} {S : xS} (h : q = some (rI v S)) : xcI q k = k v S := by rw [h]; rfl
theorem xcV_of {q : Option xr} {k : xS → Option xr} {S : xS} (h : q = some (rV S)) : xcV q k = k S := by rw [h]; rfl
theorem xcR_of {q : Option xr} {k : Nat → xS → Option xr} {v : Nat} {S : xS} (h : q = some (rR v S)) : xcR q k = k v S := by rw [h]; rfl
theorem xcJ_of {q : Option xr} {k : Int64 → xS → Option xr} {v : Int64} {S : xS} (h : q = some (rJ v S)) : xcJ q k = k v S := by rw [h]; rfl
theorem xcI_oe {q : Option xr} {k : Int32 → xS → Option xr} {S : xS} (h : q = some (rA S)) : xcI q k = some (rA S) := by rw [h]; rfl
theorem xcV_oe {q : Option xr} {k : xS → Option xr} {S : xS} (h : q = some (rA S)) : xcV q k = some (rA S) := by rw [h]; rfl
theorem xcR_oe {q : Option xr} {k : Nat → xS → Option xr} {S : xS} (h : q = some (rA S)) : xcR q k = some (rA S) := by rw [h]; rfl
theorem xcJ_oe {q : Option xr} {k : Int64 → xS → Option xr} {S : xS} (h : q = some (rA S)) : xcJ q k = some (rA S) := by rw [h]; rfl
