/-! 63: words as bits -/
def bt (y : Int64) (w : Nat) : Bool := y.toBitVec.getLsbD w
set_option maxRecDepth 100000 in
theorem sh_w : ∀ w, w < 64 → ((nn w : Int32).toInt64.toUInt64 &&& Int64.toUInt64 63) = UInt64.ofNat w := by decide +kernel
theorem bt_0 (y : Int64) {w : Nat} (h : w < 64) : (lg_cmp ((((y : Int64).toUInt64 >>> ((nn w : Int32).toInt64.toUInt64 &&& Int64.toUInt64 63)).toInt64) &&& 1) 0 = 0) ↔ bt y w = false := by
  rw [lg_cmp_eq, sh_w w h]
  have e : ((((y : Int64).toUInt64 >>> UInt64.ofNat w).toInt64) &&& 1 : Int64).toBitVec = (y.toBitVec >>> w) &&& 1#64 := by
    show (y.toBitVec >>> ((BitVec.ofNat 64 w) % 64#64).toNat) &&& 1#64 = _
    have : ((BitVec.ofNat 64 w) % 64#64).toNat = w := by
      rw [BitVec.toNat_umod, BitVec.toNat_ofNat]
      show w % 2 ^ 64 % 64 = w
      omega
    rw [this]
  unfold bt
  constructor
  · intro z
    have z2 := congrArg Int64.toBitVec z
    rw [e] at z2
    have z3 := congrArg (fun v : BitVec 64 => v.getLsbD 0) z2
    simp at z3
    exact z3
  · intro z
    apply Int64.toBitVec.inj
    rw [e]
    apply BitVec.eq_of_getLsbD_eq
    intro i hi
    by_cases h0 : i = 0
    · subst h0
      simp [z]
    · simp [h0]
def on1 (w : Nat) : Int64 := (1 : Int64) <<< ((nn w : Int32).toInt64 &&& 63)
set_option maxRecDepth 100000 in
theorem bt_on : ∀ w, w < 64 → ∀ v, v < 64 → bt (on1 w) v = decide (v = w) := by decide +kernel
theorem bt_or (x y : Int64) (w : Nat) : bt (x ||| y) w = (bt x w || bt y w) := by
  unfold bt
  rw [Int64.toBitVec_or, BitVec.getLsbD_or]
theorem bt_and (x y : Int64) (w : Nat) : bt (x &&& y) w = (bt x w && bt y w) := by
  unfold bt
  rw [Int64.toBitVec_and, BitVec.getLsbD_and]
theorem bt_not (y : Int64) {w : Nat} (h : w < 64) : bt (y ^^^ (-1)) w = !bt y w := by
  unfold bt
  rw [Int64.toBitVec_xor, BitVec.getLsbD_xor]
  have : ∀ v, v < 64 → (-1 : Int64).toBitVec.getLsbD v = true := by decide +kernel
  rw [this w h]
  cases y.toBitVec.getLsbD w <;> rfl
theorem bt_z (w : Nat) : bt 0 w = false := by
  unfold bt
  simp
theorem bt_ext {x y : Int64} (h : ∀ w, w < 64 → bt x w = bt y w) : x = y := by
  apply Int64.toBitVec.inj
  apply BitVec.eq_of_getLsbD_eq
  intro i hi
  exact h i hi
section BT
variable {N : Nat} {S : xS}
/-- the lowest bit that is set, from k on -/
theorem ntz_s (x : BitVec 32) {k : Nat} (hk : k < 32) (h1 : x.getLsbD k = true) (h0 : ∀ j, j < k → x.getLsbD j = false) : (x ^^^ (-1#32)) &&& (x - 1#32) = BitVec.ofNat 32 (2 ^ k - 1) := by
  have hX : x.toNat = 2 ^ k * (2 * (x.toNat / 2 ^ (k + 1)) + 1) := by
    have e1 : x.toNat % 2 ^ (k + 1) = 2 ^ k := by
      apply Nat.eq_of_testBit_eq
      intro i
      rw [Nat.testBit_mod_two_pow, Nat.testBit_two_pow]
      by_cases hi : i < k + 1
      · by_cases hik : i = k
        · subst hik
          rw [BitVec.testBit_toNat, h1]
          simp
        · have := h0 i (by omega)
          rw [BitVec.testBit_toNat, this]
          simp
          omega
      · simp [hi]
        omega
    have e2 := Nat.div_add_mod x.toNat (2 ^ (k + 1))
    rw [e1] at e2
    rw [← e2]
    have : (2 ^ (k + 1) * (x.toNat / 2 ^ (k + 1)) + 2 ^ k) / 2 ^ (k + 1) = x.toNat / 2 ^ (k + 1) := by rw [e2]
    rw [this, Nat.pow_succ, Nat.mul_add, Nat.mul_one, ← Nat.mul_assoc]
  generalize x.toNat / 2 ^ (k + 1) = m at hX
  have hp : 0 < 2 ^ k := Nat.pow_pos (by decide)
  have hle : 1 ≤ x.toNat := by
    rw [hX]
    exact Nat.mul_pos hp (by omega)
  have hs : (x - 1#32).toNat = 2 ^ k * (2 * m) + (2 ^ k - 1) := by
    rw [BitVec.toNat_sub_of_le (by rw [BitVec.le_def]; exact hle), hX, Nat.mul_add, Nat.mul_one]
    show 2 ^ k * (2 * m) + 2 ^ k - 1 = _
    omega
  apply BitVec.eq_of_getLsbD_eq
  intro i hi
  rw [BitVec.getLsbD_and, BitVec.getLsbD_xor]
  have hm1 : ∀ v, v < 32 → (-1#32).getLsbD v = true := by decide +kernel
  rw [hm1 i hi, ← BitVec.testBit_toNat (x - 1#32), hs, Nat.testBit_two_pow_mul_add _ (by omega), ← BitVec.testBit_toNat x, BitVec.getLsbD_ofNat, Nat.testBit_two_pow_sub_one]
  by_cases hik : i < k
  · have := h0 i hik
    rw [BitVec.testBit_toNat, this]
    simp [hik, hi]
  · rw [if_neg hik]
    have e3 : x.toNat.testBit i = (2 * m + 1).testBit (i - k) := by
      rw [hX]
      have := Nat.testBit_two_pow_mul_add (2 * m + 1) (i := k) (b := 0) hp i
      rw [Nat.add_zero, if_neg hik] at this
      exact this
    rw [e3]
    simp only [hik, decide_false, Bool.and_false]
    by_cases hz : i - k = 0
    · rw [hz]
      simp
    · obtain ⟨q, hq⟩ : ∃ q, i - k = q + 1 := ⟨i - k - 1, by omega⟩
      rw [hq, Nat.testBit_succ, Nat.testBit_succ]
      have : (2 * m + 1) / 2 = m := by omega
      have h2 : 2 * m / 2 = m := by omega
      rw [this, h2]
      cases m.testBit q <;> rfl
theorem p_ntz32 (x : Int32) {k : Nat} (hk : k < 32) (h1 : x.toBitVec.getLsbD k = true) (h0 : ∀ j, j < k → x.toBitVec.getLsbD j = false) : f_J6_numberOfTrailingZeros_0f7a4 N x S = some (rI (nn k) S) := by
  have e : (x ^^^ (-1)) &&& (x - 1) = nn (2 ^ k - 1) := by
    apply Int32.toBitVec.inj
    exact ntz_s x.toBitVec hk h1 h0
  unfold f_J6_numberOfTrailingZeros_0f7a4
  rw [e]
  unfold f_J6_numberOfTrailingZeros_0f7a4_34 f_J6_numberOfTrailingZeros_0f7a4_49 f_J6_numberOfTrailingZeros_0f7a4_62 f_J6_numberOfTrailingZeros_0f7a4_74
  have key : ∀ j, j < 32 → (if (0 : Int32) < nn (2 ^ j - 1) then (let a : Int32 := if nn (2 ^ j - 1) ≤ 65536 then nn (2 ^ j - 1) else ((nn (2 ^ j - 1)).toUInt32 >>> ((16 : Int32).toUInt32 &&& Int32.toUInt32 31)).toInt32; let n1 : Int32 := if nn (2 ^ j - 1) ≤ 65536 then 1 else 1 + 16; let a2 : Int32 := if a ≤ 256 then a else (a.toUInt32 >>> ((8 : Int32).toUInt32 &&& Int32.toUInt32 31)).toInt32; let n2 : Int32 := if a ≤ 256 then n1 else n1 + 8; let a3 : Int32 := if a2 ≤ 16 then a2 else (a2.toUInt32 >>> ((4 : Int32).toUInt32 &&& Int32.toUInt32 31)).toInt32; let n3 : Int32 := if a2 ≤ 16 then n2 else n2 + 4; let a4 : Int32 := if a3 ≤ 4 then a3 else (a3.toUInt32 >>> ((2 : Int32).toUInt32 &&& Int32.toUInt32 31)).toInt32; let n4 : Int32 := if a3 ≤ 4 then n3 else n3 + 2; n4 + ((a4.toUInt32 >>> ((1 : Int32).toUInt32 &&& Int32.toUInt32 31)).toInt32)) else (nn (2 ^ j - 1) &&& 32)) = nn j := by decide +kernel
  have := key k hk
  rw [← this]
  generalize nn (2 ^ k - 1) = a
  simp only []
  repeat' split
  all_goals rfl
theorem p_ntz32z : f_J6_numberOfTrailingZeros_0f7a4 N 0 S = some (rI 32 S) := by
  unfold f_J6_numberOfTrailingZeros_0f7a4
  rw [if_neg (by decide)]
  rfl
theorem lo_bit (y : Int64) {k : Nat} (hk : k < 32) : (y.toInt32).toBitVec.getLsbD k = bt y k := by
  unfold bt
  show (y.toBitVec.signExtend 32).getLsbD k = _
  rw [BitVec.signExtend_eq_setWidth_of_le _ (by decide), BitVec.getLsbD_setWidth]
  simp [hk]
theorem hi_bit (y : Int64) {k : Nat} (hk : k < 32) : ((((y : Int64).toUInt64 >>> ((32 : Int32).toInt64.toUInt64 &&& Int64.toUInt64 63)).toInt64 : Int64).toInt32).toBitVec.getLsbD k = bt y (32 + k) := by
  rw [lo_bit _ hk]
  unfold bt
  rw [show ((32 : Int32).toInt64.toUInt64 &&& Int64.toUInt64 63) = UInt64.ofNat 32 from sh_w 32 (by decide)]
  show (y.toBitVec >>> ((BitVec.ofNat 64 32) % 64#64).toNat).getLsbD k = _
  have : ((BitVec.ofNat 64 32) % 64#64).toNat = 32 := by decide
  rw [this, BitVec.getLsbD_ushiftRight]
theorem i32_z {x : Int32} (h : ∀ j, j < 32 → x.toBitVec.getLsbD j = false) : x = 0 := by
  apply Int32.toBitVec.inj
  apply BitVec.eq_of_getLsbD_eq
  intro i hi
  rw [h i hi]
  simp
theorem p_ntz (y : Int64) {k : Nat} (hk : k < 64) (h1 : bt y k = true) (h0 : ∀ j, j < k → bt y j = false) : f_J13_numberOfTrailingZeros_95d88 N y S = some (rI (nn k) S) := by
  unfold f_J13_numberOfTrailingZeros_95d88
  by_cases h : k < 32
  · have hz : ¬ y.toInt32 = 0 := fun z => by
      have := lo_bit y h
      rw [z, h1] at this
      simp at this
    rw [if_neg hz, xcI_of (p_ntz32 y.toInt32 h (by rw [lo_bit y h]; exact h1) (fun j hj => by rw [lo_bit y (by omega)]; exact h0 j hj))]
    rfl
  · have hz : y.toInt32 = 0 := i32_z (fun j hj => by rw [lo_bit y hj]; exact h0 j (by omega))
    rw [if_pos hz, xcI_of (p_ntz32 (k := k - 32) _ (by omega) (by rw [hi_bit y (by omega), show 32 + (k - 32) = k by omega]; exact h1) (fun j hj => by rw [hi_bit y (by omega)]; exact h0 _ (by omega)))]
    unfold f_J13_numberOfTrailingZeros_95d88_25
    rw [l_add_nn]
    show some (rI (nn (32 + (k - 32))) S) = _
    rw [show 32 + (k - 32) = k by omega]
theorem p_ntz0 (y : Int64) (h0 : ∀ j, j < 64 → bt y j = false) : f_J13_numberOfTrailingZeros_95d88 N y S = some (rI 64 S) := by
  unfold f_J13_numberOfTrailingZeros_95d88
  have hz : y.toInt32 = 0 := i32_z (fun j hj => by rw [lo_bit y hj]; exact h0 j (by omega))
  have hz2 : (((y : Int64).toUInt64 >>> ((32 : Int32).toInt64.toUInt64 &&& Int64.toUInt64 63)).toInt64 : Int64).toInt32 = 0 := i32_z (fun j hj => by rw [hi_bit y hj]; exact h0 _ (by omega))
  rw [if_pos hz, hz2, xcI_of p_ntz32z]
  rfl
end BT
