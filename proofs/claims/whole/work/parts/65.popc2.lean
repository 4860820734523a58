/-! 65: the class's count of bits -/
def cnt (p : Nat → Bool) : Nat → Nat
  | 0 => 0
  | k + 1 => cnt p k + (p k).toNat
theorem cnt_c {p q : Nat → Bool} : ∀ n, (∀ i, i < n → p i = q i) → cnt p n = cnt q n := by
  intro n
  induction n with
  | zero => intro _; rfl
  | succ n ih =>
    intro h
    show cnt p n + (p n).toNat = cnt q n + (q n).toNat
    rw [ih (fun i hi => h i (by omega)), h n (by omega)]
theorem cnt_le (p : Nat → Bool) : ∀ n, cnt p n ≤ n := by
  have h1 : ∀ x : Bool, x.toNat ≤ 1 := by decide
  intro n
  induction n with
  | zero => exact Nat.le_refl _
  | succ n ih =>
    have := h1 (p n)
    show cnt p n + (p n).toNat ≤ n + 1
    omega
theorem cnt_a (p : Nat → Bool) (a : Nat) : ∀ n, cnt p (a + n) = cnt p a + cnt (fun i => p (a + i)) n := by
  intro n
  induction n with
  | zero => rfl
  | succ n ih =>
    show cnt p (a + n) + (p (a + n)).toNat = cnt p a + (cnt (fun i => p (a + i)) n + (p (a + n)).toNat)
    rw [ih]
    omega
theorem cnt8 (p : Nat → Bool) : cnt p 8 = 0 + (p 0).toNat + (p 1).toNat + (p 2).toNat + (p 3).toNat + (p 4).toNat + (p 5).toNat + (p 6).toNat + (p 7).toNat := rfl
theorem cnt_8 (x n : Nat) : cnt x.testBit (8 + n) = pb (x % 256) + cnt (x / 256).testBit n := by
  rw [cnt_a]
  congr 1
  · have h : ∀ i, i < 8 → (x % 256).testBit i = x.testBit i := fun i hi => by
      rw [show (256 : Nat) = 2 ^ 8 from rfl, Nat.testBit_mod_two_pow]
      simp [hi]
    unfold pb
    rw [h 0 (by decide), h 1 (by decide), h 2 (by decide), h 3 (by decide), h 4 (by decide), h 5 (by decide), h 6 (by decide), h 7 (by decide)]
    rw [cnt8, Nat.zero_add]
  · apply cnt_c
    intro i _
    have := Nat.testBit_shiftRight x (i := 8) (j := i)
    rw [Nat.shiftRight_eq_div_pow] at this
    exact this.symm
def tb : Nat → Nat → Nat
  | _, 0 => 0
  | x, k + 1 => tb (x / 256) k + pb (x % 256)
theorem tb_cnt : ∀ (k x : Nat), tb x k = cnt x.testBit (8 * k) := by
  intro k
  induction k with
  | zero => intro x; rfl
  | succ k ih =>
    intro x
    show tb (x / 256) k + pb (x % 256) = _
    rw [ih, show 8 * (k + 1) = 8 + 8 * k by omega, cnt_8]
    omega
theorem i64_shr (x : Int64) {w : Nat} (h : w < 64) : (((x : Int64).toUInt64 >>> ((nn w : Int32).toInt64.toUInt64 &&& Int64.toUInt64 63)).toInt64).toBitVec.toNat = x.toBitVec.toNat >>> w := by
  rw [sh_w w h]
  show (x.toBitVec >>> ((BitVec.ofNat 64 w) % 64#64).toNat).toNat = _
  have : ((BitVec.ofNat 64 w) % 64#64).toNat = w := by
    rw [BitVec.toNat_umod, BitVec.toNat_ofNat]
    show w % 2 ^ 64 % 64 = w
    omega
  rw [this, BitVec.toNat_ushiftRight]
theorem i64_and (x y : Int64) : (x &&& y).toBitVec.toNat = x.toBitVec.toNat &&& y.toBitVec.toNat := by rw [Int64.toBitVec_and, BitVec.toNat_and]
theorem i64_add {x y : Int64} (h : x.toBitVec.toNat + y.toBitVec.toNat < 18446744073709551616) : (x + y).toBitVec.toNat = x.toBitVec.toNat + y.toBitVec.toNat := by
  rw [Int64.toBitVec_add, BitVec.toNat_add]
  exact Nat.mod_eq_of_lt h
theorem i64_sub {x y : Int64} (h : y.toBitVec.toNat ≤ x.toBitVec.toNat) : (x - y).toBitVec.toNat = x.toBitVec.toNat - y.toBitVec.toNat := by
  rw [Int64.toBitVec_sub, BitVec.toNat_sub_of_le (by rw [BitVec.le_def]; exact h)]
def h1 (y : Int64) : Int64 := y - ((((y : Int64).toUInt64 >>> ((1 : Int32).toInt64.toUInt64 &&& Int64.toUInt64 63)).toInt64) &&& 6148914691236517205)
def h2 (y : Int64) : Int64 := (y &&& 3689348814741910323) + ((((y : Int64).toUInt64 >>> ((2 : Int32).toInt64.toUInt64 &&& Int64.toUInt64 63)).toInt64) &&& 3689348814741910323)
def h3 (y : Int64) : Int64 := (y + (((y : Int64).toUInt64 >>> ((4 : Int32).toInt64.toUInt64 &&& Int64.toUInt64 63)).toInt64)) &&& 1085102592571150095
def h4 (y : Int64) : Int64 := y + (((y : Int64).toUInt64 >>> ((8 : Int32).toInt64.toUInt64 &&& Int64.toUInt64 63)).toInt64)
def h5 (y : Int64) : Int64 := y + (((y : Int64).toUInt64 >>> ((16 : Int32).toInt64.toUInt64 &&& Int64.toUInt64 63)).toInt64)
def h6 (y : Int64) : Int64 := y + (((y : Int64).toUInt64 >>> ((32 : Int32).toInt64.toUInt64 &&& Int64.toUInt64 63)).toInt64)
theorem pc_eq {N : Nat} {y : Int64} {S : xS} : f_J13_bitCount_95d88 N y S = some (rI (((h6 (h5 (h4 (h3 (h2 (h1 y)))))).toInt32) &&& 127) S) := rfl
theorem nib_le : ∀ (k x : Nat), nib x k → x ≤ rep 68 k := by
  intro k
  induction k with
  | zero => intro x h; have : x = 0 := h; subst this; exact Nat.le_refl _
  | succ k ih =>
    intro x h
    obtain ⟨a1, a2, a3⟩ := h
    have := ih _ a3
    show x ≤ 256 * rep 68 k + 68
    omega
theorem sb_le : ∀ (k x : Nat), sb x k ≤ rep 8 k := by
  intro k
  induction k with
  | zero => intro x; exact Nat.le_refl _
  | succ k ih =>
    intro x
    have h1 := ih (x / 256)
    have h2 := (k3 (x % 256) (Nat.mod_lt _ (by decide))).2.2.2.2.2.2
    show 256 * sb (x / 256) k + pb (x % 256) ≤ 256 * rep 8 k + 8
    omega
theorem p_se7 (x : BitVec 64) : (BitVec.signExtend 32 x).toNat &&& 127 = x.toNat % 128 := by
  rw [BitVec.signExtend_eq_setWidth_of_le _ (by decide), BitVec.toNat_setWidth, Nat.and_two_pow_sub_one_eq_mod _ 7]
  omega
theorem sum8 (c0 c1 c2 c3 c4 c5 c6 c7 : Nat) (h0 : c0 ≤ 8) (h1 : c1 ≤ 8) (h2 : c2 ≤ 8) (h3 : c3 ≤ 8) (h4 : c4 ≤ 8) (h5 : c5 ≤ 8) (h6 : c6 ≤ 8) (h7 : c7 ≤ 8) (z v4 v5 v6 : Nat) (hz : z = 256 * (256 * (256 * (256 * (256 * (256 * (256 * (256 * 0 + c7) + c6) + c5) + c4) + c3) + c2) + c1) + c0) (e4 : v4 = z + z / 256) (e5 : v5 = v4 + v4 / 65536) (e6 : v6 = v5 + v5 / 4294967296) : v6 % 128 = c0 + c1 + c2 + c3 + c4 + c5 + c6 + c7 ∧ v4 < 18446744073709551616 ∧ v5 < 18446744073709551616 ∧ v6 < 18446744073709551616 := by
  have dv : ∀ k q c : Nat, c < k → (k * q + c) / k = q := fun k q c h => by
    rw [Nat.mul_add_div (by omega), Nat.div_eq_of_lt h, Nat.add_zero]
  have d1 : z / 256 = 256 * (256 * (256 * (256 * (256 * (256 * (256 * 0 + c7) + c6) + c5) + c4) + c3) + c2) + c1 := by
    rw [hz]
    exact dv _ _ _ (by omega)
  have f4 : v4 = 65536 * (256 * (256 * (256 * (256 * (256 * c7 + (c6 + c7)) + (c5 + c6)) + (c4 + c5)) + (c3 + c4)) + (c2 + c3)) + (256 * (c1 + c2) + (c0 + c1)) := by
    rw [e4, d1, hz]
    clear d1 e4 e5 e6 hz dv
    omega
  have d2 : v4 / 65536 = 256 * (256 * (256 * (256 * (256 * c7 + (c6 + c7)) + (c5 + c6)) + (c4 + c5)) + (c3 + c4)) + (c2 + c3) := by
    rw [f4]
    exact dv _ _ _ (by omega)
  have f5 : v5 = 4294967296 * (256 * (256 * (256 * c7 + (c6 + c7)) + (c5 + c6 + c7)) + (c4 + c5 + c6 + c7)) + (256 * (256 * (256 * (c3 + c4 + c5 + c6) + (c2 + c3 + c4 + c5)) + (c1 + c2 + c3 + c4)) + (c0 + c1 + c2 + c3)) := by
    rw [e5, d2, f4]
    clear d1 d2 f4 e4 e5 e6 hz dv
    omega
  have d3 : v5 / 4294967296 = 256 * (256 * (256 * c7 + (c6 + c7)) + (c5 + c6 + c7)) + (c4 + c5 + c6 + c7) := by
    rw [f5]
    exact dv _ _ _ (by omega)
  have f6 : v6 = 256 * (16777216 * (256 * (256 * (256 * c7 + (c6 + c7)) + (c5 + c6 + c7)) + (c4 + c5 + c6 + c7)) + (256 * (256 * (c3 + c4 + c5 + c6) + (c2 + c3 + c4 + c5)) + (c1 + c2 + c3 + c4)) + (256 * (256 * c7 + (c6 + c7)) + (c5 + c6 + c7))) + (c0 + c1 + c2 + c3 + c4 + c5 + c6 + c7) := by
    rw [e6, d3, f5]
    clear d1 d2 d3 f4 f5 e4 e5 e6 hz dv
    omega
  refine ⟨?_, ?_, ?_, ?_⟩
  · rw [f6]
    clear d1 d2 d3 f4 f5 f6 e4 e5 e6 hz dv
    generalize 16777216 * (256 * (256 * (256 * c7 + (c6 + c7)) + (c5 + c6 + c7)) + (c4 + c5 + c6 + c7)) + (256 * (256 * (c3 + c4 + c5 + c6) + (c2 + c3 + c4 + c5)) + (c1 + c2 + c3 + c4)) + (256 * (256 * c7 + (c6 + c7)) + (c5 + c6 + c7)) = T
    omega
  · rw [f4]
    clear d1 d2 d3 f4 f5 f6 e4 e5 e6 hz dv
    omega
  · rw [f5]
    clear d1 d2 d3 f4 f5 f6 e4 e5 e6 hz dv
    omega
  · rw [f6]
    clear d1 d2 d3 f4 f5 f6 e4 e5 e6 hz dv
    omega
theorem p_bitCount {N : Nat} {y : Int64} {S : xS} : f_J13_bitCount_95d88 N y S = some (rI (nn (cnt (bt y) 64)) S) := by
  have hX : y.toBitVec.toNat < 256 ^ 8 := y.toBitVec.isLt
  obtain ⟨i1, i2, i3⟩ := g123 8 y.toBitVec.toNat hX
  have s1 : (((y : Int64).toUInt64 >>> ((1 : Int32).toInt64.toUInt64 &&& Int64.toUInt64 63)).toInt64).toBitVec.toNat = y.toBitVec.toNat >>> 1 := i64_shr y (w := 1) (by decide)
  have m1 : (6148914691236517205 : Int64).toBitVec.toNat = rep 85 8 := rfl
  have m2 : (3689348814741910323 : Int64).toBitVec.toNat = rep 51 8 := rfl
  have m3 : (1085102592571150095 : Int64).toBitVec.toNat = rep 15 8 := rfl
  have a1 : (h1 y).toBitVec.toNat = g1 y.toBitVec.toNat (rep 85 8) := by
    unfold h1 g1
    rw [i64_sub (by rw [i64_and, s1, m1]; exact i1), i64_and, s1, m1]
  have n2 := nib_le 8 _ i2
  have r68 : rep 68 8 = 4919131752989213764 := rfl
  rw [r68] at n2
  have a2 : (h2 (h1 y)).toBitVec.toNat = g2 (g1 y.toBitVec.toNat (rep 85 8)) (rep 51 8) := by
    have s2 : (((h1 y : Int64).toUInt64 >>> ((2 : Int32).toInt64.toUInt64 &&& Int64.toUInt64 63)).toInt64).toBitVec.toNat = (h1 y).toBitVec.toNat >>> 2 := i64_shr (h1 y) (w := 2) (by decide)
    have e : ((h1 y) &&& 3689348814741910323 : Int64).toBitVec.toNat + (((((h1 y : Int64).toUInt64 >>> ((2 : Int32).toInt64.toUInt64 &&& Int64.toUInt64 63)).toInt64) &&& 3689348814741910323) : Int64).toBitVec.toNat = g2 (g1 y.toBitVec.toNat (rep 85 8)) (rep 51 8) := by
      rw [i64_and, i64_and, s2, a1, m2]
      rfl
    unfold h2
    rw [i64_add (by rw [e]; omega), e]
  generalize g2 (g1 y.toBitVec.toNat (rep 85 8)) (rep 51 8) = u at *
  have a3 : (h3 (h2 (h1 y))).toBitVec.toNat = sb y.toBitVec.toNat 8 := by
    have s3 : (((h2 (h1 y) : Int64).toUInt64 >>> ((4 : Int32).toInt64.toUInt64 &&& Int64.toUInt64 63)).toInt64).toBitVec.toNat = (h2 (h1 y)).toBitVec.toNat >>> 4 := i64_shr _ (w := 4) (by decide)
    have hs : u >>> 4 ≤ u := by
      rw [Nat.shiftRight_eq_div_pow]
      exact Nat.div_le_self _ _
    unfold h3
    rw [i64_and, i64_add (by rw [s3, a2]; omega), s3, a2, m3]
    exact i3
  have hb : ∀ x, pb (x % 256) ≤ 8 := fun x => (k3 (x % 256) (Nat.mod_lt _ (by decide))).2.2.2.2.2.2
  generalize hz : sb y.toBitVec.toNat 8 = z at *
  generalize hu3 : h3 (h2 (h1 y)) = u3 at *
  have s4 : (((u3 : Int64).toUInt64 >>> ((8 : Int32).toInt64.toUInt64 &&& Int64.toUInt64 63)).toInt64).toBitVec.toNat = z / 256 := by
    rw [show (8 : Int32) = nn 8 from rfl, i64_shr _ (by decide), a3, Nat.shiftRight_eq_div_pow]
  have hzz : z = 256 * (256 * (256 * (256 * (256 * (256 * (256 * (256 * 0 + pb (y.toBitVec.toNat / 256 / 256 / 256 / 256 / 256 / 256 / 256 % 256)) + pb (y.toBitVec.toNat / 256 / 256 / 256 / 256 / 256 / 256 % 256)) + pb (y.toBitVec.toNat / 256 / 256 / 256 / 256 / 256 % 256)) + pb (y.toBitVec.toNat / 256 / 256 / 256 / 256 % 256)) + pb (y.toBitVec.toNat / 256 / 256 / 256 % 256)) + pb (y.toBitVec.toNat / 256 / 256 % 256)) + pb (y.toBitVec.toNat / 256 % 256)) + pb (y.toBitVec.toNat % 256) := hz.symm
  obtain ⟨q1, q2, q3, q4⟩ := sum8 _ _ _ _ _ _ _ _ (hb _) (hb _) (hb _) (hb _) (hb _) (hb _) (hb _) (hb _) z (z + z / 256) (z + z / 256 + (z + z / 256) / 65536) (z + z / 256 + (z + z / 256) / 65536 + (z + z / 256 + (z + z / 256) / 65536) / 4294967296) hzz rfl rfl rfl
  have a4 : (h4 u3).toBitVec.toNat = z + z / 256 := by
    unfold h4
    rw [i64_add (by rw [a3, s4]; exact q2), a3, s4]
  have a5 : (h5 (h4 u3)).toBitVec.toNat = z + z / 256 + (z + z / 256) / 65536 := by
    have s5 : (((h4 u3 : Int64).toUInt64 >>> ((16 : Int32).toInt64.toUInt64 &&& Int64.toUInt64 63)).toInt64).toBitVec.toNat = (z + z / 256) / 65536 := by
      rw [show (16 : Int32) = nn 16 from rfl, i64_shr _ (by decide), a4, Nat.shiftRight_eq_div_pow]
    unfold h5
    rw [i64_add (by rw [a4, s5]; exact q3), a4, s5]
  have a6 : (h6 (h5 (h4 u3))).toBitVec.toNat = z + z / 256 + (z + z / 256) / 65536 + (z + z / 256 + (z + z / 256) / 65536) / 4294967296 := by
    have s6 : (((h5 (h4 u3) : Int64).toUInt64 >>> ((32 : Int32).toInt64.toUInt64 &&& Int64.toUInt64 63)).toInt64).toBitVec.toNat = (z + z / 256 + (z + z / 256) / 65536) / 4294967296 := by
      rw [show (32 : Int32) = nn 32 from rfl, i64_shr _ (by decide), a5, Nat.shiftRight_eq_div_pow]
    unfold h6
    rw [i64_add (by rw [a5, s6]; exact q4), a5, s6]
  have hcn : cnt (bt y) 64 = pb (y.toBitVec.toNat % 256) + pb (y.toBitVec.toNat / 256 % 256) + pb (y.toBitVec.toNat / 256 / 256 % 256) + pb (y.toBitVec.toNat / 256 / 256 / 256 % 256) + pb (y.toBitVec.toNat / 256 / 256 / 256 / 256 % 256) + pb (y.toBitVec.toNat / 256 / 256 / 256 / 256 / 256 % 256) + pb (y.toBitVec.toNat / 256 / 256 / 256 / 256 / 256 / 256 % 256) + pb (y.toBitVec.toNat / 256 / 256 / 256 / 256 / 256 / 256 / 256 % 256) := by
    have ht : tb y.toBitVec.toNat 8 = cnt y.toBitVec.toNat.testBit 64 := tb_cnt 8 y.toBitVec.toNat
    have hc : cnt (bt y) 64 = cnt y.toBitVec.toNat.testBit 64 := cnt_c 64 (fun i _ => by
      unfold bt
      exact (BitVec.testBit_toNat y.toBitVec).symm)
    have h8 : tb y.toBitVec.toNat 8 = 0 + pb (y.toBitVec.toNat / 256 / 256 / 256 / 256 / 256 / 256 / 256 % 256) + pb (y.toBitVec.toNat / 256 / 256 / 256 / 256 / 256 / 256 % 256) + pb (y.toBitVec.toNat / 256 / 256 / 256 / 256 / 256 % 256) + pb (y.toBitVec.toNat / 256 / 256 / 256 / 256 % 256) + pb (y.toBitVec.toNat / 256 / 256 / 256 % 256) + pb (y.toBitVec.toNat / 256 / 256 % 256) + pb (y.toBitVec.toNat / 256 % 256) + pb (y.toBitVec.toNat % 256) := rfl
    rw [hc, ← ht, h8]
    omega
  rw [pc_eq, hu3, hcn, ← q1]
  congr 3
  congr 1
  apply Int32.toBitVec.inj
  apply BitVec.eq_of_toNat_eq
  show (BitVec.signExtend 32 (h6 (h5 (h4 u3))).toBitVec &&& 127#32).toNat = (nn _).toBitVec.toNat
  rw [BitVec.toNat_and]
  show (BitVec.signExtend 32 (h6 (h5 (h4 u3))).toBitVec).toNat &&& 127 = _
  rw [p_se7, a6]
  show _ = (BitVec.ofNat 32 _).toNat
  rw [BitVec.toNat_ofNat]
  omega
