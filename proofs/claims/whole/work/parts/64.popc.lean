/-! 64: how many bits are set -/
theorem nb_and (y b M m : Nat) (hb : b < 256) (hm : m < 256) : (256 * y + b) &&& (256 * M + m) = 256 * (y &&& M) + (b &&& m) := by
  have h1 : b &&& m < 256 := Nat.lt_of_le_of_lt Nat.and_le_left hb
  apply Nat.eq_of_testBit_eq
  intro i
  rw [Nat.testBit_and, show (256 : Nat) = 2 ^ 8 from rfl, Nat.testBit_two_pow_mul_add _ (by omega), Nat.testBit_two_pow_mul_add _ (by omega), Nat.testBit_two_pow_mul_add _ (by omega)]
  by_cases h : i < 8
  · rw [if_pos h, if_pos h, if_pos h, Nat.testBit_and]
  · rw [if_neg h, if_neg h, if_neg h, Nat.testBit_and]
theorem nb_shr (y b s : Nat) (hb : b < 256) (hs : s ≤ 8) : (256 * y + b) >>> s = 256 * (y >>> s) + (((y &&& (2 ^ s - 1)) <<< (8 - s)) + (b >>> s)) := by
  rw [Nat.shiftRight_eq_div_pow, Nat.shiftRight_eq_div_pow, Nat.shiftRight_eq_div_pow, Nat.and_two_pow_sub_one_eq_mod, Nat.shiftLeft_eq]
  have h8 : 256 = 2 ^ s * 2 ^ (8 - s) := by
    rw [← Nat.pow_add, show s + (8 - s) = 8 by omega]
  have hp : 0 < 2 ^ s := Nat.pow_pos (by decide)
  have e1 := Nat.div_add_mod y (2 ^ s)
  have e2 : 256 * y + b = 2 ^ s * (2 ^ (8 - s) * y) + b := by rw [h8, Nat.mul_assoc]
  rw [e2, Nat.mul_add_div hp]
  have e3 : 2 ^ (8 - s) * y = 256 * (y / 2 ^ s) + (y % 2 ^ s) * 2 ^ (8 - s) := by
    conv => lhs; rw [← e1]
    rw [Nat.mul_add, ← Nat.mul_assoc, Nat.mul_comm (2 ^ (8 - s)) (2 ^ s), ← h8, Nat.mul_comm (2 ^ (8 - s))]
  omega
/-- the masked shift stays within the byte -/
theorem nb_sm (y b s M m : Nat) (hb : b < 256) (hm : m < 256) (hs : s ≤ 8) (hx : ∀ t, t < 2 ^ s → ∀ c, c < 256 → ((t <<< (8 - s)) + (c >>> s)) &&& m = (c >>> s) &&& m) : ((256 * y + b) >>> s) &&& (256 * M + m) = 256 * ((y >>> s) &&& M) + ((b >>> s) &&& m) := by
  have ht : (y &&& (2 ^ s - 1)) < 2 ^ s := by
    rw [Nat.and_two_pow_sub_one_eq_mod]
    exact Nat.mod_lt _ (Nat.pow_pos (by decide))
  have hlt : ((y &&& (2 ^ s - 1)) <<< (8 - s)) + (b >>> s) < 256 := by
    rw [Nat.shiftLeft_eq, Nat.shiftRight_eq_div_pow]
    have h8 : 256 = 2 ^ s * 2 ^ (8 - s) := by
      rw [← Nat.pow_add, show s + (8 - s) = 8 by omega]
    have hp : 0 < 2 ^ s := Nat.pow_pos (by decide)
    have h1 : b / 2 ^ s < 2 ^ (8 - s) := by
      rw [Nat.div_lt_iff_lt_mul hp, Nat.mul_comm, ← h8]
      exact hb
    have h2 : (y &&& (2 ^ s - 1)) * 2 ^ (8 - s) + 2 ^ (8 - s) ≤ 2 ^ s * 2 ^ (8 - s) := by
      rw [← Nat.succ_mul]
      exact Nat.mul_le_mul_right _ ht
    omega
  rw [nb_shr y b s hb hs, nb_and _ _ _ _ hlt hm, hx _ ht b hb]
def pb (b : Nat) : Nat := (b.testBit 0).toNat + (b.testBit 1).toNat + (b.testBit 2).toNat + (b.testBit 3).toNat + (b.testBit 4).toNat + (b.testBit 5).toNat + (b.testBit 6).toNat + (b.testBit 7).toNat
def rep (m : Nat) : Nat → Nat
  | 0 => 0
  | k + 1 => 256 * rep m k + m
def g1 (x m : Nat) : Nat := x - ((x >>> 1) &&& m)
def g2 (x m : Nat) : Nat := (x &&& m) + ((x >>> 2) &&& m)
def g3 (x m : Nat) : Nat := (x + (x >>> 4)) &&& m
set_option maxRecDepth 100000 in
theorem k1 : ∀ t, t < 2 ^ 1 → ∀ c, c < 256 → ((t <<< (8 - 1)) + (c >>> 1)) &&& 85 = (c >>> 1) &&& 85 := by decide +kernel
set_option maxRecDepth 100000 in
theorem k2 : ∀ t, t < 2 ^ 2 → ∀ c, c < 256 → ((t <<< (8 - 2)) + (c >>> 2)) &&& 51 = (c >>> 2) &&& 51 := by decide +kernel
set_option maxRecDepth 100000 in
theorem k3 : ∀ b, b < 256 → (b >>> 1) &&& 85 ≤ b ∧ g2 (g1 b 85) 51 < 256 ∧ g1 b 85 < 256 ∧ g3 (g2 (g1 b 85) 51) 15 = pb b ∧ g2 (g1 b 85) 51 % 16 ≤ 4 ∧ g2 (g1 b 85) 51 / 16 ≤ 4 ∧ pb b ≤ 8 := by decide +kernel
theorem g1_s (x b M : Nat) (hb : b < 256) (hx : (x >>> 1) &&& M ≤ x) : g1 (256 * x + b) (256 * M + 85) = 256 * g1 x M + g1 b 85 := by
  unfold g1
  rw [nb_sm x b 1 M 85 hb (by decide) (by decide) k1]
  have := (k3 b hb).1
  omega
theorem g2_s (x b M : Nat) (hb : b < 256) : g2 (256 * x + b) (256 * M + 51) = 256 * g2 x M + g2 b 51 := by
  unfold g2
  rw [nb_sm x b 2 M 51 hb (by decide) (by decide) k2, nb_and x b M 51 hb (by decide)]
  omega
/-- nibbles of at most 4 -/
def nib : Nat → Nat → Prop
  | x, 0 => x = 0
  | x, k + 1 => x % 256 % 16 ≤ 4 ∧ x % 256 / 16 ≤ 4 ∧ nib (x / 256) k
theorem nib_lo {x : Nat} : ∀ {k : Nat}, nib x k → x % 16 ≤ 4 := by
  intro k
  cases k with
  | zero => intro h; have : x = 0 := h; omega
  | succ k => intro h; have := h.1; omega
theorem g3_s (x b M k : Nat) (hb : b < 256) (h1 : b % 16 ≤ 4) (h2 : b / 16 ≤ 4) (hx : nib x k) : g3 (256 * x + b) (256 * M + 15) = 256 * g3 x M + g3 b 15 := by
  unfold g3
  have hl := nib_lo hx
  have e1 : (256 * x + b) >>> 4 = 256 * (x >>> 4) + ((x % 16) * 16 + b / 16) := by
    rw [Nat.shiftRight_eq_div_pow, Nat.shiftRight_eq_div_pow]
    show (256 * x + b) / 16 = 256 * (x / 16) + ((x % 16) * 16 + b / 16)
    omega
  have e2 : 256 * x + b + (256 * x + b) >>> 4 = 256 * (x + x >>> 4) + (b + ((x % 16) * 16 + b / 16)) := by
    rw [e1]
    omega
  rw [e2, nb_and _ _ _ _ (by omega) (by decide)]
  congr 1
  rw [show (15 : Nat) = 2 ^ 4 - 1 from rfl, Nat.and_two_pow_sub_one_eq_mod, Nat.and_two_pow_sub_one_eq_mod, Nat.shiftRight_eq_div_pow]
  show (b + (x % 16 * 16 + b / 16)) % 16 = (b + b / 16) % 16
  omega
def sb : Nat → Nat → Nat
  | _, 0 => 0
  | x, k + 1 => 256 * sb (x / 256) k + pb (x % 256)
theorem g123 : ∀ (k x : Nat), x < 256 ^ k → ((x >>> 1) &&& rep 85 k ≤ x ∧ nib (g2 (g1 x (rep 85 k)) (rep 51 k)) k ∧ g3 (g2 (g1 x (rep 85 k)) (rep 51 k)) (rep 15 k) = sb x k) := by
  intro k
  induction k with
  | zero =>
    intro x hx
    have : x = 0 := by simpa using hx
    subst this
    exact ⟨Nat.le_refl _, rfl, rfl⟩
  | succ k ih =>
    intro x hx
    have hd : x / 256 < 256 ^ k := by
      rw [Nat.div_lt_iff_lt_mul (by decide), ← Nat.pow_succ]
      exact hx
    obtain ⟨i1, i2, i3⟩ := ih (x / 256) hd
    have hb : x % 256 < 256 := Nat.mod_lt _ (by decide)
    obtain ⟨c1, c2, c3, c4, c5, c6, c7⟩ := k3 (x % 256) hb
    have ex : x = 256 * (x / 256) + x % 256 := (Nat.div_add_mod x 256).symm
    have r1 : rep 85 (k + 1) = 256 * rep 85 k + 85 := rfl
    have r2 : rep 51 (k + 1) = 256 * rep 51 k + 51 := rfl
    have r3 : rep 15 (k + 1) = 256 * rep 15 k + 15 := rfl
    have e1 : g1 x (rep 85 (k + 1)) = 256 * g1 (x / 256) (rep 85 k) + g1 (x % 256) 85 := by
      conv => lhs; rw [ex, r1]
      exact g1_s _ _ _ hb i1
    have e2 : g2 (g1 x (rep 85 (k + 1))) (rep 51 (k + 1)) = 256 * g2 (g1 (x / 256) (rep 85 k)) (rep 51 k) + g2 (g1 (x % 256) 85) 51 := by
      rw [e1, r2]
      exact g2_s _ _ _ c3
    have d1 : (256 * g2 (g1 (x / 256) (rep 85 k)) (rep 51 k) + g2 (g1 (x % 256) 85) 51) % 256 = g2 (g1 (x % 256) 85) 51 := by omega
    have d2 : (256 * g2 (g1 (x / 256) (rep 85 k)) (rep 51 k) + g2 (g1 (x % 256) 85) 51) / 256 = g2 (g1 (x / 256) (rep 85 k)) (rep 51 k) := by omega
    refine ⟨?_, ?_, ?_⟩
    · have e0 : (x >>> 1) &&& rep 85 (k + 1) = 256 * (((x / 256) >>> 1) &&& rep 85 k) + (((x % 256) >>> 1) &&& 85) := by
        conv => lhs; rw [ex, r1]
        exact nb_sm _ _ 1 _ 85 hb (by decide) (by decide) k1
      omega
    · rw [e2]
      exact ⟨by rw [d1]; exact c5, by rw [d1]; exact c6, by rw [d2]; exact i2⟩
    · rw [e2, r3, g3_s _ _ _ k c2 c5 c6 i2, i3, c4]
      rfl
