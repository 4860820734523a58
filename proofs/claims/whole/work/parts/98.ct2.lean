/-! 98: the start -/
def VOC (j : Nat) : Int64 := ([0, 370116, 317298260, 139859589, 24385093, 19636, 12468, 17376724, 164968, 89, 294, 176741, 24388997, 609664709, 1476, 498, 14836, 3659220, 20141, 12748404, 260015003252] : List Int64).getD j 0
def WRD (j : Nat) : Int64 := ([223456, 136958465, 60293219, 12384743, 14006, 8903, 8864309, 99233, 79, 249, 107681, 12387497, 261204944, 1111, 423, 10631, 1905275, 14431, 6476969, 80268715037] : List Int64).getD j 0
def zI (k j : Nat) : Int32 := if (k = 0 ∧ j = 7) ∨ (k = 503 ∧ (j = 21 ∨ j = 22 ∨ j = 29)) then -1 else 0
def zJ (k j : Nat) : Int64 := if k = 2 then VOC j else if k = 517 then WRD j else 0
def cz (lo k : Nat) : xE := cel lo k (zI k) (zJ k)
theorem uX_s {X : Nat → xE} {k : Nat} {e : xE} : uX X k e k = e := if_pos rfl
theorem uX_n {X : Nat → xE} {k j : Nat} {e : xE} (h : ¬ j = k) : uX X k e j = X j := if_neg h
theorem mX_n {lo : Nat} {X : Nat → xE} {n N K j : Nat} {ty : FieldType} (h : j < n) : mX lo X n ty N K j = X j := by
  unfold mX
  rw [if_neg (by omega), if_neg (by omega)]
theorem CI_s {w : xW} {g X : Nat → xE} {h : xH} {n sl sl' : Nat} (hc : CI w g h n sl X) (e : sl = sl') : CI w g h n sl' X := e ▸ hc
theorem fa_b {P : Nat → Prop} {a n : Nat} (h : n ≤ a) : ∀ k, a ≤ k → k < n → P k := fun k h1 h2 => by omega
theorem fa_s {P : Nat → Prop} {a n : Nat} (h : P n) (hk : ∀ k, a ≤ k → k < n → P k) : ∀ k, a ≤ k → k < n + 1 → P k := fun k h1 h2 => by
  by_cases q : k = n
  · rw [q]; exact h
  · exact hk k h1 (by omega)
theorem fa_r {P : Nat → Prop} {a b c : Nat} (h1 : ∀ k, a ≤ k → k < b → P k) (h2 : ∀ k, b ≤ k → k < c → P k) : ∀ k, a ≤ k → k < c → P k := fun k x y => by
  by_cases q : k < b
  · exact h1 k x q
  · exact h2 k (by omega) y
/-- what a constructor leaves behind -/
def CR (w : xW) (g : Nat → xE) (n sl q : Nat) (X : Nat → xE) (h : xH) : Prop := ∃ X2, CI w g h n sl X2 ∧ (∀ k, q ≤ k → k < n → X2 k = cz w.2.1 k) ∧ ∀ k, k < q → X2 k = X k
