/-! 90: frames -/
def KF (R : xS → xS → Prop) (S0 : xS) (r : xr) : Prop := match r with
  | (.inl _, S) => R S0 S
  | (.inr _, S) => ∃ S1, R S0 S1 ∧ S = sE S1
def KFo (R : xS → xS → Prop) (S0 : xS) (o : Option xr) : Prop := ∀ r, o = some r → KF R S0 r
section KK
variable {R : xS → xS → Prop} {S0 S : xS} {a b q : Option xr}
theorem K_ret {x : Option xv} (h : R S0 S) : KFo R S0 (some (.inl x, S)) := fun r e => by cases e; exact h
theorem K_thr {E : String} (h : R S0 S) : KFo R S0 (some (.inr E, sE S)) := fun r e => by cases e; exact ⟨S, h, rfl⟩
theorem K_non : KFo R S0 none := fun r e => by cases e
theorem K_ite {c : Prop} [Decidable c] (h1 : KFo R S0 a) (h2 : KFo R S0 b) : KFo R S0 (if c then a else b) := by
  by_cases z : c
  · rw [if_pos z]; exact h1
  · rw [if_neg z]; exact h2
theorem K_if {c : Prop} [Decidable c] (h1 : c → KFo R S0 a) (h2 : KFo R S0 b) : KFo R S0 (if c then a else b) := by
  by_cases z : c
  · rw [if_pos z]; exact h1 z
  · rw [if_neg z]; exact h2
theorem K_xin {x : Int32} {n : Nat} (h1 : x.toNatClampNeg < n → KFo R S0 a) (h2 : KFo R S0 b) : KFo R S0 (if xin x n then a else b) := K_if (fun z => h1 (x_lt z)) h2
theorem K_xStep {k : Nat} (h1 : 102 ≤ k ∧ k < 404 → KFo R S0 a) (h2 : KFo R S0 b) : KFo R S0 (if xStep k then a else b) := K_if (fun z => h1 ⟨z.1, z.2.1⟩) h2
theorem K_xPart {k : Nat} (h1 : 102 ≤ k ∧ k < 404 → KFo R S0 a) (h2 : KFo R S0 b) : KFo R S0 (if xPart k then a else b) := K_if (fun z => h1 ⟨z.1, z.2.1⟩) h2
theorem K_xReg480 {k : Nat} (h1 : 480 ≤ k ∧ k < 490 → KFo R S0 a) (h2 : KFo R S0 b) : KFo R S0 (if xReg480 k then a else b) := K_if (fun z => h1 ⟨z.1, z.2⟩) h2
theorem K_xReg414 {k : Nat} (h1 : 414 ≤ k ∧ k < 478 → KFo R S0 a) (h2 : KFo R S0 b) : KFo R S0 (if xReg414 k then a else b) := K_if (fun z => h1 ⟨z.1, z.2⟩) h2
theorem K_xcI {k : Int32 → xS → Option xr} (h : KFo R S0 q) (hk : ∀ v S, R S0 S → KFo R S0 (k v S)) : KFo R S0 (xcI q k) := fun r e => by
  unfold xcI at e
  split at e
  · exact hk _ _ (h _ rfl) r e
  · cases e
    exact h _ rfl
  · cases e
theorem K_xcJ {k : Int64 → xS → Option xr} (h : KFo R S0 q) (hk : ∀ v S, R S0 S → KFo R S0 (k v S)) : KFo R S0 (xcJ q k) := fun r e => by
  unfold xcJ at e
  split at e
  · exact hk _ _ (h _ rfl) r e
  · cases e
    exact h _ rfl
  · cases e
theorem K_xcR {k : Nat → xS → Option xr} (h : KFo R S0 q) (hk : ∀ v S, R S0 S → KFo R S0 (k v S)) : KFo R S0 (xcR q k) := fun r e => by
  unfold xcR at e
  split at e
  · exact hk _ _ (h _ rfl) r e
  · cases e
    exact h _ rfl
  · cases e
theorem K_xcV {k : xS → Option xr} (h : KFo R S0 q) (hk : ∀ S, R S0 S → KFo R S0 (k S)) : KFo R S0 (xcV q k) := fun r e => by
  unfold xcV at e
  split at e
  · exact hk _ (h _ rfl) r e
  · cases e
    exact h _ rfl
  · cases e
end KK
/-- what loading leaves alone, in the class -/
def Rcl (S0 S : xS) : Prop := (∀ q j, (29 ≤ q ∧ q ≤ 96) ∨ (409 ≤ q ∧ q ≤ 411) ∨ 480 ≤ q ∨ (q = 7 ∧ 7 ≤ j) ∨ q = 0 ∨ q = 3 ∨ (q = 1 ∧ j = 5) → S.1 q j = S0.1 q j) ∧ (∀ q, q = 2 ∨ 29 ≤ q → S.2.1 q = S0.2.1 q) ∧ S.2.2 = S0.2.2
theorem Rcl_I {S0 S : xS} {q j : Nat} {v : Int32} (h : Rcl S0 S) (hq : ¬ ((29 ≤ q ∧ q ≤ 96) ∨ (409 ≤ q ∧ q ≤ 411) ∨ 480 ≤ q ∨ (q = 7 ∧ 7 ≤ j) ∨ q = 0 ∨ q = 3 ∨ (q = 1 ∧ j = 5))) : Rcl S0 (sI S q j v) := ⟨fun q' j' hq' => by
  rw [sI_c, if_neg (fun z => hq (by rw [← z.1, ← z.2]; exact hq'))]
  exact h.1 q' j' hq', h.2.1, h.2.2⟩
theorem Rcl_J {S0 S : xS} {q j : Nat} {v : Int64} (h : Rcl S0 S) (hq : ¬ (q = 2 ∨ 29 ≤ q)) : Rcl S0 (sJ S q j v) := ⟨h.1, fun q' hq' => by
  rw [sJ_n (fun z => hq (by rw [← z]; exact hq'))]
  exact h.2.1 q' hq', h.2.2⟩
/-- what a run leaves alone, in the class -/
def Rcr (S0 S : xS) : Prop := (∀ q, q < 29 ∨ 503 ≤ q → S.1 q = S0.1 q) ∧ (∀ q, ¬ q = 30 → S.2.1 q = S0.2.1 q) ∧ S.2.2 = S0.2.2
theorem Rcr_I {S0 S : xS} {q j : Nat} {v : Int32} (h : Rcr S0 S) (hq : ¬ (q < 29 ∨ 503 ≤ q)) : Rcr S0 (sI S q j v) := ⟨fun q' hq' => by
  rw [sI_n (fun z => hq (by rw [← z]; exact hq'))]
  exact h.1 q' hq', h.2.1, h.2.2⟩
theorem Rcr_J {S0 S : xS} {q j : Nat} {v : Int64} (h : Rcr S0 S) (hq : q = 30) : Rcr S0 (sJ S q j v) := ⟨h.1, fun q' hq' => by
  rw [sJ_n (fun z => hq' (by rw [z]; exact hq))]
  exact h.2.1 q' hq', h.2.2⟩
/-- what loading leaves alone, in the reference -/
def Rrl (S0 S : xS) : Prop := (∀ q j, q < 503 ∨ (511 ≤ q ∧ q ≤ 513) ∨ 526 ≤ q ∨ q = 504 ∨ (q = 503 ∧ (j = 0 ∨ j = 2 ∨ j = 14 ∨ j = 22 ∨ j = 23 ∨ 35 ≤ j)) → S.1 q j = S0.1 q j) ∧ (∀ q, q < 503 ∨ 517 ≤ q → S.2.1 q = S0.2.1 q) ∧ S.2.2 = S0.2.2 ∧ (S0.1 503 8).toNatClampNeg ≤ (S.1 503 8).toNatClampNeg ∧ ∀ v, S.1 510 v = S0.1 510 v ∨ ((S0.1 503 8).toNatClampNeg ≤ v ∧ S.1 510 v = 0)
theorem Rrl_I {S0 S : xS} {q j : Nat} {v : Int32} (h : Rrl S0 S) (hq : ¬ (q < 503 ∨ (511 ≤ q ∧ q ≤ 513) ∨ 526 ≤ q ∨ q = 504 ∨ (q = 503 ∧ (j = 0 ∨ j = 2 ∨ j = 14 ∨ j = 22 ∨ j = 23 ∨ 35 ≤ j))) ∧ ¬ q = 510 ∧ ¬ (q = 503 ∧ j = 8)) : Rrl S0 (sI S q j v) := ⟨fun q' j' hq' => by
  rw [sI_c, if_neg (fun z => hq.1 (by rw [← z.1, ← z.2]; exact hq'))]
  exact h.1 q' j' hq', h.2.1, h.2.2.1, by rw [sI_c, if_neg (by omega)]; exact h.2.2.2.1, by rw [sI_n (by omega)]; exact h.2.2.2.2⟩
theorem Rrl_J {S0 S : xS} {q j : Nat} {v : Int64} (h : Rrl S0 S) (hq : ¬ (q < 503 ∨ 517 ≤ q)) : Rrl S0 (sJ S q j v) := ⟨h.1, fun q' hq' => by
  rw [sJ_n (fun z => hq (by rw [← z]; exact hq'))]
  exact h.2.1 q' hq', h.2.2.1, h.2.2.2.1, h.2.2.2.2⟩
theorem nn_tc {x : Int32} (h : xin x 20) : ∃ a, a < 20 ∧ x = nn a := by
  have h1 := x_lt h
  refine ⟨x.toNatClampNeg, h1, ?_⟩
  have h2 : ¬ x < 0 := fun z => h (Or.inl z)
  apply Int32.toInt_inj.mp
  rw [nn_i (by omega)]
  have h3 : 0 ≤ x.toInt := by
    rw [Int32.lt_iff_toInt_lt] at h2
    have : (0 : Int32).toInt = 0 := rfl
    omega
  unfold Int32.toNatClampNeg
  omega
theorem Rrl_v {S0 S : xS} {w : Int64} (h : Rrl S0 S) (hx : xin (S.1 503 8) 20) : Rrl S0 (sI (sI (sJ S 509 ((S.1 503 8).toNatClampNeg) w) 510 ((S.1 503 8).toNatClampNeg) 0) 503 8 ((S.1 503 8) + 1)) := by
  obtain ⟨a, ha, ea⟩ := nn_tc hx
  obtain ⟨h1, h2, h3, h4, h5⟩ := h
  rw [ea, nn_t (by omega)] at *
  refine ⟨fun q j hq => ?_, fun q hq => ?_, h3, ?_, fun v => ?_⟩
  · rw [sI_c, if_neg (by omega), sI_c, if_neg (by omega), sJ_I]
    exact h1 q j hq
  · rw [sI_J, sI_J, sJ_n (by omega)]
    exact h2 q hq
  · rw [sI_c, if_pos ⟨rfl, rfl⟩, nn_addl, nn_t (by omega)]
    omega
  · rw [sI_n (by omega), sI_c, sJ_I]
    by_cases z : v = a
    · rw [if_pos ⟨rfl, z⟩]
      exact Or.inr ⟨by omega, rfl⟩
    · rw [if_neg (fun y => z y.2)]
      exact h5 v
/-- what a run leaves alone, in the reference -/
def Rrr (S0 S : xS) : Prop := (∀ q j, q < 503 ∨ (504 ≤ q ∧ q ≤ 509) ∨ (514 ≤ q ∧ q ≤ 523) ∨ (q = 503 ∧ ¬ (j = 14 ∨ j = 36 ∨ j = 39 ∨ j = 47)) → S.1 q j = S0.1 q j) ∧ S.2 = S0.2
theorem Rrr_I {S0 S : xS} {q j : Nat} {v : Int32} (h : Rrr S0 S) (hq : ¬ (q < 503 ∨ (504 ≤ q ∧ q ≤ 509) ∨ (514 ≤ q ∧ q ≤ 523) ∨ (q = 503 ∧ ¬ (j = 14 ∨ j = 36 ∨ j = 39 ∨ j = 47)))) : Rrr S0 (sI S q j v) := ⟨fun q' j' hq' => by
  rw [sI_c, if_neg (fun z => hq (by rw [← z.1, ← z.2]; exact hq'))]
  exact h.1 q' j' hq', h.2⟩
