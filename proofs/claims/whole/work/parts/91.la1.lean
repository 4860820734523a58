/-! 91: the two sides between two calls -/
def LR (B : Nat) (Sc Sr : xS) : Prop := ∃ (n nk nv : Nat) (wd : Nat → Nat) (ow : Nat → Nat) (sn ou : Nat), (r_tp Sc Sr n ∧ r_vo Sc Sr ∧ r_nw Sc Sr nk nv wd ∧ Sc.1 7 5 = nn nk ∧ Sr.1 503 3 = nn nk ∧ Sc.1 7 6 = nn nv ∧ Sr.1 503 8 = nn nv ∧ Sc.1 0 7 = Sr.1 503 22) ∧ (RT Sc Sr ow nk wd sn nv (fun _ _ _ => False) ∧ sn ≤ B ∧ ou ≤ B ∧ Sc.1 409 8 = nn ou ∧ Sr.1 503 47 = nn ou ∧ (∀ j, j < 64 → Sc.1 411 j = Sr.1 532 j) ∧ Sc.1 409 10 = Sr.1 503 36) ∧ ((Sc.1 0 6 = 0 ∧ Sr.1 503 23 = 0) ∨ (Sc.1 0 6 = 1 ∧ Sr.1 503 23 = 1 ∧ ∃ ns np nu A D, PRG Sc Sr ns np nu nk nv wd A D))
section LA
variable {N B n nk nv sn ou m : Nat} {wd ow : Nat → Nat} {Sc Sr Sc' Sr' S0 S : xS}
theorem r_tp_c (h : r_tp Sc Sr n) (h1 : Sc'.1 1 5 = Sc.1 1 5) (h2 : Sc'.1 3 = Sc.1 3) (h3 : Sr'.1 503 2 = Sr.1 503 2) (h4 : Sr'.1 504 = Sr.1 504) : r_tp Sc' Sr' n := by
  obtain ⟨a1, a2, a3, a4⟩ := h
  exact ⟨a1, by rw [h1]; exact a2, by rw [h3]; exact a3, fun i hi => by rw [h2, h4]; exact a4 i hi⟩
theorem r_vo_c (h : r_vo Sc Sr) (h1 : Sc'.2.1 2 = Sc.2.1 2) (h2 : Sr'.2.1 517 = Sr.2.1 517) : r_vo Sc' Sr' := fun k hk => by rw [h1, h2]; exact h k hk
theorem r_nw_d (h : r_nw Sc Sr nk nv wd) (h1 : ∀ q, 8 ≤ q → q < 29 → Sc'.1 q = Sc.1 q) (h2 : ∀ q, 8 ≤ q → q < 29 → Sc'.2.1 q = Sc.2.1 q) (h3 : ∀ q, 505 ≤ q → q ≤ 509 → Sr'.1 q = Sr.1 q) (h4 : ∀ q, 505 ≤ q → q ≤ 509 → Sr'.2.1 q = Sr.2.1 q) : r_nw Sc' Sr' nk nv wd := by
  obtain ⟨a1, a2, a3, a4, a5⟩ := h
  refine ⟨a1, a2, fun k hk => by rw [h2 8 (by omega) (by omega), h4 505 (by omega) (by omega)]; exact a3 k hk, fun k hk => ?_, fun v hv => by rw [h2 28 (by omega) (by omega), h4 509 (by omega) (by omega)]; exact a5 v hv⟩
  obtain ⟨b1, b2, b3, b4⟩ := a4 k hk
  refine ⟨b1, by rw [h1 9 (by omega) (by omega)]; exact b2, by rw [h3 506 (by omega) (by omega)]; exact b3, fun f hf => ?_⟩
  rw [h2 (11 + (k + 1)) (by omega) (by omega), h4 507 (by omega) (by omega), h1 (20 + (k + 1)) (by omega) (by omega), h3 508 (by omega) (by omega)]
  exact b4 f hf
theorem LR_x (h : LR B Sc Sr) (c1 : ∀ q, q < 503 → Sc'.1 q = Sc.1 q) (c2 : ∀ q, q < 503 → Sc'.2.1 q = Sc.2.1 q) (r1 : ∀ q j, 503 ≤ q → q < 533 → ¬ (q = 503 ∧ j = 0) → Sr'.1 q j = Sr.1 q j) (r2 : ∀ q, 503 ≤ q → q < 533 → Sr'.2.1 q = Sr.2.1 q) : LR B Sc' Sr' := by
  have r3 : ∀ q, 504 ≤ q → q < 533 → Sr'.1 q = Sr.1 q := fun q a b => funext fun j => r1 q j (by omega) b (by omega)
  obtain ⟨n, nk, nv, wd, ow, sn, ou, ⟨h1, h2, h3, h4, h5, h6, h7, h8⟩, ⟨g1, g2, g3, g4, g5, g6, g7⟩, k⟩ := h
  refine ⟨n, nk, nv, wd, ow, sn, ou, ⟨r_tp_c h1 (by rw [c1 1 (by omega)]) (c1 3 (by omega)) (r1 _ _ (by omega) (by omega) (by omega)) (r3 _ (by omega) (by omega)), r_vo_c h2 (c2 _ (by omega)) (r2 _ (by omega) (by omega)), r_nw_d h3 (fun q _ _ => c1 q (by omega)) (fun q _ _ => c2 q (by omega)) (fun q _ _ => r3 q (by omega) (by omega)) (fun q _ _ => r2 q (by omega) (by omega)), by rw [c1 7 (by omega)]; exact h4, by rw [r1 _ _ (by omega) (by omega) (by omega)]; exact h5, by rw [c1 7 (by omega)]; exact h6, by rw [r1 _ _ (by omega) (by omega) (by omega)]; exact h7, by rw [c1 0 (by omega), r1 _ _ (by omega) (by omega) (by omega)]; exact h8⟩, ⟨RT_x g1 (fun q hq => c1 q (by unfold rwC at hq; omega)) (c2 30 (by omega)) (fun q hq => r3 q (by unfold rwR at hq; omega) (by unfold rwR at hq; omega)) (r1 _ _ (by omega) (by omega) (by omega)), g2, g3, by rw [c1 409 (by omega)]; exact g4, by rw [r1 _ _ (by omega) (by omega) (by omega)]; exact g5, fun j hj => by rw [c1 411 (by omega), r3 532 (by omega) (by omega)]; exact g6 j hj, by rw [c1 409 (by omega), r1 _ _ (by omega) (by omega) (by omega)]; exact g7⟩, ?_⟩
  rw [c1 0 (by omega), r1 503 23 (by omega) (by omega) (by omega)]
  rcases k with k | ⟨k1, k2, ns, np, nu, A, D, k3⟩
  · exact Or.inl k
  · exact Or.inr ⟨k1, k2, ns, np, nu, A, D, PRG_g k3 (fun q j hq _ => by rw [c1 q (by omega)]) (r3 518 (by omega) (by omega)) (r1 _ _ (by omega) (by omega) (by omega))⟩
theorem LR_m {B' : Nat} (h : LR B Sc Sr) (hB : B ≤ B') : LR B' Sc Sr := by
  obtain ⟨n, nk, nv, wd, ow, sn, ou, h1, ⟨g1, g2, g3, g4⟩, k⟩ := h
  exact ⟨n, nk, nv, wd, ow, sn, ou, h1, ⟨g1, by omega, by omega, g4⟩, k⟩
theorem r_nw_K (h : r_nw Sc Sr nk nv wd) : KDS Sc Sr nk wd := fun k hk => by
  obtain ⟨b1, b2, b3, b4⟩ := h.2.2.2.1 k hk
  exact ⟨b1, fun f hf => (b4 f hf).2⟩
/-- what a call leaves alone: the class's, the reference's -/
def KC (S S' : xS) : Prop := (∀ q, 503 ≤ q → S'.1 q = S.1 q) ∧ (∀ q, 503 ≤ q → S'.2.1 q = S.2.1 q) ∧ S'.2.2 ≤ S.2.2 + 2
def KR (S S' : xS) : Prop := (∀ q, q < 503 → S'.1 q = S.1 q) ∧ (∀ q, q < 503 ∨ q = 533 → S'.2.1 q = S.2.1 q) ∧ S'.2.2 = S.2.2
theorem KC_r (S : xS) : KC S S := ⟨fun _ _ => rfl, fun _ _ => rfl, by omega⟩
theorem KC_e (S : xS) : KC S (sE S) := ⟨fun _ _ => rfl, fun _ _ => rfl, by show S.2.2 + 1 ≤ _; omega⟩
theorem KR_s (S : xS) {q j : Nat} {v : Int32} (hq : 503 ≤ q) : KR S (sI S q j v) := ⟨fun q' h => by rw [sI_n (by omega)], fun _ _ => rfl, rfl⟩
theorem KR_t {A B D : xS} (h : KR A B) (g : KR B D) : KR A D := ⟨fun q a => (g.1 q a).trans (h.1 q a), fun q a => (g.2.1 q a).trans (h.2.1 q a), g.2.2.trans h.2.2⟩
/-- both answer alike: a number, or a throw and its number -/
def ANS (k : Nat) (c1 c2 : String) (rc : xr) (v : Int32) (Sr' : xS) : Prop := (∃ Sc', rc = (.inl (some (.inl v)), Sc') ∧ Sr'.1 503 0 = 0) ∨ (1 ≤ k ∧ ∃ Sc', rc = (.inr c1, Sc') ∧ Sr'.1 503 0 = 1) ∨ (2 ≤ k ∧ ∃ Sc', rc = (.inr c2, Sc') ∧ Sr'.1 503 0 = 2)
/-- what is to be shown of a call -/
def CAL (k B' : Nat) (c1 c2 : String) (Sc Sr : xS) (fc fr : Option xr) : Prop := ∃ rc v Sr', fc = some rc ∧ fr = some (rI v Sr') ∧ ANS k c1 c2 rc v Sr' ∧ LR B' rc.2 Sr' ∧ KC Sc rc.2 ∧ KR Sr Sr'
/-- reading a program: what it leaves alone -/
def KGo (S0 : xS) (o : Option xr) : Prop := ∀ r, o = some r → ∃ S1, Rcl S0 S1 ∧ (r.2 = S1 ∨ r.2 = sE S1)
theorem KG_o {o : Option xr} (h : KFo Rcl S0 o) : KGo S0 o := fun r e => by
  have := h r e
  obtain ⟨r1, r2⟩ := r
  cases r1 with
  | inl x => exact ⟨r2, this, Or.inl rfl⟩
  | inr x =>
    obtain ⟨S1, z1, z2⟩ := this
    exact ⟨S1, z1, Or.inr z2⟩
theorem G_ite {c : Prop} [Decidable c] {a b : Option xr} (h1 : KGo S0 a) (h2 : KGo S0 b) : KGo S0 (if c then a else b) := by
  by_cases z : c
  · rw [if_pos z]; exact h1
  · rw [if_neg z]; exact h2
theorem G_V {q : Option xr} {k : xS → Option xr} {x : Option xv} (h : KFo Rcl S0 q) (hk : ∀ S, Rcl S0 S → KGo S0 (k S)) : KGo S0 (xcVH q k (fun S => some (.inl x, S))) := fun r e => by
  unfold xcVH at e
  split at e
  · exact hk _ (h _ rfl) r e
  · split at e
    · cases e
      obtain ⟨S1, z1, z2⟩ := h _ rfl
      exact ⟨S1, z1, Or.inr z2⟩
    · cases e
  · cases e
theorem G_I {q : Option xr} {k : Int32 → xS → Option xr} {x : Option xv} (h : KFo Rcl S0 q) (hk : ∀ v S, Rcl S0 S → KGo S0 (k v S)) : KGo S0 (xcIH q k (fun S => some (.inl x, S))) := fun r e => by
  unfold xcIH at e
  split at e
  · exact hk _ _ (h _ rfl) r e
  · split at e
    · cases e
      obtain ⟨S1, z1, z2⟩ := h _ rfl
      exact ⟨S1, z1, Or.inr z2⟩
    · cases e
  · cases e
theorem g_264 (hS : Rcl S0 S) : KGo S0 (f_X6_reads_264 N S) := by
  unfold f_X6_reads_264
  exact G_V (fr_f_X6_noBlockIsOpen _ _ hS) (fun S h => KG_o (K_ret h))
theorem g_16 : ∀ (n : Nat) (x1 : Int32) (S : xS), Rcl S0 S → KGo S0 (f_X6_reads_16 N n x1 S) := by
  intro n
  induction n with
  | zero => intro x1 S _ r e; cases e
  | succ n ih =>
    intro x1 S hS
    rw [f_X6_reads_16.eq_2]
    refine G_ite (g_264 hS) (G_I (fr_f_X9_sort _ _ hS) (fun v S hS => G_ite (g_264 hS) (G_I (fr_f_X9_sort _ _ hS) (fun v S hS => ?_))))
    refine G_ite (G_V (fr_f_X6_kind _ _ hS) (fun S h => ih _ _ h)) (G_ite (G_V (fr_f_X6_insert _ _ hS) (fun S h => ih _ _ h)) (G_ite (G_V (fr_f_X6_delete _ _ hS) (fun S h => ih _ _ h)) (G_ite (G_V (fr_f_X6_set _ _ hS) (fun S h => ih _ _ h)) (G_ite (G_V (fr_f_X6_let _ _ hS) (fun S h => ih _ _ h)) (G_ite (G_V (fr_f_X6_output _ _ hS) (fun S h => ih _ _ h)) (G_ite (G_V (fr_f_X6_each _ _ hS) (fun S h => ih _ _ h)) (G_ite (G_V (fr_f_X6_conditional _ _ hS) (fun S h => ih _ _ h)) (G_ite (G_V (fr_f_X6_remove _ _ hS) (fun S h => ih _ _ h)) (G_ite (G_V (fr_f_X6_closeBlock _ _ hS) (fun S h => ih _ _ h)) (G_V (fr_f_X6_change _ _ hS) (fun S h => ih _ _ h)))))))))))
end LA
