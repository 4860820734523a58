/-! 99: the law's walk -/
def z_wl (k : Nat) : List Nat := ([[4, 14, 9, 11], [20, 18, 5, 19, 14, 9], [5, 20, 5, 12, 5, 4], [5, 18, 5, 8, 23], [20, 5, 19], [20, 5, 12], [20, 14, 9, 18, 16], [8, 3, 1, 5], [25, 2], [6, 9], [5, 19, 12, 5], [5, 12, 9, 8, 23], [5, 22, 15, 13, 5, 18], [4, 14, 1], [18, 15], [20, 15, 14], [20, 14, 21, 15, 3], [13, 21, 19], [20, 19, 1, 5, 12], [20, 19, 5, 20, 1, 5, 18, 7]] : List (List Nat)).getD k []
theorem z_wlk : ∀ k, k < 20 → ¬ z_wl k = [] ∧ (z_wl k).length ≤ 8 ∧ (∀ d ∈ z_wl k, 1 ≤ d ∧ d ≤ 26) ∧ VOC (k + 1) = ll (vr 32 (z_wl k)) ∧ WRD k = ll (vr 27 (z_wl k)) := by decide +kernel
theorem zI_o {k j : Nat} (h1 : ¬ k = 0) (h2 : ¬ k = 503) : zI k j = 0 := by
  unfold zI
  rw [if_neg (by omega)]
theorem zJ_o {k j : Nat} (h1 : ¬ k = 2) (h2 : ¬ k = 517) : zJ k j = 0 := by
  unfold zJ
  rw [if_neg h1, if_neg h2]
theorem bt_zo (v : Nat) : bt 0 v = false := by
  unfold bt
  simp
theorem lr_0 : LR (20000 * 0) (zI, zJ, 0) (zI, zJ, 0) := by
  refine ⟨0, 0, 0, fun _ => 0, fun _ => 0, 0, 0, ⟨⟨by omega, by decide +kernel, by decide +kernel, fun i hi => absurd hi (by omega)⟩, fun k hk => ?_, ⟨by omega, by omega, fun k hk => absurd hk (by omega), fun k hk => absurd hk (by omega), fun k hk => absurd hk (by omega)⟩, by decide +kernel, by decide +kernel, by decide +kernel, by decide +kernel, by decide +kernel⟩, ⟨⟨⟨fun v hv => ⟨Nat.le_refl _, ?_⟩, fun v hv k h1 h2 => ?_, fun v hv h => absurd rfl h, fun v hv _ => ?_, by decide +kernel, by decide +kernel, by omega, by omega⟩, fun v hv => ⟨?_, fun _ => ?_⟩, fun b d κ h => h.elim⟩, by omega, by omega, by decide +kernel, by decide +kernel, fun j hj => ?_, by decide +kernel⟩, Or.inl ⟨by decide +kernel, by decide +kernel⟩⟩
  · obtain ⟨w1, w2, w3, w4, w5⟩ := z_wlk k hk
    refine ⟨z_wl k, w1, w2, w3, ?_, ?_⟩
    · show zJ 2 (k + 1) = _
      unfold zJ
      rw [if_pos rfl]
      exact w4
    · show zJ 517 k = _
      unfold zJ
      rw [if_neg (by omega), if_pos rfl]
      exact w5
  · show zI 511 v = nn 0
    rw [zI_o (by omega) (by omega)]
    rfl
  · show bt (zJ 30 k) v = decide (0 = k)
    rw [zJ_o (by omega) (by omega), bt_zo]
    exact (decide_eq_false (by omega)).symm
  · show zI 96 v = 0
    exact zI_o (by omega) (by omega)
  · show zI 410 v = zI 510 v
    rw [zI_o (by omega) (by omega), zI_o (by omega) (by omega)]
  · show zI 510 v = 0
    exact zI_o (by omega) (by omega)
  · show zI 411 j = zI 532 j
    rw [zI_o (by omega) (by omega), zI_o (by omega) (by omega)]
theorem xP_z {w : xW} {g X : Nat → xE} {h : xH} (hc : CI w g h 534 14212 X) (hX : ∀ k, k < 534 → X k = cz w.2.1 k) (ht : x_TX w g) : x_P w g h (zI, zJ, 0) := by
  obtain ⟨h1, h2, h3, h4⟩ := hc
  refine ⟨h1, h2, h3, fun k hk => ?_, ht⟩
  rw [h4 k hk, hX k hk]
  rfl
theorem law_XE {l : Launch} {w : xW} {g : Nat → xE} {b zn : Nat} {Z : Nat → Int32} (ht : x_TX w g) (hb : b < w.2.1) (hg : g b = .inl (.int, zn, fun j => .int (Z j))) (hz : zn ≤ 2048) :
    XE l w M_L_law 0 [(0, .ref b)] [] (w.2.1, 0, g) (fun o => o.1 = .inl (some (.int 1)) ∧ o.2.1 ≤ w.2.1 + 1558 ∧ o.2.2.1 ≤ 20356) := by
  refine ct_law (X := fun _ => .inr (99, [])) 0 ht ⟨rfl, rfl, fun _ _ => rfl, fun k hk => absurd hk (by omega)⟩ (fun h' X' hc hX => ?_)
  obtain ⟨S', f1, f2⟩ := law_l (N := 10000001) (zn := zn) (Z := Z) (by omega) hz 512 0 513 (zI, zJ, 0) (by omega) (by omega) lr_0 (Nat.le_refl _) (by omega)
  obtain ⟨h2, P, E⟩ := t_L_law_23 (l := l) (w := w) (g := g) 10000001 zn Z hb hg 513 _ _ _ f1 h' (xP_z (CI_s hc (by omega)) hX ht)
  have P1 := P.1
  have P2 := P.2.1
  have f3 : S'.2.2 ≤ 1024 := f2
  refine ⟨_, ⟨rfl, ?_, ?_⟩, x_sub [4, 3, 2, 1, 0] rfl E⟩
  · show h2.1 ≤ _
    have P3 : h2.1 = w.2.1 + 534 + S'.2.2 := P1
    omega
  · show h2.2.1 ≤ _
    have P3 : h2.2.1 = 14212 + 6 * S'.2.2 := P2
    omega
