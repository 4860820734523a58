/-! 49: how steps follow each other, as steps and blocks come and go -/
theorem tya_2 {a : Nat} (h : 1 ≤ a) (h4 : a ≤ 4) : tya a = 49 ↔ a = 2 := by
  have : ∀ j, j < 5 → 1 ≤ j → (tya j = 49 ↔ j = 2) := by decide
  exact this a (by omega) h
def uD (D : Nat → xD) (n : Nat) (d : xD) : Nat → xD := fun i => if i = n then d else D i
theorem uD_s (D : Nat → xD) (n : Nat) (d : xD) : uD D n d n = d := if_pos rfl
theorem uD_n {D : Nat → xD} {n i : Nat} {d : xD} (h : ¬ i = n) : uD D n d i = D i := if_neg h
theorem scb3_c {n : Nat} {ty kd ty2 kd2 : Nat → Nat} (h : ∀ i, i < n → ty2 i = ty i ∧ kd2 i = kd i) : scb3 n ty2 kd2 = scb3 n ty kd := by
  funext b d k
  apply propext
  unfold scb3
  constructor
  · rintro ⟨h1, h2, h3, h4⟩
    rw [(h b h1).1] at h2
    rw [(h b h1).2] at h4
    rw [lvl_c (ty := ty) b (fun i hi => (h i (by omega)).1)] at h3
    exact ⟨h1, h2, h3, h4⟩
  · rintro ⟨h1, h2, h3, h4⟩
    rw [(h b h1).1, (h b h1).2, lvl_c (ty := ty) b (fun i hi => (h i (by omega)).1)]
    exact ⟨h1, h2, h3, h4⟩
theorem scb3_s {n : Nat} {ty kd : Nat → Nat} (h : ¬ ty n = 4) : scb3 (n + 1) ty kd = scb3 n ty kd := by
  funext b d k
  apply propext
  unfold scb3
  constructor
  · rintro ⟨h1, h2, h3, h4⟩
    have : ¬ b = n := fun z => h (by rw [← z]; exact h2)
    exact ⟨by omega, h2, h3, h4⟩
  · rintro ⟨h1, h2, h3, h4⟩
    exact ⟨by omega, h2, h3, h4⟩
section FW
variable {D : Nat → xD} {ns nb nb2 i h0 j : Nat} {ty op kd ty2 op2 kd2 : Nat → Nat} {d : xD}
theorem scx_upd {j : Nat} (hj : j ≤ ns) (hd : d.2.2.2.2.2 = scb3 nb ty kd) : scx (uD D ns d) (ns + 1) nb2 ty2 kd2 j = scx D ns nb ty kd j := by
  unfold scx
  rw [if_pos (by omega)]
  by_cases h : j = ns
  · subst h
    rw [if_neg (by omega), uD_s, hd]
  · rw [if_pos (by omega), uD_n h]
/-- an old step when a step is added -/
theorem FX (h : FLW D ns nb ty op kd i) (hi : i < ns) (hd : d.2.2.2.2.2 = scb3 nb ty kd) (h8 : i + 1 = ns → ((D i).1 = 8 ↔ d.1 = 48)) (h8b : i + 1 = ns → (D i).1 = 8 → d.2.2.2.1 = (D i).2.2.2.1 ∧ d.2.2.2.2.1 = (D i).2.2.2.2.1) (h48 : d.1 = 48 → tga (D i).1 → ¬ opd op nb i → (D i).2.1 < ns) (h49 : d.1 = 49 → d.2.2.1 < nb) (ho : ¬ opd op2 nb2 i → ¬ opd op nb i) : FLW (uD D ns d) (ns + 1) nb2 ty2 op2 kd2 i := by
  obtain ⟨f1, f2, f3, f4, f5⟩ := h
  have ei : uD D ns d i = D i := uD_n (by omega)
  refine ⟨?_, ?_, ?_, ?_, ?_⟩
  · rw [ei, scx_upd (by omega) hd, uD_n (show ¬ i - 1 = ns by omega)]; exact f1
  · rw [ei]
    intro a b
    by_cases e : i + 1 = ns
    · rw [e, uD_s]
      exact ⟨(h8 e).mp a, (h8b e a).1, (h8b e a).2⟩
    · rw [uD_n e]
      exact f2 a (by omega)
  · rw [ei]
    intro a b
    by_cases e : i + 1 = ns
    · rw [e, uD_s]
      exact fun z => a ((h8 e).mpr z)
    · rw [uD_n e]
      exact f3 a (by omega)
  · rw [ei]; exact f4
  · rw [ei]
    intro a b
    obtain ⟨g1, g2, g3, g4, g5⟩ := f5 a (ho b)
    refine ⟨by omega, ?_, ?_, ?_, ?_⟩
    · rw [scx_upd g1 hd]; exact g2
    · intro c e
      by_cases z : (D i).2.1 = ns
      · rw [z, uD_s] at e
        have := h48 e a (ho b)
        omega
      · rw [uD_n z] at e ⊢
        rw [uD_n (show ¬ (D i).2.1 - 1 = ns by omega)]
        exact g3 (by omega) e
    · intro c e z2
      by_cases z : (D i).2.1 = ns
      · rw [z, uD_s] at e ⊢
        have := h49 e
        have := g5 z z2
        omega
      · rw [uD_n z] at e ⊢
        exact g4 (by omega) e z2
    · intro c
      omega
def dt (d : xD) (j : Nat) : xD := (d.1, j, d.2.2)
/-- a step's aim is told: the others don't see it -/
theorem FT (h : FLW D ns nb ty op kd i) (hi : ¬ i = h0) : FLW (uD D h0 (dt (D h0) j)) ns nb ty op kd i := by
  have ei : uD D h0 (dt (D h0) j) i = D i := uD_n hi
  have e1 : ∀ q, (uD D h0 (dt (D h0) j) q).1 = (D q).1 := fun q => by
    by_cases z : q = h0
    · subst z; rw [uD_s]; rfl
    · rw [uD_n z]
  have e2 : ∀ q, (uD D h0 (dt (D h0) j) q).2.2 = (D q).2.2 := fun q => by
    by_cases z : q = h0
    · subst z; rw [uD_s]; rfl
    · rw [uD_n z]
  have e3 : ∀ q, scx (uD D h0 (dt (D h0) j)) ns nb ty kd q = scx D ns nb ty kd q := fun q => by
    unfold scx
    rw [e2]
  unfold FLW
  simp only [e1, e2, e3, ei]
  exact h
/-- the same of the step itself -/
theorem FH (h : FLW D ns nb ty op kd h0) (h1 : tga (D h0).1 → ¬ opd op2 nb2 h0 → j ≤ ns ∧ (∀ b l k, scx D ns nb2 ty2 kd2 j b l k → (D h0).2.2.2.2.2 b l k) ∧
    (j < ns → (D j).1 = 48 → (D h0).1 = 49 ∧ (D j).2.2.1 = (D h0).2.2.1 ∧ (D h0).2.2.2.2.2 (D j).2.2.2.1 (D j).2.2.2.2.1 (D (j - 1)).2.2.1) ∧
    (j < ns → (D j).1 = 49 → (D h0).1 = 48 ∨ (D h0).1 = 49 → (D j).2.2.1 < (D h0).2.2.1) ∧
    (j = ns → (D h0).1 = 48 ∨ (D h0).1 = 49 → nb2 ≤ (D h0).2.2.1)) (h2 : ¬ (D h0).1 = 49 → ∀ b l k, scx D ns nb2 ty2 kd2 (h0 + 1) b l k → scx D ns nb ty kd (h0 + 1) b l k) : FLW (uD D h0 (dt (D h0) j)) ns nb2 ty2 op2 kd2 h0 := by
  have e1 : ∀ q, (uD D h0 (dt (D h0) j) q).1 = (D q).1 := fun q => by
    by_cases z : q = h0
    · subst z; rw [uD_s]; rfl
    · rw [uD_n z]
  have e2 : ∀ q, (uD D h0 (dt (D h0) j) q).2.2 = (D q).2.2 := fun q => by
    by_cases z : q = h0
    · subst z; rw [uD_s]; rfl
    · rw [uD_n z]
  have e3 : ∀ q, scx (uD D h0 (dt (D h0) j)) ns nb2 ty2 kd2 q = scx D ns nb2 ty2 kd2 q := fun q => by
    unfold scx
    rw [e2]
  have e4 : (uD D h0 (dt (D h0) j) h0).2.1 = j := by rw [uD_s]; rfl
  obtain ⟨f1, f2, f3, f4, f5⟩ := h
  unfold FLW
  simp only [e1, e2, e3, e4]
  exact ⟨fun a b l k z => f1 a b l k (h2 a b l k z), f2, f3, f4, h1⟩
/-- when a block is shut: steps but its opener's -/
theorem FS (h : FLW D ns (nb + 1) ty op kd i) (hi : ¬ i = op nb) (hn : i < ns) : FLW D ns nb ty op kd i := by
  obtain ⟨f1, f2, f3, f4, f5⟩ := h
  have hs : ∀ q b l k, scx D ns nb ty kd q b l k → scx D ns (nb + 1) ty kd q b l k := fun q b l k z => by
    unfold scx at z ⊢
    by_cases e : q < ns
    · rw [if_pos e] at z ⊢; exact z
    · rw [if_neg e] at z ⊢
      exact ⟨Nat.lt_succ_of_lt z.1, z.2⟩
  refine ⟨fun a b l k z => f1 a b l k (hs _ b l k z), f2, f3, f4, fun a b => ?_⟩
  obtain ⟨g1, g2, g3, g4, g5⟩ := f5 a (fun z => by
    obtain ⟨c, c1, c2⟩ := z
    rcases Nat.lt_or_ge c nb with q | q
    · exact b ⟨c, q, c2⟩
    · have : c = nb := by omega
      subst this
      exact hi c2.symm)
  exact ⟨g1, fun b l k z => g2 b l k (hs _ b l k z), g3, g4, fun c e => by have := g5 c e; omega⟩
/-- a plain step -/
theorem FA (h : ∀ i, i < ns → FLW D ns nb ty op kd i) (hO : OPB D nb ns ty op kd) (hd : d.2.2.2.2.2 = scb3 nb ty kd) (ha : ¬ tga d.1) (hl : ∀ i, i + 1 = ns → ¬ (D i).1 = 8) : (∀ i, i < ns + 1 → FLW (uD D ns d) (ns + 1) nb ty op kd i) ∧ OPB (uD D ns d) nb (ns + 1) ty op kd ∧ ∀ i, i < ns + 1 → tga (uD D ns d i).1 → ¬ opd op nb i → (uD D ns d i).2.1 < ns + 1 := by
  have h48 : ¬ d.1 = 48 := fun z => ha (Or.inr (Or.inr (Or.inl z)))
  have h49 : ¬ d.1 = 49 := fun z => ha (Or.inr (Or.inr (Or.inr z)))
  refine ⟨fun i hi => ?_, ⟨fun b hb => ?_, hO.2⟩, fun i hi a b => ?_⟩
  · by_cases e : i = ns
    · subst e
      unfold FLW
      rw [uD_s]
      refine ⟨fun _ b l k z => ?_, fun _ z => by omega, fun _ z => by omega, ⟨fun z => by omega, fun z => absurd z h48, fun z => ⟨h48, fun b l k y => by rw [hd] at y; have := (hO.1 b y.1).1; omega⟩⟩, fun z => absurd z ha⟩
      unfold scx at z
      rw [if_neg (by omega)] at z
      rw [hd]
      exact Or.inl z
    · exact FX (h i (by omega)) (by omega) hd (fun z => ⟨fun y => absurd y (hl i z), fun y => absurd y h48⟩) (fun z y => absurd y (hl i z)) (fun z => absurd z h48) (fun z => absurd z h49) (fun z => z)
  · obtain ⟨o1, o2⟩ := hO.1 b hb
    rw [uD_n (show ¬ op b = ns by omega), uD_n (show ¬ op b - 1 = ns by omega)]
    exact ⟨by omega, o2⟩
  · by_cases e : i = ns
    · subst e
      rw [uD_s] at a
      exact absurd a ha
    · rw [uD_n e] at a ⊢
      have := ((h i (by omega)).2.2.2.2 a b).1
      omega
theorem opd_u {i b0 : Nat} (h : ¬ opd (upw op nb b0) (nb + 1) i) : ¬ opd op nb i := fun ⟨c, c1, c2⟩ => h ⟨c, by omega, by rw [upw_n c1]; exact c2⟩
/-- a step that opens a block -/
theorem FO {τ κ : Nat} (h : ∀ i, i < ns → FLW D ns nb ty op kd i) (hO : OPB D nb ns ty op kd) (hd : d.2.2.2.2.2 = scb3 nb ty kd) (ha : d.1 = tya τ) (hτ : 1 ≤ τ ∧ τ ≤ 4 ∧ ¬ τ = 2) (h4 : τ = 4 → d.2.2.2.1 = nb ∧ d.2.2.2.2.1 = lvl ty nb ∧ d.2.2.1 = nb) (h4k : τ = 4 → 1 ≤ ns ∧ κ = (D (ns - 1)).2.2.1) (h10 : nb < 10) (hl : ∀ i, i + 1 = ns → ((D i).1 = 8 ↔ d.1 = 48)) (hl2 : ∀ i, i + 1 = ns → (D i).1 = 8 → d.2.2.2.1 = (D i).2.2.2.1 ∧ d.2.2.2.2.1 = (D i).2.2.2.2.1) (h48 : d.1 = 48 → ∀ i, i < ns → tga (D i).1 → ¬ opd op nb i → (D i).2.1 < ns) : (∀ i, i < ns + 1 → FLW (uD D ns d) (ns + 1) (nb + 1) (upw ty nb τ) (upw op nb ns) (upw kd nb κ) i) ∧ OPB (uD D ns d) (nb + 1) (ns + 1) (upw ty nb τ) (upw op nb ns) (upw kd nb κ) ∧ ¬ d.1 = 8 := by
  have a1 : d.1 = 10 ∨ d.1 = 12 ∨ (d.1 = 48 ∧ τ = 4) := by
    have : τ = 1 ∨ τ = 3 ∨ τ = 4 := by omega
    rcases this with rfl | rfl | rfl
    · exact Or.inl ha
    · exact Or.inr (Or.inl ha)
    · exact Or.inr (Or.inr ⟨ha, rfl⟩)
  have h49 : ¬ d.1 = 49 := by omega
  refine ⟨fun i hi => ?_, ⟨fun b hb => ?_, fun b c hb hc e => ?_⟩, by omega⟩
  · by_cases e : i = ns
    · subst e
      unfold FLW
      rw [uD_s]
      refine ⟨fun _ b l k z => ?_, fun _ z => by omega, fun _ z => by omega, ⟨fun z => ?_, fun z => ?_, fun z => ⟨fun y => ?_, fun b l k y => ?_⟩⟩, fun _ z => absurd ⟨nb, Nat.lt_succ_self _, upw_s _ _ _⟩ z⟩
      · unfold scx at z
        rw [if_neg (by omega)] at z
        rw [hd]
        obtain ⟨z1, z2, z3, z4⟩ := z
        by_cases q : b = nb
        · subst q
          rw [upw_s] at z2
          rw [lvl_c (ty := ty) b (fun i hi => upw_n hi)] at z3
          obtain ⟨c1, c2, c3⟩ := h4 z2
          obtain ⟨k1, k2⟩ := h4k z2
          rw [upw_s] at z4
          refine Or.inr ⟨by rw [ha, z2]; rfl, by omega, by omega, ?_⟩
          rw [uD_n (by omega), z4]
          exact k2
        · have q2 : b < nb := by omega
          rw [upw_n q2] at z2 z4
          rw [lvl_c (ty := ty) b (fun i hi => upw_n (by omega))] at z3
          exact Or.inl ⟨q2, z2, z3, z4⟩
      · rcases z with z | z
        · have : τ = 4 := by omega
          rw [(h4 this).2.2]
          exact h10
        · omega
      · have h4t : τ = 4 := by omega
        obtain ⟨c1, c2, c3⟩ := h4 h4t
        have := lvl_le ty nb
        rw [c1, c2, hd]
        exact ⟨h10, by omega, fun b l k z => ⟨z.1, by rw [z.2.2.1]; exact lvl_lt z.1 z.2.1⟩⟩
      · have h4t : τ = 4 := by omega
        have := (h4k h4t).1
        omega
      · rw [hd] at y
        have := (hO.1 b y.1).1
        omega
    · exact FX (h i (by omega)) (by omega) hd (hl i) (hl2 i) (fun z => h48 z i (by omega)) (fun z => absurd z h49) opd_u
  · by_cases e : b = nb
    · subst e
      rw [upw_s, uD_s, upw_s]
      refine ⟨by omega, ha, ?_, fun z => ?_, fun z => ?_, hτ.1, hτ.2.1⟩
      · rw [hd]
        exact (scb3_c (fun i hi => ⟨upw_n hi, upw_n hi⟩)).symm
      · rw [lvl_c (ty := ty) b (fun i hi => upw_n hi)]
        refine ⟨(h4 z).1, (h4 z).2.1, ?_⟩
        rw [upw_s, uD_n (by have := (h4k z).1; omega)]
        exact (h4k z).2
      · rcases z with z | z
        · exact (h4 z).2.2
        · omega
    · have e2 : b < nb := by omega
      obtain ⟨o1, o2, o3, o4, o5⟩ := hO.1 b e2
      rw [upw_n e2, upw_n e2, upw_n e2, uD_n (show ¬ op b = ns by omega), uD_n (show ¬ op b - 1 = ns by omega), lvl_c (ty := ty) b (fun i hi => upw_n (by omega))]
      exact ⟨by omega, o2, by rw [o3]; exact (scb3_c (fun i hi => ⟨upw_n (by omega), upw_n (by omega)⟩)).symm, o4, o5⟩
  · by_cases e1 : b = nb
    · by_cases e2 : c = nb
      · omega
      · have := (hO.1 c (by omega)).1
        rw [e1, upw_s, upw_n (by omega)] at e
        omega
    · by_cases e2 : c = nb
      · have := (hO.1 b (by omega)).1
        rw [e2, upw_s, upw_n (by omega)] at e
        omega
      · rw [upw_n (by omega), upw_n (by omega)] at e
        exact hO.2 b c (by omega) (by omega) e
theorem OPB_s (hO : OPB D (nb + 1) ns ty op kd) : OPB D nb ns ty op kd := ⟨fun b hb => hO.1 b (by omega), fun b c hb hc => hO.2 b c (by omega) (by omega)⟩
theorem OPB_t (hO : OPB D nb ns ty op kd) : OPB (uD D h0 (dt (D h0) j)) nb ns ty op kd := by
  have e1 : ∀ q, (uD D h0 (dt (D h0) j) q).1 = (D q).1 := fun q => by
    by_cases z : q = h0
    · subst z; rw [uD_s]; rfl
    · rw [uD_n z]
  have e2 : ∀ q, (uD D h0 (dt (D h0) j) q).2.2 = (D q).2.2 := fun q => by
    by_cases z : q = h0
    · subst z; rw [uD_s]; rfl
    · rw [uD_n z]
  unfold OPB
  simp only [e1, e2]
  exact hO
/-- a block is shut, its opener leads here -/
theorem FC (h : ∀ i, i < ns → FLW D ns (nb + 1) ty op kd i) (hO : OPB D (nb + 1) ns ty op kd) : (∀ i, i < ns → FLW (uD D (op nb) (dt (D (op nb)) ns)) ns nb ty op kd i) ∧ OPB (uD D (op nb) (dt (D (op nb)) ns)) nb ns ty op kd := by
  obtain ⟨o1, o2, o3, o4, o5, o6, o7⟩ := hO.1 nb (Nat.lt_succ_self _)
  refine ⟨fun i hi => ?_, OPB_t (OPB_s hO)⟩
  by_cases e : i = op nb
  · subst e
    refine FH (h _ hi) (fun a b => ⟨Nat.le_refl _, fun b l k z => ?_, fun z => by omega, fun z => by omega, fun _ z => ?_⟩) (fun _ b l k z => ?_)
    · unfold scx at z
      rw [if_neg (by omega)] at z
      rw [o3]
      exact z
    · have : ty nb = 4 ∨ ty nb = 2 := by
        rw [o2, tya_4 o6 o7, tya_2 o6 o7] at z
        exact z
      rw [o5 this]
      exact Nat.le_refl _
    · unfold scx at z ⊢
      by_cases q : op nb + 1 < ns
      · rw [if_pos q] at z ⊢; exact z
      · rw [if_neg q] at z ⊢
        exact ⟨Nat.lt_succ_of_lt z.1, z.2⟩
  · exact FT (FS (h i hi) e hi) e
/-- the way back of a loop, before its block is shut -/
theorem FJ (h : ∀ i, i < ns → FLW D ns (nb + 1) ty op kd i) (hO : OPB D (nb + 1) ns ty op kd) (h10 : nb < 10) (h3 : ty nb = 3 ∨ ty nb = 4) (hd : d = (49, op nb, nb, 0, 0, scb3 (nb + 1) ty kd)) (hl : ∀ i, i + 1 = ns → ¬ (D i).1 = 8) : (∀ i, i < ns + 1 → FLW (uD D ns d) (ns + 1) (nb + 1) ty op kd i) ∧ OPB (uD D ns d) (nb + 1) (ns + 1) ty op kd := by
  obtain ⟨o1, o2, o3, o4, o5, o6, o7⟩ := hO.1 nb (Nat.lt_succ_self _)
  subst hd
  refine ⟨fun i hi => ?_, fun b hb => ?_, hO.2⟩
  · by_cases e : i = ns
    · subst e
      have eo : uD D i ((49, op nb, nb, 0, 0, scb3 (nb + 1) ty kd) : xD) (op nb) = D (op nb) := uD_n (by omega)
      unfold FLW
      rw [uD_s]
      simp only [eo]
      refine ⟨fun z => (z (by first | trivial | rfl)).elim, fun z => by omega, fun _ z => by omega, ⟨fun _ => h10, fun z => absurd z (show ¬ 49 = 48 by decide), fun z => ⟨by first | decide | trivial, fun b l k y => by have := (hO.1 b y.1).1; omega⟩⟩, fun _ _ => ⟨by omega, fun b l k z => ?_, fun _ z => ⟨trivial, ?_⟩, fun _ z => ?_, fun z => by omega⟩⟩
      · unfold scx at z
        rw [if_pos (by omega), uD_n (by omega), o3] at z
        exact ⟨Nat.lt_succ_of_lt z.1, z.2⟩
      · have q : ty nb = 4 := by
          rw [o2, tya_4 o6 o7] at z
          exact z
        refine ⟨o5 (Or.inl q), ?_⟩
        rw [(o4 q).1, (o4 q).2.1, uD_n (by omega), ← (o4 q).2.2]
        exact ⟨Nat.lt_succ_self _, q, rfl, rfl⟩
      · rw [o2, tya_2 o6 o7] at z
        omega
    · exact FX (h i (by omega)) (by omega) rfl (fun z => ⟨fun y => absurd y (hl i z), fun y => absurd y (show ¬ 49 = 48 by decide)⟩) (fun z y => absurd y (hl i z)) (fun z => absurd z (show ¬ 49 = 48 by decide)) (fun _ => Nat.lt_succ_self _) (fun z => z)
  · obtain ⟨p1, p2⟩ := hO.1 b hb
    rw [uD_n (show ¬ op b = ns by omega), uD_n (show ¬ op b - 1 = ns by omega)]
    exact ⟨by omega, p2⟩
/-- an else -/
theorem FE (h : ∀ i, i < ns → FLW D ns (nb + 1) ty op kd i) (hO : OPB D (nb + 1) ns ty op kd) (h10 : nb < 10) (h1 : ty nb = 1) (hd : d = (49, 0, nb, 0, 0, scb3 nb ty kd)) (hl : ∀ i, i + 1 = ns → ¬ (D i).1 = 8) : (∀ i, i < ns + 1 → FLW (uD (uD D ns d) (op nb) (dt (D (op nb)) (ns + 1))) (ns + 1) (nb + 1) (upw ty nb 2) (upw op nb ns) kd i) ∧ OPB (uD (uD D ns d) (op nb) (dt (D (op nb)) (ns + 1))) (nb + 1) (ns + 1) (upw ty nb 2) (upw op nb ns) kd := by
  obtain ⟨o1, o2, o3, o4, o5, o6, o7⟩ := hO.1 nb (Nat.lt_succ_self _)
  subst hd
  have hsc : ((49, 0, nb, 0, 0, scb3 nb ty kd) : xD).2.2.2.2.2 = scb3 (nb + 1) ty kd := (scb3_s (by omega)).symm
  have a10 : (D (op nb)).1 = 10 := by rw [o2, h1]; rfl
  have eo : uD D ns ((49, 0, nb, 0, 0, scb3 nb ty kd) : xD) (op nb) = D (op nb) := uD_n (by omega)
  have key : ∀ i, i < ns → ∀ ty2 op2, (¬ opd op2 (nb + 1) i → ¬ opd op (nb + 1) i) → FLW (uD D ns ((49, 0, nb, 0, 0, scb3 nb ty kd) : xD)) (ns + 1) (nb + 1) ty2 op2 kd i := fun i hi ty2 op2 ho =>
    FX (h i hi) hi hsc (fun z => ⟨fun y => absurd y (hl i z), fun y => absurd y (show ¬ 49 = 48 by decide)⟩) (fun z y => absurd y (hl i z)) (fun z => absurd z (show ¬ 49 = 48 by decide)) (fun _ => Nat.lt_succ_self _) ho
  refine ⟨fun i hi => ?_, ?_⟩
  · by_cases e : i = op nb
    · subst e
      have k1 := key (op nb) (by omega) ty op (fun z => z)
      rw [← eo]
      refine FH k1 (fun _ _ => ⟨Nat.le_refl _, fun b l k z => ?_, fun z => by omega, fun z => by omega, fun _ z => ?_⟩) (fun _ b l k z => ?_)
      · unfold scx at z
        rw [if_neg (by omega), scb3_s (by rw [upw_s]; decide), scb3_c (ty := ty) (kd := kd) (fun i hi => ⟨upw_n hi, rfl⟩)] at z
        rw [eo, o3]
        exact z
      · rw [eo, a10] at z
        omega
      · unfold scx at z ⊢
        rw [if_pos (by omega)] at z ⊢
        exact z
    · rw [← eo]
      refine FT ?_ e
      by_cases e2 : i = ns
      · subst e2
        unfold FLW
        rw [uD_s]
        exact ⟨fun z => (z (by first | trivial | rfl)).elim, fun z => by omega, fun _ z => by omega, ⟨fun _ => h10, fun z => absurd z (show ¬ 49 = 48 by decide), fun z => ⟨show ¬ 49 = 48 by decide, fun b l k y => by have := (hO.1 b (by have := y.1; omega)).1; omega⟩⟩, fun _ z => absurd ⟨nb, Nat.lt_succ_self _, upw_s _ _ _⟩ z⟩
      · refine key i (by omega) _ _ (fun z y => ?_)
        obtain ⟨c, c1, c2⟩ := y
        by_cases q : c = nb
        · subst q; exact e c2.symm
        · exact z ⟨c, by omega, by rw [upw_n (by omega)]; exact c2⟩
  · rw [← eo]
    apply OPB_t
    refine ⟨fun b hb => ?_, fun b c hb hc e => ?_⟩
    · by_cases e : b = nb
      · subst e
        rw [upw_s, uD_s, upw_s]
        refine ⟨by omega, rfl, (scb3_c (fun i hi => ⟨upw_n hi, rfl⟩)).symm, fun z => by omega, fun _ => rfl, by decide, by decide⟩
      · have e2 : b < nb := by omega
        obtain ⟨p1, p2, p3, p4, p5⟩ := hO.1 b hb
        rw [upw_n e2, upw_n e2, uD_n (show ¬ op b = ns by omega), uD_n (show ¬ op b - 1 = ns by omega), lvl_c (ty := ty) b (fun i hi => upw_n (by omega))]
        exact ⟨by omega, p2, by rw [p3]; exact (scb3_c (fun i hi => ⟨upw_n (by omega), rfl⟩)).symm, p4, p5⟩
    · by_cases e1 : b = nb
      · by_cases e2 : c = nb
        · omega
        · have := (hO.1 c (by omega)).1
          rw [e1, upw_s, upw_n (by omega)] at e
          omega
      · by_cases e2 : c = nb
        · have := (hO.1 b (by omega)).1
          rw [e2, upw_s, upw_n (by omega)] at e
          omega
        · rw [upw_n (by omega), upw_n (by omega)] at e
          exact hO.2 b c (by omega) (by omega) e
end FW
