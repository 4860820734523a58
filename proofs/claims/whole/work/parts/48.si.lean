/-! 48: what stands between two statements -/
/-- of a step: act, where it leads, its level, its cursor, the reference's level, what is open at it -/
abbrev xD : Type := Nat × Nat × Nat × Nat × Nat × (Nat → Nat → Nat → Prop)
def scb3 (nb : Nat) (ty kd : Nat → Nat) : Nat → Nat → Nat → Prop := fun b d k => b < nb ∧ ty b = 4 ∧ d = lvl ty b ∧ k = kd b
def sc2 (sc : Nat → Nat → Nat → Prop) : Nat → Nat → Prop := fun b d => ∃ k, sc b d k
theorem scb_3 {nb : Nat} {ty : Nat → Nat} (kd : Nat → Nat) {b d : Nat} (h : scb nb ty b d) : sc2 (scb3 nb ty kd) b d := ⟨kd b, h.1, h.2.1, h.2.2, rfl⟩
def inl (E : List xCe) : List Int32 := 112 :: nn (cE E).length :: cE E
def whc (o : Option (Nat × List xCe)) : List Int32 := match o with
  | none => [0]
  | some z => nn (cE z.2).length :: cE z.2
def WHR (Sc : xS) (Z : Nat → Int32) (np k : Nat) (sc : Nat → Nat → Prop) (o : Option (Nat × List xCe)) : Prop := match o with
  | none => Z 5 = -1
  | some z => Z 5 = nn z.1 ∧ EXC Sc np (k + 1) sc z.1 z.2
abbrev xV : Type := Nat × Nat × List xCe
def PUT (Sc : xS) (np nu rk0 wk : Nat) (sc : Nat → Nat → Prop) (us : Nat) (U : List xV) : Prop := us + U.length ≤ nu ∧ U.length ≤ 6 ∧ (∀ j, j < U.length → Sc.1 100 (us + j) = nn (U.getD j (0, 0, [])).1 ∧ Sc.1 101 (us + j) = nn (U.getD j (0, 0, [])).2.1) ∧ ∀ u ∈ U, u.1 < wk ∧ EXC Sc np rk0 sc u.2.1 u.2.2
def tga (a : Nat) : Prop := a = 10 ∨ a = 12 ∨ a = 48 ∨ a = 49
/-- the step's own rows and the code of it, without the place that it leads to -/
def STF (Sc : xS) (Z : Nat → Int32) (np nu nk nv : Nat) (wd : Nat → Nat) (d : xD) (L : List Int32) : Prop :=
  (d.1 = 1 ∧ L = [100]) ∨
  (d.1 = 2 ∧ ∃ k us U, k < nk ∧ Z 1 = nn (k + 1) ∧ Z 7 = nn us ∧ Z 8 = nn (us + U.length) ∧ PUT Sc np nu 0 (wd k) (sc2 d.2.2.2.2.2) us U ∧ L = 100 :: (U.flatMap (fun u => inl u.2.2) ++ (103 :: nn k :: nn U.length :: U.map (fun u => nn u.1)))) ∨
  (d.1 = 3 ∧ ∃ k o, k < nk ∧ Z 1 = nn (k + 1) ∧ WHR Sc Z np k (sc2 d.2.2.2.2.2) o ∧ L = 100 :: 104 :: nn k :: whc o) ∨
  (d.1 = 5 ∧ ∃ k o us U, k < nk ∧ Z 1 = nn (k + 1) ∧ WHR Sc Z np k (sc2 d.2.2.2.2.2) o ∧ Z 7 = nn us ∧ Z 8 = nn (us + U.length) ∧ PUT Sc np nu (k + 1) (wd k) (sc2 d.2.2.2.2.2) us U ∧ L = 100 :: 105 :: nn k :: (whc o ++ nn U.length :: U.flatMap (fun u => nn u.1 :: nn (cE u.2.2).length :: cE u.2.2))) ∨
  (d.1 = 6 ∧ ∃ v p E, v < nv ∧ v < 20 ∧ Z 4 = nn v ∧ Z 6 = nn p ∧ EXC Sc np 0 (sc2 d.2.2.2.2.2) p E ∧ L = 100 :: (inl E ++ [101, nn v])) ∨
  (d.1 = 7 ∧ ∃ p E, Z 6 = nn p ∧ EXC Sc np 0 (sc2 d.2.2.2.2.2) p E ∧ L = 100 :: (inl E ++ [102, 0])) ∨
  (d.1 = 8 ∧ ∃ k f o, k < nk ∧ f < 6 ∧ Z 1 = nn (k + 1) ∧ Z 2 = nn f ∧ Z 3 = nn d.2.2.2.1 ∧ WHR Sc Z np k (sc2 d.2.2.2.2.2) o ∧ L = 100 :: 106 :: nn d.2.2.2.2.1 :: nn k :: nn f :: whc o ∧ k = d.2.2.1) ∨
  (d.1 = 48 ∧ ∃ k, Z 1 = nn (k + 1) ∧ Z 3 = nn d.2.2.2.1 ∧ L = [107, nn d.2.2.2.2.1, nn k]) ∨
  ((d.1 = 10 ∨ d.1 = 12) ∧ ∃ p E, Z 6 = nn p ∧ EXC Sc np 0 (sc2 d.2.2.2.2.2) p E ∧ L = 100 :: (inl E ++ [110])) ∨
  (d.1 = 49 ∧ L = [111]) ∨
  (d.1 = 13 ∧ ∃ k, k < nk ∧ Z 1 = nn (k + 1) ∧ Z 3 = nn d.2.2.2.1 ∧ d.2.2.2.2.2 d.2.2.2.1 d.2.2.2.2.1 k ∧ L = [100, 109, nn d.2.2.2.2.1, nn k]) ∨
  (d.1 = 50 ∧ ∃ k f p E, k < nk ∧ f < wd k ∧ Z 1 = nn (k + 1) ∧ Z 2 = nn f ∧ Z 3 = nn d.2.2.2.1 ∧ d.2.2.2.2.2 d.2.2.2.1 d.2.2.2.2.1 k ∧ Z 6 = nn p ∧ EXC Sc np 0 (sc2 d.2.2.2.2.2) p E ∧ L = 100 :: (inl E ++ [108, nn d.2.2.2.2.1, nn k, nn f]))
def tgl (a : Nat) : Nat := if a = 10 ∨ a = 12 ∨ a = 48 ∨ a = 49 then 1 else 0
theorem tgl_1 {a : Nat} (h : tga a) : tgl a = 1 := if_pos h
theorem tgl_0 {a : Nat} (h : ¬ tga a) : tgl a = 0 := if_neg h
def STP (Sc Sr : xS) (np nu nk nv : Nat) (wd A : Nat → Nat) (o : Prop) (i : Nat) (d : xD) : Prop :=
  Sc.1 (102 + 2 * i) 0 = nn d.1 ∧ d.1 ≤ 50 ∧ (∃ L, STF Sc (Sc.1 (102 + 2 * i)) np nu nk nv wd d L ∧ seg (Sr.1 518) (A i) L ∧ A (i + 1) = A i + L.length + tgl d.1 ∧ 1 ≤ L.length) ∧ (tga d.1 → ¬ o → Sc.1 (102 + 2 * i) 9 = nn d.2.1 ∧ Sr.1 518 (A (i + 1) - 1) = nn (A d.2.1))
/-- what is open at step j: where none is yet, what is open now -/
def scx (D : Nat → xD) (ns nb : Nat) (ty kd : Nat → Nat) (j : Nat) : Nat → Nat → Nat → Prop := if j < ns then (D j).2.2.2.2.2 else scb3 nb ty kd
def opd (op : Nat → Nat) (nb i : Nat) : Prop := ∃ b, b < nb ∧ op b = i
/-- how steps follow each other -/
def FLW (D : Nat → xD) (ns nb : Nat) (ty op kd : Nat → Nat) (i : Nat) : Prop :=
  (¬ (D i).1 = 49 → ∀ b l k, scx D ns nb ty kd (i + 1) b l k → (D i).2.2.2.2.2 b l k ∨ ((D i).1 = 48 ∧ b = (D i).2.2.2.1 ∧ l = (D i).2.2.2.2.1 ∧ k = (D (i - 1)).2.2.1)) ∧
  ((D i).1 = 8 → i + 1 < ns → (D (i + 1)).1 = 48 ∧ (D (i + 1)).2.2.2.1 = (D i).2.2.2.1 ∧ (D (i + 1)).2.2.2.2.1 = (D i).2.2.2.2.1) ∧
  (¬ (D i).1 = 8 → i + 1 < ns → ¬ (D (i + 1)).1 = 48) ∧
  (((D i).1 = 48 ∨ (D i).1 = 49 → (D i).2.2.1 < 10) ∧ ((D i).1 = 48 → (D i).2.2.2.1 < 10 ∧ (D i).2.2.2.2.1 < 12 ∧ ∀ b l k, (D i).2.2.2.2.2 b l k → b < (D i).2.2.2.1 ∧ l < (D i).2.2.2.2.1) ∧ (i = 0 → ¬ (D i).1 = 48 ∧ ∀ b l k, ¬ (D i).2.2.2.2.2 b l k)) ∧
  (tga (D i).1 → ¬ opd op nb i → (D i).2.1 ≤ ns ∧ (∀ b l k, scx D ns nb ty kd (D i).2.1 b l k → (D i).2.2.2.2.2 b l k) ∧
    ((D i).2.1 < ns → (D (D i).2.1).1 = 48 → (D i).1 = 49 ∧ (D (D i).2.1).2.2.1 = (D i).2.2.1 ∧ (D i).2.2.2.2.2 (D (D i).2.1).2.2.2.1 (D (D i).2.1).2.2.2.2.1 (D ((D i).2.1 - 1)).2.2.1) ∧
    ((D i).2.1 < ns → (D (D i).2.1).1 = 49 → (D i).1 = 48 ∨ (D i).1 = 49 → (D (D i).2.1).2.2.1 < (D i).2.2.1) ∧
    ((D i).2.1 = ns → (D i).1 = 48 ∨ (D i).1 = 49 → nb ≤ (D i).2.2.1))
/-- of the open blocks: what their steps are -/
def OPB (D : Nat → xD) (nb ns : Nat) (ty op kd : Nat → Nat) : Prop := (∀ b, b < nb → op b < ns ∧ (D (op b)).1 = tya (ty b) ∧ (D (op b)).2.2.2.2.2 = scb3 b ty kd ∧ (ty b = 4 → (D (op b)).2.2.2.1 = b ∧ (D (op b)).2.2.2.2.1 = lvl ty b ∧ kd b = (D (op b - 1)).2.2.1) ∧ (ty b = 4 ∨ ty b = 2 → (D (op b)).2.2.1 = b) ∧ 1 ≤ ty b ∧ ty b ≤ 4) ∧ ∀ b c, b < nb → c < nb → op b = op c → b = c
def SI (Sc Sr : xS) (m : Nat) (s : Nat → Nat) (t nk nv : Nat) (wd : Nat → Nat) (nb ns : Nat) (ty op kd A : Nat → Nat) (D : Nat → xD) (np nu : Nat) : Prop :=
  r_P Sc Sr m s t nk nv wd ∧ r_bk Sc Sr nb ns ty op kd A nk ∧ Sc.1 97 4 = nn ns ∧ Sc.1 97 5 = nn np ∧ Sc.1 97 6 = nn nu ∧ Sr.1 503 25 = nn (A ns) ∧ Sc.1 405 5 = nn nb ∧ Sr.1 503 26 = nn nb ∧ Sr.1 503 28 = nn 0 ∧ ns ≤ t ∧ np ≤ t ∧ nu ≤ t ∧ A ns ≤ 12 * t ∧ A 0 = 0 ∧ (∀ i, i < ns → STP Sc Sr np nu nk nv wd A (opd op nb i) i (D i)) ∧ (∀ i, i < ns → FLW D ns nb ty op kd i) ∧ OPB D nb ns ty op kd ∧ ∀ i, i + 1 = ns → ¬ (D i).1 = 8
section SS
variable {Sc Sr Sc' Sr' : xS} {m t nk nv nb ns np nu np' nu' nk' nv' N : Nat} {s wd ty op kd A wd' A' : Nat → Nat} {D : Nat → xD} {o o' : Prop} {d : xD} {i : Nat}
theorem WHR_c {Z : Nat → Int32} {k : Nat} {sc : Nat → Nat → Prop} {w : Option (Nat × List xCe)} (h : WHR Sc Z np k sc w) (hc : ∀ k, k < np → Sc'.1 (103 + 2 * k) = Sc.1 (103 + 2 * k)) (hn : np ≤ np') : WHR Sc' Z np' k sc w := by
  cases w with
  | none => exact h
  | some z => exact ⟨h.1, EXC_c h.2 hc hn⟩
theorem PUT_c {rk0 wk us : Nat} {sc : Nat → Nat → Prop} {U : List xV} (h : PUT Sc np nu rk0 wk sc us U) (hc : ∀ k, k < np → Sc'.1 (103 + 2 * k) = Sc.1 (103 + 2 * k)) (hn : np ≤ np') (hu : ∀ k, k < nu → Sc'.1 100 k = Sc.1 100 k ∧ Sc'.1 101 k = Sc.1 101 k) (hu2 : nu ≤ nu') : PUT Sc' np' nu' rk0 wk sc us U := by
  obtain ⟨h1, h2, h3, h4⟩ := h
  exact ⟨by omega, h2, fun j hj => by rw [(hu _ (by omega)).1, (hu _ (by omega)).2]; exact h3 j hj, fun u hu => ⟨(h4 u hu).1, EXC_c (h4 u hu).2 hc hn⟩⟩
theorem STF_c {Z : Nat → Int32} {L : List Int32} (h : STF Sc Z np nu nk nv wd d L) (hc : ∀ k, k < np → Sc'.1 (103 + 2 * k) = Sc.1 (103 + 2 * k)) (hn : np ≤ np') (hu : ∀ k, k < nu → Sc'.1 100 k = Sc.1 100 k ∧ Sc'.1 101 k = Sc.1 101 k) (hu2 : nu ≤ nu') (hk : nk ≤ nk') (hv : nv ≤ nv') (hw : ∀ k, k < nk → wd' k = wd k) : STF Sc' Z np' nu' nk' nv' wd' d L := by
  unfold STF at h ⊢
  rcases h with h | ⟨a, k, us, U, h1, h2, h3, h4, h5, h6⟩ | ⟨a, k, w, h1, h2, h3, h4⟩ | ⟨a, k, w, us, U, h1, h2, h3, h4, h5, h6, h7⟩ | ⟨a, v, p, E, h1, h0, h2, h3, h4, h5⟩ | ⟨a, p, E, h1, h2, h3⟩ | ⟨a, k, f, w, h1, h2, h3, h4, h5, h6, h7⟩ | h | ⟨a, p, E, h1, h2, h3⟩ | h | ⟨a, k, h1, h2, h3, h4, h5⟩ | ⟨a, k, f, p, E, h1, h2, h3, h4, h5, h6, h7, h8, h9⟩
  · exact Or.inl h
  · exact Or.inr (Or.inl ⟨a, k, us, U, by omega, h2, h3, h4, by rw [hw k h1]; exact PUT_c h5 hc hn hu hu2, h6⟩)
  · exact Or.inr (Or.inr (Or.inl ⟨a, k, w, by omega, h2, WHR_c h3 hc hn, h4⟩))
  · exact Or.inr (Or.inr (Or.inr (Or.inl ⟨a, k, w, us, U, by omega, h2, WHR_c h3 hc hn, h4, h5, by rw [hw k h1]; exact PUT_c h6 hc hn hu hu2, h7⟩)))
  · exact Or.inr (Or.inr (Or.inr (Or.inr (Or.inl ⟨a, v, p, E, by omega, h0, h2, h3, EXC_c h4 hc hn, h5⟩))))
  · exact Or.inr (Or.inr (Or.inr (Or.inr (Or.inr (Or.inl ⟨a, p, E, h1, EXC_c h2 hc hn, h3⟩)))))
  · exact Or.inr (Or.inr (Or.inr (Or.inr (Or.inr (Or.inr (Or.inl ⟨a, k, f, w, by omega, h2, h3, h4, h5, WHR_c h6 hc hn, h7⟩))))))
  · exact Or.inr (Or.inr (Or.inr (Or.inr (Or.inr (Or.inr (Or.inr (Or.inl h)))))))
  · exact Or.inr (Or.inr (Or.inr (Or.inr (Or.inr (Or.inr (Or.inr (Or.inr (Or.inl ⟨a, p, E, h1, EXC_c h2 hc hn, h3⟩))))))))
  · exact Or.inr (Or.inr (Or.inr (Or.inr (Or.inr (Or.inr (Or.inr (Or.inr (Or.inr (Or.inl h)))))))))
  · exact Or.inr (Or.inr (Or.inr (Or.inr (Or.inr (Or.inr (Or.inr (Or.inr (Or.inr (Or.inr (Or.inl ⟨a, k, by omega, h2, h3, h4, h5⟩))))))))))
  · exact Or.inr (Or.inr (Or.inr (Or.inr (Or.inr (Or.inr (Or.inr (Or.inr (Or.inr (Or.inr (Or.inr ⟨a, k, f, p, E, by omega, by rw [hw k h1]; exact h2, h3, h4, h5, h6, h7, EXC_c h8 hc hn, h9⟩))))))))))
/-- a step stays what it is -/
theorem STP_c (h : STP Sc Sr np nu nk nv wd A o i d) (hZ : Sc'.1 (102 + 2 * i) = Sc.1 (102 + 2 * i)) (hp : ∀ k, k < np → Sc'.1 (103 + 2 * k) = Sc.1 (103 + 2 * k)) (hu : ∀ k, k < nu → Sc'.1 100 k = Sc.1 100 k ∧ Sc'.1 101 k = Sc.1 101 k) (hR : ∀ k, A i ≤ k → k < A (i + 1) → Sr'.1 518 k = Sr.1 518 k) (hn : np ≤ np') (hu2 : nu ≤ nu') (hk : nk ≤ nk') (hv : nv ≤ nv') (hw : ∀ k, k < nk → wd' k = wd k) (hA : A' i = A i) (hA2 : A' (i + 1) = A (i + 1)) (hA3 : tga d.1 → ¬ o → A' d.2.1 = A d.2.1) (ho : ¬ o' → ¬ o) : STP Sc' Sr' np' nu' nk' nv' wd' A' o' i d := by
  obtain ⟨h1, h2, ⟨L, h3, h4, h5, h6⟩, h7⟩ := h
  refine ⟨by rw [hZ]; exact h1, h2, ⟨L, ?_, ?_, by rw [hA, hA2]; exact h5, h6⟩, fun a b => ?_⟩
  · rw [hZ]
    exact STF_c h3 hp hn hu hu2 hk hv hw
  · rw [hA]
    exact seg_c h4 (fun k a b => hR k (by omega) (by omega))
  · obtain ⟨g1, g2⟩ := h7 a (ho b)
    rw [hZ, hA2, hA3 a (ho b), hR _ (by omega) (by omega)]
    exact ⟨g1, g2⟩
theorem STF_z {Z Z' : Nat → Int32} {L : List Int32} {j : Nat} (h : STF Sc Z np nu nk nv wd d L) (hz : ∀ q, q < 9 → Z' q = Z q) : STF Sc Z' np nu nk nv wd (d.1, j, d.2.2) L := by
  unfold STF WHR at h ⊢
  simp only [hz 1 (by omega), hz 2 (by omega), hz 3 (by omega), hz 4 (by omega), hz 5 (by omega), hz 6 (by omega), hz 7 (by omega), hz 8 (by omega)]
  exact h
/-- a step is told where it leads -/
theorem STP_o {j : Nat} (h : STP Sc Sr np nu nk nv wd A o i d) (ht : tga d.1) (hz : ∀ q, q < 9 → Sc'.1 (102 + 2 * i) q = Sc.1 (102 + 2 * i) q) (hz9 : Sc'.1 (102 + 2 * i) 9 = nn j) (hp : ∀ k, k < np → Sc'.1 (103 + 2 * k) = Sc.1 (103 + 2 * k)) (hu : ∀ k, k < nu → Sc'.1 100 k = Sc.1 100 k ∧ Sc'.1 101 k = Sc.1 101 k) (hR : ∀ k, A i ≤ k → k < A (i + 1) - 1 → Sr'.1 518 k = Sr.1 518 k) (hR2 : Sr'.1 518 (A (i + 1) - 1) = nn (A' j)) (hn : np ≤ np') (hu2 : nu ≤ nu') (hA : A' i = A i) (hA2 : A' (i + 1) = A (i + 1)) : STP Sc' Sr' np' nu' nk nv wd A' o' i (d.1, j, d.2.2) := by
  obtain ⟨h1, h2, ⟨L, h3, h4, h5, h6⟩, h7⟩ := h
  have e1 : tgl d.1 = 1 := tgl_1 ht
  refine ⟨by rw [hz 0 (by omega)]; exact h1, h2, ⟨L, ?_, ?_, by rw [hA, hA2]; exact h5, h6⟩, fun a b => ⟨hz9, by rw [hA2]; exact hR2⟩⟩
  · exact STF_z (STF_c h3 hp hn hu hu2 (Nat.le_refl _) (Nat.le_refl _) (fun _ _ => rfl)) hz
  · rw [hA]
    exact seg_c h4 (fun k a b => hR k (by omega) (by omega))
def SJ (Sc Sr : xS) (m : Nat) (s : Nat → Nat) (t nk nv : Nat) (wd : Nat → Nat) (nb ns : Nat) (ty op kd A : Nat → Nat) (D : Nat → xD) (np nu : Nat) : Prop :=
  r_P Sc Sr m s t nk nv wd ∧ r_bk Sc Sr nb ns ty op kd A nk ∧ Sc.1 97 4 = nn ns ∧ Sc.1 97 5 = nn np ∧ Sc.1 97 6 = nn nu ∧ Sr.1 503 25 = nn (A ns) ∧ Sc.1 405 5 = nn nb ∧ Sr.1 503 26 = nn nb ∧ Sr.1 503 28 = nn 0 ∧ ns ≤ t ∧ np ≤ t ∧ nu ≤ t ∧ A ns ≤ 12 * t ∧ A 0 = 0 ∧ (∀ i, i < ns → STP Sc Sr np nu nk nv wd A (opd op nb i) i (D i)) ∧ (∀ i, i < ns → FLW D ns nb ty op kd i) ∧ OPB D nb ns ty op kd
theorem SI_J (h : SI Sc Sr m s t nk nv wd nb ns ty op kd A D np nu) : SJ Sc Sr m s t nk nv wd nb ns ty op kd A D np nu := by
  obtain ⟨h1, h2, h3, h4, h5, h6, h7, h8, h9, h10, h11, h12, h13, h14, h15, h16, h17, h18⟩ := h
  exact ⟨h1, h2, h3, h4, h5, h6, h7, h8, h9, h10, h11, h12, h13, h14, h15, h16, h17⟩
theorem SJ_I (h : SJ Sc Sr m s t nk nv wd nb ns ty op kd A D np nu) (hl : ∀ i, i + 1 = ns → ¬ (D i).1 = 8) : SI Sc Sr m s t nk nv wd nb ns ty op kd A D np nu := by
  obtain ⟨h1, h2, h3, h4, h5, h6, h7, h8, h9, h10, h11, h12, h13, h14, h15, h16, h17⟩ := h
  exact ⟨h1, h2, h3, h4, h5, h6, h7, h8, h9, h10, h11, h12, h13, h14, h15, h16, h17, hl⟩
end SS
