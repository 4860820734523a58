/-! 76: what stands at run time -/
/-- the words: ow v is the kind of word v, 0 when it is free -/
def DBR (Sc Sr : xS) (ow : Nat → Nat) (nk : Nat) (wd : Nat → Nat) (sn : Nat) : Prop := (∀ v, v < 64 → ow v ≤ nk ∧ Sr.1 511 v = nn (ow v)) ∧ (∀ v, v < 64 → ∀ k, 1 ≤ k → k ≤ 7 → bt (Sc.2.1 30 k) v = decide (ow v = k)) ∧ (∀ v, v < 64 → ¬ ow v = 0 → (∀ f, f < 6 → Sc.1 (32 + v) f = Sr.1 512 (6 * v + f)) ∧ (∀ f, f < 6 → wd (ow v - 1) ≤ f → Sr.1 512 (6 * v + f) = 0) ∧ ∃ u, 1 ≤ u ∧ u ≤ sn ∧ Sc.1 96 v = nn u ∧ Sr.1 513 v = nn u) ∧ (∀ v, v < 64 → ow v = 0 → Sc.1 96 v = 0) ∧ Sc.1 29 3 = nn sn ∧ Sr.1 503 14 = nn sn ∧ nk ≤ 7 ∧ sn < 2000000000
/-- the rows of a cursor -/
def CRW (Sc Sr : xS) (ow : Nat → Nat) (sn b d κ sz : Nat) : Prop := sz ≤ 64 ∧ Sc.1 501 b = nn sz ∧ Sr.1 528 d = nn sz ∧ ∀ j, j < sz → ∃ w u, w < 64 ∧ 1 ≤ u ∧ u ≤ sn ∧ Sc.1 (480 + b) j = nn w ∧ Sr.1 526 (64 * d + j) = nn w ∧ Sc.1 (491 + b) j = nn u ∧ Sr.1 527 (64 * d + j) = nn u ∧ (Sc.1 96 w = nn u → ow w = κ + 1)
/-- it stands at a record, or stood there -/
def CST (Sc Sr : xS) (ow : Nat → Nat) (sn b d κ : Nat) : Prop := ∃ k sz, k < sz ∧ Sc.1 502 b = nn k ∧ Sr.1 529 d = nn k ∧ CRW Sc Sr ow sn b d κ sz
def CBG (Sc Sr : xS) (ow : Nat → Nat) (sn b d κ : Nat) : Prop := ∃ a sz, a ≤ sz ∧ Sc.1 502 b = nn a - 1 ∧ Sr.1 529 d = nn a - 1 ∧ CRW Sc Sr ow sn b d κ sz
theorem CST_B {Sc Sr : xS} {ow : Nat → Nat} {sn b d κ : Nat} (h : CST Sc Sr ow sn b d κ) : CBG Sc Sr ow sn b d κ := by
  obtain ⟨k, sz, h1, h2, h3, h4⟩ := h
  exact ⟨k + 1, sz, h1, by rw [nn_s1]; exact h2, by rw [nn_s1]; exact h3, h4⟩
def RT (Sc Sr : xS) (ow : Nat → Nat) (nk : Nat) (wd : Nat → Nat) (sn nv : Nat) (sc : Nat → Nat → Nat → Prop) : Prop := DBR Sc Sr ow nk wd sn ∧ (∀ v, v < 20 → Sc.1 410 v = Sr.1 510 v ∧ (nv ≤ v → Sr.1 510 v = 0)) ∧ ∀ b d κ, sc b d κ → b < 10 ∧ d < 12 ∧ CST Sc Sr ow sn b d κ
def cvC (Sc : xS) (b f : Nat) : Int32 := if Sc.1 96 (Sc.1 (480 + b) (Sc.1 502 b).toNatClampNeg).toNatClampNeg = Sc.1 (491 + b) (Sc.1 502 b).toNatClampNeg then Sc.1 (32 + (Sc.1 (480 + b) (Sc.1 502 b).toNatClampNeg).toNatClampNeg) f else 0
section RTS
variable {N : Nat} {Sc Sr Sc' Sr' : xS} {ow : Nat → Nat} {nk sn nv : Nat} {wd : Nat → Nat} {sc sc' : Nat → Nat → Nat → Prop}
theorem RT_c (h : RT Sc Sr ow nk wd sn nv sc) : ENC Sc ow (Sc.1 410) (fun v f => Sc.1 (32 + v) f) (cvC Sc) (sc2 sc) := by
  obtain ⟨⟨d1, d2, d3, d4, d5, d6, d7, d8⟩, h2, h3⟩ := h
  refine ⟨d2, ⟨fun v _ => rfl, fun z => z.elim, fun b d z => ?_⟩, fun v _ f _ => rfl⟩
  obtain ⟨κ, hz⟩ := z
  obtain ⟨a1, a2, k, sz, a3, a4, a5, a6, a7, a8, a9⟩ := h3 b d κ hz
  obtain ⟨w, u, b1, b2, b3, b4, b5, b6, b7, b8⟩ := a9 k a3
  refine ⟨a1, k, w, by omega, b1, a4, b4, fun f hf => ?_⟩
  unfold cvC
  rw [a4, nn_t (by omega), b4, nn_t (by omega)]
theorem RT_r (h : RT Sc Sr ow nk wd sn nv sc) : ENR Sr ow (Sc.1 410) (fun v f => Sc.1 (32 + v) f) (cvC Sc) (sc2 sc) := by
  obtain ⟨⟨d1, d2, d3, d4, d5, d6, d7, d8⟩, h2, h3⟩ := h
  refine ⟨fun v hv => ⟨by have := (d1 v hv).1; omega, (d1 v hv).2⟩, ⟨fun v hv => (h2 v hv).1.symm, fun z => z.elim, fun b d z => ?_⟩, fun v hv h0 f hf => ((d3 v hv h0).1 f hf).symm⟩
  obtain ⟨κ, hz⟩ := z
  obtain ⟨a1, a2, k, sz, a3, a4, a5, a6, a7, a8, a9⟩ := h3 b d κ hz
  obtain ⟨w, u, b1, b2, b3, b4, b5, b6, b7, b8⟩ := a9 k a3
  refine ⟨a2, k, w, by omega, b1, a5, b5, fun f hf => ?_⟩
  unfold cvC
  rw [a4, nn_t (by omega), b4, nn_t (by omega), b6, b7, (d1 w b1).2]
  have hn := (d1 w b1).1
  by_cases q : ow w = 0
  · rw [d4 w b1 q, if_neg (by
      intro z
      have := (nn_eq (a := 0) (by omega) (by omega)).mp z
      omega), if_pos (by rw [q]; rfl)]
  · obtain ⟨e1, _, u2, e2, e3, e4, e5⟩ := d3 w b1 q
    rw [if_neg (show ¬ nn (ow w) = 0 by simp (disch := omega) only [nn_add, nn_addl, l_add_nn, nn_sub, nn_subl, nn_m1, nn_mull, nn_t, nn_i, l_t, nn_lt, nn_le, nn_eq, nn_ltl, l_lt_nn, nn_lel, l_le_nn, nn_eql, l_eql, nn_nm1, xin_nn, xin_l, m1_lt, m1_le, m1_p, m1_z, dlt_T, dlt_F, dle_T, dle_F, deq_T, deq_F, sI_c, sI_n, sI_J, sI_E, sJ_c, sJ_n, sJ_I, sJ_E, sE_I, sE_J, sE_E, xcI_i, xcJ_i, xcR_i, xcV_i, xcI_e, xcJ_e, xcR_e, xcV_e, if_true, if_false, ite_true, ite_false, true_and, and_true, false_and, and_false, or_true, true_or, or_false, false_or, not_true_eq_false, not_false_eq_true, eq_self, ne_eq, ↓reduceIte, Nat.reduceEqDiff, Nat.reduceLT, Nat.reduceLeDiff, Nat.reduceAdd, Nat.reduceMul, Nat.reduceSub, Int32.reduceLT, Int32.reduceLE, reduceCtorEq]), e4, e5, e1 f hf]
/-- the program, as it is run -/
def PRG (Sc Sr : xS) (ns np nu nk nv : Nat) (wd A : Nat → Nat) (D : Nat → xD) : Prop := ns ≤ 150 ∧ np ≤ 151 ∧ nu ≤ 150 ∧ Sc.1 97 4 = nn ns ∧ Sc.1 97 5 = nn np ∧ Sr.1 503 25 = nn (A ns) ∧ A ns ≤ 1800 ∧ A 0 = 0 ∧ (∀ i, i < ns → STP Sc Sr np nu nk nv wd A False i (D i)) ∧ (∀ i, i < ns → FLW D ns 0 (fun _ => 0) (fun _ => 0) (fun _ => 0) i) ∧ ∀ i, i + 1 = ns → ¬ (D i).1 = 8
/-- what a run may not touch of the program -/
def kpg (Sc Sc' : xS) : Prop := (∀ q j, (q = 97 ∨ q = 100 ∨ q = 101 ∨ (102 ≤ q ∧ q ≤ 404)) → ¬ (j = 1 ∧ agp Sc q) → Sc'.1 q j = Sc.1 q j)
theorem kpg_it (h : kpg Sc Sc') {p : Nat} (hp : p < 151) {i : xIt} (hi : itp (Sc.1 (103 + 2 * p)) p i) : itp (Sc'.1 (103 + 2 * p)) p i := by
  have e : ∀ j, ¬ j = 1 → Sc'.1 (103 + 2 * p) j = Sc.1 (103 + 2 * p) j := fun j hj => h _ j (by omega) (fun z => hj z.1)
  have e1 : ∀ a, Sc.1 (103 + 2 * p) 0 = nn a → 40 < a → a < 100 → Sc'.1 (103 + 2 * p) 1 = Sc.1 (103 + 2 * p) 1 := fun a ha h4 h5 => h _ 1 (by omega) (fun z => by
    obtain ⟨_, _, _, _, b, b1, b2, b3⟩ := z
    rw [ha] at b3
    have := (nn_eq (by omega) (by omega)).mp b3
    omega)
  unfold itp at hi ⊢
  rw [e 0 (by decide), e 2 (by decide), e 3 (by decide), e 4 (by decide), e 5 (by decide), e 6 (by decide)]
  by_cases c1 : i.1 = 1
  · rw [if_pos c1] at hi ⊢
    rw [e1 41 hi.1 (by decide) (by decide)]
    exact hi
  · rw [if_neg c1] at hi ⊢
    by_cases c2 : i.1 = 2
    · rw [if_pos c2] at hi ⊢
      rw [e1 45 hi.1 (by decide) (by decide)]
      exact hi
    · rw [if_neg c2] at hi ⊢
      exact hi
theorem EXC_g {np rk0 p : Nat} {s : Nat → Nat → Prop} {E : List xCe} (h : EXC Sc np rk0 s p E) (hk : kpg Sc Sc') (hnp : np ≤ 151) : EXC Sc' np rk0 s p E := by
  obtain ⟨h1, h2, h3, h4, h5⟩ := h
  refine ⟨fun j hj => kpg_it hk (by omega) (h1 j hj), ?_, h3, h4, h5⟩
  rw [hk _ 0 (by omega) (by omega)]
  exact h2
theorem PRG_g {ns np nu nk : Nat} {wd A : Nat → Nat} {D : Nat → xD} (h : PRG Sc Sr ns np nu nk nv wd A D) (hk : kpg Sc Sc') (hr : Sr'.1 518 = Sr.1 518) (hr2 : Sr'.1 503 25 = Sr.1 503 25) : PRG Sc' Sr' ns np nu nk nv wd A D := by
  obtain ⟨h1, h2, h3, h4, h5, h6, h7, h8, h9, h10, h11⟩ := h
  refine ⟨h1, h2, h3, by rw [hk 97 4 (by omega) (by omega)]; exact h4, by rw [hk 97 5 (by omega) (by omega)]; exact h5, by rw [hr2]; exact h6, h7, h8, fun i hi => ?_, h10, h11⟩
  obtain ⟨s1, s2, ⟨L, s3, s4, s5, s6⟩, s7⟩ := h9 i hi
  have ez : Sc'.1 (102 + 2 * i) = Sc.1 (102 + 2 * i) := funext fun j => hk _ j (by omega) (fun z => by
    obtain ⟨_, _, _, z3, _⟩ := z
    omega)
  have eu : ∀ k, k < nu → Sc'.1 100 k = Sc.1 100 k ∧ Sc'.1 101 k = Sc.1 101 k := fun k _ => ⟨hk 100 k (by omega) (fun z => by obtain ⟨_, z1, _⟩ := z; omega), hk 101 k (by omega) (fun z => by obtain ⟨_, z1, _⟩ := z; omega)⟩
  have eW : ∀ (Z : Nat → Int32) (k : Nat) (s : Nat → Nat → Prop) (w : Option (Nat × List xCe)), WHR Sc Z np k s w → WHR Sc' Z np k s w := fun Z k s w hw => by
    cases w with
    | none => exact hw
    | some z => exact ⟨hw.1, EXC_g hw.2 hk h2⟩
  have eP : ∀ (rk0 wk : Nat) (s : Nat → Nat → Prop) (us : Nat) (U : List xV), PUT Sc np nu rk0 wk s us U → PUT Sc' np nu rk0 wk s us U := fun rk0 wk s us U hp => by
    obtain ⟨p1, p2, p3, p4⟩ := hp
    exact ⟨p1, p2, fun j hj => by rw [(eu _ (by omega)).1, (eu _ (by omega)).2]; exact p3 j hj, fun u hu => ⟨(p4 u hu).1, EXC_g (p4 u hu).2 hk h2⟩⟩
  refine ⟨by rw [ez]; exact s1, s2, ⟨L, ?_, by rw [hr]; exact s4, s5, s6⟩, by rw [ez, hr]; exact s7⟩
  rw [ez]
  unfold STF at s3 ⊢
  rcases s3 with t | ⟨a, k, us, U, t1, t2, t3, t4, t5, t6⟩ | ⟨a, k, w, t1, t2, t3, t4⟩ | ⟨a, k, w, us, U, t1, t2, t3, t4, t5, t6, t7⟩ | ⟨a, v, p, E, t1, t0, t2, t3, t4, t5⟩ | ⟨a, p, E, t1, t2, t3⟩ | ⟨a, k, f, w, t1, t2, t3, t4, t5, t6, t7⟩ | t | ⟨a, p, E, t1, t2, t3⟩ | t | ⟨a, k, t1, t2, t3, t4, t5⟩ | ⟨a, k, f, p, E, t1, t2, t3, t4, t5, t6, t7, t8, t9⟩
  · exact Or.inl t
  · exact Or.inr (Or.inl ⟨a, k, us, U, t1, t2, t3, t4, eP _ _ _ _ _ t5, t6⟩)
  · exact Or.inr (Or.inr (Or.inl ⟨a, k, w, t1, t2, eW _ _ _ _ t3, t4⟩))
  · exact Or.inr (Or.inr (Or.inr (Or.inl ⟨a, k, w, us, U, t1, t2, eW _ _ _ _ t3, t4, t5, eP _ _ _ _ _ t6, t7⟩)))
  · exact Or.inr (Or.inr (Or.inr (Or.inr (Or.inl ⟨a, v, p, E, t1, t0, t2, t3, EXC_g t4 hk h2, t5⟩))))
  · exact Or.inr (Or.inr (Or.inr (Or.inr (Or.inr (Or.inl ⟨a, p, E, t1, EXC_g t2 hk h2, t3⟩)))))
  · exact Or.inr (Or.inr (Or.inr (Or.inr (Or.inr (Or.inr (Or.inl ⟨a, k, f, w, t1, t2, t3, t4, t5, eW _ _ _ _ t6, t7⟩))))))
  · exact Or.inr (Or.inr (Or.inr (Or.inr (Or.inr (Or.inr (Or.inr (Or.inl t)))))))
  · exact Or.inr (Or.inr (Or.inr (Or.inr (Or.inr (Or.inr (Or.inr (Or.inr (Or.inl ⟨a, p, E, t1, EXC_g t2 hk h2, t3⟩))))))))
  · exact Or.inr (Or.inr (Or.inr (Or.inr (Or.inr (Or.inr (Or.inr (Or.inr (Or.inr (Or.inl t)))))))))
  · exact Or.inr (Or.inr (Or.inr (Or.inr (Or.inr (Or.inr (Or.inr (Or.inr (Or.inr (Or.inr (Or.inl ⟨a, k, t1, t2, t3, t4, t5⟩))))))))))
  · exact Or.inr (Or.inr (Or.inr (Or.inr (Or.inr (Or.inr (Or.inr (Or.inr (Or.inr (Or.inr (Or.inr ⟨a, k, f, p, E, t1, t2, t3, t4, t5, t6, t7, EXC_g t8 hk h2, t9⟩))))))))))
end RTS
