/-! 79: what holds at a step -/
def scj (D : Nat → xD) (ns j : Nat) : Nat → Nat → Nat → Prop := scx D ns 0 (fun _ => 0) (fun _ => 0) j
def NXT (Sc Sr : xS) (ow : Nat → Nat) (sn : Nat) (D : Nat → xD) (ns j : Nat) : Prop := j < ns → (D j).1 = 48 → (D j).2.2.2.1 < 10 ∧ (D j).2.2.2.2.1 < 12 ∧ CBG Sc Sr ow sn (D j).2.2.2.1 (D j).2.2.2.2.1 (D (j - 1)).2.2.1
/-- the width of each field -/
def KDS (Sc Sr : xS) (nk : Nat) (wd : Nat → Nat) : Prop := ∀ k, k < nk → wd k ≤ 6 ∧ ∀ f, f < wd k → ∃ b, 1 ≤ b ∧ b ≤ 32 ∧ Sc.1 (20 + (k + 1)) f = ((ll (2 ^ b - 1)).toInt32) ∧ Sr.1 508 (6 * k + f) = nn b
section AT
variable (N ns np nu nk nv fu B : Nat) (wd A : Nat → Nat) (D : Nat → xD)
/-- all that holds before step i, when sp is spent -/
def LQ (i sp : Nat) (Sc Sr : xS) : Prop := ∃ ow sn ou, PRG Sc Sr ns np nu nk nv wd A D ∧ KDS Sc Sr nk wd ∧ RT Sc Sr ow nk wd sn nv (scj D ns i) ∧ NXT Sc Sr ow sn D ns i ∧ RM Sc Sr fu sp ou ∧ sn + (fu - sp) ≤ B ∧ ou + (fu - sp) ≤ B
/-- and when a run has ended -/
def END (Sc Sr : xS) : Prop := ∃ ow sn ou sp, PRG Sc Sr ns np nu nk nv wd A D ∧ KDS Sc Sr nk wd ∧ RT Sc Sr ow nk wd sn nv (fun _ _ _ => False) ∧ RM Sc Sr fu sp ou ∧ sn ≤ B ∧ ou ≤ B
/-- one turn: both stop alike, or go on alike -/
def OUT (t C : Nat) (P : Nat → Nat → Prop) (g r : Nat → Option xr) : Prop :=
  (∃ v Sc' Sr', (∀ n, g n = some (rI v Sc')) ∧ (∃ c, c ≤ C ∧ ∀ n, r (n + c) = some (rI v Sr')) ∧ END ns np nu nk nv fu B wd A D Sc' Sr') ∨
  (∃ j sp' Sc' Sr', j ≤ ns ∧ (∀ n, g n = f_X2_goThrough_14 N n (nn j) (nn (t + 1)) Sc') ∧ (∃ c, c ≤ C ∧ ∀ n, r (n + c) = f_X12_run_58 N n (nn (A j)) Sr') ∧ LQ ns np nu nk nv fu B wd A D j sp' Sc' Sr' ∧ P j sp')
/-- after a step is paid for -/
def PS (i sp : Nat) (ow : Nat → Nat) (sn ou : Nat) (Sc Sr : xS) : Prop := PRG Sc Sr ns np nu nk nv wd A D ∧ KDS Sc Sr nk wd ∧ RT Sc Sr ow nk wd sn nv (D i).2.2.2.2.2 ∧ RM Sc Sr fu sp ou ∧ sn + (fu - sp) + 1 ≤ B ∧ ou + (fu - sp) + 1 ≤ B
end AT
section AU
variable {N n t i C c sp ns np nu nk nv fu B sn ou : Nat} {wd A ow : Nat → Nat} {D : Nat → xD} {Sc Sr Sc' Sr' : xS} {g r g' r' : Nat → Option xr} {P : Nat → Nat → Prop}
theorem scj_lt (h : i < ns) : scj D ns i = (D i).2.2.2.2.2 := if_pos h
theorem RT_0 {sc : Nat → Nat → Nat → Prop} (h : RT Sc Sr ow nk wd sn nv sc) : RT Sc Sr ow nk wd sn nv (fun _ _ _ => False) := RT_m h (fun _ _ _ z => z.elim)
theorem LQ_E (h : LQ ns np nu nk nv fu B wd A D i sp Sc Sr) : END ns np nu nk nv fu B wd A D Sc Sr := by
  obtain ⟨ow, sn, ou, h1, h2, h3, h4, h5, h6, h7⟩ := h
  exact ⟨ow, sn, ou, sp, h1, h2, RT_0 h3, h5, by omega, by omega⟩
theorem PS_E (h : PS ns np nu nk nv fu B wd A D i sp ow sn ou Sc Sr) : END ns np nu nk nv fu B wd A D Sc Sr := by
  obtain ⟨h1, h2, h3, h5, h6, h7⟩ := h
  exact ⟨ow, sn, ou, sp, h1, h2, RT_0 h3, h5, by omega, by omega⟩
/-- on to the next step -/
theorem LQ_next (hi : i < ns) (a8 : ¬ (D i).1 = 8) (a48 : ¬ (D i).1 = 48) (a49 : ¬ (D i).1 = 49) (h1 : PRG Sc Sr ns np nu nk nv wd A D) (h2 : KDS Sc Sr nk wd) (h3 : RT Sc Sr ow nk wd sn nv (D i).2.2.2.2.2) (h4 : RM Sc Sr fu sp ou) (h5 : sn + (fu - sp) ≤ B) (h6 : ou + (fu - sp) ≤ B) : LQ ns np nu nk nv fu B wd A D (i + 1) sp Sc Sr := by
  obtain ⟨f1, f2, f3, f4, f5⟩ := h1.2.2.2.2.2.2.2.2.2.1 i hi
  refine ⟨ow, sn, ou, h1, h2, RT_m h3 (fun b d κ z => ?_), fun z1 z2 => absurd z2 (f3 a8 z1), h4, h5, h6⟩
  rcases f1 a49 b d κ z with q | q
  · exact q
  · exact absurd q.1 a48
theorem opd_0 {op : Nat → Nat} {i : Nat} : ¬ opd op 0 i := fun ⟨b, hb, _⟩ => by omega
/-- on to where it leads -/
theorem LQ_aim (hi : i < ns) (ht : tga (D i).1) (h1 : PRG Sc Sr ns np nu nk nv wd A D) (h2 : KDS Sc Sr nk wd) (h3 : RT Sc Sr ow nk wd sn nv (D i).2.2.2.2.2) (h4 : RM Sc Sr fu sp ou) (h5 : sn + (fu - sp) ≤ B) (h6 : ou + (fu - sp) ≤ B) : (D i).2.1 ≤ ns ∧ LQ ns np nu nk nv fu B wd A D (D i).2.1 sp Sc Sr := by
  obtain ⟨f1, f2, f3, f4, f5⟩ := h1.2.2.2.2.2.2.2.2.2.1 i hi
  obtain ⟨g1, g2, g3, g4, g5⟩ := f5 ht opd_0
  refine ⟨g1, ow, sn, ou, h1, h2, RT_m h3 g2, fun z1 z2 => ?_, h4, h5, h6⟩
  obtain ⟨q1, q2, q3⟩ := g3 z1 z2
  obtain ⟨w1, w2, w3⟩ := h3.2.2 _ _ _ q3
  exact ⟨w1, w2, CST_B w3⟩
theorem OUT_g (h : OUT N ns np nu nk nv fu B wd A D t C P g r) (hg : ∀ n, g' n = g n) (hr : ∀ n, r' (n + c) = r n) : OUT N ns np nu nk nv fu B wd A D t (C + c) P g' r' := by
  rcases h with ⟨v, S1, S2, h1, ⟨d, h2, h3⟩, h4⟩ | ⟨j, q, S1, S2, h0, h1, ⟨d, h2, h3⟩, h4⟩
  · exact Or.inl ⟨v, S1, S2, fun n => (hg n).trans (h1 n), ⟨d + c, by omega, fun n => by rw [← Nat.add_assoc, hr, h3]⟩, h4⟩
  · exact Or.inr ⟨j, q, S1, S2, h0, fun n => (hg n).trans (h1 n), ⟨d + c, by omega, fun n => by rw [← Nat.add_assoc, hr, h3]⟩, h4⟩
theorem OUT_m {C' : Nat} {P' : Nat → Nat → Prop} (h : OUT N ns np nu nk nv fu B wd A D t C P g r) (hC : C ≤ C') (hP : ∀ j q, P j q → P' j q) : OUT N ns np nu nk nv fu B wd A D t C' P' g r := by
  rcases h with ⟨v, S1, S2, h1, ⟨d, h2, h3⟩, h4⟩ | ⟨j, q, S1, S2, h0, h1, ⟨d, h2, h3⟩, h4, h5⟩
  · exact Or.inl ⟨v, S1, S2, h1, ⟨d, by omega, h3⟩, h4⟩
  · exact Or.inr ⟨j, q, S1, S2, h0, h1, ⟨d, by omega, h3⟩, h4, hP j q h5⟩
/-- the class's side of a step that only does something -/
theorem g_act {c : Nat} {S S1 : xS} {x2 : Int32} (hi : i < 151) (h0 : S.1 (102 + 2 * i) 0 = nn c) (hc : c < 200) (c2 : ¬ c = 2) (c10 : ¬ c = 10) (c12 : ¬ c = 12) (c48 : ¬ c = 48) (c49 : ¬ c = 49) (ha : f_X2_act N (102 + 2 * i) S = some (rV S1)) : f_X2_goThrough_74 N (f_X2_goThrough_14 N n) x2 (nn t) (102 + 2 * i) S = f_X2_goThrough_14 N n x2 (nn (t + 1)) S1 := by
  rw [g_disp hi h0 hc, if_neg c2, if_neg (by omega), if_neg c48, if_neg c49, xcV_of ha]
  unfold f_X2_goThrough_212
  rw [nn_addl]
/-- the next step is reached -/
theorem OUT_n (hi : i < ns) (a8 : ¬ (D i).1 = 8) (a48 : ¬ (D i).1 = 48) (a49 : ¬ (D i).1 = 49) (hg : ∀ n, g n = f_X2_goThrough_14 N n (nn (i + 1)) (nn (t + 1)) Sc) (hr : ∃ c, c ≤ C ∧ ∀ n, r (n + c) = f_X12_run_58 N n (nn (A (i + 1))) Sr) (h1 : PRG Sc Sr ns np nu nk nv wd A D) (h2 : KDS Sc Sr nk wd) (h3 : RT Sc Sr ow nk wd sn nv (D i).2.2.2.2.2) (h4 : RM Sc Sr fu sp ou) (h5 : sn + (fu - sp) ≤ B) (h6 : ou + (fu - sp) ≤ B) : OUT N ns np nu nk nv fu B wd A D t C (fun _ q => q = sp) g r :=
  Or.inr ⟨i + 1, sp, Sc, Sr, hi, hg, hr, LQ_next hi a8 a48 a49 h1 h2 h3 h4 h5 h6, rfl⟩
theorem KDS_x (h : KDS Sc Sr nk wd) (h7 : nk ≤ 7) (h1 : ∀ q, 21 ≤ q → q ≤ 27 → Sc'.1 q = Sc.1 q) (h2 : Sr'.1 508 = Sr.1 508) : KDS Sc' Sr' nk wd := by
  intro k hk
  obtain ⟨a1, a2⟩ := h k hk
  refine ⟨a1, fun f hf => ?_⟩
  obtain ⟨b, b1, b2, b3, b4⟩ := a2 f hf
  exact ⟨b, b1, b2, by rw [h1 _ (by omega) (by omega)]; exact b3, by rw [h2]; exact b4⟩
end AU
