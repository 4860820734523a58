/-! 37: the state of the reading of an expression -/
abbrev xCe : Type := xIt × List xIt
def dpx : Nat → List Nat → Option Nat
  | d, [] => some d
  | d, g :: r => if g = 5 ∨ g = 6 then (if 1 ≤ d then dpx d r else none) else if 10 ≤ g ∧ g ≤ 22 then (if 2 ≤ d then dpx (d - 1) r else none) else dpx (d + 1) r
theorem dpx_c (d g : Nat) (r : List Nat) : dpx d (g :: r) = if g = 5 ∨ g = 6 then (if 1 ≤ d then dpx d r else none) else if 10 ≤ g ∧ g ≤ 22 then (if 2 ≤ d then dpx (d - 1) r else none) else dpx (d + 1) r := rfl
theorem dpx_app : ∀ (L M : List Nat) (d : Nat), dpx d (L ++ M) = (dpx d L).bind (fun e => dpx e M) := by
  intro L
  induction L with
  | nil => intro M d; rfl
  | cons g r ih =>
    intro M d
    rw [List.cons_append, dpx_c, dpx_c]
    by_cases h1 : g = 5 ∨ g = 6
    · rw [if_pos h1, if_pos h1]
      by_cases h2 : 1 ≤ d
      · rw [if_pos h2, if_pos h2]; exact ih M d
      · rw [if_neg h2, if_neg h2]; rfl
    · rw [if_neg h1, if_neg h1]
      by_cases h2 : 10 ≤ g ∧ g ≤ 22
      · rw [if_pos h2, if_pos h2]
        by_cases h3 : 2 ≤ d
        · rw [if_pos h3, if_pos h3]; exact ih M (d - 1)
        · rw [if_neg h3, if_neg h3]; rfl
      · rw [if_neg h2, if_neg h2]; exact ih M (d + 1)
def tgs (E : List xCe) : List Nat := E.map (fun e => e.1.1)
def tg2 (c : List xIt) : List Nat := c.map (fun i => i.1)
theorem dpx_push {d e g : Nat} {L : List Nat} (h : dpx d L = some e) (hg : ¬ (g = 5 ∨ g = 6)) (hg2 : ¬ (10 ≤ g ∧ g ≤ 22)) : dpx d (L ++ [g]) = some (e + 1) := by
  rw [dpx_app, h]
  show dpx e [g] = _
  rw [dpx_c, if_neg hg, if_neg hg2]
  rfl
theorem dpx_un {d e g : Nat} {L : List Nat} (h : dpx d L = some e) (hg : g = 5 ∨ g = 6) (he : 1 ≤ e) : dpx d (L ++ [g]) = some e := by
  rw [dpx_app, h]
  show dpx e [g] = _
  rw [dpx_c, if_pos hg, if_pos he]
  rfl
theorem dpx_bi {d e g : Nat} {L : List Nat} (h : dpx d L = some e) (hg2 : 10 ≤ g ∧ g ≤ 22) (he : 2 ≤ e) : dpx d (L ++ [g]) = some (e - 1) := by
  rw [dpx_app, h]
  show dpx e [g] = _
  rw [dpx_c, if_neg (by omega), if_pos hg2, if_pos he]
  rfl
def iok (rc : Prop) (sc : Nat → Nat → Prop) (i : xIt) : Prop := i.1 = 1 ∨ (i.1 = 2 ∧ i.2.2.1 < 20) ∨ (i.1 = 3 ∧ rc ∧ i.2.2.2.1 < 6) ∨ (i.1 = 4 ∧ sc i.2.2.1 i.2.2.2.2 ∧ i.2.2.2.1 < 6) ∨ i.1 = 5 ∨ i.1 = 6 ∨ (10 ≤ i.1 ∧ i.1 ≤ 22)
def gok (i : xIt) : Prop := i.2.2.1 < 7 ∧ i.2.2.2.1 < 6 ∧ ∃ a, a ≤ 3 ∧ i.2.1 = nn a
def cok (rc : Prop) (sc : Nat → Nat → Prop) (e : xCe) : Prop := (iok rc sc e.1 ∧ e.2 = []) ∨ (¬ rc ∧ e.1.1 = 32 ∧ gok e.1 ∧ e.2 = []) ∨ (¬ rc ∧ e.1.1 = 30 ∧ gok e.1 ∧ e.1.2.2.2.2 = e.2.length ∧ (∀ i ∈ e.2, iok True sc i) ∧ dpx 0 (tg2 e.2) = some 1)
abbrev itE : xIt := (31, 0, 0, 0, 0)
def fle (e : xCe) : List xIt := if e.1.1 = 30 then e.1 :: (e.2 ++ [itE]) else [e.1]
def fl (E : List xCe) : List xIt := E.flatMap fle
theorem fl_app (E F : List xCe) : fl (E ++ F) = fl E ++ fl F := by unfold fl; exact List.flatMap_append
theorem fl_1 (e : xCe) : fl [e] = fle e := by unfold fl; simp
def flo (E : List xCe) (og : Option (xIt × List xIt)) : List xIt := match og with
  | none => fl E
  | some z => fl E ++ z.1 :: z.2
/-- one more simple item -/
def snE (E : List xCe) (og : Option (xIt × List xIt)) (i : xIt) : List xCe × Option (xIt × List xIt) := match og with
  | none => (E ++ [(i, [])], none)
  | some z => (E, some (z.1, z.2 ++ [i]))
theorem flo_sn {E : List xCe} {og : Option (xIt × List xIt)} {i : xIt} (hi : ¬ i.1 = 30) : flo (snE E og i).1 (snE E og i).2 = flo E og ++ [i] := by
  cases og with
  | none =>
    show fl (E ++ [(i, [])]) = fl E ++ [i]
    rw [fl_app, fl_1]
    unfold fle
    rw [if_neg hi]
  | some z =>
    show fl E ++ z.1 :: (z.2 ++ [i]) = (fl E ++ z.1 :: z.2) ++ [i]
    simp
def cb (w : Nat → Nat) : Nat → Nat
  | 0 => 0
  | n + 1 => cb w n + if isb (w n) then 1 else 0
def bc (w : Nat → Nat) : Nat → Nat
  | 0 => 0
  | n + 1 => bc w n + if w n = 29 ∨ w n = 4 then 1 else 0
theorem cb_c {w v : Nat → Nat} : ∀ n, (∀ i, i < n → v i = w i) → cb v n = cb w n := by
  intro n
  induction n with
  | zero => intro _; rfl
  | succ n ih =>
    intro h
    unfold cb
    rw [ih (fun i hi => h i (by omega)), h n (by omega)]
theorem bc_c {w v : Nat → Nat} : ∀ n, (∀ i, i < n → v i = w i) → bc v n = bc w n := by
  intro n
  induction n with
  | zero => intro _; rfl
  | succ n ih =>
    intro h
    unfold bc
    rw [ih (fun i hi => h i (by omega)), h n (by omega)]
theorem cb_m (w : Nat → Nat) {q : Nat} : ∀ n, q ≤ n → cb w q ≤ cb w n := by
  intro n
  induction n with
  | zero => intro h; rw [Nat.le_zero.mp h]; exact Nat.le_refl _
  | succ n ih =>
    intro h
    rcases Nat.lt_or_ge q (n + 1) with h1 | h1
    · have := ih (by omega)
      show cb w q ≤ cb w n + _
      omega
    · rw [show q = n + 1 by omega]; exact Nat.le_refl _
theorem bc_le (w : Nat → Nat) : ∀ n, bc w n ≤ n := by
  intro n
  induction n with
  | zero => exact Nat.le_refl _
  | succ n ih => unfold bc; split <;> omega
theorem bc_0 {w : Nat → Nat} : ∀ {n : Nat}, bc w n = 0 → ∀ i, i < n → ¬ (w i = 29 ∨ w i = 4) := by
  intro n
  induction n with
  | zero => intro _ i hi; omega
  | succ n ih =>
    intro h i hi
    unfold bc at h
    rcases Nat.lt_or_ge i n with h1 | h1
    · exact ih (by omega) i h1
    · have : i = n := by omega
      subst this
      intro z
      rw [if_pos z] at h
      omega
theorem bc_pos {w : Nat → Nat} : ∀ {n : Nat}, 0 < bc w n → ∃ i, i < n ∧ (w i = 29 ∨ w i = 4) := by
  intro n
  induction n with
  | zero => intro h; exact absurd h (Nat.lt_irrefl 0)
  | succ n ih =>
    intro h
    unfold bc at h
    by_cases hc : w n = 29 ∨ w n = 4
    · exact ⟨n, by omega, hc⟩
    · rw [if_neg hc] at h
      obtain ⟨i, hi, z⟩ := ih (by omega)
      exact ⟨i, by omega, z⟩
def upw (w : Nat → Nat) (n a : Nat) : Nat → Nat := fun i => if i = n then a else w i
theorem upw_s (w : Nat → Nat) (n a : Nat) : upw w n a n = a := if_pos rfl
theorem upw_n {w : Nat → Nat} {n a i : Nat} (h : i < n) : upw w n a i = w i := if_neg (by omega)
theorem cb_up (w : Nat → Nat) (n a : Nat) : cb (upw w n a) (n + 1) = cb w n + if isb a then 1 else 0 := by
  show cb (upw w n a) n + _ = _
  rw [cb_c n (fun i hi => upw_n hi), upw_s]
theorem bc_up (w : Nat → Nat) (n a : Nat) : bc (upw w n a) (n + 1) = bc w n + if a = 29 ∨ a = 4 then 1 else 0 := by
  show bc (upw w n a) n + _ = _
  rw [bc_c n (fun i hi => upw_n hi), upw_s]
/-- what holds of the items and the waiting acts: rk0 the record's kind (0 none), wn: 1 when an operand stands -/
def PL (rk0 : Nat) (sc : Nat → Nat → Prop) (E : List xCe) (og : Option (xIt × List xIt)) (tp : Nat) (w : Nat → Nat) (wn rec : Nat) : Prop :=
  (∀ e ∈ E, cok (¬ rk0 = 0) sc e) ∧ match og with
  | none => (∀ i, i < tp → ¬ w i = 4) ∧ dpx 0 (tgs E) = some (cb w tp + wn) ∧ rec = rk0
  | some z => rk0 = 0 ∧ z.1.1 = 29 ∧ gok z.1 ∧ (∀ i ∈ z.2, iok True sc i) ∧ rec = z.1.2.2.1 + 1 ∧ ∃ q, q < tp ∧ w q = 4 ∧ (∀ i, i < tp → w i = 4 → i = q) ∧ dpx 0 (tgs E) = some (cb w q) ∧ dpx 0 (tg2 z.2) = some (cb w tp - cb w q + wn)
section PLs
variable {rk0 tp wn rec : Nat} {sc : Nat → Nat → Prop} {E : List xCe} {og : Option (xIt × List xIt)} {w : Nat → Nat}
theorem map_sn (E : List xCe) (i : xIt) : tgs (E ++ [(i, [])]) = tgs E ++ [i.1] := by unfold tgs; simp
theorem map_sn2 (c : List xIt) (i : xIt) : tg2 (c ++ [i]) = tg2 c ++ [i.1] := by unfold tg2; simp
theorem PL_push (h : PL rk0 sc E og tp w 0 rec) {i : xIt} (hi : iok (¬ rec = 0) sc i) (h1 : 1 ≤ i.1) (h4 : i.1 ≤ 4) : PL rk0 sc (snE E og i).1 (snE E og i).2 tp w 1 rec := by
  cases og with
  | none =>
    obtain ⟨a1, a2, a3, a4⟩ := h
    refine ⟨fun e he => ?_, a2, ?_, a4⟩
    · rcases List.mem_append.mp he with z | z
      · exact a1 e z
      · rw [List.mem_singleton.mp z, ← a4]
        exact Or.inl ⟨hi, rfl⟩
    · show dpx 0 (tgs (E ++ [(i, [])])) = _
      rw [map_sn]
      exact dpx_push a3 (by omega) (by omega)
  | some z =>
    obtain ⟨a1, b1, b2, b3, b4, b5, q, c1, c2, c3, c4, c5⟩ := h
    refine ⟨a1, b1, b2, b3, fun j hj => ?_, b5, q, c1, c2, c3, c4, ?_⟩
    · rcases List.mem_append.mp hj with y | y
      · exact b4 j y
      · rw [List.mem_singleton.mp y]
        unfold iok at hi ⊢
        rcases hi with z | z | z | z | z | z | z
        · exact Or.inl z
        · exact Or.inr (Or.inl z)
        · exact Or.inr (Or.inr (Or.inl ⟨z.1, trivial, z.2.2⟩))
        · exact Or.inr (Or.inr (Or.inr (Or.inl z)))
        · omega
        · omega
        · omega
    · show dpx 0 (tg2 (z.2 ++ [i])) = _
      rw [map_sn2]
      exact dpx_push c5 (by omega) (by omega)
theorem PL_pop (h : PL rk0 sc E og (tp + 1) w 1 rec) (hw : wok (w tp)) (hr : 1 ≤ rk (w tp)) : PL rk0 sc (snE E og (pm (w tp), 0, 0, 0, 0)).1 (snE E og (pm (w tp), 0, 0, 0, 0)).2 tp w 1 rec := by
  obtain ⟨p1, p2, p3⟩ := acti_pm hw hr
  have hn4 : ¬ w tp = 4 := fun z => by
    have := (rk_0 hw).mpr (Or.inr z)
    omega
  have hio : ∀ rc, iok rc sc (pm (w tp), 0, 0, 0, 0) := fun rc => by
    unfold iok
    rcases p2 with z | z | z
    · exact Or.inr (Or.inr (Or.inr (Or.inr (Or.inl z))))
    · exact Or.inr (Or.inr (Or.inr (Or.inr (Or.inr (Or.inl z)))))
    · exact Or.inr (Or.inr (Or.inr (Or.inr (Or.inr (Or.inr z)))))
  have key : ∀ (L : List Nat) (x : Nat), cb w tp ≥ x → dpx 0 L = some (cb w (tp + 1) - x + 1) → dpx 0 (L ++ [pm (w tp)]) = some (cb w tp - x + 1) := by
    intro L x hx hL
    have e : cb w (tp + 1) = cb w tp + if isb (w tp) then 1 else 0 := rfl
    by_cases hb : isb (w tp)
    · rw [if_pos hb] at e
      have := dpx_bi hL (p3.mpr hb) (by omega)
      rw [this]
      congr 1
      omega
    · rw [if_neg hb] at e
      have hg : pm (w tp) = 5 ∨ pm (w tp) = 6 := by
        rcases p2 with z | z | z
        · exact Or.inl z
        · exact Or.inr z
        · exact absurd (p3.mp z) hb
      have := dpx_un hL hg (by omega)
      rw [this]
      congr 1
      omega
  cases og with
  | none =>
    obtain ⟨a1, a2, a3, a4⟩ := h
    refine ⟨fun e he => ?_, fun i hi => a2 i (by omega), ?_, a4⟩
    · rcases List.mem_append.mp he with z | z
      · exact a1 e z
      · rw [List.mem_singleton.mp z]
        exact Or.inl ⟨hio _, rfl⟩
    · show dpx 0 (tgs (E ++ [((pm (w tp), 0, 0, 0, 0), [])])) = _
      rw [map_sn]
      have := key _ 0 (by omega) (by rw [a3]; congr 1)
      rw [this]
      congr 1
  | some z =>
    obtain ⟨a1, b1, b2, b3, b4, b5, q, c1, c2, c3, c4, c5⟩ := h
    have hq : q < tp := by
      rcases Nat.lt_or_ge q tp with z | z
      · exact z
      · have : q = tp := by omega
        subst this
        exact absurd c2 hn4
    refine ⟨a1, b1, b2, b3, fun j hj => ?_, b5, q, hq, c2, fun i hi => c3 i (by omega), c4, ?_⟩
    · rcases List.mem_append.mp hj with y | y
      · exact b4 j y
      · rw [List.mem_singleton.mp y]
        exact hio _
    · show dpx 0 (tg2 (z.2 ++ [(pm (w tp), 0, 0, 0, 0)])) = _
      rw [map_sn2]
      exact key _ (cb w q) (cb_m w tp (by omega)) c5
/-- an act put to the waiting ones -/
theorem PL_wp (h : PL rk0 sc E og tp w wn rec) {a wn2 : Nat} (ha : ¬ a = 4) (hb : (isb a ∧ wn = 1 ∧ wn2 = 0) ∨ (¬ isb a ∧ wn = 0 ∧ wn2 = 0)) : PL rk0 sc E og (tp + 1) (upw w tp a) wn2 rec := by
  have e : cb (upw w tp a) (tp + 1) + wn2 = cb w tp + wn := by
    rw [cb_up]
    rcases hb with ⟨z, z1, z2⟩ | ⟨z, z1, z2⟩
    · rw [if_pos z]; omega
    · rw [if_neg z]; omega
  cases og with
  | none =>
    obtain ⟨a1, a2, a3, a4⟩ := h
    refine ⟨a1, fun i hi => ?_, by rw [e]; exact a3, a4⟩
    rcases Nat.lt_or_ge i tp with z | z
    · rw [upw_n z]; exact a2 i z
    · rw [show i = tp by omega, upw_s]; exact ha
  | some z =>
    obtain ⟨a1, b1, b2, b3, b4, b5, q, c1, c2, c3, c4, c5⟩ := h
    have eq : cb (upw w tp a) q = cb w q := cb_c q (fun i hi => upw_n (by omega))
    have hm := cb_m w tp (Nat.le_of_lt c1)
    refine ⟨a1, b1, b2, b3, b4, b5, q, by omega, by rw [upw_n c1]; exact c2, fun i hi hi4 => ?_, by rw [eq]; exact c4, ?_⟩
    · rcases Nat.lt_or_ge i tp with z | z
      · rw [upw_n z] at hi4; exact c3 i z hi4
      · rw [show i = tp by omega, upw_s] at hi4; exact absurd hi4 ha
    · rw [eq, c5]
      congr 1
      omega
/-- an aggregate without a where -/
theorem PL_ag (h : PL 0 sc E none tp w 0 rec) {i : xIt} (hi : i.1 = 32) (hg : gok i) : PL 0 sc (E ++ [(i, [])]) none tp w 1 rec := by
  obtain ⟨a1, a2, a3, a4⟩ := h
  refine ⟨fun e he => ?_, a2, ?_, a4⟩
  · rcases List.mem_append.mp he with z | z
    · exact a1 e z
    · rw [List.mem_singleton.mp z]
      exact Or.inr (Or.inl ⟨fun z => z rfl, hi, hg, rfl⟩)
  · show dpx 0 (tgs (E ++ [(i, [])])) = _
    rw [map_sn]
    exact dpx_push a3 (by omega) (by omega)
theorem PL_aw (h : PL 0 sc E none tp w 0 rec) {g : xIt} (hi : g.1 = 29) (hg : gok g) : PL 0 sc E (some (g, [])) (tp + 1) (upw w tp 4) 0 (g.2.2.1 + 1) := by
  obtain ⟨a1, a2, a3, a4⟩ := h
  have eq : cb (upw w tp 4) tp = cb w tp := cb_c tp (fun i hi => upw_n (by omega))
  refine ⟨a1, rfl, hi, hg, fun i hi => (by cases hi), rfl, tp, by omega, upw_s _ _ _, fun i hi hi4 => ?_, by rw [eq]; exact a3, ?_⟩
  · rcases Nat.lt_or_ge i tp with z | z
    · rw [upw_n z] at hi4; exact absurd hi4 (a2 i z)
    · omega
  · rw [eq, cb_up, if_neg (by decide)]
    show some 0 = some _
    congr 1
    omega
theorem PL_cw {g : xIt} {c : List xIt} (h : PL rk0 sc E (some (g, c)) (tp + 1) w 1 rec) (h4 : w tp = 4) : PL rk0 sc (E ++ [((30, g.2.1, g.2.2.1, g.2.2.2.1, c.length), c)]) none tp w 1 0 ∧ rk0 = 0 ∧ g.1 = 29 := by
  obtain ⟨a1, b1, b2, b3, b4, b5, q, c1, c2, c3, c4, c5⟩ := h
  have hq := c3 tp (by omega) h4
  subst hq
  have e : cb w (tp + 1) = cb w tp + if isb (w tp) then 1 else 0 := rfl
  rw [h4, if_neg (by decide)] at e
  refine ⟨⟨fun x hx => ?_, fun i hi h => ?_, ?_, b1.symm⟩, b1, b2⟩
  · rcases List.mem_append.mp hx with z | z
    · exact a1 x z
    · rw [List.mem_singleton.mp z]
      refine Or.inr (Or.inr ⟨fun z => z b1, rfl, b3, rfl, b4, ?_⟩)
      show dpx 0 (tg2 c) = _
      rw [c5]
      congr 1
      omega
  · have := c3 i (by omega) h
    omega
  · have : tgs (E ++ [((30, g.2.1, g.2.2.1, g.2.2.2.1, c.length), c)]) = tgs E ++ [30] := by unfold tgs; simp
    rw [this]
    exact dpx_push c4 (by decide) (by decide)
theorem PL_co (h : PL rk0 sc E og (tp + 1) w 1 rec) (h4 : w tp = 29) : PL rk0 sc E og tp w 1 rec := by
  have e : cb w (tp + 1) = cb w tp + if isb (w tp) then 1 else 0 := rfl
  rw [h4, if_neg (by decide)] at e
  cases og with
  | none =>
    obtain ⟨a1, a2, a3, a4⟩ := h
    exact ⟨a1, fun i hi => a2 i (by omega), by rw [a3]; congr 1; omega, a4⟩
  | some z =>
    obtain ⟨a1, b1, b2, b3, b4, b5, q, c1, c2, c3, c4, c5⟩ := h
    have hq : q < tp := by
      rcases Nat.lt_or_ge q tp with z | z
      · exact z
      · have : q = tp := by omega
        subst this
        omega
    exact ⟨a1, b1, b2, b3, b4, b5, q, hq, c2, fun i hi => c3 i (by omega), c4, by rw [c5]; congr 1; omega⟩
theorem PL_og (h : PL rk0 sc E og tp w wn rec) (hn : ∀ i, i < tp → ¬ w i = 4) : og = none := by
  cases og with
  | none => rfl
  | some z =>
    obtain ⟨a1, b1, b2, b3, b4, b5, q, c1, c2, _⟩ := h
    exact absurd c2 (hn q c1)
end PLs
