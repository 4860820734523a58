/-! texts at the state level -/
section TXS
variable {l : Launch} {w : xW} {g : Nat → xE} {M M' : xM} {pc pc' tgt : Nat} {ls ls' : List (Nat × Value)} {st st' rest : List Value} {S S' : xS} {r r' : xr}
theorem x_P.tx {h : xH} {i : Nat} (hP : x_P w g h S) (hi : i < 3) : w.2.2 i < h.1 ∧ w.2.2 (3 + i) < h.1 ∧ h.2.2 (w.2.2 i) = .inr (100, [.ref (w.2.2 (3 + i)), .int 0]) ∧ h.2.2 (w.2.2 (3 + i)) = .inl (.byte, (x_by i).length, fun j => .int ((x_by i).getD j 0)) := by
  obtain ⟨p1, p2, p3, p4, p5⟩ := hP
  obtain ⟨q1, q2, q3, q4⟩ := p5 i hi
  exact ⟨by omega, by omega, by rw [p3 _ q1]; exact q3, by rw [p3 _ q2]; exact q4⟩
theorem es_getV {i idx : Nat} (hi : i < 3) (hd : decode (x_b M) pc = .ok (.getfield idx, 3)) (hF : Cond.fieldLink (x_y M).cls idx "java/lang/String" "value" "[B" ∈ x_w) (kk : ES l w g M (pc + 3) ls (.ref (w.2.2 (3 + i)) :: st) S r) : ES l w g M pc ls (.ref (w.2.2 i) :: st) S r := fun h hP => by
  obtain ⟨h', p, z⟩ := kk h hP
  obtain ⟨t1, t2, t3, t4⟩ := hP.tx hi
  exact ⟨h', p, e_getV hd hF t1 t3 rfl z⟩
theorem es_getK {i idx : Nat} (hi : i < 3) (hd : decode (x_b M) pc = .ok (.getfield idx, 3)) (hF : Cond.fieldLink (x_y M).cls idx "java/lang/String" "coder" "B" ∈ x_w) (kk : ES l w g M (pc + 3) ls (.int 0 :: st) S r) : ES l w g M pc ls (.ref (w.2.2 i) :: st) S r := fun h hP => by
  obtain ⟨h', p, z⟩ := kk h hP
  obtain ⟨t1, t2, t3, t4⟩ := hP.tx hi
  exact ⟨h', p, e_getK hd hF t1 t3 rfl z⟩
theorem es_alenV {i : Nat} (hi : i < 3) (hd : decode (x_b M) pc = .ok (.arraylength, 1)) (kk : ES l w g M (pc + 1) ls (.int (Int32.ofNat (x_by i).length) :: st) S r) : ES l w g M pc ls (.ref (w.2.2 (3 + i)) :: st) S r := fun h hP => by
  obtain ⟨h', p, z⟩ := kk h hP
  obtain ⟨t1, t2, t3, t4⟩ := hP.tx hi
  exact ⟨h', p, e_alen hd t2 t4 rfl z⟩
theorem es_baldV {i : Nat} {j : Int32} (hi : i < 3) (hd : decode (x_b M) pc = .ok (.baload, 1)) (hj : xin j (x_by i).length) (kk : ES l w g M (pc + 1) ls (.int ((x_by i).getD j.toNatClampNeg 0) :: st) S r) : ES l w g M pc ls (.int j :: .ref (w.2.2 (3 + i)) :: st) S r := fun h hP => by
  obtain ⟨h', p, z⟩ := kk h hP
  obtain ⟨t1, t2, t3, t4⟩ := hP.tx hi
  exact ⟨h', p, e_bald hd t2 t4 hj rfl z⟩
/-- what leaves the cells alone, for every heap -/
theorem es_xs {v : Option xv} (k : ∀ h : xH, x_S l w M pc ls st h (.inl (v.map (xval w.2.1)), h)) (ho : some ((.inl v, S) : xr) = some r) : ES l w g M pc ls st S r := fun h hP => by
  cases ho
  exact ⟨h, hP, k h⟩
theorem es_callTI {i idx n : Nat} {as : List Value} {q9 : Option xr} {kf : Int32 → xS → Option xr} (hf : xcI q9 kf = some r) (hi : i < 3) (hd : decode (x_b M) pc = .ok (.invokevirtual idx, 3)) (hk : x_CS M M' n) (hl1 : Cond.methodLink (x_y M).cls idx (x_y M') ∈ x_w) (hl2 : Cond.instanceMethod (x_y M') ∈ x_w) (hl3 : Cond.selects (x_y M').cls (x_y M') (x_y M') ∈ x_w) (hst : st = as.reverse ++ .ref (w.2.2 i) :: rest) (hn : as.length = n) (hW : (rest.map fun v => v.category).sum ≤ 8) (hfit : (lg_sl (.ref (w.2.2 i) :: as)).length ≤ x_n M') (hCy : (x_y M').cls = "java/lang/String") (kc : ∀ r', q9 = some r' → ES l w g M' 0 (lv_args 0 (.ref (w.2.2 i) :: as)) [] S r') (ht : ∀ x ∈ tableOf (x_t M), covers x pc = false) (kr : ∀ (v : Int32) (S1 : xS), kf v S1 = some r → ES l w g M (pc + 3) ls (.int v :: rest) S1 r) : ES l w g M pc ls st S r := fun h hP => by
  obtain ⟨t1, t2, t3, t4⟩ := hP.tx hi
  have hrc : x_rc h (w.2.2 i) (x_y M').cls := Or.inr ⟨hCy, _, t3⟩
  rcases xcI_s hf with ⟨v, S1, hq9, h1⟩ | ⟨E, S1, hq9, h1⟩
  · obtain ⟨h1', P1, z1⟩ := kc _ hq9 h hP
    obtain ⟨h2, P2, z2⟩ := kr v S1 h1 h1' P1
    exact ⟨h2, P2, e_callV hd hk hl1 hl2 hl3 hst hn hW hfit t1 hrc z1 (fun v' e => by cases e; exact z2) (fun E e => by cases e)⟩
  · obtain ⟨h1', P1, z1⟩ := kc _ hq9 h hP
    cases h1
    exact ⟨h1', P1, e_callV hd hk hl1 hl2 hl3 hst hn hW hfit t1 hrc z1 (fun v' e => by cases e) (fun E' e => by cases e; exact t_out ht rfl)⟩
end TXS
