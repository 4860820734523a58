/-! 99: the start -/
/-- a row of bytes holds no reference -/
theorem y_byte {s : State} {cell : Cell} {q i a : Nat} (hf : heapFits s = true) (hc : s.heap[q]? = some cell) (ha : s.isArrayOf cell .byte) (hv : cell.slots[i]? = some (.ref a)) : False := by
  obtain ⟨h1, k, hk, comp, hkind⟩ := ha
  obtain ⟨hq, he⟩ := Array.getElem?_eq_some_iff.mp hc
  have h2 : cellFits s cell = true := by
    have h3 := Array.all_eq_true.mp (show s.heap.all (cellFits s) = true from hf) q hq
    rw [he] at h3
    exact h3
  have hi : i < cell.slots.size := (Array.getElem?_eq_some_iff.mp hv).1
  have h4 := List.all_eq_true.mp (show (List.range cell.slots.size).all _ = true from h2) i (List.mem_range.mpr hi)
  simp only [hv] at h4
  have h5 : s.slotType? cell.cls cell.vm i = some .byte := by
    unfold State.slotType?
    rw [hk]
    cases hd : cell.vm
    case statics c => exact absurd hd (h1 c)
    all_goals simp [hkind]
  unfold State.fitsSlot at h4
  rw [h5] at h4
  simp [fits] at h4
def gK (aV : Nat → Nat) (i : Nat) : xE := .inr (100, [.ref (aV i), .int 0])
def gV (i : Nat) : xE := .inl (.byte, (x_by i).length, fun j => .int ((x_by i).getD j 0))
/-- what lies below -/
def gW (b L : Nat) (xs : Nat → Int32) (aK aV : Nat → Nat) : Nat → xE := fun q => if q = b then .inl (.int, L, fun j => .int (xs j)) else if q = aK 0 then gK aV 0 else if q = aK 1 then gK aV 1 else if q = aK 2 then gK aV 2 else if q = aV 0 then gV 0 else if q = aV 1 then gV 1 else if q = aV 2 then gV 2 else .inr (99, [])
abbrev y_len : List Nat := [103, 3, 16]
abbrev y_byt : List (List Int32) := [x_by 0, x_by 1, x_by 2]
section YS
variable {s : State} {b L : Nat} {xs : Nat → Int32} {aK aV : Nat → Nat}
theorem y_lenb : ∀ i, i < 3 → y_len.getD i 0 = (x_by i).length ∧ y_byt.getD i [] = x_by i := fun i hi => match i, hi with
  | 0, _ => ⟨by decide +kernel, rfl⟩
  | 1, _ => ⟨by decide +kernel, rfl⟩
  | 2, _ => ⟨by decide +kernel, rfl⟩
  | i + 3, hi => absurd hi (by omega)
theorem y_bK (hX : va_X b L xs s s.heap) (hS : vk_S 3 y_len y_byt aK aV (x_A s.heap.size) s s.heap) {i : Nat} (hi : i < 3) : ¬ aK i = b := fun e => by
  obtain ⟨-, -, ⟨cf, k, j, f, cell, -, -, h3, -, h5, -⟩, -⟩ := hS.1 i hi
  obtain ⟨scr, g1, -, -, g4, g5⟩ := hX
  rw [e, g1] at h3
  cases h3
  have hj := (Array.getElem?_eq_some_iff.mp h5).1
  have h6 := g5 f.slot (by omega)
  rw [h5] at h6
  cases h6
theorem y_bV (hX : va_X b L xs s s.heap) (hS : vk_S 3 y_len y_byt aK aV (x_A s.heap.size) s s.heap) {i : Nat} (hi : i < 3) : ¬ aV i = b := fun e => by
  obtain ⟨-, -, -, ⟨cell, h1, ⟨-, k, hk, comp, hkind⟩, -⟩⟩ := hS.1 i hi
  obtain ⟨scr, g1, ⟨-, k', hk', comp', hkind'⟩, -⟩ := hX
  rw [e, g1] at h1
  cases h1
  rw [hk] at hk'
  cases hk'
  rw [hkind] at hkind'
  cases hkind'
theorem y_KV (hf : heapFits s = true) (hS : vk_S 3 y_len y_byt aK aV (x_A s.heap.size) s s.heap) {i j : Nat} (hi : i < 3) (hj : j < 3) : ¬ aV j = aK i := fun e => by
  obtain ⟨-, -, ⟨cf, k, i2, f, cell, -, -, h3, -, h5, -⟩, -⟩ := hS.1 i hi
  obtain ⟨-, -, -, ⟨cell2, g1, g2, -⟩⟩ := hS.1 j hj
  rw [e, h3] at g1
  cases g1
  exact y_byte hf h3 g2 h5
theorem y_VV (hS : vk_S 3 y_len y_byt aK aV (x_A s.heap.size) s s.heap) {i j : Nat} (hi : i < 3) (hj : j < 3) (hij : ¬ i = j) : ¬ aV j = aV i := fun e => by
  obtain ⟨-, -, -, ⟨cell, h1, -, -, -, h5, -⟩⟩ := hS.1 i hi
  obtain ⟨-, -, -, ⟨cell2, g1, -, -, -, g5, -⟩⟩ := hS.1 j hj
  rw [e, h1] at g1
  cases g1
  rw [h5] at g5
  have hd : ∀ i, i < 3 → ∀ j, j < 3 → ¬ i = j → ¬ Int32.ofNat (y_len.getD i 0) = Int32.ofNat (y_len.getD j 0) := by decide +kernel
  exact hd i hi j hj hij g5
theorem y_KK (hS : vk_S 3 y_len y_byt aK aV (x_A s.heap.size) s s.heap) {i j : Nat} (hi : i < 3) (hj : j < 3) (hij : ¬ i = j) : ¬ aK i = aK j := fun e => hij (hS.2 i j hi hj e)
theorem y_gK (hX : va_X b L xs s s.heap) (hS : vk_S 3 y_len y_byt aK aV (x_A s.heap.size) s s.heap) {i : Nat} (hi : i < 3) : gW b L xs aK aV (aK i) = gK aV i := by
  unfold gW
  rw [if_neg (y_bK hX hS hi)]
  match i, hi with
  | 0, hi => rw [if_pos rfl]
  | 1, hi => rw [if_neg (y_KK hS (by omega) (by omega) (by omega)), if_pos rfl]
  | 2, hi => rw [if_neg (y_KK hS (by omega) (by omega) (by omega)), if_neg (y_KK hS (by omega) (by omega) (by omega)), if_pos rfl]
  | i + 3, hi => exact absurd hi (by omega)
theorem y_gV (hf : heapFits s = true) (hX : va_X b L xs s s.heap) (hS : vk_S 3 y_len y_byt aK aV (x_A s.heap.size) s s.heap) {i : Nat} (hi : i < 3) : gW b L xs aK aV (aV i) = gV i := by
  unfold gW
  rw [if_neg (y_bV hX hS hi), if_neg (y_KV hf hS (i := 0) (by omega) hi), if_neg (y_KV hf hS (i := 1) (by omega) hi), if_neg (y_KV hf hS (i := 2) (by omega) hi)]
  match i, hi with
  | 0, hi => rw [if_pos rfl]
  | 1, hi => rw [if_neg (y_VV hS (by omega) (by omega) (by omega)), if_pos rfl]
  | 2, hi => rw [if_neg (y_VV hS (by omega) (by omega) (by omega)), if_neg (y_VV hS (by omega) (by omega) (by omega)), if_pos rfl]
  | i + 3, hi => exact absurd hi (by omega)
theorem y_atK {D : va_G} (hS : vk_S 3 y_len y_byt aK aV (x_A s.heap.size) s s.heap) {i : Nat} (hi : i < 3) : x_at D s.heap.size s (aK i) (gK aV i) s.heap := by
  obtain ⟨h1, h2, h3, -⟩ := hS.1 i hi
  obtain ⟨cell, hc, -⟩ := h1
  refine ⟨fun r hr => absurd (show (none : Option vw_C) = some r from hr) (by simp), fun _ => ⟨(Array.getElem?_eq_some_iff.mp hc).1, (hS.1 i hi).1, h3, h2⟩⟩
theorem y_atV {D : va_G} (hS : vk_S 3 y_len y_byt aK aV (x_A s.heap.size) s s.heap) {i : Nat} (hi : i < 3) : x_at D s.heap.size s (aV i) (gV i) s.heap := by
  obtain ⟨-, -, -, ⟨cell, h1, h2, h3, h4, h5, h6, -⟩⟩ := hS.1 i hi
  obtain ⟨e1, e2⟩ := y_lenb i hi
  rw [e1] at h4 h5 h6
  rw [e2] at h6
  exact ⟨cell, h1, h2, h3, ⟨h4, h5⟩, h6, fun C hC => by cases hC⟩
theorem y_at {D : va_G} (hX : va_X b L xs s s.heap) (hS : vk_S 3 y_len y_byt aK aV (x_A s.heap.size) s s.heap) (q : Nat) : x_at D s.heap.size s q (gW b L xs aK aV q) s.heap := by
  unfold gW
  by_cases q0 : q = b
  · rw [if_pos q0, q0]
    obtain ⟨scr, g1, g2, g3, g4, g5⟩ := hX
    exact ⟨scr, g1, g2, g3, x_sz_e g4, g5, fun C hC => by cases hC⟩
  rw [if_neg q0]
  by_cases q1 : q = aK 0
  · rw [if_pos q1, q1]; exact y_atK hS (by omega)
  rw [if_neg q1]
  by_cases q2 : q = aK 1
  · rw [if_pos q2, q2]; exact y_atK hS (by omega)
  rw [if_neg q2]
  by_cases q3 : q = aK 2
  · rw [if_pos q3, q3]; exact y_atK hS (by omega)
  rw [if_neg q3]
  by_cases q4 : q = aV 0
  · rw [if_pos q4, q4]; exact y_atV hS (by omega)
  rw [if_neg q4]
  by_cases q5 : q = aV 1
  · rw [if_pos q5, q5]; exact y_atV hS (by omega)
  rw [if_neg q5]
  by_cases q6 : q = aV 2
  · rw [if_pos q6, q6]; exact y_atV hS (by omega)
  rw [if_neg q6]
  exact ⟨fun r hr => absurd (show (none : Option vw_C) = some r from hr) (by simp), fun h => absurd h (by decide)⟩
/-- the texts' addresses -/
def y_ad (aK aV : Nat → Nat) (i : Nat) : Nat := if i < 3 then aK i else aV (i - 3)
theorem y_TX {D : va_G} (hf : heapFits s = true) (hX : va_X b L xs s s.heap) (hS : vk_S 3 y_len y_byt aK aV (x_A s.heap.size) s s.heap) : x_TX (D, s.heap.size, y_ad aK aV) (gW b L xs aK aV) := fun i hi => by
  have e1 : y_ad aK aV i = aK i := if_pos hi
  have e2 : y_ad aK aV (3 + i) = aV i := by
    unfold y_ad
    rw [if_neg (by omega), show 3 + i - 3 = i by omega]
  show y_ad aK aV i < s.heap.size ∧ y_ad aK aV (3 + i) < s.heap.size ∧ gW b L xs aK aV (y_ad aK aV i) = .inr (100, [.ref (y_ad aK aV (3 + i)), .int 0]) ∧ gW b L xs aK aV (y_ad aK aV (3 + i)) = _
  rw [e1, e2, y_gK hX hS hi, y_gV hf hX hS hi]
  obtain ⟨⟨c1, h1, -⟩, -, -, ⟨c2, h2, -⟩⟩ := hS.1 i hi
  exact ⟨(Array.getElem?_eq_some_iff.mp h1).1, (Array.getElem?_eq_some_iff.mp h2).1, rfl, rfl⟩
end YS
theorem y_in {v : Cond} (i : Nat) (h : lw_tbl[i]? = some v) : v ∈ lw_tbl := List.mem_of_getElem? h
set_option maxRecDepth 100000 in
/-- the classes are known -/
theorem y_K {args : Array Value} {s : State} (hts : ∀ w ∈ x_w, w.before args s = true) : ∃ D : va_G, va_K D vwCl [] s := by
  have h0 : ∀ c : Nat, ∃ d : ClassId × (Nat → Nat), ∀ q : vw_C, vwCl[c]? = some q → u_Kn s q.1 q.2.1 q.2.2 d.1 d.2 := fun c => by
    match c with
    | 0 =>
      obtain ⟨cC, iS, h⟩ := u_known hts xc_0.2.1 (hts _ (x_in (v := Cond.instantiable RX0 5) 506 rfl rfl))
      exact ⟨(cC, iS), fun q hq => by cases hq; exact h⟩
    | 1 =>
      obtain ⟨cC, iS, h⟩ := u_known hts xc_1.2.1 (hts _ (x_in (v := Cond.instantiable RX1 9) 449 rfl rfl))
      exact ⟨(cC, iS), fun q hq => by cases hq; exact h⟩
    | 2 =>
      obtain ⟨cC, iS, h⟩ := u_known hts xc_2.2.1 (hts _ (x_in (v := Cond.instantiable RX2 11) 499 rfl rfl))
      exact ⟨(cC, iS), fun q hq => by cases hq; exact h⟩
    | 3 =>
      obtain ⟨cC, iS, h⟩ := u_known hts xc_3.2.1 (hts _ (x_in (v := Cond.instantiable RX3 9) 225 rfl rfl))
      exact ⟨(cC, iS), fun q hq => by cases hq; exact h⟩
    | 4 =>
      obtain ⟨cC, iS, h⟩ := u_known hts xc_4.2.1 (hts _ (x_in (v := Cond.instantiable RX4 7) 348 rfl rfl))
      exact ⟨(cC, iS), fun q hq => by cases hq; exact h⟩
    | 5 =>
      obtain ⟨cC, iS, h⟩ := u_known hts xc_5.2.1 (hts _ (x_in (v := Cond.instantiable RX5 7) 289 rfl rfl))
      exact ⟨(cC, iS), fun q hq => by cases hq; exact h⟩
    | 6 =>
      obtain ⟨cC, iS, h⟩ := u_known hts xc_6.2.1 (hts _ (x_in (v := Cond.instantiable RX6 5) 417 rfl rfl))
      exact ⟨(cC, iS), fun q hq => by cases hq; exact h⟩
    | 7 =>
      obtain ⟨cC, iS, h⟩ := u_known hts xc_7.2.1 (hts _ (x_in (v := Cond.instantiable RX7 6) 423 rfl rfl))
      exact ⟨(cC, iS), fun q hq => by cases hq; exact h⟩
    | 8 =>
      obtain ⟨cC, iS, h⟩ := u_known hts xc_8.2.1 (hts _ (x_in (v := Cond.instantiable RX8 10) 298 rfl rfl))
      exact ⟨(cC, iS), fun q hq => by cases hq; exact h⟩
    | 9 =>
      obtain ⟨cC, iS, h⟩ := u_known hts xc_9.2.1 (hts _ (x_in (v := Cond.instantiable RX9 8) 135 rfl rfl))
      exact ⟨(cC, iS), fun q hq => by cases hq; exact h⟩
    | 10 =>
      obtain ⟨cC, iS, h⟩ := u_known hts xc_10.2.1 (hts _ (x_in (v := Cond.instantiable RX10 4) 264 rfl rfl))
      exact ⟨(cC, iS), fun q hq => by cases hq; exact h⟩
    | 11 =>
      obtain ⟨cC, iS, h⟩ := u_known hts xc_11.2.1 (hts _ (x_in (v := Cond.instantiable RX11 8) 127 rfl rfl))
      exact ⟨(cC, iS), fun q hq => by cases hq; exact h⟩
    | 12 =>
      obtain ⟨cC, iS, h⟩ := u_known hts xc_12.2.1 (hts _ (x_in (v := Cond.instantiable RX12 48) 1187 rfl rfl))
      exact ⟨(cC, iS), fun q hq => by cases hq; exact h⟩
    | c + 13 => exact ⟨(0, fun _ => 0), fun q hq => absurd (show (none : Option vw_C) = some q from hq) (by simp)⟩
  obtain ⟨d, hd⟩ := Classical.axiomOfChoice h0
  exact ⟨(fun c => (d c).1, fun c => (d c).2), fun c q hq => hd c q hq, fun k q hq => absurd (show (none : Option (ClassId × FieldType)) = some q from hq) (by simp)⟩
abbrev y_tm (i : Nat) : Term := .string RX9 (if i = 0 then 29 else if i = 1 then 98 else 103)
theorem y_el : ∀ i, i < 3 → ∀ j, j < y_len.getD i 0 → Cond.eq (.elem (.field (y_tm i) "java/lang/String" "value" "[B") (.int (Int32.ofNat j))) (.int ((y_byt.getD i []).getD j 0)) ∈ flatC (Jvm.Cond.and given_1 narrow_1) := by decide +kernel
/-- the texts -/
theorem y_S {args : Array Value} {s : State} (hat : ∀ c ∈ flatC (Jvm.Cond.and given_1 narrow_1), c.before args s = true) : ∃ aK aV : Nat → Nat, vk_S 3 y_len y_byt aK aV (x_A s.heap.size) s s.heap ∧ ∀ i : Nat, i < 3 → (y_tm i).eval args s none [] s = some (.ref (aK i)) := by
  have m1 : ∀ i, i < 3 → Cond.exactly (y_tm i) "java/lang/String" ∈ flatC (Jvm.Cond.and given_1 narrow_1) := by decide +kernel
  have m2 : ∀ i, i < 3 → Cond.eq (.field (y_tm i) "java/lang/String" "coder" "B") (.int 0) ∈ flatC (Jvm.Cond.and given_1 narrow_1) := by decide +kernel
  have m3 : ∀ i, i < 3 → Cond.arrayOf (.field (y_tm i) "java/lang/String" "value" "[B") .byte ∈ flatC (Jvm.Cond.and given_1 narrow_1) := by decide +kernel
  have m4 : ∀ i, i < 3 → Cond.eq (.length (.field (y_tm i) "java/lang/String" "value" "[B")) (.int (Int32.ofNat (y_len.getD i 0))) ∈ flatC (Jvm.Cond.and given_1 narrow_1) := by decide +kernel
  have m6 : ∀ i, i < 3 → ∀ j, j < 3 → ¬ i = j → Cond.not (Cond.eq (y_tm i) (y_tm j)) ∈ flatC (Jvm.Cond.and given_1 narrow_1) ∨ Cond.not (Cond.eq (y_tm j) (y_tm i)) ∈ flatC (Jvm.Cond.and given_1 narrow_1) := by decide +kernel
  have m7 : ∀ i, i < 3 → y_len.getD i 0 < 2 ^ 31 := by decide +kernel
  exact vk_Sof m7 (fun i hi => hat _ (m1 i hi)) (fun i hi => hat _ (m2 i hi)) (fun i hi => hat _ (m3 i hi)) (fun i hi => hat _ (m4 i hi)) (fun i hi j hj => hat _ (y_el i hi j hj)) (fun i j hi hj hij => (m6 i hi j hj hij).imp (fun h => hat _ h) (fun h => hat _ h)) (fun a ha z => absurd ha (Nat.not_lt.mpr z))
set_option maxRecDepth 100000 in
theorem y_G {l : Launch} {args : Array Value} {s : State} {D : va_G} {aK aV : Nat → Nat} (hfl : l.flags = flags0) (hts : ∀ w ∈ lw_tbl, w.before args s = true) (hat : ∀ c ∈ flatC (Jvm.Cond.and given_1 narrow_1), c.before args s = true) (hK : va_K D vwCl [] s) (hE : ∀ i : Nat, i < 3 → (y_tm i).eval args s none [] s = some (.ref (aK i))) : x_G l (D, s.heap.size, y_ad aK aV) s := by
  have hA : ∀ a : Nat, a < s.heap.size → ¬ x_A s.heap.size a := fun a ha z => absurd ha (Nat.not_lt.mpr z)
  refine ⟨?_, Nat.le_refl _, hK, ?_, ?_, ?_, ?_, ?_, ?_, ?_, ?_⟩
  · unfold Launch.stackTraces
    rw [hfl]
    decide +kernel
  · exact vx_Zqof (hts _ (y_in 652 rfl)) (hts _ (y_in 116 rfl)) (hat _ (by decide +kernel)) hA
  · exact vx_Zqof (hts _ (y_in 654 rfl)) (hts _ (y_in 116 rfl)) (hat _ (by decide +kernel)) hA
  · exact va_Zof (hts _ (y_in 150 rfl)) (hts _ (y_in 101 rfl)) (va_eqi (hat _ (by decide +kernel))) hA
  · exact va_Zqof (hts _ (y_in 166 rfl)) (hts _ (y_in 103 rfl)) (hat _ (by decide +kernel)) hA
  · exact va_Nc.of (hat _ (by decide +kernel))
  · exact vk_R.of (hts _ (y_in 140 rfl)) (hE 0 (by omega))
  · exact vk_R.of (hts _ (y_in 760 rfl)) (hE 1 (by omega))
  · exact vk_R.of (hts _ (y_in 820 rfl)) (hE 2 (by omega))
theorem y_same {s t : State} {L : List Loc} {k n k' n' : Nat} (h : s.sameButNew t L k n) (hL : ∀ q ∈ L, s.heap.size ≤ q.base) (hk : k ≤ k') (hn : n ≤ n') : s.sameButNew t [] k' n' := by
  obtain ⟨h1, h2, h3, h4, h5, h6⟩ := h
  refine ⟨h1, h2, by omega, h4, by omega, fun a c hc => ?_⟩
  obtain ⟨c', g1, g2, g3, g4⟩ := h6 a c hc
  refine ⟨c', g1, g2, g3, fun i _ => g4 i (fun hm => ?_)⟩
  have ha := (Array.getElem?_eq_some_iff.mp hc).1
  have hb : s.heap.size ≤ a := hL _ hm
  omega
/-- from the entry, for every script of at most 2048 ints, the law comes to its end with true -/
theorem whole_start {p : Program} {e : Env} {s : State} {m : MethodId} {below : List Frame} {meth : Method} {c : Code} (l : Launch) (hfl : l.flags = flags0) (hhf : heapFits s = true) (hnm : meth.name = x.name) (htb : c.exceptionTable.toList = []) {b L : Nat} {xs : Nat → Int32} (hL : L ≤ 2048) (C0 : lw_At p s m meth c b L xs) : W p l e room_1 s m #[Value.ref b] below meth c s.heap [] 0 0 (lw_Z below #[Value.ref b] s) (entryFrame m ([Value.ref b] : List Value).toArray 7) := by
  obtain ⟨hx, hcode, hret, hml, hown, hts, hX, hb, hlk, hgv⟩ := C0
  have hat := flat_of_before _ hgv
  have htx : ∀ w ∈ x_w, w.before #[Value.ref b] s = true := fun w hw => hts w (List.mem_filter.mp hw).1
  obtain ⟨D, hK⟩ := y_K htx
  obtain ⟨aK, aV, hS, hE⟩ := y_S hat
  have hG : x_G l (D, s.heap.size, y_ad aK aV) s := y_G hfl hts hat hK hE
  have hR : x_R D s.heap.size s s.heap (s.heap.size, 0, gW b L xs aK aV) := ⟨rfl, fun q _ => y_at hX hS q⟩
  have hgb : gW b L xs aK aV b = .inl (.int, L, fun j => .int (xs j)) := if_pos rfl
  obtain ⟨o, ⟨o1, o2, o3⟩, hmo, run⟩ := law_XE (l := l) (w := (D, s.heap.size, y_ad aK aV)) (y_TX hhf hX hS) hb hgb hL
  have o4 : o.2.1 ≤ s.heap.size + 1558 := o2
  have o5 : o.2.2.1 ≤ 20356 := o3
  have hl := lv_entry [Value.ref b] (n := 7) (show 1 ≤ 7 by omega)
  rw [lg_entry_eq]
  generalize (lg_sl [Value.ref b] ++ List.replicate (7 - (lg_sl [Value.ref b]).length) Slot.unset).toArray = lr at hl ⊢
  intro T hT X
  obtain ⟨t, a1, oc, b1, b2, b3⟩ := run p e room_1 s m #[Value.ref b] below meth c s.heap [] 0 0 (o.2.1 - s.heap.size) o.2.2.1 lr ⟨⟨hx, hcode, hml, hret, hlk, hnm⟩, ⟨htb, hown, htx, by decide +kernel, by decide +kernel⟩, hG⟩ hl hR va_S.rf (by show 0 + (o.2.1 - s.heap.size) ≤ _; omega) (by show 0 + (o.2.2.1 - 0) ≤ _; omega) (by show _ ≤ 601024; omega) (by show _ ≤ 7293034; omega) T hT X
  refine ⟨t, a1, oc, b1, b2, ?_⟩
  rcases b3 with ⟨⟨v, e1, e2, -, -⟩, L2, ⟨g1, g2, g3⟩, g4⟩ | ⟨q, -, E, ce, L2, gx, -⟩
  · rw [o1] at e1
    cases e1
    exact ⟨e2, g1, g2, y_same g3 g4 (by omega) (by omega)⟩
  · have gz := gx.1
    rw [o1] at gz
    cases gz
