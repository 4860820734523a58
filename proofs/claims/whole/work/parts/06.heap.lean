/-! rows of the lite machine that read and write cells -/
/-- a class of ours: its number, name, fields, types -/
def x_CL (c : Nat) (C : String) (T : u_T) (N : Nat) (ty : Nat → FieldType) : Prop :=
  vwCl[c]? = some (C, T, N) ∧ (∀ v ∈ u_ws C T N, v ∈ x_w) ∧ (∀ k, k < N → parseFieldDescriptor (T k).2.2.1 = some (ty k)) ∧ ∀ a, a < N → ∀ b, b < N → a ≠ b → (T a).2.1 ≠ (T b).2.1
/-- the pool's entry idx of the class own is the field k of T -/
def x_FL (own : String) (idx : Nat) (T : u_T) (k : Nat) : Prop :=
  Cond.fieldLink own idx (T k).1 (T k).2.1 (T k).2.2.1 ∈ x_w ∨ ∃ host : String, Cond.fieldLinkNest own idx (T k).1 (T k).2.1 (T k).2.2.1 host ∈ x_w
theorem x_R.put {D : va_G} {lo : Nat} {s : State} {H H1 : Heap} {h : xH} {q : Nat} {e : xE} (g : x_R D lo s H h) (hz : H1.size = H.size) (ho : ∀ a : Nat, a ≠ q → H1[a]? = H[a]?) (he : x_at D lo s q e H1) : x_R D lo s H1 (h.1, h.2.1, x_up h.2.2 q e) := by
  refine ⟨hz.trans g.1, fun a ha => ?_⟩
  by_cases e1 : a = q
  · subst e1
    show x_at D lo s a (x_up h.2.2 a e a) H1
    rw [x_up_s]
    exact he
  · show x_at D lo s a (x_up h.2.2 q e a) H1
    rw [x_up_n e1]
    exact (g.2 a ha).kept (ho a e1)
theorem x_R.push {D : va_G} {lo : Nat} {s : State} {H H1 : Heap} {h : xH} {n : Nat} {e : xE} (g : x_R D lo s H h) (hz : H1.size = h.1 + 1) (ho : ∀ a : Nat, a < h.1 → H1[a]? = H[a]?) (he : x_at D lo s h.1 e H1) : x_R D lo s H1 (h.1 + 1, n, x_up h.2.2 h.1 e) := by
  refine ⟨hz, fun a ha => ?_⟩
  by_cases e1 : a = h.1
  · subst e1
    show x_at D lo s h.1 (x_up h.2.2 h.1 e h.1) H1
    rw [x_up_s]
    exact he
  · have ha2 : a < h.1 + 1 := ha
    show x_at D lo s a (x_up h.2.2 h.1 e a) H1
    rw [x_up_n e1]
    exact (g.2 a (by omega)).kept (ho a (by omega))
section XH
variable {l : Launch} {w : xW} {M : xM} {pc pc' : Nat} {ls ls' : List (Nat × Value)} {st st' r : List Value} {h h' : xH} {o : xO × xH}
/-- a row that reads -/
theorem x_rd (step : ∀ (p : Program) (e : Env) (R : Room) (s : State) (m : MethodId) (args : Array Value) (below : List Frame) (meth : Method) (c : Code) (H : Heap) (locs : List Loc) (cells slots : Nat) (Q : State → Prop) (lr : Array Slot), x_C l w M p R s m args meth c → lv_has lr (x_n M) ls → x_R w.1 w.2.1 s H h → va_S (x_A w.2.1) s.heap H locs →
      W p l e R s m args below meth c H locs cells slots Q (F0 m pc' lr st') → W p l e R s m args below meth c H locs cells slots Q (F0 m pc lr st))
    (k : x_S l w M pc' ls st' h o) : x_S l w M pc ls st h o :=
  ⟨k.1, fun p e R s m args below meth c H locs cells slots mc ms lr C hl hR hS h1 h2 h3 h4 => step p e R s m args below meth c H locs cells slots _ lr C hl hR hS (k.2 p e R s m args below meth c H locs cells slots mc ms lr C hl hR hS h1 h2 h3 h4)⟩
/-- a row that writes -/
theorem x_wr (hh : h'.1 = h.1 ∧ h'.2.1 = h.2.1) (step : ∀ (p : Program) (e : Env) (R : Room) (s : State) (m : MethodId) (args : Array Value) (below : List Frame) (meth : Method) (c : Code) (H : Heap) (locs : List Loc) (cells slots : Nat) (Q : State → Prop) (lr : Array Slot), x_C l w M p R s m args meth c → lv_has lr (x_n M) ls → x_R w.1 w.2.1 s H h → va_S (x_A w.2.1) s.heap H locs →
      (∀ (H1 : Heap) (locs1 : List Loc), x_R w.1 w.2.1 s H1 h' → va_S (x_A w.2.1) s.heap H1 locs1 → W p l e R s m args below meth c H1 locs1 cells slots Q (F0 m pc' lr st')) → W p l e R s m args below meth c H locs cells slots Q (F0 m pc lr st))
    (k : x_S l w M pc' ls st' h' o) : x_S l w M pc ls st h o :=
  ⟨by rw [← hh.1, ← hh.2]; exact k.1, fun p e R s m args below meth c H locs cells slots mc ms lr C hl hR hS h1 h2 h3 h4 => step p e R s m args below meth c H locs cells slots _ lr C hl hR hS (fun H1 locs1 hR1 hS1 => k.2 p e R s m args below meth c H1 locs1 cells slots mc ms lr C hl hR1 hS1 (by rw [hh.1]; exact h1) (by rw [hh.2]; exact h2) h3 h4)⟩
/-- a row that makes one cell of n slots -/
theorem x_mk {n : Nat} (hh : h'.1 = h.1 + 1 ∧ h'.2.1 = h.2.1 + n) (step : ∀ (p : Program) (e : Env) (R : Room) (s : State) (m : MethodId) (args : Array Value) (below : List Frame) (meth : Method) (c : Code) (H : Heap) (locs : List Loc) (cells slots : Nat) (Q : State → Prop) (lr : Array Slot), x_C l w M p R s m args meth c → lv_has lr (x_n M) ls → x_R w.1 w.2.1 s H h → va_S (x_A w.2.1) s.heap H locs → cells + 1 ≤ R.cells → slots + n ≤ R.slots →
      (∀ (H1 : Heap), x_R w.1 w.2.1 s H1 h' → va_S (x_A w.2.1) s.heap H1 locs → W p l e R s m args below meth c H1 locs (cells + 1) (slots + n) Q (F0 m pc' lr st')) → W p l e R s m args below meth c H locs cells slots Q (F0 m pc lr st))
    (k : x_S l w M pc' ls st' h' o) : x_S l w M pc ls st h o := by
  obtain ⟨⟨k1, k2⟩, kk⟩ := k
  refine ⟨⟨by omega, by omega⟩, fun p e R s m args below meth c H locs cells slots mc ms lr C hl hR hS h1 h2 h3 h4 => step p e R s m args below meth c H locs cells slots _ lr C hl hR hS (by omega) (by omega) (fun H1 hR1 hS1 => kk p e R s m args below meth c H1 locs (cells + 1) (slots + n) mc ms lr C hl hR1 hS1 (by omega) (by omega) h3 h4)⟩
theorem e_get {c : Nat} {C : String} {T : u_T} {N : Nat} {ty : Nat → FieldType} (hC : x_CL c C T N ty) {idx q k : Nat} {fs : List Value} {v : Value} (hd : decode (x_b M) pc = .ok (.getfield idx, 3)) (hF : x_FL (x_y M).cls idx T k) (hk : k < N) (hq : q < h.1) (he : h.2.2 q = .inr (c, fs)) (hv : fs[k]? = some v)
    (kk : x_S l w M (pc + 3) ls (v :: st) h o) : x_S l w M pc ls (.ref q :: st) h o := by
  refine x_rd (fun p e R s m args below meth c0 H locs cells slots Q lr Cx hl hR hS kW => ?_) kk
  obtain ⟨hc, hin, -, -⟩ := hC
  have hx := hR.2 q hq
  rw [he] at hx
  have hP : va_P w.1 vwCl [(q, .inr (c, fs))] H := by
    intro j z hz
    match j, hz with
    | 0, hz => cases hz; exact ⟨_, hc, (hx.1 _ hc).2⟩
    | j + 1, hz => simp at hz
  rcases hF with hF | ⟨host, hF⟩
  · exact va_get Cx.1.1 Cx.1.2.1 Cx.2.1.2.2.1 hin Cx.2.1.2.1 Cx.2.2.2.2.1 hP 0 rfl hc k hk (Cx.2.1.2.2.1 _ hF) (fun _ z => z) hv hd kW
  · exact va_getN Cx.1.1 Cx.1.2.1 Cx.2.1.2.2.1 hin Cx.2.1.2.1 Cx.2.2.2.2.1 hP 0 rfl hc k hk (Cx.2.1.2.2.1 _ hF) (fun _ z => z) hv hd kW
/-- what lies there behind a store into a field -/
theorem x_put_at {D : va_G} {lo : Nat} {s : State} {args : Array Value} {H1 : Heap} {c : Nat} {C : String} {T : u_T} {N : Nat} {ty : Nat → FieldType} (hC : x_CL c C T N ty) (hts : ∀ v ∈ x_w, v.before args s = true) (hK : va_K D vwCl [] s) {q k : Nat} {fs : List Value} {v : Value} {cell : Cell} (hk : k < N) (hlo : c ≠ 100)
    (hl : fs.length = N) (q2 : cell.cls = D.1 c) (q3 : cell.vm = .none) (q4 : ∀ j, j < N → cell.slots[D.2 c j]? = some (vp_V fs j)) (e1 : H1[q]? = some (cell.setSlot (D.2 c k) v)) : x_at D lo s q (.inr (c, fs.set k v)) H1 := by
  obtain ⟨hc, hin, hty, hnm⟩ := hC
  have hap := va_apart (own := C) (D := D) hts hin ty hty hnm hK hc
  refine ⟨fun r hr => ?_, fun z => absurd z hlo⟩
  cases Option.some.inj (hr.symm.trans hc)
  refine ⟨by rw [List.length_set]; exact hl, ?_⟩
  exact t_OB.to (V := updV (vp_V fs) k v) ⟨_, e1, q2, q3, t_set q4 hap hk v⟩ (fun j _ => vp_updV_set (by rw [hl]; exact hk) v j)
theorem e_put {c : Nat} {C : String} {T : u_T} {N : Nat} {ty : Nat → FieldType} (hC : x_CL c C T N ty) {idx q k : Nat} {fs : List Value} {v : Value} (hd : decode (x_b M) pc = .ok (.putfield idx, 3)) (hF : x_FL (x_y M).cls idx T k) (hk : k < N) (hlo : c ≠ 100) (hA : w.2.1 ≤ q) (hq : q < h.1) (he : h.2.2 q = .inr (c, fs)) (hfin : (T k).2.2.2 = false) (hn : narrow (ty k) v = v) (hfit : fits (ty k) v = true)
    (kk : x_S l w M (pc + 3) ls st (h.1, h.2.1, x_up h.2.2 q (.inr (c, fs.set k v))) o) : x_S l w M pc ls (v :: .ref q :: st) h o := by
  refine x_wr (h' := (h.1, h.2.1, x_up h.2.2 q (.inr (c, fs.set k v)))) ⟨rfl, rfl⟩ (fun p e R s m args below meth c0 H locs cells slots Q lr Cx hl hR hS kW => ?_) kk
  have hCC := hC
  obtain ⟨hc, hin, hty, hnm⟩ := hC
  have hx := hR.2 q hq
  rw [he] at hx
  obtain ⟨hfl, cell, q1, q2, q3, q4⟩ := hx.1 _ hc
  have hts := Cx.2.1.2.2.1
  have hK := Cx.2.2.2.2.1
  obtain ⟨hS9, hfc, kC, hkC, hkind⟩ := hK.1 c _ hc
  obtain ⟨cf, kf, fi, f, hi, hsl⟩ := hS9 k hk
  have hlay := hts _ (hin _ (u_in_lay hk))
  unfold u_lay at hlay
  rw [if_neg (by rw [hfin]; decide)] at hlay
  have hst := (u_facts hfc hkC (u_lays hts hin hk) hi).1
  have h6 := u_store hfc hkC hkind hlay hi (hty k hk) hn hfit
  have go : ∀ H' : Heap, H'[q]? = some (cell.setSlot f.slot v) → H'.size = H.size → (∀ a : Nat, a ≠ q → H'[a]? = H[a]?) → W p l e R s m args below meth c0 H' (locs ++ [⟨q, f.slot⟩]) cells slots Q (F0 m (pc + 3) lr st) := fun H' e1 e2 e3 => by
    rw [hsl] at e1
    exact kW H' _ (hR.put e2 e3 (x_put_at hCC hts hK hk hlo hfl q2 q3 q4 e1)) (hS.put e2 e3 hA)
  rcases hF with hF | ⟨host, hF⟩
  · exact W.putK Cx.1.1 Cx.1.2.1 (f := f) ⟨Cx.2.1.2.1, hts _ hF, ⟨_, _, _, hi⟩, hst⟩ (by rw [q2]; exact h6) q1 q3 (by rw [hsl]; exact k2_hasslot (q4 k hk)) rfl rfl hd go
  · exact va_WputK Cx.1.1 Cx.1.2.1 (f := f) Cx.2.1.2.1 (hts _ hF) hi hst (by rw [q2]; exact h6) q1 q3 (by rw [hsl]; exact k2_hasslot (q4 k hk)) rfl rfl hd go
/-- a final field in a constructor -/
theorem e_putF {c : Nat} {C : String} {T : u_T} {N : Nat} {ty : Nat → FieldType} (hC : x_CL c C T N ty) {idx q k : Nat} {fs : List Value} {v : Value} (hd : decode (x_b M) pc = .ok (.putfield idx, 3)) (hF : Cond.fieldLink (x_y M).cls idx (T k).1 (T k).2.1 (T k).2.2.1 ∈ x_w) (hk : k < N) (hlo : c ≠ 100) (hA : w.2.1 ≤ q) (hq : q < h.1) (he : h.2.2 q = .inr (c, fs)) (hfin : (T k).2.2.2 = true) (hin2 : (x_y M).name = "<init>") (hdecl : (T k).1 = (x_y M).cls) (hn : narrow (ty k) v = v) (hfit : fits (ty k) v = true)
    (kk : x_S l w M (pc + 3) ls st (h.1, h.2.1, x_up h.2.2 q (.inr (c, fs.set k v))) o) : x_S l w M pc ls (v :: .ref q :: st) h o := by
  refine x_wr (h' := (h.1, h.2.1, x_up h.2.2 q (.inr (c, fs.set k v)))) ⟨rfl, rfl⟩ (fun p e R s m args below meth c0 H locs cells slots Q lr Cx hl hR hS kW => ?_) kk
  have hCC := hC
  obtain ⟨hc, hin, hty, hnm⟩ := hC
  have hx := hR.2 q hq
  rw [he] at hx
  obtain ⟨hfl, cell, q1, q2, q3, q4⟩ := hx.1 _ hc
  have hts := Cx.2.1.2.2.1
  have hK := Cx.2.2.2.2.1
  obtain ⟨hS9, hfc, kC, hkC, hkind⟩ := hK.1 c _ hc
  obtain ⟨cf, kf, fi, f, hi, hsl⟩ := hS9 k hk
  have hlay := hts _ (hin _ (u_in_lay hk))
  unfold u_lay at hlay
  rw [if_pos hfin] at hlay
  have hst := (u_facts hfc hkC (u_lays hts hin hk) hi).1
  have hcf : m.cls = cf := by
    obtain ⟨_, _, c', _, _, _, -, -, hf', -, -, -, hown2, -⟩ := Cond.laysFinal_spec hlay
    have e1 : c' = cf := by have := hi.symm.trans hf'; simp at this; exact this.1.symm
    rw [hdecl] at hown2
    rw [← e1]; exact Option.some.inj (Cx.2.1.2.1.symm.trans hown2)
  have h6 := u_fits hfc hkC hkind (Or.inr hlay) hi (hty k hk) hn hfit
  refine W.putFinK Cx.1.1 Cx.1.2.1 Cx.2.1.2.1 (hts _ hF) hi hst hcf (Cx.1.2.2.2.2.2.trans hin2) (by rw [q2]; exact h6) q1 q3 (by rw [hsl]; exact k2_hasslot (q4 k hk)) rfl rfl hd fun H' e1 e2 e3 => ?_
  rw [hsl] at e1 ⊢
  exact kW H' _ (hR.put e2 e3 (x_put_at hCC hts hK hk hlo hfl q2 q3 q4 e1)) (hS.put e2 e3 hA)

theorem x_lt {i : Int32} {n : Nat} (h : vp_in i n) : i.toNatClampNeg < n := Nat.lt_of_not_le (fun z => h (Or.inr z))
/-- what lies there behind a store into an array -/
theorem x_ast_at {D : va_G} {lo : Nat} {s : State} {H1 : Heap} {q n k : Nat} {f : Nat → Value} {ty : FieldType} {v : Value} {cell : Cell} (c2 : s.isArrayOf cell ty) (c3 : cell.vm ≠ .unknown) (c4 : x_sz cell.slots.size n) (c5 : ∀ j : Nat, j < n → cell.slots[j]? = some (f j)) (c6 : ∀ C : String, ty = .object C → va_RA s cell.cls ty) (hk : k < n)
    (e1 : H1[q]? = some (cell.setSlot k v)) : x_at D lo s q (.inl (ty, n, updV f k v)) H1 := by
  refine ⟨cell.setSlot k v, e1, c2, c3, ?_, fun j hj => ?_, c6⟩
  · show x_sz (cell.setSlot k v).slots.size n
    have e : (cell.setSlot k v).slots.size = cell.slots.size := by simp [Cell.setSlot]
    rw [e]
    exact c4
  · show (cell.setSlot k v).slots[j]? = some (updV f k v j)
    have hj2 : j < n := hj
    by_cases e : j = k
    · subst e
      have hj3 : j < cell.slots.size := Nat.lt_of_lt_of_le hj2 c4.1
      simp [Cell.setSlot, updV, hj3]
    · have e2 : ¬ k = j := fun z => e z.symm
      simp [Cell.setSlot, updV, e, Array.getElem?_setIfInBounds, e2, c5 j hj2]
theorem e_iald {q n : Nat} {f : Nat → Value} {i : Int32} {v : Value} (hd : decode (x_b M) pc = .ok (.iaload, 1)) (hq : q < h.1) (he : h.2.2 q = .inl (.int, n, f)) (hi : vp_in i n) (hv : f i.toNatClampNeg = v)
    (kk : x_S l w M (pc + 1) ls (v :: st) h o) : x_S l w M pc ls (.int i :: .ref q :: st) h o := by
  refine x_rd (fun p e R s m args below meth c0 H locs cells slots Q lr Cx hl hR hS kW => ?_) kk
  have hx := hR.2 q hq
  rw [he] at hx
  obtain ⟨cell, c1, c2, c3, c4, c5, -⟩ := hx
  exact W.iald Cx.1.1 Cx.1.2.1 c1 c2 c3 (x_sz_in c4 hi) (by rw [← hv]; exact c5 _ (x_lt hi)) rfl rfl hd kW
theorem e_lald {q n : Nat} {f : Nat → Value} {i : Int32} {v : Value} (hd : decode (x_b M) pc = .ok (.laload, 1)) (hq : q < h.1) (he : h.2.2 q = .inl (.long, n, f)) (hi : vp_in i n) (hv : f i.toNatClampNeg = v)
    (kk : x_S l w M (pc + 1) ls (v :: st) h o) : x_S l w M pc ls (.int i :: .ref q :: st) h o := by
  refine x_rd (fun p e R s m args below meth c0 H locs cells slots Q lr Cx hl hR hS kW => ?_) kk
  have hx := hR.2 q hq
  rw [he] at hx
  obtain ⟨cell, c1, c2, c3, c4, c5, -⟩ := hx
  exact W.lald Cx.1.1 Cx.1.2.1 c1 c2 c3 (x_sz_in c4 hi) (by rw [← hv]; exact c5 _ (x_lt hi)) rfl rfl hd kW
theorem e_cald {q n : Nat} {f : Nat → Value} {i : Int32} {v : Value} (hd : decode (x_b M) pc = .ok (.caload, 1)) (hq : q < h.1) (he : h.2.2 q = .inl (.char, n, f)) (hi : vp_in i n) (hv : f i.toNatClampNeg = v)
    (kk : x_S l w M (pc + 1) ls (v :: st) h o) : x_S l w M pc ls (.int i :: .ref q :: st) h o := by
  refine x_rd (fun p e R s m args below meth c0 H locs cells slots Q lr Cx hl hR hS kW => ?_) kk
  have hx := hR.2 q hq
  rw [he] at hx
  obtain ⟨cell, c1, c2, c3, c4, c5, -⟩ := hx
  exact W.cald Cx.1.1 Cx.1.2.1 c1 c2 c3 (x_sz_in c4 hi) (by rw [← hv]; exact c5 _ (x_lt hi)) rfl rfl hd kW
theorem e_zald {q n : Nat} {f : Nat → Value} {i : Int32} {v : Value} (hd : decode (x_b M) pc = .ok (.baload, 1)) (hq : q < h.1) (he : h.2.2 q = .inl (.boolean, n, f)) (hi : vp_in i n) (hv : f i.toNatClampNeg = v)
    (kk : x_S l w M (pc + 1) ls (v :: st) h o) : x_S l w M pc ls (.int i :: .ref q :: st) h o := by
  refine x_rd (fun p e R s m args below meth c0 H locs cells slots Q lr Cx hl hR hS kW => ?_) kk
  have hx := hR.2 q hq
  rw [he] at hx
  obtain ⟨cell, c1, c2, c3, c4, c5, -⟩ := hx
  exact W.zald Cx.1.1 Cx.1.2.1 c1 c2 c3 (x_sz_in c4 hi) (by rw [← hv]; exact c5 _ (x_lt hi)) rfl rfl hd kW
theorem e_bald {q n : Nat} {f : Nat → Value} {i : Int32} {v : Value} (hd : decode (x_b M) pc = .ok (.baload, 1)) (hq : q < h.1) (he : h.2.2 q = .inl (.byte, n, f)) (hi : vp_in i n) (hv : f i.toNatClampNeg = v)
    (kk : x_S l w M (pc + 1) ls (v :: st) h o) : x_S l w M pc ls (.int i :: .ref q :: st) h o := by
  refine x_rd (fun p e R s m args below meth c0 H locs cells slots Q lr Cx hl hR hS kW => ?_) kk
  have hx := hR.2 q hq
  rw [he] at hx
  obtain ⟨cell, c1, c2, c3, c4, c5, -⟩ := hx
  exact W.bald Cx.1.1 Cx.1.2.1 c1 c2 c3 (x_sz_in c4 hi) (by rw [← hv]; exact c5 _ (x_lt hi)) rfl rfl hd kW
theorem e_aald {q n : Nat} {f : Nat → Value} {i : Int32} {v : Value} {ty : FieldType} (hty : ty.isReference = true) (hd : decode (x_b M) pc = .ok (.aaload, 1)) (hq : q < h.1) (he : h.2.2 q = .inl (ty, n, f)) (hi : vp_in i n) (hv : f i.toNatClampNeg = v)
    (kk : x_S l w M (pc + 1) ls (v :: st) h o) : x_S l w M pc ls (.int i :: .ref q :: st) h o := by
  refine x_rd (fun p e R s m args below meth c0 H locs cells slots Q lr Cx hl hR hS kW => ?_) kk
  have hx := hR.2 q hq
  rw [he] at hx
  obtain ⟨cell, c1, c2, c3, c4, c5, -⟩ := hx
  exact W.aald Cx.1.1 Cx.1.2.1 c1 c2 hty c3 (x_sz_in c4 hi) (by rw [← hv]; exact c5 _ (x_lt hi)) rfl rfl hd kW
theorem e_alen {q n : Nat} {f : Nat → Value} {ty : FieldType} {v : Int32} (hd : decode (x_b M) pc = .ok (.arraylength, 1)) (hq : q < h.1) (he : h.2.2 q = .inl (ty, n, f)) (hv : Int32.ofNat n = v)
    (kk : x_S l w M (pc + 1) ls (.int v :: st) h o) : x_S l w M pc ls (.ref q :: st) h o := by
  refine x_rd (fun p e R s m args below meth c0 H locs cells slots Q lr Cx hl hR hS kW => ?_) kk
  have hx := hR.2 q hq
  rw [he] at hx
  obtain ⟨cell, c1, c2, c3, c4, c5, -⟩ := hx
  exact W.alen Cx.1.1 Cx.1.2.1 c1 c2 (n := v) (c4.2.trans hv) rfl rfl hd kW
theorem e_iast {q n : Nat} {f : Nat → Value} {i : Int32} {x : Int32} (hd : decode (x_b M) pc = .ok (.iastore, 1)) (hA : w.2.1 ≤ q) (hq : q < h.1) (he : h.2.2 q = .inl (.int, n, f)) (hi : vp_in i n)
    (kk : x_S l w M (pc + 1) ls st (h.1, h.2.1, x_up h.2.2 q (.inl (.int, n, updV f i.toNatClampNeg (.int x)))) o) : x_S l w M pc ls (.int x :: .int i :: .ref q :: st) h o := by
  refine x_wr (h' := (h.1, h.2.1, x_up h.2.2 q (.inl (.int, n, updV f i.toNatClampNeg (.int x))))) ⟨rfl, rfl⟩ (fun p e R s m args below meth c0 H locs cells slots Q lr Cx hl hR hS kW => ?_) kk
  have hx := hR.2 q hq
  rw [he] at hx
  obtain ⟨cell, c1, c2, c3, c4, c5, c6⟩ := hx
  exact W.iast Cx.1.1 Cx.1.2.1 c1 c2 c3 (x_sz_in c4 hi) rfl rfl hd (fun H' e1 e2 e3 => kW H' _ (hR.put e2 e3 (x_ast_at c2 c3 c4 c5 c6 (x_lt hi) e1)) (hS.put e2 e3 hA))
theorem e_last {q n : Nat} {f : Nat → Value} {i : Int32} {x : Int64} (hd : decode (x_b M) pc = .ok (.lastore, 1)) (hA : w.2.1 ≤ q) (hq : q < h.1) (he : h.2.2 q = .inl (.long, n, f)) (hi : vp_in i n)
    (kk : x_S l w M (pc + 1) ls st (h.1, h.2.1, x_up h.2.2 q (.inl (.long, n, updV f i.toNatClampNeg (.long x)))) o) : x_S l w M pc ls (.long x :: .int i :: .ref q :: st) h o := by
  refine x_wr (h' := (h.1, h.2.1, x_up h.2.2 q (.inl (.long, n, updV f i.toNatClampNeg (.long x))))) ⟨rfl, rfl⟩ (fun p e R s m args below meth c0 H locs cells slots Q lr Cx hl hR hS kW => ?_) kk
  have hx := hR.2 q hq
  rw [he] at hx
  obtain ⟨cell, c1, c2, c3, c4, c5, c6⟩ := hx
  exact W.last Cx.1.1 Cx.1.2.1 c1 c2 c3 (x_sz_in c4 hi) rfl rfl hd (fun H' e1 e2 e3 => kW H' _ (hR.put e2 e3 (x_ast_at c2 c3 c4 c5 c6 (x_lt hi) e1)) (hS.put e2 e3 hA))
theorem e_cast {q n : Nat} {f : Nat → Value} {i : Int32} {x : Int32} (hd : decode (x_b M) pc = .ok (.castore, 1)) (hA : w.2.1 ≤ q) (hq : q < h.1) (he : h.2.2 q = .inl (.char, n, f)) (hi : vp_in i n)
    (kk : x_S l w M (pc + 1) ls st (h.1, h.2.1, x_up h.2.2 q (.inl (.char, n, updV f i.toNatClampNeg (narrow .char (.int x))))) o) : x_S l w M pc ls (.int x :: .int i :: .ref q :: st) h o := by
  refine x_wr (h' := (h.1, h.2.1, x_up h.2.2 q (.inl (.char, n, updV f i.toNatClampNeg (narrow .char (.int x)))))) ⟨rfl, rfl⟩ (fun p e R s m args below meth c0 H locs cells slots Q lr Cx hl hR hS kW => ?_) kk
  have hx := hR.2 q hq
  rw [he] at hx
  obtain ⟨cell, c1, c2, c3, c4, c5, c6⟩ := hx
  exact W.cast Cx.1.1 Cx.1.2.1 c1 c2 c3 (x_sz_in c4 hi) rfl rfl hd (fun H' e1 e2 e3 => kW H' _ (hR.put e2 e3 (x_ast_at c2 c3 c4 c5 c6 (x_lt hi) e1)) (hS.put e2 e3 hA))
theorem e_zast {q n : Nat} {f : Nat → Value} {i : Int32} {x : Int32} (hd : decode (x_b M) pc = .ok (.bastore, 1)) (hA : w.2.1 ≤ q) (hq : q < h.1) (he : h.2.2 q = .inl (.boolean, n, f)) (hi : vp_in i n)
    (kk : x_S l w M (pc + 1) ls st (h.1, h.2.1, x_up h.2.2 q (.inl (.boolean, n, updV f i.toNatClampNeg (narrow .boolean (.int x))))) o) : x_S l w M pc ls (.int x :: .int i :: .ref q :: st) h o := by
  refine x_wr (h' := (h.1, h.2.1, x_up h.2.2 q (.inl (.boolean, n, updV f i.toNatClampNeg (narrow .boolean (.int x)))))) ⟨rfl, rfl⟩ (fun p e R s m args below meth c0 H locs cells slots Q lr Cx hl hR hS kW => ?_) kk
  have hx := hR.2 q hq
  rw [he] at hx
  obtain ⟨cell, c1, c2, c3, c4, c5, c6⟩ := hx
  exact W.zast Cx.1.1 Cx.1.2.1 c1 c2 c3 (x_sz_in c4 hi) rfl rfl hd (fun H' e1 e2 e3 => kW H' _ (hR.put e2 e3 (x_ast_at c2 c3 c4 c5 c6 (x_lt hi) e1)) (hS.put e2 e3 hA))
/-- a reference into a row of objects of the class c -/
theorem e_aast {c q v n : Nat} {C : String} {T : u_T} {N : Nat} {ty : Nat → FieldType} (hC : x_CL c C T N ty) {f : Nat → Value} {i : Int32} {fs : List Value} (hd : decode (x_b M) pc = .ok (.aastore, 1)) (hA : w.2.1 ≤ q) (hq : q < h.1) (he : h.2.2 q = .inl (.object C, n, f)) (hv : v < h.1) (hev : h.2.2 v = .inr (c, fs)) (hi : vp_in i n)
    (kk : x_S l w M (pc + 1) ls st (h.1, h.2.1, x_up h.2.2 q (.inl (.object C, n, updV f i.toNatClampNeg (.ref v)))) o) : x_S l w M pc ls (.ref v :: .int i :: .ref q :: st) h o := by
  refine x_wr (h' := (h.1, h.2.1, x_up h.2.2 q (.inl (.object C, n, updV f i.toNatClampNeg (.ref v))))) ⟨rfl, rfl⟩ (fun p e R s m args below meth c0 H locs cells slots Q lr Cx hl hR hS kW => ?_) kk
  have hx := hR.2 q hq
  rw [he] at hx
  have hz := hR.2 v hv
  rw [hev] at hz
  obtain ⟨hc, -, -, -⟩ := hC
  obtain ⟨-, cv, v1, v2, v3, -⟩ := hz.1 _ hc
  obtain ⟨-, hfc, kC, hkC, hkind⟩ := Cx.2.2.2.2.1.1 c _ hc
  obtain ⟨cell, c1, c2, c3, c4, c5, c6⟩ := hx
  obtain ⟨kA, comp, g1, g2, g3, -⟩ := c6 C rfl
  have hcomp : comp = w.1.1 c := Option.some.inj (g3.symm.trans hfc)
  subst hcomp
  exact W.aast Cx.1.1 Cx.1.2.1 c1 c2.1 c3 g1 g2 rfl hkC ⟨fun z => hi (Or.inl z), Nat.lt_of_lt_of_le (x_lt hi) c4.1⟩ v1 (by rw [v3]; intro q0 h0; cases h0) (by rw [v2]; exact hkC) (by rw [v2]; exact va_asg _ _) rfl rfl hd (fun H' e1 e2 e3 => kW H' _ (hR.put e2 e3 (x_ast_at c2 c3 c4 c5 c6 (x_lt hi) e1)) (hS.put e2 e3 hA))
theorem e_new {c : Nat} {C : String} {T : u_T} {N : Nat} {ty : Nat → FieldType} (hC : x_CL c C T N ty) {idx : Nat} {fs : List Value} (hd : decode (x_b M) pc = .ok (.new idx, 3)) (hlo : c ≠ 100) (hk : Cond.classLink (x_y M).cls idx C ∈ x_w) (hins : Cond.instantiable C N ∈ x_w) (hini : Cond.initialized C ∈ x_w) (hfl : fs.length = N) (hfs : ∀ j, j < N → defaultValue (ty j) = vp_V fs j)
    (kk : x_S l w M (pc + 3) ls (.ref h.1 :: st) (h.1 + 1, h.2.1 + N, x_up h.2.2 h.1 (.inr (c, fs))) o) : x_S l w M pc ls st h o := by
  refine x_mk (n := N) (h' := (h.1 + 1, h.2.1 + N, x_up h.2.2 h.1 (.inr (c, fs)))) ⟨rfl, rfl⟩ (fun p e R s m args below meth c0 H locs cells slots Q lr Cx hl hR hS hc1 hs1 kW => ?_) kk
  obtain ⟨hc, hin, hty, hnm⟩ := hC
  have hts := Cx.2.1.2.2.1
  have hKn := Cx.2.2.2.2.1.1 c _ hc
  refine W.newcK Cx.1.1 Cx.1.2.1 Cx.2.1.2.1 (hts _ hk) (hts _ hins) (hts _ hini) rfl hd hc1 hs1 hKn.2.1 hR.1 fun H1 kC hkC e1 z1 o1 => ?_
  refine kW H1 (hR.push z1 o1 ⟨fun r hr => ?_, fun z => absurd z hlo⟩) ⟨Nat.le_trans hS.1 (by rw [z1, ← hR.1]; omega), fun x h1 h2 => (o1 x (by rw [← hR.1]; exact Nat.lt_of_lt_of_le h1 hS.1)).trans (hS.2.1 x h1 h2), hS.2.2⟩
  cases Option.some.inj (hr.symm.trans hc)
  exact ⟨hfl, (u_born ty hts hin hKn hkC e1 hty).to hfs⟩
theorem e_newa {n : Int32} {N : Nat} {at_ : ArrayType} (hd : decode (x_b M) pc = .ok (.newarray at_, 2)) (hw : Cond.arrayClass (newarray.typeOf at_) ∈ x_w) (hno : ∀ C : String, ¬ newarray.typeOf at_ = .object C) (hn : ¬ n < 0) (hN : n.toNatClampNeg = N) (hb : N * componentBytes (newarray.typeOf at_) ≤ 536870912)
    (kk : x_S l w M (pc + 2) ls (.ref h.1 :: st) (h.1 + 1, h.2.1 + N, x_up h.2.2 h.1 (.inl (newarray.typeOf at_, N, fun _ => defaultValue (newarray.typeOf at_)))) o) : x_S l w M pc ls (.int n :: st) h o := by
  refine x_mk (n := N) (h' := (h.1 + 1, h.2.1 + N, x_up h.2.2 h.1 (.inl (newarray.typeOf at_, N, fun _ => defaultValue (newarray.typeOf at_))))) ⟨rfl, rfl⟩ (fun p e R s m args below meth c0 H locs cells slots Q lr Cx hl hR hS hc1 hs1 kW => ?_) kk
  refine W.newaK Cx.1.1 Cx.1.2.1 (Cx.2.1.2.2.1 _ hw) rfl hd rfl hn hN hb hc1 hs1 hR.1 fun H1 cA e1 z1 o1 hA => ?_
  exact kW H1 (hR.push z1 o1 ⟨_, e1, hA _ _, (fun z => by cases z), x_sz_e (arrV_size _ _ _), fun j hj => arrV_read _ _ hj, fun C hC => absurd hC (hno C)⟩) ⟨Nat.le_trans hS.1 (by rw [z1, ← hR.1]; omega), fun x h1 h2 => (o1 x (by rw [← hR.1]; exact Nat.lt_of_lt_of_le h1 hS.1)).trans (hS.2.1 x h1 h2), hS.2.2⟩
theorem e_anew {n : Int32} {N : Nat} {C : String} {idx : Nat} (hd : decode (x_b M) pc = .ok (.anewarray idx, 3)) (hw : Cond.classLink (x_y M).cls idx C ∈ x_w) (hov : Cond.arrayOver (.object C) ∈ x_w) (hn : ¬ n < 0) (hN : n.toNatClampNeg = N) (hb : N * 4 ≤ 536870912)
    (kk : x_S l w M (pc + 3) ls (.ref h.1 :: st) (h.1 + 1, h.2.1 + N, x_up h.2.2 h.1 (.inl (.object C, N, fun _ => .null))) o) : x_S l w M pc ls (.int n :: st) h o := by
  refine x_mk (n := N) (h' := (h.1 + 1, h.2.1 + N, x_up h.2.2 h.1 (.inl (.object C, N, fun _ => .null)))) ⟨rfl, rfl⟩ (fun p e R s m args below meth c0 H locs cells slots Q lr Cx hl hR hS hc1 hs1 kW => ?_) kk
  subst hN
  refine W.anew Cx.1.1 Cx.1.2.1 Cx.2.1.2.1 (Cx.2.1.2.2.1 _ hw) (Cx.2.1.2.2.1 _ hov) rfl hd rfl hn hb hc1 hs1 fun cA kA comp f1 f2 f3 f4 => ?_
  have z1 : (H.push { cls := cA, slots := Array.replicate n.toNatClampNeg .null, vm := .none }).size = h.1 + 1 := by rw [Array.size_push, hR.1]
  have o1 : ∀ a : Nat, a < h.1 → (H.push { cls := cA, slots := Array.replicate n.toNatClampNeg .null, vm := .none })[a]? = H[a]? := fun a ha => by
    rw [Array.getElem?_push, if_neg (by rw [hR.1]; omega)]
  have e1 : (H.push { cls := cA, slots := Array.replicate n.toNatClampNeg .null, vm := .none })[h.1]? = some (arrV cA n.toNatClampNeg (fun _ => .null)) := by
    rw [Array.getElem?_push, if_pos hR.1.symm, arrV_new]
  have hk := kW _ (hR.push z1 o1 ⟨_, e1, ⟨(fun q z => by cases z), kA, f2, comp, f3⟩, (fun z => by cases z), x_sz_e (arrV_size _ _ _), fun j hj => arrV_read _ _ hj, fun C' hC' => by cases hC'; exact ⟨kA, comp, f2, f3, f4, f1⟩⟩) ⟨Nat.le_trans hS.1 (by rw [z1, ← hR.1]; omega), fun x h1 h2 => (o1 x (by rw [← hR.1]; exact Nat.lt_of_lt_of_le h1 hS.1)).trans (hS.2.1 x h1 h2), hS.2.2⟩
  rw [← hR.1] at hk
  exact hk
end XH
