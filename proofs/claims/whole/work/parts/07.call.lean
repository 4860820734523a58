/-! rows of the lite machine: ends, throws, calls -/
theorem x_G.at {l : Launch} {w : xW} {s U : State} {H : Heap} {locs : List Loc} (g : x_G l w s) (hS : va_S (x_A w.2.1) s.heap H locs) (hU : U.heap = H) (hvm : s.vm.Alike U.vm) : x_G l w U := by
  obtain ⟨g1, g2, g3, g4, g5, g6, g7⟩ := g
  subst hU
  exact ⟨g1, Nat.le_trans g2 hS.1, va_K.moved hvm g3, vx_Zq.moved hvm (g4.kept hS.2.1), vx_Zq.moved hvm (g5.kept hS.2.1), va_Z.moved hvm (g6.kept hS.2.1), va_Zq.moved hvm (g7.kept hS.2.1)⟩
/-- the method's frame, with an object of the class E thrown over it -/
def x_T (l : Launch) (w : xW) (M : xM) (pc : Nat) (ls : List (Nat × Value)) (st : List Value) (h : xH) (E : String) (o : xO × xH) : Prop :=
  (h.1 ≤ o.2.1 ∧ h.2.1 ≤ o.2.2.1) ∧
  ∀ (p : Program) (e : Env) (R : Room) (s : State) (m : MethodId) (args : Array Value) (below : List Frame) (meth : Method) (c : Code) (H : Heap) (locs : List Loc) (cells slots mc ms : Nat) (lr : Array Slot) (q : Nat) (ce : Cell),
    x_C l w M p R s m args meth c → lv_has lr (x_n M) ls → x_R w.1 w.2.1 s H h → va_S (x_A w.2.1) s.heap H locs →
    cells + (o.2.1 - h.1) ≤ mc → slots + (o.2.2.1 - h.2.1) ≤ ms → mc ≤ R.cells → ms ≤ R.slots →
    H[q]? = some ce → ce.vm = .none → s.vm.findClass E = some ce.cls →
    vx_W p l e R s m args below meth c H locs cells slots (vx_MQ below (x_Q w o) (x_X w o) args s mc ms (x_A w.2.1)) (F0 m pc lr st) q
/-- a method of the tables: its name is plain -/
def x_OK (M : xM) : Prop := plainName (x_y M).cls = true
section XC
variable {l : Launch} {w : xW} {M M' : xM} {pc pc' : Nat} {ls ls' : List (Nat × Value)} {st st' rest : List Value} {h h' : xH} {o o' : xO × xH}
theorem e_ireturn {v : Int32} {ty : FieldType} (hd : decode (x_b M) pc = .ok (.ireturn, 1)) (hr : x_r M = some ty) (hn : narrow ty (.int v) = .int v) (ho : o = (.inl (some (.int v)), h)) : x_S l w M pc ls [.int v] h o := by
  subst ho
  exact ⟨⟨Nat.le_refl _, Nat.le_refl _⟩, fun p e R s m args below meth c H locs cells slots mc ms lr Cx hl hR hS h1 h2 h3 h4 => vx_ret (W.widen (k := mc) (n := ms) (by omega) (by omega) (W.zret Cx.1.1 Cx.1.2.1 (Cx.1.2.2.2.1.trans hr) hn (fun t ht hW => ⟨_, rfl, rfl, by rw [ht]; exact hR.moved hW.alike, hS.F ht⟩) hS.2.2 hd (hlocks := Cx.1.2.2.2.2.1)))⟩
theorem e_lreturn {v : Int64} (hd : decode (x_b M) pc = .ok (.lreturn, 1)) (hr : x_r M = some .long) (ho : o = (.inl (some (.long v)), h)) : x_S l w M pc ls [.long v] h o := by
  subst ho
  exact ⟨⟨Nat.le_refl _, Nat.le_refl _⟩, fun p e R s m args below meth c H locs cells slots mc ms lr Cx hl hR hS h1 h2 h3 h4 => vx_ret (W.widen (k := mc) (n := ms) (by omega) (by omega) (W.lret Cx.1.1 Cx.1.2.1 (Cx.1.2.2.2.1.trans hr) (fun t ht hW => ⟨_, rfl, rfl, by rw [ht]; exact hR.moved hW.alike, hS.F ht⟩) hS.2.2 hd (hlocks := Cx.1.2.2.2.2.1)))⟩
theorem e_areturn {v : Nat} {rt : FieldType} (hd : decode (x_b M) pc = .ok (.areturn, 1)) (hr : x_r M = some rt) (hrt : (∃ n, rt = .object n) ∨ ∃ t, rt = .array t) (ho : o = (.inl (some (.ref v)), h)) : x_S l w M pc ls [.ref v] h o := by
  subst ho
  exact ⟨⟨Nat.le_refl _, Nat.le_refl _⟩, fun p e R s m args below meth c H locs cells slots mc ms lr Cx hl hR hS h1 h2 h3 h4 => vx_ret (W.widen (k := mc) (n := ms) (by omega) (by omega) (W.aret Cx.1.1 Cx.1.2.1 (Cx.1.2.2.2.1.trans hr) hrt (Or.inr ⟨_, rfl⟩) (fun t ht hW => ⟨_, rfl, rfl, by rw [ht]; exact hR.moved hW.alike, hS.F ht⟩) hS.2.2 hd (hlocks := Cx.1.2.2.2.2.1)))⟩
theorem e_return (hd : decode (x_b M) pc = .ok (.return_, 1)) (hr : x_r M = none) (ho : o = (.inl none, h)) : x_S l w M pc ls [] h o := by
  subst ho
  exact ⟨⟨Nat.le_refl _, Nat.le_refl _⟩, fun p e R s m args below meth c H locs cells slots mc ms lr Cx hl hR hS h1 h2 h3 h4 => vx_ret (W.widen (k := mc) (n := ms) (by omega) (by omega) (W.vret Cx.1.1 Cx.1.2.1 (Cx.1.2.2.2.1.trans hr) (fun t ht hW => ⟨_, rfl, rfl, by rw [ht]; exact hR.moved hW.alike, hS.F ht⟩) hS.2.2 hd (hlocks := Cx.1.2.2.2.2.1)))⟩
theorem e_ldc {idx : Nat} {v : Int32} (hd : decode (x_b M) pc = .ok (.ldc idx, 2)) (hw : Cond.constant (x_y M).cls idx v ∈ x_w) (k : x_S l w M (pc + 2) ls (.int v :: st) h o) : x_S l w M pc ls st h o :=
  x_pu (fun _ _ _ _ _ _ _ _ _ _ _ _ _ _ _ C _ k => lv_ldc C.1.1 C.1.2.1 C.2.1.2.1 (C.2.1.2.2.1 _ hw) hd k) k
theorem e_ldc2 {idx : Nat} {v : Int64} (hd : decode (x_b M) pc = .ok (.ldc2_w idx, 3)) (hw : Cond.constantLong (x_y M).cls idx v ∈ x_w) (k : x_S l w M (pc + 3) ls (.long v :: st) h o) : x_S l w M pc ls st h o :=
  x_pu (fun _ _ _ _ _ _ _ _ _ _ _ _ _ _ _ C _ k => lv_ldc2 C.1.1 C.1.2.1 C.2.1.2.1 (C.2.1.2.2.1 _ hw) hd k) k
theorem e_objInit {idx q : Nat} (hd : decode (x_b M) pc = .ok (.invokespecial idx, 3)) (hw : Cond.methodLink (x_y M).cls idx objectInit ∈ x_w) (hw2 : Cond.instanceMethod objectInit ∈ x_w) (hw3 : Cond.code objectInit ⟨#[0xb1]⟩ 1 none ∈ x_w) (hf : 1 ≤ x_f M) (hs : (st.map fun v => v.category).sum + 12 ≤ x_s M) (k : x_S l w M (pc + 3) ls st h o) : x_S l w M pc ls (.ref q :: st) h o :=
  x_pu (fun _ _ R _ _ _ _ _ _ _ _ _ _ _ _ C hl k => W.objInit C.1.1 C.1.2.1 C.2.1.2.1 (C.2.1.2.2.1 _ hw) (C.2.1.2.2.1 _ hw2) (C.2.1.2.2.1 _ hw3) rfl (by rw [C.1.2.2.1]; exact hl.1) rfl hd (Nat.le_trans hf C.2.1.2.2.2.1) (Nat.le_trans (by show 2 * 0 + _ + 12 ≤ _; omega) C.2.1.2.2.2.2) k) k
/-- thrown out of a method whose table doesn't hold it -/
theorem t_out {E : String} (ht : ∀ x ∈ tableOf (x_t M), covers x pc = false) (ho : o = (.inr E, h)) : x_T l w M pc ls st h E o := by
  subst ho
  exact ⟨⟨Nat.le_refl _, Nat.le_refl _⟩, fun p e R s m args below meth c H locs cells slots mc ms lr q ce Cx hl hR hS h1 h2 h3 h4 g1 g2 g3 => vx_out (by rw [Cx.2.1.1]; exact ht) Cx.1.2.2.2.2.1 g1 g2 g3 (fun t ht hW => ⟨rfl, by rw [ht]; exact hR.moved hW, hS.F ht⟩) hS.2.2 (by omega) (by omega)⟩
/-- a method's contract out of its walk -/
theorem x_met (hM : x_OK M) {as : List Value} (hfit : (lg_sl as).length ≤ x_n M) (k : x_S l w M 0 (lv_args 0 as) [] h o) :
    vx_Met l (x_y M) (x_code M :: x_w) { frames := x_f M, cells := o.2.1 - h.1, slots := o.2.2.1 - h.2.1, locals := x_s M } (va_Pc as (fun U => x_G l w U ∧ x_R w.1 w.2.1 U U.heap h)) (x_Q w o) (x_X w o) (o.2.1 - h.1) (o.2.2.1 - h.2.1) (x_A w.2.1) := by
  have body : ∀ (p : Program) (e : Env) (s : State) (m : MethodId) (args : Array Value) (below : List Frame) (meth : Method) (c : Code) (s₁ : State), BodyLoose p l (x_y M) (headSpec (x_code M :: x_w) { frames := x_f M, cells := o.2.1 - h.1, slots := o.2.2.1 - h.2.1, locals := x_s M }) (x_b M) (x_n M) (x_r M) e s m args below meth c s₁ → c.maxLocals = x_n M → c.exceptionTable.toList = tableOf (x_t M) → va_Pc as (fun U => x_G l w U ∧ x_R w.1 w.2.1 U U.heap h) args s →
      W p l e { frames := x_f M, cells := o.2.1 - h.1, slots := o.2.2.1 - h.2.1, locals := x_s M } s m args below meth c s.heap [] 0 0 (vx_MQ below (x_Q w o) (x_X w o) args s (o.2.1 - h.1) (o.2.2.1 - h.2.1) (x_A w.2.1)) (entryFrame m args (x_n M)) := by
    intro p e s m args below meth c s₁ B hml htb hP
    obtain ⟨rfl, hG, hR⟩ := hP
    have hts := atoms_spec (ws := x_code M :: x_w) B.pre
    have hl := lv_entry as (n := x_n M) hfit
    rw [lg_entry_eq]
    generalize (lg_sl as ++ List.replicate (x_n M - (lg_sl as).length) Slot.unset).toArray = lr at hl ⊢
    exact k.2 p e _ s m as.toArray below meth c s.heap [] 0 0 _ _ lr ⟨⟨B.exec, B.bytes, hml, B.returns, B.notSynchronized, (name_of_methodNamed B.named B.method).1⟩, ⟨htb, findClass_of_methodNamed B.named, fun v hv => hts v (List.mem_cons_of_mem _ hv), Nat.le_refl _, Nat.le_refl _⟩, hG⟩ hl hR va_S.rf (by omega) (by omega) (Nat.le_refl _) (Nat.le_refl _)
  by_cases ht : x_t M = []
  · have hc : x_code M = .code (x_y M) (x_b M) (x_n M) (x_r M) := if_pos ht
    refine vx_ofW (cc := x_b M) (maxL := x_n M) (ret := x_r M) hM (by rw [hc]) ?_
    intro p e s m args below meth c s₁ B hml hno hP
    refine body p e s m args below meth c s₁ B hml ?_ hP
    rw [ht]
    cases hx : c.exceptionTable.toList with
    | nil => rfl
    | cons a b => exact absurd (hno a (by rw [hx]; exact List.mem_cons_self)) id
  · have hc : x_code M = .codeWith (x_y M) (x_b M) (x_n M) (x_r M) (x_t M) := if_neg ht
    refine vx_ofWH (cc := x_b M) (maxL := x_n M) (ret := x_r M) (hh := x_t M) hM (by rw [hc]) ?_
    intro p e s m args below meth c s₁ B hml hP
    refine body p e s m args below meth c s₁ B hml ?_ hP
    exact vx_table B (by rw [← hc]; exact atoms_spec (ws := x_code M :: x_w) B.pre _ List.mem_cons_self)
/-- behind a call -/
theorem x_after {aa : Array Value} (hm : h.1 ≤ o'.2.1 ∧ h.2.1 ≤ o'.2.2.1)
    (hrun : ∀ (p : Program) (e : Env) (R : Room) (s : State) (m : MethodId) (args : Array Value) (below : List Frame) (meth : Method) (c : Code) (H : Heap) (locs : List Loc) (cells slots : Nat) (lr : Array Slot), x_C l w M p R s m args meth c → lv_has lr (x_n M) ls → x_R w.1 w.2.1 s H h → va_S (x_A w.2.1) s.heap H locs → cells + (o'.2.1 - h.1) ≤ R.cells → slots + (o'.2.2.1 - h.2.1) ≤ R.slots →
      vx_Run p l e R s m args below meth c H locs cells slots (o'.2.1 - h.1) (o'.2.2.1 - h.2.1) (F0 m pc lr st) rest (x_Q w o' aa) (x_X w o') (x_A w.2.1))
    (hmo : o'.2.1 ≤ o.2.1 ∧ o'.2.2.1 ≤ o.2.2.1)
    (kr : ∀ v : Option Value, o'.1 = .inl v → x_S l w M (pc + 3) ls (v.toList ++ rest) o'.2 o) (kx : ∀ E : String, o'.1 = .inr E → x_T l w M pc ls rest o'.2 E o) : x_S l w M pc ls st h o := by
  refine ⟨⟨Nat.le_trans hm.1 hmo.1, Nat.le_trans hm.2 hmo.2⟩, fun p e R s m args below meth c H locs cells slots mc ms lr Cx hl hR hS h1 h2 h3 h4 => ?_⟩
  intro T hT X
  rcases hrun p e R s m args below meth c H locs cells slots lr Cx hl hR hS (by omega) (by omega) T hT X with ⟨v, st₀, t, T', L, g0, X', gL, e1, e2, ⟨v', hv1, hv2, hv3, hv4⟩, st⟩ | ⟨q, st₀, t, T', L, E, ce, g0, X', gL, e1, e2, ⟨hv1, hv3, hv4⟩, hce, hcv, hcl, st⟩
  · cases hv2
    obtain ⟨-, -, hS'⟩ := vx_keep (A0 := x_A w.2.1) (A1 := x_A w.2.1) (H0 := s.heap) g0 e1 hS (fun _ _ z => z) (fun _ z => z) gL hv4
    have hal : t.vm.Alike s.vm := by rw [← e2]; exact X'.warmed.alike.symm
    obtain ⟨t2, a1, b1⟩ := (kr v hv1).2 p e R s m args below meth c T'.heap (locs ++ L) _ _ mc ms lr Cx hl (by rw [e1]; exact hv3.moved hal) hS' (by omega) (by omega) h3 h4 T' rfl X'
    exact ⟨t2, st t2 a1, b1⟩
  · obtain ⟨-, -, hS'⟩ := vx_keep (A0 := x_A w.2.1) (A1 := x_A w.2.1) (H0 := s.heap) g0 e1 hS (fun _ _ z => z) (fun _ z => z) gL hv4
    have hal : t.vm.Alike s.vm := by rw [← e2]; exact X'.warmed.alike.symm
    obtain ⟨t2, a1, b1⟩ := (kx E hv1).2 p e R s m args below meth c T'.heap (locs ++ L) _ _ mc ms lr q ce Cx hl (by rw [e1]; exact hv3.moved hal) hS' (by omega) (by omega) h3 h4 (by rw [e1]; exact hce) hcv hcl T' rfl X'
    exact ⟨t2, st.trans a1, b1⟩
end XC
