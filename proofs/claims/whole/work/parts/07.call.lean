/-! rows of the lite machine: ends, throws, calls -/
theorem x_G.at {l : Launch} {w : xW} {s U : State} {H : Heap} {locs : List Loc} (g : x_G l w s) (hS : va_S (x_A w.2.1) s.heap H locs) (hU : U.heap = H) (hW : s.WarmedH U.vm) : x_G l w U := by
  obtain ⟨g1, g2, g3, g4, g5, g6, g7, g8, g9, g10, g11⟩ := g
  subst hU
  have hvm := hW.alike
  exact ⟨g1, Nat.le_trans g2 hS.1, va_K.moved hvm g3, vx_Zq.moved hvm (g4.kept hS.2.1), vx_Zq.moved hvm (g5.kept hS.2.1), va_Z.moved hvm (g6.kept hS.2.1), va_Zq.moved hvm (g7.kept hS.2.1), g8.moved hvm, g9.warm hW, g10.warm hW, g11.warm hW⟩
/-- the method's frame, with an object of the class E thrown over it -/
def x_T (l : Launch) (w : xW) (M : xM) (pc : Nat) (ls : List (Nat × Value)) (st : List Value) (h : xH) (E : String) (o : xO × xH) : Prop :=
  (h.1 ≤ o.2.1 ∧ h.2.1 ≤ o.2.2.1) ∧
  ∀ (p : Program) (e : Env) (R : Room) (s : State) (m : MethodId) (args : Array Value) (below : List Frame) (meth : Method) (c : Code) (H : Heap) (locs : List Loc) (cells slots mc ms : Nat) (lr : Array Slot) (q : Nat) (ce : Cell),
    x_C l w M p R s m args meth c → lv_has lr (x_n M) ls → x_R w.1 w.2.1 s H h → va_S (x_A w.2.1) s.heap H locs →
    cells + (o.2.1 - h.1) ≤ mc → slots + (o.2.2.1 - h.2.1) ≤ ms → mc ≤ R.cells → ms ≤ R.slots →
    H[q]? = some ce → ce.vm = .none → s.vm.findClass E = some ce.cls →
    vx_W p l e R s m args below meth c H locs cells slots (vx_MQ below (x_Q w o) (x_X w o) args s mc ms (x_A w.2.1)) (F0 m pc lr st) q
/-- a method of the tables: it is no native's -/
def x_OK (M : xM) : Prop := plainFor (x_y M) = true
section XC
variable {l : Launch} {w : xW} {M M' : xM} {pc pc' : Nat} {ls ls' : List (Nat × Value)} {st st' rest : List Value} {h h' : xH} {o o' : xO × xH}
theorem e_ireturn {v : Int32} {ty : FieldType} (hd : decode (x_b M) pc = .ok (.ireturn, 1)) (hr : x_r M = some ty) (hn : narrow ty (.int v) = .int v) (ho : o = (.inl (some (.int v)), h)) : x_S l w M pc ls [.int v] h o := by
  subst ho
  exact ⟨⟨Nat.le_refl _, Nat.le_refl _⟩, fun p e R s m args below meth c H locs cells slots mc ms lr Cx hl hR hS h1 h2 h3 h4 => vx_ret (W.widen (k := mc) (n := ms) (by omega) (by omega) (W.zret Cx.1.1 Cx.1.2.1 (Cx.1.2.2.2.1.trans hr) hn (fun t ht hW => ⟨_, rfl, rfl, by rw [ht]; exact hR.moved hW.alike, hS.F ht⟩) hS.2.2 hd (hlocks := Cx.1.2.2.2.2.1)))⟩
theorem e_lreturn {v : Int64} (hd : decode (x_b M) pc = .ok (.lreturn, 1)) (hr : x_r M = some .long) (ho : o = (.inl (some (.long v)), h)) : x_S l w M pc ls [.long v] h o := by
  subst ho
  exact ⟨⟨Nat.le_refl _, Nat.le_refl _⟩, fun p e R s m args below meth c H locs cells slots mc ms lr Cx hl hR hS h1 h2 h3 h4 => vx_ret (W.widen (k := mc) (n := ms) (by omega) (by omega) (W.lret Cx.1.1 Cx.1.2.1 (Cx.1.2.2.2.1.trans hr) (fun t ht hW => ⟨_, rfl, rfl, by rw [ht]; exact hR.moved hW.alike, hS.F ht⟩) hS.2.2 hd (hlocks := Cx.1.2.2.2.2.1)))⟩
theorem e_areturn {v : Nat} {rt : FieldType} (hd : decode (x_b M) pc = .ok (.areturn, 1)) (hr : x_r M = some rt) (hrt : (∃ n, rt = .object n) ∨ ∃ t, rt = .array t) (ho : o = (.inl (some (.ref v)), h)) : x_S l w M pc ls [.ref v] h o := by
  subst ho
  exact ⟨⟨Nat.le_refl _, Nat.le_refl _⟩, fun p e R s m args below meth c H locs cells slots mc ms lr Cx hl hR hS h1 h2 h3 h4 => vx_ret (W.widen (k := mc) (n := ms) (by omega) (by omega) (W.aret Cx.1.1 Cx.1.2.1 (Cx.1.2.2.2.1.trans hr) hrt (Or.inr ⟨_, rfl⟩) (fun t ht hW => ⟨_, rfl, rfl, by rw [ht]; exact hR.moved hW.alike, hS.F ht⟩) hS.2.2 hd (hlocks := Cx.1.2.2.2.2.1)))⟩
theorem e_return (hd : decode (x_b M) pc = .ok (.return_, 1)) (hr : x_r M = none) (ho : o = (.inl none, h)) : x_S l w M pc ls [] h o := by
  subst ho
  exact ⟨⟨Nat.le_refl _, Nat.le_refl _⟩, fun p e R s m args below meth c H locs cells slots mc ms lr Cx hl hR hS h1 h2 h3 h4 => vx_ret (W.widen (k := mc) (n := ms) (by omega) (by omega) (W.vret Cx.1.1 Cx.1.2.1 (Cx.1.2.2.2.1.trans hr) (fun t ht hW => ⟨_, rfl, rfl, by rw [ht]; exact hR.moved hW.alike, hS.F ht⟩) hS.2.2 hd (hlocks := Cx.1.2.2.2.2.1)))⟩
theorem e_ldc {idx : Nat} {v : Int32} (hd : decode (x_b M) pc = .ok (.ldc idx, 2)) (hw : Cond.constant (x_y M).cls idx v ∈ x_w) (k : x_S l w M (pc + 2) ls (.int v :: st) h o) : x_S l w M pc ls st h o :=
  x_pu (fun _ _ _ _ _ _ _ _ _ _ _ _ _ _ _ C _ k => lv_ldc C.1.1 C.1.2.1 C.2.1.2.1 (C.2.1.2.2.1 _ hw) hd k) k
theorem e_ldc2 {idx : Nat} {v : Int64} (hd : decode (x_b M) pc = .ok (.ldc2_w idx, 3)) (hw : Cond.constantLong (x_y M).cls idx v ∈ x_w) (k : x_S l w M (pc + 3) ls (.long v :: st) h o) : x_S l w M pc ls st h o :=
  x_pu (fun _ _ _ _ _ _ _ _ _ _ _ _ _ _ _ C _ k => lv_ldc2 C.1.1 C.1.2.1 C.2.1.2.1 (C.2.1.2.2.1 _ hw) hd k) k
theorem e_objInit {idx q : Nat} (hd : decode (x_b M) pc = .ok (.invokespecial idx, 3)) (hw : Cond.methodLink (x_y M).cls idx objectInit ∈ x_w) (hw2 : Cond.instanceMethod objectInit ∈ x_w) (hw3 : Cond.code objectInit ⟨#[0xb1]⟩ 1 none ∈ x_w) (hf : 1 ≤ x_f M) (hs : (st.map fun v => v.category).sum + 12 ≤ x_s M) (k : x_S l w M (pc + 3) ls st h o) : x_S l w M pc ls (.ref q :: st) h o :=
  x_pu (fun _ _ R _ _ _ _ _ _ _ _ _ _ _ _ C hl k => W.objInit C.1.1 C.1.2.1 C.2.1.2.1 (C.2.1.2.2.1 _ hw) (C.2.1.2.2.1 _ hw2) (C.2.1.2.2.1 _ hw3) rfl (by rw [C.1.2.2.1]; exact hl.1) rfl hd (Nat.le_trans hf C.2.1.2.2.2.1) (Nat.le_trans (by show 2 * 0 + _ + 12 ≤ _; omega) C.2.1.2.2.2.2) k) k
/-- thrown out of a method whose table doesn't hold it -/
theorem t_out {E : String} (ht : ∀ x ∈ tableOf (x_t M), covers x pc = false) (ho : o = (.inr E, h)) : x_T l w M pc ls st h E o := by
  subst ho
  exact ⟨⟨Nat.le_refl _, Nat.le_refl _⟩, fun p e R s m args below meth c H locs cells slots mc ms lr q ce Cx hl hR hS h1 h2 h3 h4 g1 g2 g3 => vx_out (by rw [Cx.2.1.1]; exact ht) Cx.1.2.2.2.2.1 g1 g2 g3 (fun t ht hW => ⟨rfl, by rw [ht]; exact hR.moved hW, hS.F ht⟩) hS.2.2 (by omega) (by omega)⟩
/-- a method's contract out of its walk -/
theorem x_met (hM : x_OK M) {as : List Value} (hfit : (lg_sl as).length ≤ x_n M) (k : x_S l w M 0 (lv_args 0 as) [] h o) :
    vx_Met l (x_y M) (x_code M :: x_w) { frames := x_f M, cells := o.2.1 - h.1, slots := o.2.2.1 - h.2.1, locals := x_s M } (va_Pc as (fun U => x_G l w U ∧ x_R w.1 w.2.1 U U.heap h)) (x_Q w o) (x_X w o) (o.2.1 - h.1) (o.2.2.1 - h.2.1) (x_A w.2.1) := by
  have body : ∀ (p : Program) (e : Env) (s : State) (m : MethodId) (args : Array Value) (below : List Frame) (meth : Method) (c : Code) (s₁ : State), BodyLoose p l (x_y M) (headSpec (x_code M :: x_w) { frames := x_f M, cells := o.2.1 - h.1, slots := o.2.2.1 - h.2.1, locals := x_s M }) (x_b M) (x_n M) (x_r M) e s m args below meth c s₁ → c.maxLocals = x_n M → c.exceptionTable.toList = tableOf (x_t M) → va_Pc as (fun U => x_G l w U ∧ x_R w.1 w.2.1 U U.heap h) args s →
      W p l e { frames := x_f M, cells := o.2.1 - h.1, slots := o.2.2.1 - h.2.1, locals := x_s M } s m args below meth c s.heap [] 0 0 (vx_MQ below (x_Q w o) (x_X w o) args s (o.2.1 - h.1) (o.2.2.1 - h.2.1) (x_A w.2.1)) (entryFrame m args (x_n M)) := by
    intro p e s m args below meth c s₁ B hml htb hP
    obtain ⟨rfl, hG, hR⟩ := hP
    have hts := atoms_spec (ws := x_code M :: x_w) B.pre
    have hl := lv_entry as (n := x_n M) hfit
    rw [lg_entry_eq]
    generalize (lg_sl as ++ List.replicate (x_n M - (lg_sl as).length) Slot.unset).toArray = lr at hl ⊢
    exact k.2 p e _ s m as.toArray below meth c s.heap [] 0 0 _ _ lr ⟨⟨B.exec, B.bytes, hml, B.returns, B.notSynchronized, (name_of_methodNamed B.named B.method).1⟩, ⟨htb, findClass_of_methodNamed B.named, fun v hv => hts v (List.mem_cons_of_mem _ hv), Nat.le_refl _, Nat.le_refl _⟩, hG⟩ hl hR va_S.rf (by omega) (by omega) (Nat.le_refl _) (Nat.le_refl _)
  by_cases ht : x_t M = []
  · have hc : x_code M = .code (x_y M) (x_b M) (x_n M) (x_r M) := if_pos ht
    refine MetFree.of_bodySF (code := x_b M) (maxLocals := x_n M) (ret := x_r M) hM ?_ ?_
    · intro args s m hh hn
      obtain ⟨meth, c, h1, h2, h3, h4, h5, h6, -, -⟩ := Cond.code_spec hn (show (Cond.code (x_y M) (x_b M) (x_n M) (x_r M)).before args s = true by rw [← hc]; exact atoms_spec (ws := x_code M :: x_w) hh _ List.mem_cons_self)
      exact ⟨meth, c, h1, h2, h3, h4, h5, h6⟩
    · intro p e s m args below meth c s₁ B hml hP _
      have hh0 : s₁.heap = s.heap := by rw [B.state]; rfl
      have htb : c.exceptionTable.toList = tableOf (x_t M) := by
        obtain ⟨meth9, c9, h1, h2, -, -, -, -, h7, -⟩ := Cond.code_spec B.named (show (Cond.code (x_y M) (x_b M) (x_n M) (x_r M)).before args s = true by rw [← hc]; exact atoms_spec (ws := x_code M :: x_w) B.pre _ List.mem_cons_self)
        cases Option.some.inj (h1.symm.trans B.method)
        cases Option.some.inj (h2.symm.trans (Stand.of_body B).code)
        rw [ht, Array.isEmpty_iff.mp h7]
        rfl
      obtain ⟨t, a1, o, b1, b2, b3⟩ := body p e s m args below meth c s₁ B hml htb hP s₁ hh0 (Stand.of_body B)
      exact ⟨t, o, a1, b1, b2, b3⟩
  · have hc : x_code M = .codeWith (x_y M) (x_b M) (x_n M) (x_r M) (x_t M) := if_neg ht
    refine MetFree.of_bodySF (code := x_b M) (maxLocals := x_n M) (ret := x_r M) hM ?_ ?_
    · intro args s m hh hn
      obtain ⟨m9, meth, c, hn9, h1, h2, h3, h4, -, h5, h6, -⟩ := Cond.codeWith_spec (show (Cond.codeWith (x_y M) (x_b M) (x_n M) (x_r M) (x_t M)).before args s = true by rw [← hc]; exact atoms_spec (ws := x_code M :: x_w) hh _ List.mem_cons_self)
      cases hn.symm.trans hn9
      exact ⟨meth, c, h1, h2, h3, h4, h5, h6⟩
    · intro p e s m args below meth c s₁ B hml hP _
      have hh0 : s₁.heap = s.heap := by rw [B.state]; rfl
      obtain ⟨t, a1, o, b1, b2, b3⟩ := body p e s m args below meth c s₁ B hml (vx_table (x := x_y M) B (by rw [← hc]; exact atoms_spec (ws := x_code M :: x_w) B.pre _ List.mem_cons_self)) hP s₁ hh0 (Stand.of_body B)
      exact ⟨t, o, a1, b1, b2, b3⟩
/-- behind a call -/
theorem x_after {aa : Array Value} (hm : h.1 ≤ o'.2.1 ∧ h.2.1 ≤ o'.2.2.1)
    (hrun : ∀ (p : Program) (e : Env) (R : Room) (s : State) (m : MethodId) (args : Array Value) (below : List Frame) (meth : Method) (c : Code) (H : Heap) (locs : List Loc) (cells slots : Nat) (lr : Array Slot), x_C l w M p R s m args meth c → lv_has lr (x_n M) ls → x_R w.1 w.2.1 s H h → va_S (x_A w.2.1) s.heap H locs → cells + (o'.2.1 - h.1) ≤ R.cells → slots + (o'.2.2.1 - h.2.1) ≤ R.slots →
      vx_Run p l e R s m args below meth c H locs cells slots (o'.2.1 - h.1) (o'.2.2.1 - h.2.1) (F0 m pc lr st) rest (x_Q w o' aa) (x_X w o') (x_A w.2.1))
    (kr : ∀ v : Option Value, o'.1 = .inl v → x_S l w M (pc + 3) ls (v.toList ++ rest) o'.2 o) (kx : ∀ E : String, o'.1 = .inr E → x_T l w M pc ls rest o'.2 E o) : x_S l w M pc ls st h o := by
  have hmo : o'.2.1 ≤ o.2.1 ∧ o'.2.2.1 ≤ o.2.2.1 := by
    cases ho : o'.1 with
    | inl v => exact (kr v ho).1
    | inr E => exact (kx E ho).1
  refine ⟨⟨Nat.le_trans hm.1 hmo.1, Nat.le_trans hm.2 hmo.2⟩, fun p e R s m args below meth c H locs cells slots mc ms lr Cx hl hR hS h1 h2 h3 h4 => ?_⟩
  intro T hT X
  rcases hrun p e R s m args below meth c H locs cells slots lr Cx hl hR hS (by omega) (by omega) T hT X with ⟨v, st₀, t, T', L, g0, X', gL, e1, e2, ⟨v', hv1, hv2, hv3, hv4⟩, st⟩ | ⟨q, st₀, t, T', L, E, ce, g0, X', gL, e1, e2, ⟨hv1, hv3, hv4⟩, hce, hcv, hcl, st⟩
  · cases hv2
    obtain ⟨-, -, hS'⟩ := vx_keep (A0 := x_A w.2.1) (A1 := x_A w.2.1) (H0 := s.heap) g0 e1 hS (fun _ _ z => z) (fun _ z => z) gL hv4
    have hal : t.vm.Alike s.vm := by rw [← e2]; exact X'.warmed.alike.symm
    obtain ⟨t2, a1, b1⟩ := (kr v hv1).2 p e R s m args below meth c T'.heap (locs ++ L) _ _ mc ms lr Cx hl (by rw [e1]; exact hv3.moved hal) hS' (by omega) (by omega) h3 h4 T' rfl X'
    exact ⟨t2, st t2 a1, b1⟩
  · obtain ⟨-, -, hS'⟩ := vx_keep (A0 := x_A w.2.1) (A1 := x_A w.2.1) (H0 := s.heap) g0 e1 hS (fun _ _ z => z) (fun _ z => z) gL hv4
    have hal : t.vm.Alike s.vm := by rw [← e2]; exact X'.warmed.alike.symm
    obtain ⟨t2, a1, b1⟩ := (kx E hv1).2 p e R s m args below meth c T'.heap (locs ++ L) _ _ mc ms lr q ce Cx hl (by rw [e1]; exact hv3.moved hal) hS' (by omega) (by omega) h3 h4 (by rw [e1]; exact hce) hcv hcl T' rfl X'
    exact ⟨t2, st.trans a1, b1⟩

/-- what a call's site asks: the callee's words, its room within the caller's -/
def x_CS (M M' : xM) (n : Nat) : Prop :=
  x_OK M' ∧ x_code M' ∈ x_w ∧ Cond.initialized (x_y M').cls ∈ x_w ∧ ((x_y M').cls ≠ "java/lang/invoke/MethodHandle" ∧ (x_y M').cls ≠ "java/lang/invoke/VarHandle") ∧ (parseMethodDescriptor (x_y M').desc).map (fun d => d.parameters.length) = some n ∧ x_f M' + 1 ≤ x_f M ∧ 8 + (x_n M' + 11) + x_s M' ≤ x_s M
/-- the receiver -/
def x_rc (h : xH) (b : Nat) (C : String) : Prop := (∃ (c : Nat) (T : u_T) (N : Nat) (ty : Nat → FieldType) (fs : List Value), x_CL c C T N ty ∧ h.2.2 b = .inr (c, fs)) ∨ (C = "java/lang/String" ∧ ∃ fs : List Value, h.2.2 b = .inr (100, fs))
theorem x_recv {D : va_G} {lo : Nat} {s : State} {H : Heap} {b : Nat} {C : String} (hR : x_R D lo s H h) (hK : va_K D vwCl [] s) (hb : b < h.1) (hr : x_rc h b C) : ∃ cellB : Cell, H[b]? = some cellB ∧ cellB.vm.isStatics = false ∧ s.vm.findClass C = some cellB.cls := by
  have hx := hR.2 b hb
  rcases hr with ⟨c, T, N, ty, fs, ⟨hc, -⟩, he⟩ | ⟨rfl, fs, he⟩
  · rw [he] at hx
    obtain ⟨-, cell, q1, q2, q3, -⟩ := hx.1 _ hc
    exact ⟨cell, q1, by rw [q3]; rfl, by rw [q2]; exact (hK.1 c _ hc).2.1⟩
  · rw [he] at hx
    obtain ⟨-, ⟨cell, q1, q2, q3, -⟩, -⟩ := hx.2 rfl
    exact ⟨cell, q1, q2, q3⟩
theorem x_par {y : MethodName} {n : Nat} (h : (parseMethodDescriptor y.desc).map (fun d => d.parameters.length) = some n) : ∀ sig, parseMethodDescriptor y.desc = some sig → n = sig.parameters.length := fun sig h1 => by
  rw [h1] at h
  exact (Option.some.inj h).symm
theorem x_ws {args : Array Value} {s : State} (hts : ∀ v ∈ x_w, v.before args s = true) (hc : x_code M' ∈ x_w) : ∀ v ∈ x_code M' :: x_w, ∀ (a' : Array Value) (U : State), s.WarmedH U.vm → v.before a' U = true := fun v hv a' U hW => by
  rcases List.mem_cons.mp hv with rfl | hv
  · exact x_w_kept hts _ hc a' U hW
  · exact x_w_kept hts _ hv a' U hW
theorem x_blind {as : List Value} : FrameBlind (va_Pc as (fun U => x_G l w U ∧ x_R w.1 w.2.1 U U.heap h)) := fun a U g mk q => ⟨q.1, x_G.at (U := U.calling g mk a) q.2.1 (va_S.rf) rfl (State.WarmedH.refl U), x_R.moved (U := U.calling g mk a) (Vm.Alike.refl U.vm) q.2.2⟩
theorem x_pre {as : List Value} {s : State} {H : Heap} {locs : List Loc} (hG : x_G l w s) (hR : x_R w.1 w.2.1 s H h) (hS : va_S (x_A w.2.1) s.heap H locs) : ∀ U : State, U.heap = H → s.WarmedH U.vm → va_Pc as (fun U => x_G l w U ∧ x_R w.1 w.2.1 U U.heap h) as.toArray U := fun U hU hW => ⟨rfl, hG.at hS hU hW, by rw [hU]; exact hR.moved hW.alike⟩
theorem e_callV {idx n b : Nat} {as : List Value} (hd : decode (x_b M) pc = .ok (.invokevirtual idx, 3)) (hk : x_CS M M' n) (hl1 : Cond.methodLink (x_y M).cls idx (x_y M') ∈ x_w) (hl2 : Cond.instanceMethod (x_y M') ∈ x_w) (hl3 : Cond.selects (x_y M').cls (x_y M') (x_y M') ∈ x_w) (hst : st = as.reverse ++ .ref b :: rest) (hn : as.length = n) (hW : (rest.map fun v => v.category).sum ≤ 8) (hfit : (lg_sl (.ref b :: as)).length ≤ x_n M') (hb : b < h.1) (hrc : x_rc h b (x_y M').cls)
    (kc : x_S l w M' 0 (lv_args 0 (.ref b :: as)) [] h o') (kr : ∀ v : Option Value, o'.1 = .inl v → x_S l w M (pc + 3) ls (v.toList ++ rest) o'.2 o) (kx : ∀ E : String, o'.1 = .inr E → x_T l w M pc ls rest o'.2 E o) : x_S l w M pc ls st h o := by
  obtain ⟨k1, k2, k3, k4, k5, k6, k7⟩ := hk
  refine x_after (aa := (Value.ref b :: as).toArray) kc.1 (fun p e R s m args below meth c H locs cells slots lr Cx hl hR hS h1 h2 => ?_) kr kx
  have hts := Cx.2.1.2.2.1
  have hf1 : x_f M' + 1 ≤ R.frames := Nat.le_trans k6 Cx.2.1.2.2.2.1
  have hf2 : 8 + (x_n M' + 11) + x_s M' ≤ R.locals := Nat.le_trans k7 Cx.2.1.2.2.2.2
  have hp : PreV s H (x_y M').cls b (va_Pc (.ref b :: as) (fun U => x_G l w U ∧ x_R w.1 w.2.1 U U.heap h)) as := ⟨x_blind, x_recv hR Cx.2.2.2.2.1 hb hrc, x_pre Cx.2.2 hR hS⟩
  by_cases ht : x_t M' = []
  · have hc : x_code M' = .code (x_y M') (x_b M') (x_n M') (x_r M') := if_pos ht
    exact vx_runV (bytes := x_b M') (maxL := x_n M') (ret := x_r M') ⟨Cx.1.1, Cx.1.2.1, Cx.1.2.2.1, Cx.2.1.2.1, hts⟩ (x_met k1 hfit kc) ⟨⟨rfl, rfl, hf1, hf2, x_ws hts k2, by rw [← hc]; exact List.mem_cons_self, by rw [← hc]; exact hts _ k2, hts _ k3, k4, x_par k5, hts _ hl1⟩, hts _ hl2, hts _ hl3⟩ hp rfl hn hl.1 hst (by show 2 * 0 + _ ≤ 8; omega) hd ⟨h1, h2⟩
  · have hc : x_code M' = .codeWith (x_y M') (x_b M') (x_n M') (x_r M') (x_t M') := if_neg ht
    exact vx_runVX (hh := x_t M') (bytes := x_b M') (maxL := x_n M') (ret := x_r M') ⟨Cx.1.1, Cx.1.2.1, Cx.1.2.2.1, Cx.2.1.2.1, hts⟩ (x_met k1 hfit kc) ⟨⟨rfl, rfl, hf1, hf2, x_ws hts k2, by rw [← hc]; exact List.mem_cons_self⟩, by rw [← hc]; exact hts _ k2, hts _ k3, k4, x_par k5, hts _ hl1, hts _ hl2, hts _ hl3⟩ hp rfl hn hl.1 hst (by show 2 * 0 + _ ≤ 8; omega) hd ⟨h1, h2⟩
theorem e_callS {idx n : Nat} {as : List Value} (hd : decode (x_b M) pc = .ok (.invokestatic idx, 3)) (hk : x_CS M M' n) (hl1 : Cond.methodLink (x_y M).cls idx (x_y M') ∈ x_w) (hl2 : Cond.static (x_y M') ∈ x_w) (hst : st = as.reverse ++ rest) (hn : as.length = n) (hW : (rest.map fun v => v.category).sum ≤ 8) (hfit : (lg_sl as).length ≤ x_n M')
    (kc : x_S l w M' 0 (lv_args 0 as) [] h o') (kr : ∀ v : Option Value, o'.1 = .inl v → x_S l w M (pc + 3) ls (v.toList ++ rest) o'.2 o) (kx : ∀ E : String, o'.1 = .inr E → x_T l w M pc ls rest o'.2 E o) : x_S l w M pc ls st h o := by
  obtain ⟨k1, k2, k3, k4, k5, k6, k7⟩ := hk
  refine x_after (aa := as.toArray) kc.1 (fun p e R s m args below meth c H locs cells slots lr Cx hl hR hS h1 h2 => ?_) kr kx
  have hts := Cx.2.1.2.2.1
  have hf1 : x_f M' + 1 ≤ R.frames := Nat.le_trans k6 Cx.2.1.2.2.2.1
  have hf2 : 8 + (x_n M' + 11) + x_s M' ≤ R.locals := Nat.le_trans k7 Cx.2.1.2.2.2.2
  have hp : PreS s H (va_Pc as (fun U => x_G l w U ∧ x_R w.1 w.2.1 U U.heap h)) as := ⟨x_blind, x_pre Cx.2.2 hR hS⟩
  by_cases ht : x_t M' = []
  · have hc : x_code M' = .code (x_y M') (x_b M') (x_n M') (x_r M') := if_pos ht
    exact vx_runS (bytes := x_b M') (maxL := x_n M') (ret := x_r M') ⟨Cx.1.1, Cx.1.2.1, Cx.1.2.2.1, Cx.2.1.2.1, hts⟩ (x_met k1 hfit kc) ⟨⟨rfl, rfl, hf1, hf2, x_ws hts k2, by rw [← hc]; exact List.mem_cons_self, by rw [← hc]; exact hts _ k2, hts _ k3, k4, x_par k5, hts _ hl1⟩, hts _ hl2⟩ hp rfl hn hl.1 hst (by show 2 * 0 + _ ≤ 8; omega) hd ⟨h1, h2⟩
  · have hc : x_code M' = .codeWith (x_y M') (x_b M') (x_n M') (x_r M') (x_t M') := if_neg ht
    exact vx_runSX (hh := x_t M') (bytes := x_b M') (maxL := x_n M') (ret := x_r M') ⟨Cx.1.1, Cx.1.2.1, Cx.1.2.2.1, Cx.2.1.2.1, hts⟩ (x_met k1 hfit kc) ⟨⟨rfl, rfl, hf1, hf2, x_ws hts k2, by rw [← hc]; exact List.mem_cons_self⟩, by rw [← hc]; exact hts _ k2, hts _ k3, k4, x_par k5, hts _ hl1, hts _ hl2⟩ hp rfl hn hl.1 hst (by show 2 * 0 + _ ≤ 8; omega) hd ⟨h1, h2⟩
/-- a walk that returns, as a plain contract -/
theorem x_metR {v : Option Value} (ho : o.1 = .inl v) {y : MethodName} {ws : List Cond} {rm : Room} {Pc : Array Value → State → Prop} {mc ms : Nat} (hM : vx_Met l y ws rm Pc (x_Q w o) (x_X w o) mc ms (x_A w.2.1)) : Met l y ws rm Pc (x_Q w o) mc ms (x_A w.2.1) := by
  intro p e ha hc hk s m args below hf happ hP hK
  obtain ⟨n, oc, g1, g2, g3, g4⟩ := hM p e ha hc hk s m args below hf happ hP hK
  refine ⟨n, oc, g1, g2, g3, ?_⟩
  rcases g4 with g4 | ⟨q, -, E, ce, L, gx, -⟩
  · exact g4
  · have gz := gx.1
    rw [ho] at gz
    cases gz
theorem e_callI {idx n b : Nat} {as : List Value} (hd : decode (x_b M) pc = .ok (.invokespecial idx, 3)) (hk : x_CS M M' n) (hl1 : Cond.methodLink (x_y M).cls idx (x_y M') ∈ x_w ∨ ∃ host : String, Cond.methodLinkNest (x_y M).cls idx (x_y M') host ∈ x_w) (hl2 : Cond.instanceMethod (x_y M') ∈ x_w) (hnm : (x_y M').name = "<init>") (hrt : x_r M' = none) (ht : x_t M' = []) (hst : st = as.reverse ++ .ref b :: rest) (hn : as.length = n) (hW : (rest.map fun v => v.category).sum ≤ 8) (hfit : (lg_sl (.ref b :: as)).length ≤ x_n M')
    (ho : o'.1 = .inl none) (kc : x_S l w M' 0 (lv_args 0 (.ref b :: as)) [] h o') (kr : x_S l w M (pc + 3) ls rest o'.2 o) : x_S l w M pc ls st h o := by
  obtain ⟨k1, k2, k3, k4, k5, k6, k7⟩ := hk
  refine x_after (o' := o') (rest := rest) (aa := (Value.ref b :: as).toArray) kc.1 (fun p e R s m args below meth c H locs cells slots lr Cx hl hR hS h1 h2 => ?_) (fun v hv => ?_) (fun E hE => by rw [ho] at hE; cases hE)
  · have hts := Cx.2.1.2.2.1
    have hf1 : x_f M' + 1 ≤ R.frames := Nat.le_trans k6 Cx.2.1.2.2.2.1
    have hf2 : 8 + (x_n M' + 11) + x_s M' ≤ R.locals := Nat.le_trans k7 Cx.2.1.2.2.2.2
    have hp : PreS s H (va_Pc (.ref b :: as) (fun U => x_G l w U ∧ x_R w.1 w.2.1 U U.heap h)) (.ref b :: as) := ⟨x_blind, x_pre Cx.2.2 hR hS⟩
    have hc : x_code M' = .code (x_y M') (x_b M') (x_n M') none := by rw [← hrt]; exact if_pos ht
    have hM := x_metR ho (x_met k1 hfit kc)
    have hrun : va_Run p l e R s m args below meth c H locs cells slots (o'.2.1 - h.1) (o'.2.2.1 - h.2.1) (F0 m pc lr st) rest (x_Q w o' (Value.ref b :: as).toArray) (x_A w.2.1) := by
      rcases hl1 with hl1 | ⟨host, hl1⟩
      · exact va_runI (bytes := x_b M') (maxL := x_n M') ⟨Cx.1.1, Cx.1.2.1, Cx.1.2.2.1, Cx.2.1.2.1, hts⟩ hM ⟨⟨rfl, rfl, hf1, hf2, x_ws hts k2, by rw [← hc]; exact List.mem_cons_self, by rw [← hc]; exact hts _ k2, hts _ k3, k4, x_par k5, hts _ hl1⟩, hnm, hts _ hl2⟩ hp rfl hn hl.1 hst (by show 2 * 0 + _ ≤ 8; omega) hd ⟨h1, h2⟩
      · exact va_runIN (host := host) (bytes := x_b M') (maxL := x_n M') ⟨Cx.1.1, Cx.1.2.1, Cx.1.2.2.1, Cx.2.1.2.1, hts⟩ hM ⟨⟨⟨rfl, rfl, hf1, hf2, x_ws hts k2, by rw [← hc]; exact List.mem_cons_self⟩, by rw [← hc]; exact hts _ k2, hts _ k3, k4, x_par k5, hts _ hl1⟩, hnm, hts _ hl2⟩ hp rfl hn hl.1 hst (by show 2 * 0 + _ ≤ 8; omega) hd ⟨h1, h2⟩
    intro T hT X
    exact Or.inl (hrun T hT X)
  · rw [ho] at hv
    cases hv
    exact kr
end XC
