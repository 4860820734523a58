theorem vr_outer (c : ClassId) (N h0 : Nat) : ∀ i : Nat, Jvm.Free.Multi.outerC c N h0 i = arrV c N (fun j => va_rf (if j < i then some (h0 + 1 + j) else none))
  | 0 => by
    show ({ cls := c, slots := Array.replicate N .null, vm := .none } : Cell) = _
    rw [arrV_new]
    refine congrArg (arrV c N) (funext fun j => ?_)
    simp [va_rf]
  | i + 1 => by
    show (Jvm.Free.Multi.outerC c N h0 i).setSlot i (.ref (h0 + 1 + i)) = _
    rw [vr_outer c N h0 i, arrV_store]
    refine congrArg (arrV c N) (funext fun j => ?_)
    by_cases e : j = i
    · subst e
      simp [updV, va_rf]
    · by_cases h : j < i
      · simp [updV, e, h, Nat.lt_succ_of_lt h]
      · simp [updV, e, h, show ¬ j < i + 1 by omega]
section KL
variable {p : Program} {l : Launch} {e : Env} {R : Room} {s : State} {m : MethodId} {args : Array Value} {below : List Frame} {meth : Method} {c : Code} {H : Heap} {locs : List Loc} {cells slots : Nat} {Q : State → Prop}
variable {mc ms : Nat} {free : Addr → Prop} {A0 A1 : Nat → Prop} {H0 : Heap} {a : Array Value} {pc : Nat} {ls : Array Slot} {st0 rest : List Value}
/-- caught by the row x of this method's table; the rows ahead don't take it -/
theorem vx_catch {own name : String} {E : String} {ce : Cell} {q : Addr} (hown : s.vm.findClass own = some m.cls) (pre : List ExceptionTableEntry) (x : ExceptionTableEntry) (suf : List ExceptionTableEntry) (hsplit : c.exceptionTable.toList = pre ++ x :: suf)
    (hpass : ∀ z ∈ pre, covers z pc = false ∨ (z.catchType ≠ 0 ∧ ∃ nm : String, (Cond.classLink own z.catchType nm).before args s = true ∧ va_Nc E nm s)) (hx : covers x pc = true) (h0 : x.catchType ≠ 0)
    (hlink : (Cond.classLink own x.catchType name).before args s = true) (hcast : (Cond.castable E name).before args s = true) (hcell : H[q]? = some ce) (hv : ce.vm = .none) (hcl : s.vm.findClass E = some ce.cls)
    (kk : W p l e R s m args below meth c H locs cells slots Q (F0 m x.handlerPc ls [.ref q])) : vx_W p l e R s m args below meth c H locs cells slots Q (F0 m pc ls rest) q := by
  intro T hT X
  have hpl : e.platform.magicAccessors = ({} : Platform).magicAccessors := by rw [X.admits.platform]
  obtain ⟨c3, c4, hc3, hc4, hasg⟩ := Cond.castable_spec hcast
  cases Option.some.inj (hc3.symm.trans hcl)
  obtain ⟨c5, hc5, hcl5⟩ := Cond.classLink_spec hown hlink e.platform hpl
  cases Option.some.inj (hc4.symm.trans hc5)
  obtain ⟨vm', X', st⟩ := X.thenCaughtThrough q (g := F0 m pc ls rest) rfl (Steps.refl _) (by rw [hT]; exact hcell) (by rw [hv]; rfl) (by obtain ⟨k9, h9, -⟩ := Vm.findClass_spec hcl; exact ⟨k9, h9⟩) pre x suf hsplit
    (fun z hz => by
      rcases hpass z hz with h | ⟨hz0, nm, hl1, hn1⟩
      · exact Or.inl h
      · obtain ⟨c6, hc6, hcl6⟩ := Cond.classLink_spec hown hl1 e.platform hpl
        obtain ⟨a8, b8, h1, h2, h3⟩ := hn1
        cases Option.some.inj (h1.symm.trans hcl)
        cases Option.some.inj (h2.symm.trans hc6)
        exact Or.inr ⟨hz0, _, hcl6, h3⟩) hx (Or.inr ⟨h0, c4, hcl5, hasg⟩)
  obtain ⟨t, a1, b1⟩ := kk (T.setVm vm') hT X'
  exact ⟨t, st.trans a1, b1⟩
end KL
section XL
variable {l : Launch} {w : xW} {M M' : xM} {pc pc' : Nat} {ls ls' : List (Nat × Value)} {st st' rest : List Value} {h h' : xH} {o o' : xO × xH}
theorem x_tail {z : Nat × Value} (k : x_S l w M pc ls st h o) : x_S l w M pc (z :: ls) st h o :=
  ⟨k.1, fun p e R s m args below meth c H locs cells slots mc ms lr C hl hR hS h1 h2 h3 h4 => k.2 p e R s m args below meth c H locs cells slots mc ms lr C ⟨hl.1, hl.2.1, fun q hq => hl.2.2 q (List.mem_cons_of_mem _ hq)⟩ hR hS h1 h2 h3 h4⟩
/-- caught by a row of the method's table -/
theorem t_catch {E nm : String} (pre suf : List (Nat × Nat × Nat × Nat)) (x : Nat × Nat × Nat × Nat) (ht : x_t M = pre ++ x :: suf)
    (hpass : ∀ z ∈ tableOf pre, covers z pc = false ∨ (z.catchType ≠ 0 ∧ E = "java/lang/IllegalStateException" ∧ Cond.classLink (x_y M).cls z.catchType "java/lang/IllegalArgumentException" ∈ x_w))
    (hx : covers ⟨x.1, x.2.1, x.2.2.1, x.2.2.2⟩ pc = true) (h0 : x.2.2.2 ≠ 0) (hlink : Cond.classLink (x_y M).cls x.2.2.2 nm ∈ x_w) (hcast : Cond.castable E nm ∈ x_w) (k : ∀ q : Nat, x_S l w M x.2.2.1 ls [.ref q] h o) : x_T l w M pc ls st h E o := by
  refine ⟨(k 0).1, fun p e R s m args below meth c H locs cells slots mc ms lr q ce Cx hl hR hS h1 h2 h3 h4 g1 g2 g3 => ?_⟩
  have hts := Cx.2.1.2.2.1
  refine vx_catch (own := (x_y M).cls) (name := nm) (E := E) (ce := ce) Cx.2.1.2.1 (tableOf pre) ⟨x.1, x.2.1, x.2.2.1, x.2.2.2⟩ (tableOf suf) (by rw [Cx.2.1.1, ht]; simp [tableOf]) (fun z hz => ?_) hx h0 (hts _ hlink) (hts _ hcast) g1 g2 g3 ((k q).2 p e R s m args below meth c H locs cells slots mc ms lr Cx hl hR hS h1 h2 h3 h4)
  rcases hpass z hz with hp | ⟨hp, rfl, hp2⟩
  · exact Or.inl hp
  · exact Or.inr ⟨hp, _, hts _ hp2, Cx.2.2.2.2.2.2.2.2.2.1⟩
/-- new T[n][m] -/
theorem e_mna {ty : FieldType} {n k : Int32} {N K idx : Nat} (hd : decode (x_b M) pc = .ok (.multianewarray idx 2, 4)) (hw : Cond.classLink (x_y M).cls idx ("[" ++ (FieldType.array ty).toString) ∈ x_w) (hov : Cond.arrayOver (.array ty) ∈ x_w) (hac : Cond.arrayClass ty ∈ x_w) (hno : ∀ C : String, ¬ ty = .object C) (hn : ¬ n < 0) (hk : ¬ k < 0) (hN : n.toNatClampNeg = N) (hK : k.toNatClampNeg = K) (hb1 : N * 4 ≤ 536870912) (hb2 : K * componentBytes ty ≤ 536870912) (hb3 : K ≤ 536870912) (hdf : fits ty (defaultValue ty) = true) (hdd : (defaultValue ty).isDefault = true)
    (kk : x_S l w M (pc + 4) ls (.ref h.1 :: st) (h.1 + 1 + N, h.2.1 + N + N * K, fun a => if a = h.1 then .inl (.array ty, N, fun j => .ref (h.1 + 1 + j)) else if h.1 < a then .inl (ty, K, fun _ => defaultValue ty) else h.2.2 a) o) : x_S l w M pc ls (.int k :: .int n :: st) h o := by
  obtain ⟨⟨k1, k2⟩, kk⟩ := kk
  have k1' : h.1 + 1 + N ≤ o.2.1 := k1
  have k2' : h.2.1 + N + N * K ≤ o.2.2.1 := k2
  refine ⟨⟨by omega, by omega⟩, fun p e R s m args below meth c H locs cells slots mc ms lr Cx hl hR hS h1 h2 h3 h4 => ?_⟩
  subst hN
  subst hK
  intro T hT X
  have hts := Cx.2.1.2.2.1
  obtain ⟨vm₁, cA, comp, hW, fA, fC, hO, hI, X', step⟩ := X.multianewarray2F Cx.1.1 Cx.2.1.2.1 (hts _ hw) (hts _ hov) (hts _ hac) (g := F0 m pc lr (.int k :: .int n :: st)) rfl (by rw [Cx.1.2.1]; exact hd) rfl hn hk hb1 hb2 hb3 hdf hdd (by omega) (by omega)
  generalize hF : Jvm.Free.Multi.fill (T.setVm vm₁) cA comp n.toNatClampNeg k.toNatClampNeg (defaultValue ty) n.toNatClampNeg = F at X' step
  have hTh : (T.setVm vm₁).heap = H := hT
  obtain ⟨f1, f2, -, -⟩ := Jvm.Free.Multi.fill_facts (T.setVm vm₁) cA comp n.toNatClampNeg k.toNatClampNeg (defaultValue ty) n.toNatClampNeg
  rw [hF, hTh, hR.1] at f1 f2
  have hold : ∀ a : Nat, a < h.1 → F.heap[a]? = H[a]? := fun a ha => by
    have := Jvm.Free.Multi.fill_old (T.setVm vm₁) cA comp n.toNatClampNeg k.toNatClampNeg (defaultValue ty) (a := a) (by rw [hTh, hR.1]; exact ha) n.toNatClampNeg
    rw [hF, hTh] at this
    exact this
  have hrow : ∀ j : Nat, j < n.toNatClampNeg → F.heap[h.1 + 1 + j]? = some (Jvm.Free.Multi.innerC comp k.toNatClampNeg (defaultValue ty)) := fun j hj => by
    have := Jvm.Free.Multi.fill_inner (T.setVm vm₁) cA comp n.toNatClampNeg k.toNatClampNeg (defaultValue ty) n.toNatClampNeg j hj
    rw [hF, hTh, hR.1] at this
    exact this
  have hRF : x_R w.1 w.2.1 s F.heap (h.1 + 1 + n.toNatClampNeg, h.2.1 + n.toNatClampNeg + n.toNatClampNeg * k.toNatClampNeg, fun a => if a = h.1 then .inl (.array ty, n.toNatClampNeg, fun j => .ref (h.1 + 1 + j)) else if h.1 < a then .inl (ty, k.toNatClampNeg, fun _ => defaultValue ty) else h.2.2 a) := by
    refine ⟨f1, fun a ha => ?_⟩
    have ha2 : a < h.1 + 1 + n.toNatClampNeg := ha
    by_cases e1 : a = h.1
    · subst e1
      show x_at w.1 w.2.1 s h.1 (if h.1 = h.1 then _ else _) F.heap
      rw [if_pos rfl]
      refine ⟨_, f2, (hO _ _ _).1, (hO _ _ _).2, ?_, fun j hj => ?_, fun C hC => by cases hC⟩
      · exact x_sz_e (by rw [vr_outer, arrV_size])
      · have hj2 : j < n.toNatClampNeg := hj
        rw [vr_outer, arrV_read _ _ hj2]
        simp [va_rf, hj2]
    · by_cases e2 : h.1 < a
      · show x_at w.1 w.2.1 s a (if a = h.1 then _ else if h.1 < a then _ else _) F.heap
        rw [if_neg e1, if_pos e2]
        have := hrow (a - (h.1 + 1)) (by omega)
        rw [show h.1 + 1 + (a - (h.1 + 1)) = a by omega] at this
        refine ⟨_, this, (hI _ _).1, (hI _ _).2, ?_, fun j hj => ?_, fun C hC => absurd hC (hno C)⟩
        · exact x_sz_e (by simp [Jvm.Free.Multi.innerC])
        · have hj2 : j < k.toNatClampNeg := hj
          simp [Jvm.Free.Multi.innerC, hj2]
      · show x_at w.1 w.2.1 s a (if a = h.1 then _ else if h.1 < a then _ else _) F.heap
        rw [if_neg e1, if_neg e2]
        exact (hR.2 a (by omega)).kept (hold a (by omega))
  have hSF : va_S (x_A w.2.1) s.heap F.heap locs := ⟨Nat.le_trans hS.1 (by rw [f1, hR.1]; omega), fun a g1 g2 => (hold a (by rw [← hR.1]; exact Nat.lt_of_lt_of_le g1 hS.1)).trans (hS.2.1 a g1 g2), hS.2.2⟩
  obtain ⟨t, a1, b1⟩ := kk p e R s m args below meth c F.heap locs _ _ mc ms lr Cx hl hRF hSF (by show cells + 1 + n.toNatClampNeg + (o.2.1 - (h.1 + 1 + n.toNatClampNeg)) ≤ mc; omega) (by show slots + n.toNatClampNeg + n.toNatClampNeg * k.toNatClampNeg + (o.2.2.1 - (h.2.1 + n.toNatClampNeg + n.toNatClampNeg * k.toNatClampNeg)) ≤ ms; omega) h3 h4 F rfl X'
  refine ⟨t, step t ?_, b1⟩
  rw [show T.heap.size = h.1 by rw [hT]; exact hR.1]
  exact a1
end XL
