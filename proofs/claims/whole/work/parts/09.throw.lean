/-! a throw of our own: new; dup; invokespecial; athrow (it follows the kit's vx_throw0, with the heap's size told) -/
section XV
variable {l : Launch} {w : xW} {M M' : xM} {pc pc' : Nat} {ls ls' : List (Nat × Value)} {st st' rest : List Value} {h h' : xH} {o o' : xO × xH}
theorem e_throw {cls : String} {names : List String} {ik ic : Nat} (hcls : Bundle.fit cls = true) (hnames : ∀ n ∈ names, Bundle.fit n = true) (hk : Cond.classLink (x_y M).cls ik cls ∈ x_w) (hini : Cond.initialized cls ∈ x_w) (hat : ∀ v ∈ vx_at0 (x_y M).cls ic cls names, v ∈ x_w) (hgood : ∀ v ∈ Cond.classLink (x_y M).cls ik cls :: Cond.initialized cls :: vx_at0 (x_y M).cls ic cls names, vx_ot v = true)
    (d0 : decode (x_b M) pc = .ok (.new ik, 3)) (d3 : decode (x_b M) (pc + 3) = .ok (.dup, 1)) (d4 : decode (x_b M) (pc + 4) = .ok (.invokespecial ic, 3)) (d7 : decode (x_b M) (pc + 7) = .ok (.athrow, 1)) (hout : ∀ x ∈ tableOf (x_t M), covers x (pc + 7) = false)
    (hf : names.length + 3 < x_f M) (hs : (st.map fun v => v.category).sum + (13 * (names.length + 1) + 42) ≤ x_s M) (ho : o = (.inr cls, (h.1 + 1, h.2.1 + 6, x_up h.2.2 h.1 (.inr (99, []))))) : x_S l w M pc ls st h o := by
  subst ho
  refine ⟨⟨Nat.le_add_right _ _, Nat.le_add_right _ _⟩, fun p e R s m args below meth c H locs cells slots mc ms lr Cx hl9 hR hS h1 h2 h3 h4 => ?_⟩
  have hexec := Cx.1.1
  have hb := Cx.1.2.1
  have hts := Cx.2.1.2.2.1
  have hown := Cx.2.1.2.1
  have hlocks := Cx.1.2.2.2.2.1
  have hU := Cx.2.2.2.2.2.1
  have hN := Cx.2.2.2.2.2.2.1
  have hl := Cx.2.2.1
  have h1' : cells + 1 ≤ mc := by
    have : cells + (h.1 + 1 - h.1) ≤ mc := h1
    omega
  have h2' : slots + 6 ≤ ms := by
    have : slots + (h.2.1 + 6 - h.2.1) ≤ ms := h2
    omega
  have hsize : lr.size = c.maxLocals := hl9.1.trans Cx.1.2.2.1.symm
  intro T hT X
  have htr : e.platform.stackTraces = false := (show e.platform.stackTraces = l.stackTraces by rw [X.admits.platform]).trans hl
  have Y := vx_rebase X (R' := { frames := R.frames, locals := R.locals, cells := 1, slots := 6 }) (Nat.le_refl _) (Nat.le_refl _) (Nat.le_trans h1' h3) (Nat.le_trans h2' h4)
  obtain ⟨s', hA⟩ : ∃ z, z = (T.setVm s.vm).setFrames (.invoking m args :: below) := ⟨_, rfl⟩
  rw [← hA] at Y
  have hvm : s'.vm = s.vm := by rw [hA]; rfl
  have hhp : s'.heap = H := by rw [hA]; exact hT
  have hW0 : s.WarmedH s'.vm := by rw [hvm]; exact State.WarmedH.refl s
  have hat' : ∀ v ∈ vx_at0 (x_y M).cls ic cls names, v.before args s' = true := fun v hv => vx_ot_at hW0 hvm.symm (hgood v (List.mem_cons_of_mem _ (List.mem_cons_of_mem _ hv))) (hts v (hat v hv))
  have hk' : (Cond.classLink (x_y M).cls ik cls).before args s' = true := vx_ot_at hW0 hvm.symm (hgood _ List.mem_cons_self) (hts _ hk)
  have hini' : (Cond.initialized cls).before args s' = true := vx_ot_at hW0 hvm.symm (hgood _ (List.mem_cons_of_mem _ List.mem_cons_self)) (hts _ hini)
  have hU' : vx_Zq Bundle.tN "UNASSIGNED_STACK" Bundle.steD (x_A w.2.1) s' s'.heap := by rw [hhp]; exact vx_Zq.moved hW0.alike (hU.kept hS.2.1)
  have hN' : vx_Zq Bundle.tN "SUPPRESSED_SENTINEL" Bundle.listD (x_A w.2.1) s' s'.heap := by rw [hhp]; exact vx_Zq.moved hW0.alike (hN.kept hS.2.1)
  have ha : ∀ v ∈ Bundle.ownAtoms0 (x_y M).cls ic cls names, v.before args s' = true := vx_own hat' (vx_isRefq hU'.1) (vx_isRefq hN'.1) hU'.2.word hN'.2.word
  have hown' : s'.vm.findClass (x_y M).cls = some m.cls := by rw [hvm]; exact hown
  have hins : (Cond.instantiable cls 6).before args s' = true := ha _ (by simp [Bundle.ownAtoms0])
  obtain ⟨vm₁, cX, kX, hfX, hkX, -, -, X₁, st1⟩ := Y.newCold hexec (own := (x_y M).cls) (C := cls) (index := ik) (n := 6) hown' hk' hins hini'
    (g := F0 m pc lr st) rfl (by rw [hb]; exact d0) (Nat.le_refl _) (Nat.le_refl _)
  generalize hT1 : (T.setVm vm₁).pushCell { cls := cX, slots := kX.instanceTypes.map defaultValue, vm := .none } = T1 at X₁ st1
  have hcat : (Value.ref T.heap.size).category = 1 := rfl
  have hcellA : T1.heap[T.heap.size]? = some (freshCell cX kX) := by rw [← hT1]; exact State.heap_pushCell_size _ _
  have d3' : decode c.code (pc + 3) = .ok (.dup, 1) := by rw [hb]; exact d3
  obtain ⟨U, hsteps, hrun, hend, hW, hsame, ce, hce, hO⟩ := X₁.ctorThrow0 hexec htr (own := (x_y M).cls) (cls := cls) (names := names) (ic := ic) hown' hcls hnames ha (fun x hx => nomatch hx) hfX hkX hcellA (by rw [hhp, hT]; exact Nat.le_refl _)
    (g := { method := m, pc := pc + 4, locals := lr, stack := .ref T.heap.size :: .ref T.heap.size :: st, locked := none }) rfl hsize rfl rfl (rest := st) rfl
    (by rw [hb]; exact d4) (by rw [hb]; exact d7) (by rw [Cx.2.1.1]; exact hout) (Nat.lt_of_lt_of_le hf Cx.2.1.2.2.2.1) (Nat.le_trans (by simp only [List.map_cons, List.sum_cons, hcat]; omega) Cx.2.1.2.2.2.2) hlocks
  obtain ⟨f1, f2⟩ := vx_frame hsame
  have f3 : U.heap.size ≤ s'.heap.size + (0 + 1) := hsame.2.2.1
  rw [hhp] at f1 f2 f3
  have hWs : s.WarmedH U.vm := State.WarmedH.trans hW0 hW
  have hcl : s.vm.findClass cls = some ce.cls := by
    have h9 := hO.cls
    rw [hvm] at h9
    exact h9
  have hall : s.sameButNew ({ U with vm := s.vm } : State) locs mc ms := by
    subst hA
    obtain ⟨e1, e2⟩ := hsame
    rw [State.setFrames_setFrames] at e1
    have h2 : (T.setVm s.vm).sameButNew ({ U with vm := s.vm } : State) [] (0 + 1) (0 + 6) := ⟨e1, e2⟩
    have h3 := X.same.trans h2
    rw [List.append_nil] at h3
    exact h3.mono h1' h2'
  have hold : ∀ q : Nat, q < H.size → U.heap[q]? = H[q]? := fun q hq => f2 q hq (fun z hz => nomatch hz)
  have hsz : U.heap.size = h.1 + 1 := by
    have g1 : T.heap.size < U.heap.size := (Array.getElem?_eq_some_iff.mp hce).1
    rw [hT] at g1
    have g2 := hR.1
    omega
  have hR' : x_R w.1 w.2.1 U U.heap (h.1 + 1, h.2.1 + 6, x_up h.2.2 h.1 (.inr (99, []))) := by
    refine x_R.moved hWs.alike ?_
    exact hR.push hsz (fun a ha => hold a (by rw [hR.1]; exact ha)) ⟨fun r hr => by simp [vwCl] at hr, fun z => by cases z⟩
  have hF' : va_F (x_A w.2.1) s U := ⟨Nat.le_trans hS.1 f1, fun q g1 g2 => (hold q (Nat.lt_of_lt_of_le g1 hS.1)).trans (hS.2.1 q g1 g2)⟩
  refine ⟨U, ?_, .threw T.heap.size, hrun, hend, Or.inr ⟨T.heap.size, rfl, cls, ce, locs, ⟨rfl, hR', hF'⟩, hce, hO.vm, hcl, hWs, hall, hS.2.2⟩⟩
  refine st1 _ ?_
  show Steps p.tables e below (T1.setTop { method := m, pc := pc + 3, locals := lr, stack := .ref T.heap.size :: st, locked := none }) _
  jvm_step X₁.here [X₁.here.top, hexec, d3', Value.category]
  exact hsteps
end XV
