/-! THE LITE MACHINE: cells by their addresses, a judgement x_S for a stretch of a method, a row an instruction -/
/-- a cell: an array (component, length, what it holds) or an object (number of its class in vwCl, fields) -/
abbrev xE : Type := (FieldType × Nat × (Nat → Value)) ⊕ (Nat × List Value)
/-- how many cells, slots made so far, the cells -/
abbrev xH : Type := Nat × Nat × (Nat → xE)
/-- returned, or thrown (the class) -/
abbrev xO : Type := Option Value ⊕ String
/-- a method: name, bytes, locals, what it returns, its table, frames and words that it needs -/
abbrev xM : Type := MethodName × ByteArray × Nat × Option FieldType × List (Nat × Nat × Nat × Nat) × Nat × Nat
abbrev x_y (M : xM) : MethodName := M.1
abbrev x_b (M : xM) : ByteArray := M.2.1
abbrev x_n (M : xM) : Nat := M.2.2.1
abbrev x_r (M : xM) : Option FieldType := M.2.2.2.1
abbrev x_t (M : xM) : List (Nat × Nat × Nat × Nat) := M.2.2.2.2.1
abbrev x_f (M : xM) : Nat := M.2.2.2.2.2.1
abbrev x_s (M : xM) : Nat := M.2.2.2.2.2.2
/-- the world's constants: class numbers and slots, the first address that may be written, the texts' addresses -/
abbrev xW : Type := va_G × Nat × (Nat → Nat)
def x_up (f : Nat → xE) (k : Nat) (e : xE) : Nat → xE := fun j => if j = k then e else f j
theorem x_up_s (f : Nat → xE) (k : Nat) (e : xE) : x_up f k e k = e := if_pos rfl
theorem x_up_n {f : Nat → xE} {k j : Nat} {e : xE} (h : j ≠ k) : x_up f k e j = f j := if_neg h
abbrev x_A (lo : Nat) : Nat → Prop := fun q => lo ≤ q
/-- words that stay -/
def x_kw : Cond → Bool
  | .fieldLinkNest _ _ _ _ _ _ => true
  | .methodLinkNest _ _ _ _ => true
  | .declares _ => true
  | .castable _ _ => true
  | .arrayOver _ => true
  | w => goodWord w
theorem x_kept {w : Cond} (hw : x_kw w = true) {args a' : Array Value} {s U : State} (hW : s.WarmedH U.vm) (h : w.before args s = true) : w.before a' U = true := by
  cases w
  case fieldLinkNest a i b n d hh => exact va_Nw.use rfl (va_Nw.warmF hW (va_Nw.of rfl h))
  case methodLinkNest a i x hh => exact va_Nw.use rfl (va_Nw.warmM hW (va_Nw.of rfl h))
  case declares x => exact va_Nw.use rfl (va_Nw.warmD hW (va_Nw.of rfl h))
  case castable a b => exact va_Nw.use rfl (va_Nw.warmC hW (va_Nw.of rfl h))
  case arrayOver ty =>
    have h1 : (Cond.arrayOver ty).before args (s.setVm U.vm) = true := by rw [Cond.arrayOver_setVmC hW.alike]; exact h
    exact h1
  all_goals exact word_at hW (good_of_word hw) h
def x_w : List Cond := lw_tbl.filter x_kw
theorem x_w_kept {args : Array Value} {s : State} (h : ∀ w ∈ x_w, w.before args s = true) : ∀ w ∈ x_w, ∀ (a' : Array Value) (U : State), s.WarmedH U.vm → w.before a' U = true :=
  fun w hw _ _ hW => x_kept (List.mem_filter.mp hw).2 hW (h w hw)
/-- a method's own word -/
def x_code (M : xM) : Cond := if x_t M = [] then .code (x_y M) (x_b M) (x_n M) (x_r M) else .codeWith (x_y M) (x_b M) (x_n M) (x_r M) (x_t M)
/-- a row's length, as far as a program sees it -/
def x_sz (c n : Nat) : Prop := n ≤ c ∧ c.toInt32 = Int32.ofNat n
theorem x_sz_e {c n : Nat} (h : c = n) : x_sz c n := ⟨Nat.le_of_eq h.symm, by subst h; rfl⟩
theorem x_sz_in {c n : Nat} {i : Int32} (h : x_sz c n) (hi : vp_in i n) : vp_in i c := fun z => hi (z.imp id (fun y => Nat.le_trans h.1 y))
/-- what lies at an address -/
def x_at (D : va_G) (lo : Nat) (s : State) (q : Nat) (e : xE) (H : Heap) : Prop := match e with
  | .inl a => ∃ cell : Cell, H[q]? = some cell ∧ s.isArrayOf cell a.1 ∧ cell.vm ≠ .unknown ∧ x_sz cell.slots.size a.2.1 ∧ (∀ j : Nat, j < a.2.1 → cell.slots[j]? = some (a.2.2 j)) ∧ ∀ C : String, a.1 = .object C → va_RA s cell.cls a.1
  | .inr o => (∀ r : vw_C, vwCl[o.1]? = some r → o.2.length = r.2.2 ∧ t_OB q (D.1 o.1) r.2.2 (D.2 o.1) H (vp_V o.2)) ∧
      (o.1 = 100 → q < lo ∧ va_O "java/lang/String" q (x_A lo) s H ∧ va_OF "java/lang/String" "value" "[B" (o.2.getD 0 .null) q (x_A lo) s H ∧ va_OF "java/lang/String" "coder" "B" (o.2.getD 1 .null) q (x_A lo) s H)
theorem x_at.kept {D : va_G} {lo : Nat} {s : State} {q : Nat} {e : xE} {H H1 : Heap} (h : x_at D lo s q e H) (hq : H1[q]? = H[q]?) : x_at D lo s q e H1 := by
  cases e with
  | inl a =>
    obtain ⟨cell, h1, h2⟩ := h
    exact ⟨cell, by rw [hq]; exact h1, h2⟩
  | inr o =>
    refine ⟨fun r hr => ⟨(h.1 r hr).1, (h.1 r hr).2.kept hq⟩, fun ho => ?_⟩
    obtain ⟨g0, ⟨cell, g1, g2⟩, ⟨cf, k, i, f, c2, a1, a2, a3, a4⟩, ⟨cf', k', i', f', c3, b1, b2, b3, b4⟩⟩ := h.2 ho
    exact ⟨g0, ⟨cell, by rw [hq]; exact g1, g2⟩, ⟨cf, k, i, f, c2, a1, a2, by rw [hq]; exact a3, a4⟩, ⟨cf', k', i', f', c3, b1, b2, by rw [hq]; exact b3, b4⟩⟩
theorem x_at.moved {D : va_G} {lo : Nat} {u U : State} {q : Nat} {e : xE} {H : Heap} (hvm : u.vm.Alike U.vm) (h : x_at D lo u q e H) : x_at D lo U q e H := by
  cases e with
  | inl a =>
    obtain ⟨cell, h1, h2, h3, h4, h5, h6⟩ := h
    exact ⟨cell, h1, State.isArrayOf_alike hvm h2, h3, h4, h5, fun C hC => (h6 C hC).moved hvm⟩
  | inr o => exact ⟨h.1, fun ho => ⟨(h.2 ho).1, va_O.moved hvm (h.2 ho).2.1, va_OF.moved hvm (h.2 ho).2.2.1, va_OF.moved hvm (h.2 ho).2.2.2⟩⟩
def x_R (D : va_G) (lo : Nat) (s : State) (H : Heap) (h : xH) : Prop := H.size = h.1 ∧ ∀ q : Nat, q < h.1 → x_at D lo s q (h.2.2 q) H
theorem x_R.moved {D : va_G} {lo : Nat} {u U : State} {H : Heap} {h : xH} (hvm : u.vm.Alike U.vm) (g : x_R D lo u H h) : x_R D lo U H h := ⟨g.1, fun q hq => (g.2 q hq).moved hvm⟩
def x_tx0 : String := "kind insert delete where set let print each by if else while remove and or not count sum least greatest"
def x_tx1 : String := "!<>"
def x_tx2 : String := "=<>+-*/%(){},;:."
/-- what the state gives at every method's start -/
def x_G (l : Launch) (w : xW) (s : State) : Prop :=
  l.stackTraces = false ∧ w.2.1 ≤ s.heap.size ∧ va_K w.1 vwCl [] s ∧
  vx_Zq Bundle.tN "UNASSIGNED_STACK" Bundle.steD (x_A w.2.1) s s.heap ∧ vx_Zq Bundle.tN "SUPPRESSED_SENTINEL" Bundle.listD (x_A w.2.1) s s.heap ∧
  va_Z "java/lang/String" "COMPACT_STRINGS" "Z" (.int 1) (x_A w.2.1) s s.heap ∧ va_Zq "jdk/internal/util/Preconditions" "SIOOBE_FORMATTER" "Ljava/util/function/BiFunction;" (x_A w.2.1) s s.heap ∧
  va_Nc "java/lang/IllegalStateException" "java/lang/IllegalArgumentException" s ∧ vk_R RX9 29 x_tx0 (w.2.2 0) s ∧ vk_R RX9 98 x_tx1 (w.2.2 1) s ∧ vk_R RX9 103 x_tx2 (w.2.2 2) s
/-- a method's walk: the machine, its code, its words, its room -/
def x_C (l : Launch) (w : xW) (M : xM) (p : Program) (R : Room) (s : State) (m : MethodId) (args : Array Value) (meth : Method) (c : Code) : Prop :=
  (p.tables.exec = Jvm.exec ∧ c.code = x_b M ∧ c.maxLocals = x_n M ∧ meth.sig.returnType = x_r M ∧ meth.locks = false ∧ meth.name = (x_y M).name) ∧
  (c.exceptionTable.toList = tableOf (x_t M) ∧ s.vm.findClass (x_y M).cls = some m.cls ∧ (∀ w ∈ x_w, w.before args s = true) ∧ x_f M ≤ R.frames ∧ x_s M ≤ R.locals) ∧ x_G l w s
def x_Q (w : xW) (o : xO × xH) : Array Value → State → Outcome → State → Prop := fun _ st oc t => ∃ v : Option Value, o.1 = .inl v ∧ oc = .returned v ∧ x_R w.1 w.2.1 t t.heap o.2 ∧ va_F (x_A w.2.1) st t
def x_X (w : xW) (o : xO × xH) : String → State → State → Prop := fun E st t => o.1 = .inr E ∧ x_R w.1 w.2.1 t t.heap o.2 ∧ va_F (x_A w.2.1) st t
/-- from here the method comes to its end with o -/
def x_S (l : Launch) (w : xW) (M : xM) (pc : Nat) (ls : List (Nat × Value)) (st : List Value) (h : xH) (o : xO × xH) : Prop :=
  (h.1 ≤ o.2.1 ∧ h.2.1 ≤ o.2.2.1) ∧
  ∀ (p : Program) (e : Env) (R : Room) (s : State) (m : MethodId) (args : Array Value) (below : List Frame) (meth : Method) (c : Code) (H : Heap) (locs : List Loc) (cells slots mc ms : Nat) (lr : Array Slot),
    x_C l w M p R s m args meth c → lv_has lr (x_n M) ls → x_R w.1 w.2.1 s H h → va_S (x_A w.2.1) s.heap H locs →
    cells + (o.2.1 - h.1) ≤ mc → slots + (o.2.2.1 - h.2.1) ≤ ms → mc ≤ R.cells → ms ≤ R.slots →
    W p l e R s m args below meth c H locs cells slots (vx_MQ below (x_Q w o) (x_X w o) args s mc ms (x_A w.2.1)) (F0 m pc lr st)
section XR
variable {l : Launch} {w : xW} {M : xM} {pc pc' : Nat} {ls ls' : List (Nat × Value)} {st st' r : List Value} {h h' : xH} {o : xO × xH}
/-- a row that leaves locals and heap alone -/
theorem x_pu (step : ∀ (p : Program) (e : Env) (R : Room) (s : State) (m : MethodId) (args : Array Value) (below : List Frame) (meth : Method) (c : Code) (H : Heap) (locs : List Loc) (cells slots : Nat) (Q : State → Prop) (lr : Array Slot), x_C l w M p R s m args meth c → lv_has lr (x_n M) ls →
      W p l e R s m args below meth c H locs cells slots Q (F0 m pc' lr st') → W p l e R s m args below meth c H locs cells slots Q (F0 m pc lr st))
    (k : x_S l w M pc' ls st' h o) : x_S l w M pc ls st h o :=
  ⟨k.1, fun p e R s m args below meth c H locs cells slots mc ms lr C hl hR hS h1 h2 h3 h4 => step p e R s m args below meth c H locs cells slots _ lr C hl (k.2 p e R s m args below meth c H locs cells slots mc ms lr C hl hR hS h1 h2 h3 h4)⟩
/-- a row that changes the locals -/
theorem x_ps (step : ∀ (p : Program) (e : Env) (R : Room) (s : State) (m : MethodId) (args : Array Value) (below : List Frame) (meth : Method) (c : Code) (H : Heap) (locs : List Loc) (cells slots : Nat) (Q : State → Prop) (lr : Array Slot), x_C l w M p R s m args meth c → lv_has lr (x_n M) ls →
      (∀ lr' : Array Slot, lv_has lr' (x_n M) ls' → W p l e R s m args below meth c H locs cells slots Q (F0 m pc' lr' st')) → W p l e R s m args below meth c H locs cells slots Q (F0 m pc lr st))
    (k : x_S l w M pc' ls' st' h o) : x_S l w M pc ls st h o :=
  ⟨k.1, fun p e R s m args below meth c H locs cells slots mc ms lr C hl hR hS h1 h2 h3 h4 => step p e R s m args below meth c H locs cells slots _ lr C hl (fun lr' hl' => k.2 p e R s m args below meth c H locs cells slots mc ms lr' C hl' hR hS h1 h2 h3 h4)⟩
theorem x_sub (is : List Nat) (hs : lv_pick ls is = ls') (k : x_S l w M pc ls' st h o) : x_S l w M pc ls st h o :=
  ⟨k.1, fun p e R s m args below meth c H locs cells slots mc ms lr C hl hR hS h1 h2 h3 h4 => k.2 p e R s m args below meth c H locs cells slots mc ms lr C (lv_sub hl is hs) hR hS h1 h2 h3 h4⟩
theorem e_iconst {n : Int} {v : Int32} (hd : decode (x_b M) pc = .ok (.iconst n, 1)) (hv : Int32.ofInt n = v) (k : x_S l w M (pc + 1) ls (.int v :: st) h o) : x_S l w M pc ls st h o := x_pu (fun _ _ _ _ _ _ _ _ _ _ _ _ _ _ _ C hl k => lv_iconst C.1.1 C.1.2.1 hd hv k) k
theorem e_bipush {n : Int} {v : Int32} (hd : decode (x_b M) pc = .ok (.bipush n, 2)) (hv : (Int8.ofInt n).toInt32 = v) (k : x_S l w M (pc + 2) ls (.int v :: st) h o) : x_S l w M pc ls st h o := x_pu (fun _ _ _ _ _ _ _ _ _ _ _ _ _ _ _ C hl k => lv_bipush C.1.1 C.1.2.1 hd hv k) k
theorem e_sipush {n : Int} {v : Int32} (hd : decode (x_b M) pc = .ok (.sipush n, 3)) (hv : (Int16.ofInt n).toInt32 = v) (k : x_S l w M (pc + 3) ls (.int v :: st) h o) : x_S l w M pc ls st h o := x_pu (fun _ _ _ _ _ _ _ _ _ _ _ _ _ _ _ C hl k => lv_sipush C.1.1 C.1.2.1 hd hv k) k
theorem e_lconst {n : Fin 2} {v : Int64} (hd : decode (x_b M) pc = .ok (.lconst n, 1)) (hv : Int64.ofNat (n : Nat) = v) (k : x_S l w M (pc + 1) ls (.long v :: st) h o) : x_S l w M pc ls st h o := x_pu (fun _ _ _ _ _ _ _ _ _ _ _ _ _ _ _ C hl k => lv_lconst C.1.1 C.1.2.1 hd hv k) k
theorem e_iload_n {j : Fin 4} {x : Int32} (hd : decode (x_b M) pc = .ok (.iload_n j, 1)) (a : Nat) (ha : ls[a]? = some ((j : Nat), .int x)) (k : x_S l w M (pc + 1) ls (.int x :: st) h o) : x_S l w M pc ls st h o := x_pu (fun _ _ _ _ _ _ _ _ _ _ _ _ _ _ _ C hl k => lv_iload_n C.1.1 C.1.2.1 hd rfl (lv_at hl a ha) k) k
theorem e_iload {j : Nat} {x : Int32} (hd : decode (x_b M) pc = .ok (.iload j, 2)) (a : Nat) (ha : ls[a]? = some (j, .int x)) (k : x_S l w M (pc + 2) ls (.int x :: st) h o) : x_S l w M pc ls st h o := x_pu (fun _ _ _ _ _ _ _ _ _ _ _ _ _ _ _ C hl k => lv_iload C.1.1 C.1.2.1 hd (lv_at hl a ha) k) k
theorem e_istore_n {j : Fin 4} {x : Int32} (hd : decode (x_b M) pc = .ok (.istore_n j, 1)) (hn : (j : Nat) < x_n M) (hl2 : ((j : Nat), Value.int x) :: ls.filter (fun q => !(q.1 == (j : Nat)) && !(q.1 + 1 == (j : Nat) && q.2.category == 2)) = ls') (k : x_S l w M (pc + 1) ls' st h o) : x_S l w M pc ls (.int x :: st) h o := x_ps (fun _ _ _ _ _ _ _ _ _ _ _ _ _ _ _ C hl k => lv_istore_n C.1.1 C.1.2.1 hd rfl hl hn hl2 k) k
theorem e_istore {j : Nat} {x : Int32} (hd : decode (x_b M) pc = .ok (.istore j, 2)) (hn : j < x_n M) (hl2 : (j, Value.int x) :: ls.filter (fun q => !(q.1 == j) && !(q.1 + 1 == j && q.2.category == 2)) = ls') (k : x_S l w M (pc + 2) ls' st h o) : x_S l w M pc ls (.int x :: st) h o := x_ps (fun _ _ _ _ _ _ _ _ _ _ _ _ _ _ _ C hl k => lv_istore C.1.1 C.1.2.1 hd hl hn hl2 k) k
theorem e_lload_n {j : Fin 4} {x : Int64} (hd : decode (x_b M) pc = .ok (.lload_n j, 1)) (a : Nat) (ha : ls[a]? = some ((j : Nat), .long x)) (k : x_S l w M (pc + 1) ls (.long x :: st) h o) : x_S l w M pc ls st h o := x_pu (fun _ _ _ _ _ _ _ _ _ _ _ _ _ _ _ C hl k => lv_lload_n C.1.1 C.1.2.1 hd rfl (lv_at hl a ha) k) k
theorem e_lload {j : Nat} {x : Int64} (hd : decode (x_b M) pc = .ok (.lload j, 2)) (a : Nat) (ha : ls[a]? = some (j, .long x)) (k : x_S l w M (pc + 2) ls (.long x :: st) h o) : x_S l w M pc ls st h o := x_pu (fun _ _ _ _ _ _ _ _ _ _ _ _ _ _ _ C hl k => lv_lload C.1.1 C.1.2.1 hd (lv_at hl a ha) k) k
theorem e_lstore_n {j : Fin 4} {x : Int64} (hd : decode (x_b M) pc = .ok (.lstore_n j, 1)) (hn : (j : Nat) + 1 < x_n M) (hl2 : ((j : Nat), Value.long x) :: ls.filter (fun q => !(q.1 == (j : Nat)) && (!(q.1 == (j : Nat) + 1) && !(q.1 + 1 == (j : Nat) && q.2.category == 2))) = ls') (k : x_S l w M (pc + 1) ls' st h o) : x_S l w M pc ls (.long x :: st) h o := x_ps (fun _ _ _ _ _ _ _ _ _ _ _ _ _ _ _ C hl k => lv_lstore_n C.1.1 C.1.2.1 hd rfl hl hn hl2 k) k
theorem e_lstore {j : Nat} {x : Int64} (hd : decode (x_b M) pc = .ok (.lstore j, 2)) (hn : j + 1 < x_n M) (hl2 : (j, Value.long x) :: ls.filter (fun q => !(q.1 == j) && (!(q.1 == j + 1) && !(q.1 + 1 == j && q.2.category == 2))) = ls') (k : x_S l w M (pc + 2) ls' st h o) : x_S l w M pc ls (.long x :: st) h o := x_ps (fun _ _ _ _ _ _ _ _ _ _ _ _ _ _ _ C hl k => lv_lstore C.1.1 C.1.2.1 hd hl hn hl2 k) k
theorem e_aload_n {j : Fin 4} {x : Nat} (hd : decode (x_b M) pc = .ok (.aload_n j, 1)) (a : Nat) (ha : ls[a]? = some ((j : Nat), .ref x)) (k : x_S l w M (pc + 1) ls (.ref x :: st) h o) : x_S l w M pc ls st h o := x_pu (fun _ _ _ _ _ _ _ _ _ _ _ _ _ _ _ C hl k => lv_aload_n C.1.1 C.1.2.1 hd rfl (lv_at hl a ha) k) k
theorem e_aload {j : Nat} {x : Nat} (hd : decode (x_b M) pc = .ok (.aload j, 2)) (a : Nat) (ha : ls[a]? = some (j, .ref x)) (k : x_S l w M (pc + 2) ls (.ref x :: st) h o) : x_S l w M pc ls st h o := x_pu (fun _ _ _ _ _ _ _ _ _ _ _ _ _ _ _ C hl k => lv_aload C.1.1 C.1.2.1 hd (lv_at hl a ha) k) k
theorem e_astore_n {j : Fin 4} {x : Nat} (hd : decode (x_b M) pc = .ok (.astore_n j, 1)) (hn : (j : Nat) < x_n M) (hl2 : ((j : Nat), Value.ref x) :: ls.filter (fun q => !(q.1 == (j : Nat)) && !(q.1 + 1 == (j : Nat) && q.2.category == 2)) = ls') (k : x_S l w M (pc + 1) ls' st h o) : x_S l w M pc ls (.ref x :: st) h o := x_ps (fun _ _ _ _ _ _ _ _ _ _ _ _ _ _ _ C hl k => lv_astore_n C.1.1 C.1.2.1 hd rfl hl hn hl2 k) k
theorem e_astore {j : Nat} {x : Nat} (hd : decode (x_b M) pc = .ok (.astore j, 2)) (hn : j < x_n M) (hl2 : (j, Value.ref x) :: ls.filter (fun q => !(q.1 == j) && !(q.1 + 1 == j && q.2.category == 2)) = ls') (k : x_S l w M (pc + 2) ls' st h o) : x_S l w M pc ls (.ref x :: st) h o := x_ps (fun _ _ _ _ _ _ _ _ _ _ _ _ _ _ _ C hl k => lv_astore C.1.1 C.1.2.1 hd hl hn hl2 k) k
theorem e_iinc {j : Nat} {n : Int} {x v : Int32} (hd : decode (x_b M) pc = .ok (.iinc j n, 3)) (a : Nat) (ha : ls[a]? = some (j, .int x)) (hv : x + Int32.ofInt n = v) (hn : j < x_n M) (hl2 : (j, Value.int v) :: ls.filter (fun q => !(q.1 == j) && !(q.1 + 1 == j && q.2.category == 2)) = ls') (k : x_S l w M (pc + 3) ls' st h o) : x_S l w M pc ls st h o := x_ps (fun _ _ _ _ _ _ _ _ _ _ _ _ _ _ _ C hl k => lv_iinc C.1.1 C.1.2.1 hd hl ha hv hn hl2 k) k
theorem e_iadd {x y : Int32} (hd : decode (x_b M) pc = .ok (.iadd, 1)) (k : x_S l w M (pc + 1) ls (.int (x + y) :: st) h o) : x_S l w M pc ls (.int y :: .int x :: st) h o := x_pu (fun _ _ _ _ _ _ _ _ _ _ _ _ _ _ _ C hl k => lv_iadd C.1.1 C.1.2.1 hd k) k
theorem e_isub {x y : Int32} (hd : decode (x_b M) pc = .ok (.isub, 1)) (k : x_S l w M (pc + 1) ls (.int (x - y) :: st) h o) : x_S l w M pc ls (.int y :: .int x :: st) h o := x_pu (fun _ _ _ _ _ _ _ _ _ _ _ _ _ _ _ C hl k => lv_isub C.1.1 C.1.2.1 hd k) k
theorem e_imul {x y : Int32} (hd : decode (x_b M) pc = .ok (.imul, 1)) (k : x_S l w M (pc + 1) ls (.int (x * y) :: st) h o) : x_S l w M pc ls (.int y :: .int x :: st) h o := x_pu (fun _ _ _ _ _ _ _ _ _ _ _ _ _ _ _ C hl k => lv_imul C.1.1 C.1.2.1 hd k) k
theorem e_iand {x y : Int32} (hd : decode (x_b M) pc = .ok (.iand, 1)) (k : x_S l w M (pc + 1) ls (.int (x &&& y) :: st) h o) : x_S l w M pc ls (.int y :: .int x :: st) h o := x_pu (fun _ _ _ _ _ _ _ _ _ _ _ _ _ _ _ C hl k => lv_iand C.1.1 C.1.2.1 hd k) k
theorem e_ior {x y : Int32} (hd : decode (x_b M) pc = .ok (.ior, 1)) (k : x_S l w M (pc + 1) ls (.int (x ||| y) :: st) h o) : x_S l w M pc ls (.int y :: .int x :: st) h o := x_pu (fun _ _ _ _ _ _ _ _ _ _ _ _ _ _ _ C hl k => lv_ior C.1.1 C.1.2.1 hd k) k
theorem e_ixor {x y : Int32} (hd : decode (x_b M) pc = .ok (.ixor, 1)) (k : x_S l w M (pc + 1) ls (.int (x ^^^ y) :: st) h o) : x_S l w M pc ls (.int y :: .int x :: st) h o := x_pu (fun _ _ _ _ _ _ _ _ _ _ _ _ _ _ _ C hl k => lv_ixor C.1.1 C.1.2.1 hd k) k
theorem e_ishl {x y : Int32} (hd : decode (x_b M) pc = .ok (.ishl, 1)) (k : x_S l w M (pc + 1) ls (.int (x <<< (y &&& 31)) :: st) h o) : x_S l w M pc ls (.int y :: .int x :: st) h o := x_pu (fun _ _ _ _ _ _ _ _ _ _ _ _ _ _ _ C hl k => lv_ishl C.1.1 C.1.2.1 hd k) k
theorem e_ishr {x y : Int32} (hd : decode (x_b M) pc = .ok (.ishr, 1)) (k : x_S l w M (pc + 1) ls (.int (x >>> (y &&& 31)) :: st) h o) : x_S l w M pc ls (.int y :: .int x :: st) h o := x_pu (fun _ _ _ _ _ _ _ _ _ _ _ _ _ _ _ C hl k => lv_ishr C.1.1 C.1.2.1 hd k) k
theorem e_iushr {x y v : Int32} (hd : decode (x_b M) pc = .ok (.iushr, 1)) (hv : (x.toUInt32 >>> (y.toUInt32 &&& Int32.toUInt32 31)).toInt32 = v) (k : x_S l w M (pc + 1) ls (.int v :: st) h o) : x_S l w M pc ls (.int y :: .int x :: st) h o := x_pu (fun _ _ _ _ _ _ _ _ _ _ _ _ _ _ _ C hl k => lv_iushr C.1.1 C.1.2.1 hd hv k) k
theorem e_idiv {x y : Int32} (hd : decode (x_b M) pc = .ok (.idiv, 1)) (hy : ¬ y = 0) (k : x_S l w M (pc + 1) ls (.int (x / y) :: st) h o) : x_S l w M pc ls (.int y :: .int x :: st) h o := x_pu (fun _ _ _ _ _ _ _ _ _ _ _ _ _ _ _ C hl k => lv_idiv C.1.1 C.1.2.1 hd hy k) k
theorem e_irem {x y : Int32} (hd : decode (x_b M) pc = .ok (.irem, 1)) (hy : ¬ y = 0) (k : x_S l w M (pc + 1) ls (.int (x - x / y * y) :: st) h o) : x_S l w M pc ls (.int y :: .int x :: st) h o := x_pu (fun _ _ _ _ _ _ _ _ _ _ _ _ _ _ _ C hl k => lv_irem C.1.1 C.1.2.1 hd hy k) k
theorem e_ineg {x : Int32} (hd : decode (x_b M) pc = .ok (.ineg, 1)) (k : x_S l w M (pc + 1) ls (.int (-x) :: st) h o) : x_S l w M pc ls (.int x :: st) h o := x_pu (fun _ _ _ _ _ _ _ _ _ _ _ _ _ _ _ C hl k => lv_ineg C.1.1 C.1.2.1 hd k) k
theorem e_ladd {x y : Int64} (hd : decode (x_b M) pc = .ok (.ladd, 1)) (k : x_S l w M (pc + 1) ls (.long (x + y) :: st) h o) : x_S l w M pc ls (.long y :: .long x :: st) h o := x_pu (fun _ _ _ _ _ _ _ _ _ _ _ _ _ _ _ C hl k => lv_ladd C.1.1 C.1.2.1 hd k) k
theorem e_lsub {x y : Int64} (hd : decode (x_b M) pc = .ok (.lsub, 1)) (k : x_S l w M (pc + 1) ls (.long (x - y) :: st) h o) : x_S l w M pc ls (.long y :: .long x :: st) h o := x_pu (fun _ _ _ _ _ _ _ _ _ _ _ _ _ _ _ C hl k => lv_lsub C.1.1 C.1.2.1 hd k) k
theorem e_lmul {x y : Int64} (hd : decode (x_b M) pc = .ok (.lmul, 1)) (k : x_S l w M (pc + 1) ls (.long (x * y) :: st) h o) : x_S l w M pc ls (.long y :: .long x :: st) h o := x_pu (fun _ _ _ _ _ _ _ _ _ _ _ _ _ _ _ C hl k => lv_lmul C.1.1 C.1.2.1 hd k) k
theorem e_land {x y : Int64} (hd : decode (x_b M) pc = .ok (.land, 1)) (k : x_S l w M (pc + 1) ls (.long (x &&& y) :: st) h o) : x_S l w M pc ls (.long y :: .long x :: st) h o := x_pu (fun _ _ _ _ _ _ _ _ _ _ _ _ _ _ _ C hl k => lv_land C.1.1 C.1.2.1 hd k) k
theorem e_lor {x y : Int64} (hd : decode (x_b M) pc = .ok (.lor, 1)) (k : x_S l w M (pc + 1) ls (.long (x ||| y) :: st) h o) : x_S l w M pc ls (.long y :: .long x :: st) h o := x_pu (fun _ _ _ _ _ _ _ _ _ _ _ _ _ _ _ C hl k => lv_lor C.1.1 C.1.2.1 hd k) k
theorem e_lxor {x y : Int64} (hd : decode (x_b M) pc = .ok (.lxor, 1)) (k : x_S l w M (pc + 1) ls (.long (x ^^^ y) :: st) h o) : x_S l w M pc ls (.long y :: .long x :: st) h o := x_pu (fun _ _ _ _ _ _ _ _ _ _ _ _ _ _ _ C hl k => lv_lxor C.1.1 C.1.2.1 hd k) k
theorem e_lushr {x v : Int64} {y : Int32} (hd : decode (x_b M) pc = .ok (.lushr, 1)) (hv : (x.toUInt64 >>> (y.toInt64.toUInt64 &&& Int64.toUInt64 63)).toInt64 = v) (k : x_S l w M (pc + 1) ls (.long v :: st) h o) : x_S l w M pc ls (.int y :: .long x :: st) h o := x_pu (fun _ _ _ _ _ _ _ _ _ _ _ _ _ _ _ C hl k => lv_lushr C.1.1 C.1.2.1 hd hv k) k
theorem e_lshl {x v : Int64} {y : Int32} (hd : decode (x_b M) pc = .ok (.lshl, 1)) (hv : x <<< (y.toInt64 &&& 63) = v) (k : x_S l w M (pc + 1) ls (.long v :: st) h o) : x_S l w M pc ls (.int y :: .long x :: st) h o := x_pu (fun _ _ _ _ _ _ _ _ _ _ _ _ _ _ _ C hl k => lv_lshl C.1.1 C.1.2.1 hd hv k) k
theorem e_lshr {x v : Int64} {y : Int32} (hd : decode (x_b M) pc = .ok (.lshr, 1)) (hv : x >>> (y.toInt64 &&& 63) = v) (k : x_S l w M (pc + 1) ls (.long v :: st) h o) : x_S l w M pc ls (.int y :: .long x :: st) h o := x_pu (fun _ _ _ _ _ _ _ _ _ _ _ _ _ _ _ C hl k => lv_lshr C.1.1 C.1.2.1 hd hv k) k
theorem e_lcmp {x y : Int64} (hd : decode (x_b M) pc = .ok (.lcmp, 1)) (k : x_S l w M (pc + 1) ls (.int (lg_cmp x y) :: st) h o) : x_S l w M pc ls (.long y :: .long x :: st) h o := x_pu (fun _ _ _ _ _ _ _ _ _ _ _ _ _ _ _ C hl k => W.lcmp C.1.1 C.1.2.1 hd k) k
theorem e_i2l {x : Int32} {v : Int64} (hd : decode (x_b M) pc = .ok (.i2l, 1)) (hv : x.toInt64 = v) (k : x_S l w M (pc + 1) ls (.long v :: st) h o) : x_S l w M pc ls (.int x :: st) h o := x_pu (fun _ _ _ _ _ _ _ _ _ _ _ _ _ _ _ C hl k => lv_i2l C.1.1 C.1.2.1 hd hv k) k
theorem e_l2i {x : Int64} {v : Int32} (hd : decode (x_b M) pc = .ok (.l2i, 1)) (hv : x.toInt32 = v) (k : x_S l w M (pc + 1) ls (.int v :: st) h o) : x_S l w M pc ls (.long x :: st) h o := x_pu (fun _ _ _ _ _ _ _ _ _ _ _ _ _ _ _ C hl k => lv_l2i C.1.1 C.1.2.1 hd hv k) k
theorem e_i2c {x v : Int32} (hd : decode (x_b M) pc = .ok (.i2c, 1)) (hv : (x.toUInt32 % 65536).toInt32 = v) (k : x_S l w M (pc + 1) ls (.int v :: st) h o) : x_S l w M pc ls (.int x :: st) h o := x_pu (fun _ _ _ _ _ _ _ _ _ _ _ _ _ _ _ C hl k => lv_i2c C.1.1 C.1.2.1 hd hv k) k
theorem e_i2b {x v : Int32} (hd : decode (x_b M) pc = .ok (.i2b, 1)) (hv : x.toInt8.toInt32 = v) (k : x_S l w M (pc + 1) ls (.int v :: st) h o) : x_S l w M pc ls (.int x :: st) h o := x_pu (fun _ _ _ _ _ _ _ _ _ _ _ _ _ _ _ C hl k => lv_i2b C.1.1 C.1.2.1 hd hv k) k
theorem e_dup {va : Value} (hd : decode (x_b M) pc = .ok (.dup, 1)) (hva : va.category = 1) (k : x_S l w M (pc + 1) ls (va :: va :: st) h o) : x_S l w M pc ls (va :: st) h o := x_pu (fun _ _ _ _ _ _ _ _ _ _ _ _ _ _ _ C hl k => lv_dup C.1.1 C.1.2.1 hd hva k) k
theorem e_pop {va : Value} (hd : decode (x_b M) pc = .ok (.pop, 1)) (hva : va.category = 1) (k : x_S l w M (pc + 1) ls st h o) : x_S l w M pc ls (va :: st) h o := x_pu (fun _ _ _ _ _ _ _ _ _ _ _ _ _ _ _ C hl k => lv_pop C.1.1 C.1.2.1 hd hva k) k
theorem e_dup_x1 {va vb : Value} (hd : decode (x_b M) pc = .ok (.dup_x1, 1)) (hva : va.category = 1) (hvb : vb.category = 1) (k : x_S l w M (pc + 1) ls (va :: vb :: va :: st) h o) : x_S l w M pc ls (va :: vb :: st) h o := x_pu (fun _ _ _ _ _ _ _ _ _ _ _ _ _ _ _ C hl k => lv_dup_x1 C.1.1 C.1.2.1 hd hva hvb k) k
theorem e_dup2 {va vb : Value} (hd : decode (x_b M) pc = .ok (.dup2, 1)) (hva : va.category = 1) (hvb : vb.category = 1) (k : x_S l w M (pc + 1) ls (va :: vb :: va :: vb :: st) h o) : x_S l w M pc ls (va :: vb :: st) h o := x_pu (fun _ _ _ _ _ _ _ _ _ _ _ _ _ _ _ C hl k => lv_dup2_11 C.1.1 C.1.2.1 hd hva hvb k) k
theorem e_dup_x2 {va vb vc : Value} (hd : decode (x_b M) pc = .ok (.dup_x2, 1)) (hva : va.category = 1) (hvb : vb.category = 1) (hvc : vc.category = 1) (k : x_S l w M (pc + 1) ls (va :: vb :: vc :: va :: st) h o) : x_S l w M pc ls (va :: vb :: vc :: st) h o := x_pu (fun _ _ _ _ _ _ _ _ _ _ _ _ _ _ _ C hl k => lv_dup_x2 C.1.1 C.1.2.1 hd hva hvb hvc k) k
theorem e_goto {off : Int} {tgt : Nat} (hd : decode (x_b M) pc = .ok (.goto off, 3)) (ht : (pc : Int) + off = (tgt : Int)) (k : x_S l w M tgt ls st h o) : x_S l w M pc ls st h o := x_pu (fun _ _ _ _ _ _ _ _ _ _ _ _ _ _ _ C hl k => lv_goto C.1.1 C.1.2.1 hd ht k) k
theorem e_lookup {dflt : Int} {ps : Array (Int × Int)} {len : Nat} {x : Int32} {off : Int} {tgt : Nat} (hd : decode (x_b M) pc = .ok (.lookupswitch dflt ps, len)) (hp : (ps.toList.zip (ps.toList.drop 1)).all (fun (a, next) => a.1 < next.1) = true) (ho : Op.lookupswitch.offset ps.toList dflt x.toInt = off) (ht : (pc : Int) + off = (tgt : Int)) (k : x_S l w M tgt ls st h o) : x_S l w M pc ls (.int x :: st) h o := x_pu (fun _ _ _ _ _ _ _ _ _ _ _ _ _ _ _ C hl k => lv_lookup C.1.1 C.1.2.1 hd hp ho ht k) k
theorem e_tableOut {dflt lo hi : Int} {offs : Array Int} {len : Nat} {x : Int32} {tgt : Nat} (hd : decode (x_b M) pc = .ok (.tableswitch dflt lo hi offs, len)) (hx : x.toInt < lo ∨ hi < x.toInt) (ht : (pc : Int) + dflt = (tgt : Int)) (k : x_S l w M tgt ls st h o) : x_S l w M pc ls (.int x :: st) h o := x_pu (fun _ _ _ _ _ _ _ _ _ _ _ _ _ _ _ C hl k => lv_tableOut C.1.1 C.1.2.1 hd hx ht k) k
theorem e_tableIn {dflt lo hi : Int} {offs : Array Int} {len : Nat} {x : Int32} {off : Int} {tgt : Nat} (hd : decode (x_b M) pc = .ok (.tableswitch dflt lo hi offs, len)) (h1 : ¬ x.toInt < lo) (h2 : ¬ hi < x.toInt) (ho : offs[(x.toInt - lo).toNat]? = some off) (ht : (pc : Int) + off = (tgt : Int)) (k : x_S l w M tgt ls st h o) : x_S l w M pc ls (.int x :: st) h o := x_pu (fun _ _ _ _ _ _ _ _ _ _ _ _ _ _ _ C hl k => lv_tableIn C.1.1 C.1.2.1 hd h1 h2 ho ht k) k
theorem e_if_eq {x : Int32} {off : Int} {tgt : Nat} (hd : decode (x_b M) pc = .ok (.ifCond .eq off, 3)) (ht : (pc : Int) + off = (tgt : Int)) (kt : x = 0 → x_S l w M tgt ls st h o) (kf : ¬ (x = 0) → x_S l w M (pc + 3) ls st h o) : x_S l w M pc ls (.int x :: st) h o := by
  by_cases hc : x = 0
  · exact x_pu (fun _ _ _ _ _ _ _ _ _ _ _ _ _ _ _ C _ k => lv_if_eq C.1.1 C.1.2.1 hd ht (fun _ => k) (fun z => absurd hc z)) (kt hc)
  · exact x_pu (fun _ _ _ _ _ _ _ _ _ _ _ _ _ _ _ C _ k => lv_if_eq C.1.1 C.1.2.1 hd ht (fun z => absurd z hc) (fun _ => k)) (kf hc)
theorem e_icmp_eq {x y : Int32} {off : Int} {tgt : Nat} (hd : decode (x_b M) pc = .ok (.if_icmp .eq off, 3)) (ht : (pc : Int) + off = (tgt : Int)) (kt : x = y → x_S l w M tgt ls st h o) (kf : ¬ (x = y) → x_S l w M (pc + 3) ls st h o) : x_S l w M pc ls (.int y :: .int x :: st) h o := by
  by_cases hc : x = y
  · exact x_pu (fun _ _ _ _ _ _ _ _ _ _ _ _ _ _ _ C _ k => lv_icmp_eq C.1.1 C.1.2.1 hd ht (fun _ => k) (fun z => absurd hc z)) (kt hc)
  · exact x_pu (fun _ _ _ _ _ _ _ _ _ _ _ _ _ _ _ C _ k => lv_icmp_eq C.1.1 C.1.2.1 hd ht (fun z => absurd z hc) (fun _ => k)) (kf hc)
theorem e_if_ne {x : Int32} {off : Int} {tgt : Nat} (hd : decode (x_b M) pc = .ok (.ifCond .ne off, 3)) (ht : (pc : Int) + off = (tgt : Int)) (kt : ¬ x = 0 → x_S l w M tgt ls st h o) (kf : x = 0 → x_S l w M (pc + 3) ls st h o) : x_S l w M pc ls (.int x :: st) h o := by
  by_cases hc : x = 0
  · exact x_pu (fun _ _ _ _ _ _ _ _ _ _ _ _ _ _ _ C _ k => lv_if_ne C.1.1 C.1.2.1 hd ht (fun z => absurd hc z) (fun _ => k)) (kf hc)
  · exact x_pu (fun _ _ _ _ _ _ _ _ _ _ _ _ _ _ _ C _ k => lv_if_ne C.1.1 C.1.2.1 hd ht (fun _ => k) (fun z => absurd z hc)) (kt hc)
theorem e_icmp_ne {x y : Int32} {off : Int} {tgt : Nat} (hd : decode (x_b M) pc = .ok (.if_icmp .ne off, 3)) (ht : (pc : Int) + off = (tgt : Int)) (kt : ¬ x = y → x_S l w M tgt ls st h o) (kf : x = y → x_S l w M (pc + 3) ls st h o) : x_S l w M pc ls (.int y :: .int x :: st) h o := by
  by_cases hc : x = y
  · exact x_pu (fun _ _ _ _ _ _ _ _ _ _ _ _ _ _ _ C _ k => lv_icmp_ne C.1.1 C.1.2.1 hd ht (fun z => absurd hc z) (fun _ => k)) (kf hc)
  · exact x_pu (fun _ _ _ _ _ _ _ _ _ _ _ _ _ _ _ C _ k => lv_icmp_ne C.1.1 C.1.2.1 hd ht (fun _ => k) (fun z => absurd z hc)) (kt hc)
theorem e_if_lt {x : Int32} {off : Int} {tgt : Nat} (hd : decode (x_b M) pc = .ok (.ifCond .lt off, 3)) (ht : (pc : Int) + off = (tgt : Int)) (kt : x < 0 → x_S l w M tgt ls st h o) (kf : ¬ (x < 0) → x_S l w M (pc + 3) ls st h o) : x_S l w M pc ls (.int x :: st) h o := by
  by_cases hc : x < 0
  · exact x_pu (fun _ _ _ _ _ _ _ _ _ _ _ _ _ _ _ C _ k => lv_if_lt C.1.1 C.1.2.1 hd ht (fun _ => k) (fun z => absurd hc z)) (kt hc)
  · exact x_pu (fun _ _ _ _ _ _ _ _ _ _ _ _ _ _ _ C _ k => lv_if_lt C.1.1 C.1.2.1 hd ht (fun z => absurd z hc) (fun _ => k)) (kf hc)
theorem e_icmp_lt {x y : Int32} {off : Int} {tgt : Nat} (hd : decode (x_b M) pc = .ok (.if_icmp .lt off, 3)) (ht : (pc : Int) + off = (tgt : Int)) (kt : x < y → x_S l w M tgt ls st h o) (kf : ¬ (x < y) → x_S l w M (pc + 3) ls st h o) : x_S l w M pc ls (.int y :: .int x :: st) h o := by
  by_cases hc : x < y
  · exact x_pu (fun _ _ _ _ _ _ _ _ _ _ _ _ _ _ _ C _ k => lv_icmp_lt C.1.1 C.1.2.1 hd ht (fun _ => k) (fun z => absurd hc z)) (kt hc)
  · exact x_pu (fun _ _ _ _ _ _ _ _ _ _ _ _ _ _ _ C _ k => lv_icmp_lt C.1.1 C.1.2.1 hd ht (fun z => absurd z hc) (fun _ => k)) (kf hc)
theorem e_if_ge {x : Int32} {off : Int} {tgt : Nat} (hd : decode (x_b M) pc = .ok (.ifCond .ge off, 3)) (ht : (pc : Int) + off = (tgt : Int)) (kt : 0 ≤ x → x_S l w M tgt ls st h o) (kf : ¬ (0 ≤ x) → x_S l w M (pc + 3) ls st h o) : x_S l w M pc ls (.int x :: st) h o := by
  by_cases hc : 0 ≤ x
  · exact x_pu (fun _ _ _ _ _ _ _ _ _ _ _ _ _ _ _ C _ k => lv_if_ge C.1.1 C.1.2.1 hd ht (fun _ => k) (fun z => absurd hc z)) (kt hc)
  · exact x_pu (fun _ _ _ _ _ _ _ _ _ _ _ _ _ _ _ C _ k => lv_if_ge C.1.1 C.1.2.1 hd ht (fun z => absurd z hc) (fun _ => k)) (kf hc)
theorem e_icmp_ge {x y : Int32} {off : Int} {tgt : Nat} (hd : decode (x_b M) pc = .ok (.if_icmp .ge off, 3)) (ht : (pc : Int) + off = (tgt : Int)) (kt : y ≤ x → x_S l w M tgt ls st h o) (kf : ¬ (y ≤ x) → x_S l w M (pc + 3) ls st h o) : x_S l w M pc ls (.int y :: .int x :: st) h o := by
  by_cases hc : y ≤ x
  · exact x_pu (fun _ _ _ _ _ _ _ _ _ _ _ _ _ _ _ C _ k => lv_icmp_ge C.1.1 C.1.2.1 hd ht (fun _ => k) (fun z => absurd hc z)) (kt hc)
  · exact x_pu (fun _ _ _ _ _ _ _ _ _ _ _ _ _ _ _ C _ k => lv_icmp_ge C.1.1 C.1.2.1 hd ht (fun z => absurd z hc) (fun _ => k)) (kf hc)
theorem e_if_gt {x : Int32} {off : Int} {tgt : Nat} (hd : decode (x_b M) pc = .ok (.ifCond .gt off, 3)) (ht : (pc : Int) + off = (tgt : Int)) (kt : 0 < x → x_S l w M tgt ls st h o) (kf : ¬ (0 < x) → x_S l w M (pc + 3) ls st h o) : x_S l w M pc ls (.int x :: st) h o := by
  by_cases hc : 0 < x
  · exact x_pu (fun _ _ _ _ _ _ _ _ _ _ _ _ _ _ _ C _ k => lv_if_gt C.1.1 C.1.2.1 hd ht (fun _ => k) (fun z => absurd hc z)) (kt hc)
  · exact x_pu (fun _ _ _ _ _ _ _ _ _ _ _ _ _ _ _ C _ k => lv_if_gt C.1.1 C.1.2.1 hd ht (fun z => absurd z hc) (fun _ => k)) (kf hc)
theorem e_icmp_gt {x y : Int32} {off : Int} {tgt : Nat} (hd : decode (x_b M) pc = .ok (.if_icmp .gt off, 3)) (ht : (pc : Int) + off = (tgt : Int)) (kt : y < x → x_S l w M tgt ls st h o) (kf : ¬ (y < x) → x_S l w M (pc + 3) ls st h o) : x_S l w M pc ls (.int y :: .int x :: st) h o := by
  by_cases hc : y < x
  · exact x_pu (fun _ _ _ _ _ _ _ _ _ _ _ _ _ _ _ C _ k => lv_icmp_gt C.1.1 C.1.2.1 hd ht (fun _ => k) (fun z => absurd hc z)) (kt hc)
  · exact x_pu (fun _ _ _ _ _ _ _ _ _ _ _ _ _ _ _ C _ k => lv_icmp_gt C.1.1 C.1.2.1 hd ht (fun z => absurd z hc) (fun _ => k)) (kf hc)
theorem e_if_le {x : Int32} {off : Int} {tgt : Nat} (hd : decode (x_b M) pc = .ok (.ifCond .le off, 3)) (ht : (pc : Int) + off = (tgt : Int)) (kt : x ≤ 0 → x_S l w M tgt ls st h o) (kf : ¬ (x ≤ 0) → x_S l w M (pc + 3) ls st h o) : x_S l w M pc ls (.int x :: st) h o := by
  by_cases hc : x ≤ 0
  · exact x_pu (fun _ _ _ _ _ _ _ _ _ _ _ _ _ _ _ C _ k => lv_if_le C.1.1 C.1.2.1 hd ht (fun _ => k) (fun z => absurd hc z)) (kt hc)
  · exact x_pu (fun _ _ _ _ _ _ _ _ _ _ _ _ _ _ _ C _ k => lv_if_le C.1.1 C.1.2.1 hd ht (fun z => absurd z hc) (fun _ => k)) (kf hc)
theorem e_icmp_le {x y : Int32} {off : Int} {tgt : Nat} (hd : decode (x_b M) pc = .ok (.if_icmp .le off, 3)) (ht : (pc : Int) + off = (tgt : Int)) (kt : x ≤ y → x_S l w M tgt ls st h o) (kf : ¬ (x ≤ y) → x_S l w M (pc + 3) ls st h o) : x_S l w M pc ls (.int y :: .int x :: st) h o := by
  by_cases hc : x ≤ y
  · exact x_pu (fun _ _ _ _ _ _ _ _ _ _ _ _ _ _ _ C _ k => lv_icmp_le C.1.1 C.1.2.1 hd ht (fun _ => k) (fun z => absurd hc z)) (kt hc)
  · exact x_pu (fun _ _ _ _ _ _ _ _ _ _ _ _ _ _ _ C _ k => lv_icmp_le C.1.1 C.1.2.1 hd ht (fun z => absurd z hc) (fun _ => k)) (kf hc)
end XR
