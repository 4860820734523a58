/-! THE STATE: what the cells hold, the references fixed; S.1 k j (ints) and S.2.1 k j (longs) of the cell k behind the first one; S.2.2: how many exceptions were made -/
abbrev xS : Type := (Nat → Nat → Int32) × (Nat → Nat → Int64) × Nat
abbrev xv : Type := Int32 ⊕ Int64 ⊕ Nat
abbrev xr : Type := (Option xv ⊕ String) × xS
def xval (lo : Nat) : xv → Value
  | .inl x => .int x
  | .inr (.inl x) => .long x
  | .inr (.inr a) => .ref (lo + a)
def xout (lo : Nat) (r : Option xv ⊕ String) : xO := match r with
  | .inl v => .inl (v.map (xval lo))
  | .inr E => .inr E
/-- the cell k -/
def cel (lo k : Nat) (I : Nat → Int32) (J : Nat → Int64) : xE := if k < 413 then (if k < 31 then (if k < 9 then (if k < 4 then (if k < 2 then (if k < 1 then (.inr (11, [.ref (lo + 1), .ref (lo + 7), .ref (lo + 29), .ref (lo + 97), .ref (lo + 404), .ref (lo + 409), .int (I 6), .int (I 7)])) else (.inr (9, [.ref (lo + 2), .ref (lo + 3), .ref (lo + 4), .ref (lo + 5), .ref (lo + 6), .int (I 5), .int (I 6), .int (I 7)]))) else (if k < 3 then (.inl (.long, 21, fun j => .long (J j))) else (.inl (.char, 500, fun j => .int (I j))))) else (if k < 7 then (if k < 6 then (.inl (.int, 151, fun j => .int (I j))) else (.inl (.long, 151, fun j => .long (J j)))) else (if k < 8 then (.inr (3, [.ref (lo + 8), .ref (lo + 9), .ref (lo + 10), .ref (lo + 19), .ref (lo + 28), .int (I 5), .int (I 6), .int (I 7), .int (I 8)])) else (.inl (.long, 8, fun j => .long (J j)))))) else (if k < 20 then (if k < 11 then (if k < 10 then (.inl (.int, 8, fun j => .int (I j))) else (.inl (.array .long, 8, fun j => .ref (lo + (11 + j))))) else (if k < 19 then (.inl (.long, 6, fun j => .long (J j))) else (.inl (.array .int, 8, fun j => .ref (lo + (20 + j)))))) else (if k < 29 then (if k < 28 then (.inl (.int, 6, fun j => .int (I j))) else (.inl (.long, 20, fun j => .long (J j)))) else (if k < 30 then (.inr (10, [.ref (lo + 30), .ref (lo + 31), .ref (lo + 96), .int (I 3)])) else (.inl (.long, 8, fun j => .long (J j))))))) else (if k < 404 then (if k < 98 then (if k < 96 then (if k < 32 then (.inl (.array .int, 64, fun j => .ref (lo + (32 + j)))) else (.inl (.int, 6, fun j => .int (I j)))) else (if k < 97 then (.inl (.int, 64, fun j => .int (I j))) else (.inr (5, [.ref (lo + 98), .ref (lo + 99), .ref (lo + 100), .ref (lo + 101), .int (I 4), .int (I 5), .int (I 6)])))) else (if k < 100 then (if k < 99 then (.inl (.object "ArrayRecords$Step", 151, fun j => .ref (lo + (102 + 2 * j)))) else (.inl (.object "ArrayRecords$Part", 151, fun j => .ref (lo + (103 + 2 * j))))) else (if k < 102 then (.inl (.int, 151, fun j => .int (I j))) else (if k % 2 = 0 then .inr (8, [.int (I 0), .int (I 1), .int (I 2), .int (I 3), .int (I 4), .int (I 5), .int (I 6), .int (I 7), .int (I 8), .int (I 9)]) else .inr (4, [.int (I 0), .int (I 1), .int (I 2), .int (I 3), .int (I 4), .int (I 5), .int (I 6)]))))) else (if k < 408 then (if k < 406 then (if k < 405 then (.inr (6, [.ref (lo + 1), .ref (lo + 7), .ref (lo + 97), .ref (lo + 405), .ref (lo + 407)])) else (.inr (7, [.ref (lo + 1), .ref (lo + 7), .ref (lo + 97), .ref (lo + 406), .int (I 4), .int (I 5)]))) else (if k < 407 then (.inl (.int, 10, fun j => .int (I j))) else (.inr (1, [.ref (lo + 1), .ref (lo + 7), .ref (lo + 97), .ref (lo + 405), .ref (lo + 408), .int (I 5), .int (I 6), .int (I 7), .int (I 8)])))) else (if k < 410 then (if k < 409 then (.inl (.int, 151, fun j => .int (I j))) else (.inr (2, [.ref (lo + 97), .ref (lo + 7), .ref (lo + 29), .ref (lo + 478), .ref (lo + 410), .ref (lo + 411), .ref (lo + 412), .ref (lo + 413), .int (I 8), .int (I 9), .int (I 10)]))) else (if k < 411 then (.inl (.int, 20, fun j => .int (I j))) else (if k < 412 then (.inl (.int, 64, fun j => .int (I j))) else (.inl (.int, 151, fun j => .int (I j))))))))) else (if k < 511 then (if k < 503 then (if k < 480 then (if k < 478 then (if k < 414 then (.inl (.array .int, 64, fun j => .ref (lo + (414 + j)))) else (.inl (.int, 6, fun j => .int (I j)))) else (if k < 479 then (.inr (0, [.ref (lo + 29), .ref (lo + 479), .ref (lo + 490), .ref (lo + 501), .ref (lo + 502)])) else (.inl (.array .int, 10, fun j => .ref (lo + (480 + j)))))) else (if k < 491 then (if k < 490 then (.inl (.int, 64, fun j => .int (I j))) else (.inl (.array .int, 10, fun j => .ref (lo + (491 + j))))) else (if k < 501 then (.inl (.int, 64, fun j => .int (I j))) else (.inl (.int, 10, fun j => .int (I j)))))) else (if k < 507 then (if k < 505 then (if k < 504 then (.inr (12, [.int (I 0), .ref (lo + 504), .int (I 2), .int (I 3), .ref (lo + 505), .ref (lo + 506), .ref (lo + 507), .ref (lo + 508), .int (I 8), .ref (lo + 509), .ref (lo + 510), .ref (lo + 511), .ref (lo + 512), .ref (lo + 513), .int (I 14), .ref (lo + 514), .ref (lo + 515), .ref (lo + 516), .int (I 18), .ref (lo + 517), .int (I 20), .int (I 21), .int (I 22), .int (I 23), .ref (lo + 518), .int (I 25), .int (I 26), .ref (lo + 519), .int (I 28), .int (I 29), .int (I 30), .ref (lo + 520), .ref (lo + 521), .ref (lo + 522), .ref (lo + 523), .int (I 35), .int (I 36), .ref (lo + 524), .ref (lo + 525), .int (I 39), .ref (lo + 526), .ref (lo + 527), .ref (lo + 528), .ref (lo + 529), .ref (lo + 530), .ref (lo + 531), .ref (lo + 532), .int (I 47)])) else (.inl (.int, 500, fun j => .int (I j)))) else (if k < 506 then (.inl (.long, 7, fun j => .long (J j))) else (.inl (.int, 7, fun j => .int (I j))))) else (if k < 509 then (if k < 508 then (.inl (.long, 42, fun j => .long (J j))) else (.inl (.int, 42, fun j => .int (I j)))) else (if k < 510 then (.inl (.long, 20, fun j => .long (J j))) else (.inl (.int, 20, fun j => .int (I j))))))) else (if k < 520 then (if k < 516 then (if k < 513 then (if k < 512 then (.inl (.int, 64, fun j => .int (I j))) else (.inl (.int, 384, fun j => .int (I j)))) else (if k < 514 then (.inl (.int, 64, fun j => .int (I j))) else (.inl (.int, 152, fun j => .int (I j))))) else (if k < 518 then (if k < 517 then (.inl (.long, 152, fun j => .long (J j))) else (.inl (.long, 20, fun j => .long (J j)))) else (if k < 519 then (.inl (.int, 3000, fun j => .int (I j))) else (.inl (.int, 160, fun j => .int (I j)))))) else (if k < 528 then (if k < 525 then (if k < 524 then (.inl (.int, 12, fun j => .int (I j))) else (.inl (.int, 200, fun j => .int (I j)))) else (if k < 526 then (.inl (.int, 8, fun j => .int (I j))) else (.inl (.int, 768, fun j => .int (I j))))) else (if k < 531 then (if k < 530 then (.inl (.int, 12, fun j => .int (I j))) else (.inl (.int, 384, fun j => .int (I j)))) else (if k < 532 then (.inl (.boolean, 64, fun j => .int (I j))) else (if k < 533 then (.inl (.int, 64, fun j => .int (I j))) else (.inl (.long, 1, fun j => .long (J j)))))))))
/-- the three texts, their bytes -/
def x_by (i : Nat) : List Int32 := if i = 0 then [107, 105, 110, 100, 32, 105, 110, 115, 101, 114, 116, 32, 100, 101, 108, 101, 116, 101, 32, 119, 104, 101, 114, 101, 32, 115, 101, 116, 32, 108, 101, 116, 32, 112, 114, 105, 110, 116, 32, 101, 97, 99, 104, 32, 98, 121, 32, 105, 102, 32, 101, 108, 115, 101, 32, 119, 104, 105, 108, 101, 32, 114, 101, 109, 111, 118, 101, 32, 97, 110, 100, 32, 111, 114, 32, 110, 111, 116, 32, 99, 111, 117, 110, 116, 32, 115, 117, 109, 32, 108, 101, 97, 115, 116, 32, 103, 114, 101, 97, 116, 101, 115, 116] else if i = 1 then [33, 60, 62] else [61, 60, 62, 43, 45, 42, 47, 37, 40, 41, 123, 125, 44, 59, 58, 46]
def x_TX (w : xW) (g : Nat → xE) : Prop := ∀ i, i < 3 → w.2.2 i < w.2.1 ∧ w.2.2 (3 + i) < w.2.1 ∧ g (w.2.2 i) = .inr (100, [.ref (w.2.2 (3 + i)), .int 0]) ∧ g (w.2.2 (3 + i)) = .inl (.byte, (x_by i).length, fun j => .int ((x_by i).getD j 0))
/-- the heap holds the state -/
def x_P (w : xW) (g : Nat → xE) (h : xH) (S : xS) : Prop := h.1 = w.2.1 + 534 + S.2.2 ∧ h.2.1 = 14212 + 6 * S.2.2 ∧ (∀ q, q < w.2.1 → h.2.2 q = g q) ∧ (∀ k, k < 534 → h.2.2 (w.2.1 + k) = cel w.2.1 k (S.1 k) (S.2.1 k)) ∧ x_TX w g
/-- the method's stretch over the state -/
def ES (l : Launch) (w : xW) (g : Nat → xE) (M : xM) (pc : Nat) (ls : List (Nat × Value)) (st : List Value) (S : xS) (r : xr) : Prop :=
  ∀ h : xH, x_P w g h S → ∃ h' : xH, x_P w g h' r.2 ∧ x_S l w M pc ls st h (xout w.2.1 r.1, h')
def ET (l : Launch) (w : xW) (g : Nat → xE) (M : xM) (pc : Nat) (ls : List (Nat × Value)) (st : List Value) (S : xS) (E : String) (r : xr) : Prop :=
  ∀ h : xH, x_P w g h S → ∃ h' : xH, x_P w g h' r.2 ∧ x_T l w M pc ls st h E (xout w.2.1 r.1, h')
def sI (S : xS) (q j : Nat) (v : Int32) : xS := (fun a => if a = q then (fun b => if b = j then v else S.1 q b) else S.1 a, S.2)
def sJ (S : xS) (q j : Nat) (v : Int64) : xS := (S.1, fun a => if a = q then (fun b => if b = j then v else S.2.1 q b) else S.2.1 a, S.2.2)
def sE (S : xS) : xS := (S.1, S.2.1, S.2.2 + 1)
abbrev xin (i : Int32) (n : Nat) : Prop := ¬ (i < 0 ∨ n ≤ i.toNatClampNeg)
section SL
variable {l : Launch} {w : xW} {g : Nat → xE} {M M' : xM} {pc pc' tgt : Nat} {ls ls' : List (Nat × Value)} {st st' rest : List Value} {S S' : xS} {r r' : xr}
theorem x_P.put {h : xH} {q : Nat} {e : xE} (hP : x_P w g h S) (hq : q < 534) (h1 : ∀ k, k ≠ q → S'.1 k = S.1 k) (h2 : ∀ k, k ≠ q → S'.2.1 k = S.2.1 k) (h3 : S'.2.2 = S.2.2) (he : e = cel w.2.1 q (S'.1 q) (S'.2.1 q)) : x_P w g (h.1, h.2.1, x_up h.2.2 (w.2.1 + q) e) S' := by
  obtain ⟨p1, p2, p3, p4, p5⟩ := hP
  refine ⟨by rw [h3]; exact p1, by rw [h3]; exact p2, fun a ha => ?_, fun k hk => ?_, p5⟩
  · show x_up h.2.2 (w.2.1 + q) e a = g a
    rw [x_up_n (by omega)]
    exact p3 a ha
  · show x_up h.2.2 (w.2.1 + q) e (w.2.1 + k) = _
    by_cases hkq : k = q
    · subst hkq
      rw [x_up_s, he]
    · rw [x_up_n (by omega), p4 k hk, h1 k hkq, h2 k hkq]
theorem x_P.lt {h : xH} {q : Nat} (hP : x_P w g h S) (hq : q < 534) : w.2.1 + q < h.1 := by
  have := hP.1
  omega
theorem x_P.cell {h : xH} {q : Nat} (hP : x_P w g h S) (hq : q < 534) : h.2.2 (w.2.1 + q) = cel w.2.1 q (S.1 q) (S.2.1 q) := hP.2.2.2.1 q hq
/-- rows that leave the heap alone -/
theorem es_l (row : ∀ (h : xH) (o : xO × xH), x_S l w M pc' ls' st' h o → x_S l w M pc ls st h o) (k : ES l w g M pc' ls' st' S r) : ES l w g M pc ls st S r := fun h hP => by
  obtain ⟨h', p, q⟩ := k h hP
  exact ⟨h', p, row h _ q⟩
theorem es_br {c : Prop} {pf : Nat} (row : ∀ (h : xH) (o : xO × xH), (c → x_S l w M tgt ls st' h o) → (¬ c → x_S l w M pf ls st' h o) → x_S l w M pc ls st h o) (kt : c → ES l w g M tgt ls st' S r) (kf : ¬ c → ES l w g M pf ls st' S r) : ES l w g M pc ls st S r := fun h hP => by
  by_cases hc : c
  · obtain ⟨h', p, q⟩ := kt hc h hP
    exact ⟨h', p, row h _ (fun _ => q) (fun z => absurd hc z)⟩
  · obtain ⟨h', p, q⟩ := kf hc h hP
    exact ⟨h', p, row h _ (fun z => absurd z hc) (fun _ => q)⟩
theorem es_get {c : Nat} {C : String} {T : u_T} {N : Nat} {ty : Nat → FieldType} (hC : x_CL c C T N ty) {idx q k : Nat} {fs : List Value} {v : Value} (hd : decode (x_b M) pc = .ok (.getfield idx, 3)) (hF : x_FL (x_y M).cls idx T k) (hk : k < N) (hq : q < 534) (he : cel w.2.1 q (S.1 q) (S.2.1 q) = .inr (c, fs)) (hv : fs[k]? = some v)
    (kk : ES l w g M (pc + 3) ls (v :: st) S r) : ES l w g M pc ls (.ref (w.2.1 + q) :: st) S r := fun h hP => by
  obtain ⟨h', p, z⟩ := kk h hP
  exact ⟨h', p, e_get hC hd hF hk (hP.lt hq) (by rw [hP.cell hq]; exact he) hv z⟩
theorem es_put {c : Nat} {C : String} {T : u_T} {N : Nat} {ty : Nat → FieldType} (hC : x_CL c C T N ty) {idx q k : Nat} {fs : List Value} {x : Int32} (hd : decode (x_b M) pc = .ok (.putfield idx, 3)) (hF : x_FL (x_y M).cls idx T k) (hk : k < N) (hlo : c ≠ 100) (hq : q < 534) (he : cel w.2.1 q (S.1 q) (S.2.1 q) = .inr (c, fs)) (hfin : (T k).2.2.2 = false) (hn : narrow (ty k) (.int x) = .int x) (hfit : fits (ty k) (.int x) = true)
    (he2 : Sum.inr (c, fs.set k (.int x)) = cel w.2.1 q (fun b => if b = k then x else S.1 q b) (S.2.1 q)) (kk : ES l w g M (pc + 3) ls st (sI S q k x) r) : ES l w g M pc ls (.int x :: .ref (w.2.1 + q) :: st) S r := fun h hP => by
  have hP2 := hP.put (S' := sI S q k x) (e := .inr (c, fs.set k (.int x))) hq (fun a ha => if_neg ha) (fun _ _ => rfl) rfl (by rw [he2]; show _ = cel w.2.1 q (if q = q then (fun b => if b = k then x else S.1 q b) else S.1 q) (S.2.1 q); rw [if_pos rfl])
  obtain ⟨h', p, z⟩ := kk _ hP2
  exact ⟨h', p, e_put hC hd hF hk hlo (Nat.le_add_right _ _) (hP.lt hq) (by rw [hP.cell hq]; exact he) hfin hn hfit z⟩
theorem es_iald {q n : Nat} {i : Int32} {f : Nat → Value} {v : Value} (hd : decode (x_b M) pc = .ok (.iaload, 1)) (hq : q < 534) (he : cel w.2.1 q (S.1 q) (S.2.1 q) = .inl (.int, n, f)) (hi : xin i n) (hv : f i.toNatClampNeg = v) (kk : ES l w g M (pc + 1) ls (v :: st) S r) : ES l w g M pc ls (.int i :: .ref (w.2.1 + q) :: st) S r := fun h hP => by
  obtain ⟨h', p, z⟩ := kk h hP
  exact ⟨h', p, e_iald hd (hP.lt hq) (by rw [hP.cell hq]; exact he) hi hv z⟩
theorem es_lald {q n : Nat} {i : Int32} {f : Nat → Value} {v : Value} (hd : decode (x_b M) pc = .ok (.laload, 1)) (hq : q < 534) (he : cel w.2.1 q (S.1 q) (S.2.1 q) = .inl (.long, n, f)) (hi : xin i n) (hv : f i.toNatClampNeg = v) (kk : ES l w g M (pc + 1) ls (v :: st) S r) : ES l w g M pc ls (.int i :: .ref (w.2.1 + q) :: st) S r := fun h hP => by
  obtain ⟨h', p, z⟩ := kk h hP
  exact ⟨h', p, e_lald hd (hP.lt hq) (by rw [hP.cell hq]; exact he) hi hv z⟩
theorem es_cald {q n : Nat} {i : Int32} {f : Nat → Value} {v : Value} (hd : decode (x_b M) pc = .ok (.caload, 1)) (hq : q < 534) (he : cel w.2.1 q (S.1 q) (S.2.1 q) = .inl (.char, n, f)) (hi : xin i n) (hv : f i.toNatClampNeg = v) (kk : ES l w g M (pc + 1) ls (v :: st) S r) : ES l w g M pc ls (.int i :: .ref (w.2.1 + q) :: st) S r := fun h hP => by
  obtain ⟨h', p, z⟩ := kk h hP
  exact ⟨h', p, e_cald hd (hP.lt hq) (by rw [hP.cell hq]; exact he) hi hv z⟩
theorem es_zald {q n : Nat} {i : Int32} {f : Nat → Value} {v : Value} (hd : decode (x_b M) pc = .ok (.baload, 1)) (hq : q < 534) (he : cel w.2.1 q (S.1 q) (S.2.1 q) = .inl (.boolean, n, f)) (hi : xin i n) (hv : f i.toNatClampNeg = v) (kk : ES l w g M (pc + 1) ls (v :: st) S r) : ES l w g M pc ls (.int i :: .ref (w.2.1 + q) :: st) S r := fun h hP => by
  obtain ⟨h', p, z⟩ := kk h hP
  exact ⟨h', p, e_zald hd (hP.lt hq) (by rw [hP.cell hq]; exact he) hi hv z⟩
theorem es_aald {q n : Nat} {i : Int32} {f : Nat → Value} {v : Value} {ty : FieldType} (hty : ty.isReference = true) (hd : decode (x_b M) pc = .ok (.aaload, 1)) (hq : q < 534) (he : cel w.2.1 q (S.1 q) (S.2.1 q) = .inl (ty, n, f)) (hi : xin i n) (hv : f i.toNatClampNeg = v) (kk : ES l w g M (pc + 1) ls (v :: st) S r) : ES l w g M pc ls (.int i :: .ref (w.2.1 + q) :: st) S r := fun h hP => by
  obtain ⟨h', p, z⟩ := kk h hP
  exact ⟨h', p, e_aald hty hd (hP.lt hq) (by rw [hP.cell hq]; exact he) hi hv z⟩
/-- a store into an array of ints: what lies there is by S.1 -/
theorem es_iast {q n : Nat} {i x : Int32} (hd : decode (x_b M) pc = .ok (.iastore, 1)) (hq : q < 534) (he : ∀ (I : Nat → Int32) (J : Nat → Int64), cel w.2.1 q I J = .inl (.int, n, fun j => .int (I j))) (hi : xin i n) (kk : ES l w g M (pc + 1) ls st (sI S q i.toNatClampNeg x) r) : ES l w g M pc ls (.int x :: .int i :: .ref (w.2.1 + q) :: st) S r := fun h hP => by
  have hP2 := hP.put (S' := sI S q i.toNatClampNeg x) (e := .inl (.int, n, updV (fun j => .int (S.1 q j)) i.toNatClampNeg (.int x))) hq (fun a ha => if_neg ha) (fun _ _ => rfl) rfl (by
    rw [he]
    refine congrArg (fun z => Sum.inl (FieldType.int, n, z)) (funext fun j => ?_)
    show updV _ _ _ j = Value.int ((if q = q then (fun b => if b = i.toNatClampNeg then x else S.1 q b) else S.1 q) j)
    rw [if_pos rfl]
    by_cases hj : j = i.toNatClampNeg <;> simp [updV, hj])
  obtain ⟨h', p, z⟩ := kk _ hP2
  exact ⟨h', p, e_iast hd (Nat.le_add_right _ _) (hP.lt hq) (by rw [hP.cell hq, he]) hi z⟩
theorem es_last {q n : Nat} {i : Int32} {x : Int64} (hd : decode (x_b M) pc = .ok (.lastore, 1)) (hq : q < 534) (he : ∀ (I : Nat → Int32) (J : Nat → Int64), cel w.2.1 q I J = .inl (.long, n, fun j => .long (J j))) (hi : xin i n) (kk : ES l w g M (pc + 1) ls st (sJ S q i.toNatClampNeg x) r) : ES l w g M pc ls (.long x :: .int i :: .ref (w.2.1 + q) :: st) S r := fun h hP => by
  have hP2 := hP.put (S' := sJ S q i.toNatClampNeg x) (e := .inl (.long, n, updV (fun j => .long (S.2.1 q j)) i.toNatClampNeg (.long x))) hq (fun _ _ => rfl) (fun a ha => if_neg ha) rfl (by
    rw [he]
    refine congrArg (fun z => Sum.inl (FieldType.long, n, z)) (funext fun j => ?_)
    show updV _ _ _ j = Value.long ((if q = q then (fun b => if b = i.toNatClampNeg then x else S.2.1 q b) else S.2.1 q) j)
    rw [if_pos rfl]
    by_cases hj : j = i.toNatClampNeg <;> simp [updV, hj])
  obtain ⟨h', p, z⟩ := kk _ hP2
  exact ⟨h', p, e_last hd (Nat.le_add_right _ _) (hP.lt hq) (by rw [hP.cell hq, he]) hi z⟩
def xnar (ty : FieldType) (x : Int32) : Int32 := vp_nar ty x
theorem es_cast {q n : Nat} {i x y : Int32} (hd : decode (x_b M) pc = .ok (.castore, 1)) (hq : q < 534) (he : ∀ (I : Nat → Int32) (J : Nat → Int64), cel w.2.1 q I J = .inl (.char, n, fun j => .int (I j))) (hi : xin i n) (hy : narrow .char (.int x) = .int y) (kk : ES l w g M (pc + 1) ls st (sI S q i.toNatClampNeg y) r) : ES l w g M pc ls (.int x :: .int i :: .ref (w.2.1 + q) :: st) S r := fun h hP => by
  have hP2 := hP.put (S' := sI S q i.toNatClampNeg y) (e := .inl (.char, n, updV (fun j => .int (S.1 q j)) i.toNatClampNeg (narrow .char (.int x)))) hq (fun a ha => if_neg ha) (fun _ _ => rfl) rfl (by
    rw [he, hy]
    refine congrArg (fun z => Sum.inl (FieldType.char, n, z)) (funext fun j => ?_)
    show updV _ _ _ j = Value.int ((if q = q then (fun b => if b = i.toNatClampNeg then y else S.1 q b) else S.1 q) j)
    rw [if_pos rfl]
    by_cases hj : j = i.toNatClampNeg <;> simp [updV, hj])
  obtain ⟨h', p, z⟩ := kk _ hP2
  exact ⟨h', p, e_cast hd (Nat.le_add_right _ _) (hP.lt hq) (by rw [hP.cell hq, he]) hi z⟩
theorem es_zast {q n : Nat} {i x y : Int32} (hd : decode (x_b M) pc = .ok (.bastore, 1)) (hq : q < 534) (he : ∀ (I : Nat → Int32) (J : Nat → Int64), cel w.2.1 q I J = .inl (.boolean, n, fun j => .int (I j))) (hi : xin i n) (hy : narrow .boolean (.int x) = .int y) (kk : ES l w g M (pc + 1) ls st (sI S q i.toNatClampNeg y) r) : ES l w g M pc ls (.int x :: .int i :: .ref (w.2.1 + q) :: st) S r := fun h hP => by
  have hP2 := hP.put (S' := sI S q i.toNatClampNeg y) (e := .inl (.boolean, n, updV (fun j => .int (S.1 q j)) i.toNatClampNeg (narrow .boolean (.int x)))) hq (fun a ha => if_neg ha) (fun _ _ => rfl) rfl (by
    rw [he, hy]
    refine congrArg (fun z => Sum.inl (FieldType.boolean, n, z)) (funext fun j => ?_)
    show updV _ _ _ j = Value.int ((if q = q then (fun b => if b = i.toNatClampNeg then y else S.1 q b) else S.1 q) j)
    rw [if_pos rfl]
    by_cases hj : j = i.toNatClampNeg <;> simp [updV, hj])
  obtain ⟨h', p, z⟩ := kk _ hP2
  exact ⟨h', p, e_zast hd (Nat.le_add_right _ _) (hP.lt hq) (by rw [hP.cell hq, he]) hi z⟩
theorem es_ireturn {v : Int32} {ty : FieldType} (hd : decode (x_b M) pc = .ok (.ireturn, 1)) (hr : x_r M = some ty) (hn : narrow ty (.int v) = .int v) (ho : some ((.inl (some (.inl v)), S) : xr) = some r) : ES l w g M pc ls [.int v] S r := fun h hP => by
  cases ho
  exact ⟨h, hP, e_ireturn hd hr hn rfl⟩
theorem es_lreturn {v : Int64} (hd : decode (x_b M) pc = .ok (.lreturn, 1)) (hr : x_r M = some .long) (ho : some ((.inl (some (.inr (.inl v))), S) : xr) = some r) : ES l w g M pc ls [.long v] S r := fun h hP => by
  cases ho
  exact ⟨h, hP, e_lreturn hd hr rfl⟩
theorem es_areturn {v : Nat} {rt : FieldType} (hd : decode (x_b M) pc = .ok (.areturn, 1)) (hr : x_r M = some rt) (hrt : (∃ n, rt = .object n) ∨ ∃ t, rt = .array t) (ho : some ((.inl (some (.inr (.inr v))), S) : xr) = some r) : ES l w g M pc ls [.ref (w.2.1 + v)] S r := fun h hP => by
  cases ho
  exact ⟨h, hP, e_areturn hd hr hrt rfl⟩
theorem es_return (hd : decode (x_b M) pc = .ok (.return_, 1)) (hr : x_r M = none) (ho : some ((.inl none, S) : xr) = some r) : ES l w g M pc ls [] S r := fun h hP => by
  cases ho
  exact ⟨h, hP, e_return hd hr rfl⟩
theorem es_throw {cls : String} {names : List String} {ik ic : Nat} (hcls : Bundle.fit cls = true) (hnames : ∀ n ∈ names, Bundle.fit n = true) (hk : Cond.classLink (x_y M).cls ik cls ∈ x_w) (hini : Cond.initialized cls ∈ x_w) (hat : ∀ v ∈ vx_at0 (x_y M).cls ic cls names, v ∈ x_w) (hgood : ∀ v ∈ Cond.classLink (x_y M).cls ik cls :: Cond.initialized cls :: vx_at0 (x_y M).cls ic cls names, vx_ot v = true)
    (d0 : decode (x_b M) pc = .ok (.new ik, 3)) (d3 : decode (x_b M) (pc + 3) = .ok (.dup, 1)) (d4 : decode (x_b M) (pc + 4) = .ok (.invokespecial ic, 3)) (d7 : decode (x_b M) (pc + 7) = .ok (.athrow, 1)) (hout : ∀ x ∈ tableOf (x_t M), covers x (pc + 7) = false)
    (hf : names.length + 3 < x_f M) (hs : (st.map fun v => v.category).sum + (13 * (names.length + 1) + 42) ≤ x_s M) (ho : some ((.inr cls, sE S) : xr) = some r) : ES l w g M pc ls st S r := fun h hP => by
  cases ho
  obtain ⟨p1, p2, p3, p4, p5⟩ := hP
  refine ⟨(h.1 + 1, h.2.1 + 6, x_up h.2.2 h.1 (.inr (99, []))), ⟨?_, ?_, fun q hq => ?_, fun k hk => ?_, p5⟩, e_throw hcls hnames hk hini hat hgood d0 d3 d4 d7 hout hf hs rfl⟩
  · show h.1 + 1 = w.2.1 + 534 + (S.2.2 + 1)
    omega
  · show h.2.1 + 6 = 14212 + 6 * (S.2.2 + 1)
    omega
  · show x_up h.2.2 h.1 _ q = g q
    rw [x_up_n (by omega)]
    exact p3 q hq
  · show x_up h.2.2 h.1 _ (w.2.1 + k) = _
    rw [x_up_n (by omega)]
    exact p4 k hk
theorem et_out {E : String} (ht : ∀ x ∈ tableOf (x_t M), covers x pc = false) (ho : some ((.inr E, S) : xr) = some r) : ET l w g M pc ls st S E r := fun h hP => by
  cases ho
  exact ⟨h, hP, t_out ht rfl⟩
/-- a call: the callee's stretch, then what comes -/
theorem es_callV {idx n q : Nat} {as : List Value} {c : Nat} {C : String} {T : u_T} {N : Nat} {ty : Nat → FieldType} {fs : List Value} (hC : x_CL c C T N ty) (hd : decode (x_b M) pc = .ok (.invokevirtual idx, 3)) (hk : x_CS M M' n) (hl1 : Cond.methodLink (x_y M).cls idx (x_y M') ∈ x_w) (hl2 : Cond.instanceMethod (x_y M') ∈ x_w) (hl3 : Cond.selects (x_y M').cls (x_y M') (x_y M') ∈ x_w) (hst : st = as.reverse ++ .ref (w.2.1 + q) :: rest) (hn : as.length = n) (hW : (rest.map fun v => v.category).sum ≤ 8) (hfit : (lg_sl (.ref (w.2.1 + q) :: as)).length ≤ x_n M') (hq : q < 534) (hCy : C = (x_y M').cls) (he : cel w.2.1 q (S.1 q) (S.2.1 q) = .inr (c, fs))
    (kc : ES l w g M' 0 (lv_args 0 (.ref (w.2.1 + q) :: as)) [] S r') (kr : ∀ v : Option xv, r'.1 = .inl v → ES l w g M (pc + 3) ls ((v.map (xval w.2.1)).toList ++ rest) r'.2 r) (kx : ∀ E : String, r'.1 = .inr E → ET l w g M pc ls rest r'.2 E r) : ES l w g M pc ls st S r := fun h hP => by
  obtain ⟨h1, P1, z1⟩ := kc h hP
  subst hCy
  have hrc : x_rc h (w.2.1 + q) (x_y M').cls := Or.inl ⟨c, T, N, ty, fs, hC, by rw [hP.cell hq]; exact he⟩
  cases hv : r'.1 with
  | inl v =>
    obtain ⟨h2, P2, z2⟩ := kr v hv h1 P1
    refine ⟨h2, P2, e_callV hd hk hl1 hl2 hl3 hst hn hW hfit (hP.lt hq) hrc z1 (fun v' e => ?_) (fun E e => ?_)⟩
    · rw [hv] at e
      cases e
      exact z2
    · rw [hv] at e
      cases e
  | inr E =>
    obtain ⟨h2, P2, z2⟩ := kx E hv h1 P1
    refine ⟨h2, P2, e_callV hd hk hl1 hl2 hl3 hst hn hW hfit (hP.lt hq) hrc z1 (fun v' e => ?_) (fun E' e => ?_)⟩
    · rw [hv] at e
      cases e
    · rw [hv] at e
      cases e
      exact z2
theorem es_callS {idx n : Nat} {as : List Value} (hd : decode (x_b M) pc = .ok (.invokestatic idx, 3)) (hk : x_CS M M' n) (hl1 : Cond.methodLink (x_y M).cls idx (x_y M') ∈ x_w) (hl2 : Cond.static (x_y M') ∈ x_w) (hst : st = as.reverse ++ rest) (hn : as.length = n) (hW : (rest.map fun v => v.category).sum ≤ 8) (hfit : (lg_sl as).length ≤ x_n M')
    (kc : ES l w g M' 0 (lv_args 0 as) [] S r') (kr : ∀ v : Option xv, r'.1 = .inl v → ES l w g M (pc + 3) ls ((v.map (xval w.2.1)).toList ++ rest) r'.2 r) (kx : ∀ E : String, r'.1 = .inr E → ET l w g M pc ls rest r'.2 E r) : ES l w g M pc ls st S r := fun h hP => by
  obtain ⟨h1, P1, z1⟩ := kc h hP
  cases hv : r'.1 with
  | inl v =>
    obtain ⟨h2, P2, z2⟩ := kr v hv h1 P1
    refine ⟨h2, P2, e_callS hd hk hl1 hl2 hst hn hW hfit z1 (fun v' e => ?_) (fun E e => ?_)⟩
    · rw [hv] at e
      cases e
      exact z2
    · rw [hv] at e
      cases e
  | inr E =>
    obtain ⟨h2, P2, z2⟩ := kx E hv h1 P1
    refine ⟨h2, P2, e_callS hd hk hl1 hl2 hst hn hW hfit z1 (fun v' e => ?_) (fun E' e => ?_)⟩
    · rw [hv] at e
      cases e
    · rw [hv] at e
      cases e
      exact z2
end SL
