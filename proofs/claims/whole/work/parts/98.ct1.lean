/-! 98: objects are made -/
def XE (l : Launch) (w : xW) (M : xM) (pc : Nat) (ls : List (Nat × Value)) (st : List Value) (h : xH) (F : xO × xH → Prop) : Prop := ∃ o, F o ∧ x_S l w M pc ls st h o
/-- n cells are made, they are X; below nothing has changed -/
def CI (w : xW) (g : Nat → xE) (h : xH) (n sl : Nat) (X : Nat → xE) : Prop := h.1 = w.2.1 + n ∧ h.2.1 = sl ∧ (∀ a, a < w.2.1 → h.2.2 a = g a) ∧ ∀ k, k < n → h.2.2 (w.2.1 + k) = X k
def uX (X : Nat → xE) (k : Nat) (e : xE) : Nat → xE := fun j => if j = k then e else X j
def mX (lo : Nat) (X : Nat → xE) (n : Nat) (ty : FieldType) (N K : Nat) : Nat → xE := fun k => if k = n then .inl (.array ty, N, fun j => .ref (lo + (n + 1 + j))) else if n < k then .inl (ty, K, fun _ => defaultValue ty) else X k
section CT
variable {l : Launch} {w : xW} {M M' : xM} {pc pc' : Nat} {ls ls' : List (Nat × Value)} {st st' rest : List Value} {h h' : xH} {F : xO × xH → Prop} {g X : Nat → xE} {n sl : Nat}
theorem CI_up {e : xE} {N : Nat} (hc : CI w g h n sl X) : CI w g (h.1 + 1, h.2.1 + N, x_up h.2.2 h.1 e) (n + 1) (sl + N) (uX X n e) := by
  obtain ⟨h1, h2, h3, h4⟩ := hc
  refine ⟨by show h.1 + 1 = _; omega, by show h.2.1 + N = _; omega, fun a ha => ?_, fun k hk => ?_⟩
  · show x_up h.2.2 h.1 e a = g a
    rw [x_up_n (by omega)]
    exact h3 a ha
  · show x_up h.2.2 h.1 e (w.2.1 + k) = _
    unfold uX
    by_cases q : k = n
    · rw [if_pos q, q, ← h1, x_up_s]
    · rw [if_neg q, x_up_n (by omega)]
      exact h4 k (by omega)
theorem CI_set {e : xE} {q : Nat} (hc : CI w g h n sl X) (hq : q < n) : CI w g (h.1, h.2.1, x_up h.2.2 (w.2.1 + q) e) n sl (uX X q e) := by
  obtain ⟨h1, h2, h3, h4⟩ := hc
  refine ⟨h1, h2, fun a ha => ?_, fun k hk => ?_⟩
  · show x_up h.2.2 (w.2.1 + q) e a = g a
    rw [x_up_n (by omega)]
    exact h3 a ha
  · show x_up h.2.2 (w.2.1 + q) e (w.2.1 + k) = _
    unfold uX
    by_cases z : k = q
    · rw [if_pos z, z, x_up_s]
    · rw [if_neg z, x_up_n (by omega)]
      exact h4 k hk
theorem CI_m {ty : FieldType} {N K : Nat} (hc : CI w g h n sl X) : CI w g (h.1 + 1 + N, h.2.1 + N + N * K, fun a => if a = h.1 then .inl (.array ty, N, fun j => .ref (h.1 + 1 + j)) else if h.1 < a then .inl (ty, K, fun _ => defaultValue ty) else h.2.2 a) (n + 1 + N) (sl + N + N * K) (mX w.2.1 X n ty N K) := by
  obtain ⟨h1, h2, h3, h4⟩ := hc
  refine ⟨by show h.1 + 1 + N = _; omega, by show h.2.1 + N + N * K = _; rw [h2], fun a ha => ?_, fun k hk => ?_⟩
  · show (if a = h.1 then _ else if h.1 < a then _ else h.2.2 a) = g a
    rw [if_neg (by omega), if_neg (by omega)]
    exact h3 a ha
  · show (if w.2.1 + k = h.1 then (.inl (.array ty, N, fun j => .ref (h.1 + 1 + j)) : xE) else if h.1 < w.2.1 + k then .inl (ty, K, fun _ => defaultValue ty) else h.2.2 (w.2.1 + k)) = _
    unfold mX
    by_cases q : k = n
    · rw [if_pos (by omega), if_pos q]
      have e : (fun j => Value.ref (h.1 + 1 + j)) = (fun j => Value.ref (w.2.1 + (n + 1 + j))) := by
        funext j
        rw [h1, show w.2.1 + n + 1 + j = w.2.1 + (n + 1 + j) by omega]
      rw [e]
    · rw [if_neg (by omega), if_neg q]
      by_cases q2 : n < k
      · rw [if_pos (by omega), if_pos q2]
      · rw [if_neg (by omega), if_neg q2]
        exact h4 k (by omega)
theorem XE_l (row : ∀ o, x_S l w M pc' ls' st' h o → x_S l w M pc ls st h o) (k : XE l w M pc' ls' st' h F) : XE l w M pc ls st h F := by
  obtain ⟨o, p, z⟩ := k
  exact ⟨o, p, row o z⟩
theorem XE_newa {x : Int32} {N : Nat} {at_ : ArrayType} (hc : CI w g h n sl X) (hd : decode (x_b M) pc = .ok (.newarray at_, 2)) (hw : Cond.arrayClass (newarray.typeOf at_) ∈ x_w) (hno : ∀ C : String, ¬ newarray.typeOf at_ = .object C) (hn : ¬ x < 0) (hN : x.toNatClampNeg = N) (hb : N * componentBytes (newarray.typeOf at_) ≤ 536870912)
    (k : ∀ h', CI w g h' (n + 1) (sl + N) (uX X n (.inl (newarray.typeOf at_, N, fun _ => defaultValue (newarray.typeOf at_)))) → XE l w M (pc + 2) ls (.ref (w.2.1 + n) :: st) h' F) : XE l w M pc ls (.int x :: st) h F := by
  have e := hc.1
  obtain ⟨o, p, z⟩ := k _ (CI_up (e := .inl (newarray.typeOf at_, N, fun _ => defaultValue (newarray.typeOf at_))) (N := N) hc)
  rw [← e] at z
  exact ⟨o, p, e_newa hd hw hno hn hN hb z⟩
theorem XE_anew {x : Int32} {N : Nat} {C : String} {idx : Nat} (hc : CI w g h n sl X) (hd : decode (x_b M) pc = .ok (.anewarray idx, 3)) (hw : Cond.classLink (x_y M).cls idx C ∈ x_w) (hov : Cond.arrayOver (.object C) ∈ x_w) (hn : ¬ x < 0) (hN : x.toNatClampNeg = N) (hb : N * 4 ≤ 536870912)
    (k : ∀ h', CI w g h' (n + 1) (sl + N) (uX X n (.inl (.object C, N, fun _ => .null))) → XE l w M (pc + 3) ls (.ref (w.2.1 + n) :: st) h' F) : XE l w M pc ls (.int x :: st) h F := by
  have e := hc.1
  obtain ⟨o, p, z⟩ := k _ (CI_up (e := .inl (.object C, N, fun _ => .null)) (N := N) hc)
  rw [← e] at z
  exact ⟨o, p, e_anew hd hw hov hn hN hb z⟩
theorem XE_new {c : Nat} {C : String} {T : u_T} {N : Nat} {ty : Nat → FieldType} {idx : Nat} {fs : List Value} (hc : CI w g h n sl X) (hC : x_CL c C T N ty) (hd : decode (x_b M) pc = .ok (.new idx, 3)) (hlo : c ≠ 100) (hk : Cond.classLink (x_y M).cls idx C ∈ x_w) (hins : Cond.instantiable C N ∈ x_w) (hini : Cond.initialized C ∈ x_w) (hfl : fs.length = N) (hfs : ∀ j, j < N → defaultValue (ty j) = vp_V fs j)
    (k : ∀ h', CI w g h' (n + 1) (sl + N) (uX X n (.inr (c, fs))) → XE l w M (pc + 3) ls (.ref (w.2.1 + n) :: st) h' F) : XE l w M pc ls st h F := by
  have e := hc.1
  obtain ⟨o, p, z⟩ := k _ (CI_up (e := .inr (c, fs)) (N := N) hc)
  rw [← e] at z
  exact ⟨o, p, e_new hC hd hlo hk hins hini hfl hfs z⟩
theorem XE_mna {ty : FieldType} {x y : Int32} {N K idx : Nat} (hc : CI w g h n sl X) (hd : decode (x_b M) pc = .ok (.multianewarray idx 2, 4)) (hw : Cond.classLink (x_y M).cls idx ("[" ++ (FieldType.array ty).toString) ∈ x_w) (hov : Cond.arrayOver (.array ty) ∈ x_w) (hac : Cond.arrayClass ty ∈ x_w) (hno : ∀ C : String, ¬ ty = .object C) (hn : ¬ x < 0) (hk : ¬ y < 0) (hN : x.toNatClampNeg = N) (hK : y.toNatClampNeg = K) (hb1 : N * 4 ≤ 536870912) (hb2 : K * componentBytes ty ≤ 536870912) (hb3 : K ≤ 536870912) (hdf : fits ty (defaultValue ty) = true) (hdd : (defaultValue ty).isDefault = true)
    (k : ∀ h', CI w g h' (n + 1 + N) (sl + N + N * K) (mX w.2.1 X n ty N K) → XE l w M (pc + 4) ls (.ref (w.2.1 + n) :: st) h' F) : XE l w M pc ls (.int y :: .int x :: st) h F := by
  have e := hc.1
  obtain ⟨o, p, z⟩ := k _ (CI_m (ty := ty) (N := N) (K := K) hc)
  rw [← e] at z
  exact ⟨o, p, e_mna hd hw hov hac hno hn hk hN hK hb1 hb2 hb3 hdf hdd z⟩
theorem XE_put {c : Nat} {C : String} {T : u_T} {N : Nat} {ty : Nat → FieldType} {idx q k : Nat} {fs : List Value} {v : Value} (hc : CI w g h n sl X) (hq : q < n) (hX : X q = .inr (c, fs)) (hC : x_CL c C T N ty) (hd : decode (x_b M) pc = .ok (.putfield idx, 3)) (hF : x_FL (x_y M).cls idx T k) (hk : k < N) (hlo : c ≠ 100) (hfin : (T k).2.2.2 = false) (hn : narrow (ty k) v = v) (hfit : fits (ty k) v = true)
    (kk : ∀ h', CI w g h' n sl (uX X q (.inr (c, fs.set k v))) → XE l w M (pc + 3) ls st h' F) : XE l w M pc ls (v :: .ref (w.2.1 + q) :: st) h F := by
  obtain ⟨o, p, z⟩ := kk _ (CI_set (e := .inr (c, fs.set k v)) hc hq)
  have h1 := hc.1
  exact ⟨o, p, e_put hC hd hF hk hlo (by omega) (by omega) (by rw [hc.2.2.2 q hq]; exact hX) hfin hn hfit z⟩
theorem XE_putF {c : Nat} {C : String} {T : u_T} {N : Nat} {ty : Nat → FieldType} {idx q k : Nat} {fs : List Value} {v : Value} (hc : CI w g h n sl X) (hq : q < n) (hX : X q = .inr (c, fs)) (hC : x_CL c C T N ty) (hd : decode (x_b M) pc = .ok (.putfield idx, 3)) (hF : Cond.fieldLink (x_y M).cls idx (T k).1 (T k).2.1 (T k).2.2.1 ∈ x_w) (hk : k < N) (hlo : c ≠ 100) (hfin : (T k).2.2.2 = true) (hin2 : (x_y M).name = "<init>") (hdecl : (T k).1 = (x_y M).cls) (hn : narrow (ty k) v = v) (hfit : fits (ty k) v = true)
    (kk : ∀ h', CI w g h' n sl (uX X q (.inr (c, fs.set k v))) → XE l w M (pc + 3) ls st h' F) : XE l w M pc ls (v :: .ref (w.2.1 + q) :: st) h F := by
  obtain ⟨o, p, z⟩ := kk _ (CI_set (e := .inr (c, fs.set k v)) hc hq)
  have h1 := hc.1
  exact ⟨o, p, e_putF hC hd hF hk hlo (by omega) (by omega) (by rw [hc.2.2.2 q hq]; exact hX) hfin hin2 hdecl hn hfit z⟩
theorem XE_get {c : Nat} {C : String} {T : u_T} {N : Nat} {ty : Nat → FieldType} {idx q k : Nat} {fs : List Value} {v : Value} (hc : CI w g h n sl X) (hq : q < n) (hX : X q = .inr (c, fs)) (hC : x_CL c C T N ty) (hd : decode (x_b M) pc = .ok (.getfield idx, 3)) (hF : x_FL (x_y M).cls idx T k) (hk : k < N) (hv : fs[k]? = some v)
    (kk : XE l w M (pc + 3) ls (v :: st) h F) : XE l w M pc ls (.ref (w.2.1 + q) :: st) h F := by
  have h1 := hc.1
  exact XE_l (fun o z => e_get hC hd hF hk (by omega) (by rw [hc.2.2.2 q hq]; exact hX) hv z) kk
theorem XE_ret (hd : decode (x_b M) pc = .ok (.return_, 1)) (hr : x_r M = none) (p : F (.inl none, h)) : XE l w M pc ls [] h F := ⟨_, p, e_return hd hr rfl⟩
theorem XE_init {idx m b : Nat} {as : List Value} {P : xH → Prop} (hd : decode (x_b M) pc = .ok (.invokespecial idx, 3)) (hk : x_CS M M' m) (hl1 : Cond.methodLink (x_y M).cls idx (x_y M') ∈ x_w ∨ ∃ host : String, Cond.methodLinkNest (x_y M).cls idx (x_y M') host ∈ x_w) (hl2 : Cond.instanceMethod (x_y M') ∈ x_w) (hnm : (x_y M').name = "<init>") (hrt : x_r M' = none) (ht : x_t M' = []) (hst : st = as.reverse ++ .ref b :: rest) (hn : as.length = m) (hW : (rest.map fun v => v.category).sum ≤ 8) (hfit : (lg_sl (.ref b :: as)).length ≤ x_n M')
    (kc : XE l w M' 0 (lv_args 0 (.ref b :: as)) [] h (fun o => o.1 = .inl none ∧ P o.2)) (kr : ∀ h', P h' → XE l w M (pc + 3) ls rest h' F) : XE l w M pc ls st h F := by
  obtain ⟨o', ⟨e1, e2⟩, z⟩ := kc
  obtain ⟨o, p, y⟩ := kr _ e2
  exact ⟨o, p, e_callI hd hk hl1 hl2 hnm hrt ht hst hn hW hfit e1 z y⟩
end CT
