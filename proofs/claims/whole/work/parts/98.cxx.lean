/-! 98: shared by the last constructors -/
theorem fa_q {P : Nat → Prop} {a b : Nat} (h1 : ∀ k, k < a → P k) (h2 : ∀ k, a ≤ k → k < b → P k) : ∀ k, k < b → P k := fun k x => by
  by_cases q : k < a
  · exact h1 k q
  · exact h2 k (by omega) x
theorem fa_z {P : Nat → Prop} {b : Nat} (h2 : ∀ k, 0 ≤ k → k < b → P k) : ∀ k, k < b → P k := fun k x => h2 k (Nat.zero_le _) x
section CZ
variable {l : Launch} {w : xW} {M M' : xM} {pc pc' : Nat} {ls ls' : List (Nat × Value)} {st st' rest : List Value} {h h' : xH} {F F' : xO × xH → Prop} {g X X' : Nat → xE} {n sl : Nat}
theorem XE_m (h1 : XE l w M pc ls st h F) (h2 : ∀ o, F o → F' o) : XE l w M pc ls st h F' := by
  obtain ⟨o, p, z⟩ := h1
  exact ⟨o, h2 o p, z⟩
theorem CR_s {sl' q : Nat} (hc : CR w g n sl q X h) (e : sl = sl') : CR w g n sl' q X h := e ▸ hc
theorem rfn_0 {lo a : Nat} : (fun _ => Value.null) = rfn lo a 0 := funext fun j => (if_neg (Nat.not_lt_zero j)).symm
theorem wfn_0 : (fun _ => Value.long 0) = wfn 0 := funext fun j => congrArg Value.long (if_neg (Nat.not_lt_zero j)).symm
def WX (lo : Nat) (X : Nat → xE) (i : Nat) : Nat → xE := fun k => if k < 503 then X k else if k = 517 then .inl (.long, 20, wfn i) else cz lo k
theorem WX_s {lo i : Nat} : uX (WX lo X i) 517 (.inl (.long, 20, wfn (i + 1))) = WX lo X (i + 1) := by
  funext k
  unfold uX WX
  by_cases q : k = 517
  · rw [if_pos q, if_neg (by omega), if_pos q]
  · rw [if_neg q, if_neg q, if_neg q]
theorem WX_503 {lo i : Nat} : WX lo X i 503 = .inr (12, [.int 0, .ref (lo + 504), .int 0, .int 0, .ref (lo + 505), .ref (lo + 506), .ref (lo + 507), .ref (lo + 508), .int 0, .ref (lo + 509), .ref (lo + 510), .ref (lo + 511), .ref (lo + 512), .ref (lo + 513), .int 0, .ref (lo + 514), .ref (lo + 515), .ref (lo + 516), .int 0, .ref (lo + 517), .int 0, .int (-1), .int (-1), .int 0, .ref (lo + 518), .int 0, .int 0, .ref (lo + 519), .int 0, .int (-1), .int 0, .ref (lo + 520), .ref (lo + 521), .ref (lo + 522), .ref (lo + 523), .int 0, .int 0, .ref (lo + 524), .ref (lo + 525), .int 0, .ref (lo + 526), .ref (lo + 527), .ref (lo + 528), .ref (lo + 529), .ref (lo + 530), .ref (lo + 531), .ref (lo + 532), .int 0]) := rfl
theorem ct_wi {i : Nat} {y : Int64} (hc : CI w g h 533 sl (WX w.2.1 X i)) (hi : i < 20) (hv : nvl 20 y 0 56 = some (WRD i)) : XE l w M_X12_wordIs 0 (lv_args 0 [.ref (w.2.1 + 503), .int (nn i), .long y]) [] h (fun o => o.1 = .inl none ∧ CI w g o.2 533 sl (WX w.2.1 X (i + 1))) := by
  have := ct_wordIs (l := l) (i := i) (y := y) hc WX_503 rfl (show WX w.2.1 X i 517 = _ from rfl) hi hv
  rw [WX_s] at this
  exact this
theorem CI_c (hc : CI w g h n sl X) (hx : ∀ k, k < n → X k = X' k) : CI w g h n sl X' := ⟨hc.1, hc.2.1, hc.2.2.1, fun k hk => (hc.2.2.2 k hk).trans (hx k hk)⟩
def cy (lo k : Nat) : xE := if k = 517 then .inl (.long, 20, fun _ => .long 0) else cz lo k
def YX (lo : Nat) (X : Nat → xE) (fs : List Value) : Nat → xE := fun k => if k < 503 then X k else if k = 503 then .inr (12, fs) else cy lo k
theorem YX_503 {lo : Nat} {fs : List Value} : YX lo X fs 503 = .inr (12, fs) := rfl
theorem Y_0 {fs : List Value} (hc : CI w g h 504 sl X) (hX : X 503 = .inr (12, fs)) : CI w g h 504 sl (YX w.2.1 X fs) := CI_c hc (fun k hk => by
  unfold YX
  by_cases q : k < 503
  · rw [if_pos q]
  · have e : k = 503 := by omega
    rw [if_neg q, if_pos e, e, hX])
theorem Y_put {lo f : Nat} {v : Value} {fs fs' : List Value} (hc : CI w g h n sl (uX (YX lo X fs) 503 (.inr (12, fs.set f v)))) (hf : fs.set f v = fs') : CI w g h n sl (YX lo X fs') := CI_c hc (fun k hk => by
  unfold uX YX
  by_cases q : k = 503
  · rw [if_pos q, if_neg (by omega), if_pos q, hf]
  · rw [if_neg q, if_neg q, if_neg q])
theorem Y_step {lo f m : Nat} {v : Value} {fs fs' : List Value} {e : xE} (hc : CI w g h n sl (uX (uX (YX lo X fs) m e) 503 (.inr (12, fs.set f v)))) (hm : 503 < m) (he : e = cy lo m) (hf : fs.set f v = fs') : CI w g h n sl (YX lo X fs') := CI_c hc (fun k hk => by
  unfold uX YX
  by_cases q : k = 503
  · rw [if_pos q, if_neg (by omega), if_pos q, hf]
  · rw [if_neg q]
    by_cases q2 : k = m
    · rw [if_pos q2, if_neg (by omega), if_neg q, q2, he]
    · rw [if_neg q2, if_neg q, if_neg q])
theorem Y_end {fs : List Value} (hc : CI w g h 533 sl (YX w.2.1 X fs)) (hf : (.inr (12, fs) : xE) = cz w.2.1 503) : CI w g h 533 sl (WX w.2.1 X 0) := CI_c hc (fun k hk => by
  unfold YX WX cy
  by_cases q : k < 503
  · rw [if_pos q, if_pos q]
  · rw [if_neg q, if_neg q]
    by_cases q2 : k = 517
    · rw [if_neg (by omega), if_pos q2, if_pos q2, wfn_0]
    · rw [if_neg q2, if_neg q2]
      by_cases q3 : k = 503
      · rw [if_pos q3, q3, hf]
      · rw [if_neg q3])
end CZ
