/-! 98: the reference's words -/
def nvl : Nat → Int64 → Int64 → Int32 → Option Int64
  | 0, _, _, _ => none
  | n + 1, y0, y2, x4 => if x4 < 0 then some y2 else if (lg_cmp (((y0 : Int64) >>> ((x4 : Int32).toInt64 &&& 63)) &&& 255) 0) = 0 then nvl n y0 y2 (x4 + (-8)) else nvl n y0 (((y2 * 27) + (((y0 : Int64) >>> ((x4 : Int32).toInt64 &&& 63)) &&& 255)) - 96) (x4 + (-8))
theorem nvl_e {N : Nat} {S : xS} : ∀ (n : Nat) (y0 y2 : Int64) (x4 : Int32), f_X12_nameOf_6 N n y0 y2 x4 S = (nvl n y0 y2 x4).map (fun v => ((.inl (some (.inr (.inl v))), S) : xr)) := by
  intro n
  induction n with
  | zero => intro y0 y2 x4; rfl
  | succ n ih =>
    intro y0 y2 x4
    rw [f_X12_nameOf_6.eq_2]
    unfold nvl
    by_cases q : x4 < 0
    · rw [if_pos q, if_pos q]
      rfl
    · rw [if_neg q, if_neg q]
      unfold f_X12_nameOf_41
      by_cases q2 : (lg_cmp (((y0 : Int64) >>> ((x4 : Int32).toInt64 &&& 63)) &&& 255) 0) = 0
      · rw [if_pos q2, if_pos q2]
        exact ih _ _ _
      · rw [if_neg q2, if_neg q2]
        exact ih _ _ _
def wfn (i : Nat) : Nat → Value := fun j => .long (if j < i then WRD j else 0)
theorem wfn_s {i : Nat} : updV (wfn i) i (.long (WRD i)) = wfn (i + 1) := by
  funext j
  unfold updV wfn
  by_cases q : j = i
  · rw [if_pos q, if_pos (by omega), q]
  · rw [if_neg q]
    by_cases q2 : j < i
    · rw [if_pos q2, if_pos (by omega)]
    · rw [if_neg q2, if_neg (by omega)]
section CX
variable {l : Launch} {w : xW} {M M' : xM} {pc pc' : Nat} {ls ls' : List (Nat × Value)} {st st' rest : List Value} {h h' : xH} {F : xO × xH → Prop} {g X X' : Nat → xE} {n sl : Nat}
theorem XE_callO {idx m c q : Nat} {T : u_T} {N : Nat} {ty : Nat → FieldType} {fs as : List Value} {P : xH → Prop} (hc : CI w g h n sl X) (hq : q < n) (hX : X q = .inr (c, fs)) (hC : x_CL c (x_y M').cls T N ty) (hd : decode (x_b M) pc = .ok (.invokevirtual idx, 3)) (hk : x_CS M M' m) (hl1 : Cond.methodLink (x_y M).cls idx (x_y M') ∈ x_w) (hl2 : Cond.instanceMethod (x_y M') ∈ x_w) (hl3 : Cond.selects (x_y M').cls (x_y M') (x_y M') ∈ x_w) (hst : st = as.reverse ++ .ref (w.2.1 + q) :: rest) (hn : as.length = m) (hW : (rest.map fun v => v.category).sum ≤ 8) (hfit : (lg_sl (.ref (w.2.1 + q) :: as)).length ≤ x_n M')
    (kc : XE l w M' 0 (lv_args 0 (.ref (w.2.1 + q) :: as)) [] h (fun o => o.1 = .inl none ∧ P o.2)) (kr : ∀ h', P h' → XE l w M (pc + 3) ls rest h' F) : XE l w M pc ls st h F := by
  obtain ⟨⟨o1, o2⟩, ⟨e1, e2⟩, z⟩ := kc
  have e1' : o1 = .inl none := e1
  subst e1'
  obtain ⟨o, p, y⟩ := kr _ e2
  have h1 := hc.1
  exact ⟨o, p, e_callV hd hk hl1 hl2 hl3 hst hn hW hfit (by omega) (Or.inl ⟨c, T, N, ty, fs, hC, by rw [hc.2.2.2 q hq]; exact hX⟩) z (fun v' e => by cases e; exact y) (fun E e => by cases e)⟩
/-- one word -/
theorem ct_wordIs {i : Nat} {y : Int64} {fs : List Value} (hc : CI w g h 533 sl X) (hX : X 503 = .inr (12, fs)) (hf : fs[19]? = some (.ref (w.2.1 + 517))) (h517 : X 517 = .inl (.long, 20, wfn i)) (hi : i < 20) (hv : nvl 20 y 0 56 = some (WRD i)) : XE l w M_X12_wordIs 0 (lv_args 0 [.ref (w.2.1 + 503), .int (nn i), .long y]) [] h (fun o => o.1 = .inl none ∧ CI w g o.2 533 sl (uX X 517 (.inl (.long, 20, wfn (i + 1))))) := by
  show XE l w M_X12_wordIs 0 [(0, .ref (w.2.1 + 503)), (1, .int (nn i)), (2, .long y)] [] h _
  have hn : x_S l w M_X12_nameOf 0 (lv_args 0 [.long y]) [] h (.inl (some (.long (WRD i))), h) := by
    have := tp_X12_nameOf (l := l) (w := w) 20 y (fun _ _ => 0, fun _ _ => 0, 0) (.inl (some (.inr (.inl (WRD i)))), (fun _ _ => 0, fun _ _ => 0, 0)) (by
      unfold f_X12_nameOf
      rw [nvl_e, hv]
      rfl) h
    exact this
  have ei : (nn i).toNatClampNeg = i := nn_t (by omega)
  refine XE_l (pc' := 1) (ls' := [(0, .ref (w.2.1 + 503)), (1, .int (nn i)), (2, .long y)]) (st' := [.ref (w.2.1 + 503)]) (fun _ k => e_aload_n dX12_wordIs_0 0 rfl k) ?_
  refine XE_get (q := 503) (k := 19) (v := .ref (w.2.1 + 517)) hc (by decide) hX xc_12 dX12_wordIs_1 fl_X12_69 (by decide) hf ?_
  refine XE_l (pc' := 6) (ls' := [(0, .ref (w.2.1 + 503)), (1, .int (nn i)), (2, .long y)]) (st' := [.long y, .int (nn i), .ref (w.2.1 + 517)]) (fun _ k => e_iload_n dX12_wordIs_4 1 rfl (e_lload_n dX12_wordIs_5 2 rfl k)) ?_
  refine XE_callS (as := [.long y]) (rest := [.int (nn i), .ref (w.2.1 + 517)]) dX12_wordIs_6 cs_X12_wordIs_X12_nameOf ml_X12_208 st_X12_nameOf rfl rfl (Nat.le_of_ble_eq_true rfl) (Nat.le_of_ble_eq_true rfl) hn ?_
  refine XE_last (q := 517) (N := 20) (f := wfn i) hc (by decide) h517 dX12_wordIs_9 ((xin_nn (by omega)).mpr hi) (fun h' hc' => ?_)
  rw [ei, wfn_s] at hc'
  exact XE_ret dX12_wordIs_10 rfl ⟨rfl, hc'⟩
end CX
