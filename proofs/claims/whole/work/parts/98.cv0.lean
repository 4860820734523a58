def EP (l : Launch) (w : xW) (M : xM) (pc : Nat) (ls : List (Nat × Value)) (st : List Value) (_ : xS) (r : xr) : Prop := ∀ h : xH, x_S l w M pc ls st h (xout w.2.1 r.1, h)
section EPS
variable {l : Launch} {w : xW} {M : xM} {pc pc' tgt : Nat} {ls ls' : List (Nat × Value)} {st st' : List Value} {S : xS} {r : xr}
theorem ep_l (row : ∀ (h : xH) (o : xO × xH), x_S l w M pc' ls' st' h o → x_S l w M pc ls st h o) (k : EP l w M pc' ls' st' S r) : EP l w M pc ls st S r := fun h => row h _ (k h)
theorem ep_br {c : Prop} {pf : Nat} (row : ∀ (h : xH) (o : xO × xH), (c → x_S l w M tgt ls st' h o) → (¬ c → x_S l w M pf ls st' h o) → x_S l w M pc ls st h o) (kt : c → EP l w M tgt ls st' S r) (kf : ¬ c → EP l w M pf ls st' S r) : EP l w M pc ls st S r := fun h => row h _ (fun z => kt z h) (fun z => kf z h)
theorem ep_sub (is : List Nat) (hs : lv_pick ls is = ls') (k : EP l w M pc ls' st S r) : EP l w M pc ls st S r := fun h => x_sub is hs (k h)
theorem ep_lreturn {v : Int64} (hd : decode (x_b M) pc = .ok (.lreturn, 1)) (hr : x_r M = some .long) (ho : some ((.inl (some (.inr (.inl v))), S) : xr) = some r) : EP l w M pc ls [.long v] S r := fun h => by
  cases ho
  exact e_lreturn hd hr rfl
end EPS
set_option maxRecDepth 100000 in
set_option maxHeartbeats 4000000 in
theorem tp_X12_nameOf_41 {l : Launch} {w : xW} (N : Nat) (k6 : Int64 → Int64 → Int32 → xS → Option xr) (hk6 : ∀ (y0 : Int64) (y2 : Int64) (x4 : Int32) (S : xS) (r : xr), k6 y0 y2 x4 S = some r → EP l w M_X12_nameOf 6 [(0, .long y0), (2, .long y2), (4, .int x4)] [] S r) (y0 : Int64) (y2 : Int64) (x4 : Int32) (S : xS) (r : xr) (hf : f_X12_nameOf_41 N k6 y0 y2 x4 S = some r) : EP l w M_X12_nameOf 41 [(0, .long y0), (2, .long y2), (4, .int x4)] [] S r := by
  unfold f_X12_nameOf_41 at hf
  refine ep_l (pc' := 6) (ls' := [(4, .int (x4 + (-8))), (0, .long y0), (2, .long y2)]) (st' := []) (fun _ _ k => e_iinc (v := x4 + (-8)) (ls' := [(4, .int (x4 + (-8))), (0, .long y0), (2, .long y2)]) dX12_nameOf_41 2 rfl rfl (by decide) rfl (e_goto (tgt := 6) dX12_nameOf_44 rfl k)) ?_
  refine ep_sub [1, 2, 0] rfl ?_
  exact hk6 y0 y2 (x4 + (-8)) S r hf
set_option maxRecDepth 100000 in
set_option maxHeartbeats 4000000 in
theorem tp_X12_nameOf_6 {l : Launch} {w : xW} (N : Nat)   : ∀ (n : Nat) (y0 : Int64) (y2 : Int64) (x4 : Int32) (S : xS) (r : xr), f_X12_nameOf_6 N  n y0 y2 x4 S = some r → EP l w M_X12_nameOf 6 [(0, .long y0), (2, .long y2), (4, .int x4)] [] S r := by
  intro n
  induction n with
  | zero => intro y0 y2 x4 S r hf; cases hf
  | succ n ih =>
    intro y0 y2 x4 S r hf
    rw [f_X12_nameOf_6.eq_2] at hf
    refine ep_l (pc' := 8) (ls' := [(0, .long y0), (2, .long y2), (4, .int x4)]) (st' := [.int x4]) (fun _ _ k => e_iload dX12_nameOf_6 2 rfl k) ?_
    refine ep_br (c := x4 < 0) (tgt := 47) (pf := 11) (st' := []) (fun _ _ a b => e_if_lt dX12_nameOf_8 rfl a b) (fun c5 => ?_) (fun c5 => ?_)
    · rw [if_pos c5] at hf
      refine ep_l (pc' := 48) (ls' := [(0, .long y0), (2, .long y2), (4, .int x4)]) (st' := [.long y2]) (fun _ _ k => e_lload_n dX12_nameOf_47 1 rfl k) ?_
      exact ep_lreturn dX12_nameOf_48 rfl hf
    · rw [if_neg c5] at hf
      refine ep_l (pc' := 25) (ls' := [(5, .long (((y0 : Int64) >>> ((x4 : Int32).toInt64 &&& 63)) &&& 255)), (0, .long y0), (2, .long y2), (4, .int x4)]) (st' := [.int (lg_cmp (((y0 : Int64) >>> ((x4 : Int32).toInt64 &&& 63)) &&& 255) 0)]) (fun _ _ k => e_lload_n dX12_nameOf_11 0 rfl (e_iload dX12_nameOf_12 2 rfl (e_lshr (v := (y0 : Int64) >>> ((x4 : Int32).toInt64 &&& 63)) dX12_nameOf_14 rfl (e_ldc2 dX12_nameOf_15 kj_X12_202 (e_land dX12_nameOf_18 (e_lstore (ls' := [(5, .long (((y0 : Int64) >>> ((x4 : Int32).toInt64 &&& 63)) &&& 255)), (0, .long y0), (2, .long y2), (4, .int x4)]) dX12_nameOf_19 (by decide) rfl (e_lload dX12_nameOf_21 0 rfl (e_lconst (v := 0) dX12_nameOf_23 (by decide) (e_lcmp dX12_nameOf_24 k))))))))) ?_
      refine ep_br (c := (lg_cmp (((y0 : Int64) >>> ((x4 : Int32).toInt64 &&& 63)) &&& 255) 0) = 0) (tgt := 41) (pf := 28) (st' := []) (fun _ _ a b => e_if_eq dX12_nameOf_25 rfl a b) (fun c6 => ?_) (fun c6 => ?_)
      · rw [if_pos c6] at hf
        refine ep_sub [1, 2, 3] rfl ?_
        exact tp_X12_nameOf_41 N (f_X12_nameOf_6 N n) ih y0 y2 x4 S r hf
      · rw [if_neg c6] at hf
        refine ep_l (pc' := 41) (ls' := [(2, .long (((y2 * 27) + (((y0 : Int64) >>> ((x4 : Int32).toInt64 &&& 63)) &&& 255)) - 96)), (5, .long (((y0 : Int64) >>> ((x4 : Int32).toInt64 &&& 63)) &&& 255)), (0, .long y0), (4, .int x4)]) (st' := []) (fun _ _ k => e_lload_n dX12_nameOf_28 2 rfl (e_ldc2 dX12_nameOf_29 kj_X12_204 (e_lmul dX12_nameOf_32 (e_lload dX12_nameOf_33 0 rfl (e_ladd dX12_nameOf_35 (e_ldc2 dX12_nameOf_36 kj_X12_206 (e_lsub dX12_nameOf_39 (e_lstore_n (ls' := [(2, .long (((y2 * 27) + (((y0 : Int64) >>> ((x4 : Int32).toInt64 &&& 63)) &&& 255)) - 96)), (5, .long (((y0 : Int64) >>> ((x4 : Int32).toInt64 &&& 63)) &&& 255)), (0, .long y0), (4, .int x4)]) dX12_nameOf_40 (by decide) rfl k)))))))) ?_
        refine ep_sub [2, 0, 3] rfl ?_
        exact tp_X12_nameOf_41 N (f_X12_nameOf_6 N n) ih y0 (((y2 * 27) + (((y0 : Int64) >>> ((x4 : Int32).toInt64 &&& 63)) &&& 255)) - 96) x4 S r hf
set_option maxRecDepth 100000 in
set_option maxHeartbeats 4000000 in
theorem tp_X12_nameOf {l : Launch} {w : xW} (N : Nat) (y0 : Int64) (S : xS) (r : xr) (hf : f_X12_nameOf N y0 S = some r) : EP l w M_X12_nameOf 0 (lv_args 0 [.long y0]) [] S r := by
  show EP l w M_X12_nameOf 0 [(0, .long y0)] [] S r
  unfold f_X12_nameOf at hf
  refine ep_l (pc' := 6) (ls' := [(4, .int 56), (2, .long 0), (0, .long y0)]) (st' := []) (fun _ _ k => e_lconst (v := 0) dX12_nameOf_0 (by decide) (e_lstore_n (ls' := [(2, .long 0), (0, .long y0)]) dX12_nameOf_1 (by decide) rfl (e_bipush (v := 56) dX12_nameOf_2 (by decide) (e_istore (ls' := [(4, .int 56), (2, .long 0), (0, .long y0)]) dX12_nameOf_4 (by decide) rfl k)))) ?_
  refine ep_sub [2, 1, 0] rfl ?_
  exact tp_X12_nameOf_6 N N y0 0 56 S r hf
