/-! the law's loop -/
section LB
variable {l : Launch} {w : xW} {g : Nat → xE} {M M' : xM} {pc : Nat} {ls ls' : List (Nat × Value)} {st st' rest : List Value} {S S' : xS} {r r' : xr}
theorem es_alenB {b zn : Nat} {Z : Nat → Int32} (hb : b < w.2.1) (hg : g b = .inl (.int, zn, fun j => .int (Z j))) (hd : decode (x_b M) pc = .ok (.arraylength, 1)) (kk : ES l w g M (pc + 1) ls (.int (Int32.ofNat zn) :: st) S r) : ES l w g M pc ls (.ref b :: st) S r := fun h hP => by
  obtain ⟨h', p, z⟩ := kk h hP
  exact ⟨h', p, e_alen hd (by have := hP.1; omega) (by rw [hP.2.2.1 b hb]; exact hg) rfl z⟩
theorem es_ialdB {b zn : Nat} {Z : Nat → Int32} {j : Int32} (hb : b < w.2.1) (hg : g b = .inl (.int, zn, fun j => .int (Z j))) (hd : decode (x_b M) pc = .ok (.iaload, 1)) (hj : xin j zn) (kk : ES l w g M (pc + 1) ls (.int (Z j.toNatClampNeg) :: st) S r) : ES l w g M pc ls (.int j :: .ref b :: st) S r := fun h hP => by
  obtain ⟨h', p, z⟩ := kk h hP
  exact ⟨h', p, e_iald hd (by have := hP.1; omega) (by rw [hP.2.2.1 b hb]; exact hg) hj rfl z⟩
end LB
def f_L_law_464 (N : Nat) (zn : Nat) (Z : Nat → Int32) (k23 : Int32 → xS → Option xr) (x4 : Int32) (S : xS) : Option xr :=
  k23 (x4 + 4) S
set_option maxRecDepth 100000 in
set_option maxHeartbeats 4000000 in
theorem t_L_law_464 {l : Launch} {w : xW} {g : Nat → xE} (N : Nat) (zn : Nat) (Z : Nat → Int32) {b : Nat} (hb : b < w.2.1) (hg : g b = .inl (.int, zn, fun j => .int (Z j))) (k23 : Int32 → xS → Option xr) (hk23 : ∀ (x4 : Int32) (S : xS) (r : xr), k23 x4 S = some r → ES l w g M_L_law 23 [(0, .ref b), (1, .ref (w.2.1 + 0)), (2, .ref (w.2.1 + 503)), (3, .ref (w.2.1 + 533)), (4, .int x4)] [] S r) (x4 : Int32) (S : xS) (r : xr) (hf : f_L_law_464 N zn Z k23 x4 S = some r) : ES l w g M_L_law 464 [(0, .ref b), (1, .ref (w.2.1 + 0)), (2, .ref (w.2.1 + 503)), (3, .ref (w.2.1 + 533)), (4, .int x4)] [] S r := by
  unfold f_L_law_464 at hf
  refine es_l (pc' := 23) (ls' := [(4, .int (x4 + 4)), (0, .ref b), (1, .ref (w.2.1 + 0)), (2, .ref (w.2.1 + 503)), (3, .ref (w.2.1 + 533))]) (st' := []) (fun _ _ k => e_iinc (v := x4 + 4) (ls' := [(4, .int (x4 + 4)), (0, .ref b), (1, .ref (w.2.1 + 0)), (2, .ref (w.2.1 + 503)), (3, .ref (w.2.1 + 533))]) dL_law_464 4 rfl rfl (by decide) rfl (e_goto (tgt := 23) dL_law_467 rfl k)) ?_
  refine es_sub [1, 2, 3, 4, 0] rfl ?_
  exact hk23 (x4 + 4) S r hf
def f_L_law_185 (N : Nat) (zn : Nat) (Z : Nat → Int32) (k23 : Int32 → xS → Option xr) (x4 : Int32) (S : xS) : Option xr :=
  f_L_law_464 N zn Z k23 x4 S
set_option maxRecDepth 100000 in
set_option maxHeartbeats 4000000 in
theorem t_L_law_185 {l : Launch} {w : xW} {g : Nat → xE} (N : Nat) (zn : Nat) (Z : Nat → Int32) {b : Nat} (hb : b < w.2.1) (hg : g b = .inl (.int, zn, fun j => .int (Z j))) (k23 : Int32 → xS → Option xr) (hk23 : ∀ (x4 : Int32) (S : xS) (r : xr), k23 x4 S = some r → ES l w g M_L_law 23 [(0, .ref b), (1, .ref (w.2.1 + 0)), (2, .ref (w.2.1 + 503)), (3, .ref (w.2.1 + 533)), (4, .int x4)] [] S r) (x4 : Int32) (S : xS) (r : xr) (hf : f_L_law_185 N zn Z k23 x4 S = some r) : ES l w g M_L_law 185 [(0, .ref b), (1, .ref (w.2.1 + 0)), (2, .ref (w.2.1 + 503)), (3, .ref (w.2.1 + 533)), (4, .int x4)] [] S r := by
  unfold f_L_law_185 at hf
  refine es_l (pc' := 464) (ls' := [(0, .ref b), (1, .ref (w.2.1 + 0)), (2, .ref (w.2.1 + 503)), (3, .ref (w.2.1 + 533)), (4, .int x4)]) (st' := []) (fun _ _ k => e_goto (tgt := 464) dL_law_185 rfl k) ?_
  exact t_L_law_464 N zn Z hb hg k23 hk23 x4 S r hf
def f_L_law_229 (N : Nat) (zn : Nat) (Z : Nat → Int32) (k23 : Int32 → xS → Option xr) (x4 : Int32) (S : xS) : Option xr :=
  f_L_law_464 N zn Z k23 x4 S
set_option maxRecDepth 100000 in
set_option maxHeartbeats 4000000 in
theorem t_L_law_229 {l : Launch} {w : xW} {g : Nat → xE} (N : Nat) (zn : Nat) (Z : Nat → Int32) {b : Nat} (hb : b < w.2.1) (hg : g b = .inl (.int, zn, fun j => .int (Z j))) (k23 : Int32 → xS → Option xr) (hk23 : ∀ (x4 : Int32) (S : xS) (r : xr), k23 x4 S = some r → ES l w g M_L_law 23 [(0, .ref b), (1, .ref (w.2.1 + 0)), (2, .ref (w.2.1 + 503)), (3, .ref (w.2.1 + 533)), (4, .int x4)] [] S r) (x4 : Int32) (S : xS) (r : xr) (hf : f_L_law_229 N zn Z k23 x4 S = some r) : ES l w g M_L_law 229 [(0, .ref b), (1, .ref (w.2.1 + 0)), (2, .ref (w.2.1 + 503)), (3, .ref (w.2.1 + 533)), (4, .int x4)] [] S r := by
  unfold f_L_law_229 at hf
  refine es_l (pc' := 464) (ls' := [(0, .ref b), (1, .ref (w.2.1 + 0)), (2, .ref (w.2.1 + 503)), (3, .ref (w.2.1 + 533)), (4, .int x4)]) (st' := []) (fun _ _ k => e_goto (tgt := 464) dL_law_229 rfl k) ?_
  exact t_L_law_464 N zn Z hb hg k23 hk23 x4 S r hf
def f_L_law_298 (N : Nat) (zn : Nat) (Z : Nat → Int32) (k23 : Int32 → xS → Option xr) (x4 : Int32) (S : xS) : Option xr :=
  f_L_law_464 N zn Z k23 x4 S
set_option maxRecDepth 100000 in
set_option maxHeartbeats 4000000 in
theorem t_L_law_298 {l : Launch} {w : xW} {g : Nat → xE} (N : Nat) (zn : Nat) (Z : Nat → Int32) {b : Nat} (hb : b < w.2.1) (hg : g b = .inl (.int, zn, fun j => .int (Z j))) (k23 : Int32 → xS → Option xr) (hk23 : ∀ (x4 : Int32) (S : xS) (r : xr), k23 x4 S = some r → ES l w g M_L_law 23 [(0, .ref b), (1, .ref (w.2.1 + 0)), (2, .ref (w.2.1 + 503)), (3, .ref (w.2.1 + 533)), (4, .int x4)] [] S r) (x4 : Int32) (S : xS) (r : xr) (hf : f_L_law_298 N zn Z k23 x4 S = some r) : ES l w g M_L_law 298 [(0, .ref b), (1, .ref (w.2.1 + 0)), (2, .ref (w.2.1 + 503)), (3, .ref (w.2.1 + 533)), (4, .int x4)] [] S r := by
  unfold f_L_law_298 at hf
  refine es_l (pc' := 464) (ls' := [(0, .ref b), (1, .ref (w.2.1 + 0)), (2, .ref (w.2.1 + 503)), (3, .ref (w.2.1 + 533)), (4, .int x4)]) (st' := []) (fun _ _ k => e_goto (tgt := 464) dL_law_298 rfl k) ?_
  exact t_L_law_464 N zn Z hb hg k23 hk23 x4 S r hf
def f_L_law_380 (N : Nat) (zn : Nat) (Z : Nat → Int32) (k23 : Int32 → xS → Option xr) (x4 : Int32) (S : xS) : Option xr :=
  f_L_law_464 N zn Z k23 x4 S
set_option maxRecDepth 100000 in
set_option maxHeartbeats 4000000 in
theorem t_L_law_380 {l : Launch} {w : xW} {g : Nat → xE} (N : Nat) (zn : Nat) (Z : Nat → Int32) {b : Nat} (hb : b < w.2.1) (hg : g b = .inl (.int, zn, fun j => .int (Z j))) (k23 : Int32 → xS → Option xr) (hk23 : ∀ (x4 : Int32) (S : xS) (r : xr), k23 x4 S = some r → ES l w g M_L_law 23 [(0, .ref b), (1, .ref (w.2.1 + 0)), (2, .ref (w.2.1 + 503)), (3, .ref (w.2.1 + 533)), (4, .int x4)] [] S r) (x4 : Int32) (S : xS) (r : xr) (hf : f_L_law_380 N zn Z k23 x4 S = some r) : ES l w g M_L_law 380 [(0, .ref b), (1, .ref (w.2.1 + 0)), (2, .ref (w.2.1 + 503)), (3, .ref (w.2.1 + 533)), (4, .int x4)] [] S r := by
  unfold f_L_law_380 at hf
  refine es_l (pc' := 464) (ls' := [(0, .ref b), (1, .ref (w.2.1 + 0)), (2, .ref (w.2.1 + 503)), (3, .ref (w.2.1 + 533)), (4, .int x4)]) (st' := []) (fun _ _ k => e_goto (tgt := 464) dL_law_380 rfl k) ?_
  exact t_L_law_464 N zn Z hb hg k23 hk23 x4 S r hf
def f_L_law_448 (N : Nat) (zn : Nat) (Z : Nat → Int32) (k23 : Int32 → xS → Option xr) (x4 : Int32) (S : xS) : Option xr :=
  f_L_law_464 N zn Z k23 x4 S
set_option maxRecDepth 100000 in
set_option maxHeartbeats 4000000 in
theorem t_L_law_448 {l : Launch} {w : xW} {g : Nat → xE} (N : Nat) (zn : Nat) (Z : Nat → Int32) {b : Nat} (hb : b < w.2.1) (hg : g b = .inl (.int, zn, fun j => .int (Z j))) (k23 : Int32 → xS → Option xr) (hk23 : ∀ (x4 : Int32) (S : xS) (r : xr), k23 x4 S = some r → ES l w g M_L_law 23 [(0, .ref b), (1, .ref (w.2.1 + 0)), (2, .ref (w.2.1 + 503)), (3, .ref (w.2.1 + 533)), (4, .int x4)] [] S r) (x4 : Int32) (S : xS) (r : xr) (hf : f_L_law_448 N zn Z k23 x4 S = some r) : ES l w g M_L_law 448 [(0, .ref b), (1, .ref (w.2.1 + 0)), (2, .ref (w.2.1 + 503)), (3, .ref (w.2.1 + 533)), (4, .int x4)] [] S r := by
  unfold f_L_law_448 at hf
  refine es_l (pc' := 464) (ls' := [(0, .ref b), (1, .ref (w.2.1 + 0)), (2, .ref (w.2.1 + 503)), (3, .ref (w.2.1 + 533)), (4, .int x4)]) (st' := []) (fun _ _ k => e_goto (tgt := 464) dL_law_448 rfl k) ?_
  exact t_L_law_464 N zn Z hb hg k23 hk23 x4 S r hf
def f_L_law_23 (N : Nat) (zn : Nat) (Z : Nat → Int32)  : Nat → Int32 → xS → Option xr
  | 0, _, _ => none
  | n + 1, x4, S =>
  if ((Int32.ofNat zn) - 4) < x4 then
    some (.inl (some (.inl 1)), S)
  else
    if xin x4 zn then
    if ((Z x4.toNatClampNeg) &&& 15 : Int32).toInt ∈ [(0 : Int)] then
      if xin (x4 + 1) zn then
      if xin (x4 + 2) zn then
      if xin (x4 + 3) zn then
      xcI (f_L_feed N ((((Z ((x4 + 1).toNatClampNeg) : Int32).toInt64 : Int64) <<< ((32 : Int32).toInt64 &&& 63)) ||| (((Z ((x4 + 2).toNatClampNeg) : Int32).toInt64) &&& 4294967295)) (Z ((x4 + 3).toNatClampNeg)) S) (fun v184 S183 =>
      xcI (f_X12_feed N ((((Z ((x4 + 1).toNatClampNeg) : Int32).toInt64 : Int64) <<< ((32 : Int32).toInt64 &&& 63)) ||| (((Z ((x4 + 2).toNatClampNeg) : Int32).toInt64) &&& 4294967295)) (Z ((x4 + 3).toNatClampNeg)) S183) (fun v186 S185 =>
      xcI (f_X12_thrown N S185) (fun v188 S187 =>
      if v188 = v184 then
        if v184 = 0 then
          if xin 0 1 then
          if (lg_cmp (S187.2.1 533 ((0 : Int32).toNatClampNeg)) ((v186 : Int32).toInt64)) = 0 then
            f_L_law_185 N zn Z (f_L_law_23 N zn Z n) x4 S187
          else
            some (.inl (some (.inl 0)), S187)
          else none
        else
          f_L_law_185 N zn Z (f_L_law_23 N zn Z n) x4 S187
      else
        some (.inl (some (.inl 0)), S187)
      )
      )
      )
      else none
      else none
      else none
    else
    if ((Z x4.toNatClampNeg) &&& 15 : Int32).toInt ∈ [(1 : Int)] then
      xcI (f_L_load N S) (fun v195 S194 =>
      xcI (f_X12_load N S194) (fun v197 S196 =>
      xcI (f_X12_thrown N S196) (fun v199 S198 =>
      if v199 = v195 then
        if v195 = 0 then
          if xin 0 1 then
          if (lg_cmp (S198.2.1 533 ((0 : Int32).toNatClampNeg)) ((v197 : Int32).toInt64)) = 0 then
            f_L_law_229 N zn Z (f_L_law_23 N zn Z n) x4 S198
          else
            some (.inl (some (.inl 0)), S198)
          else none
        else
          f_L_law_229 N zn Z (f_L_law_23 N zn Z n) x4 S198
      else
        some (.inl (some (.inl 0)), S198)
      )
      )
      )
    else
    if ((Z x4.toNatClampNeg) &&& 15 : Int32).toInt ∈ [(2 : Int)] then
      xcI (f_X11_place N S) (fun v206 S205 =>
      xcI (f_X12_place N S205) (fun v208 S207 =>
      if v206 = v208 then
        f_L_law_464 N zn Z (f_L_law_23 N zn Z n) x4 S207
      else
        some (.inl (some (.inl 0)), S207)
      )
      )
    else
    if ((Z x4.toNatClampNeg) &&& 15 : Int32).toInt ∈ [(3 : Int)] then
      if xin (x4 + 1) zn then
      xcI (f_L_run N (Z ((x4 + 1).toNatClampNeg)) S) (fun v213 S212 =>
      xcI (f_X12_run N (Z ((x4 + 1).toNatClampNeg)) S212) (fun v215 S214 =>
      xcI (f_X12_thrown N S214) (fun v217 S216 =>
      if v217 = v213 then
        if v213 = 0 then
          if xin 0 1 then
          if (lg_cmp (S216.2.1 533 ((0 : Int32).toNatClampNeg)) ((v215 : Int32).toInt64)) = 0 then
            f_L_law_298 N zn Z (f_L_law_23 N zn Z n) x4 S216
          else
            some (.inl (some (.inl 0)), S216)
          else none
        else
          f_L_law_298 N zn Z (f_L_law_23 N zn Z n) x4 S216
      else
        some (.inl (some (.inl 0)), S216)
      )
      )
      )
      else none
    else
    if ((Z x4.toNatClampNeg) &&& 15 : Int32).toInt ∈ [(4 : Int)] then
      xcI (f_X11_steps N S) (fun v224 S223 =>
      xcI (f_X12_steps N S223) (fun v226 S225 =>
      if v224 = v226 then
        f_L_law_464 N zn Z (f_L_law_23 N zn Z n) x4 S225
      else
        some (.inl (some (.inl 0)), S225)
      )
      )
    else
    if ((Z x4.toNatClampNeg) &&& 15 : Int32).toInt ∈ [(5 : Int)] then
      xcI (f_X11_printed N S) (fun v230 S229 =>
      xcI (f_X12_printed N S229) (fun v232 S231 =>
      if v230 = v232 then
        f_L_law_464 N zn Z (f_L_law_23 N zn Z n) x4 S231
      else
        some (.inl (some (.inl 0)), S231)
      )
      )
    else
    if ((Z x4.toNatClampNeg) &&& 15 : Int32).toInt ∈ [(6 : Int)] then
      if xin (x4 + 1) zn then
      xcI (f_L_print N (Z ((x4 + 1).toNatClampNeg)) S) (fun v237 S236 =>
      xcI (f_X12_print N (Z ((x4 + 1).toNatClampNeg)) S236) (fun v239 S238 =>
      xcI (f_X12_thrown N S238) (fun v241 S240 =>
      if v241 = v237 then
        if v237 = 0 then
          if xin 0 1 then
          if (lg_cmp (S240.2.1 533 ((0 : Int32).toNatClampNeg)) ((v239 : Int32).toInt64)) = 0 then
            f_L_law_380 N zn Z (f_L_law_23 N zn Z n) x4 S240
          else
            some (.inl (some (.inl 0)), S240)
          else none
        else
          f_L_law_380 N zn Z (f_L_law_23 N zn Z n) x4 S240
      else
        some (.inl (some (.inl 0)), S240)
      )
      )
      )
      else none
    else
    if ((Z x4.toNatClampNeg) &&& 15 : Int32).toInt ∈ [(7 : Int)] then
      if xin (x4 + 1) zn then
      if xin (x4 + 2) zn then
      xcI (f_L_word N (Z ((x4 + 1).toNatClampNeg)) (Z ((x4 + 2).toNatClampNeg)) S) (fun v250 S249 =>
      xcI (f_X12_word N (Z ((x4 + 1).toNatClampNeg)) (Z ((x4 + 2).toNatClampNeg)) S249) (fun v252 S251 =>
      xcI (f_X12_thrown N S251) (fun v254 S253 =>
      if v254 = v250 then
        if v250 = 0 then
          if xin 0 1 then
          if (lg_cmp (S253.2.1 533 ((0 : Int32).toNatClampNeg)) ((v252 : Int32).toInt64)) = 0 then
            f_L_law_448 N zn Z (f_L_law_23 N zn Z n) x4 S253
          else
            some (.inl (some (.inl 0)), S253)
          else none
        else
          f_L_law_448 N zn Z (f_L_law_23 N zn Z n) x4 S253
      else
        some (.inl (some (.inl 0)), S253)
      )
      )
      )
      else none
      else none
    else
    if ((Z x4.toNatClampNeg) &&& 15 : Int32).toInt ∈ [(8 : Int)] then
      xcI (f_X11_records N S) (fun v261 S260 =>
      xcI (f_X12_records N S260) (fun v263 S262 =>
      if v261 = v263 then
        f_L_law_464 N zn Z (f_L_law_23 N zn Z n) x4 S262
      else
        some (.inl (some (.inl 0)), S262)
      )
      )
    else
    f_L_law_464 N zn Z (f_L_law_23 N zn Z n) x4 S
    else none
set_option maxRecDepth 100000 in
set_option maxHeartbeats 4000000 in
theorem t_L_law_23 {l : Launch} {w : xW} {g : Nat → xE} (N : Nat) (zn : Nat) (Z : Nat → Int32) {b : Nat} (hb : b < w.2.1) (hg : g b = .inl (.int, zn, fun j => .int (Z j)))   : ∀ (n : Nat) (x4 : Int32) (S : xS) (r : xr), f_L_law_23 N zn Z  n x4 S = some r → ES l w g M_L_law 23 [(0, .ref b), (1, .ref (w.2.1 + 0)), (2, .ref (w.2.1 + 503)), (3, .ref (w.2.1 + 533)), (4, .int x4)] [] S r := by
  intro n
  induction n with
  | zero => intro x4 S r hf; cases hf
  | succ n ih =>
    intro x4 S r hf
    rw [f_L_law_23.eq_2] at hf
    refine es_l (pc' := 26) (ls' := [(0, .ref b), (1, .ref (w.2.1 + 0)), (2, .ref (w.2.1 + 503)), (3, .ref (w.2.1 + 533)), (4, .int x4)]) (st' := [.ref b, .int x4]) (fun _ _ k => e_iload dL_law_23 4 rfl (e_aload_n dL_law_25 0 rfl k)) ?_
    refine es_alenB hb hg dL_law_26 ?_
    refine es_l (pc' := 29) (ls' := [(0, .ref b), (1, .ref (w.2.1 + 0)), (2, .ref (w.2.1 + 503)), (3, .ref (w.2.1 + 533)), (4, .int x4)]) (st' := [.int ((Int32.ofNat zn) - 4), .int x4]) (fun _ _ k => e_iconst (v := 4) dL_law_27 (by decide) (e_isub dL_law_28 k)) ?_
    refine es_br (c := ((Int32.ofNat zn) - 4) < x4) (tgt := 470) (pf := 32) (st' := []) (fun _ _ a b => e_icmp_gt dL_law_29 rfl a b) (fun c177 => ?_) (fun c177 => ?_)
    · rw [if_pos c177] at hf
      refine es_l (pc' := 471) (ls' := [(0, .ref b), (1, .ref (w.2.1 + 0)), (2, .ref (w.2.1 + 503)), (3, .ref (w.2.1 + 533)), (4, .int x4)]) (st' := [.int 1]) (fun _ _ k => e_iconst (v := 1) dL_law_470 (by decide) k) ?_
      exact es_ireturn (ty := .boolean) dL_law_471 rfl rfl hf
    · rw [if_neg c177] at hf
      refine es_l (pc' := 35) (ls' := [(0, .ref b), (1, .ref (w.2.1 + 0)), (2, .ref (w.2.1 + 503)), (3, .ref (w.2.1 + 533)), (4, .int x4)]) (st' := [.int x4, .ref b]) (fun _ _ k => e_aload_n dL_law_32 0 rfl (e_iload dL_law_33 4 rfl k)) ?_
      obtain ⟨g178, hf⟩ := xg hf
      refine es_ialdB hb hg dL_law_35 g178 ?_
      refine es_l (pc' := 39) (ls' := [(0, .ref b), (1, .ref (w.2.1 + 0)), (2, .ref (w.2.1 + 503)), (3, .ref (w.2.1 + 533)), (4, .int x4)]) (st' := [.int ((Z x4.toNatClampNeg) &&& 15)]) (fun _ _ k => e_bipush (v := 15) dL_law_36 (by decide) (e_iand dL_law_38 k)) ?_
      by_cases c179 : ((Z x4.toNatClampNeg) &&& 15 : Int32).toInt ∈ [(0 : Int)]
      · rw [if_pos c179] at hf
        refine es_l (pc' := 88) (ls' := [(0, .ref b), (1, .ref (w.2.1 + 0)), (2, .ref (w.2.1 + 503)), (3, .ref (w.2.1 + 533)), (4, .int x4)]) (st' := []) (fun _ _ k => e_tabC (off := 49) dL_law_39 c179 (by decide) rfl k) ?_
        refine es_l (pc' := 94) (ls' := [(0, .ref b), (1, .ref (w.2.1 + 0)), (2, .ref (w.2.1 + 503)), (3, .ref (w.2.1 + 533)), (4, .int x4)]) (st' := [.int (x4 + 1), .ref b, .ref (w.2.1 + 0)]) (fun _ _ k => e_aload_n dL_law_88 1 rfl (e_aload_n dL_law_89 0 rfl (e_iload dL_law_90 4 rfl (e_iconst (v := 1) dL_law_92 (by decide) (e_iadd dL_law_93 k))))) ?_
        obtain ⟨g180, hf⟩ := xg hf
        refine es_ialdB hb hg dL_law_94 g180 ?_
        refine es_l (pc' := 104) (ls' := [(0, .ref b), (1, .ref (w.2.1 + 0)), (2, .ref (w.2.1 + 503)), (3, .ref (w.2.1 + 533)), (4, .int x4)]) (st' := [.int (x4 + 2), .ref b, .long (((Z ((x4 + 1).toNatClampNeg) : Int32).toInt64 : Int64) <<< ((32 : Int32).toInt64 &&& 63)), .ref (w.2.1 + 0)]) (fun _ _ k => e_i2l (v := (Z ((x4 + 1).toNatClampNeg) : Int32).toInt64) dL_law_95 rfl (e_bipush (v := 32) dL_law_96 (by decide) (e_lshl (v := ((Z ((x4 + 1).toNatClampNeg) : Int32).toInt64 : Int64) <<< ((32 : Int32).toInt64 &&& 63)) dL_law_98 rfl (e_aload_n dL_law_99 0 rfl (e_iload dL_law_100 4 rfl (e_iconst (v := 2) dL_law_102 (by decide) (e_iadd dL_law_103 k))))))) ?_
        obtain ⟨g181, hf⟩ := xg hf
        refine es_ialdB hb hg dL_law_104 g181 ?_
        refine es_l (pc' := 116) (ls' := [(0, .ref b), (1, .ref (w.2.1 + 0)), (2, .ref (w.2.1 + 503)), (3, .ref (w.2.1 + 533)), (4, .int x4)]) (st' := [.int (x4 + 3), .ref b, .long ((((Z ((x4 + 1).toNatClampNeg) : Int32).toInt64 : Int64) <<< ((32 : Int32).toInt64 &&& 63)) ||| (((Z ((x4 + 2).toNatClampNeg) : Int32).toInt64) &&& 4294967295)), .ref (w.2.1 + 0)]) (fun _ _ k => e_i2l (v := (Z ((x4 + 2).toNatClampNeg) : Int32).toInt64) dL_law_105 rfl (e_ldc2 dL_law_106 kj_L_38 (e_land dL_law_109 (e_lor dL_law_110 (e_aload_n dL_law_111 0 rfl (e_iload dL_law_112 4 rfl (e_iconst (v := 3) dL_law_114 (by decide) (e_iadd dL_law_115 k)))))))) ?_
        obtain ⟨g182, hf⟩ := xg hf
        refine es_ialdB hb hg dL_law_116 g182 ?_
        refine es_l (pc' := 118) (ls' := [(0, .ref b), (1, .ref (w.2.1 + 0)), (2, .ref (w.2.1 + 503)), (3, .ref (w.2.1 + 533)), (4, .int x4)]) (st' := [.ref (w.2.1 + 533), .int (Z ((x4 + 3).toNatClampNeg)), .long ((((Z ((x4 + 1).toNatClampNeg) : Int32).toInt64 : Int64) <<< ((32 : Int32).toInt64 &&& 63)) ||| (((Z ((x4 + 2).toNatClampNeg) : Int32).toInt64) &&& 4294967295)), .ref (w.2.1 + 0)]) (fun _ _ k => e_aload_n dL_law_117 3 rfl k) ?_
        refine es_callSI (as := [.ref (w.2.1 + 0), .long ((((Z ((x4 + 1).toNatClampNeg) : Int32).toInt64 : Int64) <<< ((32 : Int32).toInt64 &&& 63)) ||| (((Z ((x4 + 2).toNatClampNeg) : Int32).toInt64) &&& 4294967295)), .int (Z ((x4 + 3).toNatClampNeg)), .ref (w.2.1 + 533)]) (rest := []) hf dL_law_118 cs_L_law_L_feed ml_L_40 st_L_feed rfl rfl (Nat.le_of_ble_eq_true rfl) (Nat.le_of_ble_eq_true rfl) (fun _ e => t_L_feed N ((((Z ((x4 + 1).toNatClampNeg) : Int32).toInt64 : Int64) <<< ((32 : Int32).toInt64 &&& 63)) ||| (((Z ((x4 + 2).toNatClampNeg) : Int32).toInt64) &&& 4294967295)) (Z ((x4 + 3).toNatClampNeg)) S _ e) (by decide) (fun v184 S183 hf => ?_)
        refine es_l (pc' := 129) (ls' := [(5, .int v184), (0, .ref b), (1, .ref (w.2.1 + 0)), (2, .ref (w.2.1 + 503)), (3, .ref (w.2.1 + 533)), (4, .int x4)]) (st' := [.int (x4 + 1), .ref b, .ref (w.2.1 + 503)]) (fun _ _ k => e_istore (ls' := [(5, .int v184), (0, .ref b), (1, .ref (w.2.1 + 0)), (2, .ref (w.2.1 + 503)), (3, .ref (w.2.1 + 533)), (4, .int x4)]) dL_law_121 (by decide) rfl (e_aload_n dL_law_123 3 rfl (e_aload_n dL_law_124 1 rfl (e_iload dL_law_125 5 rfl (e_iconst (v := 1) dL_law_127 (by decide) (e_iadd dL_law_128 k)))))) ?_
        refine es_ialdB hb hg dL_law_129 g180 ?_
        refine es_l (pc' := 139) (ls' := [(5, .int v184), (0, .ref b), (1, .ref (w.2.1 + 0)), (2, .ref (w.2.1 + 503)), (3, .ref (w.2.1 + 533)), (4, .int x4)]) (st' := [.int (x4 + 2), .ref b, .long (((Z ((x4 + 1).toNatClampNeg) : Int32).toInt64 : Int64) <<< ((32 : Int32).toInt64 &&& 63)), .ref (w.2.1 + 503)]) (fun _ _ k => e_i2l (v := (Z ((x4 + 1).toNatClampNeg) : Int32).toInt64) dL_law_130 rfl (e_bipush (v := 32) dL_law_131 (by decide) (e_lshl (v := ((Z ((x4 + 1).toNatClampNeg) : Int32).toInt64 : Int64) <<< ((32 : Int32).toInt64 &&& 63)) dL_law_133 rfl (e_aload_n dL_law_134 1 rfl (e_iload dL_law_135 5 rfl (e_iconst (v := 2) dL_law_137 (by decide) (e_iadd dL_law_138 k))))))) ?_
        refine es_ialdB hb hg dL_law_139 g181 ?_
        refine es_l (pc' := 151) (ls' := [(5, .int v184), (0, .ref b), (1, .ref (w.2.1 + 0)), (2, .ref (w.2.1 + 503)), (3, .ref (w.2.1 + 533)), (4, .int x4)]) (st' := [.int (x4 + 3), .ref b, .long ((((Z ((x4 + 1).toNatClampNeg) : Int32).toInt64 : Int64) <<< ((32 : Int32).toInt64 &&& 63)) ||| (((Z ((x4 + 2).toNatClampNeg) : Int32).toInt64) &&& 4294967295)), .ref (w.2.1 + 503)]) (fun _ _ k => e_i2l (v := (Z ((x4 + 2).toNatClampNeg) : Int32).toInt64) dL_law_140 rfl (e_ldc2 dL_law_141 kj_L_38 (e_land dL_law_144 (e_lor dL_law_145 (e_aload_n dL_law_146 1 rfl (e_iload dL_law_147 5 rfl (e_iconst (v := 3) dL_law_149 (by decide) (e_iadd dL_law_150 k)))))))) ?_
        refine es_ialdB hb hg dL_law_151 g182 ?_
        refine es_callVI (as := [.long ((((Z ((x4 + 1).toNatClampNeg) : Int32).toInt64 : Int64) <<< ((32 : Int32).toInt64 &&& 63)) ||| (((Z ((x4 + 2).toNatClampNeg) : Int32).toInt64) &&& 4294967295)), .int (Z ((x4 + 3).toNatClampNeg))]) (rest := []) hf xc_12 dL_law_152 cs_L_law_X12_feed ml_L_45 im_X12_feed se_X12_feed rfl rfl (Nat.le_of_ble_eq_true rfl) (Nat.le_of_ble_eq_true rfl) (by decide) rfl (cel_503 _ _ _) (fun _ e => t_X12_feed N ((((Z ((x4 + 1).toNatClampNeg) : Int32).toInt64 : Int64) <<< ((32 : Int32).toInt64 &&& 63)) ||| (((Z ((x4 + 2).toNatClampNeg) : Int32).toInt64) &&& 4294967295)) (Z ((x4 + 3).toNatClampNeg)) S183 _ e) (by decide) (fun v186 S185 hf => ?_)
        refine es_l (pc' := 158) (ls' := [(6, .int v186), (5, .int v184), (0, .ref b), (1, .ref (w.2.1 + 0)), (2, .ref (w.2.1 + 503)), (3, .ref (w.2.1 + 533)), (4, .int x4)]) (st' := [.ref (w.2.1 + 503)]) (fun _ _ k => e_istore (ls' := [(6, .int v186), (5, .int v184), (0, .ref b), (1, .ref (w.2.1 + 0)), (2, .ref (w.2.1 + 503)), (3, .ref (w.2.1 + 533)), (4, .int x4)]) dL_law_155 (by decide) rfl (e_aload_n dL_law_157 4 rfl k)) ?_
        refine es_callVI (as := []) (rest := []) hf xc_12 dL_law_158 cs_L_law_X12_thrown ml_L_46 im_X12_thrown se_X12_thrown rfl rfl (Nat.le_of_ble_eq_true rfl) (Nat.le_of_ble_eq_true rfl) (by decide) rfl (cel_503 _ _ _) (fun _ e => t_X12_thrown N  S185 _ e) (by decide) (fun v188 S187 hf => ?_)
        refine es_l (pc' := 163) (ls' := [(6, .int v186), (5, .int v184), (0, .ref b), (1, .ref (w.2.1 + 0)), (2, .ref (w.2.1 + 503)), (3, .ref (w.2.1 + 533)), (4, .int x4)]) (st' := [.int v184, .int v188]) (fun _ _ k => e_iload dL_law_161 1 rfl k) ?_
        refine es_br (c := v188 = v184) (tgt := 168) (pf := 166) (st' := []) (fun _ _ a b => e_icmp_eq dL_law_163 rfl a b) (fun c189 => ?_) (fun c189 => ?_)
        · rw [if_pos c189] at hf
          refine es_l (pc' := 170) (ls' := [(6, .int v186), (5, .int v184), (0, .ref b), (1, .ref (w.2.1 + 0)), (2, .ref (w.2.1 + 503)), (3, .ref (w.2.1 + 533)), (4, .int x4)]) (st' := [.int v184]) (fun _ _ k => e_iload dL_law_168 1 rfl k) ?_
          refine es_br (c := v184 = 0) (tgt := 173) (pf := 185) (st' := []) (fun _ _ a b => e_if_ne dL_law_170 rfl b a) (fun c190 => ?_) (fun c190 => ?_)
          · rw [if_pos c190] at hf
            refine es_l (pc' := 175) (ls' := [(6, .int v186), (5, .int v184), (0, .ref b), (1, .ref (w.2.1 + 0)), (2, .ref (w.2.1 + 503)), (3, .ref (w.2.1 + 533)), (4, .int x4)]) (st' := [.int 0, .ref (w.2.1 + 533)]) (fun _ _ k => e_aload_n dL_law_173 5 rfl (e_iconst (v := 0) dL_law_174 (by decide) k)) ?_
            obtain ⟨g191, hf⟩ := xg hf
            refine es_lald (v := .long (S187.2.1 533 ((0 : Int32).toNatClampNeg))) dL_law_175 (by decide) (cel_533 _ _ _) g191 rfl ?_
            refine es_l (pc' := 180) (ls' := [(6, .int v186), (5, .int v184), (0, .ref b), (1, .ref (w.2.1 + 0)), (2, .ref (w.2.1 + 503)), (3, .ref (w.2.1 + 533)), (4, .int x4)]) (st' := [.int (lg_cmp (S187.2.1 533 ((0 : Int32).toNatClampNeg)) ((v186 : Int32).toInt64))]) (fun _ _ k => e_iload dL_law_176 0 rfl (e_i2l (v := (v186 : Int32).toInt64) dL_law_178 rfl (e_lcmp dL_law_179 k))) ?_
            refine es_br (c := (lg_cmp (S187.2.1 533 ((0 : Int32).toNatClampNeg)) ((v186 : Int32).toInt64)) = 0) (tgt := 185) (pf := 183) (st' := []) (fun _ _ a b => e_if_eq dL_law_180 rfl a b) (fun c192 => ?_) (fun c192 => ?_)
            · rw [if_pos c192] at hf
              refine es_sub [2, 3, 4, 5, 6] rfl ?_
              exact t_L_law_185 N zn Z hb hg (f_L_law_23 N zn Z n) ih x4 S187 r hf
            · rw [if_neg c192] at hf
              refine es_l (pc' := 184) (ls' := [(6, .int v186), (5, .int v184), (0, .ref b), (1, .ref (w.2.1 + 0)), (2, .ref (w.2.1 + 503)), (3, .ref (w.2.1 + 533)), (4, .int x4)]) (st' := [.int 0]) (fun _ _ k => e_iconst (v := 0) dL_law_183 (by decide) k) ?_
              exact es_ireturn (ty := .boolean) dL_law_184 rfl rfl hf
          · rw [if_neg c190] at hf
            refine es_sub [2, 3, 4, 5, 6] rfl ?_
            exact t_L_law_185 N zn Z hb hg (f_L_law_23 N zn Z n) ih x4 S187 r hf
        · rw [if_neg c189] at hf
          refine es_l (pc' := 167) (ls' := [(6, .int v186), (5, .int v184), (0, .ref b), (1, .ref (w.2.1 + 0)), (2, .ref (w.2.1 + 503)), (3, .ref (w.2.1 + 533)), (4, .int x4)]) (st' := [.int 0]) (fun _ _ k => e_iconst (v := 0) dL_law_166 (by decide) k) ?_
          exact es_ireturn (ty := .boolean) dL_law_167 rfl rfl hf
      rw [if_neg c179] at hf
      by_cases c193 : ((Z x4.toNatClampNeg) &&& 15 : Int32).toInt ∈ [(1 : Int)]
      · rw [if_pos c193] at hf
        refine es_l (pc' := 188) (ls' := [(0, .ref b), (1, .ref (w.2.1 + 0)), (2, .ref (w.2.1 + 503)), (3, .ref (w.2.1 + 533)), (4, .int x4)]) (st' := []) (fun _ _ k => e_tabC (off := 149) dL_law_39 c193 (by decide) rfl k) ?_
        refine es_l (pc' := 190) (ls' := [(0, .ref b), (1, .ref (w.2.1 + 0)), (2, .ref (w.2.1 + 503)), (3, .ref (w.2.1 + 533)), (4, .int x4)]) (st' := [.ref (w.2.1 + 533), .ref (w.2.1 + 0)]) (fun _ _ k => e_aload_n dL_law_188 1 rfl (e_aload_n dL_law_189 3 rfl k)) ?_
        refine es_callSI (as := [.ref (w.2.1 + 0), .ref (w.2.1 + 533)]) (rest := []) hf dL_law_190 cs_L_law_L_load ml_L_49 st_L_load rfl rfl (Nat.le_of_ble_eq_true rfl) (Nat.le_of_ble_eq_true rfl) (fun _ e => t_L_load N  S _ e) (by decide) (fun v195 S194 hf => ?_)
        refine es_l (pc' := 196) (ls' := [(5, .int v195), (0, .ref b), (1, .ref (w.2.1 + 0)), (2, .ref (w.2.1 + 503)), (3, .ref (w.2.1 + 533)), (4, .int x4)]) (st' := [.ref (w.2.1 + 503)]) (fun _ _ k => e_istore (ls' := [(5, .int v195), (0, .ref b), (1, .ref (w.2.1 + 0)), (2, .ref (w.2.1 + 503)), (3, .ref (w.2.1 + 533)), (4, .int x4)]) dL_law_193 (by decide) rfl (e_aload_n dL_law_195 3 rfl k)) ?_
        refine es_callVI (as := []) (rest := []) hf xc_12 dL_law_196 cs_L_law_X12_load ml_L_52 im_X12_load se_X12_load rfl rfl (Nat.le_of_ble_eq_true rfl) (Nat.le_of_ble_eq_true rfl) (by decide) rfl (cel_503 _ _ _) (fun _ e => t_X12_load N  S194 _ e) (by decide) (fun v197 S196 hf => ?_)
        refine es_l (pc' := 202) (ls' := [(6, .int v197), (5, .int v195), (0, .ref b), (1, .ref (w.2.1 + 0)), (2, .ref (w.2.1 + 503)), (3, .ref (w.2.1 + 533)), (4, .int x4)]) (st' := [.ref (w.2.1 + 503)]) (fun _ _ k => e_istore (ls' := [(6, .int v197), (5, .int v195), (0, .ref b), (1, .ref (w.2.1 + 0)), (2, .ref (w.2.1 + 503)), (3, .ref (w.2.1 + 533)), (4, .int x4)]) dL_law_199 (by decide) rfl (e_aload_n dL_law_201 4 rfl k)) ?_
        refine es_callVI (as := []) (rest := []) hf xc_12 dL_law_202 cs_L_law_X12_thrown ml_L_46 im_X12_thrown se_X12_thrown rfl rfl (Nat.le_of_ble_eq_true rfl) (Nat.le_of_ble_eq_true rfl) (by decide) rfl (cel_503 _ _ _) (fun _ e => t_X12_thrown N  S196 _ e) (by decide) (fun v199 S198 hf => ?_)
        refine es_l (pc' := 207) (ls' := [(6, .int v197), (5, .int v195), (0, .ref b), (1, .ref (w.2.1 + 0)), (2, .ref (w.2.1 + 503)), (3, .ref (w.2.1 + 533)), (4, .int x4)]) (st' := [.int v195, .int v199]) (fun _ _ k => e_iload dL_law_205 1 rfl k) ?_
        refine es_br (c := v199 = v195) (tgt := 212) (pf := 210) (st' := []) (fun _ _ a b => e_icmp_eq dL_law_207 rfl a b) (fun c200 => ?_) (fun c200 => ?_)
        · rw [if_pos c200] at hf
          refine es_l (pc' := 214) (ls' := [(6, .int v197), (5, .int v195), (0, .ref b), (1, .ref (w.2.1 + 0)), (2, .ref (w.2.1 + 503)), (3, .ref (w.2.1 + 533)), (4, .int x4)]) (st' := [.int v195]) (fun _ _ k => e_iload dL_law_212 1 rfl k) ?_
          refine es_br (c := v195 = 0) (tgt := 217) (pf := 229) (st' := []) (fun _ _ a b => e_if_ne dL_law_214 rfl b a) (fun c201 => ?_) (fun c201 => ?_)
          · rw [if_pos c201] at hf
            refine es_l (pc' := 219) (ls' := [(6, .int v197), (5, .int v195), (0, .ref b), (1, .ref (w.2.1 + 0)), (2, .ref (w.2.1 + 503)), (3, .ref (w.2.1 + 533)), (4, .int x4)]) (st' := [.int 0, .ref (w.2.1 + 533)]) (fun _ _ k => e_aload_n dL_law_217 5 rfl (e_iconst (v := 0) dL_law_218 (by decide) k)) ?_
            obtain ⟨g202, hf⟩ := xg hf
            refine es_lald (v := .long (S198.2.1 533 ((0 : Int32).toNatClampNeg))) dL_law_219 (by decide) (cel_533 _ _ _) g202 rfl ?_
            refine es_l (pc' := 224) (ls' := [(6, .int v197), (5, .int v195), (0, .ref b), (1, .ref (w.2.1 + 0)), (2, .ref (w.2.1 + 503)), (3, .ref (w.2.1 + 533)), (4, .int x4)]) (st' := [.int (lg_cmp (S198.2.1 533 ((0 : Int32).toNatClampNeg)) ((v197 : Int32).toInt64))]) (fun _ _ k => e_iload dL_law_220 0 rfl (e_i2l (v := (v197 : Int32).toInt64) dL_law_222 rfl (e_lcmp dL_law_223 k))) ?_
            refine es_br (c := (lg_cmp (S198.2.1 533 ((0 : Int32).toNatClampNeg)) ((v197 : Int32).toInt64)) = 0) (tgt := 229) (pf := 227) (st' := []) (fun _ _ a b => e_if_eq dL_law_224 rfl a b) (fun c203 => ?_) (fun c203 => ?_)
            · rw [if_pos c203] at hf
              refine es_sub [2, 3, 4, 5, 6] rfl ?_
              exact t_L_law_229 N zn Z hb hg (f_L_law_23 N zn Z n) ih x4 S198 r hf
            · rw [if_neg c203] at hf
              refine es_l (pc' := 228) (ls' := [(6, .int v197), (5, .int v195), (0, .ref b), (1, .ref (w.2.1 + 0)), (2, .ref (w.2.1 + 503)), (3, .ref (w.2.1 + 533)), (4, .int x4)]) (st' := [.int 0]) (fun _ _ k => e_iconst (v := 0) dL_law_227 (by decide) k) ?_
              exact es_ireturn (ty := .boolean) dL_law_228 rfl rfl hf
          · rw [if_neg c201] at hf
            refine es_sub [2, 3, 4, 5, 6] rfl ?_
            exact t_L_law_229 N zn Z hb hg (f_L_law_23 N zn Z n) ih x4 S198 r hf
        · rw [if_neg c200] at hf
          refine es_l (pc' := 211) (ls' := [(6, .int v197), (5, .int v195), (0, .ref b), (1, .ref (w.2.1 + 0)), (2, .ref (w.2.1 + 503)), (3, .ref (w.2.1 + 533)), (4, .int x4)]) (st' := [.int 0]) (fun _ _ k => e_iconst (v := 0) dL_law_210 (by decide) k) ?_
          exact es_ireturn (ty := .boolean) dL_law_211 rfl rfl hf
      rw [if_neg c193] at hf
      by_cases c204 : ((Z x4.toNatClampNeg) &&& 15 : Int32).toInt ∈ [(2 : Int)]
      · rw [if_pos c204] at hf
        refine es_l (pc' := 232) (ls' := [(0, .ref b), (1, .ref (w.2.1 + 0)), (2, .ref (w.2.1 + 503)), (3, .ref (w.2.1 + 533)), (4, .int x4)]) (st' := []) (fun _ _ k => e_tabC (off := 193) dL_law_39 c204 (by decide) rfl k) ?_
        refine es_l (pc' := 233) (ls' := [(0, .ref b), (1, .ref (w.2.1 + 0)), (2, .ref (w.2.1 + 503)), (3, .ref (w.2.1 + 533)), (4, .int x4)]) (st' := [.ref (w.2.1 + 0)]) (fun _ _ k => e_aload_n dL_law_232 1 rfl k) ?_
        refine es_callVI (as := []) (rest := []) hf xc_11 dL_law_233 cs_L_law_X11_place ml_L_53 im_X11_place se_X11_place rfl rfl (Nat.le_of_ble_eq_true rfl) (Nat.le_of_ble_eq_true rfl) (by decide) rfl (cel_0 _ _ _) (fun _ e => t_X11_place N  S _ e) (by decide) (fun v206 S205 hf => ?_)
        refine es_l (pc' := 237) (ls' := [(0, .ref b), (1, .ref (w.2.1 + 0)), (2, .ref (w.2.1 + 503)), (3, .ref (w.2.1 + 533)), (4, .int x4)]) (st' := [.ref (w.2.1 + 503), .int v206]) (fun _ _ k => e_aload_n dL_law_236 2 rfl k) ?_
        refine es_callVI (as := []) (rest := [.int v206]) hf xc_12 dL_law_237 cs_L_law_X12_place ml_L_56 im_X12_place se_X12_place rfl rfl (Nat.le_of_ble_eq_true rfl) (Nat.le_of_ble_eq_true rfl) (by decide) rfl (cel_503 _ _ _) (fun _ e => t_X12_place N  S205 _ e) (by decide) (fun v208 S207 hf => ?_)
        refine es_br (c := v206 = v208) (tgt := 464) (pf := 243) (st' := []) (fun _ _ a b => e_icmp_eq dL_law_240 rfl a b) (fun c209 => ?_) (fun c209 => ?_)
        · rw [if_pos c209] at hf
          exact t_L_law_464 N zn Z hb hg (f_L_law_23 N zn Z n) ih x4 S207 r hf
        · rw [if_neg c209] at hf
          refine es_l (pc' := 244) (ls' := [(0, .ref b), (1, .ref (w.2.1 + 0)), (2, .ref (w.2.1 + 503)), (3, .ref (w.2.1 + 533)), (4, .int x4)]) (st' := [.int 0]) (fun _ _ k => e_iconst (v := 0) dL_law_243 (by decide) k) ?_
          exact es_ireturn (ty := .boolean) dL_law_244 rfl rfl hf
      rw [if_neg c204] at hf
      by_cases c210 : ((Z x4.toNatClampNeg) &&& 15 : Int32).toInt ∈ [(3 : Int)]
      · rw [if_pos c210] at hf
        refine es_l (pc' := 245) (ls' := [(0, .ref b), (1, .ref (w.2.1 + 0)), (2, .ref (w.2.1 + 503)), (3, .ref (w.2.1 + 533)), (4, .int x4)]) (st' := []) (fun _ _ k => e_tabC (off := 206) dL_law_39 c210 (by decide) rfl k) ?_
        refine es_l (pc' := 251) (ls' := [(0, .ref b), (1, .ref (w.2.1 + 0)), (2, .ref (w.2.1 + 503)), (3, .ref (w.2.1 + 533)), (4, .int x4)]) (st' := [.int (x4 + 1), .ref b, .ref (w.2.1 + 0)]) (fun _ _ k => e_aload_n dL_law_245 1 rfl (e_aload_n dL_law_246 0 rfl (e_iload dL_law_247 4 rfl (e_iconst (v := 1) dL_law_249 (by decide) (e_iadd dL_law_250 k))))) ?_
        obtain ⟨g211, hf⟩ := xg hf
        refine es_ialdB hb hg dL_law_251 g211 ?_
        refine es_l (pc' := 253) (ls' := [(0, .ref b), (1, .ref (w.2.1 + 0)), (2, .ref (w.2.1 + 503)), (3, .ref (w.2.1 + 533)), (4, .int x4)]) (st' := [.ref (w.2.1 + 533), .int (Z ((x4 + 1).toNatClampNeg)), .ref (w.2.1 + 0)]) (fun _ _ k => e_aload_n dL_law_252 3 rfl k) ?_
        refine es_callSI (as := [.ref (w.2.1 + 0), .int (Z ((x4 + 1).toNatClampNeg)), .ref (w.2.1 + 533)]) (rest := []) hf dL_law_253 cs_L_law_L_run ml_L_57 st_L_run rfl rfl (Nat.le_of_ble_eq_true rfl) (Nat.le_of_ble_eq_true rfl) (fun _ e => t_L_run N (Z ((x4 + 1).toNatClampNeg)) S _ e) (by decide) (fun v213 S212 hf => ?_)
        refine es_l (pc' := 264) (ls' := [(5, .int v213), (0, .ref b), (1, .ref (w.2.1 + 0)), (2, .ref (w.2.1 + 503)), (3, .ref (w.2.1 + 533)), (4, .int x4)]) (st' := [.int (x4 + 1), .ref b, .ref (w.2.1 + 503)]) (fun _ _ k => e_istore (ls' := [(5, .int v213), (0, .ref b), (1, .ref (w.2.1 + 0)), (2, .ref (w.2.1 + 503)), (3, .ref (w.2.1 + 533)), (4, .int x4)]) dL_law_256 (by decide) rfl (e_aload_n dL_law_258 3 rfl (e_aload_n dL_law_259 1 rfl (e_iload dL_law_260 5 rfl (e_iconst (v := 1) dL_law_262 (by decide) (e_iadd dL_law_263 k)))))) ?_
        refine es_ialdB hb hg dL_law_264 g211 ?_
        refine es_callVI (as := [.int (Z ((x4 + 1).toNatClampNeg))]) (rest := []) hf xc_12 dL_law_265 cs_L_law_X12_run ml_L_60 im_X12_run se_X12_run rfl rfl (Nat.le_of_ble_eq_true rfl) (Nat.le_of_ble_eq_true rfl) (by decide) rfl (cel_503 _ _ _) (fun _ e => t_X12_run N (Z ((x4 + 1).toNatClampNeg)) S212 _ e) (by decide) (fun v215 S214 hf => ?_)
        refine es_l (pc' := 271) (ls' := [(6, .int v215), (5, .int v213), (0, .ref b), (1, .ref (w.2.1 + 0)), (2, .ref (w.2.1 + 503)), (3, .ref (w.2.1 + 533)), (4, .int x4)]) (st' := [.ref (w.2.1 + 503)]) (fun _ _ k => e_istore (ls' := [(6, .int v215), (5, .int v213), (0, .ref b), (1, .ref (w.2.1 + 0)), (2, .ref (w.2.1 + 503)), (3, .ref (w.2.1 + 533)), (4, .int x4)]) dL_law_268 (by decide) rfl (e_aload_n dL_law_270 4 rfl k)) ?_
        refine es_callVI (as := []) (rest := []) hf xc_12 dL_law_271 cs_L_law_X12_thrown ml_L_46 im_X12_thrown se_X12_thrown rfl rfl (Nat.le_of_ble_eq_true rfl) (Nat.le_of_ble_eq_true rfl) (by decide) rfl (cel_503 _ _ _) (fun _ e => t_X12_thrown N  S214 _ e) (by decide) (fun v217 S216 hf => ?_)
        refine es_l (pc' := 276) (ls' := [(6, .int v215), (5, .int v213), (0, .ref b), (1, .ref (w.2.1 + 0)), (2, .ref (w.2.1 + 503)), (3, .ref (w.2.1 + 533)), (4, .int x4)]) (st' := [.int v213, .int v217]) (fun _ _ k => e_iload dL_law_274 1 rfl k) ?_
        refine es_br (c := v217 = v213) (tgt := 281) (pf := 279) (st' := []) (fun _ _ a b => e_icmp_eq dL_law_276 rfl a b) (fun c218 => ?_) (fun c218 => ?_)
        · rw [if_pos c218] at hf
          refine es_l (pc' := 283) (ls' := [(6, .int v215), (5, .int v213), (0, .ref b), (1, .ref (w.2.1 + 0)), (2, .ref (w.2.1 + 503)), (3, .ref (w.2.1 + 533)), (4, .int x4)]) (st' := [.int v213]) (fun _ _ k => e_iload dL_law_281 1 rfl k) ?_
          refine es_br (c := v213 = 0) (tgt := 286) (pf := 298) (st' := []) (fun _ _ a b => e_if_ne dL_law_283 rfl b a) (fun c219 => ?_) (fun c219 => ?_)
          · rw [if_pos c219] at hf
            refine es_l (pc' := 288) (ls' := [(6, .int v215), (5, .int v213), (0, .ref b), (1, .ref (w.2.1 + 0)), (2, .ref (w.2.1 + 503)), (3, .ref (w.2.1 + 533)), (4, .int x4)]) (st' := [.int 0, .ref (w.2.1 + 533)]) (fun _ _ k => e_aload_n dL_law_286 5 rfl (e_iconst (v := 0) dL_law_287 (by decide) k)) ?_
            obtain ⟨g220, hf⟩ := xg hf
            refine es_lald (v := .long (S216.2.1 533 ((0 : Int32).toNatClampNeg))) dL_law_288 (by decide) (cel_533 _ _ _) g220 rfl ?_
            refine es_l (pc' := 293) (ls' := [(6, .int v215), (5, .int v213), (0, .ref b), (1, .ref (w.2.1 + 0)), (2, .ref (w.2.1 + 503)), (3, .ref (w.2.1 + 533)), (4, .int x4)]) (st' := [.int (lg_cmp (S216.2.1 533 ((0 : Int32).toNatClampNeg)) ((v215 : Int32).toInt64))]) (fun _ _ k => e_iload dL_law_289 0 rfl (e_i2l (v := (v215 : Int32).toInt64) dL_law_291 rfl (e_lcmp dL_law_292 k))) ?_
            refine es_br (c := (lg_cmp (S216.2.1 533 ((0 : Int32).toNatClampNeg)) ((v215 : Int32).toInt64)) = 0) (tgt := 298) (pf := 296) (st' := []) (fun _ _ a b => e_if_eq dL_law_293 rfl a b) (fun c221 => ?_) (fun c221 => ?_)
            · rw [if_pos c221] at hf
              refine es_sub [2, 3, 4, 5, 6] rfl ?_
              exact t_L_law_298 N zn Z hb hg (f_L_law_23 N zn Z n) ih x4 S216 r hf
            · rw [if_neg c221] at hf
              refine es_l (pc' := 297) (ls' := [(6, .int v215), (5, .int v213), (0, .ref b), (1, .ref (w.2.1 + 0)), (2, .ref (w.2.1 + 503)), (3, .ref (w.2.1 + 533)), (4, .int x4)]) (st' := [.int 0]) (fun _ _ k => e_iconst (v := 0) dL_law_296 (by decide) k) ?_
              exact es_ireturn (ty := .boolean) dL_law_297 rfl rfl hf
          · rw [if_neg c219] at hf
            refine es_sub [2, 3, 4, 5, 6] rfl ?_
            exact t_L_law_298 N zn Z hb hg (f_L_law_23 N zn Z n) ih x4 S216 r hf
        · rw [if_neg c218] at hf
          refine es_l (pc' := 280) (ls' := [(6, .int v215), (5, .int v213), (0, .ref b), (1, .ref (w.2.1 + 0)), (2, .ref (w.2.1 + 503)), (3, .ref (w.2.1 + 533)), (4, .int x4)]) (st' := [.int 0]) (fun _ _ k => e_iconst (v := 0) dL_law_279 (by decide) k) ?_
          exact es_ireturn (ty := .boolean) dL_law_280 rfl rfl hf
      rw [if_neg c210] at hf
      by_cases c222 : ((Z x4.toNatClampNeg) &&& 15 : Int32).toInt ∈ [(4 : Int)]
      · rw [if_pos c222] at hf
        refine es_l (pc' := 301) (ls' := [(0, .ref b), (1, .ref (w.2.1 + 0)), (2, .ref (w.2.1 + 503)), (3, .ref (w.2.1 + 533)), (4, .int x4)]) (st' := []) (fun _ _ k => e_tabC (off := 262) dL_law_39 c222 (by decide) rfl k) ?_
        refine es_l (pc' := 302) (ls' := [(0, .ref b), (1, .ref (w.2.1 + 0)), (2, .ref (w.2.1 + 503)), (3, .ref (w.2.1 + 533)), (4, .int x4)]) (st' := [.ref (w.2.1 + 0)]) (fun _ _ k => e_aload_n dL_law_301 1 rfl k) ?_
        refine es_callVI (as := []) (rest := []) hf xc_11 dL_law_302 cs_L_law_X11_steps ml_L_61 im_X11_steps se_X11_steps rfl rfl (Nat.le_of_ble_eq_true rfl) (Nat.le_of_ble_eq_true rfl) (by decide) rfl (cel_0 _ _ _) (fun _ e => t_X11_steps N  S _ e) (by decide) (fun v224 S223 hf => ?_)
        refine es_l (pc' := 306) (ls' := [(0, .ref b), (1, .ref (w.2.1 + 0)), (2, .ref (w.2.1 + 503)), (3, .ref (w.2.1 + 533)), (4, .int x4)]) (st' := [.ref (w.2.1 + 503), .int v224]) (fun _ _ k => e_aload_n dL_law_305 2 rfl k) ?_
        refine es_callVI (as := []) (rest := [.int v224]) hf xc_12 dL_law_306 cs_L_law_X12_steps ml_L_64 im_X12_steps se_X12_steps rfl rfl (Nat.le_of_ble_eq_true rfl) (Nat.le_of_ble_eq_true rfl) (by decide) rfl (cel_503 _ _ _) (fun _ e => t_X12_steps N  S223 _ e) (by decide) (fun v226 S225 hf => ?_)
        refine es_br (c := v224 = v226) (tgt := 464) (pf := 312) (st' := []) (fun _ _ a b => e_icmp_eq dL_law_309 rfl a b) (fun c227 => ?_) (fun c227 => ?_)
        · rw [if_pos c227] at hf
          exact t_L_law_464 N zn Z hb hg (f_L_law_23 N zn Z n) ih x4 S225 r hf
        · rw [if_neg c227] at hf
          refine es_l (pc' := 313) (ls' := [(0, .ref b), (1, .ref (w.2.1 + 0)), (2, .ref (w.2.1 + 503)), (3, .ref (w.2.1 + 533)), (4, .int x4)]) (st' := [.int 0]) (fun _ _ k => e_iconst (v := 0) dL_law_312 (by decide) k) ?_
          exact es_ireturn (ty := .boolean) dL_law_313 rfl rfl hf
      rw [if_neg c222] at hf
      by_cases c228 : ((Z x4.toNatClampNeg) &&& 15 : Int32).toInt ∈ [(5 : Int)]
      · rw [if_pos c228] at hf
        refine es_l (pc' := 314) (ls' := [(0, .ref b), (1, .ref (w.2.1 + 0)), (2, .ref (w.2.1 + 503)), (3, .ref (w.2.1 + 533)), (4, .int x4)]) (st' := []) (fun _ _ k => e_tabC (off := 275) dL_law_39 c228 (by decide) rfl k) ?_
        refine es_l (pc' := 315) (ls' := [(0, .ref b), (1, .ref (w.2.1 + 0)), (2, .ref (w.2.1 + 503)), (3, .ref (w.2.1 + 533)), (4, .int x4)]) (st' := [.ref (w.2.1 + 0)]) (fun _ _ k => e_aload_n dL_law_314 1 rfl k) ?_
        refine es_callVI (as := []) (rest := []) hf xc_11 dL_law_315 cs_L_law_X11_printed ml_L_65 im_X11_printed se_X11_printed rfl rfl (Nat.le_of_ble_eq_true rfl) (Nat.le_of_ble_eq_true rfl) (by decide) rfl (cel_0 _ _ _) (fun _ e => t_X11_printed N  S _ e) (by decide) (fun v230 S229 hf => ?_)
        refine es_l (pc' := 319) (ls' := [(0, .ref b), (1, .ref (w.2.1 + 0)), (2, .ref (w.2.1 + 503)), (3, .ref (w.2.1 + 533)), (4, .int x4)]) (st' := [.ref (w.2.1 + 503), .int v230]) (fun _ _ k => e_aload_n dL_law_318 2 rfl k) ?_
        refine es_callVI (as := []) (rest := [.int v230]) hf xc_12 dL_law_319 cs_L_law_X12_printed ml_L_68 im_X12_printed se_X12_printed rfl rfl (Nat.le_of_ble_eq_true rfl) (Nat.le_of_ble_eq_true rfl) (by decide) rfl (cel_503 _ _ _) (fun _ e => t_X12_printed N  S229 _ e) (by decide) (fun v232 S231 hf => ?_)
        refine es_br (c := v230 = v232) (tgt := 464) (pf := 325) (st' := []) (fun _ _ a b => e_icmp_eq dL_law_322 rfl a b) (fun c233 => ?_) (fun c233 => ?_)
        · rw [if_pos c233] at hf
          exact t_L_law_464 N zn Z hb hg (f_L_law_23 N zn Z n) ih x4 S231 r hf
        · rw [if_neg c233] at hf
          refine es_l (pc' := 326) (ls' := [(0, .ref b), (1, .ref (w.2.1 + 0)), (2, .ref (w.2.1 + 503)), (3, .ref (w.2.1 + 533)), (4, .int x4)]) (st' := [.int 0]) (fun _ _ k => e_iconst (v := 0) dL_law_325 (by decide) k) ?_
          exact es_ireturn (ty := .boolean) dL_law_326 rfl rfl hf
      rw [if_neg c228] at hf
      by_cases c234 : ((Z x4.toNatClampNeg) &&& 15 : Int32).toInt ∈ [(6 : Int)]
      · rw [if_pos c234] at hf
        refine es_l (pc' := 327) (ls' := [(0, .ref b), (1, .ref (w.2.1 + 0)), (2, .ref (w.2.1 + 503)), (3, .ref (w.2.1 + 533)), (4, .int x4)]) (st' := []) (fun _ _ k => e_tabC (off := 288) dL_law_39 c234 (by decide) rfl k) ?_
        refine es_l (pc' := 333) (ls' := [(0, .ref b), (1, .ref (w.2.1 + 0)), (2, .ref (w.2.1 + 503)), (3, .ref (w.2.1 + 533)), (4, .int x4)]) (st' := [.int (x4 + 1), .ref b, .ref (w.2.1 + 0)]) (fun _ _ k => e_aload_n dL_law_327 1 rfl (e_aload_n dL_law_328 0 rfl (e_iload dL_law_329 4 rfl (e_iconst (v := 1) dL_law_331 (by decide) (e_iadd dL_law_332 k))))) ?_
        obtain ⟨g235, hf⟩ := xg hf
        refine es_ialdB hb hg dL_law_333 g235 ?_
        refine es_l (pc' := 335) (ls' := [(0, .ref b), (1, .ref (w.2.1 + 0)), (2, .ref (w.2.1 + 503)), (3, .ref (w.2.1 + 533)), (4, .int x4)]) (st' := [.ref (w.2.1 + 533), .int (Z ((x4 + 1).toNatClampNeg)), .ref (w.2.1 + 0)]) (fun _ _ k => e_aload_n dL_law_334 3 rfl k) ?_
        refine es_callSI (as := [.ref (w.2.1 + 0), .int (Z ((x4 + 1).toNatClampNeg)), .ref (w.2.1 + 533)]) (rest := []) hf dL_law_335 cs_L_law_L_print ml_L_69 st_L_print rfl rfl (Nat.le_of_ble_eq_true rfl) (Nat.le_of_ble_eq_true rfl) (fun _ e => t_L_print N (Z ((x4 + 1).toNatClampNeg)) S _ e) (by decide) (fun v237 S236 hf => ?_)
        refine es_l (pc' := 346) (ls' := [(5, .int v237), (0, .ref b), (1, .ref (w.2.1 + 0)), (2, .ref (w.2.1 + 503)), (3, .ref (w.2.1 + 533)), (4, .int x4)]) (st' := [.int (x4 + 1), .ref b, .ref (w.2.1 + 503)]) (fun _ _ k => e_istore (ls' := [(5, .int v237), (0, .ref b), (1, .ref (w.2.1 + 0)), (2, .ref (w.2.1 + 503)), (3, .ref (w.2.1 + 533)), (4, .int x4)]) dL_law_338 (by decide) rfl (e_aload_n dL_law_340 3 rfl (e_aload_n dL_law_341 1 rfl (e_iload dL_law_342 5 rfl (e_iconst (v := 1) dL_law_344 (by decide) (e_iadd dL_law_345 k)))))) ?_
        refine es_ialdB hb hg dL_law_346 g235 ?_
        refine es_callVI (as := [.int (Z ((x4 + 1).toNatClampNeg))]) (rest := []) hf xc_12 dL_law_347 cs_L_law_X12_print ml_L_71 im_X12_print se_X12_print rfl rfl (Nat.le_of_ble_eq_true rfl) (Nat.le_of_ble_eq_true rfl) (by decide) rfl (cel_503 _ _ _) (fun _ e => t_X12_print N (Z ((x4 + 1).toNatClampNeg)) S236 _ e) (by decide) (fun v239 S238 hf => ?_)
        refine es_l (pc' := 353) (ls' := [(6, .int v239), (5, .int v237), (0, .ref b), (1, .ref (w.2.1 + 0)), (2, .ref (w.2.1 + 503)), (3, .ref (w.2.1 + 533)), (4, .int x4)]) (st' := [.ref (w.2.1 + 503)]) (fun _ _ k => e_istore (ls' := [(6, .int v239), (5, .int v237), (0, .ref b), (1, .ref (w.2.1 + 0)), (2, .ref (w.2.1 + 503)), (3, .ref (w.2.1 + 533)), (4, .int x4)]) dL_law_350 (by decide) rfl (e_aload_n dL_law_352 4 rfl k)) ?_
        refine es_callVI (as := []) (rest := []) hf xc_12 dL_law_353 cs_L_law_X12_thrown ml_L_46 im_X12_thrown se_X12_thrown rfl rfl (Nat.le_of_ble_eq_true rfl) (Nat.le_of_ble_eq_true rfl) (by decide) rfl (cel_503 _ _ _) (fun _ e => t_X12_thrown N  S238 _ e) (by decide) (fun v241 S240 hf => ?_)
        refine es_l (pc' := 358) (ls' := [(6, .int v239), (5, .int v237), (0, .ref b), (1, .ref (w.2.1 + 0)), (2, .ref (w.2.1 + 503)), (3, .ref (w.2.1 + 533)), (4, .int x4)]) (st' := [.int v237, .int v241]) (fun _ _ k => e_iload dL_law_356 1 rfl k) ?_
        refine es_br (c := v241 = v237) (tgt := 363) (pf := 361) (st' := []) (fun _ _ a b => e_icmp_eq dL_law_358 rfl a b) (fun c242 => ?_) (fun c242 => ?_)
        · rw [if_pos c242] at hf
          refine es_l (pc' := 365) (ls' := [(6, .int v239), (5, .int v237), (0, .ref b), (1, .ref (w.2.1 + 0)), (2, .ref (w.2.1 + 503)), (3, .ref (w.2.1 + 533)), (4, .int x4)]) (st' := [.int v237]) (fun _ _ k => e_iload dL_law_363 1 rfl k) ?_
          refine es_br (c := v237 = 0) (tgt := 368) (pf := 380) (st' := []) (fun _ _ a b => e_if_ne dL_law_365 rfl b a) (fun c243 => ?_) (fun c243 => ?_)
          · rw [if_pos c243] at hf
            refine es_l (pc' := 370) (ls' := [(6, .int v239), (5, .int v237), (0, .ref b), (1, .ref (w.2.1 + 0)), (2, .ref (w.2.1 + 503)), (3, .ref (w.2.1 + 533)), (4, .int x4)]) (st' := [.int 0, .ref (w.2.1 + 533)]) (fun _ _ k => e_aload_n dL_law_368 5 rfl (e_iconst (v := 0) dL_law_369 (by decide) k)) ?_
            obtain ⟨g244, hf⟩ := xg hf
            refine es_lald (v := .long (S240.2.1 533 ((0 : Int32).toNatClampNeg))) dL_law_370 (by decide) (cel_533 _ _ _) g244 rfl ?_
            refine es_l (pc' := 375) (ls' := [(6, .int v239), (5, .int v237), (0, .ref b), (1, .ref (w.2.1 + 0)), (2, .ref (w.2.1 + 503)), (3, .ref (w.2.1 + 533)), (4, .int x4)]) (st' := [.int (lg_cmp (S240.2.1 533 ((0 : Int32).toNatClampNeg)) ((v239 : Int32).toInt64))]) (fun _ _ k => e_iload dL_law_371 0 rfl (e_i2l (v := (v239 : Int32).toInt64) dL_law_373 rfl (e_lcmp dL_law_374 k))) ?_
            refine es_br (c := (lg_cmp (S240.2.1 533 ((0 : Int32).toNatClampNeg)) ((v239 : Int32).toInt64)) = 0) (tgt := 380) (pf := 378) (st' := []) (fun _ _ a b => e_if_eq dL_law_375 rfl a b) (fun c245 => ?_) (fun c245 => ?_)
            · rw [if_pos c245] at hf
              refine es_sub [2, 3, 4, 5, 6] rfl ?_
              exact t_L_law_380 N zn Z hb hg (f_L_law_23 N zn Z n) ih x4 S240 r hf
            · rw [if_neg c245] at hf
              refine es_l (pc' := 379) (ls' := [(6, .int v239), (5, .int v237), (0, .ref b), (1, .ref (w.2.1 + 0)), (2, .ref (w.2.1 + 503)), (3, .ref (w.2.1 + 533)), (4, .int x4)]) (st' := [.int 0]) (fun _ _ k => e_iconst (v := 0) dL_law_378 (by decide) k) ?_
              exact es_ireturn (ty := .boolean) dL_law_379 rfl rfl hf
          · rw [if_neg c243] at hf
            refine es_sub [2, 3, 4, 5, 6] rfl ?_
            exact t_L_law_380 N zn Z hb hg (f_L_law_23 N zn Z n) ih x4 S240 r hf
        · rw [if_neg c242] at hf
          refine es_l (pc' := 362) (ls' := [(6, .int v239), (5, .int v237), (0, .ref b), (1, .ref (w.2.1 + 0)), (2, .ref (w.2.1 + 503)), (3, .ref (w.2.1 + 533)), (4, .int x4)]) (st' := [.int 0]) (fun _ _ k => e_iconst (v := 0) dL_law_361 (by decide) k) ?_
          exact es_ireturn (ty := .boolean) dL_law_362 rfl rfl hf
      rw [if_neg c234] at hf
      by_cases c246 : ((Z x4.toNatClampNeg) &&& 15 : Int32).toInt ∈ [(7 : Int)]
      · rw [if_pos c246] at hf
        refine es_l (pc' := 383) (ls' := [(0, .ref b), (1, .ref (w.2.1 + 0)), (2, .ref (w.2.1 + 503)), (3, .ref (w.2.1 + 533)), (4, .int x4)]) (st' := []) (fun _ _ k => e_tabC (off := 344) dL_law_39 c246 (by decide) rfl k) ?_
        refine es_l (pc' := 389) (ls' := [(0, .ref b), (1, .ref (w.2.1 + 0)), (2, .ref (w.2.1 + 503)), (3, .ref (w.2.1 + 533)), (4, .int x4)]) (st' := [.int (x4 + 1), .ref b, .ref (w.2.1 + 0)]) (fun _ _ k => e_aload_n dL_law_383 1 rfl (e_aload_n dL_law_384 0 rfl (e_iload dL_law_385 4 rfl (e_iconst (v := 1) dL_law_387 (by decide) (e_iadd dL_law_388 k))))) ?_
        obtain ⟨g247, hf⟩ := xg hf
        refine es_ialdB hb hg dL_law_389 g247 ?_
        refine es_l (pc' := 395) (ls' := [(0, .ref b), (1, .ref (w.2.1 + 0)), (2, .ref (w.2.1 + 503)), (3, .ref (w.2.1 + 533)), (4, .int x4)]) (st' := [.int (x4 + 2), .ref b, .int (Z ((x4 + 1).toNatClampNeg)), .ref (w.2.1 + 0)]) (fun _ _ k => e_aload_n dL_law_390 0 rfl (e_iload dL_law_391 4 rfl (e_iconst (v := 2) dL_law_393 (by decide) (e_iadd dL_law_394 k)))) ?_
        obtain ⟨g248, hf⟩ := xg hf
        refine es_ialdB hb hg dL_law_395 g248 ?_
        refine es_l (pc' := 397) (ls' := [(0, .ref b), (1, .ref (w.2.1 + 0)), (2, .ref (w.2.1 + 503)), (3, .ref (w.2.1 + 533)), (4, .int x4)]) (st' := [.ref (w.2.1 + 533), .int (Z ((x4 + 2).toNatClampNeg)), .int (Z ((x4 + 1).toNatClampNeg)), .ref (w.2.1 + 0)]) (fun _ _ k => e_aload_n dL_law_396 3 rfl k) ?_
        refine es_callSI (as := [.ref (w.2.1 + 0), .int (Z ((x4 + 1).toNatClampNeg)), .int (Z ((x4 + 2).toNatClampNeg)), .ref (w.2.1 + 533)]) (rest := []) hf dL_law_397 cs_L_law_L_word ml_L_72 st_L_word rfl rfl (Nat.le_of_ble_eq_true rfl) (Nat.le_of_ble_eq_true rfl) (fun _ e => t_L_word N (Z ((x4 + 1).toNatClampNeg)) (Z ((x4 + 2).toNatClampNeg)) S _ e) (by decide) (fun v250 S249 hf => ?_)
        refine es_l (pc' := 408) (ls' := [(5, .int v250), (0, .ref b), (1, .ref (w.2.1 + 0)), (2, .ref (w.2.1 + 503)), (3, .ref (w.2.1 + 533)), (4, .int x4)]) (st' := [.int (x4 + 1), .ref b, .ref (w.2.1 + 503)]) (fun _ _ k => e_istore (ls' := [(5, .int v250), (0, .ref b), (1, .ref (w.2.1 + 0)), (2, .ref (w.2.1 + 503)), (3, .ref (w.2.1 + 533)), (4, .int x4)]) dL_law_400 (by decide) rfl (e_aload_n dL_law_402 3 rfl (e_aload_n dL_law_403 1 rfl (e_iload dL_law_404 5 rfl (e_iconst (v := 1) dL_law_406 (by decide) (e_iadd dL_law_407 k)))))) ?_
        refine es_ialdB hb hg dL_law_408 g247 ?_
        refine es_l (pc' := 414) (ls' := [(5, .int v250), (0, .ref b), (1, .ref (w.2.1 + 0)), (2, .ref (w.2.1 + 503)), (3, .ref (w.2.1 + 533)), (4, .int x4)]) (st' := [.int (x4 + 2), .ref b, .int (Z ((x4 + 1).toNatClampNeg)), .ref (w.2.1 + 503)]) (fun _ _ k => e_aload_n dL_law_409 1 rfl (e_iload dL_law_410 5 rfl (e_iconst (v := 2) dL_law_412 (by decide) (e_iadd dL_law_413 k)))) ?_
        refine es_ialdB hb hg dL_law_414 g248 ?_
        refine es_callVI (as := [.int (Z ((x4 + 1).toNatClampNeg)), .int (Z ((x4 + 2).toNatClampNeg))]) (rest := []) hf xc_12 dL_law_415 cs_L_law_X12_word ml_L_75 im_X12_word se_X12_word rfl rfl (Nat.le_of_ble_eq_true rfl) (Nat.le_of_ble_eq_true rfl) (by decide) rfl (cel_503 _ _ _) (fun _ e => t_X12_word N (Z ((x4 + 1).toNatClampNeg)) (Z ((x4 + 2).toNatClampNeg)) S249 _ e) (by decide) (fun v252 S251 hf => ?_)
        refine es_l (pc' := 421) (ls' := [(6, .int v252), (5, .int v250), (0, .ref b), (1, .ref (w.2.1 + 0)), (2, .ref (w.2.1 + 503)), (3, .ref (w.2.1 + 533)), (4, .int x4)]) (st' := [.ref (w.2.1 + 503)]) (fun _ _ k => e_istore (ls' := [(6, .int v252), (5, .int v250), (0, .ref b), (1, .ref (w.2.1 + 0)), (2, .ref (w.2.1 + 503)), (3, .ref (w.2.1 + 533)), (4, .int x4)]) dL_law_418 (by decide) rfl (e_aload_n dL_law_420 4 rfl k)) ?_
        refine es_callVI (as := []) (rest := []) hf xc_12 dL_law_421 cs_L_law_X12_thrown ml_L_46 im_X12_thrown se_X12_thrown rfl rfl (Nat.le_of_ble_eq_true rfl) (Nat.le_of_ble_eq_true rfl) (by decide) rfl (cel_503 _ _ _) (fun _ e => t_X12_thrown N  S251 _ e) (by decide) (fun v254 S253 hf => ?_)
        refine es_l (pc' := 426) (ls' := [(6, .int v252), (5, .int v250), (0, .ref b), (1, .ref (w.2.1 + 0)), (2, .ref (w.2.1 + 503)), (3, .ref (w.2.1 + 533)), (4, .int x4)]) (st' := [.int v250, .int v254]) (fun _ _ k => e_iload dL_law_424 1 rfl k) ?_
        refine es_br (c := v254 = v250) (tgt := 431) (pf := 429) (st' := []) (fun _ _ a b => e_icmp_eq dL_law_426 rfl a b) (fun c255 => ?_) (fun c255 => ?_)
        · rw [if_pos c255] at hf
          refine es_l (pc' := 433) (ls' := [(6, .int v252), (5, .int v250), (0, .ref b), (1, .ref (w.2.1 + 0)), (2, .ref (w.2.1 + 503)), (3, .ref (w.2.1 + 533)), (4, .int x4)]) (st' := [.int v250]) (fun _ _ k => e_iload dL_law_431 1 rfl k) ?_
          refine es_br (c := v250 = 0) (tgt := 436) (pf := 448) (st' := []) (fun _ _ a b => e_if_ne dL_law_433 rfl b a) (fun c256 => ?_) (fun c256 => ?_)
          · rw [if_pos c256] at hf
            refine es_l (pc' := 438) (ls' := [(6, .int v252), (5, .int v250), (0, .ref b), (1, .ref (w.2.1 + 0)), (2, .ref (w.2.1 + 503)), (3, .ref (w.2.1 + 533)), (4, .int x4)]) (st' := [.int 0, .ref (w.2.1 + 533)]) (fun _ _ k => e_aload_n dL_law_436 5 rfl (e_iconst (v := 0) dL_law_437 (by decide) k)) ?_
            obtain ⟨g257, hf⟩ := xg hf
            refine es_lald (v := .long (S253.2.1 533 ((0 : Int32).toNatClampNeg))) dL_law_438 (by decide) (cel_533 _ _ _) g257 rfl ?_
            refine es_l (pc' := 443) (ls' := [(6, .int v252), (5, .int v250), (0, .ref b), (1, .ref (w.2.1 + 0)), (2, .ref (w.2.1 + 503)), (3, .ref (w.2.1 + 533)), (4, .int x4)]) (st' := [.int (lg_cmp (S253.2.1 533 ((0 : Int32).toNatClampNeg)) ((v252 : Int32).toInt64))]) (fun _ _ k => e_iload dL_law_439 0 rfl (e_i2l (v := (v252 : Int32).toInt64) dL_law_441 rfl (e_lcmp dL_law_442 k))) ?_
            refine es_br (c := (lg_cmp (S253.2.1 533 ((0 : Int32).toNatClampNeg)) ((v252 : Int32).toInt64)) = 0) (tgt := 448) (pf := 446) (st' := []) (fun _ _ a b => e_if_eq dL_law_443 rfl a b) (fun c258 => ?_) (fun c258 => ?_)
            · rw [if_pos c258] at hf
              refine es_sub [2, 3, 4, 5, 6] rfl ?_
              exact t_L_law_448 N zn Z hb hg (f_L_law_23 N zn Z n) ih x4 S253 r hf
            · rw [if_neg c258] at hf
              refine es_l (pc' := 447) (ls' := [(6, .int v252), (5, .int v250), (0, .ref b), (1, .ref (w.2.1 + 0)), (2, .ref (w.2.1 + 503)), (3, .ref (w.2.1 + 533)), (4, .int x4)]) (st' := [.int 0]) (fun _ _ k => e_iconst (v := 0) dL_law_446 (by decide) k) ?_
              exact es_ireturn (ty := .boolean) dL_law_447 rfl rfl hf
          · rw [if_neg c256] at hf
            refine es_sub [2, 3, 4, 5, 6] rfl ?_
            exact t_L_law_448 N zn Z hb hg (f_L_law_23 N zn Z n) ih x4 S253 r hf
        · rw [if_neg c255] at hf
          refine es_l (pc' := 430) (ls' := [(6, .int v252), (5, .int v250), (0, .ref b), (1, .ref (w.2.1 + 0)), (2, .ref (w.2.1 + 503)), (3, .ref (w.2.1 + 533)), (4, .int x4)]) (st' := [.int 0]) (fun _ _ k => e_iconst (v := 0) dL_law_429 (by decide) k) ?_
          exact es_ireturn (ty := .boolean) dL_law_430 rfl rfl hf
      rw [if_neg c246] at hf
      by_cases c259 : ((Z x4.toNatClampNeg) &&& 15 : Int32).toInt ∈ [(8 : Int)]
      · rw [if_pos c259] at hf
        refine es_l (pc' := 451) (ls' := [(0, .ref b), (1, .ref (w.2.1 + 0)), (2, .ref (w.2.1 + 503)), (3, .ref (w.2.1 + 533)), (4, .int x4)]) (st' := []) (fun _ _ k => e_tabC (off := 412) dL_law_39 c259 (by decide) rfl k) ?_
        refine es_l (pc' := 452) (ls' := [(0, .ref b), (1, .ref (w.2.1 + 0)), (2, .ref (w.2.1 + 503)), (3, .ref (w.2.1 + 533)), (4, .int x4)]) (st' := [.ref (w.2.1 + 0)]) (fun _ _ k => e_aload_n dL_law_451 1 rfl k) ?_
        refine es_callVI (as := []) (rest := []) hf xc_11 dL_law_452 cs_L_law_X11_records ml_L_76 im_X11_records se_X11_records rfl rfl (Nat.le_of_ble_eq_true rfl) (Nat.le_of_ble_eq_true rfl) (by decide) rfl (cel_0 _ _ _) (fun _ e => t_X11_records N  S _ e) (by decide) (fun v261 S260 hf => ?_)
        refine es_l (pc' := 456) (ls' := [(0, .ref b), (1, .ref (w.2.1 + 0)), (2, .ref (w.2.1 + 503)), (3, .ref (w.2.1 + 533)), (4, .int x4)]) (st' := [.ref (w.2.1 + 503), .int v261]) (fun _ _ k => e_aload_n dL_law_455 2 rfl k) ?_
        refine es_callVI (as := []) (rest := [.int v261]) hf xc_12 dL_law_456 cs_L_law_X12_records ml_L_79 im_X12_records se_X12_records rfl rfl (Nat.le_of_ble_eq_true rfl) (Nat.le_of_ble_eq_true rfl) (by decide) rfl (cel_503 _ _ _) (fun _ e => t_X12_records N  S260 _ e) (by decide) (fun v263 S262 hf => ?_)
        refine es_br (c := v261 = v263) (tgt := 464) (pf := 462) (st' := []) (fun _ _ a b => e_icmp_eq dL_law_459 rfl a b) (fun c264 => ?_) (fun c264 => ?_)
        · rw [if_pos c264] at hf
          exact t_L_law_464 N zn Z hb hg (f_L_law_23 N zn Z n) ih x4 S262 r hf
        · rw [if_neg c264] at hf
          refine es_l (pc' := 463) (ls' := [(0, .ref b), (1, .ref (w.2.1 + 0)), (2, .ref (w.2.1 + 503)), (3, .ref (w.2.1 + 533)), (4, .int x4)]) (st' := [.int 0]) (fun _ _ k => e_iconst (v := 0) dL_law_462 (by decide) k) ?_
          exact es_ireturn (ty := .boolean) dL_law_463 rfl rfl hf
      rw [if_neg c259] at hf
      refine es_l (pc' := 464) (ls' := [(0, .ref b), (1, .ref (w.2.1 + 0)), (2, .ref (w.2.1 + 503)), (3, .ref (w.2.1 + 533)), (4, .int x4)]) (st' := []) (fun _ _ k => e_tabD (L := [0, 1, 2, 3, 4, 5, 6, 7, 8]) dL_law_39 (by  simp only [List.mem_cons, List.not_mem_nil, or_false] at *; omega) (by decide) rfl k) ?_
      exact t_L_law_464 N zn Z hb hg (f_L_law_23 N zn Z n) ih x4 S r hf
