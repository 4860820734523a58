def f_X12_statement_156 (N : Nat)  (s0 : Int32) (S : xS) : Option xr :=
  xcI (f_X12_letOrPrint N s0 S) (fun v94 S93 =>
  if xbo v94 then
  some (.inl (some (.inl v94)), S93)
  else none
  )
set_option maxRecDepth 100000 in
set_option maxHeartbeats 4000000 in
theorem t_X12_statement_156 {l : Launch} {w : xW} {g : Nat → xE} (N : Nat)   (s0 : Int32) (S : xS) (r : xr) (hf : f_X12_statement_156 N  s0 S = some r) : ES l w g M_X12_statement 156 [] [.int s0, .ref (w.2.1 + 503)] S r := by
  unfold f_X12_statement_156 at hf
  refine es_callVI (as := [.int s0]) (rest := []) hf xc_12 dX12_statement_156 cs_X12_statement_X12_letOrPrint ml_X12_354 im_X12_letOrPrint se_X12_letOrPrint rfl rfl (Nat.le_of_ble_eq_true rfl) (Nat.le_of_ble_eq_true rfl) (by decide) rfl (cel_503 _ _ _) (fun _ e => t_X12_letOrPrint N s0 S _ e) (by decide) (fun v94 S93 hf => ?_)
  obtain ⟨g95, hf⟩ := xg hf
  exact es_ireturn (ty := .boolean) dX12_statement_159 rfl (xbo_n g95) hf
def f_X12_statement_177 (N : Nat)  (s0 : Int32) (S : xS) : Option xr :=
  xcI (f_X12_condition N s0 S) (fun v97 S96 =>
  if xbo v97 then
  some (.inl (some (.inl v97)), S96)
  else none
  )
set_option maxRecDepth 100000 in
set_option maxHeartbeats 4000000 in
theorem t_X12_statement_177 {l : Launch} {w : xW} {g : Nat → xE} (N : Nat)   (s0 : Int32) (S : xS) (r : xr) (hf : f_X12_statement_177 N  s0 S = some r) : ES l w g M_X12_statement 177 [] [.int s0, .ref (w.2.1 + 503)] S r := by
  unfold f_X12_statement_177 at hf
  refine es_callVI (as := [.int s0]) (rest := []) hf xc_12 dX12_statement_177 cs_X12_statement_X12_condition ml_X12_360 im_X12_condition se_X12_condition rfl rfl (Nat.le_of_ble_eq_true rfl) (Nat.le_of_ble_eq_true rfl) (by decide) rfl (cel_503 _ _ _) (fun _ e => t_X12_condition N s0 S _ e) (by decide) (fun v97 S96 hf => ?_)
  obtain ⟨g98, hf⟩ := xg hf
  exact es_ireturn (ty := .boolean) dX12_statement_180 rfl (xbo_n g98) hf
def f_X12_statement (N : Nat)  (S : xS) : Option xr :=
  xcI (f_X12_isSign N 125 S) (fun v100 S99 =>
  if v100 = 0 then
    if xin (S99.1 503 20) 152 then
    if (S99.1 514 ((S99.1 503 20).toNatClampNeg)) = 1 then
      xcI (f_X12_cursor N 0 S99) (fun v105 S104 =>
      if xbo v105 then
      some (.inl (some (.inl v105)), S104)
      else none
      )
    else
      if (S99.1 514 ((S99.1 503 20).toNatClampNeg)) = 3 then
        if ((S99.2.1 516 ((S99.1 503 20).toNatClampNeg) : Int64).toInt32 : Int32).toInt ∈ [(0 : Int)] then
          xcV (f_X12_emit N 100 S99) (fun S109 =>
          xcI (f_X12_newKind N S109) (fun v112 S111 =>
          if xbo v112 then
          some (.inl (some (.inl v112)), S111)
          else none
          )
          )
        else
        if ((S99.2.1 516 ((S99.1 503 20).toNatClampNeg) : Int64).toInt32 : Int32).toInt ∈ [(1 : Int), (2 : Int), (4 : Int)] then
          xcI (f_X12_onKind N ((S99.2.1 516 ((S99.1 503 20).toNatClampNeg) : Int64).toInt32) S99) (fun v116 S115 =>
          if xbo v116 then
          some (.inl (some (.inl v116)), S115)
          else none
          )
        else
        if ((S99.2.1 516 ((S99.1 503 20).toNatClampNeg) : Int64).toInt32 : Int32).toInt ∈ [(5 : Int), (6 : Int)] then
          if ((S99.2.1 516 ((S99.1 503 20).toNatClampNeg) : Int64).toInt32) = 5 then
            f_X12_statement_156 N 1 S99
          else
            f_X12_statement_156 N 0 S99
        else
        if ((S99.2.1 516 ((S99.1 503 20).toNatClampNeg) : Int64).toInt32 : Int32).toInt ∈ [(7 : Int)] then
          xcI (f_X12_each N S99) (fun v122 S121 =>
          if xbo v122 then
          some (.inl (some (.inl v122)), S121)
          else none
          )
        else
        if ((S99.2.1 516 ((S99.1 503 20).toNatClampNeg) : Int64).toInt32 : Int32).toInt ∈ [(9 : Int), (11 : Int)] then
          if ((S99.2.1 516 ((S99.1 503 20).toNatClampNeg) : Int64).toInt32) = 11 then
            f_X12_statement_177 N 1 S99
          else
            f_X12_statement_177 N 0 S99
        else
        if ((S99.2.1 516 ((S99.1 503 20).toNatClampNeg) : Int64).toInt32 : Int32).toInt ∈ [(12 : Int)] then
          xcI (f_X12_cursor N 1 S99) (fun v128 S127 =>
          if xbo v128 then
          some (.inl (some (.inl v128)), S127)
          else none
          )
        else
        xcI (f_X12_wrong N S99) (fun v131 S130 =>
        if xbo v131 then
        some (.inl (some (.inl v131)), S130)
        else none
        )
      else
        xcI (f_X12_wrong N S99) (fun v134 S133 =>
        if xbo v134 then
        some (.inl (some (.inl v134)), S133)
        else none
        )
    else none
  else
    xcI (f_X12_ends N S99) (fun v137 S136 =>
    if xbo v137 then
    some (.inl (some (.inl v137)), S136)
    else none
    )
  )
set_option maxRecDepth 100000 in
set_option maxHeartbeats 4000000 in
theorem t_X12_statement {l : Launch} {w : xW} {g : Nat → xE} (N : Nat)  (S : xS) (r : xr) (hf : f_X12_statement N  S = some r) : ES l w g M_X12_statement 0 (lv_args 0 [.ref (w.2.1 + 503)]) [] S r := by
  show ES l w g M_X12_statement 0 [(0, .ref (w.2.1 + 503))] [] S r
  unfold f_X12_statement at hf
  refine es_l (pc' := 3) (ls' := [(0, .ref (w.2.1 + 503))]) (st' := [.int 125, .ref (w.2.1 + 503)]) (fun _ _ k => e_aload_n dX12_statement_0 0 rfl (e_bipush (v := 125) dX12_statement_1 (by decide) k)) ?_
  refine es_callVI (as := [.int 125]) (rest := []) hf xc_12 dX12_statement_3 cs_X12_statement_X12_isSign ml_X12_232 im_X12_isSign se_X12_isSign rfl rfl (Nat.le_of_ble_eq_true rfl) (Nat.le_of_ble_eq_true rfl) (by decide) rfl (cel_503 _ _ _) (fun _ e => t_X12_isSign N 125 S _ e) (by decide) (fun v100 S99 hf => ?_)
  refine es_br (c := v100 = 0) (tgt := 14) (pf := 9) (st' := []) (fun _ _ a b => e_if_eq dX12_statement_6 rfl a b) (fun c101 => ?_) (fun c101 => ?_)
  · rw [if_pos c101] at hf
    refine es_l (pc' := 15) (ls' := [(0, .ref (w.2.1 + 503))]) (st' := [.ref (w.2.1 + 503)]) (fun _ _ k => e_aload_n dX12_statement_14 0 rfl k) ?_
    refine es_get (v := .ref (w.2.1 + 514)) xc_12 dX12_statement_15 fl_X12_57 (by decide) (by decide) (cel_503 _ _ _) rfl ?_
    refine es_l (pc' := 19) (ls' := [(0, .ref (w.2.1 + 503))]) (st' := [.ref (w.2.1 + 503), .ref (w.2.1 + 514)]) (fun _ _ k => e_aload_n dX12_statement_18 0 rfl k) ?_
    refine es_get (v := .int (S99.1 503 20)) xc_12 dX12_statement_19 fl_X12_72 (by decide) (by decide) (cel_503 _ _ _) rfl ?_
    obtain ⟨g102, hf⟩ := xg hf
    refine es_iald (v := .int (S99.1 514 ((S99.1 503 20).toNatClampNeg))) dX12_statement_22 (by decide) (cel_514 _ _ _) g102 rfl ?_
    refine es_l (pc' := 24) (ls' := [(0, .ref (w.2.1 + 503))]) (st' := [.int 1, .int (S99.1 514 ((S99.1 503 20).toNatClampNeg))]) (fun _ _ k => e_iconst (v := 1) dX12_statement_23 (by decide) k) ?_
    refine es_br (c := (S99.1 514 ((S99.1 503 20).toNatClampNeg)) = 1) (tgt := 27) (pf := 33) (st' := []) (fun _ _ a b => e_icmp_ne dX12_statement_24 rfl b a) (fun c103 => ?_) (fun c103 => ?_)
    · rw [if_pos c103] at hf
      refine es_l (pc' := 29) (ls' := [(0, .ref (w.2.1 + 503))]) (st' := [.int 0, .ref (w.2.1 + 503)]) (fun _ _ k => e_aload_n dX12_statement_27 0 rfl (e_iconst (v := 0) dX12_statement_28 (by decide) k)) ?_
      refine es_callVI (as := [.int 0]) (rest := []) hf xc_12 dX12_statement_29 cs_X12_statement_X12_cursor ml_X12_344 im_X12_cursor se_X12_cursor rfl rfl (Nat.le_of_ble_eq_true rfl) (Nat.le_of_ble_eq_true rfl) (by decide) rfl (cel_503 _ _ _) (fun _ e => t_X12_cursor N 0 S99 _ e) (by decide) (fun v105 S104 hf => ?_)
      obtain ⟨g106, hf⟩ := xg hf
      exact es_ireturn (ty := .boolean) dX12_statement_32 rfl (xbo_n g106) hf
    · rw [if_neg c103] at hf
      refine es_l (pc' := 34) (ls' := [(0, .ref (w.2.1 + 503))]) (st' := [.ref (w.2.1 + 503)]) (fun _ _ k => e_aload_n dX12_statement_33 0 rfl k) ?_
      refine es_get (v := .ref (w.2.1 + 514)) xc_12 dX12_statement_34 fl_X12_57 (by decide) (by decide) (cel_503 _ _ _) rfl ?_
      refine es_l (pc' := 38) (ls' := [(0, .ref (w.2.1 + 503))]) (st' := [.ref (w.2.1 + 503), .ref (w.2.1 + 514)]) (fun _ _ k => e_aload_n dX12_statement_37 0 rfl k) ?_
      refine es_get (v := .int (S99.1 503 20)) xc_12 dX12_statement_38 fl_X12_72 (by decide) (by decide) (cel_503 _ _ _) rfl ?_
      refine es_iald (v := .int (S99.1 514 ((S99.1 503 20).toNatClampNeg))) dX12_statement_41 (by decide) (cel_514 _ _ _) g102 rfl ?_
      refine es_l (pc' := 43) (ls' := [(0, .ref (w.2.1 + 503))]) (st' := [.int 3, .int (S99.1 514 ((S99.1 503 20).toNatClampNeg))]) (fun _ _ k => e_iconst (v := 3) dX12_statement_42 (by decide) k) ?_
      refine es_br (c := (S99.1 514 ((S99.1 503 20).toNatClampNeg)) = 3) (tgt := 51) (pf := 46) (st' := []) (fun _ _ a b => e_icmp_eq dX12_statement_43 rfl a b) (fun c107 => ?_) (fun c107 => ?_)
      · rw [if_pos c107] at hf
        refine es_l (pc' := 52) (ls' := [(0, .ref (w.2.1 + 503))]) (st' := [.ref (w.2.1 + 503)]) (fun _ _ k => e_aload_n dX12_statement_51 0 rfl k) ?_
        refine es_get (v := .ref (w.2.1 + 516)) xc_12 dX12_statement_52 fl_X12_63 (by decide) (by decide) (cel_503 _ _ _) rfl ?_
        refine es_l (pc' := 56) (ls' := [(0, .ref (w.2.1 + 503))]) (st' := [.ref (w.2.1 + 503), .ref (w.2.1 + 516)]) (fun _ _ k => e_aload_n dX12_statement_55 0 rfl k) ?_
        refine es_get (v := .int (S99.1 503 20)) xc_12 dX12_statement_56 fl_X12_72 (by decide) (by decide) (cel_503 _ _ _) rfl ?_
        refine es_lald (v := .long (S99.2.1 516 ((S99.1 503 20).toNatClampNeg))) dX12_statement_59 (by decide) (cel_516 _ _ _) g102 rfl ?_
        refine es_l (pc' := 63) (ls' := [(1, .int ((S99.2.1 516 ((S99.1 503 20).toNatClampNeg) : Int64).toInt32)), (0, .ref (w.2.1 + 503))]) (st' := [.int ((S99.2.1 516 ((S99.1 503 20).toNatClampNeg) : Int64).toInt32)]) (fun _ _ k => e_l2i (v := (S99.2.1 516 ((S99.1 503 20).toNatClampNeg) : Int64).toInt32) dX12_statement_60 rfl (e_istore_n (ls' := [(1, .int ((S99.2.1 516 ((S99.1 503 20).toNatClampNeg) : Int64).toInt32)), (0, .ref (w.2.1 + 503))]) dX12_statement_61 (by decide) rfl (e_iload_n dX12_statement_62 0 rfl k))) ?_
        by_cases c108 : ((S99.2.1 516 ((S99.1 503 20).toNatClampNeg) : Int64).toInt32 : Int32).toInt ∈ [(0 : Int)]
        · rw [if_pos c108] at hf
          refine es_l (pc' := 128) (ls' := [(1, .int ((S99.2.1 516 ((S99.1 503 20).toNatClampNeg) : Int64).toInt32)), (0, .ref (w.2.1 + 503))]) (st' := []) (fun _ _ k => e_tabC (off := 65) dX12_statement_63 c108 (by decide) rfl k) ?_
          refine es_l (pc' := 131) (ls' := [(1, .int ((S99.2.1 516 ((S99.1 503 20).toNatClampNeg) : Int64).toInt32)), (0, .ref (w.2.1 + 503))]) (st' := [.int 100, .ref (w.2.1 + 503)]) (fun _ _ k => e_aload_n dX12_statement_128 1 rfl (e_bipush (v := 100) dX12_statement_129 (by decide) k)) ?_
          refine es_callVV (as := [.int 100]) (rest := []) hf xc_12 dX12_statement_131 cs_X12_statement_X12_emit ml_X12_278 im_X12_emit se_X12_emit rfl rfl (Nat.le_of_ble_eq_true rfl) (Nat.le_of_ble_eq_true rfl) (by decide) rfl (cel_503 _ _ _) (fun _ e => t_X12_emit N 100 S99 _ e) (by decide) (fun S109 hf => ?_)
          refine es_l (pc' := 135) (ls' := [(1, .int ((S99.2.1 516 ((S99.1 503 20).toNatClampNeg) : Int64).toInt32)), (0, .ref (w.2.1 + 503))]) (st' := [.ref (w.2.1 + 503)]) (fun _ _ k => e_aload_n dX12_statement_134 1 rfl k) ?_
          refine es_callVI (as := []) (rest := []) hf xc_12 dX12_statement_135 cs_X12_statement_X12_newKind ml_X12_348 im_X12_newKind se_X12_newKind rfl rfl (Nat.le_of_ble_eq_true rfl) (Nat.le_of_ble_eq_true rfl) (by decide) rfl (cel_503 _ _ _) (fun _ e => t_X12_newKind N  S109 _ e) (by decide) (fun v112 S111 hf => ?_)
          obtain ⟨g113, hf⟩ := xg hf
          exact es_ireturn (ty := .boolean) dX12_statement_138 rfl (xbo_n g113) hf
        rw [if_neg c108] at hf
        by_cases c114 : ((S99.2.1 516 ((S99.1 503 20).toNatClampNeg) : Int64).toInt32 : Int32).toInt ∈ [(1 : Int), (2 : Int), (4 : Int)]
        · rw [if_pos c114] at hf
          refine es_l (pc' := 139) (ls' := [(1, .int ((S99.2.1 516 ((S99.1 503 20).toNatClampNeg) : Int64).toInt32)), (0, .ref (w.2.1 + 503))]) (st' := []) (fun _ _ k => e_tabC (off := 76) dX12_statement_63 c114 (by decide) rfl k) ?_
          refine es_l (pc' := 141) (ls' := [(1, .int ((S99.2.1 516 ((S99.1 503 20).toNatClampNeg) : Int64).toInt32)), (0, .ref (w.2.1 + 503))]) (st' := [.int ((S99.2.1 516 ((S99.1 503 20).toNatClampNeg) : Int64).toInt32), .ref (w.2.1 + 503)]) (fun _ _ k => e_aload_n dX12_statement_139 1 rfl (e_iload_n dX12_statement_140 0 rfl k)) ?_
          refine es_callVI (as := [.int ((S99.2.1 516 ((S99.1 503 20).toNatClampNeg) : Int64).toInt32)]) (rest := []) hf xc_12 dX12_statement_141 cs_X12_statement_X12_onKind ml_X12_351 im_X12_onKind se_X12_onKind rfl rfl (Nat.le_of_ble_eq_true rfl) (Nat.le_of_ble_eq_true rfl) (by decide) rfl (cel_503 _ _ _) (fun _ e => t_X12_onKind N ((S99.2.1 516 ((S99.1 503 20).toNatClampNeg) : Int64).toInt32) S99 _ e) (by decide) (fun v116 S115 hf => ?_)
          obtain ⟨g117, hf⟩ := xg hf
          exact es_ireturn (ty := .boolean) dX12_statement_144 rfl (xbo_n g117) hf
        rw [if_neg c114] at hf
        by_cases c118 : ((S99.2.1 516 ((S99.1 503 20).toNatClampNeg) : Int64).toInt32 : Int32).toInt ∈ [(5 : Int), (6 : Int)]
        · rw [if_pos c118] at hf
          refine es_l (pc' := 145) (ls' := [(1, .int ((S99.2.1 516 ((S99.1 503 20).toNatClampNeg) : Int64).toInt32)), (0, .ref (w.2.1 + 503))]) (st' := []) (fun _ _ k => e_tabC (off := 82) dX12_statement_63 c118 (by decide) rfl k) ?_
          refine es_l (pc' := 148) (ls' := [(1, .int ((S99.2.1 516 ((S99.1 503 20).toNatClampNeg) : Int64).toInt32)), (0, .ref (w.2.1 + 503))]) (st' := [.int 5, .int ((S99.2.1 516 ((S99.1 503 20).toNatClampNeg) : Int64).toInt32), .ref (w.2.1 + 503)]) (fun _ _ k => e_aload_n dX12_statement_145 1 rfl (e_iload_n dX12_statement_146 0 rfl (e_iconst (v := 5) dX12_statement_147 (by decide) k))) ?_
          refine es_br (c := ((S99.2.1 516 ((S99.1 503 20).toNatClampNeg) : Int64).toInt32) = 5) (tgt := 151) (pf := 155) (st' := [.ref (w.2.1 + 503)]) (fun _ _ a b => e_icmp_ne dX12_statement_148 rfl b a) (fun c119 => ?_) (fun c119 => ?_)
          · rw [if_pos c119] at hf
            refine es_l (pc' := 156) (ls' := [(1, .int ((S99.2.1 516 ((S99.1 503 20).toNatClampNeg) : Int64).toInt32)), (0, .ref (w.2.1 + 503))]) (st' := [.int 1, .ref (w.2.1 + 503)]) (fun _ _ k => e_iconst (v := 1) dX12_statement_151 (by decide) (e_goto (tgt := 156) dX12_statement_152 rfl k)) ?_
            refine es_sub [] rfl ?_
            exact t_X12_statement_156 N 1 S99 r hf
          · rw [if_neg c119] at hf
            refine es_l (pc' := 156) (ls' := [(1, .int ((S99.2.1 516 ((S99.1 503 20).toNatClampNeg) : Int64).toInt32)), (0, .ref (w.2.1 + 503))]) (st' := [.int 0, .ref (w.2.1 + 503)]) (fun _ _ k => e_iconst (v := 0) dX12_statement_155 (by decide) k) ?_
            refine es_sub [] rfl ?_
            exact t_X12_statement_156 N 0 S99 r hf
        rw [if_neg c118] at hf
        by_cases c120 : ((S99.2.1 516 ((S99.1 503 20).toNatClampNeg) : Int64).toInt32 : Int32).toInt ∈ [(7 : Int)]
        · rw [if_pos c120] at hf
          refine es_l (pc' := 160) (ls' := [(1, .int ((S99.2.1 516 ((S99.1 503 20).toNatClampNeg) : Int64).toInt32)), (0, .ref (w.2.1 + 503))]) (st' := []) (fun _ _ k => e_tabC (off := 97) dX12_statement_63 c120 (by decide) rfl k) ?_
          refine es_l (pc' := 161) (ls' := [(1, .int ((S99.2.1 516 ((S99.1 503 20).toNatClampNeg) : Int64).toInt32)), (0, .ref (w.2.1 + 503))]) (st' := [.ref (w.2.1 + 503)]) (fun _ _ k => e_aload_n dX12_statement_160 1 rfl k) ?_
          refine es_callVI (as := []) (rest := []) hf xc_12 dX12_statement_161 cs_X12_statement_X12_each ml_X12_357 im_X12_each se_X12_each rfl rfl (Nat.le_of_ble_eq_true rfl) (Nat.le_of_ble_eq_true rfl) (by decide) rfl (cel_503 _ _ _) (fun _ e => t_X12_each N  S99 _ e) (by decide) (fun v122 S121 hf => ?_)
          obtain ⟨g123, hf⟩ := xg hf
          exact es_ireturn (ty := .boolean) dX12_statement_164 rfl (xbo_n g123) hf
        rw [if_neg c120] at hf
        by_cases c124 : ((S99.2.1 516 ((S99.1 503 20).toNatClampNeg) : Int64).toInt32 : Int32).toInt ∈ [(9 : Int), (11 : Int)]
        · rw [if_pos c124] at hf
          refine es_l (pc' := 165) (ls' := [(1, .int ((S99.2.1 516 ((S99.1 503 20).toNatClampNeg) : Int64).toInt32)), (0, .ref (w.2.1 + 503))]) (st' := []) (fun _ _ k => e_tabC (off := 102) dX12_statement_63 c124 (by decide) rfl k) ?_
          refine es_l (pc' := 169) (ls' := [(1, .int ((S99.2.1 516 ((S99.1 503 20).toNatClampNeg) : Int64).toInt32)), (0, .ref (w.2.1 + 503))]) (st' := [.int 11, .int ((S99.2.1 516 ((S99.1 503 20).toNatClampNeg) : Int64).toInt32), .ref (w.2.1 + 503)]) (fun _ _ k => e_aload_n dX12_statement_165 1 rfl (e_iload_n dX12_statement_166 0 rfl (e_bipush (v := 11) dX12_statement_167 (by decide) k))) ?_
          refine es_br (c := ((S99.2.1 516 ((S99.1 503 20).toNatClampNeg) : Int64).toInt32) = 11) (tgt := 172) (pf := 176) (st' := [.ref (w.2.1 + 503)]) (fun _ _ a b => e_icmp_ne dX12_statement_169 rfl b a) (fun c125 => ?_) (fun c125 => ?_)
          · rw [if_pos c125] at hf
            refine es_l (pc' := 177) (ls' := [(1, .int ((S99.2.1 516 ((S99.1 503 20).toNatClampNeg) : Int64).toInt32)), (0, .ref (w.2.1 + 503))]) (st' := [.int 1, .ref (w.2.1 + 503)]) (fun _ _ k => e_iconst (v := 1) dX12_statement_172 (by decide) (e_goto (tgt := 177) dX12_statement_173 rfl k)) ?_
            refine es_sub [] rfl ?_
            exact t_X12_statement_177 N 1 S99 r hf
          · rw [if_neg c125] at hf
            refine es_l (pc' := 177) (ls' := [(1, .int ((S99.2.1 516 ((S99.1 503 20).toNatClampNeg) : Int64).toInt32)), (0, .ref (w.2.1 + 503))]) (st' := [.int 0, .ref (w.2.1 + 503)]) (fun _ _ k => e_iconst (v := 0) dX12_statement_176 (by decide) k) ?_
            refine es_sub [] rfl ?_
            exact t_X12_statement_177 N 0 S99 r hf
        rw [if_neg c124] at hf
        by_cases c126 : ((S99.2.1 516 ((S99.1 503 20).toNatClampNeg) : Int64).toInt32 : Int32).toInt ∈ [(12 : Int)]
        · rw [if_pos c126] at hf
          refine es_l (pc' := 181) (ls' := [(1, .int ((S99.2.1 516 ((S99.1 503 20).toNatClampNeg) : Int64).toInt32)), (0, .ref (w.2.1 + 503))]) (st' := []) (fun _ _ k => e_tabC (off := 118) dX12_statement_63 c126 (by decide) rfl k) ?_
          refine es_l (pc' := 183) (ls' := [(1, .int ((S99.2.1 516 ((S99.1 503 20).toNatClampNeg) : Int64).toInt32)), (0, .ref (w.2.1 + 503))]) (st' := [.int 1, .ref (w.2.1 + 503)]) (fun _ _ k => e_aload_n dX12_statement_181 1 rfl (e_iconst (v := 1) dX12_statement_182 (by decide) k)) ?_
          refine es_callVI (as := [.int 1]) (rest := []) hf xc_12 dX12_statement_183 cs_X12_statement_X12_cursor ml_X12_344 im_X12_cursor se_X12_cursor rfl rfl (Nat.le_of_ble_eq_true rfl) (Nat.le_of_ble_eq_true rfl) (by decide) rfl (cel_503 _ _ _) (fun _ e => t_X12_cursor N 1 S99 _ e) (by decide) (fun v128 S127 hf => ?_)
          obtain ⟨g129, hf⟩ := xg hf
          exact es_ireturn (ty := .boolean) dX12_statement_186 rfl (xbo_n g129) hf
        rw [if_neg c126] at hf
        refine es_l (pc' := 187) (ls' := [(1, .int ((S99.2.1 516 ((S99.1 503 20).toNatClampNeg) : Int64).toInt32)), (0, .ref (w.2.1 + 503))]) (st' := []) (fun _ _ k => e_tabD (L := [0, 1, 2, 4, 5, 6, 7, 9, 11, 12]) dX12_statement_63 (by  simp only [List.mem_cons, List.not_mem_nil, or_false] at *; omega) (by decide) rfl k) ?_
        refine es_l (pc' := 188) (ls' := [(1, .int ((S99.2.1 516 ((S99.1 503 20).toNatClampNeg) : Int64).toInt32)), (0, .ref (w.2.1 + 503))]) (st' := [.ref (w.2.1 + 503)]) (fun _ _ k => e_aload_n dX12_statement_187 1 rfl k) ?_
        refine es_callVI (as := []) (rest := []) hf xc_12 dX12_statement_188 cs_X12_statement_X12_wrong ml_X12_235 im_X12_wrong se_X12_wrong rfl rfl (Nat.le_of_ble_eq_true rfl) (Nat.le_of_ble_eq_true rfl) (by decide) rfl (cel_503 _ _ _) (fun _ e => t_X12_wrong N  S99 _ e) (by decide) (fun v131 S130 hf => ?_)
        obtain ⟨g132, hf⟩ := xg hf
        exact es_ireturn (ty := .boolean) dX12_statement_191 rfl (xbo_n g132) hf
      · rw [if_neg c107] at hf
        refine es_l (pc' := 47) (ls' := [(0, .ref (w.2.1 + 503))]) (st' := [.ref (w.2.1 + 503)]) (fun _ _ k => e_aload_n dX12_statement_46 0 rfl k) ?_
        refine es_callVI (as := []) (rest := []) hf xc_12 dX12_statement_47 cs_X12_statement_X12_wrong ml_X12_235 im_X12_wrong se_X12_wrong rfl rfl (Nat.le_of_ble_eq_true rfl) (Nat.le_of_ble_eq_true rfl) (by decide) rfl (cel_503 _ _ _) (fun _ e => t_X12_wrong N  S99 _ e) (by decide) (fun v134 S133 hf => ?_)
        obtain ⟨g135, hf⟩ := xg hf
        exact es_ireturn (ty := .boolean) dX12_statement_50 rfl (xbo_n g135) hf
  · rw [if_neg c101] at hf
    refine es_l (pc' := 10) (ls' := [(0, .ref (w.2.1 + 503))]) (st' := [.ref (w.2.1 + 503)]) (fun _ _ k => e_aload_n dX12_statement_9 0 rfl k) ?_
    refine es_callVI (as := []) (rest := []) hf xc_12 dX12_statement_10 cs_X12_statement_X12_ends ml_X12_341 im_X12_ends se_X12_ends rfl rfl (Nat.le_of_ble_eq_true rfl) (Nat.le_of_ble_eq_true rfl) (by decide) rfl (cel_503 _ _ _) (fun _ e => t_X12_ends N  S99 _ e) (by decide) (fun v137 S136 hf => ?_)
    obtain ⟨g138, hf⟩ := xg hf
    exact es_ireturn (ty := .boolean) dX12_statement_13 rfl (xbo_n g138) hf
def f_X12_compile_79 (N : Nat)  (s0 : Int32) (S : xS) : Option xr :=
  if xbo s0 then
  some (.inl (some (.inl s0)), S)
  else none
set_option maxRecDepth 100000 in
set_option maxHeartbeats 4000000 in
theorem t_X12_compile_79 {l : Launch} {w : xW} {g : Nat → xE} (N : Nat)   (s0 : Int32) (S : xS) (r : xr) (hf : f_X12_compile_79 N  s0 S = some r) : ES l w g M_X12_compile 79 [] [.int s0] S r := by
  unfold f_X12_compile_79 at hf
  obtain ⟨g23, hf⟩ := xg hf
  exact es_ireturn (ty := .boolean) dX12_compile_79 rfl (xbo_n g23) hf
def f_X12_compile_78 (N : Nat)   (S : xS) : Option xr :=
  f_X12_compile_79 N 0 S
set_option maxRecDepth 100000 in
set_option maxHeartbeats 4000000 in
theorem t_X12_compile_78 {l : Launch} {w : xW} {g : Nat → xE} (N : Nat)    (S : xS) (r : xr) (hf : f_X12_compile_78 N   S = some r) : ES l w g M_X12_compile 78 [] [] S r := by
  unfold f_X12_compile_78 at hf
  refine es_l (pc' := 79) (ls' := []) (st' := [.int 0]) (fun _ _ k => e_iconst (v := 0) dX12_compile_78 (by decide) k) ?_
  exact t_X12_compile_79 N 0 S r hf
def f_X12_compile_74 (N : Nat)   (S : xS) : Option xr :=
  f_X12_compile_79 N 1 S
set_option maxRecDepth 100000 in
set_option maxHeartbeats 4000000 in
theorem t_X12_compile_74 {l : Launch} {w : xW} {g : Nat → xE} (N : Nat)    (S : xS) (r : xr) (hf : f_X12_compile_74 N   S = some r) : ES l w g M_X12_compile 74 [] [] S r := by
  unfold f_X12_compile_74 at hf
  refine es_l (pc' := 79) (ls' := []) (st' := [.int 1]) (fun _ _ k => e_iconst (v := 1) dX12_compile_74 (by decide) (e_goto (tgt := 79) dX12_compile_75 rfl k)) ?_
  exact t_X12_compile_79 N 1 S r hf
def f_X12_compile_56 (N : Nat)  (x1 : Int32) (S : xS) : Option xr :=
  if x1 = 0 then
    f_X12_compile_78 N S
  else
    if (S.1 503 30) = 0 then
      f_X12_compile_74 N S
    else
      xcI (f_X12_wrong N S) (fun v27 S26 =>
      if v27 = 0 then
        f_X12_compile_78 N S26
      else
        f_X12_compile_74 N S26
      )
set_option maxRecDepth 100000 in
set_option maxHeartbeats 4000000 in
theorem t_X12_compile_56 {l : Launch} {w : xW} {g : Nat → xE} (N : Nat)   (x1 : Int32) (S : xS) (r : xr) (hf : f_X12_compile_56 N  x1 S = some r) : ES l w g M_X12_compile 56 [(0, .ref (w.2.1 + 503)), (1, .int x1)] [] S r := by
  unfold f_X12_compile_56 at hf
  refine es_l (pc' := 57) (ls' := [(0, .ref (w.2.1 + 503)), (1, .int x1)]) (st' := [.int x1]) (fun _ _ k => e_iload_n dX12_compile_56 1 rfl k) ?_
  refine es_br (c := x1 = 0) (tgt := 78) (pf := 60) (st' := []) (fun _ _ a b => e_if_eq dX12_compile_57 rfl a b) (fun c24 => ?_) (fun c24 => ?_)
  · rw [if_pos c24] at hf
    refine es_sub [] rfl ?_
    exact t_X12_compile_78 N S r hf
  · rw [if_neg c24] at hf
    refine es_l (pc' := 61) (ls' := [(0, .ref (w.2.1 + 503)), (1, .int x1)]) (st' := [.ref (w.2.1 + 503)]) (fun _ _ k => e_aload_n dX12_compile_60 0 rfl k) ?_
    refine es_get (v := .int (S.1 503 30)) xc_12 dX12_compile_61 fl_X12_103 (by decide) (by decide) (cel_503 _ _ _) rfl ?_
    refine es_br (c := (S.1 503 30) = 0) (tgt := 74) (pf := 67) (st' := []) (fun _ _ a b => e_if_eq dX12_compile_64 rfl a b) (fun c25 => ?_) (fun c25 => ?_)
    · rw [if_pos c25] at hf
      refine es_sub [] rfl ?_
      exact t_X12_compile_74 N S r hf
    · rw [if_neg c25] at hf
      refine es_l (pc' := 68) (ls' := [(0, .ref (w.2.1 + 503)), (1, .int x1)]) (st' := [.ref (w.2.1 + 503)]) (fun _ _ k => e_aload_n dX12_compile_67 0 rfl k) ?_
      refine es_callVI (as := []) (rest := []) hf xc_12 dX12_compile_68 cs_X12_compile_X12_wrong ml_X12_235 im_X12_wrong se_X12_wrong rfl rfl (Nat.le_of_ble_eq_true rfl) (Nat.le_of_ble_eq_true rfl) (by decide) rfl (cel_503 _ _ _) (fun _ e => t_X12_wrong N  S _ e) (by decide) (fun v27 S26 hf => ?_)
      refine es_br (c := v27 = 0) (tgt := 78) (pf := 74) (st' := []) (fun _ _ a b => e_if_eq dX12_compile_71 rfl a b) (fun c28 => ?_) (fun c28 => ?_)
      · rw [if_pos c28] at hf
        refine es_sub [] rfl ?_
        exact t_X12_compile_78 N S26 r hf
      · rw [if_neg c28] at hf
        refine es_sub [] rfl ?_
        exact t_X12_compile_74 N S26 r hf
def f_X12_compile_32 (N : Nat)  : Nat → Int32 → xS → Option xr
  | 0, _, _ => none
  | n + 1, x1, S =>
  if x1 = 0 then
    f_X12_compile_56 N x1 S
  else
    if xin (S.1 503 20) 152 then
    if (S.1 514 ((S.1 503 20).toNatClampNeg)) = 0 then
      f_X12_compile_56 N x1 S
    else
      xcI (f_X12_statement N S) (fun v33 S32 =>
      f_X12_compile_32 N n v33 S32
      )
    else none
set_option maxRecDepth 100000 in
set_option maxHeartbeats 4000000 in
theorem t_X12_compile_32 {l : Launch} {w : xW} {g : Nat → xE} (N : Nat)   : ∀ (n : Nat) (x1 : Int32) (S : xS) (r : xr), f_X12_compile_32 N  n x1 S = some r → ES l w g M_X12_compile 32 [(0, .ref (w.2.1 + 503)), (1, .int x1)] [] S r := by
  intro n
  induction n with
  | zero => intro x1 S r hf; cases hf
  | succ n ih =>
    intro x1 S r hf
    rw [f_X12_compile_32.eq_2] at hf
    refine es_l (pc' := 33) (ls' := [(0, .ref (w.2.1 + 503)), (1, .int x1)]) (st' := [.int x1]) (fun _ _ k => e_iload_n dX12_compile_32 1 rfl k) ?_
    refine es_br (c := x1 = 0) (tgt := 56) (pf := 36) (st' := []) (fun _ _ a b => e_if_eq dX12_compile_33 rfl a b) (fun c29 => ?_) (fun c29 => ?_)
    · rw [if_pos c29] at hf
      exact t_X12_compile_56 N x1 S r hf
    · rw [if_neg c29] at hf
      refine es_l (pc' := 37) (ls' := [(0, .ref (w.2.1 + 503)), (1, .int x1)]) (st' := [.ref (w.2.1 + 503)]) (fun _ _ k => e_aload_n dX12_compile_36 0 rfl k) ?_
      refine es_get (v := .ref (w.2.1 + 514)) xc_12 dX12_compile_37 fl_X12_57 (by decide) (by decide) (cel_503 _ _ _) rfl ?_
      refine es_l (pc' := 41) (ls' := [(0, .ref (w.2.1 + 503)), (1, .int x1)]) (st' := [.ref (w.2.1 + 503), .ref (w.2.1 + 514)]) (fun _ _ k => e_aload_n dX12_compile_40 0 rfl k) ?_
      refine es_get (v := .int (S.1 503 20)) xc_12 dX12_compile_41 fl_X12_72 (by decide) (by decide) (cel_503 _ _ _) rfl ?_
      obtain ⟨g30, hf⟩ := xg hf
      refine es_iald (v := .int (S.1 514 ((S.1 503 20).toNatClampNeg))) dX12_compile_44 (by decide) (cel_514 _ _ _) g30 rfl ?_
      refine es_br (c := (S.1 514 ((S.1 503 20).toNatClampNeg)) = 0) (tgt := 56) (pf := 48) (st' := []) (fun _ _ a b => e_if_eq dX12_compile_45 rfl a b) (fun c31 => ?_) (fun c31 => ?_)
      · rw [if_pos c31] at hf
        exact t_X12_compile_56 N x1 S r hf
      · rw [if_neg c31] at hf
        refine es_l (pc' := 49) (ls' := [(0, .ref (w.2.1 + 503)), (1, .int x1)]) (st' := [.ref (w.2.1 + 503)]) (fun _ _ k => e_aload_n dX12_compile_48 0 rfl k) ?_
        refine es_callVI (as := []) (rest := []) hf xc_12 dX12_compile_49 cs_X12_compile_X12_statement ml_X12_363 im_X12_statement se_X12_statement rfl rfl (Nat.le_of_ble_eq_true rfl) (Nat.le_of_ble_eq_true rfl) (by decide) rfl (cel_503 _ _ _) (fun _ e => t_X12_statement N  S _ e) (by decide) (fun v33 S32 hf => ?_)
        refine es_l (pc' := 32) (ls' := [(1, .int v33), (0, .ref (w.2.1 + 503))]) (st' := []) (fun _ _ k => e_istore_n (ls' := [(1, .int v33), (0, .ref (w.2.1 + 503))]) dX12_compile_52 (by decide) rfl (e_goto (tgt := 32) dX12_compile_53 rfl k)) ?_
        refine es_sub [1, 0] rfl ?_
        exact ih v33 S32 r hf
def f_X12_compile (N : Nat)  (S : xS) : Option xr :=
  f_X12_compile_32 N N 1 (sI (sI (sI (sI (sI (sI S 503 25 0) 503 20 0) 503 26 0) 503 28 0) 503 30 0) 503 21 ((-1)))
set_option maxRecDepth 100000 in
set_option maxHeartbeats 4000000 in
theorem t_X12_compile {l : Launch} {w : xW} {g : Nat → xE} (N : Nat)  (S : xS) (r : xr) (hf : f_X12_compile N  S = some r) : ES l w g M_X12_compile 0 (lv_args 0 [.ref (w.2.1 + 503)]) [] S r := by
  show ES l w g M_X12_compile 0 [(0, .ref (w.2.1 + 503))] [] S r
  unfold f_X12_compile at hf
  refine es_l (pc' := 2) (ls' := [(0, .ref (w.2.1 + 503))]) (st' := [.int 0, .ref (w.2.1 + 503)]) (fun _ _ k => e_aload_n dX12_compile_0 0 rfl (e_iconst (v := 0) dX12_compile_1 (by decide) k)) ?_
  refine es_put xc_12 dX12_compile_2 fl_X12_88 (by decide) (by decide) (by decide) (cel_503 _ _ _) rfl rfl rfl rfl ?_
  refine es_l (pc' := 7) (ls' := [(0, .ref (w.2.1 + 503))]) (st' := [.int 0, .ref (w.2.1 + 503)]) (fun _ _ k => e_aload_n dX12_compile_5 0 rfl (e_iconst (v := 0) dX12_compile_6 (by decide) k)) ?_
  refine es_put xc_12 dX12_compile_7 fl_X12_72 (by decide) (by decide) (by decide) (cel_503 _ _ _) rfl rfl rfl rfl ?_
  refine es_l (pc' := 12) (ls' := [(0, .ref (w.2.1 + 503))]) (st' := [.int 0, .ref (w.2.1 + 503)]) (fun _ _ k => e_aload_n dX12_compile_10 0 rfl (e_iconst (v := 0) dX12_compile_11 (by decide) k)) ?_
  refine es_put xc_12 dX12_compile_12 fl_X12_91 (by decide) (by decide) (by decide) (cel_503 _ _ _) rfl rfl rfl rfl ?_
  refine es_l (pc' := 17) (ls' := [(0, .ref (w.2.1 + 503))]) (st' := [.int 0, .ref (w.2.1 + 503)]) (fun _ _ k => e_aload_n dX12_compile_15 0 rfl (e_iconst (v := 0) dX12_compile_16 (by decide) k)) ?_
  refine es_put xc_12 dX12_compile_17 fl_X12_97 (by decide) (by decide) (by decide) (cel_503 _ _ _) rfl rfl rfl rfl ?_
  refine es_l (pc' := 22) (ls' := [(0, .ref (w.2.1 + 503))]) (st' := [.int 0, .ref (w.2.1 + 503)]) (fun _ _ k => e_aload_n dX12_compile_20 0 rfl (e_iconst (v := 0) dX12_compile_21 (by decide) k)) ?_
  refine es_put xc_12 dX12_compile_22 fl_X12_103 (by decide) (by decide) (by decide) (cel_503 _ _ _) rfl rfl rfl rfl ?_
  refine es_l (pc' := 27) (ls' := [(0, .ref (w.2.1 + 503))]) (st' := [.int ((-1)), .ref (w.2.1 + 503)]) (fun _ _ k => e_aload_n dX12_compile_25 0 rfl (e_iconst (v := (-1)) dX12_compile_26 (by decide) k)) ?_
  refine es_put xc_12 dX12_compile_27 fl_X12_75 (by decide) (by decide) (by decide) (cel_503 _ _ _) rfl rfl rfl rfl ?_
  refine es_l (pc' := 32) (ls' := [(1, .int 1), (0, .ref (w.2.1 + 503))]) (st' := []) (fun _ _ k => e_iconst (v := 1) dX12_compile_30 (by decide) (e_istore_n (ls' := [(1, .int 1), (0, .ref (w.2.1 + 503))]) dX12_compile_31 (by decide) rfl k)) ?_
  refine es_sub [1, 0] rfl ?_
  exact t_X12_compile_32 N N 1 (sI (sI (sI (sI (sI (sI S 503 25 0) 503 20 0) 503 26 0) 503 28 0) 503 30 0) 503 21 ((-1))) r hf
def f_X12_valueOf_24 (N : Nat)  (s0 : Int32) (S : xS) : Option xr :=
  some (.inl (some (.inl s0)), S)
set_option maxRecDepth 100000 in
set_option maxHeartbeats 4000000 in
theorem t_X12_valueOf_24 {l : Launch} {w : xW} {g : Nat → xE} (N : Nat)   (s0 : Int32) (S : xS) (r : xr) (hf : f_X12_valueOf_24 N  s0 S = some r) : ES l w g M_X12_valueOf 24 [] [.int s0] S r := by
  unfold f_X12_valueOf_24 at hf
  exact es_ireturn (ty := .int) dX12_valueOf_24 rfl rfl hf
def f_X12_valueOf (N : Nat) (x1 : Int32) (x2 : Int32) (S : xS) : Option xr :=
  if xin x1 64 then
  if (S.1 511 x1.toNatClampNeg) = 0 then
    f_X12_valueOf_24 N 0 S
  else
    if xin ((6 * x1) + x2) 384 then
    f_X12_valueOf_24 N (S.1 512 (((6 * x1) + x2).toNatClampNeg)) S
    else none
  else none
set_option maxRecDepth 100000 in
set_option maxHeartbeats 4000000 in
theorem t_X12_valueOf {l : Launch} {w : xW} {g : Nat → xE} (N : Nat) (x1 : Int32) (x2 : Int32) (S : xS) (r : xr) (hf : f_X12_valueOf N x1 x2 S = some r) : ES l w g M_X12_valueOf 0 (lv_args 0 [.ref (w.2.1 + 503), .int x1, .int x2]) [] S r := by
  show ES l w g M_X12_valueOf 0 [(0, .ref (w.2.1 + 503)), (1, .int x1), (2, .int x2)] [] S r
  unfold f_X12_valueOf at hf
  refine es_l (pc' := 1) (ls' := [(0, .ref (w.2.1 + 503)), (1, .int x1), (2, .int x2)]) (st' := [.ref (w.2.1 + 503)]) (fun _ _ k => e_aload_n dX12_valueOf_0 0 rfl k) ?_
  refine es_get (v := .ref (w.2.1 + 511)) xc_12 dX12_valueOf_1 fl_X12_45 (by decide) (by decide) (cel_503 _ _ _) rfl ?_
  refine es_l (pc' := 5) (ls' := [(0, .ref (w.2.1 + 503)), (1, .int x1), (2, .int x2)]) (st' := [.int x1, .ref (w.2.1 + 511)]) (fun _ _ k => e_iload_n dX12_valueOf_4 1 rfl k) ?_
  obtain ⟨g7, hf⟩ := xg hf
  refine es_iald (v := .int (S.1 511 x1.toNatClampNeg)) dX12_valueOf_5 (by decide) (cel_511 _ _ _) g7 rfl ?_
  refine es_br (c := (S.1 511 x1.toNatClampNeg) = 0) (tgt := 9) (pf := 13) (st' := []) (fun _ _ a b => e_if_ne dX12_valueOf_6 rfl b a) (fun c8 => ?_) (fun c8 => ?_)
  · rw [if_pos c8] at hf
    refine es_l (pc' := 24) (ls' := [(0, .ref (w.2.1 + 503)), (1, .int x1), (2, .int x2)]) (st' := [.int 0]) (fun _ _ k => e_iconst (v := 0) dX12_valueOf_9 (by decide) (e_goto (tgt := 24) dX12_valueOf_10 rfl k)) ?_
    refine es_sub [] rfl ?_
    exact t_X12_valueOf_24 N 0 S r hf
  · rw [if_neg c8] at hf
    refine es_l (pc' := 14) (ls' := [(0, .ref (w.2.1 + 503)), (1, .int x1), (2, .int x2)]) (st' := [.ref (w.2.1 + 503)]) (fun _ _ k => e_aload_n dX12_valueOf_13 0 rfl k) ?_
    refine es_get (v := .ref (w.2.1 + 512)) xc_12 dX12_valueOf_14 fl_X12_48 (by decide) (by decide) (cel_503 _ _ _) rfl ?_
    refine es_l (pc' := 23) (ls' := [(0, .ref (w.2.1 + 503)), (1, .int x1), (2, .int x2)]) (st' := [.int ((6 * x1) + x2), .ref (w.2.1 + 512)]) (fun _ _ k => e_bipush (v := 6) dX12_valueOf_17 (by decide) (e_iload_n dX12_valueOf_19 1 rfl (e_imul dX12_valueOf_20 (e_iload_n dX12_valueOf_21 2 rfl (e_iadd dX12_valueOf_22 k))))) ?_
    obtain ⟨g9, hf⟩ := xg hf
    refine es_iald (v := .int (S.1 512 (((6 * x1) + x2).toNatClampNeg))) dX12_valueOf_23 (by decide) (cel_512 _ _ _) g9 rfl ?_
    refine es_sub [] rfl ?_
    exact t_X12_valueOf_24 N (S.1 512 (((6 * x1) + x2).toNatClampNeg)) S r hf
def f_X12_cut_32 (N : Nat)  (s0 : Int32) (S : xS) : Option xr :=
  some (.inl (some (.inl s0)), S)
set_option maxRecDepth 100000 in
set_option maxHeartbeats 4000000 in
theorem t_X12_cut_32 {l : Launch} {w : xW} {g : Nat → xE} (N : Nat)   (s0 : Int32) (S : xS) (r : xr) (hf : f_X12_cut_32 N  s0 S = some r) : ES l w g M_X12_cut 32 [] [.int s0] S r := by
  unfold f_X12_cut_32 at hf
  exact es_ireturn (ty := .int) dX12_cut_32 rfl rfl hf
def f_X12_cut (N : Nat) (x1 : Int32) (x2 : Int32) (x3 : Int32) (S : xS) : Option xr :=
  if xin ((6 * x1) + x2) 42 then
  if (S.1 508 (((6 * x1) + x2).toNatClampNeg)) = 32 then
    f_X12_cut_32 N x3 S
  else
    f_X12_cut_32 N (x3 &&& ((1 <<< ((S.1 508 (((6 * x1) + x2).toNatClampNeg)) &&& 31)) - 1)) S
  else none
set_option maxRecDepth 100000 in
set_option maxHeartbeats 4000000 in
theorem t_X12_cut {l : Launch} {w : xW} {g : Nat → xE} (N : Nat) (x1 : Int32) (x2 : Int32) (x3 : Int32) (S : xS) (r : xr) (hf : f_X12_cut N x1 x2 x3 S = some r) : ES l w g M_X12_cut 0 (lv_args 0 [.ref (w.2.1 + 503), .int x1, .int x2, .int x3]) [] S r := by
  show ES l w g M_X12_cut 0 [(0, .ref (w.2.1 + 503)), (1, .int x1), (2, .int x2), (3, .int x3)] [] S r
  unfold f_X12_cut at hf
  refine es_l (pc' := 1) (ls' := [(0, .ref (w.2.1 + 503)), (1, .int x1), (2, .int x2), (3, .int x3)]) (st' := [.ref (w.2.1 + 503)]) (fun _ _ k => e_aload_n dX12_cut_0 0 rfl k) ?_
  refine es_get (v := .ref (w.2.1 + 508)) xc_12 dX12_cut_1 fl_X12_33 (by decide) (by decide) (cel_503 _ _ _) rfl ?_
  refine es_l (pc' := 10) (ls' := [(0, .ref (w.2.1 + 503)), (1, .int x1), (2, .int x2), (3, .int x3)]) (st' := [.int ((6 * x1) + x2), .ref (w.2.1 + 508)]) (fun _ _ k => e_bipush (v := 6) dX12_cut_4 (by decide) (e_iload_n dX12_cut_6 1 rfl (e_imul dX12_cut_7 (e_iload_n dX12_cut_8 2 rfl (e_iadd dX12_cut_9 k))))) ?_
  obtain ⟨g5, hf⟩ := xg hf
  refine es_iald (v := .int (S.1 508 (((6 * x1) + x2).toNatClampNeg))) dX12_cut_10 (by decide) (cel_508 _ _ _) g5 rfl ?_
  refine es_l (pc' := 17) (ls' := [(4, .int (S.1 508 (((6 * x1) + x2).toNatClampNeg))), (0, .ref (w.2.1 + 503)), (1, .int x1), (2, .int x2), (3, .int x3)]) (st' := [.int 32, .int (S.1 508 (((6 * x1) + x2).toNatClampNeg))]) (fun _ _ k => e_istore (ls' := [(4, .int (S.1 508 (((6 * x1) + x2).toNatClampNeg))), (0, .ref (w.2.1 + 503)), (1, .int x1), (2, .int x2), (3, .int x3)]) dX12_cut_11 (by decide) rfl (e_iload dX12_cut_13 0 rfl (e_bipush (v := 32) dX12_cut_15 (by decide) k))) ?_
  refine es_br (c := (S.1 508 (((6 * x1) + x2).toNatClampNeg)) = 32) (tgt := 20) (pf := 24) (st' := []) (fun _ _ a b => e_icmp_ne dX12_cut_17 rfl b a) (fun c6 => ?_) (fun c6 => ?_)
  · rw [if_pos c6] at hf
    refine es_l (pc' := 32) (ls' := [(4, .int (S.1 508 (((6 * x1) + x2).toNatClampNeg))), (0, .ref (w.2.1 + 503)), (1, .int x1), (2, .int x2), (3, .int x3)]) (st' := [.int x3]) (fun _ _ k => e_iload_n dX12_cut_20 4 rfl (e_goto (tgt := 32) dX12_cut_21 rfl k)) ?_
    refine es_sub [] rfl ?_
    exact t_X12_cut_32 N x3 S r hf
  · rw [if_neg c6] at hf
    refine es_l (pc' := 32) (ls' := [(4, .int (S.1 508 (((6 * x1) + x2).toNatClampNeg))), (0, .ref (w.2.1 + 503)), (1, .int x1), (2, .int x2), (3, .int x3)]) (st' := [.int (x3 &&& ((1 <<< ((S.1 508 (((6 * x1) + x2).toNatClampNeg)) &&& 31)) - 1))]) (fun _ _ k => e_iload_n dX12_cut_24 4 rfl (e_iconst (v := 1) dX12_cut_25 (by decide) (e_iload dX12_cut_26 0 rfl (e_ishl dX12_cut_28 (e_iconst (v := 1) dX12_cut_29 (by decide) (e_isub dX12_cut_30 (e_iand dX12_cut_31 k))))))) ?_
    refine es_sub [] rfl ?_
    exact t_X12_cut_32 N (x3 &&& ((1 <<< ((S.1 508 (((6 * x1) + x2).toNatClampNeg)) &&& 31)) - 1)) S r hf
def f_X12_operate_77 (N : Nat)  (s0 : Int32) (S : xS) : Option xr :=
  some (.inl (some (.inl s0)), S)
set_option maxRecDepth 100000 in
set_option maxHeartbeats 4000000 in
theorem t_X12_operate_77 {l : Launch} {w : xW} {g : Nat → xE} (N : Nat)   (s0 : Int32) (S : xS) (r : xr) (hf : f_X12_operate_77 N  s0 S = some r) : ES l w g M_X12_operate 77 [] [.int s0] S r := by
  unfold f_X12_operate_77 at hf
  exact es_ireturn (ty := .int) dX12_operate_77 rfl rfl hf
def f_X12_operate_72 (N : Nat)   (S : xS) : Option xr :=
  f_X12_operate_77 N 1 S
set_option maxRecDepth 100000 in
set_option maxHeartbeats 4000000 in
theorem t_X12_operate_72 {l : Launch} {w : xW} {g : Nat → xE} (N : Nat)    (S : xS) (r : xr) (hf : f_X12_operate_72 N   S = some r) : ES l w g M_X12_operate 72 [] [] S r := by
  unfold f_X12_operate_72 at hf
  refine es_l (pc' := 77) (ls' := []) (st' := [.int 1]) (fun _ _ k => e_iconst (v := 1) dX12_operate_72 (by decide) (e_goto (tgt := 77) dX12_operate_73 rfl k)) ?_
  exact t_X12_operate_77 N 1 S r hf
def f_X12_operate_91 (N : Nat)  (s0 : Int32) (S : xS) : Option xr :=
  some (.inl (some (.inl s0)), S)
set_option maxRecDepth 100000 in
set_option maxHeartbeats 4000000 in
theorem t_X12_operate_91 {l : Launch} {w : xW} {g : Nat → xE} (N : Nat)   (s0 : Int32) (S : xS) (r : xr) (hf : f_X12_operate_91 N  s0 S = some r) : ES l w g M_X12_operate 91 [] [.int s0] S r := by
  unfold f_X12_operate_91 at hf
  exact es_ireturn (ty := .int) dX12_operate_91 rfl rfl hf
def f_X12_operate_90 (N : Nat)   (S : xS) : Option xr :=
  f_X12_operate_91 N 0 S
set_option maxRecDepth 100000 in
set_option maxHeartbeats 4000000 in
theorem t_X12_operate_90 {l : Launch} {w : xW} {g : Nat → xE} (N : Nat)    (S : xS) (r : xr) (hf : f_X12_operate_90 N   S = some r) : ES l w g M_X12_operate 90 [] [] S r := by
  unfold f_X12_operate_90 at hf
  refine es_l (pc' := 91) (ls' := []) (st' := [.int 0]) (fun _ _ k => e_iconst (v := 0) dX12_operate_90 (by decide) k) ?_
  exact t_X12_operate_91 N 0 S r hf
def f_X12_operate_102 (N : Nat)  (s0 : Int32) (S : xS) : Option xr :=
  some (.inl (some (.inl s0)), S)
set_option maxRecDepth 100000 in
set_option maxHeartbeats 4000000 in
theorem t_X12_operate_102 {l : Launch} {w : xW} {g : Nat → xE} (N : Nat)   (s0 : Int32) (S : xS) (r : xr) (hf : f_X12_operate_102 N  s0 S = some r) : ES l w g M_X12_operate 102 [] [.int s0] S r := by
  unfold f_X12_operate_102 at hf
  exact es_ireturn (ty := .int) dX12_operate_102 rfl rfl hf
def f_X12_operate_113 (N : Nat)  (s0 : Int32) (S : xS) : Option xr :=
  some (.inl (some (.inl s0)), S)
set_option maxRecDepth 100000 in
set_option maxHeartbeats 4000000 in
theorem t_X12_operate_113 {l : Launch} {w : xW} {g : Nat → xE} (N : Nat)   (s0 : Int32) (S : xS) (r : xr) (hf : f_X12_operate_113 N  s0 S = some r) : ES l w g M_X12_operate 113 [] [.int s0] S r := by
  unfold f_X12_operate_113 at hf
  exact es_ireturn (ty := .int) dX12_operate_113 rfl rfl hf
def f_X12_operate_124 (N : Nat)  (s0 : Int32) (S : xS) : Option xr :=
  some (.inl (some (.inl s0)), S)
set_option maxRecDepth 100000 in
set_option maxHeartbeats 4000000 in
theorem t_X12_operate_124 {l : Launch} {w : xW} {g : Nat → xE} (N : Nat)   (s0 : Int32) (S : xS) (r : xr) (hf : f_X12_operate_124 N  s0 S = some r) : ES l w g M_X12_operate 124 [] [.int s0] S r := by
  unfold f_X12_operate_124 at hf
  exact es_ireturn (ty := .int) dX12_operate_124 rfl rfl hf
def f_X12_operate_135 (N : Nat)  (s0 : Int32) (S : xS) : Option xr :=
  some (.inl (some (.inl s0)), S)
set_option maxRecDepth 100000 in
set_option maxHeartbeats 4000000 in
theorem t_X12_operate_135 {l : Launch} {w : xW} {g : Nat → xE} (N : Nat)   (s0 : Int32) (S : xS) (r : xr) (hf : f_X12_operate_135 N  s0 S = some r) : ES l w g M_X12_operate 135 [] [.int s0] S r := by
  unfold f_X12_operate_135 at hf
  exact es_ireturn (ty := .int) dX12_operate_135 rfl rfl hf
def f_X12_operate_146 (N : Nat)  (s0 : Int32) (S : xS) : Option xr :=
  some (.inl (some (.inl s0)), S)
set_option maxRecDepth 100000 in
set_option maxHeartbeats 4000000 in
theorem t_X12_operate_146 {l : Launch} {w : xW} {g : Nat → xE} (N : Nat)   (s0 : Int32) (S : xS) (r : xr) (hf : f_X12_operate_146 N  s0 S = some r) : ES l w g M_X12_operate 146 [] [.int s0] S r := by
  unfold f_X12_operate_146 at hf
  exact es_ireturn (ty := .int) dX12_operate_146 rfl rfl hf
def f_X12_operate_157 (N : Nat)  (s0 : Int32) (S : xS) : Option xr :=
  some (.inl (some (.inl s0)), S)
set_option maxRecDepth 100000 in
set_option maxHeartbeats 4000000 in
theorem t_X12_operate_157 {l : Launch} {w : xW} {g : Nat → xE} (N : Nat)   (s0 : Int32) (S : xS) (r : xr) (hf : f_X12_operate_157 N  s0 S = some r) : ES l w g M_X12_operate 157 [] [.int s0] S r := by
  unfold f_X12_operate_157 at hf
  exact es_ireturn (ty := .int) dX12_operate_157 rfl rfl hf
def f_X12_operate_181 (N : Nat)  (s0 : Int32) (S : xS) : Option xr :=
  some (.inl (some (.inl s0)), S)
set_option maxRecDepth 100000 in
set_option maxHeartbeats 4000000 in
theorem t_X12_operate_181 {l : Launch} {w : xW} {g : Nat → xE} (N : Nat)   (s0 : Int32) (S : xS) (r : xr) (hf : f_X12_operate_181 N  s0 S = some r) : ES l w g M_X12_operate 181 [] [.int s0] S r := by
  unfold f_X12_operate_181 at hf
  exact es_ireturn (ty := .int) dX12_operate_181 rfl rfl hf
def f_X12_operate_193 (N : Nat)  (s0 : Int32) (S : xS) : Option xr :=
  some (.inl (some (.inl s0)), S)
set_option maxRecDepth 100000 in
set_option maxHeartbeats 4000000 in
theorem t_X12_operate_193 {l : Launch} {w : xW} {g : Nat → xE} (N : Nat)   (s0 : Int32) (S : xS) (r : xr) (hf : f_X12_operate_193 N  s0 S = some r) : ES l w g M_X12_operate 193 [] [.int s0] S r := by
  unfold f_X12_operate_193 at hf
  exact es_ireturn (ty := .int) dX12_operate_193 rfl rfl hf
def f_X12_operate (N : Nat) (x0 : Int32) (x1 : Int32) (x2 : Int32) (S : xS) : Option xr :=
  if (x0 : Int32).toInt ∈ [(10 : Int)] then
    if x1 = 0 then
      if x2 = 0 then
        f_X12_operate_77 N 0 S
      else
        f_X12_operate_72 N S
    else
      f_X12_operate_72 N S
  else
  if (x0 : Int32).toInt ∈ [(11 : Int)] then
    if x1 = 0 then
      f_X12_operate_90 N S
    else
      if x2 = 0 then
        f_X12_operate_90 N S
      else
        f_X12_operate_91 N 1 S
  else
  if (x0 : Int32).toInt ∈ [(12 : Int)] then
    if x1 = x2 then
      f_X12_operate_102 N 1 S
    else
      f_X12_operate_102 N 0 S
  else
  if (x0 : Int32).toInt ∈ [(13 : Int)] then
    if x1 = x2 then
      f_X12_operate_113 N 0 S
    else
      f_X12_operate_113 N 1 S
  else
  if (x0 : Int32).toInt ∈ [(14 : Int)] then
    if x2 ≤ x1 then
      f_X12_operate_124 N 0 S
    else
      f_X12_operate_124 N 1 S
  else
  if (x0 : Int32).toInt ∈ [(15 : Int)] then
    if x2 < x1 then
      f_X12_operate_135 N 0 S
    else
      f_X12_operate_135 N 1 S
  else
  if (x0 : Int32).toInt ∈ [(16 : Int)] then
    if x1 ≤ x2 then
      f_X12_operate_146 N 0 S
    else
      f_X12_operate_146 N 1 S
  else
  if (x0 : Int32).toInt ∈ [(17 : Int)] then
    if x1 < x2 then
      f_X12_operate_157 N 0 S
    else
      f_X12_operate_157 N 1 S
  else
  if (x0 : Int32).toInt ∈ [(18 : Int)] then
    some (.inl (some (.inl (x1 + x2))), S)
  else
  if (x0 : Int32).toInt ∈ [(19 : Int)] then
    some (.inl (some (.inl (x1 - x2))), S)
  else
  if (x0 : Int32).toInt ∈ [(20 : Int)] then
    some (.inl (some (.inl (x1 * x2))), S)
  else
  if (x0 : Int32).toInt ∈ [(21 : Int)] then
    if x2 = 0 then
      f_X12_operate_181 N 0 S
    else
      if ¬ x2 = 0 then
      f_X12_operate_181 N (x1 / x2) S
      else none
  else
  if x2 = 0 then
    f_X12_operate_193 N 0 S
  else
    if ¬ x2 = 0 then
    f_X12_operate_193 N (x1 - x1 / x2 * x2) S
    else none
set_option maxRecDepth 100000 in
set_option maxHeartbeats 4000000 in
theorem t_X12_operate {l : Launch} {w : xW} {g : Nat → xE} (N : Nat) (x0 : Int32) (x1 : Int32) (x2 : Int32) (S : xS) (r : xr) (hf : f_X12_operate N x0 x1 x2 S = some r) : ES l w g M_X12_operate 0 (lv_args 0 [.int x0, .int x1, .int x2]) [] S r := by
  show ES l w g M_X12_operate 0 [(0, .int x0), (1, .int x1), (2, .int x2)] [] S r
  unfold f_X12_operate at hf
  refine es_l (pc' := 1) (ls' := [(0, .int x0), (1, .int x1), (2, .int x2)]) (st' := [.int x0]) (fun _ _ k => e_iload_n dX12_operate_0 0 rfl k) ?_
  by_cases c53 : (x0 : Int32).toInt ∈ [(10 : Int)]
  · rw [if_pos c53] at hf
    refine es_l (pc' := 64) (ls' := [(0, .int x0), (1, .int x1), (2, .int x2)]) (st' := []) (fun _ _ k => e_tabC (off := 63) dX12_operate_1 c53 (by decide) rfl k) ?_
    refine es_l (pc' := 65) (ls' := [(0, .int x0), (1, .int x1), (2, .int x2)]) (st' := [.int x1]) (fun _ _ k => e_iload_n dX12_operate_64 1 rfl k) ?_
    refine es_br (c := x1 = 0) (tgt := 68) (pf := 72) (st' := []) (fun _ _ a b => e_if_ne dX12_operate_65 rfl b a) (fun c54 => ?_) (fun c54 => ?_)
    · rw [if_pos c54] at hf
      refine es_l (pc' := 69) (ls' := [(0, .int x0), (1, .int x1), (2, .int x2)]) (st' := [.int x2]) (fun _ _ k => e_iload_n dX12_operate_68 2 rfl k) ?_
      refine es_br (c := x2 = 0) (tgt := 76) (pf := 72) (st' := []) (fun _ _ a b => e_if_eq dX12_operate_69 rfl a b) (fun c55 => ?_) (fun c55 => ?_)
      · rw [if_pos c55] at hf
        refine es_l (pc' := 77) (ls' := [(0, .int x0), (1, .int x1), (2, .int x2)]) (st' := [.int 0]) (fun _ _ k => e_iconst (v := 0) dX12_operate_76 (by decide) k) ?_
        refine es_sub [] rfl ?_
        exact t_X12_operate_77 N 0 S r hf
      · rw [if_neg c55] at hf
        refine es_sub [] rfl ?_
        exact t_X12_operate_72 N S r hf
    · rw [if_neg c54] at hf
      refine es_sub [] rfl ?_
      exact t_X12_operate_72 N S r hf
  rw [if_neg c53] at hf
  by_cases c56 : (x0 : Int32).toInt ∈ [(11 : Int)]
  · rw [if_pos c56] at hf
    refine es_l (pc' := 78) (ls' := [(0, .int x0), (1, .int x1), (2, .int x2)]) (st' := []) (fun _ _ k => e_tabC (off := 77) dX12_operate_1 c56 (by decide) rfl k) ?_
    refine es_l (pc' := 79) (ls' := [(0, .int x0), (1, .int x1), (2, .int x2)]) (st' := [.int x1]) (fun _ _ k => e_iload_n dX12_operate_78 1 rfl k) ?_
    refine es_br (c := x1 = 0) (tgt := 90) (pf := 82) (st' := []) (fun _ _ a b => e_if_eq dX12_operate_79 rfl a b) (fun c57 => ?_) (fun c57 => ?_)
    · rw [if_pos c57] at hf
      refine es_sub [] rfl ?_
      exact t_X12_operate_90 N S r hf
    · rw [if_neg c57] at hf
      refine es_l (pc' := 83) (ls' := [(0, .int x0), (1, .int x1), (2, .int x2)]) (st' := [.int x2]) (fun _ _ k => e_iload_n dX12_operate_82 2 rfl k) ?_
      refine es_br (c := x2 = 0) (tgt := 90) (pf := 86) (st' := []) (fun _ _ a b => e_if_eq dX12_operate_83 rfl a b) (fun c58 => ?_) (fun c58 => ?_)
      · rw [if_pos c58] at hf
        refine es_sub [] rfl ?_
        exact t_X12_operate_90 N S r hf
      · rw [if_neg c58] at hf
        refine es_l (pc' := 91) (ls' := [(0, .int x0), (1, .int x1), (2, .int x2)]) (st' := [.int 1]) (fun _ _ k => e_iconst (v := 1) dX12_operate_86 (by decide) (e_goto (tgt := 91) dX12_operate_87 rfl k)) ?_
        refine es_sub [] rfl ?_
        exact t_X12_operate_91 N 1 S r hf
  rw [if_neg c56] at hf
  by_cases c59 : (x0 : Int32).toInt ∈ [(12 : Int)]
  · rw [if_pos c59] at hf
    refine es_l (pc' := 92) (ls' := [(0, .int x0), (1, .int x1), (2, .int x2)]) (st' := []) (fun _ _ k => e_tabC (off := 91) dX12_operate_1 c59 (by decide) rfl k) ?_
    refine es_l (pc' := 94) (ls' := [(0, .int x0), (1, .int x1), (2, .int x2)]) (st' := [.int x2, .int x1]) (fun _ _ k => e_iload_n dX12_operate_92 1 rfl (e_iload_n dX12_operate_93 2 rfl k)) ?_
    refine es_br (c := x1 = x2) (tgt := 97) (pf := 101) (st' := []) (fun _ _ a b => e_icmp_ne dX12_operate_94 rfl b a) (fun c60 => ?_) (fun c60 => ?_)
    · rw [if_pos c60] at hf
      refine es_l (pc' := 102) (ls' := [(0, .int x0), (1, .int x1), (2, .int x2)]) (st' := [.int 1]) (fun _ _ k => e_iconst (v := 1) dX12_operate_97 (by decide) (e_goto (tgt := 102) dX12_operate_98 rfl k)) ?_
      refine es_sub [] rfl ?_
      exact t_X12_operate_102 N 1 S r hf
    · rw [if_neg c60] at hf
      refine es_l (pc' := 102) (ls' := [(0, .int x0), (1, .int x1), (2, .int x2)]) (st' := [.int 0]) (fun _ _ k => e_iconst (v := 0) dX12_operate_101 (by decide) k) ?_
      refine es_sub [] rfl ?_
      exact t_X12_operate_102 N 0 S r hf
  rw [if_neg c59] at hf
  by_cases c61 : (x0 : Int32).toInt ∈ [(13 : Int)]
  · rw [if_pos c61] at hf
    refine es_l (pc' := 103) (ls' := [(0, .int x0), (1, .int x1), (2, .int x2)]) (st' := []) (fun _ _ k => e_tabC (off := 102) dX12_operate_1 c61 (by decide) rfl k) ?_
    refine es_l (pc' := 105) (ls' := [(0, .int x0), (1, .int x1), (2, .int x2)]) (st' := [.int x2, .int x1]) (fun _ _ k => e_iload_n dX12_operate_103 1 rfl (e_iload_n dX12_operate_104 2 rfl k)) ?_
    refine es_br (c := x1 = x2) (tgt := 112) (pf := 108) (st' := []) (fun _ _ a b => e_icmp_eq dX12_operate_105 rfl a b) (fun c62 => ?_) (fun c62 => ?_)
    · rw [if_pos c62] at hf
      refine es_l (pc' := 113) (ls' := [(0, .int x0), (1, .int x1), (2, .int x2)]) (st' := [.int 0]) (fun _ _ k => e_iconst (v := 0) dX12_operate_112 (by decide) k) ?_
      refine es_sub [] rfl ?_
      exact t_X12_operate_113 N 0 S r hf
    · rw [if_neg c62] at hf
      refine es_l (pc' := 113) (ls' := [(0, .int x0), (1, .int x1), (2, .int x2)]) (st' := [.int 1]) (fun _ _ k => e_iconst (v := 1) dX12_operate_108 (by decide) (e_goto (tgt := 113) dX12_operate_109 rfl k)) ?_
      refine es_sub [] rfl ?_
      exact t_X12_operate_113 N 1 S r hf
  rw [if_neg c61] at hf
  by_cases c63 : (x0 : Int32).toInt ∈ [(14 : Int)]
  · rw [if_pos c63] at hf
    refine es_l (pc' := 114) (ls' := [(0, .int x0), (1, .int x1), (2, .int x2)]) (st' := []) (fun _ _ k => e_tabC (off := 113) dX12_operate_1 c63 (by decide) rfl k) ?_
    refine es_l (pc' := 116) (ls' := [(0, .int x0), (1, .int x1), (2, .int x2)]) (st' := [.int x2, .int x1]) (fun _ _ k => e_iload_n dX12_operate_114 1 rfl (e_iload_n dX12_operate_115 2 rfl k)) ?_
    refine es_br (c := x2 ≤ x1) (tgt := 123) (pf := 119) (st' := []) (fun _ _ a b => e_icmp_ge dX12_operate_116 rfl a b) (fun c64 => ?_) (fun c64 => ?_)
    · rw [if_pos c64] at hf
      refine es_l (pc' := 124) (ls' := [(0, .int x0), (1, .int x1), (2, .int x2)]) (st' := [.int 0]) (fun _ _ k => e_iconst (v := 0) dX12_operate_123 (by decide) k) ?_
      refine es_sub [] rfl ?_
      exact t_X12_operate_124 N 0 S r hf
    · rw [if_neg c64] at hf
      refine es_l (pc' := 124) (ls' := [(0, .int x0), (1, .int x1), (2, .int x2)]) (st' := [.int 1]) (fun _ _ k => e_iconst (v := 1) dX12_operate_119 (by decide) (e_goto (tgt := 124) dX12_operate_120 rfl k)) ?_
      refine es_sub [] rfl ?_
      exact t_X12_operate_124 N 1 S r hf
  rw [if_neg c63] at hf
  by_cases c65 : (x0 : Int32).toInt ∈ [(15 : Int)]
  · rw [if_pos c65] at hf
    refine es_l (pc' := 125) (ls' := [(0, .int x0), (1, .int x1), (2, .int x2)]) (st' := []) (fun _ _ k => e_tabC (off := 124) dX12_operate_1 c65 (by decide) rfl k) ?_
    refine es_l (pc' := 127) (ls' := [(0, .int x0), (1, .int x1), (2, .int x2)]) (st' := [.int x2, .int x1]) (fun _ _ k => e_iload_n dX12_operate_125 1 rfl (e_iload_n dX12_operate_126 2 rfl k)) ?_
    refine es_br (c := x2 < x1) (tgt := 134) (pf := 130) (st' := []) (fun _ _ a b => e_icmp_gt dX12_operate_127 rfl a b) (fun c66 => ?_) (fun c66 => ?_)
    · rw [if_pos c66] at hf
      refine es_l (pc' := 135) (ls' := [(0, .int x0), (1, .int x1), (2, .int x2)]) (st' := [.int 0]) (fun _ _ k => e_iconst (v := 0) dX12_operate_134 (by decide) k) ?_
      refine es_sub [] rfl ?_
      exact t_X12_operate_135 N 0 S r hf
    · rw [if_neg c66] at hf
      refine es_l (pc' := 135) (ls' := [(0, .int x0), (1, .int x1), (2, .int x2)]) (st' := [.int 1]) (fun _ _ k => e_iconst (v := 1) dX12_operate_130 (by decide) (e_goto (tgt := 135) dX12_operate_131 rfl k)) ?_
      refine es_sub [] rfl ?_
      exact t_X12_operate_135 N 1 S r hf
  rw [if_neg c65] at hf
  by_cases c67 : (x0 : Int32).toInt ∈ [(16 : Int)]
  · rw [if_pos c67] at hf
    refine es_l (pc' := 136) (ls' := [(0, .int x0), (1, .int x1), (2, .int x2)]) (st' := []) (fun _ _ k => e_tabC (off := 135) dX12_operate_1 c67 (by decide) rfl k) ?_
    refine es_l (pc' := 138) (ls' := [(0, .int x0), (1, .int x1), (2, .int x2)]) (st' := [.int x2, .int x1]) (fun _ _ k => e_iload_n dX12_operate_136 1 rfl (e_iload_n dX12_operate_137 2 rfl k)) ?_
    refine es_br (c := x1 ≤ x2) (tgt := 145) (pf := 141) (st' := []) (fun _ _ a b => e_icmp_le dX12_operate_138 rfl a b) (fun c68 => ?_) (fun c68 => ?_)
    · rw [if_pos c68] at hf
      refine es_l (pc' := 146) (ls' := [(0, .int x0), (1, .int x1), (2, .int x2)]) (st' := [.int 0]) (fun _ _ k => e_iconst (v := 0) dX12_operate_145 (by decide) k) ?_
      refine es_sub [] rfl ?_
      exact t_X12_operate_146 N 0 S r hf
    · rw [if_neg c68] at hf
      refine es_l (pc' := 146) (ls' := [(0, .int x0), (1, .int x1), (2, .int x2)]) (st' := [.int 1]) (fun _ _ k => e_iconst (v := 1) dX12_operate_141 (by decide) (e_goto (tgt := 146) dX12_operate_142 rfl k)) ?_
      refine es_sub [] rfl ?_
      exact t_X12_operate_146 N 1 S r hf
  rw [if_neg c67] at hf
  by_cases c69 : (x0 : Int32).toInt ∈ [(17 : Int)]
  · rw [if_pos c69] at hf
    refine es_l (pc' := 147) (ls' := [(0, .int x0), (1, .int x1), (2, .int x2)]) (st' := []) (fun _ _ k => e_tabC (off := 146) dX12_operate_1 c69 (by decide) rfl k) ?_
    refine es_l (pc' := 149) (ls' := [(0, .int x0), (1, .int x1), (2, .int x2)]) (st' := [.int x2, .int x1]) (fun _ _ k => e_iload_n dX12_operate_147 1 rfl (e_iload_n dX12_operate_148 2 rfl k)) ?_
    refine es_br (c := x1 < x2) (tgt := 156) (pf := 152) (st' := []) (fun _ _ a b => e_icmp_lt dX12_operate_149 rfl a b) (fun c70 => ?_) (fun c70 => ?_)
    · rw [if_pos c70] at hf
      refine es_l (pc' := 157) (ls' := [(0, .int x0), (1, .int x1), (2, .int x2)]) (st' := [.int 0]) (fun _ _ k => e_iconst (v := 0) dX12_operate_156 (by decide) k) ?_
      refine es_sub [] rfl ?_
      exact t_X12_operate_157 N 0 S r hf
    · rw [if_neg c70] at hf
      refine es_l (pc' := 157) (ls' := [(0, .int x0), (1, .int x1), (2, .int x2)]) (st' := [.int 1]) (fun _ _ k => e_iconst (v := 1) dX12_operate_152 (by decide) (e_goto (tgt := 157) dX12_operate_153 rfl k)) ?_
      refine es_sub [] rfl ?_
      exact t_X12_operate_157 N 1 S r hf
  rw [if_neg c69] at hf
  by_cases c71 : (x0 : Int32).toInt ∈ [(18 : Int)]
  · rw [if_pos c71] at hf
    refine es_l (pc' := 158) (ls' := [(0, .int x0), (1, .int x1), (2, .int x2)]) (st' := []) (fun _ _ k => e_tabC (off := 157) dX12_operate_1 c71 (by decide) rfl k) ?_
    refine es_l (pc' := 161) (ls' := [(0, .int x0), (1, .int x1), (2, .int x2)]) (st' := [.int (x1 + x2)]) (fun _ _ k => e_iload_n dX12_operate_158 1 rfl (e_iload_n dX12_operate_159 2 rfl (e_iadd dX12_operate_160 k))) ?_
    exact es_ireturn (ty := .int) dX12_operate_161 rfl rfl hf
  rw [if_neg c71] at hf
  by_cases c72 : (x0 : Int32).toInt ∈ [(19 : Int)]
  · rw [if_pos c72] at hf
    refine es_l (pc' := 162) (ls' := [(0, .int x0), (1, .int x1), (2, .int x2)]) (st' := []) (fun _ _ k => e_tabC (off := 161) dX12_operate_1 c72 (by decide) rfl k) ?_
    refine es_l (pc' := 165) (ls' := [(0, .int x0), (1, .int x1), (2, .int x2)]) (st' := [.int (x1 - x2)]) (fun _ _ k => e_iload_n dX12_operate_162 1 rfl (e_iload_n dX12_operate_163 2 rfl (e_isub dX12_operate_164 k))) ?_
    exact es_ireturn (ty := .int) dX12_operate_165 rfl rfl hf
  rw [if_neg c72] at hf
  by_cases c73 : (x0 : Int32).toInt ∈ [(20 : Int)]
  · rw [if_pos c73] at hf
    refine es_l (pc' := 166) (ls' := [(0, .int x0), (1, .int x1), (2, .int x2)]) (st' := []) (fun _ _ k => e_tabC (off := 165) dX12_operate_1 c73 (by decide) rfl k) ?_
    refine es_l (pc' := 169) (ls' := [(0, .int x0), (1, .int x1), (2, .int x2)]) (st' := [.int (x1 * x2)]) (fun _ _ k => e_iload_n dX12_operate_166 1 rfl (e_iload_n dX12_operate_167 2 rfl (e_imul dX12_operate_168 k))) ?_
    exact es_ireturn (ty := .int) dX12_operate_169 rfl rfl hf
  rw [if_neg c73] at hf
  by_cases c74 : (x0 : Int32).toInt ∈ [(21 : Int)]
  · rw [if_pos c74] at hf
    refine es_l (pc' := 170) (ls' := [(0, .int x0), (1, .int x1), (2, .int x2)]) (st' := []) (fun _ _ k => e_tabC (off := 169) dX12_operate_1 c74 (by decide) rfl k) ?_
    refine es_l (pc' := 171) (ls' := [(0, .int x0), (1, .int x1), (2, .int x2)]) (st' := [.int x2]) (fun _ _ k => e_iload_n dX12_operate_170 2 rfl k) ?_
    refine es_br (c := x2 = 0) (tgt := 174) (pf := 178) (st' := []) (fun _ _ a b => e_if_ne dX12_operate_171 rfl b a) (fun c75 => ?_) (fun c75 => ?_)
    · rw [if_pos c75] at hf
      refine es_l (pc' := 181) (ls' := [(0, .int x0), (1, .int x1), (2, .int x2)]) (st' := [.int 0]) (fun _ _ k => e_iconst (v := 0) dX12_operate_174 (by decide) (e_goto (tgt := 181) dX12_operate_175 rfl k)) ?_
      refine es_sub [] rfl ?_
      exact t_X12_operate_181 N 0 S r hf
    · rw [if_neg c75] at hf
      refine es_l (pc' := 180) (ls' := [(0, .int x0), (1, .int x1), (2, .int x2)]) (st' := [.int x2, .int x1]) (fun _ _ k => e_iload_n dX12_operate_178 1 rfl (e_iload_n dX12_operate_179 2 rfl k)) ?_
      obtain ⟨g76, hf⟩ := xg hf
      refine es_l (pc' := 181) (ls' := [(0, .int x0), (1, .int x1), (2, .int x2)]) (st' := [.int (x1 / x2)]) (fun _ _ k => e_idiv dX12_operate_180 g76 k) ?_
      refine es_sub [] rfl ?_
      exact t_X12_operate_181 N (x1 / x2) S r hf
  rw [if_neg c74] at hf
  refine es_l (pc' := 182) (ls' := [(0, .int x0), (1, .int x1), (2, .int x2)]) (st' := []) (fun _ _ k => e_tabD (L := [10, 11, 12, 13, 14, 15, 16, 17, 18, 19, 20, 21]) dX12_operate_1 (by  simp only [List.mem_cons, List.not_mem_nil, or_false] at *; omega) (by decide) rfl k) ?_
  refine es_l (pc' := 183) (ls' := [(0, .int x0), (1, .int x1), (2, .int x2)]) (st' := [.int x2]) (fun _ _ k => e_iload_n dX12_operate_182 2 rfl k) ?_
  refine es_br (c := x2 = 0) (tgt := 186) (pf := 190) (st' := []) (fun _ _ a b => e_if_ne dX12_operate_183 rfl b a) (fun c77 => ?_) (fun c77 => ?_)
  · rw [if_pos c77] at hf
    refine es_l (pc' := 193) (ls' := [(0, .int x0), (1, .int x1), (2, .int x2)]) (st' := [.int 0]) (fun _ _ k => e_iconst (v := 0) dX12_operate_186 (by decide) (e_goto (tgt := 193) dX12_operate_187 rfl k)) ?_
    refine es_sub [] rfl ?_
    exact t_X12_operate_193 N 0 S r hf
  · rw [if_neg c77] at hf
    refine es_l (pc' := 192) (ls' := [(0, .int x0), (1, .int x1), (2, .int x2)]) (st' := [.int x2, .int x1]) (fun _ _ k => e_iload_n dX12_operate_190 1 rfl (e_iload_n dX12_operate_191 2 rfl k)) ?_
    obtain ⟨g78, hf⟩ := xg hf
    refine es_l (pc' := 193) (ls' := [(0, .int x0), (1, .int x1), (2, .int x2)]) (st' := [.int (x1 - x1 / x2 * x2)]) (fun _ _ k => e_irem dX12_operate_192 g78 k) ?_
    refine es_sub [] rfl ?_
    exact t_X12_operate_193 N (x1 - x1 / x2 * x2) S r hf
def f_X12_nextOf_26 (N : Nat)  (x3 : Int32) (S : xS) : Option xr :=
  some (.inl (some (.inl x3)), S)
set_option maxRecDepth 100000 in
set_option maxHeartbeats 4000000 in
theorem t_X12_nextOf_26 {l : Launch} {w : xW} {g : Nat → xE} (N : Nat)   (x3 : Int32) (S : xS) (r : xr) (hf : f_X12_nextOf_26 N  x3 S = some r) : ES l w g M_X12_nextOf 26 [(3, .int x3)] [] S r := by
  unfold f_X12_nextOf_26 at hf
  refine es_l (pc' := 27) (ls' := [(3, .int x3)]) (st' := [.int x3]) (fun _ _ k => e_iload_n dX12_nextOf_26 0 rfl k) ?_
  exact es_ireturn (ty := .int) dX12_nextOf_27 rfl rfl hf
def f_X12_nextOf_2 (N : Nat)  : Nat → Int32 → Int32 → xS → Option xr
  | 0, _, _, _ => none
  | n + 1, x1, x3, S =>
  if 64 ≤ x3 then
    f_X12_nextOf_26 N x3 S
  else
    if xin x3 64 then
    if (S.1 511 x3.toNatClampNeg) = (x1 + 1) then
      f_X12_nextOf_26 N x3 S
    else
      f_X12_nextOf_2 N n x1 (x3 + 1) S
    else none
set_option maxRecDepth 100000 in
set_option maxHeartbeats 4000000 in
theorem t_X12_nextOf_2 {l : Launch} {w : xW} {g : Nat → xE} (N : Nat)   : ∀ (n : Nat) (x1 : Int32) (x3 : Int32) (S : xS) (r : xr), f_X12_nextOf_2 N  n x1 x3 S = some r → ES l w g M_X12_nextOf 2 [(0, .ref (w.2.1 + 503)), (1, .int x1), (3, .int x3)] [] S r := by
  intro n
  induction n with
  | zero => intro x1 x3 S r hf; cases hf
  | succ n ih =>
    intro x1 x3 S r hf
    rw [f_X12_nextOf_2.eq_2] at hf
    refine es_l (pc' := 5) (ls' := [(0, .ref (w.2.1 + 503)), (1, .int x1), (3, .int x3)]) (st' := [.int 64, .int x3]) (fun _ _ k => e_iload_n dX12_nextOf_2 2 rfl (e_bipush (v := 64) dX12_nextOf_3 (by decide) k)) ?_
    refine es_br (c := 64 ≤ x3) (tgt := 26) (pf := 8) (st' := []) (fun _ _ a b => e_icmp_ge dX12_nextOf_5 rfl a b) (fun c7 => ?_) (fun c7 => ?_)
    · rw [if_pos c7] at hf
      refine es_sub [2] rfl ?_
      exact t_X12_nextOf_26 N x3 S r hf
    · rw [if_neg c7] at hf
      refine es_l (pc' := 9) (ls' := [(0, .ref (w.2.1 + 503)), (1, .int x1), (3, .int x3)]) (st' := [.ref (w.2.1 + 503)]) (fun _ _ k => e_aload_n dX12_nextOf_8 0 rfl k) ?_
      refine es_get (v := .ref (w.2.1 + 511)) xc_12 dX12_nextOf_9 fl_X12_45 (by decide) (by decide) (cel_503 _ _ _) rfl ?_
      refine es_l (pc' := 13) (ls' := [(0, .ref (w.2.1 + 503)), (1, .int x1), (3, .int x3)]) (st' := [.int x3, .ref (w.2.1 + 511)]) (fun _ _ k => e_iload_n dX12_nextOf_12 2 rfl k) ?_
      obtain ⟨g8, hf⟩ := xg hf
      refine es_iald (v := .int (S.1 511 x3.toNatClampNeg)) dX12_nextOf_13 (by decide) (cel_511 _ _ _) g8 rfl ?_
      refine es_l (pc' := 17) (ls' := [(0, .ref (w.2.1 + 503)), (1, .int x1), (3, .int x3)]) (st' := [.int (x1 + 1), .int (S.1 511 x3.toNatClampNeg)]) (fun _ _ k => e_iload_n dX12_nextOf_14 1 rfl (e_iconst (v := 1) dX12_nextOf_15 (by decide) (e_iadd dX12_nextOf_16 k))) ?_
      refine es_br (c := (S.1 511 x3.toNatClampNeg) = (x1 + 1)) (tgt := 26) (pf := 20) (st' := []) (fun _ _ a b => e_icmp_eq dX12_nextOf_17 rfl a b) (fun c9 => ?_) (fun c9 => ?_)
      · rw [if_pos c9] at hf
        refine es_sub [2] rfl ?_
        exact t_X12_nextOf_26 N x3 S r hf
      · rw [if_neg c9] at hf
        refine es_l (pc' := 2) (ls' := [(3, .int (x3 + 1)), (0, .ref (w.2.1 + 503)), (1, .int x1)]) (st' := []) (fun _ _ k => e_iinc (v := x3 + 1) (ls' := [(3, .int (x3 + 1)), (0, .ref (w.2.1 + 503)), (1, .int x1)]) dX12_nextOf_20 2 rfl rfl (by decide) rfl (e_goto (tgt := 2) dX12_nextOf_23 rfl k)) ?_
        refine es_sub [1, 2, 0] rfl ?_
        exact ih x1 (x3 + 1) S r hf
def f_X12_nextOf (N : Nat) (x1 : Int32) (x2 : Int32) (S : xS) : Option xr :=
  f_X12_nextOf_2 N N x1 x2 S
set_option maxRecDepth 100000 in
set_option maxHeartbeats 4000000 in
theorem t_X12_nextOf {l : Launch} {w : xW} {g : Nat → xE} (N : Nat) (x1 : Int32) (x2 : Int32) (S : xS) (r : xr) (hf : f_X12_nextOf N x1 x2 S = some r) : ES l w g M_X12_nextOf 0 (lv_args 0 [.ref (w.2.1 + 503), .int x1, .int x2]) [] S r := by
  show ES l w g M_X12_nextOf 0 [(0, .ref (w.2.1 + 503)), (1, .int x1), (2, .int x2)] [] S r
  unfold f_X12_nextOf at hf
  refine es_l (pc' := 2) (ls' := [(3, .int x2), (0, .ref (w.2.1 + 503)), (1, .int x1), (2, .int x2)]) (st' := []) (fun _ _ k => e_iload_n dX12_nextOf_0 2 rfl (e_istore_n (ls' := [(3, .int x2), (0, .ref (w.2.1 + 503)), (1, .int x1), (2, .int x2)]) dX12_nextOf_1 (by decide) rfl k)) ?_
  refine es_sub [1, 2, 0] rfl ?_
  exact t_X12_nextOf_2 N N x1 x2 S r hf
def f_X12_cursorThere_48 (N : Nat)  (s0 : Int32) (S : xS) : Option xr :=
  if xbo s0 then
  some (.inl (some (.inl s0)), S)
  else none
set_option maxRecDepth 100000 in
set_option maxHeartbeats 4000000 in
theorem t_X12_cursorThere_48 {l : Launch} {w : xW} {g : Nat → xE} (N : Nat)   (s0 : Int32) (S : xS) (r : xr) (hf : f_X12_cursorThere_48 N  s0 S = some r) : ES l w g M_X12_cursorThere 48 [] [.int s0] S r := by
  unfold f_X12_cursorThere_48 at hf
  obtain ⟨g13, hf⟩ := xg hf
  exact es_ireturn (ty := .boolean) dX12_cursorThere_48 rfl (xbo_n g13) hf
def f_X12_cursorThere_47 (N : Nat)   (S : xS) : Option xr :=
  f_X12_cursorThere_48 N 0 S
set_option maxRecDepth 100000 in
set_option maxHeartbeats 4000000 in
theorem t_X12_cursorThere_47 {l : Launch} {w : xW} {g : Nat → xE} (N : Nat)    (S : xS) (r : xr) (hf : f_X12_cursorThere_47 N   S = some r) : ES l w g M_X12_cursorThere 47 [] [] S r := by
  unfold f_X12_cursorThere_47 at hf
  refine es_l (pc' := 48) (ls' := []) (st' := [.int 0]) (fun _ _ k => e_iconst (v := 0) dX12_cursorThere_47 (by decide) k) ?_
  exact t_X12_cursorThere_48 N 0 S r hf
def f_X12_cursorThere (N : Nat) (x1 : Int32) (S : xS) : Option xr :=
  if xin x1 12 then
  if xin ((64 * x1) + (S.1 529 x1.toNatClampNeg)) 768 then
  if xin (S.1 526 (((64 * x1) + (S.1 529 x1.toNatClampNeg)).toNatClampNeg)) 64 then
  if (S.1 511 ((S.1 526 (((64 * x1) + (S.1 529 x1.toNatClampNeg)).toNatClampNeg)).toNatClampNeg)) = 0 then
    f_X12_cursorThere_47 N S
  else
    if (S.1 513 ((S.1 526 (((64 * x1) + (S.1 529 x1.toNatClampNeg)).toNatClampNeg)).toNatClampNeg)) = (S.1 527 (((64 * x1) + (S.1 529 x1.toNatClampNeg)).toNatClampNeg)) then
      f_X12_cursorThere_48 N 1 S
    else
      f_X12_cursorThere_47 N S
  else none
  else none
  else none
set_option maxRecDepth 100000 in
set_option maxHeartbeats 4000000 in
theorem t_X12_cursorThere {l : Launch} {w : xW} {g : Nat → xE} (N : Nat) (x1 : Int32) (S : xS) (r : xr) (hf : f_X12_cursorThere N x1 S = some r) : ES l w g M_X12_cursorThere 0 (lv_args 0 [.ref (w.2.1 + 503), .int x1]) [] S r := by
  show ES l w g M_X12_cursorThere 0 [(0, .ref (w.2.1 + 503)), (1, .int x1)] [] S r
  unfold f_X12_cursorThere at hf
  refine es_l (pc' := 5) (ls' := [(0, .ref (w.2.1 + 503)), (1, .int x1)]) (st' := [.ref (w.2.1 + 503), .int (64 * x1)]) (fun _ _ k => e_bipush (v := 64) dX12_cursorThere_0 (by decide) (e_iload_n dX12_cursorThere_2 1 rfl (e_imul dX12_cursorThere_3 (e_aload_n dX12_cursorThere_4 0 rfl k)))) ?_
  refine es_get (v := .ref (w.2.1 + 529)) xc_12 dX12_cursorThere_5 fl_X12_142 (by decide) (by decide) (cel_503 _ _ _) rfl ?_
  refine es_l (pc' := 9) (ls' := [(0, .ref (w.2.1 + 503)), (1, .int x1)]) (st' := [.int x1, .ref (w.2.1 + 529), .int (64 * x1)]) (fun _ _ k => e_iload_n dX12_cursorThere_8 1 rfl k) ?_
  obtain ⟨g14, hf⟩ := xg hf
  refine es_iald (v := .int (S.1 529 x1.toNatClampNeg)) dX12_cursorThere_9 (by decide) (cel_529 _ _ _) g14 rfl ?_
  refine es_l (pc' := 13) (ls' := [(2, .int ((64 * x1) + (S.1 529 x1.toNatClampNeg))), (0, .ref (w.2.1 + 503)), (1, .int x1)]) (st' := [.ref (w.2.1 + 503)]) (fun _ _ k => e_iadd dX12_cursorThere_10 (e_istore_n (ls' := [(2, .int ((64 * x1) + (S.1 529 x1.toNatClampNeg))), (0, .ref (w.2.1 + 503)), (1, .int x1)]) dX12_cursorThere_11 (by decide) rfl (e_aload_n dX12_cursorThere_12 1 rfl k))) ?_
  refine es_get (v := .ref (w.2.1 + 526)) xc_12 dX12_cursorThere_13 fl_X12_133 (by decide) (by decide) (cel_503 _ _ _) rfl ?_
  refine es_l (pc' := 17) (ls' := [(2, .int ((64 * x1) + (S.1 529 x1.toNatClampNeg))), (0, .ref (w.2.1 + 503)), (1, .int x1)]) (st' := [.int ((64 * x1) + (S.1 529 x1.toNatClampNeg)), .ref (w.2.1 + 526)]) (fun _ _ k => e_iload_n dX12_cursorThere_16 0 rfl k) ?_
  obtain ⟨g15, hf⟩ := xg hf
  refine es_iald (v := .int (S.1 526 (((64 * x1) + (S.1 529 x1.toNatClampNeg)).toNatClampNeg))) dX12_cursorThere_17 (by decide) (cel_526 _ _ _) g15 rfl ?_
  refine es_l (pc' := 20) (ls' := [(3, .int (S.1 526 (((64 * x1) + (S.1 529 x1.toNatClampNeg)).toNatClampNeg))), (2, .int ((64 * x1) + (S.1 529 x1.toNatClampNeg))), (0, .ref (w.2.1 + 503)), (1, .int x1)]) (st' := [.ref (w.2.1 + 503)]) (fun _ _ k => e_istore_n (ls' := [(3, .int (S.1 526 (((64 * x1) + (S.1 529 x1.toNatClampNeg)).toNatClampNeg))), (2, .int ((64 * x1) + (S.1 529 x1.toNatClampNeg))), (0, .ref (w.2.1 + 503)), (1, .int x1)]) dX12_cursorThere_18 (by decide) rfl (e_aload_n dX12_cursorThere_19 2 rfl k)) ?_
  refine es_get (v := .ref (w.2.1 + 511)) xc_12 dX12_cursorThere_20 fl_X12_45 (by decide) (by decide) (cel_503 _ _ _) rfl ?_
  refine es_l (pc' := 24) (ls' := [(3, .int (S.1 526 (((64 * x1) + (S.1 529 x1.toNatClampNeg)).toNatClampNeg))), (2, .int ((64 * x1) + (S.1 529 x1.toNatClampNeg))), (0, .ref (w.2.1 + 503)), (1, .int x1)]) (st' := [.int (S.1 526 (((64 * x1) + (S.1 529 x1.toNatClampNeg)).toNatClampNeg)), .ref (w.2.1 + 511)]) (fun _ _ k => e_iload_n dX12_cursorThere_23 0 rfl k) ?_
  obtain ⟨g16, hf⟩ := xg hf
  refine es_iald (v := .int (S.1 511 ((S.1 526 (((64 * x1) + (S.1 529 x1.toNatClampNeg)).toNatClampNeg)).toNatClampNeg))) dX12_cursorThere_24 (by decide) (cel_511 _ _ _) g16 rfl ?_
  refine es_br (c := (S.1 511 ((S.1 526 (((64 * x1) + (S.1 529 x1.toNatClampNeg)).toNatClampNeg)).toNatClampNeg)) = 0) (tgt := 47) (pf := 28) (st' := []) (fun _ _ a b => e_if_eq dX12_cursorThere_25 rfl a b) (fun c17 => ?_) (fun c17 => ?_)
  · rw [if_pos c17] at hf
    refine es_sub [] rfl ?_
    exact t_X12_cursorThere_47 N S r hf
  · rw [if_neg c17] at hf
    refine es_l (pc' := 29) (ls' := [(3, .int (S.1 526 (((64 * x1) + (S.1 529 x1.toNatClampNeg)).toNatClampNeg))), (2, .int ((64 * x1) + (S.1 529 x1.toNatClampNeg))), (0, .ref (w.2.1 + 503)), (1, .int x1)]) (st' := [.ref (w.2.1 + 503)]) (fun _ _ k => e_aload_n dX12_cursorThere_28 2 rfl k) ?_
    refine es_get (v := .ref (w.2.1 + 513)) xc_12 dX12_cursorThere_29 fl_X12_51 (by decide) (by decide) (cel_503 _ _ _) rfl ?_
    refine es_l (pc' := 33) (ls' := [(3, .int (S.1 526 (((64 * x1) + (S.1 529 x1.toNatClampNeg)).toNatClampNeg))), (2, .int ((64 * x1) + (S.1 529 x1.toNatClampNeg))), (0, .ref (w.2.1 + 503)), (1, .int x1)]) (st' := [.int (S.1 526 (((64 * x1) + (S.1 529 x1.toNatClampNeg)).toNatClampNeg)), .ref (w.2.1 + 513)]) (fun _ _ k => e_iload_n dX12_cursorThere_32 0 rfl k) ?_
    refine es_iald (v := .int (S.1 513 ((S.1 526 (((64 * x1) + (S.1 529 x1.toNatClampNeg)).toNatClampNeg)).toNatClampNeg))) dX12_cursorThere_33 (by decide) (cel_513 _ _ _) g16 rfl ?_
    refine es_l (pc' := 35) (ls' := [(3, .int (S.1 526 (((64 * x1) + (S.1 529 x1.toNatClampNeg)).toNatClampNeg))), (2, .int ((64 * x1) + (S.1 529 x1.toNatClampNeg))), (0, .ref (w.2.1 + 503)), (1, .int x1)]) (st' := [.ref (w.2.1 + 503), .int (S.1 513 ((S.1 526 (((64 * x1) + (S.1 529 x1.toNatClampNeg)).toNatClampNeg)).toNatClampNeg))]) (fun _ _ k => e_aload_n dX12_cursorThere_34 2 rfl k) ?_
    refine es_get (v := .ref (w.2.1 + 527)) xc_12 dX12_cursorThere_35 fl_X12_136 (by decide) (by decide) (cel_503 _ _ _) rfl ?_
    refine es_l (pc' := 39) (ls' := [(3, .int (S.1 526 (((64 * x1) + (S.1 529 x1.toNatClampNeg)).toNatClampNeg))), (2, .int ((64 * x1) + (S.1 529 x1.toNatClampNeg))), (0, .ref (w.2.1 + 503)), (1, .int x1)]) (st' := [.int ((64 * x1) + (S.1 529 x1.toNatClampNeg)), .ref (w.2.1 + 527), .int (S.1 513 ((S.1 526 (((64 * x1) + (S.1 529 x1.toNatClampNeg)).toNatClampNeg)).toNatClampNeg))]) (fun _ _ k => e_iload_n dX12_cursorThere_38 1 rfl k) ?_
    refine es_iald (v := .int (S.1 527 (((64 * x1) + (S.1 529 x1.toNatClampNeg)).toNatClampNeg))) dX12_cursorThere_39 (by decide) (cel_527 _ _ _) g15 rfl ?_
    refine es_br (c := (S.1 513 ((S.1 526 (((64 * x1) + (S.1 529 x1.toNatClampNeg)).toNatClampNeg)).toNatClampNeg)) = (S.1 527 (((64 * x1) + (S.1 529 x1.toNatClampNeg)).toNatClampNeg))) (tgt := 43) (pf := 47) (st' := []) (fun _ _ a b => e_icmp_ne dX12_cursorThere_40 rfl b a) (fun c18 => ?_) (fun c18 => ?_)
    · rw [if_pos c18] at hf
      refine es_l (pc' := 48) (ls' := [(3, .int (S.1 526 (((64 * x1) + (S.1 529 x1.toNatClampNeg)).toNatClampNeg))), (2, .int ((64 * x1) + (S.1 529 x1.toNatClampNeg))), (0, .ref (w.2.1 + 503)), (1, .int x1)]) (st' := [.int 1]) (fun _ _ k => e_iconst (v := 1) dX12_cursorThere_43 (by decide) (e_goto (tgt := 48) dX12_cursorThere_44 rfl k)) ?_
      refine es_sub [] rfl ?_
      exact t_X12_cursorThere_48 N 1 S r hf
    · rw [if_neg c18] at hf
      refine es_sub [] rfl ?_
      exact t_X12_cursorThere_47 N S r hf
def f_X12_aggregated_57 (N : Nat)  (s0 : Int32) (S : xS) : Option xr :=
  some (.inl (some (.inl s0)), S)
set_option maxRecDepth 100000 in
set_option maxHeartbeats 4000000 in
theorem t_X12_aggregated_57 {l : Launch} {w : xW} {g : Nat → xE} (N : Nat)   (s0 : Int32) (S : xS) (r : xr) (hf : f_X12_aggregated_57 N  s0 S = some r) : ES l w g M_X12_aggregated 57 [] [.int s0] S r := by
  unfold f_X12_aggregated_57 at hf
  exact es_ireturn (ty := .int) dX12_aggregated_57 rfl rfl hf
def f_X12_aggregated (N : Nat) (x1 : Int32) (x2 : Int32) (x3 : Int32) (x4 : Int32) (S : xS) : Option xr :=
  if x1 = 0 then
    some (.inl (some (.inl (x2 + 1))), S)
  else
    if x1 = 1 then
      some (.inl (some (.inl (x2 + x4))), S)
    else
      if x3 = 0 then
        some (.inl (some (.inl x4)), S)
      else
        if x1 = 2 then
          if x2 ≤ x4 then
            f_X12_aggregated_57 N x2 S
          else
            f_X12_aggregated_57 N x4 S
        else
          if x4 ≤ x2 then
            f_X12_aggregated_57 N x2 S
          else
            f_X12_aggregated_57 N x4 S
set_option maxRecDepth 100000 in
set_option maxHeartbeats 4000000 in
theorem t_X12_aggregated {l : Launch} {w : xW} {g : Nat → xE} (N : Nat) (x1 : Int32) (x2 : Int32) (x3 : Int32) (x4 : Int32) (S : xS) (r : xr) (hf : f_X12_aggregated N x1 x2 x3 x4 S = some r) : ES l w g M_X12_aggregated 0 (lv_args 0 [.ref (w.2.1 + 503), .int x1, .int x2, .int x3, .int x4]) [] S r := by
  show ES l w g M_X12_aggregated 0 [(0, .ref (w.2.1 + 503)), (1, .int x1), (2, .int x2), (3, .int x3), (4, .int x4)] [] S r
  unfold f_X12_aggregated at hf
  refine es_l (pc' := 1) (ls' := [(0, .ref (w.2.1 + 503)), (1, .int x1), (2, .int x2), (3, .int x3), (4, .int x4)]) (st' := [.int x1]) (fun _ _ k => e_iload_n dX12_aggregated_0 1 rfl k) ?_
  refine es_br (c := x1 = 0) (tgt := 4) (pf := 8) (st' := []) (fun _ _ a b => e_if_ne dX12_aggregated_1 rfl b a) (fun c13 => ?_) (fun c13 => ?_)
  · rw [if_pos c13] at hf
    refine es_l (pc' := 7) (ls' := [(0, .ref (w.2.1 + 503)), (1, .int x1), (2, .int x2), (3, .int x3), (4, .int x4)]) (st' := [.int (x2 + 1)]) (fun _ _ k => e_iload_n dX12_aggregated_4 2 rfl (e_iconst (v := 1) dX12_aggregated_5 (by decide) (e_iadd dX12_aggregated_6 k))) ?_
    exact es_ireturn (ty := .int) dX12_aggregated_7 rfl rfl hf
  · rw [if_neg c13] at hf
    refine es_l (pc' := 10) (ls' := [(0, .ref (w.2.1 + 503)), (1, .int x1), (2, .int x2), (3, .int x3), (4, .int x4)]) (st' := [.int 1, .int x1]) (fun _ _ k => e_iload_n dX12_aggregated_8 1 rfl (e_iconst (v := 1) dX12_aggregated_9 (by decide) k)) ?_
    refine es_br (c := x1 = 1) (tgt := 13) (pf := 18) (st' := []) (fun _ _ a b => e_icmp_ne dX12_aggregated_10 rfl b a) (fun c14 => ?_) (fun c14 => ?_)
    · rw [if_pos c14] at hf
      refine es_l (pc' := 17) (ls' := [(0, .ref (w.2.1 + 503)), (1, .int x1), (2, .int x2), (3, .int x3), (4, .int x4)]) (st' := [.int (x2 + x4)]) (fun _ _ k => e_iload_n dX12_aggregated_13 2 rfl (e_iload dX12_aggregated_14 4 rfl (e_iadd dX12_aggregated_16 k))) ?_
      exact es_ireturn (ty := .int) dX12_aggregated_17 rfl rfl hf
    · rw [if_neg c14] at hf
      refine es_l (pc' := 19) (ls' := [(0, .ref (w.2.1 + 503)), (1, .int x1), (2, .int x2), (3, .int x3), (4, .int x4)]) (st' := [.int x3]) (fun _ _ k => e_iload_n dX12_aggregated_18 3 rfl k) ?_
      refine es_br (c := x3 = 0) (tgt := 22) (pf := 25) (st' := []) (fun _ _ a b => e_if_ne dX12_aggregated_19 rfl b a) (fun c15 => ?_) (fun c15 => ?_)
      · rw [if_pos c15] at hf
        refine es_l (pc' := 24) (ls' := [(0, .ref (w.2.1 + 503)), (1, .int x1), (2, .int x2), (3, .int x3), (4, .int x4)]) (st' := [.int x4]) (fun _ _ k => e_iload dX12_aggregated_22 4 rfl k) ?_
        exact es_ireturn (ty := .int) dX12_aggregated_24 rfl rfl hf
      · rw [if_neg c15] at hf
        refine es_l (pc' := 27) (ls' := [(0, .ref (w.2.1 + 503)), (1, .int x1), (2, .int x2), (3, .int x3), (4, .int x4)]) (st' := [.int 2, .int x1]) (fun _ _ k => e_iload_n dX12_aggregated_25 1 rfl (e_iconst (v := 2) dX12_aggregated_26 (by decide) k)) ?_
        refine es_br (c := x1 = 2) (tgt := 30) (pf := 45) (st' := []) (fun _ _ a b => e_icmp_ne dX12_aggregated_27 rfl b a) (fun c16 => ?_) (fun c16 => ?_)
        · rw [if_pos c16] at hf
          refine es_l (pc' := 33) (ls' := [(0, .ref (w.2.1 + 503)), (1, .int x1), (2, .int x2), (3, .int x3), (4, .int x4)]) (st' := [.int x2, .int x4]) (fun _ _ k => e_iload dX12_aggregated_30 4 rfl (e_iload_n dX12_aggregated_32 2 rfl k)) ?_
          refine es_br (c := x2 ≤ x4) (tgt := 41) (pf := 36) (st' := []) (fun _ _ a b => e_icmp_ge dX12_aggregated_33 rfl a b) (fun c17 => ?_) (fun c17 => ?_)
          · rw [if_pos c17] at hf
            refine es_l (pc' := 57) (ls' := [(0, .ref (w.2.1 + 503)), (1, .int x1), (2, .int x2), (3, .int x3), (4, .int x4)]) (st' := [.int x2]) (fun _ _ k => e_iload_n dX12_aggregated_41 2 rfl (e_goto (tgt := 57) dX12_aggregated_42 rfl k)) ?_
            refine es_sub [] rfl ?_
            exact t_X12_aggregated_57 N x2 S r hf
          · rw [if_neg c17] at hf
            refine es_l (pc' := 57) (ls' := [(0, .ref (w.2.1 + 503)), (1, .int x1), (2, .int x2), (3, .int x3), (4, .int x4)]) (st' := [.int x4]) (fun _ _ k => e_iload dX12_aggregated_36 4 rfl (e_goto (tgt := 57) dX12_aggregated_38 rfl k)) ?_
            refine es_sub [] rfl ?_
            exact t_X12_aggregated_57 N x4 S r hf
        · rw [if_neg c16] at hf
          refine es_l (pc' := 48) (ls' := [(0, .ref (w.2.1 + 503)), (1, .int x1), (2, .int x2), (3, .int x3), (4, .int x4)]) (st' := [.int x2, .int x4]) (fun _ _ k => e_iload dX12_aggregated_45 4 rfl (e_iload_n dX12_aggregated_47 2 rfl k)) ?_
          refine es_br (c := x4 ≤ x2) (tgt := 56) (pf := 51) (st' := []) (fun _ _ a b => e_icmp_le dX12_aggregated_48 rfl a b) (fun c18 => ?_) (fun c18 => ?_)
          · rw [if_pos c18] at hf
            refine es_l (pc' := 57) (ls' := [(0, .ref (w.2.1 + 503)), (1, .int x1), (2, .int x2), (3, .int x3), (4, .int x4)]) (st' := [.int x2]) (fun _ _ k => e_iload_n dX12_aggregated_56 2 rfl k) ?_
            refine es_sub [] rfl ?_
            exact t_X12_aggregated_57 N x2 S r hf
          · rw [if_neg c18] at hf
            refine es_l (pc' := 57) (ls' := [(0, .ref (w.2.1 + 503)), (1, .int x1), (2, .int x2), (3, .int x3), (4, .int x4)]) (st' := [.int x4]) (fun _ _ k => e_iload dX12_aggregated_51 4 rfl (e_goto (tgt := 57) dX12_aggregated_53 rfl k)) ?_
            refine es_sub [] rfl ?_
            exact t_X12_aggregated_57 N x4 S r hf
def f_X12_endOf_45 (N : Nat) (k4 : Int32 → xS → Option xr) (s0 : Int32) (s1 : Int32) (S : xS) : Option xr :=
  k4 (s1 + s0) S
set_option maxRecDepth 100000 in
set_option maxHeartbeats 4000000 in
theorem t_X12_endOf_45 {l : Launch} {w : xW} {g : Nat → xE} (N : Nat) (k4 : Int32 → xS → Option xr) (hk4 : ∀ (x2 : Int32) (S : xS) (r : xr), k4 x2 S = some r → ES l w g M_X12_endOf 4 [(0, .ref (w.2.1 + 503)), (2, .int x2)] [] S r) (s0 : Int32) (s1 : Int32) (S : xS) (r : xr) (hf : f_X12_endOf_45 N k4 s0 s1 S = some r) : ES l w g M_X12_endOf 45 [(0, .ref (w.2.1 + 503))] [.int s0, .int s1] S r := by
  unfold f_X12_endOf_45 at hf
  refine es_l (pc' := 4) (ls' := [(2, .int (s1 + s0)), (0, .ref (w.2.1 + 503))]) (st' := []) (fun _ _ k => e_iadd dX12_endOf_45 (e_istore_n (ls' := [(2, .int (s1 + s0)), (0, .ref (w.2.1 + 503))]) dX12_endOf_46 (by decide) rfl (e_goto (tgt := 4) dX12_endOf_47 rfl k))) ?_
  refine es_sub [1, 0] rfl ?_
  exact hk4 (s1 + s0) S r hf
def f_X12_endOf_4 (N : Nat)  : Nat → Int32 → xS → Option xr
  | 0, _, _ => none
  | n + 1, x2, S =>
  if xin x2 3000 then
  if (S.1 518 x2.toNatClampNeg) = 31 then
    some (.inl (some (.inl (x2 + 1))), S)
  else
    if (S.1 518 x2.toNatClampNeg) = 4 then
      f_X12_endOf_45 N (f_X12_endOf_4 N n) 3 x2 S
    else
      if 4 ≤ (S.1 518 x2.toNatClampNeg) then
        f_X12_endOf_45 N (f_X12_endOf_4 N n) 1 x2 S
      else
        f_X12_endOf_45 N (f_X12_endOf_4 N n) 2 x2 S
  else none
set_option maxRecDepth 100000 in
set_option maxHeartbeats 4000000 in
theorem t_X12_endOf_4 {l : Launch} {w : xW} {g : Nat → xE} (N : Nat)   : ∀ (n : Nat) (x2 : Int32) (S : xS) (r : xr), f_X12_endOf_4 N  n x2 S = some r → ES l w g M_X12_endOf 4 [(0, .ref (w.2.1 + 503)), (2, .int x2)] [] S r := by
  intro n
  induction n with
  | zero => intro x2 S r hf; cases hf
  | succ n ih =>
    intro x2 S r hf
    rw [f_X12_endOf_4.eq_2] at hf
    refine es_l (pc' := 5) (ls' := [(0, .ref (w.2.1 + 503)), (2, .int x2)]) (st' := [.ref (w.2.1 + 503)]) (fun _ _ k => e_aload_n dX12_endOf_4 0 rfl k) ?_
    refine es_get (v := .ref (w.2.1 + 518)) xc_12 dX12_endOf_5 fl_X12_85 (by decide) (by decide) (cel_503 _ _ _) rfl ?_
    refine es_l (pc' := 9) (ls' := [(0, .ref (w.2.1 + 503)), (2, .int x2)]) (st' := [.int x2, .ref (w.2.1 + 518)]) (fun _ _ k => e_iload_n dX12_endOf_8 1 rfl k) ?_
    obtain ⟨g9, hf⟩ := xg hf
    refine es_iald (v := .int (S.1 518 x2.toNatClampNeg)) dX12_endOf_9 (by decide) (cel_518 _ _ _) g9 rfl ?_
    refine es_l (pc' := 12) (ls' := [(0, .ref (w.2.1 + 503)), (2, .int x2)]) (st' := [.int 31, .int (S.1 518 x2.toNatClampNeg)]) (fun _ _ k => e_bipush (v := 31) dX12_endOf_10 (by decide) k) ?_
    refine es_br (c := (S.1 518 x2.toNatClampNeg) = 31) (tgt := 50) (pf := 15) (st' := []) (fun _ _ a b => e_icmp_eq dX12_endOf_12 rfl a b) (fun c10 => ?_) (fun c10 => ?_)
    · rw [if_pos c10] at hf
      refine es_l (pc' := 53) (ls' := [(0, .ref (w.2.1 + 503)), (2, .int x2)]) (st' := [.int (x2 + 1)]) (fun _ _ k => e_iload_n dX12_endOf_50 1 rfl (e_iconst (v := 1) dX12_endOf_51 (by decide) (e_iadd dX12_endOf_52 k))) ?_
      exact es_ireturn (ty := .int) dX12_endOf_53 rfl rfl hf
    · rw [if_neg c10] at hf
      refine es_l (pc' := 17) (ls' := [(0, .ref (w.2.1 + 503)), (2, .int x2)]) (st' := [.ref (w.2.1 + 503), .int x2]) (fun _ _ k => e_iload_n dX12_endOf_15 1 rfl (e_aload_n dX12_endOf_16 0 rfl k)) ?_
      refine es_get (v := .ref (w.2.1 + 518)) xc_12 dX12_endOf_17 fl_X12_85 (by decide) (by decide) (cel_503 _ _ _) rfl ?_
      refine es_l (pc' := 21) (ls' := [(0, .ref (w.2.1 + 503)), (2, .int x2)]) (st' := [.int x2, .ref (w.2.1 + 518), .int x2]) (fun _ _ k => e_iload_n dX12_endOf_20 1 rfl k) ?_
      refine es_iald (v := .int (S.1 518 x2.toNatClampNeg)) dX12_endOf_21 (by decide) (cel_518 _ _ _) g9 rfl ?_
      refine es_l (pc' := 23) (ls' := [(0, .ref (w.2.1 + 503)), (2, .int x2)]) (st' := [.int 4, .int (S.1 518 x2.toNatClampNeg), .int x2]) (fun _ _ k => e_iconst (v := 4) dX12_endOf_22 (by decide) k) ?_
      refine es_br (c := (S.1 518 x2.toNatClampNeg) = 4) (tgt := 26) (pf := 30) (st' := [.int x2]) (fun _ _ a b => e_icmp_ne dX12_endOf_23 rfl b a) (fun c11 => ?_) (fun c11 => ?_)
      · rw [if_pos c11] at hf
        refine es_l (pc' := 45) (ls' := [(0, .ref (w.2.1 + 503)), (2, .int x2)]) (st' := [.int 3, .int x2]) (fun _ _ k => e_iconst (v := 3) dX12_endOf_26 (by decide) (e_goto (tgt := 45) dX12_endOf_27 rfl k)) ?_
        refine es_sub [0] rfl ?_
        exact t_X12_endOf_45 N (f_X12_endOf_4 N n) ih 3 x2 S r hf
      · rw [if_neg c11] at hf
        refine es_l (pc' := 31) (ls' := [(0, .ref (w.2.1 + 503)), (2, .int x2)]) (st' := [.ref (w.2.1 + 503), .int x2]) (fun _ _ k => e_aload_n dX12_endOf_30 0 rfl k) ?_
        refine es_get (v := .ref (w.2.1 + 518)) xc_12 dX12_endOf_31 fl_X12_85 (by decide) (by decide) (cel_503 _ _ _) rfl ?_
        refine es_l (pc' := 35) (ls' := [(0, .ref (w.2.1 + 503)), (2, .int x2)]) (st' := [.int x2, .ref (w.2.1 + 518), .int x2]) (fun _ _ k => e_iload_n dX12_endOf_34 1 rfl k) ?_
        refine es_iald (v := .int (S.1 518 x2.toNatClampNeg)) dX12_endOf_35 (by decide) (cel_518 _ _ _) g9 rfl ?_
        refine es_l (pc' := 37) (ls' := [(0, .ref (w.2.1 + 503)), (2, .int x2)]) (st' := [.int 4, .int (S.1 518 x2.toNatClampNeg), .int x2]) (fun _ _ k => e_iconst (v := 4) dX12_endOf_36 (by decide) k) ?_
        refine es_br (c := 4 ≤ (S.1 518 x2.toNatClampNeg)) (tgt := 44) (pf := 40) (st' := [.int x2]) (fun _ _ a b => e_icmp_ge dX12_endOf_37 rfl a b) (fun c12 => ?_) (fun c12 => ?_)
        · rw [if_pos c12] at hf
          refine es_l (pc' := 45) (ls' := [(0, .ref (w.2.1 + 503)), (2, .int x2)]) (st' := [.int 1, .int x2]) (fun _ _ k => e_iconst (v := 1) dX12_endOf_44 (by decide) k) ?_
          refine es_sub [0] rfl ?_
          exact t_X12_endOf_45 N (f_X12_endOf_4 N n) ih 1 x2 S r hf
        · rw [if_neg c12] at hf
          refine es_l (pc' := 45) (ls' := [(0, .ref (w.2.1 + 503)), (2, .int x2)]) (st' := [.int 2, .int x2]) (fun _ _ k => e_iconst (v := 2) dX12_endOf_40 (by decide) (e_goto (tgt := 45) dX12_endOf_41 rfl k)) ?_
          refine es_sub [0] rfl ?_
          exact t_X12_endOf_45 N (f_X12_endOf_4 N n) ih 2 x2 S r hf
def f_X12_endOf (N : Nat) (x1 : Int32) (S : xS) : Option xr :=
  f_X12_endOf_4 N N (x1 + 4) S
set_option maxRecDepth 100000 in
set_option maxHeartbeats 4000000 in
theorem t_X12_endOf {l : Launch} {w : xW} {g : Nat → xE} (N : Nat) (x1 : Int32) (S : xS) (r : xr) (hf : f_X12_endOf N x1 S = some r) : ES l w g M_X12_endOf 0 (lv_args 0 [.ref (w.2.1 + 503), .int x1]) [] S r := by
  show ES l w g M_X12_endOf 0 [(0, .ref (w.2.1 + 503)), (1, .int x1)] [] S r
  unfold f_X12_endOf at hf
  refine es_l (pc' := 4) (ls' := [(2, .int (x1 + 4)), (0, .ref (w.2.1 + 503)), (1, .int x1)]) (st' := []) (fun _ _ k => e_iload_n dX12_endOf_0 1 rfl (e_iconst (v := 4) dX12_endOf_1 (by decide) (e_iadd dX12_endOf_2 (e_istore_n (ls' := [(2, .int (x1 + 4)), (0, .ref (w.2.1 + 503)), (1, .int x1)]) dX12_endOf_3 (by decide) rfl k)))) ?_
  refine es_sub [1, 0] rfl ?_
  exact t_X12_endOf_4 N N (x1 + 4) S r hf
def f_X12_eval_502 (N : Nat) (k18 : Int32 → Int32 → Int32 → Int32 → Int32 → Int32 → Int32 → Int32 → xS → Option xr) (x1 : Int32) (x2 : Int32) (x4 : Int32) (x5 : Int32) (x6 : Int32) (x7 : Int32) (x8 : Int32) (x9 : Int32) (S : xS) : Option xr :=
  k18 x1 x2 x4 x5 x6 x7 x8 x9 S
set_option maxRecDepth 100000 in
set_option maxHeartbeats 4000000 in
theorem t_X12_eval_502 {l : Launch} {w : xW} {g : Nat → xE} (N : Nat) (k18 : Int32 → Int32 → Int32 → Int32 → Int32 → Int32 → Int32 → Int32 → xS → Option xr) (hk18 : ∀ (x1 : Int32) (x2 : Int32) (x4 : Int32) (x5 : Int32) (x6 : Int32) (x7 : Int32) (x8 : Int32) (x9 : Int32) (S : xS) (r : xr), k18 x1 x2 x4 x5 x6 x7 x8 x9 S = some r → ES l w g M_X12_eval 18 [(0, .ref (w.2.1 + 503)), (1, .int x1), (2, .int x2), (4, .int x4), (5, .int x5), (6, .int x6), (7, .int x7), (8, .int x8), (9, .int x9)] [] S r) (x1 : Int32) (x2 : Int32) (x4 : Int32) (x5 : Int32) (x6 : Int32) (x7 : Int32) (x8 : Int32) (x9 : Int32) (S : xS) (r : xr) (hf : f_X12_eval_502 N k18 x1 x2 x4 x5 x6 x7 x8 x9 S = some r) : ES l w g M_X12_eval 502 [(0, .ref (w.2.1 + 503)), (1, .int x1), (2, .int x2), (4, .int x4), (5, .int x5), (6, .int x6), (7, .int x7), (8, .int x8), (9, .int x9)] [] S r := by
  unfold f_X12_eval_502 at hf
  refine es_l (pc' := 18) (ls' := [(0, .ref (w.2.1 + 503)), (1, .int x1), (2, .int x2), (4, .int x4), (5, .int x5), (6, .int x6), (7, .int x7), (8, .int x8), (9, .int x9)]) (st' := []) (fun _ _ k => e_goto (tgt := 18) dX12_eval_502 rfl k) ?_
  exact hk18 x1 x2 x4 x5 x6 x7 x8 x9 S r hf
def f_X12_eval_273 (N : Nat) (k18 : Int32 → Int32 → Int32 → Int32 → Int32 → Int32 → Int32 → Int32 → xS → Option xr) (x1 : Int32) (x2 : Int32) (x4 : Int32) (x5 : Int32) (x6 : Int32) (x7 : Int32) (x8 : Int32) (x9 : Int32) (s0 : Int32) (s1 : Int32) (S : xS) : Option xr :=
  if xin s1 200 then
  f_X12_eval_502 N k18 x1 x2 x4 (x5 + 1) x6 x7 x8 x9 (sI S 524 s1.toNatClampNeg s0)
  else none
set_option maxRecDepth 100000 in
set_option maxHeartbeats 4000000 in
theorem t_X12_eval_273 {l : Launch} {w : xW} {g : Nat → xE} (N : Nat) (k18 : Int32 → Int32 → Int32 → Int32 → Int32 → Int32 → Int32 → Int32 → xS → Option xr) (hk18 : ∀ (x1 : Int32) (x2 : Int32) (x4 : Int32) (x5 : Int32) (x6 : Int32) (x7 : Int32) (x8 : Int32) (x9 : Int32) (S : xS) (r : xr), k18 x1 x2 x4 x5 x6 x7 x8 x9 S = some r → ES l w g M_X12_eval 18 [(0, .ref (w.2.1 + 503)), (1, .int x1), (2, .int x2), (4, .int x4), (5, .int x5), (6, .int x6), (7, .int x7), (8, .int x8), (9, .int x9)] [] S r) (x1 : Int32) (x2 : Int32) (x4 : Int32) (x5 : Int32) (x6 : Int32) (x7 : Int32) (x8 : Int32) (x9 : Int32) (s0 : Int32) (s1 : Int32) (S : xS) (r : xr) (hf : f_X12_eval_273 N k18 x1 x2 x4 x5 x6 x7 x8 x9 s0 s1 S = some r) : ES l w g M_X12_eval 273 [(0, .ref (w.2.1 + 503)), (1, .int x1), (2, .int x2), (4, .int x4), (5, .int x5), (6, .int x6), (7, .int x7), (8, .int x8), (9, .int x9)] [.int s0, .int s1, .ref (w.2.1 + 524)] S r := by
  unfold f_X12_eval_273 at hf
  obtain ⟨g121, hf⟩ := xg hf
  refine es_iast dX12_eval_273 (by decide) (cel_524 _) g121 ?_
  refine es_l (pc' := 502) (ls' := [(5, .int (x5 + 1)), (0, .ref (w.2.1 + 503)), (1, .int x1), (2, .int x2), (4, .int x4), (6, .int x6), (7, .int x7), (8, .int x8), (9, .int x9)]) (st' := []) (fun _ _ k => e_iinc (v := x5 + 1) (ls' := [(5, .int (x5 + 1)), (0, .ref (w.2.1 + 503)), (1, .int x1), (2, .int x2), (4, .int x4), (6, .int x6), (7, .int x7), (8, .int x8), (9, .int x9)]) dX12_eval_274 4 rfl rfl (by decide) rfl (e_goto (tgt := 502) dX12_eval_277 rfl k)) ?_
  refine es_sub [1, 2, 3, 4, 0, 5, 6, 7, 8] rfl ?_
  exact t_X12_eval_502 N k18 hk18 x1 x2 x4 (x5 + 1) x6 x7 x8 x9 (sI S 524 s1.toNatClampNeg s0) r hf
def f_X12_eval_229 (N : Nat) (k18 : Int32 → Int32 → Int32 → Int32 → Int32 → Int32 → Int32 → Int32 → xS → Option xr) (x1 : Int32) (x2 : Int32) (x4 : Int32) (x5 : Int32) (x6 : Int32) (x7 : Int32) (x8 : Int32) (x9 : Int32) (x10 : Int32) (S : xS) : Option xr :=
  if x10 = 5 then
    if xin (x4 - 1) 200 then
    f_X12_eval_273 N k18 x1 x2 x4 x5 x6 x7 x8 x9 (-(S.1 524 ((x4 - 1).toNatClampNeg))) (x4 - 1) S
    else none
  else
    if xin (x4 - 1) 200 then
    if (S.1 524 ((x4 - 1).toNatClampNeg)) = 0 then
      f_X12_eval_273 N k18 x1 x2 x4 x5 x6 x7 x8 x9 1 (x4 - 1) S
    else
      f_X12_eval_273 N k18 x1 x2 x4 x5 x6 x7 x8 x9 0 (x4 - 1) S
    else none
set_option maxRecDepth 100000 in
set_option maxHeartbeats 4000000 in
theorem t_X12_eval_229 {l : Launch} {w : xW} {g : Nat → xE} (N : Nat) (k18 : Int32 → Int32 → Int32 → Int32 → Int32 → Int32 → Int32 → Int32 → xS → Option xr) (hk18 : ∀ (x1 : Int32) (x2 : Int32) (x4 : Int32) (x5 : Int32) (x6 : Int32) (x7 : Int32) (x8 : Int32) (x9 : Int32) (S : xS) (r : xr), k18 x1 x2 x4 x5 x6 x7 x8 x9 S = some r → ES l w g M_X12_eval 18 [(0, .ref (w.2.1 + 503)), (1, .int x1), (2, .int x2), (4, .int x4), (5, .int x5), (6, .int x6), (7, .int x7), (8, .int x8), (9, .int x9)] [] S r) (x1 : Int32) (x2 : Int32) (x4 : Int32) (x5 : Int32) (x6 : Int32) (x7 : Int32) (x8 : Int32) (x9 : Int32) (x10 : Int32) (S : xS) (r : xr) (hf : f_X12_eval_229 N k18 x1 x2 x4 x5 x6 x7 x8 x9 x10 S = some r) : ES l w g M_X12_eval 229 [(0, .ref (w.2.1 + 503)), (1, .int x1), (2, .int x2), (4, .int x4), (5, .int x5), (6, .int x6), (7, .int x7), (8, .int x8), (9, .int x9), (10, .int x10)] [] S r := by
  unfold f_X12_eval_229 at hf
  refine es_l (pc' := 230) (ls' := [(0, .ref (w.2.1 + 503)), (1, .int x1), (2, .int x2), (4, .int x4), (5, .int x5), (6, .int x6), (7, .int x7), (8, .int x8), (9, .int x9), (10, .int x10)]) (st' := [.ref (w.2.1 + 503)]) (fun _ _ k => e_aload_n dX12_eval_229 0 rfl k) ?_
  refine es_get (v := .ref (w.2.1 + 524)) xc_12 dX12_eval_230 fl_X12_124 (by decide) (by decide) (cel_503 _ _ _) rfl ?_
  refine es_l (pc' := 240) (ls' := [(0, .ref (w.2.1 + 503)), (1, .int x1), (2, .int x2), (4, .int x4), (5, .int x5), (6, .int x6), (7, .int x7), (8, .int x8), (9, .int x9), (10, .int x10)]) (st' := [.int 5, .int x10, .int (x4 - 1), .ref (w.2.1 + 524)]) (fun _ _ k => e_iload dX12_eval_233 3 rfl (e_iconst (v := 1) dX12_eval_235 (by decide) (e_isub dX12_eval_236 (e_iload dX12_eval_237 9 rfl (e_iconst (v := 5) dX12_eval_239 (by decide) k))))) ?_
  refine es_br (c := x10 = 5) (tgt := 243) (pf := 256) (st' := [.int (x4 - 1), .ref (w.2.1 + 524)]) (fun _ _ a b => e_icmp_ne dX12_eval_240 rfl b a) (fun c122 => ?_) (fun c122 => ?_)
  · rw [if_pos c122] at hf
    refine es_l (pc' := 244) (ls' := [(0, .ref (w.2.1 + 503)), (1, .int x1), (2, .int x2), (4, .int x4), (5, .int x5), (6, .int x6), (7, .int x7), (8, .int x8), (9, .int x9), (10, .int x10)]) (st' := [.ref (w.2.1 + 503), .int (x4 - 1), .ref (w.2.1 + 524)]) (fun _ _ k => e_aload_n dX12_eval_243 0 rfl k) ?_
    refine es_get (v := .ref (w.2.1 + 524)) xc_12 dX12_eval_244 fl_X12_124 (by decide) (by decide) (cel_503 _ _ _) rfl ?_
    refine es_l (pc' := 251) (ls' := [(0, .ref (w.2.1 + 503)), (1, .int x1), (2, .int x2), (4, .int x4), (5, .int x5), (6, .int x6), (7, .int x7), (8, .int x8), (9, .int x9), (10, .int x10)]) (st' := [.int (x4 - 1), .ref (w.2.1 + 524), .int (x4 - 1), .ref (w.2.1 + 524)]) (fun _ _ k => e_iload dX12_eval_247 3 rfl (e_iconst (v := 1) dX12_eval_249 (by decide) (e_isub dX12_eval_250 k))) ?_
    obtain ⟨g123, hf⟩ := xg hf
    refine es_iald (v := .int (S.1 524 ((x4 - 1).toNatClampNeg))) dX12_eval_251 (by decide) (cel_524 _ _ _) g123 rfl ?_
    refine es_l (pc' := 273) (ls' := [(0, .ref (w.2.1 + 503)), (1, .int x1), (2, .int x2), (4, .int x4), (5, .int x5), (6, .int x6), (7, .int x7), (8, .int x8), (9, .int x9), (10, .int x10)]) (st' := [.int (-(S.1 524 ((x4 - 1).toNatClampNeg))), .int (x4 - 1), .ref (w.2.1 + 524)]) (fun _ _ k => e_ineg dX12_eval_252 (e_goto (tgt := 273) dX12_eval_253 rfl k)) ?_
    refine es_sub [0, 1, 2, 3, 4, 5, 6, 7, 8] rfl ?_
    exact t_X12_eval_273 N k18 hk18 x1 x2 x4 x5 x6 x7 x8 x9 (-(S.1 524 ((x4 - 1).toNatClampNeg))) (x4 - 1) S r hf
  · rw [if_neg c122] at hf
    refine es_l (pc' := 257) (ls' := [(0, .ref (w.2.1 + 503)), (1, .int x1), (2, .int x2), (4, .int x4), (5, .int x5), (6, .int x6), (7, .int x7), (8, .int x8), (9, .int x9), (10, .int x10)]) (st' := [.ref (w.2.1 + 503), .int (x4 - 1), .ref (w.2.1 + 524)]) (fun _ _ k => e_aload_n dX12_eval_256 0 rfl k) ?_
    refine es_get (v := .ref (w.2.1 + 524)) xc_12 dX12_eval_257 fl_X12_124 (by decide) (by decide) (cel_503 _ _ _) rfl ?_
    refine es_l (pc' := 264) (ls' := [(0, .ref (w.2.1 + 503)), (1, .int x1), (2, .int x2), (4, .int x4), (5, .int x5), (6, .int x6), (7, .int x7), (8, .int x8), (9, .int x9), (10, .int x10)]) (st' := [.int (x4 - 1), .ref (w.2.1 + 524), .int (x4 - 1), .ref (w.2.1 + 524)]) (fun _ _ k => e_iload dX12_eval_260 3 rfl (e_iconst (v := 1) dX12_eval_262 (by decide) (e_isub dX12_eval_263 k))) ?_
    obtain ⟨g124, hf⟩ := xg hf
    refine es_iald (v := .int (S.1 524 ((x4 - 1).toNatClampNeg))) dX12_eval_264 (by decide) (cel_524 _ _ _) g124 rfl ?_
    refine es_br (c := (S.1 524 ((x4 - 1).toNatClampNeg)) = 0) (tgt := 268) (pf := 272) (st' := [.int (x4 - 1), .ref (w.2.1 + 524)]) (fun _ _ a b => e_if_ne dX12_eval_265 rfl b a) (fun c125 => ?_) (fun c125 => ?_)
    · rw [if_pos c125] at hf
      refine es_l (pc' := 273) (ls' := [(0, .ref (w.2.1 + 503)), (1, .int x1), (2, .int x2), (4, .int x4), (5, .int x5), (6, .int x6), (7, .int x7), (8, .int x8), (9, .int x9), (10, .int x10)]) (st' := [.int 1, .int (x4 - 1), .ref (w.2.1 + 524)]) (fun _ _ k => e_iconst (v := 1) dX12_eval_268 (by decide) (e_goto (tgt := 273) dX12_eval_269 rfl k)) ?_
      refine es_sub [0, 1, 2, 3, 4, 5, 6, 7, 8] rfl ?_
      exact t_X12_eval_273 N k18 hk18 x1 x2 x4 x5 x6 x7 x8 x9 1 (x4 - 1) S r hf
    · rw [if_neg c125] at hf
      refine es_l (pc' := 273) (ls' := [(0, .ref (w.2.1 + 503)), (1, .int x1), (2, .int x2), (4, .int x4), (5, .int x5), (6, .int x6), (7, .int x7), (8, .int x8), (9, .int x9), (10, .int x10)]) (st' := [.int 0, .int (x4 - 1), .ref (w.2.1 + 524)]) (fun _ _ k => e_iconst (v := 0) dX12_eval_272 (by decide) k) ?_
      refine es_sub [0, 1, 2, 3, 4, 5, 6, 7, 8] rfl ?_
      exact t_X12_eval_273 N k18 hk18 x1 x2 x4 x5 x6 x7 x8 x9 0 (x4 - 1) S r hf
def f_X12_eval_413 (N : Nat) (k18 : Int32 → Int32 → Int32 → Int32 → Int32 → Int32 → Int32 → Int32 → xS → Option xr) (x1 : Int32) (x2 : Int32) (x4 : Int32) (x5 : Int32) (x6 : Int32) (x7 : Int32) (x8 : Int32) (x9 : Int32) (S : xS) : Option xr :=
  if xin (x7 + 2) 3000 then
  xcI (f_X12_nextOf N (S.1 518 ((x7 + 2).toNatClampNeg)) (x6 + 1) S) (fun v128 S127 =>
  if 64 ≤ v128 then
    if xin x4 200 then
    f_X12_eval_502 N k18 x1 x2 (x4 + 1) (x5 + 1) v128 x7 x8 x9 (sI S127 524 x4.toNatClampNeg x8)
    else none
  else
    f_X12_eval_502 N k18 x1 x2 x4 (x7 + 4) v128 x7 x8 x9 S127
  )
  else none
set_option maxRecDepth 100000 in
set_option maxHeartbeats 4000000 in
theorem t_X12_eval_413 {l : Launch} {w : xW} {g : Nat → xE} (N : Nat) (k18 : Int32 → Int32 → Int32 → Int32 → Int32 → Int32 → Int32 → Int32 → xS → Option xr) (hk18 : ∀ (x1 : Int32) (x2 : Int32) (x4 : Int32) (x5 : Int32) (x6 : Int32) (x7 : Int32) (x8 : Int32) (x9 : Int32) (S : xS) (r : xr), k18 x1 x2 x4 x5 x6 x7 x8 x9 S = some r → ES l w g M_X12_eval 18 [(0, .ref (w.2.1 + 503)), (1, .int x1), (2, .int x2), (4, .int x4), (5, .int x5), (6, .int x6), (7, .int x7), (8, .int x8), (9, .int x9)] [] S r) (x1 : Int32) (x2 : Int32) (x4 : Int32) (x5 : Int32) (x6 : Int32) (x7 : Int32) (x8 : Int32) (x9 : Int32) (S : xS) (r : xr) (hf : f_X12_eval_413 N k18 x1 x2 x4 x5 x6 x7 x8 x9 S = some r) : ES l w g M_X12_eval 413 [(0, .ref (w.2.1 + 503)), (1, .int x1), (2, .int x2), (4, .int x4), (5, .int x5), (6, .int x6), (7, .int x7), (8, .int x8), (9, .int x9)] [] S r := by
  unfold f_X12_eval_413 at hf
  refine es_l (pc' := 415) (ls' := [(0, .ref (w.2.1 + 503)), (1, .int x1), (2, .int x2), (4, .int x4), (5, .int x5), (6, .int x6), (7, .int x7), (8, .int x8), (9, .int x9)]) (st' := [.ref (w.2.1 + 503), .ref (w.2.1 + 503)]) (fun _ _ k => e_aload_n dX12_eval_413 0 rfl (e_aload_n dX12_eval_414 0 rfl k)) ?_
  refine es_get (v := .ref (w.2.1 + 518)) xc_12 dX12_eval_415 fl_X12_85 (by decide) (by decide) (cel_503 _ _ _) rfl ?_
  refine es_l (pc' := 422) (ls' := [(0, .ref (w.2.1 + 503)), (1, .int x1), (2, .int x2), (4, .int x4), (5, .int x5), (6, .int x6), (7, .int x7), (8, .int x8), (9, .int x9)]) (st' := [.int (x7 + 2), .ref (w.2.1 + 518), .ref (w.2.1 + 503)]) (fun _ _ k => e_iload dX12_eval_418 6 rfl (e_iconst (v := 2) dX12_eval_420 (by decide) (e_iadd dX12_eval_421 k))) ?_
  obtain ⟨g126, hf⟩ := xg hf
  refine es_iald (v := .int (S.1 518 ((x7 + 2).toNatClampNeg))) dX12_eval_422 (by decide) (cel_518 _ _ _) g126 rfl ?_
  refine es_l (pc' := 427) (ls' := [(0, .ref (w.2.1 + 503)), (1, .int x1), (2, .int x2), (4, .int x4), (5, .int x5), (6, .int x6), (7, .int x7), (8, .int x8), (9, .int x9)]) (st' := [.int (x6 + 1), .int (S.1 518 ((x7 + 2).toNatClampNeg)), .ref (w.2.1 + 503)]) (fun _ _ k => e_iload dX12_eval_423 5 rfl (e_iconst (v := 1) dX12_eval_425 (by decide) (e_iadd dX12_eval_426 k))) ?_
  refine es_callVI (as := [.int (S.1 518 ((x7 + 2).toNatClampNeg)), .int (x6 + 1)]) (rest := []) hf xc_12 dX12_eval_427 cs_X12_eval_X12_nextOf ml_X12_373 im_X12_nextOf se_X12_nextOf rfl rfl (Nat.le_of_ble_eq_true rfl) (Nat.le_of_ble_eq_true rfl) (by decide) rfl (cel_503 _ _ _) (fun _ e => t_X12_nextOf N (S.1 518 ((x7 + 2).toNatClampNeg)) (x6 + 1) S _ e) (by decide) (fun v128 S127 hf => ?_)
  refine es_l (pc' := 436) (ls' := [(6, .int v128), (0, .ref (w.2.1 + 503)), (1, .int x1), (2, .int x2), (4, .int x4), (5, .int x5), (7, .int x7), (8, .int x8), (9, .int x9)]) (st' := [.int 64, .int v128]) (fun _ _ k => e_istore (ls' := [(6, .int v128), (0, .ref (w.2.1 + 503)), (1, .int x1), (2, .int x2), (4, .int x4), (5, .int x5), (7, .int x7), (8, .int x8), (9, .int x9)]) dX12_eval_430 (by decide) rfl (e_iload dX12_eval_432 0 rfl (e_bipush (v := 64) dX12_eval_434 (by decide) k))) ?_
  refine es_br (c := 64 ≤ v128) (tgt := 448) (pf := 439) (st' := []) (fun _ _ a b => e_icmp_ge dX12_eval_436 rfl a b) (fun c129 => ?_) (fun c129 => ?_)
  · rw [if_pos c129] at hf
    refine es_l (pc' := 449) (ls' := [(6, .int v128), (0, .ref (w.2.1 + 503)), (1, .int x1), (2, .int x2), (4, .int x4), (5, .int x5), (7, .int x7), (8, .int x8), (9, .int x9)]) (st' := [.ref (w.2.1 + 503)]) (fun _ _ k => e_aload_n dX12_eval_448 1 rfl k) ?_
    refine es_get (v := .ref (w.2.1 + 524)) xc_12 dX12_eval_449 fl_X12_124 (by decide) (by decide) (cel_503 _ _ _) rfl ?_
    refine es_l (pc' := 456) (ls' := [(6, .int v128), (0, .ref (w.2.1 + 503)), (1, .int x1), (2, .int x2), (4, .int x4), (5, .int x5), (7, .int x7), (8, .int x8), (9, .int x9)]) (st' := [.int x8, .int x4, .ref (w.2.1 + 524)]) (fun _ _ k => e_iload dX12_eval_452 4 rfl (e_iload dX12_eval_454 7 rfl k)) ?_
    obtain ⟨g130, hf⟩ := xg hf
    refine es_iast dX12_eval_456 (by decide) (cel_524 _) g130 ?_
    refine es_l (pc' := 502) (ls' := [(5, .int (x5 + 1)), (4, .int (x4 + 1)), (6, .int v128), (0, .ref (w.2.1 + 503)), (1, .int x1), (2, .int x2), (7, .int x7), (8, .int x8), (9, .int x9)]) (st' := []) (fun _ _ k => e_iinc (v := x4 + 1) (ls' := [(4, .int (x4 + 1)), (6, .int v128), (0, .ref (w.2.1 + 503)), (1, .int x1), (2, .int x2), (5, .int x5), (7, .int x7), (8, .int x8), (9, .int x9)]) dX12_eval_457 4 rfl rfl (by decide) rfl (e_iinc (v := x5 + 1) (ls' := [(5, .int (x5 + 1)), (4, .int (x4 + 1)), (6, .int v128), (0, .ref (w.2.1 + 503)), (1, .int x1), (2, .int x2), (7, .int x7), (8, .int x8), (9, .int x9)]) dX12_eval_460 5 rfl rfl (by decide) rfl (e_goto (tgt := 502) dX12_eval_463 rfl k))) ?_
    refine es_sub [3, 4, 5, 1, 0, 2, 6, 7, 8] rfl ?_
    exact t_X12_eval_502 N k18 hk18 x1 x2 (x4 + 1) (x5 + 1) v128 x7 x8 x9 (sI S127 524 x4.toNatClampNeg x8) r hf
  · rw [if_neg c129] at hf
    refine es_l (pc' := 502) (ls' := [(5, .int (x7 + 4)), (6, .int v128), (0, .ref (w.2.1 + 503)), (1, .int x1), (2, .int x2), (4, .int x4), (7, .int x7), (8, .int x8), (9, .int x9)]) (st' := []) (fun _ _ k => e_iload dX12_eval_439 6 rfl (e_iconst (v := 4) dX12_eval_441 (by decide) (e_iadd dX12_eval_442 (e_istore (ls' := [(5, .int (x7 + 4)), (6, .int v128), (0, .ref (w.2.1 + 503)), (1, .int x1), (2, .int x2), (4, .int x4), (7, .int x7), (8, .int x8), (9, .int x9)]) dX12_eval_443 (by decide) rfl (e_goto (tgt := 502) dX12_eval_445 rfl k))))) ?_
    refine es_sub [2, 3, 4, 5, 0, 1, 6, 7, 8] rfl ?_
    exact t_X12_eval_502 N k18 hk18 x1 x2 x4 (x7 + 4) v128 x7 x8 x9 S127 r hf
def f_X12_eval_333 (N : Nat) (k18 : Int32 → Int32 → Int32 → Int32 → Int32 → Int32 → Int32 → Int32 → xS → Option xr) (x1 : Int32) (x2 : Int32) (x4 : Int32) (x6 : Int32) (x7 : Int32) (x8 : Int32) (x9 : Int32) (s0 : Int32) (S : xS) : Option xr :=
  if x6 = 64 then
    if xin x4 200 then
    f_X12_eval_502 N k18 x1 x2 (x4 + 1) s0 x6 x7 x8 x9 (sI S 524 x4.toNatClampNeg 0)
    else none
  else
    f_X12_eval_502 N k18 x1 x2 x4 s0 x6 x7 x8 x9 S
set_option maxRecDepth 100000 in
set_option maxHeartbeats 4000000 in
theorem t_X12_eval_333 {l : Launch} {w : xW} {g : Nat → xE} (N : Nat) (k18 : Int32 → Int32 → Int32 → Int32 → Int32 → Int32 → Int32 → Int32 → xS → Option xr) (hk18 : ∀ (x1 : Int32) (x2 : Int32) (x4 : Int32) (x5 : Int32) (x6 : Int32) (x7 : Int32) (x8 : Int32) (x9 : Int32) (S : xS) (r : xr), k18 x1 x2 x4 x5 x6 x7 x8 x9 S = some r → ES l w g M_X12_eval 18 [(0, .ref (w.2.1 + 503)), (1, .int x1), (2, .int x2), (4, .int x4), (5, .int x5), (6, .int x6), (7, .int x7), (8, .int x8), (9, .int x9)] [] S r) (x1 : Int32) (x2 : Int32) (x4 : Int32) (x6 : Int32) (x7 : Int32) (x8 : Int32) (x9 : Int32) (s0 : Int32) (S : xS) (r : xr) (hf : f_X12_eval_333 N k18 x1 x2 x4 x6 x7 x8 x9 s0 S = some r) : ES l w g M_X12_eval 333 [(0, .ref (w.2.1 + 503)), (1, .int x1), (2, .int x2), (4, .int x4), (6, .int x6), (7, .int x7), (8, .int x8), (9, .int x9)] [.int s0] S r := by
  unfold f_X12_eval_333 at hf
  refine es_l (pc' := 339) (ls' := [(5, .int s0), (0, .ref (w.2.1 + 503)), (1, .int x1), (2, .int x2), (4, .int x4), (6, .int x6), (7, .int x7), (8, .int x8), (9, .int x9)]) (st' := [.int 64, .int x6]) (fun _ _ k => e_istore (ls' := [(5, .int s0), (0, .ref (w.2.1 + 503)), (1, .int x1), (2, .int x2), (4, .int x4), (6, .int x6), (7, .int x7), (8, .int x8), (9, .int x9)]) dX12_eval_333 (by decide) rfl (e_iload dX12_eval_335 5 rfl (e_bipush (v := 64) dX12_eval_337 (by decide) k))) ?_
  refine es_br (c := x6 = 64) (tgt := 342) (pf := 502) (st' := []) (fun _ _ a b => e_icmp_ne dX12_eval_339 rfl b a) (fun c131 => ?_) (fun c131 => ?_)
  · rw [if_pos c131] at hf
    refine es_l (pc' := 343) (ls' := [(5, .int s0), (0, .ref (w.2.1 + 503)), (1, .int x1), (2, .int x2), (4, .int x4), (6, .int x6), (7, .int x7), (8, .int x8), (9, .int x9)]) (st' := [.ref (w.2.1 + 503)]) (fun _ _ k => e_aload_n dX12_eval_342 1 rfl k) ?_
    refine es_get (v := .ref (w.2.1 + 524)) xc_12 dX12_eval_343 fl_X12_124 (by decide) (by decide) (cel_503 _ _ _) rfl ?_
    refine es_l (pc' := 349) (ls' := [(5, .int s0), (0, .ref (w.2.1 + 503)), (1, .int x1), (2, .int x2), (4, .int x4), (6, .int x6), (7, .int x7), (8, .int x8), (9, .int x9)]) (st' := [.int 0, .int x4, .ref (w.2.1 + 524)]) (fun _ _ k => e_iload dX12_eval_346 4 rfl (e_iconst (v := 0) dX12_eval_348 (by decide) k)) ?_
    obtain ⟨g132, hf⟩ := xg hf
    refine es_iast dX12_eval_349 (by decide) (cel_524 _) g132 ?_
    refine es_l (pc' := 502) (ls' := [(4, .int (x4 + 1)), (5, .int s0), (0, .ref (w.2.1 + 503)), (1, .int x1), (2, .int x2), (6, .int x6), (7, .int x7), (8, .int x8), (9, .int x9)]) (st' := []) (fun _ _ k => e_iinc (v := x4 + 1) (ls' := [(4, .int (x4 + 1)), (5, .int s0), (0, .ref (w.2.1 + 503)), (1, .int x1), (2, .int x2), (6, .int x6), (7, .int x7), (8, .int x8), (9, .int x9)]) dX12_eval_350 4 rfl rfl (by decide) rfl (e_goto (tgt := 502) dX12_eval_353 rfl k)) ?_
    refine es_sub [2, 3, 4, 0, 1, 5, 6, 7, 8] rfl ?_
    exact t_X12_eval_502 N k18 hk18 x1 x2 (x4 + 1) s0 x6 x7 x8 x9 (sI S 524 x4.toNatClampNeg 0) r hf
  · rw [if_neg c131] at hf
    refine es_sub [1, 2, 3, 4, 0, 5, 6, 7, 8] rfl ?_
    exact t_X12_eval_502 N k18 hk18 x1 x2 x4 s0 x6 x7 x8 x9 S r hf
def f_X12_eval_206 (N : Nat) (k18 : Int32 → Int32 → Int32 → Int32 → Int32 → Int32 → Int32 → Int32 → xS → Option xr) (x1 : Int32) (x2 : Int32) (x4 : Int32) (x5 : Int32) (x6 : Int32) (x7 : Int32) (x8 : Int32) (x9 : Int32) (s0 : Int32) (s1 : Int32) (S : xS) : Option xr :=
  if xin s1 200 then
  f_X12_eval_502 N k18 x1 x2 (x4 + 1) (x5 + 3) x6 x7 x8 x9 (sI S 524 s1.toNatClampNeg s0)
  else none
set_option maxRecDepth 100000 in
set_option maxHeartbeats 4000000 in
theorem t_X12_eval_206 {l : Launch} {w : xW} {g : Nat → xE} (N : Nat) (k18 : Int32 → Int32 → Int32 → Int32 → Int32 → Int32 → Int32 → Int32 → xS → Option xr) (hk18 : ∀ (x1 : Int32) (x2 : Int32) (x4 : Int32) (x5 : Int32) (x6 : Int32) (x7 : Int32) (x8 : Int32) (x9 : Int32) (S : xS) (r : xr), k18 x1 x2 x4 x5 x6 x7 x8 x9 S = some r → ES l w g M_X12_eval 18 [(0, .ref (w.2.1 + 503)), (1, .int x1), (2, .int x2), (4, .int x4), (5, .int x5), (6, .int x6), (7, .int x7), (8, .int x8), (9, .int x9)] [] S r) (x1 : Int32) (x2 : Int32) (x4 : Int32) (x5 : Int32) (x6 : Int32) (x7 : Int32) (x8 : Int32) (x9 : Int32) (s0 : Int32) (s1 : Int32) (S : xS) (r : xr) (hf : f_X12_eval_206 N k18 x1 x2 x4 x5 x6 x7 x8 x9 s0 s1 S = some r) : ES l w g M_X12_eval 206 [(0, .ref (w.2.1 + 503)), (1, .int x1), (2, .int x2), (4, .int x4), (5, .int x5), (6, .int x6), (7, .int x7), (8, .int x8), (9, .int x9)] [.int s0, .int s1, .ref (w.2.1 + 524)] S r := by
  unfold f_X12_eval_206 at hf
  obtain ⟨g133, hf⟩ := xg hf
  refine es_iast dX12_eval_206 (by decide) (cel_524 _) g133 ?_
  refine es_l (pc' := 502) (ls' := [(5, .int (x5 + 3)), (4, .int (x4 + 1)), (0, .ref (w.2.1 + 503)), (1, .int x1), (2, .int x2), (6, .int x6), (7, .int x7), (8, .int x8), (9, .int x9)]) (st' := []) (fun _ _ k => e_iinc (v := x4 + 1) (ls' := [(4, .int (x4 + 1)), (0, .ref (w.2.1 + 503)), (1, .int x1), (2, .int x2), (5, .int x5), (6, .int x6), (7, .int x7), (8, .int x8), (9, .int x9)]) dX12_eval_207 3 rfl rfl (by decide) rfl (e_iinc (v := x5 + 3) (ls' := [(5, .int (x5 + 3)), (4, .int (x4 + 1)), (0, .ref (w.2.1 + 503)), (1, .int x1), (2, .int x2), (6, .int x6), (7, .int x7), (8, .int x8), (9, .int x9)]) dX12_eval_210 4 rfl rfl (by decide) rfl (e_goto (tgt := 502) dX12_eval_213 rfl k))) ?_
  refine es_sub [2, 3, 4, 1, 0, 5, 6, 7, 8] rfl ?_
  exact t_X12_eval_502 N k18 hk18 x1 x2 (x4 + 1) (x5 + 3) x6 x7 x8 x9 (sI S 524 s1.toNatClampNeg s0) r hf
def f_X12_eval_18 (N : Nat)  : Nat → Int32 → Int32 → Int32 → Int32 → Int32 → Int32 → Int32 → Int32 → xS → Option xr
  | 0, _, _, _, _, _, _, _, _, _ => none
  | n + 1, x1, x2, x4, x5, x6, x7, x8, x9, S =>
  if (x1 + x2) ≤ x5 then
    if xin 0 200 then
    some (.inl (some (.inl (S.1 524 ((0 : Int32).toNatClampNeg)))), S)
    else none
  else
    if xin x5 3000 then
    if (S.1 518 x5.toNatClampNeg) = 1 then
      if xin (x5 + 1) 3000 then
      if xin x4 200 then
      f_X12_eval_502 N (f_X12_eval_18 N n) x1 x2 (x4 + 1) (x5 + 2) x6 x7 x8 x9 (sI S 524 x4.toNatClampNeg (S.1 518 ((x5 + 1).toNatClampNeg)))
      else none
      else none
    else
      if (S.1 518 x5.toNatClampNeg) = 2 then
        if xin (x5 + 1) 3000 then
        if xin (S.1 518 ((x5 + 1).toNatClampNeg)) 20 then
        if xin x4 200 then
        f_X12_eval_502 N (f_X12_eval_18 N n) x1 x2 (x4 + 1) (x5 + 2) x6 x7 x8 x9 (sI S 524 x4.toNatClampNeg (S.1 510 ((S.1 518 ((x5 + 1).toNatClampNeg)).toNatClampNeg)))
        else none
        else none
        else none
      else
        if (S.1 518 x5.toNatClampNeg) = 3 then
          if xin (x5 + 1) 3000 then
          xcI (f_X12_valueOf N x6 (S.1 518 ((x5 + 1).toNatClampNeg)) S) (fun v147 S146 =>
          if xin x4 200 then
          f_X12_eval_502 N (f_X12_eval_18 N n) x1 x2 (x4 + 1) (x5 + 2) x6 x7 x8 x9 (sI S146 524 x4.toNatClampNeg v147)
          else none
          )
          else none
        else
          if (S.1 518 x5.toNatClampNeg) = 4 then
            if xin (x5 + 1) 3000 then
            xcI (f_X12_cursorThere N (S.1 518 ((x5 + 1).toNatClampNeg)) S) (fun v152 S151 =>
            if v152 = 0 then
              f_X12_eval_206 N (f_X12_eval_18 N n) x1 x2 x4 x5 x6 x7 x8 x9 0 x4 S151
            else
              if xin (S.1 518 ((x5 + 1).toNatClampNeg)) 12 then
              if xin ((64 * (S.1 518 ((x5 + 1).toNatClampNeg))) + (S151.1 529 ((S.1 518 ((x5 + 1).toNatClampNeg)).toNatClampNeg))) 768 then
              if xin (x5 + 2) 3000 then
              xcI (f_X12_valueOf N (S151.1 526 (((64 * (S.1 518 ((x5 + 1).toNatClampNeg))) + (S151.1 529 ((S.1 518 ((x5 + 1).toNatClampNeg)).toNatClampNeg))).toNatClampNeg)) (S151.1 518 ((x5 + 2).toNatClampNeg)) S151) (fun v158 S157 =>
              f_X12_eval_206 N (f_X12_eval_18 N n) x1 x2 x4 x5 x6 x7 x8 x9 v158 x4 S157
              )
              else none
              else none
              else none
            )
            else none
          else
            if (S.1 518 x5.toNatClampNeg) = 5 then
              f_X12_eval_229 N (f_X12_eval_18 N n) x1 x2 x4 x5 x6 x7 x8 x9 (S.1 518 x5.toNatClampNeg) S
            else
              if (S.1 518 x5.toNatClampNeg) = 6 then
                f_X12_eval_229 N (f_X12_eval_18 N n) x1 x2 x4 x5 x6 x7 x8 x9 (S.1 518 x5.toNatClampNeg) S
              else
                if (S.1 518 x5.toNatClampNeg) = 30 then
                  if xin (x5 + 2) 3000 then
                  xcI (f_X12_nextOf N (S.1 518 ((x5 + 2).toNatClampNeg)) 0 S) (fun v164 S163 =>
                  if 64 ≤ v164 then
                    xcI (f_X12_endOf N x5 S163) (fun v167 S166 =>
                    f_X12_eval_333 N (f_X12_eval_18 N n) x1 x2 x4 v164 x5 0 0 v167 S166
                    )
                  else
                    f_X12_eval_333 N (f_X12_eval_18 N n) x1 x2 x4 v164 x5 0 0 (x5 + 4) S163
                  )
                  else none
                else
                  if (S.1 518 x5.toNatClampNeg) = 31 then
                    if xin (x4 + (-1)) 200 then
                    if (S.1 524 ((x4 + (-1)).toNatClampNeg)) = 0 then
                      f_X12_eval_413 N (f_X12_eval_18 N n) x1 x2 (x4 + (-1)) x5 x6 x7 x8 x9 S
                    else
                      if xin (x7 + 1) 3000 then
                      if xin (x7 + 3) 3000 then
                      xcI (f_X12_valueOf N x6 (S.1 518 ((x7 + 3).toNatClampNeg)) S) (fun v174 S173 =>
                      xcI (f_X12_aggregated N (S.1 518 ((x7 + 1).toNatClampNeg)) x8 x9 v174 S173) (fun v176 S175 =>
                      f_X12_eval_413 N (f_X12_eval_18 N n) x1 x2 (x4 + (-1)) x5 x6 x7 v176 (x9 + 1) S175
                      )
                      )
                      else none
                      else none
                    else none
                  else
                    if xin ((x4 + (-1)) - 1) 200 then
                    if xin (x4 + (-1)) 200 then
                    xcI (f_X12_operate N (S.1 518 x5.toNatClampNeg) (S.1 524 (((x4 + (-1)) - 1).toNatClampNeg)) (S.1 524 ((x4 + (-1)).toNatClampNeg)) S) (fun v180 S179 =>
                    f_X12_eval_502 N (f_X12_eval_18 N n) x1 x2 (x4 + (-1)) (x5 + 1) x6 x7 x8 x9 (sI S179 524 (((x4 + (-1)) - 1).toNatClampNeg) v180)
                    )
                    else none
                    else none
    else none
set_option maxRecDepth 100000 in
set_option maxHeartbeats 4000000 in
theorem t_X12_eval_18 {l : Launch} {w : xW} {g : Nat → xE} (N : Nat)   : ∀ (n : Nat) (x1 : Int32) (x2 : Int32) (x4 : Int32) (x5 : Int32) (x6 : Int32) (x7 : Int32) (x8 : Int32) (x9 : Int32) (S : xS) (r : xr), f_X12_eval_18 N  n x1 x2 x4 x5 x6 x7 x8 x9 S = some r → ES l w g M_X12_eval 18 [(0, .ref (w.2.1 + 503)), (1, .int x1), (2, .int x2), (4, .int x4), (5, .int x5), (6, .int x6), (7, .int x7), (8, .int x8), (9, .int x9)] [] S r := by
  intro n
  induction n with
  | zero => intro x1 x2 x4 x5 x6 x7 x8 x9 S r hf; cases hf
  | succ n ih =>
    intro x1 x2 x4 x5 x6 x7 x8 x9 S r hf
    rw [f_X12_eval_18.eq_2] at hf
    refine es_l (pc' := 23) (ls' := [(0, .ref (w.2.1 + 503)), (1, .int x1), (2, .int x2), (4, .int x4), (5, .int x5), (6, .int x6), (7, .int x7), (8, .int x8), (9, .int x9)]) (st' := [.int (x1 + x2), .int x5]) (fun _ _ k => e_iload dX12_eval_18 4 rfl (e_iload_n dX12_eval_20 1 rfl (e_iload_n dX12_eval_21 2 rfl (e_iadd dX12_eval_22 k)))) ?_
    refine es_br (c := (x1 + x2) ≤ x5) (tgt := 505) (pf := 26) (st' := []) (fun _ _ a b => e_icmp_ge dX12_eval_23 rfl a b) (fun c134 => ?_) (fun c134 => ?_)
    · rw [if_pos c134] at hf
      refine es_l (pc' := 506) (ls' := [(0, .ref (w.2.1 + 503)), (1, .int x1), (2, .int x2), (4, .int x4), (5, .int x5), (6, .int x6), (7, .int x7), (8, .int x8), (9, .int x9)]) (st' := [.ref (w.2.1 + 503)]) (fun _ _ k => e_aload_n dX12_eval_505 0 rfl k) ?_
      refine es_get (v := .ref (w.2.1 + 524)) xc_12 dX12_eval_506 fl_X12_124 (by decide) (by decide) (cel_503 _ _ _) rfl ?_
      refine es_l (pc' := 510) (ls' := [(0, .ref (w.2.1 + 503)), (1, .int x1), (2, .int x2), (4, .int x4), (5, .int x5), (6, .int x6), (7, .int x7), (8, .int x8), (9, .int x9)]) (st' := [.int 0, .ref (w.2.1 + 524)]) (fun _ _ k => e_iconst (v := 0) dX12_eval_509 (by decide) k) ?_
      obtain ⟨g135, hf⟩ := xg hf
      refine es_iald (v := .int (S.1 524 ((0 : Int32).toNatClampNeg))) dX12_eval_510 (by decide) (cel_524 _ _ _) g135 rfl ?_
      exact es_ireturn (ty := .int) dX12_eval_511 rfl rfl hf
    · rw [if_neg c134] at hf
      refine es_l (pc' := 27) (ls' := [(0, .ref (w.2.1 + 503)), (1, .int x1), (2, .int x2), (4, .int x4), (5, .int x5), (6, .int x6), (7, .int x7), (8, .int x8), (9, .int x9)]) (st' := [.ref (w.2.1 + 503)]) (fun _ _ k => e_aload_n dX12_eval_26 0 rfl k) ?_
      refine es_get (v := .ref (w.2.1 + 518)) xc_12 dX12_eval_27 fl_X12_85 (by decide) (by decide) (cel_503 _ _ _) rfl ?_
      refine es_l (pc' := 32) (ls' := [(0, .ref (w.2.1 + 503)), (1, .int x1), (2, .int x2), (4, .int x4), (5, .int x5), (6, .int x6), (7, .int x7), (8, .int x8), (9, .int x9)]) (st' := [.int x5, .ref (w.2.1 + 518)]) (fun _ _ k => e_iload dX12_eval_30 4 rfl k) ?_
      obtain ⟨g136, hf⟩ := xg hf
      refine es_iald (v := .int (S.1 518 x5.toNatClampNeg)) dX12_eval_32 (by decide) (cel_518 _ _ _) g136 rfl ?_
      refine es_l (pc' := 38) (ls' := [(10, .int (S.1 518 x5.toNatClampNeg)), (0, .ref (w.2.1 + 503)), (1, .int x1), (2, .int x2), (4, .int x4), (5, .int x5), (6, .int x6), (7, .int x7), (8, .int x8), (9, .int x9)]) (st' := [.int 1, .int (S.1 518 x5.toNatClampNeg)]) (fun _ _ k => e_istore (ls' := [(10, .int (S.1 518 x5.toNatClampNeg)), (0, .ref (w.2.1 + 503)), (1, .int x1), (2, .int x2), (4, .int x4), (5, .int x5), (6, .int x6), (7, .int x7), (8, .int x8), (9, .int x9)]) dX12_eval_33 (by decide) rfl (e_iload dX12_eval_35 0 rfl (e_iconst (v := 1) dX12_eval_37 (by decide) k))) ?_
      refine es_br (c := (S.1 518 x5.toNatClampNeg) = 1) (tgt := 41) (pf := 66) (st' := []) (fun _ _ a b => e_icmp_ne dX12_eval_38 rfl b a) (fun c137 => ?_) (fun c137 => ?_)
      · rw [if_pos c137] at hf
        refine es_l (pc' := 42) (ls' := [(10, .int (S.1 518 x5.toNatClampNeg)), (0, .ref (w.2.1 + 503)), (1, .int x1), (2, .int x2), (4, .int x4), (5, .int x5), (6, .int x6), (7, .int x7), (8, .int x8), (9, .int x9)]) (st' := [.ref (w.2.1 + 503)]) (fun _ _ k => e_aload_n dX12_eval_41 1 rfl k) ?_
        refine es_get (v := .ref (w.2.1 + 524)) xc_12 dX12_eval_42 fl_X12_124 (by decide) (by decide) (cel_503 _ _ _) rfl ?_
        refine es_l (pc' := 48) (ls' := [(10, .int (S.1 518 x5.toNatClampNeg)), (0, .ref (w.2.1 + 503)), (1, .int x1), (2, .int x2), (4, .int x4), (5, .int x5), (6, .int x6), (7, .int x7), (8, .int x8), (9, .int x9)]) (st' := [.ref (w.2.1 + 503), .int x4, .ref (w.2.1 + 524)]) (fun _ _ k => e_iload dX12_eval_45 4 rfl (e_aload_n dX12_eval_47 1 rfl k)) ?_
        refine es_get (v := .ref (w.2.1 + 518)) xc_12 dX12_eval_48 fl_X12_85 (by decide) (by decide) (cel_503 _ _ _) rfl ?_
        refine es_l (pc' := 55) (ls' := [(10, .int (S.1 518 x5.toNatClampNeg)), (0, .ref (w.2.1 + 503)), (1, .int x1), (2, .int x2), (4, .int x4), (5, .int x5), (6, .int x6), (7, .int x7), (8, .int x8), (9, .int x9)]) (st' := [.int (x5 + 1), .ref (w.2.1 + 518), .int x4, .ref (w.2.1 + 524)]) (fun _ _ k => e_iload dX12_eval_51 5 rfl (e_iconst (v := 1) dX12_eval_53 (by decide) (e_iadd dX12_eval_54 k))) ?_
        obtain ⟨g138, hf⟩ := xg hf
        refine es_iald (v := .int (S.1 518 ((x5 + 1).toNatClampNeg))) dX12_eval_55 (by decide) (cel_518 _ _ _) g138 rfl ?_
        obtain ⟨g139, hf⟩ := xg hf
        refine es_iast dX12_eval_56 (by decide) (cel_524 _) g139 ?_
        refine es_l (pc' := 502) (ls' := [(5, .int (x5 + 2)), (4, .int (x4 + 1)), (10, .int (S.1 518 x5.toNatClampNeg)), (0, .ref (w.2.1 + 503)), (1, .int x1), (2, .int x2), (6, .int x6), (7, .int x7), (8, .int x8), (9, .int x9)]) (st' := []) (fun _ _ k => e_iinc (v := x4 + 1) (ls' := [(4, .int (x4 + 1)), (10, .int (S.1 518 x5.toNatClampNeg)), (0, .ref (w.2.1 + 503)), (1, .int x1), (2, .int x2), (5, .int x5), (6, .int x6), (7, .int x7), (8, .int x8), (9, .int x9)]) dX12_eval_57 4 rfl rfl (by decide) rfl (e_iinc (v := x5 + 2) (ls' := [(5, .int (x5 + 2)), (4, .int (x4 + 1)), (10, .int (S.1 518 x5.toNatClampNeg)), (0, .ref (w.2.1 + 503)), (1, .int x1), (2, .int x2), (6, .int x6), (7, .int x7), (8, .int x8), (9, .int x9)]) dX12_eval_60 5 rfl rfl (by decide) rfl (e_goto (tgt := 502) dX12_eval_63 rfl k))) ?_
        refine es_sub [3, 4, 5, 1, 0, 6, 7, 8, 9] rfl ?_
        exact t_X12_eval_502 N (f_X12_eval_18 N n) ih x1 x2 (x4 + 1) (x5 + 2) x6 x7 x8 x9 (sI S 524 x4.toNatClampNeg (S.1 518 ((x5 + 1).toNatClampNeg))) r hf
      · rw [if_neg c137] at hf
        refine es_l (pc' := 69) (ls' := [(10, .int (S.1 518 x5.toNatClampNeg)), (0, .ref (w.2.1 + 503)), (1, .int x1), (2, .int x2), (4, .int x4), (5, .int x5), (6, .int x6), (7, .int x7), (8, .int x8), (9, .int x9)]) (st' := [.int 2, .int (S.1 518 x5.toNatClampNeg)]) (fun _ _ k => e_iload dX12_eval_66 0 rfl (e_iconst (v := 2) dX12_eval_68 (by decide) k)) ?_
        refine es_br (c := (S.1 518 x5.toNatClampNeg) = 2) (tgt := 72) (pf := 102) (st' := []) (fun _ _ a b => e_icmp_ne dX12_eval_69 rfl b a) (fun c140 => ?_) (fun c140 => ?_)
        · rw [if_pos c140] at hf
          refine es_l (pc' := 73) (ls' := [(10, .int (S.1 518 x5.toNatClampNeg)), (0, .ref (w.2.1 + 503)), (1, .int x1), (2, .int x2), (4, .int x4), (5, .int x5), (6, .int x6), (7, .int x7), (8, .int x8), (9, .int x9)]) (st' := [.ref (w.2.1 + 503)]) (fun _ _ k => e_aload_n dX12_eval_72 1 rfl k) ?_
          refine es_get (v := .ref (w.2.1 + 524)) xc_12 dX12_eval_73 fl_X12_124 (by decide) (by decide) (cel_503 _ _ _) rfl ?_
          refine es_l (pc' := 79) (ls' := [(10, .int (S.1 518 x5.toNatClampNeg)), (0, .ref (w.2.1 + 503)), (1, .int x1), (2, .int x2), (4, .int x4), (5, .int x5), (6, .int x6), (7, .int x7), (8, .int x8), (9, .int x9)]) (st' := [.ref (w.2.1 + 503), .int x4, .ref (w.2.1 + 524)]) (fun _ _ k => e_iload dX12_eval_76 4 rfl (e_aload_n dX12_eval_78 1 rfl k)) ?_
          refine es_get (v := .ref (w.2.1 + 510)) xc_12 dX12_eval_79 fl_X12_42 (by decide) (by decide) (cel_503 _ _ _) rfl ?_
          refine es_l (pc' := 83) (ls' := [(10, .int (S.1 518 x5.toNatClampNeg)), (0, .ref (w.2.1 + 503)), (1, .int x1), (2, .int x2), (4, .int x4), (5, .int x5), (6, .int x6), (7, .int x7), (8, .int x8), (9, .int x9)]) (st' := [.ref (w.2.1 + 503), .ref (w.2.1 + 510), .int x4, .ref (w.2.1 + 524)]) (fun _ _ k => e_aload_n dX12_eval_82 1 rfl k) ?_
          refine es_get (v := .ref (w.2.1 + 518)) xc_12 dX12_eval_83 fl_X12_85 (by decide) (by decide) (cel_503 _ _ _) rfl ?_
          refine es_l (pc' := 90) (ls' := [(10, .int (S.1 518 x5.toNatClampNeg)), (0, .ref (w.2.1 + 503)), (1, .int x1), (2, .int x2), (4, .int x4), (5, .int x5), (6, .int x6), (7, .int x7), (8, .int x8), (9, .int x9)]) (st' := [.int (x5 + 1), .ref (w.2.1 + 518), .ref (w.2.1 + 510), .int x4, .ref (w.2.1 + 524)]) (fun _ _ k => e_iload dX12_eval_86 5 rfl (e_iconst (v := 1) dX12_eval_88 (by decide) (e_iadd dX12_eval_89 k))) ?_
          obtain ⟨g141, hf⟩ := xg hf
          refine es_iald (v := .int (S.1 518 ((x5 + 1).toNatClampNeg))) dX12_eval_90 (by decide) (cel_518 _ _ _) g141 rfl ?_
          obtain ⟨g142, hf⟩ := xg hf
          refine es_iald (v := .int (S.1 510 ((S.1 518 ((x5 + 1).toNatClampNeg)).toNatClampNeg))) dX12_eval_91 (by decide) (cel_510 _ _ _) g142 rfl ?_
          obtain ⟨g143, hf⟩ := xg hf
          refine es_iast dX12_eval_92 (by decide) (cel_524 _) g143 ?_
          refine es_l (pc' := 502) (ls' := [(5, .int (x5 + 2)), (4, .int (x4 + 1)), (10, .int (S.1 518 x5.toNatClampNeg)), (0, .ref (w.2.1 + 503)), (1, .int x1), (2, .int x2), (6, .int x6), (7, .int x7), (8, .int x8), (9, .int x9)]) (st' := []) (fun _ _ k => e_iinc (v := x4 + 1) (ls' := [(4, .int (x4 + 1)), (10, .int (S.1 518 x5.toNatClampNeg)), (0, .ref (w.2.1 + 503)), (1, .int x1), (2, .int x2), (5, .int x5), (6, .int x6), (7, .int x7), (8, .int x8), (9, .int x9)]) dX12_eval_93 4 rfl rfl (by decide) rfl (e_iinc (v := x5 + 2) (ls' := [(5, .int (x5 + 2)), (4, .int (x4 + 1)), (10, .int (S.1 518 x5.toNatClampNeg)), (0, .ref (w.2.1 + 503)), (1, .int x1), (2, .int x2), (6, .int x6), (7, .int x7), (8, .int x8), (9, .int x9)]) dX12_eval_96 5 rfl rfl (by decide) rfl (e_goto (tgt := 502) dX12_eval_99 rfl k))) ?_
          refine es_sub [3, 4, 5, 1, 0, 6, 7, 8, 9] rfl ?_
          exact t_X12_eval_502 N (f_X12_eval_18 N n) ih x1 x2 (x4 + 1) (x5 + 2) x6 x7 x8 x9 (sI S 524 x4.toNatClampNeg (S.1 510 ((S.1 518 ((x5 + 1).toNatClampNeg)).toNatClampNeg))) r hf
        · rw [if_neg c140] at hf
          refine es_l (pc' := 105) (ls' := [(10, .int (S.1 518 x5.toNatClampNeg)), (0, .ref (w.2.1 + 503)), (1, .int x1), (2, .int x2), (4, .int x4), (5, .int x5), (6, .int x6), (7, .int x7), (8, .int x8), (9, .int x9)]) (st' := [.int 3, .int (S.1 518 x5.toNatClampNeg)]) (fun _ _ k => e_iload dX12_eval_102 0 rfl (e_iconst (v := 3) dX12_eval_104 (by decide) k)) ?_
          refine es_br (c := (S.1 518 x5.toNatClampNeg) = 3) (tgt := 108) (pf := 139) (st' := []) (fun _ _ a b => e_icmp_ne dX12_eval_105 rfl b a) (fun c144 => ?_) (fun c144 => ?_)
          · rw [if_pos c144] at hf
            refine es_l (pc' := 109) (ls' := [(10, .int (S.1 518 x5.toNatClampNeg)), (0, .ref (w.2.1 + 503)), (1, .int x1), (2, .int x2), (4, .int x4), (5, .int x5), (6, .int x6), (7, .int x7), (8, .int x8), (9, .int x9)]) (st' := [.ref (w.2.1 + 503)]) (fun _ _ k => e_aload_n dX12_eval_108 1 rfl k) ?_
            refine es_get (v := .ref (w.2.1 + 524)) xc_12 dX12_eval_109 fl_X12_124 (by decide) (by decide) (cel_503 _ _ _) rfl ?_
            refine es_l (pc' := 118) (ls' := [(10, .int (S.1 518 x5.toNatClampNeg)), (0, .ref (w.2.1 + 503)), (1, .int x1), (2, .int x2), (4, .int x4), (5, .int x5), (6, .int x6), (7, .int x7), (8, .int x8), (9, .int x9)]) (st' := [.ref (w.2.1 + 503), .int x6, .ref (w.2.1 + 503), .int x4, .ref (w.2.1 + 524)]) (fun _ _ k => e_iload dX12_eval_112 4 rfl (e_aload_n dX12_eval_114 1 rfl (e_iload dX12_eval_115 6 rfl (e_aload_n dX12_eval_117 1 rfl k)))) ?_
            refine es_get (v := .ref (w.2.1 + 518)) xc_12 dX12_eval_118 fl_X12_85 (by decide) (by decide) (cel_503 _ _ _) rfl ?_
            refine es_l (pc' := 125) (ls' := [(10, .int (S.1 518 x5.toNatClampNeg)), (0, .ref (w.2.1 + 503)), (1, .int x1), (2, .int x2), (4, .int x4), (5, .int x5), (6, .int x6), (7, .int x7), (8, .int x8), (9, .int x9)]) (st' := [.int (x5 + 1), .ref (w.2.1 + 518), .int x6, .ref (w.2.1 + 503), .int x4, .ref (w.2.1 + 524)]) (fun _ _ k => e_iload dX12_eval_121 5 rfl (e_iconst (v := 1) dX12_eval_123 (by decide) (e_iadd dX12_eval_124 k))) ?_
            obtain ⟨g145, hf⟩ := xg hf
            refine es_iald (v := .int (S.1 518 ((x5 + 1).toNatClampNeg))) dX12_eval_125 (by decide) (cel_518 _ _ _) g145 rfl ?_
            refine es_callVI (as := [.int x6, .int (S.1 518 ((x5 + 1).toNatClampNeg))]) (rest := [.int x4, .ref (w.2.1 + 524)]) hf xc_12 dX12_eval_126 cs_X12_eval_X12_valueOf ml_X12_366 im_X12_valueOf se_X12_valueOf rfl rfl (Nat.le_of_ble_eq_true rfl) (Nat.le_of_ble_eq_true rfl) (by decide) rfl (cel_503 _ _ _) (fun _ e => t_X12_valueOf N x6 (S.1 518 ((x5 + 1).toNatClampNeg)) S _ e) (by decide) (fun v147 S146 hf => ?_)
            obtain ⟨g148, hf⟩ := xg hf
            refine es_iast dX12_eval_129 (by decide) (cel_524 _) g148 ?_
            refine es_l (pc' := 502) (ls' := [(5, .int (x5 + 2)), (4, .int (x4 + 1)), (10, .int (S.1 518 x5.toNatClampNeg)), (0, .ref (w.2.1 + 503)), (1, .int x1), (2, .int x2), (6, .int x6), (7, .int x7), (8, .int x8), (9, .int x9)]) (st' := []) (fun _ _ k => e_iinc (v := x4 + 1) (ls' := [(4, .int (x4 + 1)), (10, .int (S.1 518 x5.toNatClampNeg)), (0, .ref (w.2.1 + 503)), (1, .int x1), (2, .int x2), (5, .int x5), (6, .int x6), (7, .int x7), (8, .int x8), (9, .int x9)]) dX12_eval_130 4 rfl rfl (by decide) rfl (e_iinc (v := x5 + 2) (ls' := [(5, .int (x5 + 2)), (4, .int (x4 + 1)), (10, .int (S.1 518 x5.toNatClampNeg)), (0, .ref (w.2.1 + 503)), (1, .int x1), (2, .int x2), (6, .int x6), (7, .int x7), (8, .int x8), (9, .int x9)]) dX12_eval_133 5 rfl rfl (by decide) rfl (e_goto (tgt := 502) dX12_eval_136 rfl k))) ?_
            refine es_sub [3, 4, 5, 1, 0, 6, 7, 8, 9] rfl ?_
            exact t_X12_eval_502 N (f_X12_eval_18 N n) ih x1 x2 (x4 + 1) (x5 + 2) x6 x7 x8 x9 (sI S146 524 x4.toNatClampNeg v147) r hf
          · rw [if_neg c144] at hf
            refine es_l (pc' := 142) (ls' := [(10, .int (S.1 518 x5.toNatClampNeg)), (0, .ref (w.2.1 + 503)), (1, .int x1), (2, .int x2), (4, .int x4), (5, .int x5), (6, .int x6), (7, .int x7), (8, .int x8), (9, .int x9)]) (st' := [.int 4, .int (S.1 518 x5.toNatClampNeg)]) (fun _ _ k => e_iload dX12_eval_139 0 rfl (e_iconst (v := 4) dX12_eval_141 (by decide) k)) ?_
            refine es_br (c := (S.1 518 x5.toNatClampNeg) = 4) (tgt := 145) (pf := 216) (st' := []) (fun _ _ a b => e_icmp_ne dX12_eval_142 rfl b a) (fun c149 => ?_) (fun c149 => ?_)
            · rw [if_pos c149] at hf
              refine es_l (pc' := 146) (ls' := [(10, .int (S.1 518 x5.toNatClampNeg)), (0, .ref (w.2.1 + 503)), (1, .int x1), (2, .int x2), (4, .int x4), (5, .int x5), (6, .int x6), (7, .int x7), (8, .int x8), (9, .int x9)]) (st' := [.ref (w.2.1 + 503)]) (fun _ _ k => e_aload_n dX12_eval_145 1 rfl k) ?_
              refine es_get (v := .ref (w.2.1 + 518)) xc_12 dX12_eval_146 fl_X12_85 (by decide) (by decide) (cel_503 _ _ _) rfl ?_
              refine es_l (pc' := 153) (ls' := [(10, .int (S.1 518 x5.toNatClampNeg)), (0, .ref (w.2.1 + 503)), (1, .int x1), (2, .int x2), (4, .int x4), (5, .int x5), (6, .int x6), (7, .int x7), (8, .int x8), (9, .int x9)]) (st' := [.int (x5 + 1), .ref (w.2.1 + 518)]) (fun _ _ k => e_iload dX12_eval_149 5 rfl (e_iconst (v := 1) dX12_eval_151 (by decide) (e_iadd dX12_eval_152 k))) ?_
              obtain ⟨g150, hf⟩ := xg hf
              refine es_iald (v := .int (S.1 518 ((x5 + 1).toNatClampNeg))) dX12_eval_153 (by decide) (cel_518 _ _ _) g150 rfl ?_
              refine es_l (pc' := 157) (ls' := [(11, .int (S.1 518 ((x5 + 1).toNatClampNeg))), (10, .int (S.1 518 x5.toNatClampNeg)), (0, .ref (w.2.1 + 503)), (1, .int x1), (2, .int x2), (4, .int x4), (5, .int x5), (6, .int x6), (7, .int x7), (8, .int x8), (9, .int x9)]) (st' := [.ref (w.2.1 + 503)]) (fun _ _ k => e_istore (ls' := [(11, .int (S.1 518 ((x5 + 1).toNatClampNeg))), (10, .int (S.1 518 x5.toNatClampNeg)), (0, .ref (w.2.1 + 503)), (1, .int x1), (2, .int x2), (4, .int x4), (5, .int x5), (6, .int x6), (7, .int x7), (8, .int x8), (9, .int x9)]) dX12_eval_154 (by decide) rfl (e_aload_n dX12_eval_156 2 rfl k)) ?_
              refine es_get (v := .ref (w.2.1 + 524)) xc_12 dX12_eval_157 fl_X12_124 (by decide) (by decide) (cel_503 _ _ _) rfl ?_
              refine es_l (pc' := 165) (ls' := [(11, .int (S.1 518 ((x5 + 1).toNatClampNeg))), (10, .int (S.1 518 x5.toNatClampNeg)), (0, .ref (w.2.1 + 503)), (1, .int x1), (2, .int x2), (4, .int x4), (5, .int x5), (6, .int x6), (7, .int x7), (8, .int x8), (9, .int x9)]) (st' := [.int (S.1 518 ((x5 + 1).toNatClampNeg)), .ref (w.2.1 + 503), .int x4, .ref (w.2.1 + 524)]) (fun _ _ k => e_iload dX12_eval_160 5 rfl (e_aload_n dX12_eval_162 2 rfl (e_iload dX12_eval_163 0 rfl k))) ?_
              refine es_callVI (as := [.int (S.1 518 ((x5 + 1).toNatClampNeg))]) (rest := [.int x4, .ref (w.2.1 + 524)]) hf xc_12 dX12_eval_165 cs_X12_eval_X12_cursorThere ml_X12_370 im_X12_cursorThere se_X12_cursorThere rfl rfl (Nat.le_of_ble_eq_true rfl) (Nat.le_of_ble_eq_true rfl) (by decide) rfl (cel_503 _ _ _) (fun _ e => t_X12_cursorThere N (S.1 518 ((x5 + 1).toNatClampNeg)) S _ e) (by decide) (fun v152 S151 hf => ?_)
              refine es_br (c := v152 = 0) (tgt := 205) (pf := 171) (st' := [.int x4, .ref (w.2.1 + 524)]) (fun _ _ a b => e_if_eq dX12_eval_168 rfl a b) (fun c153 => ?_) (fun c153 => ?_)
              · rw [if_pos c153] at hf
                refine es_l (pc' := 206) (ls' := [(11, .int (S.1 518 ((x5 + 1).toNatClampNeg))), (10, .int (S.1 518 x5.toNatClampNeg)), (0, .ref (w.2.1 + 503)), (1, .int x1), (2, .int x2), (4, .int x4), (5, .int x5), (6, .int x6), (7, .int x7), (8, .int x8), (9, .int x9)]) (st' := [.int 0, .int x4, .ref (w.2.1 + 524)]) (fun _ _ k => e_iconst (v := 0) dX12_eval_205 (by decide) k) ?_
                refine es_sub [2, 3, 4, 5, 6, 7, 8, 9, 10] rfl ?_
                exact t_X12_eval_206 N (f_X12_eval_18 N n) ih x1 x2 x4 x5 x6 x7 x8 x9 0 x4 S151 r hf
              · rw [if_neg c153] at hf
                refine es_l (pc' := 173) (ls' := [(11, .int (S.1 518 ((x5 + 1).toNatClampNeg))), (10, .int (S.1 518 x5.toNatClampNeg)), (0, .ref (w.2.1 + 503)), (1, .int x1), (2, .int x2), (4, .int x4), (5, .int x5), (6, .int x6), (7, .int x7), (8, .int x8), (9, .int x9)]) (st' := [.ref (w.2.1 + 503), .ref (w.2.1 + 503), .int x4, .ref (w.2.1 + 524)]) (fun _ _ k => e_aload_n dX12_eval_171 2 rfl (e_aload_n dX12_eval_172 2 rfl k)) ?_
                refine es_get (v := .ref (w.2.1 + 526)) xc_12 dX12_eval_173 fl_X12_133 (by decide) (by decide) (cel_503 _ _ _) rfl ?_
                refine es_l (pc' := 182) (ls' := [(11, .int (S.1 518 ((x5 + 1).toNatClampNeg))), (10, .int (S.1 518 x5.toNatClampNeg)), (0, .ref (w.2.1 + 503)), (1, .int x1), (2, .int x2), (4, .int x4), (5, .int x5), (6, .int x6), (7, .int x7), (8, .int x8), (9, .int x9)]) (st' := [.ref (w.2.1 + 503), .int (64 * (S.1 518 ((x5 + 1).toNatClampNeg))), .ref (w.2.1 + 526), .ref (w.2.1 + 503), .int x4, .ref (w.2.1 + 524)]) (fun _ _ k => e_bipush (v := 64) dX12_eval_176 (by decide) (e_iload dX12_eval_178 0 rfl (e_imul dX12_eval_180 (e_aload_n dX12_eval_181 2 rfl k)))) ?_
                refine es_get (v := .ref (w.2.1 + 529)) xc_12 dX12_eval_182 fl_X12_142 (by decide) (by decide) (cel_503 _ _ _) rfl ?_
                refine es_l (pc' := 187) (ls' := [(11, .int (S.1 518 ((x5 + 1).toNatClampNeg))), (10, .int (S.1 518 x5.toNatClampNeg)), (0, .ref (w.2.1 + 503)), (1, .int x1), (2, .int x2), (4, .int x4), (5, .int x5), (6, .int x6), (7, .int x7), (8, .int x8), (9, .int x9)]) (st' := [.int (S.1 518 ((x5 + 1).toNatClampNeg)), .ref (w.2.1 + 529), .int (64 * (S.1 518 ((x5 + 1).toNatClampNeg))), .ref (w.2.1 + 526), .ref (w.2.1 + 503), .int x4, .ref (w.2.1 + 524)]) (fun _ _ k => e_iload dX12_eval_185 0 rfl k) ?_
                obtain ⟨g154, hf⟩ := xg hf
                refine es_iald (v := .int (S151.1 529 ((S.1 518 ((x5 + 1).toNatClampNeg)).toNatClampNeg))) dX12_eval_187 (by decide) (cel_529 _ _ _) g154 rfl ?_
                refine es_l (pc' := 189) (ls' := [(11, .int (S.1 518 ((x5 + 1).toNatClampNeg))), (10, .int (S.1 518 x5.toNatClampNeg)), (0, .ref (w.2.1 + 503)), (1, .int x1), (2, .int x2), (4, .int x4), (5, .int x5), (6, .int x6), (7, .int x7), (8, .int x8), (9, .int x9)]) (st' := [.int ((64 * (S.1 518 ((x5 + 1).toNatClampNeg))) + (S151.1 529 ((S.1 518 ((x5 + 1).toNatClampNeg)).toNatClampNeg))), .ref (w.2.1 + 526), .ref (w.2.1 + 503), .int x4, .ref (w.2.1 + 524)]) (fun _ _ k => e_iadd dX12_eval_188 k) ?_
                obtain ⟨g155, hf⟩ := xg hf
                refine es_iald (v := .int (S151.1 526 (((64 * (S.1 518 ((x5 + 1).toNatClampNeg))) + (S151.1 529 ((S.1 518 ((x5 + 1).toNatClampNeg)).toNatClampNeg))).toNatClampNeg))) dX12_eval_189 (by decide) (cel_526 _ _ _) g155 rfl ?_
                refine es_l (pc' := 191) (ls' := [(11, .int (S.1 518 ((x5 + 1).toNatClampNeg))), (10, .int (S.1 518 x5.toNatClampNeg)), (0, .ref (w.2.1 + 503)), (1, .int x1), (2, .int x2), (4, .int x4), (5, .int x5), (6, .int x6), (7, .int x7), (8, .int x8), (9, .int x9)]) (st' := [.ref (w.2.1 + 503), .int (S151.1 526 (((64 * (S.1 518 ((x5 + 1).toNatClampNeg))) + (S151.1 529 ((S.1 518 ((x5 + 1).toNatClampNeg)).toNatClampNeg))).toNatClampNeg)), .ref (w.2.1 + 503), .int x4, .ref (w.2.1 + 524)]) (fun _ _ k => e_aload_n dX12_eval_190 2 rfl k) ?_
                refine es_get (v := .ref (w.2.1 + 518)) xc_12 dX12_eval_191 fl_X12_85 (by decide) (by decide) (cel_503 _ _ _) rfl ?_
                refine es_l (pc' := 198) (ls' := [(11, .int (S.1 518 ((x5 + 1).toNatClampNeg))), (10, .int (S.1 518 x5.toNatClampNeg)), (0, .ref (w.2.1 + 503)), (1, .int x1), (2, .int x2), (4, .int x4), (5, .int x5), (6, .int x6), (7, .int x7), (8, .int x8), (9, .int x9)]) (st' := [.int (x5 + 2), .ref (w.2.1 + 518), .int (S151.1 526 (((64 * (S.1 518 ((x5 + 1).toNatClampNeg))) + (S151.1 529 ((S.1 518 ((x5 + 1).toNatClampNeg)).toNatClampNeg))).toNatClampNeg)), .ref (w.2.1 + 503), .int x4, .ref (w.2.1 + 524)]) (fun _ _ k => e_iload dX12_eval_194 6 rfl (e_iconst (v := 2) dX12_eval_196 (by decide) (e_iadd dX12_eval_197 k))) ?_
                obtain ⟨g156, hf⟩ := xg hf
                refine es_iald (v := .int (S151.1 518 ((x5 + 2).toNatClampNeg))) dX12_eval_198 (by decide) (cel_518 _ _ _) g156 rfl ?_
                refine es_callVI (as := [.int (S151.1 526 (((64 * (S.1 518 ((x5 + 1).toNatClampNeg))) + (S151.1 529 ((S.1 518 ((x5 + 1).toNatClampNeg)).toNatClampNeg))).toNatClampNeg)), .int (S151.1 518 ((x5 + 2).toNatClampNeg))]) (rest := [.int x4, .ref (w.2.1 + 524)]) hf xc_12 dX12_eval_199 cs_X12_eval_X12_valueOf ml_X12_366 im_X12_valueOf se_X12_valueOf rfl rfl (Nat.le_of_ble_eq_true rfl) (Nat.le_of_ble_eq_true rfl) (by decide) rfl (cel_503 _ _ _) (fun _ e => t_X12_valueOf N (S151.1 526 (((64 * (S.1 518 ((x5 + 1).toNatClampNeg))) + (S151.1 529 ((S.1 518 ((x5 + 1).toNatClampNeg)).toNatClampNeg))).toNatClampNeg)) (S151.1 518 ((x5 + 2).toNatClampNeg)) S151 _ e) (by decide) (fun v158 S157 hf => ?_)
                refine es_l (pc' := 206) (ls' := [(11, .int (S.1 518 ((x5 + 1).toNatClampNeg))), (10, .int (S.1 518 x5.toNatClampNeg)), (0, .ref (w.2.1 + 503)), (1, .int x1), (2, .int x2), (4, .int x4), (5, .int x5), (6, .int x6), (7, .int x7), (8, .int x8), (9, .int x9)]) (st' := [.int v158, .int x4, .ref (w.2.1 + 524)]) (fun _ _ k => e_goto (tgt := 206) dX12_eval_202 rfl k) ?_
                refine es_sub [2, 3, 4, 5, 6, 7, 8, 9, 10] rfl ?_
                exact t_X12_eval_206 N (f_X12_eval_18 N n) ih x1 x2 x4 x5 x6 x7 x8 x9 v158 x4 S157 r hf
            · rw [if_neg c149] at hf
              refine es_l (pc' := 219) (ls' := [(10, .int (S.1 518 x5.toNatClampNeg)), (0, .ref (w.2.1 + 503)), (1, .int x1), (2, .int x2), (4, .int x4), (5, .int x5), (6, .int x6), (7, .int x7), (8, .int x8), (9, .int x9)]) (st' := [.int 5, .int (S.1 518 x5.toNatClampNeg)]) (fun _ _ k => e_iload dX12_eval_216 0 rfl (e_iconst (v := 5) dX12_eval_218 (by decide) k)) ?_
              refine es_br (c := (S.1 518 x5.toNatClampNeg) = 5) (tgt := 229) (pf := 222) (st' := []) (fun _ _ a b => e_icmp_eq dX12_eval_219 rfl a b) (fun c159 => ?_) (fun c159 => ?_)
              · rw [if_pos c159] at hf
                refine es_sub [1, 2, 3, 4, 5, 6, 7, 8, 9, 0] rfl ?_
                exact t_X12_eval_229 N (f_X12_eval_18 N n) ih x1 x2 x4 x5 x6 x7 x8 x9 (S.1 518 x5.toNatClampNeg) S r hf
              · rw [if_neg c159] at hf
                refine es_l (pc' := 226) (ls' := [(10, .int (S.1 518 x5.toNatClampNeg)), (0, .ref (w.2.1 + 503)), (1, .int x1), (2, .int x2), (4, .int x4), (5, .int x5), (6, .int x6), (7, .int x7), (8, .int x8), (9, .int x9)]) (st' := [.int 6, .int (S.1 518 x5.toNatClampNeg)]) (fun _ _ k => e_iload dX12_eval_222 0 rfl (e_bipush (v := 6) dX12_eval_224 (by decide) k)) ?_
                refine es_br (c := (S.1 518 x5.toNatClampNeg) = 6) (tgt := 229) (pf := 280) (st' := []) (fun _ _ a b => e_icmp_ne dX12_eval_226 rfl b a) (fun c160 => ?_) (fun c160 => ?_)
                · rw [if_pos c160] at hf
                  refine es_sub [1, 2, 3, 4, 5, 6, 7, 8, 9, 0] rfl ?_
                  exact t_X12_eval_229 N (f_X12_eval_18 N n) ih x1 x2 x4 x5 x6 x7 x8 x9 (S.1 518 x5.toNatClampNeg) S r hf
                · rw [if_neg c160] at hf
                  refine es_l (pc' := 284) (ls' := [(10, .int (S.1 518 x5.toNatClampNeg)), (0, .ref (w.2.1 + 503)), (1, .int x1), (2, .int x2), (4, .int x4), (5, .int x5), (6, .int x6), (7, .int x7), (8, .int x8), (9, .int x9)]) (st' := [.int 30, .int (S.1 518 x5.toNatClampNeg)]) (fun _ _ k => e_iload dX12_eval_280 0 rfl (e_bipush (v := 30) dX12_eval_282 (by decide) k)) ?_
                  refine es_br (c := (S.1 518 x5.toNatClampNeg) = 30) (tgt := 287) (pf := 356) (st' := []) (fun _ _ a b => e_icmp_ne dX12_eval_284 rfl b a) (fun c161 => ?_) (fun c161 => ?_)
                  · rw [if_pos c161] at hf
                    refine es_l (pc' := 299) (ls' := [(9, .int 0), (8, .int 0), (7, .int x5), (10, .int (S.1 518 x5.toNatClampNeg)), (0, .ref (w.2.1 + 503)), (1, .int x1), (2, .int x2), (4, .int x4), (5, .int x5), (6, .int x6)]) (st' := [.ref (w.2.1 + 503), .ref (w.2.1 + 503)]) (fun _ _ k => e_iload dX12_eval_287 5 rfl (e_istore (ls' := [(7, .int x5), (10, .int (S.1 518 x5.toNatClampNeg)), (0, .ref (w.2.1 + 503)), (1, .int x1), (2, .int x2), (4, .int x4), (5, .int x5), (6, .int x6), (8, .int x8), (9, .int x9)]) dX12_eval_289 (by decide) rfl (e_iconst (v := 0) dX12_eval_291 (by decide) (e_istore (ls' := [(8, .int 0), (7, .int x5), (10, .int (S.1 518 x5.toNatClampNeg)), (0, .ref (w.2.1 + 503)), (1, .int x1), (2, .int x2), (4, .int x4), (5, .int x5), (6, .int x6), (9, .int x9)]) dX12_eval_292 (by decide) rfl (e_iconst (v := 0) dX12_eval_294 (by decide) (e_istore (ls' := [(9, .int 0), (8, .int 0), (7, .int x5), (10, .int (S.1 518 x5.toNatClampNeg)), (0, .ref (w.2.1 + 503)), (1, .int x1), (2, .int x2), (4, .int x4), (5, .int x5), (6, .int x6)]) dX12_eval_295 (by decide) rfl (e_aload_n dX12_eval_297 4 rfl (e_aload_n dX12_eval_298 4 rfl k)))))))) ?_
                    refine es_get (v := .ref (w.2.1 + 518)) xc_12 dX12_eval_299 fl_X12_85 (by decide) (by decide) (cel_503 _ _ _) rfl ?_
                    refine es_l (pc' := 306) (ls' := [(9, .int 0), (8, .int 0), (7, .int x5), (10, .int (S.1 518 x5.toNatClampNeg)), (0, .ref (w.2.1 + 503)), (1, .int x1), (2, .int x2), (4, .int x4), (5, .int x5), (6, .int x6)]) (st' := [.int (x5 + 2), .ref (w.2.1 + 518), .ref (w.2.1 + 503)]) (fun _ _ k => e_iload dX12_eval_302 8 rfl (e_iconst (v := 2) dX12_eval_304 (by decide) (e_iadd dX12_eval_305 k))) ?_
                    obtain ⟨g162, hf⟩ := xg hf
                    refine es_iald (v := .int (S.1 518 ((x5 + 2).toNatClampNeg))) dX12_eval_306 (by decide) (cel_518 _ _ _) g162 rfl ?_
                    refine es_l (pc' := 308) (ls' := [(9, .int 0), (8, .int 0), (7, .int x5), (10, .int (S.1 518 x5.toNatClampNeg)), (0, .ref (w.2.1 + 503)), (1, .int x1), (2, .int x2), (4, .int x4), (5, .int x5), (6, .int x6)]) (st' := [.int 0, .int (S.1 518 ((x5 + 2).toNatClampNeg)), .ref (w.2.1 + 503)]) (fun _ _ k => e_iconst (v := 0) dX12_eval_307 (by decide) k) ?_
                    refine es_callVI (as := [.int (S.1 518 ((x5 + 2).toNatClampNeg)), .int 0]) (rest := []) hf xc_12 dX12_eval_308 cs_X12_eval_X12_nextOf ml_X12_373 im_X12_nextOf se_X12_nextOf rfl rfl (Nat.le_of_ble_eq_true rfl) (Nat.le_of_ble_eq_true rfl) (by decide) rfl (cel_503 _ _ _) (fun _ e => t_X12_nextOf N (S.1 518 ((x5 + 2).toNatClampNeg)) 0 S _ e) (by decide) (fun v164 S163 hf => ?_)
                    refine es_l (pc' := 317) (ls' := [(6, .int v164), (9, .int 0), (8, .int 0), (7, .int x5), (10, .int (S.1 518 x5.toNatClampNeg)), (0, .ref (w.2.1 + 503)), (1, .int x1), (2, .int x2), (4, .int x4), (5, .int x5)]) (st' := [.int 64, .int v164]) (fun _ _ k => e_istore (ls' := [(6, .int v164), (9, .int 0), (8, .int 0), (7, .int x5), (10, .int (S.1 518 x5.toNatClampNeg)), (0, .ref (w.2.1 + 503)), (1, .int x1), (2, .int x2), (4, .int x4), (5, .int x5)]) dX12_eval_311 (by decide) rfl (e_iload dX12_eval_313 0 rfl (e_bipush (v := 64) dX12_eval_315 (by decide) k))) ?_
                    refine es_br (c := 64 ≤ v164) (tgt := 327) (pf := 320) (st' := []) (fun _ _ a b => e_icmp_ge dX12_eval_317 rfl a b) (fun c165 => ?_) (fun c165 => ?_)
                    · rw [if_pos c165] at hf
                      refine es_l (pc' := 330) (ls' := [(6, .int v164), (9, .int 0), (8, .int 0), (7, .int x5), (10, .int (S.1 518 x5.toNatClampNeg)), (0, .ref (w.2.1 + 503)), (1, .int x1), (2, .int x2), (4, .int x4), (5, .int x5)]) (st' := [.int x5, .ref (w.2.1 + 503)]) (fun _ _ k => e_aload_n dX12_eval_327 5 rfl (e_iload dX12_eval_328 9 rfl k)) ?_
                      refine es_callVI (as := [.int x5]) (rest := []) hf xc_12 dX12_eval_330 cs_X12_eval_X12_endOf ml_X12_376 im_X12_endOf se_X12_endOf rfl rfl (Nat.le_of_ble_eq_true rfl) (Nat.le_of_ble_eq_true rfl) (by decide) rfl (cel_503 _ _ _) (fun _ e => t_X12_endOf N x5 S163 _ e) (by decide) (fun v167 S166 hf => ?_)
                      refine es_sub [5, 6, 7, 8, 0, 3, 2, 1] rfl ?_
                      exact t_X12_eval_333 N (f_X12_eval_18 N n) ih x1 x2 x4 v164 x5 0 0 v167 S166 r hf
                    · rw [if_neg c165] at hf
                      refine es_l (pc' := 333) (ls' := [(6, .int v164), (9, .int 0), (8, .int 0), (7, .int x5), (10, .int (S.1 518 x5.toNatClampNeg)), (0, .ref (w.2.1 + 503)), (1, .int x1), (2, .int x2), (4, .int x4), (5, .int x5)]) (st' := [.int (x5 + 4)]) (fun _ _ k => e_iload dX12_eval_320 9 rfl (e_iconst (v := 4) dX12_eval_322 (by decide) (e_iadd dX12_eval_323 (e_goto (tgt := 333) dX12_eval_324 rfl k)))) ?_
                      refine es_sub [5, 6, 7, 8, 0, 3, 2, 1] rfl ?_
                      exact t_X12_eval_333 N (f_X12_eval_18 N n) ih x1 x2 x4 v164 x5 0 0 (x5 + 4) S163 r hf
                  · rw [if_neg c161] at hf
                    refine es_l (pc' := 360) (ls' := [(10, .int (S.1 518 x5.toNatClampNeg)), (0, .ref (w.2.1 + 503)), (1, .int x1), (2, .int x2), (4, .int x4), (5, .int x5), (6, .int x6), (7, .int x7), (8, .int x8), (9, .int x9)]) (st' := [.int 31, .int (S.1 518 x5.toNatClampNeg)]) (fun _ _ k => e_iload dX12_eval_356 0 rfl (e_bipush (v := 31) dX12_eval_358 (by decide) k)) ?_
                    refine es_br (c := (S.1 518 x5.toNatClampNeg) = 31) (tgt := 363) (pf := 466) (st' := []) (fun _ _ a b => e_icmp_ne dX12_eval_360 rfl b a) (fun c168 => ?_) (fun c168 => ?_)
                    · rw [if_pos c168] at hf
                      refine es_l (pc' := 367) (ls' := [(4, .int (x4 + (-1))), (10, .int (S.1 518 x5.toNatClampNeg)), (0, .ref (w.2.1 + 503)), (1, .int x1), (2, .int x2), (5, .int x5), (6, .int x6), (7, .int x7), (8, .int x8), (9, .int x9)]) (st' := [.ref (w.2.1 + 503)]) (fun _ _ k => e_iinc (v := x4 + (-1)) (ls' := [(4, .int (x4 + (-1))), (10, .int (S.1 518 x5.toNatClampNeg)), (0, .ref (w.2.1 + 503)), (1, .int x1), (2, .int x2), (5, .int x5), (6, .int x6), (7, .int x7), (8, .int x8), (9, .int x9)]) dX12_eval_363 4 rfl rfl (by decide) rfl (e_aload_n dX12_eval_366 2 rfl k)) ?_
                      refine es_get (v := .ref (w.2.1 + 524)) xc_12 dX12_eval_367 fl_X12_124 (by decide) (by decide) (cel_503 _ _ _) rfl ?_
                      refine es_l (pc' := 372) (ls' := [(4, .int (x4 + (-1))), (10, .int (S.1 518 x5.toNatClampNeg)), (0, .ref (w.2.1 + 503)), (1, .int x1), (2, .int x2), (5, .int x5), (6, .int x6), (7, .int x7), (8, .int x8), (9, .int x9)]) (st' := [.int (x4 + (-1)), .ref (w.2.1 + 524)]) (fun _ _ k => e_iload dX12_eval_370 0 rfl k) ?_
                      obtain ⟨g169, hf⟩ := xg hf
                      refine es_iald (v := .int (S.1 524 ((x4 + (-1)).toNatClampNeg))) dX12_eval_372 (by decide) (cel_524 _ _ _) g169 rfl ?_
                      refine es_br (c := (S.1 524 ((x4 + (-1)).toNatClampNeg)) = 0) (tgt := 413) (pf := 376) (st' := []) (fun _ _ a b => e_if_eq dX12_eval_373 rfl a b) (fun c170 => ?_) (fun c170 => ?_)
                      · rw [if_pos c170] at hf
                        refine es_sub [2, 3, 4, 0, 5, 6, 7, 8, 9] rfl ?_
                        exact t_X12_eval_413 N (f_X12_eval_18 N n) ih x1 x2 (x4 + (-1)) x5 x6 x7 x8 x9 S r hf
                      · rw [if_neg c170] at hf
                        refine es_l (pc' := 378) (ls' := [(4, .int (x4 + (-1))), (10, .int (S.1 518 x5.toNatClampNeg)), (0, .ref (w.2.1 + 503)), (1, .int x1), (2, .int x2), (5, .int x5), (6, .int x6), (7, .int x7), (8, .int x8), (9, .int x9)]) (st' := [.ref (w.2.1 + 503), .ref (w.2.1 + 503)]) (fun _ _ k => e_aload_n dX12_eval_376 2 rfl (e_aload_n dX12_eval_377 2 rfl k)) ?_
                        refine es_get (v := .ref (w.2.1 + 518)) xc_12 dX12_eval_378 fl_X12_85 (by decide) (by decide) (cel_503 _ _ _) rfl ?_
                        refine es_l (pc' := 385) (ls' := [(4, .int (x4 + (-1))), (10, .int (S.1 518 x5.toNatClampNeg)), (0, .ref (w.2.1 + 503)), (1, .int x1), (2, .int x2), (5, .int x5), (6, .int x6), (7, .int x7), (8, .int x8), (9, .int x9)]) (st' := [.int (x7 + 1), .ref (w.2.1 + 518), .ref (w.2.1 + 503)]) (fun _ _ k => e_iload dX12_eval_381 7 rfl (e_iconst (v := 1) dX12_eval_383 (by decide) (e_iadd dX12_eval_384 k))) ?_
                        obtain ⟨g171, hf⟩ := xg hf
                        refine es_iald (v := .int (S.1 518 ((x7 + 1).toNatClampNeg))) dX12_eval_385 (by decide) (cel_518 _ _ _) g171 rfl ?_
                        refine es_l (pc' := 394) (ls' := [(4, .int (x4 + (-1))), (10, .int (S.1 518 x5.toNatClampNeg)), (0, .ref (w.2.1 + 503)), (1, .int x1), (2, .int x2), (5, .int x5), (6, .int x6), (7, .int x7), (8, .int x8), (9, .int x9)]) (st' := [.ref (w.2.1 + 503), .int x6, .ref (w.2.1 + 503), .int x9, .int x8, .int (S.1 518 ((x7 + 1).toNatClampNeg)), .ref (w.2.1 + 503)]) (fun _ _ k => e_iload dX12_eval_386 8 rfl (e_iload dX12_eval_388 9 rfl (e_aload_n dX12_eval_390 2 rfl (e_iload dX12_eval_391 6 rfl (e_aload_n dX12_eval_393 2 rfl k))))) ?_
                        refine es_get (v := .ref (w.2.1 + 518)) xc_12 dX12_eval_394 fl_X12_85 (by decide) (by decide) (cel_503 _ _ _) rfl ?_
                        refine es_l (pc' := 401) (ls' := [(4, .int (x4 + (-1))), (10, .int (S.1 518 x5.toNatClampNeg)), (0, .ref (w.2.1 + 503)), (1, .int x1), (2, .int x2), (5, .int x5), (6, .int x6), (7, .int x7), (8, .int x8), (9, .int x9)]) (st' := [.int (x7 + 3), .ref (w.2.1 + 518), .int x6, .ref (w.2.1 + 503), .int x9, .int x8, .int (S.1 518 ((x7 + 1).toNatClampNeg)), .ref (w.2.1 + 503)]) (fun _ _ k => e_iload dX12_eval_397 7 rfl (e_iconst (v := 3) dX12_eval_399 (by decide) (e_iadd dX12_eval_400 k))) ?_
                        obtain ⟨g172, hf⟩ := xg hf
                        refine es_iald (v := .int (S.1 518 ((x7 + 3).toNatClampNeg))) dX12_eval_401 (by decide) (cel_518 _ _ _) g172 rfl ?_
                        refine es_callVI (as := [.int x6, .int (S.1 518 ((x7 + 3).toNatClampNeg))]) (rest := [.int x9, .int x8, .int (S.1 518 ((x7 + 1).toNatClampNeg)), .ref (w.2.1 + 503)]) hf xc_12 dX12_eval_402 cs_X12_eval_X12_valueOf ml_X12_366 im_X12_valueOf se_X12_valueOf rfl rfl (Nat.le_of_ble_eq_true rfl) (Nat.le_of_ble_eq_true rfl) (by decide) rfl (cel_503 _ _ _) (fun _ e => t_X12_valueOf N x6 (S.1 518 ((x7 + 3).toNatClampNeg)) S _ e) (by decide) (fun v174 S173 hf => ?_)
                        refine es_callVI (as := [.int (S.1 518 ((x7 + 1).toNatClampNeg)), .int x8, .int x9, .int v174]) (rest := []) hf xc_12 dX12_eval_405 cs_X12_eval_X12_aggregated ml_X12_379 im_X12_aggregated se_X12_aggregated rfl rfl (Nat.le_of_ble_eq_true rfl) (Nat.le_of_ble_eq_true rfl) (by decide) rfl (cel_503 _ _ _) (fun _ e => t_X12_aggregated N (S.1 518 ((x7 + 1).toNatClampNeg)) x8 x9 v174 S173 _ e) (by decide) (fun v176 S175 hf => ?_)
                        refine es_l (pc' := 413) (ls' := [(9, .int (x9 + 1)), (8, .int v176), (4, .int (x4 + (-1))), (10, .int (S.1 518 x5.toNatClampNeg)), (0, .ref (w.2.1 + 503)), (1, .int x1), (2, .int x2), (5, .int x5), (6, .int x6), (7, .int x7)]) (st' := []) (fun _ _ k => e_istore (ls' := [(8, .int v176), (4, .int (x4 + (-1))), (10, .int (S.1 518 x5.toNatClampNeg)), (0, .ref (w.2.1 + 503)), (1, .int x1), (2, .int x2), (5, .int x5), (6, .int x6), (7, .int x7), (9, .int x9)]) dX12_eval_408 (by decide) rfl (e_iinc (v := x9 + 1) (ls' := [(9, .int (x9 + 1)), (8, .int v176), (4, .int (x4 + (-1))), (10, .int (S.1 518 x5.toNatClampNeg)), (0, .ref (w.2.1 + 503)), (1, .int x1), (2, .int x2), (5, .int x5), (6, .int x6), (7, .int x7)]) dX12_eval_410 9 rfl rfl (by decide) rfl k)) ?_
                        refine es_sub [4, 5, 6, 2, 7, 8, 9, 1, 0] rfl ?_
                        exact t_X12_eval_413 N (f_X12_eval_18 N n) ih x1 x2 (x4 + (-1)) x5 x6 x7 v176 (x9 + 1) S175 r hf
                    · rw [if_neg c168] at hf
                      refine es_l (pc' := 470) (ls' := [(4, .int (x4 + (-1))), (10, .int (S.1 518 x5.toNatClampNeg)), (0, .ref (w.2.1 + 503)), (1, .int x1), (2, .int x2), (5, .int x5), (6, .int x6), (7, .int x7), (8, .int x8), (9, .int x9)]) (st' := [.ref (w.2.1 + 503)]) (fun _ _ k => e_iinc (v := x4 + (-1)) (ls' := [(4, .int (x4 + (-1))), (10, .int (S.1 518 x5.toNatClampNeg)), (0, .ref (w.2.1 + 503)), (1, .int x1), (2, .int x2), (5, .int x5), (6, .int x6), (7, .int x7), (8, .int x8), (9, .int x9)]) dX12_eval_466 4 rfl rfl (by decide) rfl (e_aload_n dX12_eval_469 2 rfl k)) ?_
                      refine es_get (v := .ref (w.2.1 + 524)) xc_12 dX12_eval_470 fl_X12_124 (by decide) (by decide) (cel_503 _ _ _) rfl ?_
                      refine es_l (pc' := 480) (ls' := [(4, .int (x4 + (-1))), (10, .int (S.1 518 x5.toNatClampNeg)), (0, .ref (w.2.1 + 503)), (1, .int x1), (2, .int x2), (5, .int x5), (6, .int x6), (7, .int x7), (8, .int x8), (9, .int x9)]) (st' := [.ref (w.2.1 + 503), .int (S.1 518 x5.toNatClampNeg), .int ((x4 + (-1)) - 1), .ref (w.2.1 + 524)]) (fun _ _ k => e_iload dX12_eval_473 0 rfl (e_iconst (v := 1) dX12_eval_475 (by decide) (e_isub dX12_eval_476 (e_iload dX12_eval_477 1 rfl (e_aload_n dX12_eval_479 2 rfl k))))) ?_
                      refine es_get (v := .ref (w.2.1 + 524)) xc_12 dX12_eval_480 fl_X12_124 (by decide) (by decide) (cel_503 _ _ _) rfl ?_
                      refine es_l (pc' := 487) (ls' := [(4, .int (x4 + (-1))), (10, .int (S.1 518 x5.toNatClampNeg)), (0, .ref (w.2.1 + 503)), (1, .int x1), (2, .int x2), (5, .int x5), (6, .int x6), (7, .int x7), (8, .int x8), (9, .int x9)]) (st' := [.int ((x4 + (-1)) - 1), .ref (w.2.1 + 524), .int (S.1 518 x5.toNatClampNeg), .int ((x4 + (-1)) - 1), .ref (w.2.1 + 524)]) (fun _ _ k => e_iload dX12_eval_483 0 rfl (e_iconst (v := 1) dX12_eval_485 (by decide) (e_isub dX12_eval_486 k))) ?_
                      obtain ⟨g177, hf⟩ := xg hf
                      refine es_iald (v := .int (S.1 524 (((x4 + (-1)) - 1).toNatClampNeg))) dX12_eval_487 (by decide) (cel_524 _ _ _) g177 rfl ?_
                      refine es_l (pc' := 489) (ls' := [(4, .int (x4 + (-1))), (10, .int (S.1 518 x5.toNatClampNeg)), (0, .ref (w.2.1 + 503)), (1, .int x1), (2, .int x2), (5, .int x5), (6, .int x6), (7, .int x7), (8, .int x8), (9, .int x9)]) (st' := [.ref (w.2.1 + 503), .int (S.1 524 (((x4 + (-1)) - 1).toNatClampNeg)), .int (S.1 518 x5.toNatClampNeg), .int ((x4 + (-1)) - 1), .ref (w.2.1 + 524)]) (fun _ _ k => e_aload_n dX12_eval_488 2 rfl k) ?_
                      refine es_get (v := .ref (w.2.1 + 524)) xc_12 dX12_eval_489 fl_X12_124 (by decide) (by decide) (cel_503 _ _ _) rfl ?_
                      refine es_l (pc' := 494) (ls' := [(4, .int (x4 + (-1))), (10, .int (S.1 518 x5.toNatClampNeg)), (0, .ref (w.2.1 + 503)), (1, .int x1), (2, .int x2), (5, .int x5), (6, .int x6), (7, .int x7), (8, .int x8), (9, .int x9)]) (st' := [.int (x4 + (-1)), .ref (w.2.1 + 524), .int (S.1 524 (((x4 + (-1)) - 1).toNatClampNeg)), .int (S.1 518 x5.toNatClampNeg), .int ((x4 + (-1)) - 1), .ref (w.2.1 + 524)]) (fun _ _ k => e_iload dX12_eval_492 0 rfl k) ?_
                      obtain ⟨g178, hf⟩ := xg hf
                      refine es_iald (v := .int (S.1 524 ((x4 + (-1)).toNatClampNeg))) dX12_eval_494 (by decide) (cel_524 _ _ _) g178 rfl ?_
                      refine es_callSI (as := [.int (S.1 518 x5.toNatClampNeg), .int (S.1 524 (((x4 + (-1)) - 1).toNatClampNeg)), .int (S.1 524 ((x4 + (-1)).toNatClampNeg))]) (rest := [.int ((x4 + (-1)) - 1), .ref (w.2.1 + 524)]) hf dX12_eval_495 cs_X12_eval_X12_operate ml_X12_383 st_X12_operate rfl rfl (Nat.le_of_ble_eq_true rfl) (Nat.le_of_ble_eq_true rfl) (fun _ e => t_X12_operate N (S.1 518 x5.toNatClampNeg) (S.1 524 (((x4 + (-1)) - 1).toNatClampNeg)) (S.1 524 ((x4 + (-1)).toNatClampNeg)) S _ e) (by decide) (fun v180 S179 hf => ?_)
                      refine es_iast dX12_eval_498 (by decide) (cel_524 _) g177 ?_
                      refine es_l (pc' := 502) (ls' := [(5, .int (x5 + 1)), (4, .int (x4 + (-1))), (10, .int (S.1 518 x5.toNatClampNeg)), (0, .ref (w.2.1 + 503)), (1, .int x1), (2, .int x2), (6, .int x6), (7, .int x7), (8, .int x8), (9, .int x9)]) (st' := []) (fun _ _ k => e_iinc (v := x5 + 1) (ls' := [(5, .int (x5 + 1)), (4, .int (x4 + (-1))), (10, .int (S.1 518 x5.toNatClampNeg)), (0, .ref (w.2.1 + 503)), (1, .int x1), (2, .int x2), (6, .int x6), (7, .int x7), (8, .int x8), (9, .int x9)]) dX12_eval_499 5 rfl rfl (by decide) rfl k) ?_
                      refine es_sub [3, 4, 5, 1, 0, 6, 7, 8, 9] rfl ?_
                      exact t_X12_eval_502 N (f_X12_eval_18 N n) ih x1 x2 (x4 + (-1)) (x5 + 1) x6 x7 x8 x9 (sI S179 524 (((x4 + (-1)) - 1).toNatClampNeg) v180) r hf
def f_X12_eval (N : Nat) (x1 : Int32) (x2 : Int32) (x3 : Int32) (S : xS) : Option xr :=
  f_X12_eval_18 N N x1 x2 0 x1 x3 0 0 0 S
set_option maxRecDepth 100000 in
set_option maxHeartbeats 4000000 in
theorem t_X12_eval {l : Launch} {w : xW} {g : Nat → xE} (N : Nat) (x1 : Int32) (x2 : Int32) (x3 : Int32) (S : xS) (r : xr) (hf : f_X12_eval N x1 x2 x3 S = some r) : ES l w g M_X12_eval 0 (lv_args 0 [.ref (w.2.1 + 503), .int x1, .int x2, .int x3]) [] S r := by
  show ES l w g M_X12_eval 0 [(0, .ref (w.2.1 + 503)), (1, .int x1), (2, .int x2), (3, .int x3)] [] S r
  unfold f_X12_eval at hf
  refine es_l (pc' := 18) (ls' := [(9, .int 0), (8, .int 0), (7, .int 0), (6, .int x3), (5, .int x1), (4, .int 0), (0, .ref (w.2.1 + 503)), (1, .int x1), (2, .int x2), (3, .int x3)]) (st' := []) (fun _ _ k => e_iconst (v := 0) dX12_eval_0 (by decide) (e_istore (ls' := [(4, .int 0), (0, .ref (w.2.1 + 503)), (1, .int x1), (2, .int x2), (3, .int x3)]) dX12_eval_1 (by decide) rfl (e_iload_n dX12_eval_3 2 rfl (e_istore (ls' := [(5, .int x1), (4, .int 0), (0, .ref (w.2.1 + 503)), (1, .int x1), (2, .int x2), (3, .int x3)]) dX12_eval_4 (by decide) rfl (e_iload_n dX12_eval_6 5 rfl (e_istore (ls' := [(6, .int x3), (5, .int x1), (4, .int 0), (0, .ref (w.2.1 + 503)), (1, .int x1), (2, .int x2), (3, .int x3)]) dX12_eval_7 (by decide) rfl (e_iconst (v := 0) dX12_eval_9 (by decide) (e_istore (ls' := [(7, .int 0), (6, .int x3), (5, .int x1), (4, .int 0), (0, .ref (w.2.1 + 503)), (1, .int x1), (2, .int x2), (3, .int x3)]) dX12_eval_10 (by decide) rfl (e_iconst (v := 0) dX12_eval_12 (by decide) (e_istore (ls' := [(8, .int 0), (7, .int 0), (6, .int x3), (5, .int x1), (4, .int 0), (0, .ref (w.2.1 + 503)), (1, .int x1), (2, .int x2), (3, .int x3)]) dX12_eval_13 (by decide) rfl (e_iconst (v := 0) dX12_eval_15 (by decide) (e_istore (ls' := [(9, .int 0), (8, .int 0), (7, .int 0), (6, .int x3), (5, .int x1), (4, .int 0), (0, .ref (w.2.1 + 503)), (1, .int x1), (2, .int x2), (3, .int x3)]) dX12_eval_16 (by decide) rfl k)))))))))))) ?_
  refine es_sub [6, 7, 8, 5, 4, 3, 2, 1, 0] rfl ?_
  exact t_X12_eval_18 N N x1 x2 0 x1 x3 0 0 0 S r hf
