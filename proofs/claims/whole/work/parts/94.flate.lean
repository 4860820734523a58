set_option maxRecDepth 100000 in
set_option maxHeartbeats 4000000 in
theorem t_X6_reads_264 {l : Launch} {w : xW} {g : Nat → xE} (N : Nat)    (S : xS) (r : xr) (hf : f_X6_reads_264 N   S = some r) : ES l w g M_X6_reads 264 [(0, .ref (w.2.1 + 404))] [] S r := by
  unfold f_X6_reads_264 at hf
  refine es_l (pc' := 265) (ls' := [(0, .ref (w.2.1 + 404))]) (st' := [.ref (w.2.1 + 404)]) (fun _ _ k => e_aload_n dX6_reads_264 0 rfl k) ?_
  refine es_callVVH (as := []) (rest := []) hf xc_6 dX6_reads_265 cs_X6_reads_X6_noBlockIsOpen ml_X6_86 im_X6_noBlockIsOpen se_X6_noBlockIsOpen rfl rfl (Nat.le_of_ble_eq_true rfl) (Nat.le_of_ble_eq_true rfl) (by decide) rfl (cel_404 _ _ _) (fun _ e => t_X6_noBlockIsOpen N  S _ e)  (x := (14, 268, 271, 89)) (suf := []) rfl (by decide) (by decide) th_c_X6_89 cast_IAE dX6_reads_271 (by decide) (ls' := [(0, .ref (w.2.1 + 404))]) rfl (fun S117 hf => ?_) (fun S119 hf => ?_)
  · refine es_l (pc' := 275) (ls' := [(0, .ref (w.2.1 + 404))]) (st' := [.int 1]) (fun _ _ k => e_goto (tgt := 274) dX6_reads_268 rfl (e_iconst (v := 1) dX6_reads_274 (by decide) k)) ?_
    exact es_ireturn (ty := .boolean) dX6_reads_275 rfl rfl hf
  · refine es_l (pc' := 273) (ls' := [(0, .ref (w.2.1 + 404))]) (st' := [.int 0]) (fun _ _ k => e_iconst (v := 0) dX6_reads_272 (by decide) k) ?_
    exact es_ireturn (ty := .boolean) dX6_reads_273 rfl rfl hf
set_option maxRecDepth 100000 in
set_option maxHeartbeats 4000000 in
theorem t_X6_reads_258 {l : Launch} {w : xW} {g : Nat → xE} (N : Nat) (k16 : Int32 → xS → Option xr) (hk16 : ∀ (x1 : Int32) (S : xS) (r : xr), k16 x1 S = some r → ES l w g M_X6_reads 16 [(0, .ref (w.2.1 + 404)), (1, .int x1)] [] S r) (x1 : Int32) (S : xS) (r : xr) (hf : f_X6_reads_258 N k16 x1 S = some r) : ES l w g M_X6_reads 258 [(0, .ref (w.2.1 + 404)), (1, .int x1)] [] S r := by
  unfold f_X6_reads_258 at hf
  refine es_l (pc' := 16) (ls' := [(1, .int (x1 + 1)), (0, .ref (w.2.1 + 404))]) (st' := []) (fun _ _ k => e_iinc (v := x1 + 1) (ls' := [(1, .int (x1 + 1)), (0, .ref (w.2.1 + 404))]) dX6_reads_258 1 rfl rfl (by decide) rfl (e_goto (tgt := 16) dX6_reads_261 rfl k)) ?_
  refine es_sub [1, 0] rfl ?_
  exact hk16 (x1 + 1) S r hf
set_option maxRecDepth 100000 in
set_option maxHeartbeats 4000000 in
theorem t_X6_reads_16 {l : Launch} {w : xW} {g : Nat → xE} (N : Nat)   : ∀ (n : Nat) (x1 : Int32) (S : xS) (r : xr), f_X6_reads_16 N  n x1 S = some r → ES l w g M_X6_reads 16 [(0, .ref (w.2.1 + 404)), (1, .int x1)] [] S r := by
  intro n
  induction n with
  | zero => intro x1 S r hf; cases hf
  | succ n ih =>
    intro x1 S r hf
    rw [f_X6_reads_16.eq_2] at hf
    refine es_l (pc' := 20) (ls' := [(0, .ref (w.2.1 + 404)), (1, .int x1)]) (st' := [.int 150, .int x1]) (fun _ _ k => e_iload_n dX6_reads_16 1 rfl (e_sipush (v := 150) dX6_reads_17 (by decide) k)) ?_
    refine es_br (c := 150 < x1) (tgt := 264) (pf := 23) (st' := []) (fun _ _ a b => e_icmp_gt dX6_reads_20 rfl a b) (fun c120 => ?_) (fun c120 => ?_)
    · rw [if_pos c120] at hf
      refine es_sub [0] rfl ?_
      exact t_X6_reads_264 N S r hf
    · rw [if_neg c120] at hf
      refine es_l (pc' := 24) (ls' := [(0, .ref (w.2.1 + 404)), (1, .int x1)]) (st' := [.ref (w.2.1 + 404)]) (fun _ _ k => e_aload_n dX6_reads_23 0 rfl k) ?_
      refine es_get (v := .ref (w.2.1 + 1)) xc_6 dX6_reads_24 fl_X6_9 (by decide) (by decide) (cel_404 _ _ _) rfl ?_
      refine es_callVIH (as := []) (rest := []) hf xc_9 dX6_reads_27 cs_X6_reads_X9_sort ml_X6_47 im_X9_sort se_X9_sort rfl rfl (Nat.le_of_ble_eq_true rfl) (Nat.le_of_ble_eq_true rfl) (by decide) rfl (cel_1 _ _ _) (fun _ e => t_X9_sort N  S _ e)  (x := (14, 268, 271, 89)) (suf := []) rfl (by decide) (by decide) th_c_X6_89 cast_IAE dX6_reads_271 (by decide) (ls' := [(0, .ref (w.2.1 + 404))]) rfl (fun v122 S121 hf => ?_) (fun S123 hf => ?_)
      · refine es_br (c := v122 = 0) (tgt := 264) (pf := 33) (st' := []) (fun _ _ a b => e_if_eq dX6_reads_30 rfl a b) (fun c124 => ?_) (fun c124 => ?_)
        · rw [if_pos c124] at hf
          refine es_sub [0] rfl ?_
          exact t_X6_reads_264 N S121 r hf
        · rw [if_neg c124] at hf
          refine es_l (pc' := 34) (ls' := [(0, .ref (w.2.1 + 404)), (1, .int x1)]) (st' := [.ref (w.2.1 + 404)]) (fun _ _ k => e_aload_n dX6_reads_33 0 rfl k) ?_
          refine es_get (v := .ref (w.2.1 + 1)) xc_6 dX6_reads_34 fl_X6_9 (by decide) (by decide) (cel_404 _ _ _) rfl ?_
          refine es_callVIH (as := []) (rest := []) hf xc_9 dX6_reads_37 cs_X6_reads_X9_sort ml_X6_47 im_X9_sort se_X9_sort rfl rfl (Nat.le_of_ble_eq_true rfl) (Nat.le_of_ble_eq_true rfl) (by decide) rfl (cel_1 _ _ _) (fun _ e => t_X9_sort N  S121 _ e)  (x := (14, 268, 271, 89)) (suf := []) rfl (by decide) (by decide) th_c_X6_89 cast_IAE dX6_reads_271 (by decide) (ls' := [(0, .ref (w.2.1 + 404))]) rfl (fun v126 S125 hf => ?_) (fun S127 hf => ?_)
          · by_cases c128 : (v126 : Int32).toInt ∈ [(1 : Int)]
            · rw [if_pos c128] at hf
              refine es_l (pc' := 184) (ls' := [(0, .ref (w.2.1 + 404)), (1, .int x1)]) (st' := []) (fun _ _ k => e_tabC (off := 144) dX6_reads_40 c128 (by decide) rfl k) ?_
              refine es_l (pc' := 185) (ls' := [(0, .ref (w.2.1 + 404)), (1, .int x1)]) (st' := [.ref (w.2.1 + 404)]) (fun _ _ k => e_aload_n dX6_reads_184 0 rfl k) ?_
              refine es_callVVH (as := []) (rest := []) hf xc_6 dX6_reads_185 cs_X6_reads_X6_kind ml_X6_53 im_X6_kind se_X6_kind rfl rfl (Nat.le_of_ble_eq_true rfl) (Nat.le_of_ble_eq_true rfl) (by decide) rfl (cel_404 _ _ _) (fun _ e => t_X6_kind N  S125 _ e)  (x := (14, 268, 271, 89)) (suf := []) rfl (by decide) (by decide) th_c_X6_89 cast_IAE dX6_reads_271 (by decide) (ls' := [(0, .ref (w.2.1 + 404))]) rfl (fun S129 hf => ?_) (fun S131 hf => ?_)
              · refine es_l (pc' := 258) (ls' := [(0, .ref (w.2.1 + 404)), (1, .int x1)]) (st' := []) (fun _ _ k => e_goto (tgt := 258) dX6_reads_188 rfl k) ?_
                exact t_X6_reads_258 N (f_X6_reads_16 N n) ih x1 S129 r hf
              · refine es_l (pc' := 273) (ls' := [(0, .ref (w.2.1 + 404))]) (st' := [.int 0]) (fun _ _ k => e_iconst (v := 0) dX6_reads_272 (by decide) k) ?_
                exact es_ireturn (ty := .boolean) dX6_reads_273 rfl rfl hf
            rw [if_neg c128] at hf
            by_cases c132 : (v126 : Int32).toInt ∈ [(2 : Int)]
            · rw [if_pos c132] at hf
              refine es_l (pc' := 191) (ls' := [(0, .ref (w.2.1 + 404)), (1, .int x1)]) (st' := []) (fun _ _ k => e_tabC (off := 151) dX6_reads_40 c132 (by decide) rfl k) ?_
              refine es_l (pc' := 192) (ls' := [(0, .ref (w.2.1 + 404)), (1, .int x1)]) (st' := [.ref (w.2.1 + 404)]) (fun _ _ k => e_aload_n dX6_reads_191 0 rfl k) ?_
              refine es_callVVH (as := []) (rest := []) hf xc_6 dX6_reads_192 cs_X6_reads_X6_insert ml_X6_56 im_X6_insert se_X6_insert rfl rfl (Nat.le_of_ble_eq_true rfl) (Nat.le_of_ble_eq_true rfl) (by decide) rfl (cel_404 _ _ _) (fun _ e => t_X6_insert N  S125 _ e)  (x := (14, 268, 271, 89)) (suf := []) rfl (by decide) (by decide) th_c_X6_89 cast_IAE dX6_reads_271 (by decide) (ls' := [(0, .ref (w.2.1 + 404))]) rfl (fun S133 hf => ?_) (fun S135 hf => ?_)
              · refine es_l (pc' := 258) (ls' := [(0, .ref (w.2.1 + 404)), (1, .int x1)]) (st' := []) (fun _ _ k => e_goto (tgt := 258) dX6_reads_195 rfl k) ?_
                exact t_X6_reads_258 N (f_X6_reads_16 N n) ih x1 S133 r hf
              · refine es_l (pc' := 273) (ls' := [(0, .ref (w.2.1 + 404))]) (st' := [.int 0]) (fun _ _ k => e_iconst (v := 0) dX6_reads_272 (by decide) k) ?_
                exact es_ireturn (ty := .boolean) dX6_reads_273 rfl rfl hf
            rw [if_neg c132] at hf
            by_cases c136 : (v126 : Int32).toInt ∈ [(3 : Int)]
            · rw [if_pos c136] at hf
              refine es_l (pc' := 198) (ls' := [(0, .ref (w.2.1 + 404)), (1, .int x1)]) (st' := []) (fun _ _ k => e_tabC (off := 158) dX6_reads_40 c136 (by decide) rfl k) ?_
              refine es_l (pc' := 199) (ls' := [(0, .ref (w.2.1 + 404)), (1, .int x1)]) (st' := [.ref (w.2.1 + 404)]) (fun _ _ k => e_aload_n dX6_reads_198 0 rfl k) ?_
              refine es_callVVH (as := []) (rest := []) hf xc_6 dX6_reads_199 cs_X6_reads_X6_delete ml_X6_59 im_X6_delete se_X6_delete rfl rfl (Nat.le_of_ble_eq_true rfl) (Nat.le_of_ble_eq_true rfl) (by decide) rfl (cel_404 _ _ _) (fun _ e => t_X6_delete N  S125 _ e)  (x := (14, 268, 271, 89)) (suf := []) rfl (by decide) (by decide) th_c_X6_89 cast_IAE dX6_reads_271 (by decide) (ls' := [(0, .ref (w.2.1 + 404))]) rfl (fun S137 hf => ?_) (fun S139 hf => ?_)
              · refine es_l (pc' := 258) (ls' := [(0, .ref (w.2.1 + 404)), (1, .int x1)]) (st' := []) (fun _ _ k => e_goto (tgt := 258) dX6_reads_202 rfl k) ?_
                exact t_X6_reads_258 N (f_X6_reads_16 N n) ih x1 S137 r hf
              · refine es_l (pc' := 273) (ls' := [(0, .ref (w.2.1 + 404))]) (st' := [.int 0]) (fun _ _ k => e_iconst (v := 0) dX6_reads_272 (by decide) k) ?_
                exact es_ireturn (ty := .boolean) dX6_reads_273 rfl rfl hf
            rw [if_neg c136] at hf
            by_cases c140 : (v126 : Int32).toInt ∈ [(5 : Int)]
            · rw [if_pos c140] at hf
              refine es_l (pc' := 205) (ls' := [(0, .ref (w.2.1 + 404)), (1, .int x1)]) (st' := []) (fun _ _ k => e_tabC (off := 165) dX6_reads_40 c140 (by decide) rfl k) ?_
              refine es_l (pc' := 206) (ls' := [(0, .ref (w.2.1 + 404)), (1, .int x1)]) (st' := [.ref (w.2.1 + 404)]) (fun _ _ k => e_aload_n dX6_reads_205 0 rfl k) ?_
              refine es_callVVH (as := []) (rest := []) hf xc_6 dX6_reads_206 cs_X6_reads_X6_set ml_X6_62 im_X6_set se_X6_set rfl rfl (Nat.le_of_ble_eq_true rfl) (Nat.le_of_ble_eq_true rfl) (by decide) rfl (cel_404 _ _ _) (fun _ e => t_X6_set N  S125 _ e)  (x := (14, 268, 271, 89)) (suf := []) rfl (by decide) (by decide) th_c_X6_89 cast_IAE dX6_reads_271 (by decide) (ls' := [(0, .ref (w.2.1 + 404))]) rfl (fun S141 hf => ?_) (fun S143 hf => ?_)
              · refine es_l (pc' := 258) (ls' := [(0, .ref (w.2.1 + 404)), (1, .int x1)]) (st' := []) (fun _ _ k => e_goto (tgt := 258) dX6_reads_209 rfl k) ?_
                exact t_X6_reads_258 N (f_X6_reads_16 N n) ih x1 S141 r hf
              · refine es_l (pc' := 273) (ls' := [(0, .ref (w.2.1 + 404))]) (st' := [.int 0]) (fun _ _ k => e_iconst (v := 0) dX6_reads_272 (by decide) k) ?_
                exact es_ireturn (ty := .boolean) dX6_reads_273 rfl rfl hf
            rw [if_neg c140] at hf
            by_cases c144 : (v126 : Int32).toInt ∈ [(6 : Int)]
            · rw [if_pos c144] at hf
              refine es_l (pc' := 212) (ls' := [(0, .ref (w.2.1 + 404)), (1, .int x1)]) (st' := []) (fun _ _ k => e_tabC (off := 172) dX6_reads_40 c144 (by decide) rfl k) ?_
              refine es_l (pc' := 213) (ls' := [(0, .ref (w.2.1 + 404)), (1, .int x1)]) (st' := [.ref (w.2.1 + 404)]) (fun _ _ k => e_aload_n dX6_reads_212 0 rfl k) ?_
              refine es_callVVH (as := []) (rest := []) hf xc_6 dX6_reads_213 cs_X6_reads_X6_let ml_X6_65 im_X6_let se_X6_let rfl rfl (Nat.le_of_ble_eq_true rfl) (Nat.le_of_ble_eq_true rfl) (by decide) rfl (cel_404 _ _ _) (fun _ e => t_X6_let N  S125 _ e)  (x := (14, 268, 271, 89)) (suf := []) rfl (by decide) (by decide) th_c_X6_89 cast_IAE dX6_reads_271 (by decide) (ls' := [(0, .ref (w.2.1 + 404))]) rfl (fun S145 hf => ?_) (fun S147 hf => ?_)
              · refine es_l (pc' := 258) (ls' := [(0, .ref (w.2.1 + 404)), (1, .int x1)]) (st' := []) (fun _ _ k => e_goto (tgt := 258) dX6_reads_216 rfl k) ?_
                exact t_X6_reads_258 N (f_X6_reads_16 N n) ih x1 S145 r hf
              · refine es_l (pc' := 273) (ls' := [(0, .ref (w.2.1 + 404))]) (st' := [.int 0]) (fun _ _ k => e_iconst (v := 0) dX6_reads_272 (by decide) k) ?_
                exact es_ireturn (ty := .boolean) dX6_reads_273 rfl rfl hf
            rw [if_neg c144] at hf
            by_cases c148 : (v126 : Int32).toInt ∈ [(7 : Int)]
            · rw [if_pos c148] at hf
              refine es_l (pc' := 219) (ls' := [(0, .ref (w.2.1 + 404)), (1, .int x1)]) (st' := []) (fun _ _ k => e_tabC (off := 179) dX6_reads_40 c148 (by decide) rfl k) ?_
              refine es_l (pc' := 220) (ls' := [(0, .ref (w.2.1 + 404)), (1, .int x1)]) (st' := [.ref (w.2.1 + 404)]) (fun _ _ k => e_aload_n dX6_reads_219 0 rfl k) ?_
              refine es_callVVH (as := []) (rest := []) hf xc_6 dX6_reads_220 cs_X6_reads_X6_output ml_X6_68 im_X6_output se_X6_output rfl rfl (Nat.le_of_ble_eq_true rfl) (Nat.le_of_ble_eq_true rfl) (by decide) rfl (cel_404 _ _ _) (fun _ e => t_X6_output N  S125 _ e)  (x := (14, 268, 271, 89)) (suf := []) rfl (by decide) (by decide) th_c_X6_89 cast_IAE dX6_reads_271 (by decide) (ls' := [(0, .ref (w.2.1 + 404))]) rfl (fun S149 hf => ?_) (fun S151 hf => ?_)
              · refine es_l (pc' := 258) (ls' := [(0, .ref (w.2.1 + 404)), (1, .int x1)]) (st' := []) (fun _ _ k => e_goto (tgt := 258) dX6_reads_223 rfl k) ?_
                exact t_X6_reads_258 N (f_X6_reads_16 N n) ih x1 S149 r hf
              · refine es_l (pc' := 273) (ls' := [(0, .ref (w.2.1 + 404))]) (st' := [.int 0]) (fun _ _ k => e_iconst (v := 0) dX6_reads_272 (by decide) k) ?_
                exact es_ireturn (ty := .boolean) dX6_reads_273 rfl rfl hf
            rw [if_neg c148] at hf
            by_cases c152 : (v126 : Int32).toInt ∈ [(8 : Int)]
            · rw [if_pos c152] at hf
              refine es_l (pc' := 226) (ls' := [(0, .ref (w.2.1 + 404)), (1, .int x1)]) (st' := []) (fun _ _ k => e_tabC (off := 186) dX6_reads_40 c152 (by decide) rfl k) ?_
              refine es_l (pc' := 227) (ls' := [(0, .ref (w.2.1 + 404)), (1, .int x1)]) (st' := [.ref (w.2.1 + 404)]) (fun _ _ k => e_aload_n dX6_reads_226 0 rfl k) ?_
              refine es_callVVH (as := []) (rest := []) hf xc_6 dX6_reads_227 cs_X6_reads_X6_each ml_X6_71 im_X6_each se_X6_each rfl rfl (Nat.le_of_ble_eq_true rfl) (Nat.le_of_ble_eq_true rfl) (by decide) rfl (cel_404 _ _ _) (fun _ e => t_X6_each N  S125 _ e)  (x := (14, 268, 271, 89)) (suf := []) rfl (by decide) (by decide) th_c_X6_89 cast_IAE dX6_reads_271 (by decide) (ls' := [(0, .ref (w.2.1 + 404))]) rfl (fun S153 hf => ?_) (fun S155 hf => ?_)
              · refine es_l (pc' := 258) (ls' := [(0, .ref (w.2.1 + 404)), (1, .int x1)]) (st' := []) (fun _ _ k => e_goto (tgt := 258) dX6_reads_230 rfl k) ?_
                exact t_X6_reads_258 N (f_X6_reads_16 N n) ih x1 S153 r hf
              · refine es_l (pc' := 273) (ls' := [(0, .ref (w.2.1 + 404))]) (st' := [.int 0]) (fun _ _ k => e_iconst (v := 0) dX6_reads_272 (by decide) k) ?_
                exact es_ireturn (ty := .boolean) dX6_reads_273 rfl rfl hf
            rw [if_neg c152] at hf
            by_cases c156 : (v126 : Int32).toInt ∈ [(10 : Int), (12 : Int)]
            · rw [if_pos c156] at hf
              refine es_l (pc' := 233) (ls' := [(0, .ref (w.2.1 + 404)), (1, .int x1)]) (st' := []) (fun _ _ k => e_tabC (off := 193) dX6_reads_40 c156 (by decide) rfl k) ?_
              refine es_l (pc' := 234) (ls' := [(0, .ref (w.2.1 + 404)), (1, .int x1)]) (st' := [.ref (w.2.1 + 404)]) (fun _ _ k => e_aload_n dX6_reads_233 0 rfl k) ?_
              refine es_callVVH (as := []) (rest := []) hf xc_6 dX6_reads_234 cs_X6_reads_X6_conditional ml_X6_74 im_X6_conditional se_X6_conditional rfl rfl (Nat.le_of_ble_eq_true rfl) (Nat.le_of_ble_eq_true rfl) (by decide) rfl (cel_404 _ _ _) (fun _ e => t_X6_conditional N  S125 _ e)  (x := (14, 268, 271, 89)) (suf := []) rfl (by decide) (by decide) th_c_X6_89 cast_IAE dX6_reads_271 (by decide) (ls' := [(0, .ref (w.2.1 + 404))]) rfl (fun S157 hf => ?_) (fun S159 hf => ?_)
              · refine es_l (pc' := 258) (ls' := [(0, .ref (w.2.1 + 404)), (1, .int x1)]) (st' := []) (fun _ _ k => e_goto (tgt := 258) dX6_reads_237 rfl k) ?_
                exact t_X6_reads_258 N (f_X6_reads_16 N n) ih x1 S157 r hf
              · refine es_l (pc' := 273) (ls' := [(0, .ref (w.2.1 + 404))]) (st' := [.int 0]) (fun _ _ k => e_iconst (v := 0) dX6_reads_272 (by decide) k) ?_
                exact es_ireturn (ty := .boolean) dX6_reads_273 rfl rfl hf
            rw [if_neg c156] at hf
            by_cases c160 : (v126 : Int32).toInt ∈ [(13 : Int)]
            · rw [if_pos c160] at hf
              refine es_l (pc' := 240) (ls' := [(0, .ref (w.2.1 + 404)), (1, .int x1)]) (st' := []) (fun _ _ k => e_tabC (off := 200) dX6_reads_40 c160 (by decide) rfl k) ?_
              refine es_l (pc' := 241) (ls' := [(0, .ref (w.2.1 + 404)), (1, .int x1)]) (st' := [.ref (w.2.1 + 404)]) (fun _ _ k => e_aload_n dX6_reads_240 0 rfl k) ?_
              refine es_callVVH (as := []) (rest := []) hf xc_6 dX6_reads_241 cs_X6_reads_X6_remove ml_X6_77 im_X6_remove se_X6_remove rfl rfl (Nat.le_of_ble_eq_true rfl) (Nat.le_of_ble_eq_true rfl) (by decide) rfl (cel_404 _ _ _) (fun _ e => t_X6_remove N  S125 _ e)  (x := (14, 268, 271, 89)) (suf := []) rfl (by decide) (by decide) th_c_X6_89 cast_IAE dX6_reads_271 (by decide) (ls' := [(0, .ref (w.2.1 + 404))]) rfl (fun S161 hf => ?_) (fun S163 hf => ?_)
              · refine es_l (pc' := 258) (ls' := [(0, .ref (w.2.1 + 404)), (1, .int x1)]) (st' := []) (fun _ _ k => e_goto (tgt := 258) dX6_reads_244 rfl k) ?_
                exact t_X6_reads_258 N (f_X6_reads_16 N n) ih x1 S161 r hf
              · refine es_l (pc' := 273) (ls' := [(0, .ref (w.2.1 + 404))]) (st' := [.int 0]) (fun _ _ k => e_iconst (v := 0) dX6_reads_272 (by decide) k) ?_
                exact es_ireturn (ty := .boolean) dX6_reads_273 rfl rfl hf
            rw [if_neg c160] at hf
            by_cases c164 : (v126 : Int32).toInt ∈ [(32 : Int)]
            · rw [if_pos c164] at hf
              refine es_l (pc' := 247) (ls' := [(0, .ref (w.2.1 + 404)), (1, .int x1)]) (st' := []) (fun _ _ k => e_tabC (off := 207) dX6_reads_40 c164 (by decide) rfl k) ?_
              refine es_l (pc' := 248) (ls' := [(0, .ref (w.2.1 + 404)), (1, .int x1)]) (st' := [.ref (w.2.1 + 404)]) (fun _ _ k => e_aload_n dX6_reads_247 0 rfl k) ?_
              refine es_callVVH (as := []) (rest := []) hf xc_6 dX6_reads_248 cs_X6_reads_X6_closeBlock ml_X6_80 im_X6_closeBlock se_X6_closeBlock rfl rfl (Nat.le_of_ble_eq_true rfl) (Nat.le_of_ble_eq_true rfl) (by decide) rfl (cel_404 _ _ _) (fun _ e => t_X6_closeBlock N  S125 _ e)  (x := (14, 268, 271, 89)) (suf := []) rfl (by decide) (by decide) th_c_X6_89 cast_IAE dX6_reads_271 (by decide) (ls' := [(0, .ref (w.2.1 + 404))]) rfl (fun S165 hf => ?_) (fun S167 hf => ?_)
              · refine es_l (pc' := 258) (ls' := [(0, .ref (w.2.1 + 404)), (1, .int x1)]) (st' := []) (fun _ _ k => e_goto (tgt := 258) dX6_reads_251 rfl k) ?_
                exact t_X6_reads_258 N (f_X6_reads_16 N n) ih x1 S165 r hf
              · refine es_l (pc' := 273) (ls' := [(0, .ref (w.2.1 + 404))]) (st' := [.int 0]) (fun _ _ k => e_iconst (v := 0) dX6_reads_272 (by decide) k) ?_
                exact es_ireturn (ty := .boolean) dX6_reads_273 rfl rfl hf
            rw [if_neg c164] at hf
            refine es_l (pc' := 254) (ls' := [(0, .ref (w.2.1 + 404)), (1, .int x1)]) (st' := []) (fun _ _ k => e_tabD (L := [1, 2, 3, 5, 6, 7, 8, 10, 12, 13, 32]) dX6_reads_40 (by  simp only [List.mem_cons, List.not_mem_nil, or_false] at *; omega) (by decide) rfl k) ?_
            refine es_l (pc' := 255) (ls' := [(0, .ref (w.2.1 + 404)), (1, .int x1)]) (st' := [.ref (w.2.1 + 404)]) (fun _ _ k => e_aload_n dX6_reads_254 0 rfl k) ?_
            refine es_callVVH (as := []) (rest := []) hf xc_6 dX6_reads_255 cs_X6_reads_X6_change ml_X6_83 im_X6_change se_X6_change rfl rfl (Nat.le_of_ble_eq_true rfl) (Nat.le_of_ble_eq_true rfl) (by decide) rfl (cel_404 _ _ _) (fun _ e => t_X6_change N  S125 _ e)  (x := (14, 268, 271, 89)) (suf := []) rfl (by decide) (by decide) th_c_X6_89 cast_IAE dX6_reads_271 (by decide) (ls' := [(0, .ref (w.2.1 + 404))]) rfl (fun S168 hf => ?_) (fun S170 hf => ?_)
            · exact t_X6_reads_258 N (f_X6_reads_16 N n) ih x1 S168 r hf
            · refine es_l (pc' := 273) (ls' := [(0, .ref (w.2.1 + 404))]) (st' := [.int 0]) (fun _ _ k => e_iconst (v := 0) dX6_reads_272 (by decide) k) ?_
              exact es_ireturn (ty := .boolean) dX6_reads_273 rfl rfl hf
          · refine es_l (pc' := 273) (ls' := [(0, .ref (w.2.1 + 404))]) (st' := [.int 0]) (fun _ _ k => e_iconst (v := 0) dX6_reads_272 (by decide) k) ?_
            exact es_ireturn (ty := .boolean) dX6_reads_273 rfl rfl hf
      · refine es_l (pc' := 273) (ls' := [(0, .ref (w.2.1 + 404))]) (st' := [.int 0]) (fun _ _ k => e_iconst (v := 0) dX6_reads_272 (by decide) k) ?_
        exact es_ireturn (ty := .boolean) dX6_reads_273 rfl rfl hf
set_option maxRecDepth 100000 in
set_option maxHeartbeats 4000000 in
theorem t_X6_reads {l : Launch} {w : xW} {g : Nat → xE} (N : Nat)  (S : xS) (r : xr) (hf : f_X6_reads N  S = some r) : ES l w g M_X6_reads 0 (lv_args 0 [.ref (w.2.1 + 404)]) [] S r := by
  show ES l w g M_X6_reads 0 [(0, .ref (w.2.1 + 404))] [] S r
  unfold f_X6_reads at hf
  refine es_l (pc' := 1) (ls' := [(0, .ref (w.2.1 + 404))]) (st' := [.ref (w.2.1 + 404)]) (fun _ _ k => e_aload_n dX6_reads_0 0 rfl k) ?_
  refine es_get (v := .ref (w.2.1 + 405)) xc_6 dX6_reads_1 fl_X6_28 (by decide) (by decide) (cel_404 _ _ _) rfl ?_
  refine es_callVV (as := []) (rest := []) hf xc_7 dX6_reads_4 cs_X6_reads_X7_clear ml_X6_41 im_X7_clear se_X7_clear rfl rfl (Nat.le_of_ble_eq_true rfl) (Nat.le_of_ble_eq_true rfl) (by decide) rfl (cel_405 _ _ _) (fun _ e => t_X7_clear N  S _ e) (by decide) (fun S171 hf => ?_)
  refine es_l (pc' := 8) (ls' := [(0, .ref (w.2.1 + 404))]) (st' := [.ref (w.2.1 + 404)]) (fun _ _ k => e_aload_n dX6_reads_7 0 rfl k) ?_
  refine es_get (v := .ref (w.2.1 + 97)) xc_6 dX6_reads_8 fl_X6_19 (by decide) (by decide) (cel_404 _ _ _) rfl ?_
  refine es_callVV (as := []) (rest := []) hf xc_5 dX6_reads_11 cs_X6_reads_X5_clear ml_X6_44 im_X5_clear se_X5_clear rfl rfl (Nat.le_of_ble_eq_true rfl) (Nat.le_of_ble_eq_true rfl) (by decide) rfl (cel_97 _ _ _) (fun _ e => t_X5_clear N  S171 _ e) (by decide) (fun S173 hf => ?_)
  refine es_l (pc' := 16) (ls' := [(1, .int 0), (0, .ref (w.2.1 + 404))]) (st' := []) (fun _ _ k => e_iconst (v := 0) dX6_reads_14 (by decide) (e_istore_n (ls' := [(1, .int 0), (0, .ref (w.2.1 + 404))]) dX6_reads_15 (by decide) rfl k)) ?_
  refine es_sub [1, 0] rfl ?_
  exact t_X6_reads_16 N N 0 S173 r hf
set_option maxRecDepth 100000 in
set_option maxHeartbeats 4000000 in
theorem t_X11_load_44 {l : Launch} {w : xW} {g : Nat → xE} (N : Nat)   (s0 : Int32) (S : xS) (r : xr) (hf : f_X11_load_44 N  s0 S = some r) : ES l w g M_X11_load 44 [(0, .ref (w.2.1 + 0))] [.int s0, .ref (w.2.1 + 0)] S r := by
  unfold f_X11_load_44 at hf
  refine es_put xc_11 dX11_load_44 fl_X11_55 (by decide) (by decide) (by decide) (cel_0 _ _ _) rfl rfl rfl rfl ?_
  refine es_l (pc' := 48) (ls' := [(0, .ref (w.2.1 + 0))]) (st' := [.ref (w.2.1 + 0)]) (fun _ _ k => e_aload_n dX11_load_47 0 rfl k) ?_
  refine es_get (v := .ref (w.2.1 + 1)) xc_11 dX11_load_48 fl_X11_10 (by decide) (by decide) (cel_0 _ _ _) rfl ?_
  refine es_l (pc' := 52) (ls' := [(0, .ref (w.2.1 + 0))]) (st' := [.int 0, .ref (w.2.1 + 1)]) (fun _ _ k => e_iconst (v := 0) dX11_load_51 (by decide) k) ?_
  refine es_put xc_9 dX11_load_52 fl_X11_62 (by decide) (by decide) (by decide) (cel_1 _ _ _) rfl rfl rfl rfl ?_
  refine es_l (pc' := 56) (ls' := [(0, .ref (w.2.1 + 0))]) (st' := [.ref (w.2.1 + 0)]) (fun _ _ k => e_aload_n dX11_load_55 0 rfl k) ?_
  refine es_get (v := .int (S.1 0 6)) xc_11 dX11_load_56 fl_X11_84 (by decide) (by decide) (cel_0 _ _ _) rfl ?_
  refine es_br (c := (S.1 0 6) = 0) (tgt := 62) (pf := 77) (st' := []) (fun _ _ a b => e_if_ne dX11_load_59 rfl b a) (fun c27 => ?_) (fun c27 => ?_)
  · rw [if_pos c27] at hf
    refine es_l (pc' := 63) (ls' := [(0, .ref (w.2.1 + 0))]) (st' := [.ref (w.2.1 + 0)]) (fun _ _ k => e_aload_n dX11_load_62 0 rfl k) ?_
    refine es_get (v := .ref (w.2.1 + 7)) xc_11 dX11_load_63 fl_X11_19 (by decide) (by decide) (cel_0 _ _ _) rfl ?_
    refine es_callVV (as := []) (rest := []) hf xc_3 dX11_load_66 cs_X11_load_X3_takeBack ml_X11_92 im_X3_takeBack se_X3_takeBack rfl rfl (Nat.le_of_ble_eq_true rfl) (Nat.le_of_ble_eq_true rfl) (by decide) rfl (cel_7 _ _ _) (fun _ e => t_X3_takeBack N  (sI (sI S 0 7 s0) 1 5 0) _ e) (by decide) (fun S28 hf => ?_)
    exact es_throw (names := ["java/lang/RuntimeException", "java/lang/Exception"]) (by decide +kernel) (by decide +kernel) th_k_X11_59 th_i_IllegalArgumentException th_a_X11_59 th_g_X11_59 dX11_load_69 dX11_load_72 dX11_load_73 dX11_load_76 (by decide) (by decide) (by decide) hf
  · rw [if_neg c27] at hf
    refine es_l (pc' := 78) (ls' := [(0, .ref (w.2.1 + 0))]) (st' := [.ref (w.2.1 + 0)]) (fun _ _ k => e_aload_n dX11_load_77 0 rfl k) ?_
    refine es_get (v := .ref (w.2.1 + 1)) xc_11 dX11_load_78 fl_X11_10 (by decide) (by decide) (cel_0 _ _ _) rfl ?_
    refine es_get (v := .int (S.1 1 6)) xc_9 dX11_load_81 fl_X11_95 (by decide) (by decide) (cel_1 _ _ _) rfl ?_
    exact es_ireturn (ty := .int) dX11_load_84 rfl rfl hf
set_option maxRecDepth 100000 in
set_option maxHeartbeats 4000000 in
theorem t_X11_load {l : Launch} {w : xW} {g : Nat → xE} (N : Nat)  (S : xS) (r : xr) (hf : f_X11_load N  S = some r) : ES l w g M_X11_load 0 (lv_args 0 [.ref (w.2.1 + 0)]) [] S r := by
  show ES l w g M_X11_load 0 [(0, .ref (w.2.1 + 0))] [] S r
  unfold f_X11_load at hf
  refine es_l (pc' := 1) (ls' := [(0, .ref (w.2.1 + 0))]) (st' := [.ref (w.2.1 + 0)]) (fun _ _ k => e_aload_n dX11_load_0 0 rfl k) ?_
  refine es_get (v := .ref (w.2.1 + 7)) xc_11 dX11_load_1 fl_X11_19 (by decide) (by decide) (cel_0 _ _ _) rfl ?_
  refine es_callVV (as := []) (rest := []) hf xc_3 dX11_load_4 cs_X11_load_X3_keep ml_X11_74 im_X3_keep se_X3_keep rfl rfl (Nat.le_of_ble_eq_true rfl) (Nat.le_of_ble_eq_true rfl) (by decide) rfl (cel_7 _ _ _) (fun _ e => t_X3_keep N  S _ e) (by decide) (fun S30 hf => ?_)
  refine es_l (pc' := 8) (ls' := [(0, .ref (w.2.1 + 0))]) (st' := [.ref (w.2.1 + 0)]) (fun _ _ k => e_aload_n dX11_load_7 0 rfl k) ?_
  refine es_get (v := .ref (w.2.1 + 1)) xc_11 dX11_load_8 fl_X11_10 (by decide) (by decide) (cel_0 _ _ _) rfl ?_
  refine es_callVV (as := []) (rest := []) hf xc_9 dX11_load_11 cs_X11_load_X9_scan ml_X11_77 im_X9_scan se_X9_scan rfl rfl (Nat.le_of_ble_eq_true rfl) (Nat.le_of_ble_eq_true rfl) (by decide) rfl (cel_1 _ _ _) (fun _ e => t_X9_scan N  S30 _ e) (by decide) (fun S32 hf => ?_)
  refine es_l (pc' := 16) (ls' := [(0, .ref (w.2.1 + 0))]) (st' := [.ref (w.2.1 + 0), .ref (w.2.1 + 0)]) (fun _ _ k => e_aload_n dX11_load_14 0 rfl (e_aload_n dX11_load_15 0 rfl k)) ?_
  refine es_get (v := .ref (w.2.1 + 404)) xc_11 dX11_load_16 fl_X11_42 (by decide) (by decide) (cel_0 _ _ _) rfl ?_
  refine es_callVI (as := []) (rest := [.ref (w.2.1 + 0)]) hf xc_6 dX11_load_19 cs_X11_load_X6_reads ml_X11_80 im_X6_reads se_X6_reads rfl rfl (Nat.le_of_ble_eq_true rfl) (Nat.le_of_ble_eq_true rfl) (by decide) rfl (cel_404 _ _ _) (fun _ e => t_X6_reads N  S32 _ e) (by decide) (fun v35 S34 hf => ?_)
  obtain ⟨g36, hf⟩ := xg hf
  refine es_put xc_11 dX11_load_22 fl_X11_84 (by decide) (by decide) (by decide) (cel_0 _ _ _) rfl (xbo_n g36) (xbo_f g36) rfl ?_
  refine es_l (pc' := 27) (ls' := [(0, .ref (w.2.1 + 0))]) (st' := [.ref (w.2.1 + 0), .ref (w.2.1 + 0)]) (fun _ _ k => e_aload_n dX11_load_25 0 rfl (e_aload_n dX11_load_26 0 rfl k)) ?_
  refine es_get (v := .int v35) xc_11 dX11_load_27 fl_X11_84 (by decide) (by decide) (cel_0 _ _ _) rfl ?_
  refine es_br (c := v35 = 0) (tgt := 37) (pf := 33) (st' := [.ref (w.2.1 + 0)]) (fun _ _ a b => e_if_eq dX11_load_30 rfl a b) (fun c37 => ?_) (fun c37 => ?_)
  · rw [if_pos c37] at hf
    refine es_l (pc' := 38) (ls' := [(0, .ref (w.2.1 + 0))]) (st' := [.ref (w.2.1 + 0), .ref (w.2.1 + 0)]) (fun _ _ k => e_aload_n dX11_load_37 0 rfl k) ?_
    refine es_get (v := .ref (w.2.1 + 1)) xc_11 dX11_load_38 fl_X11_10 (by decide) (by decide) (cel_0 _ _ _) rfl ?_
    refine es_callVI (as := []) (rest := [.ref (w.2.1 + 0)]) hf xc_9 dX11_load_41 cs_X11_load_X9_wrongPlace ml_X11_88 im_X9_wrongPlace se_X9_wrongPlace rfl rfl (Nat.le_of_ble_eq_true rfl) (Nat.le_of_ble_eq_true rfl) (by decide) rfl (cel_1 _ _ _) (fun _ e => t_X9_wrongPlace N  (sI S34 0 6 v35) _ e) (by decide) (fun v39 S38 hf => ?_)
    exact t_X11_load_44 N v39 S38 r hf
  · rw [if_neg c37] at hf
    refine es_l (pc' := 44) (ls' := [(0, .ref (w.2.1 + 0))]) (st' := [.int ((-1)), .ref (w.2.1 + 0)]) (fun _ _ k => e_iconst (v := (-1)) dX11_load_33 (by decide) (e_goto (tgt := 44) dX11_load_34 rfl k)) ?_
    exact t_X11_load_44 N ((-1)) (sI S34 0 6 v35) r hf
