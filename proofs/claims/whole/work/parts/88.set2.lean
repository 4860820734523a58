/-! 88: the step that sets; one turn; a run -/
section S2
variable {N n t i C c sp ns np nu nk nv fu B sn ou p b d κ sz k f m a us w r : Nat} {wd A ow : Nat → Nat} {D : Nat → xD} {S Sc Sr Sc' Sr' : xS} {sc : Nat → Nat → Nat → Prop} {E : List xCe}
theorem t_sets {U : List xV} {o : Option (Nat × List xCe)} (hN : 1000 < N) (hi : i < ns) (h : PS ns np nu nk nv fu B wd A D i sp ow sn ou Sc Sr) (ha : (D i).1 = 5) (h0 : Sc.1 (102 + 2 * i) 0 = nn (D i).1) (hk : k < nk) (z1 : Sc.1 (102 + 2 * i) 1 = nn (k + 1)) (hw : WHR Sc (Sc.1 (102 + 2 * i)) np k (sc2 (D i).2.2.2.2.2) o) (z7 : Sc.1 (102 + 2 * i) 7 = nn us) (z8 : Sc.1 (102 + 2 * i) 8 = nn (us + U.length)) (hU : PUT Sc np nu (k + 1) (wd k) (sc2 (D i).2.2.2.2.2) us U) (hs : seg (Sr.1 518) (A i) (100 :: 105 :: nn k :: (whc o ++ nn U.length :: cdp U))) (hA : A (i + 1) = A i + 4 + (whc o).length + (cdp U).length) : OUT N ns np nu nk nv fu B wd A D t 4 (fun _ q => q = sp) (fun n => f_X2_goThrough_74 N (f_X2_goThrough_14 N n) (nn (i + 1)) (nn t) (102 + 2 * i) Sc) (fun n => f_X12_run_58 N n (nn (A i + 1)) Sr) := by
  have hps := h
  obtain ⟨h1, h2, h3, h4, h5, h6⟩ := h
  have hn := h1.1
  have hnp := h1.2.1
  have hnu := h1.2.2.1
  have hA8 := h1.2.2.2.2.2.2.1
  have h97 := h1.2.2.2.2.1
  have hnk : nk ≤ 7 := h3.1.2.2.2.2.2.2.1
  obtain ⟨hw6, hM⟩ := h2 k hk
  obtain ⟨l1, l2⟩ := PRG_lt h1 hi
  have xs : xStep (102 + 2 * i) := ⟨by omega, by omega, by omega⟩
  rw [ha] at h0
  have hU0 := hU
  obtain ⟨p1, p2, p3, p4⟩ := hU
  obtain ⟨x, L, wx, wl⟩ := whc_h (o := o)
  obtain ⟨_, s1⟩ := seg_hd hs
  obtain ⟨c0, s2⟩ := seg_hd s1
  obtain ⟨c1, s3⟩ := seg_hd s2
  obtain ⟨s4, s5⟩ := seg_app.mp s3
  obtain ⟨c3, s6⟩ := seg_hd s5
  have c2 : Sr.1 518 (A i + 1 + 1 + 1) = nn x := by
    have := s4
    rw [wx] at this
    exact (seg_hd this).1
  obtain ⟨ch, S1, S2, y, r1, r2, r3, r4, r5, r6, r7⟩ := chs (N := N) hN h1 h3 hk hw s4 (by omega)
  have kv1 : kv Sc S1 := ⟨fun q j a _ => by rw [r3.1 q a], r3.2⟩
  have g1 : ∀ q, ¬ q = 412 → S1.1 q = Sc.1 q := fun q hq => r3.1 q hq
  obtain ⟨S3, t1, t2, t3, t4⟩ := s16_l (N := N) (U := U) (y := y) (ch := ch) (i := i) (us := us) (V := Sc.1 410) (Fw := fun v f => Sc.1 (32 + v) f) (Cv := cvC Sc) hN (by omega) hnp hnu r5 64 0 N S1 (by omega) (by rw [g1 _ (by omega)]; exact z7) (by rw [g1 _ (by omega)]; exact z8) (PUT_g hU0 (kpg_v kv1) hnp) (by rw [g1 _ (by omega)]; exact h97) (fun v hv => envC_i (ENC_w (RT_c h3) hv) (kvi_v kv1)) (by omega)
  have kc3 : kvi Sc S3 := kvi_t (kvi_v kv1) t2
  have gz : S3.1 (102 + 2 * i) = Sc.1 (102 + 2 * i) := kvi_q kc3 (by omega) (by omega) (by omega)
  obtain ⟨S4, u1, u2, u3, u4, u5⟩ := s95_l (N := N) (U := U) (y := y) (ch := ch) (i := i) (us := us) (k := k) hN (by omega) hnp hnu (by omega) hw6 r5 64 0 N S3 (by omega) (by rw [gz]; exact z7) (by rw [gz]; exact z8) (by rw [gz]; exact z1) (PUT_g hU0 (kpg_i kc3) hnp) (by omega)
  have e518 : S2.1 518 = Sr.1 518 := r4.1 518 (by decide) (by decide)
  have x3e : A i + 1 + 1 + 1 + (whc o).length = A i + 4 + x := by omega
  rw [x3e] at c3 s6
  have hM2 : ∀ u ∈ U, u.1 < 6 ∧ (∃ b, 1 ≤ b ∧ b ≤ 32 ∧ Sc.1 (20 + (k + 1)) u.1 = (ll (2 ^ b - 1)).toInt32 ∧ S2.1 508 (6 * k + u.1) = nn b) ∧ EXC Sc np (k + 1) (sc2 (D i).2.2.2.2.2) u.2.1 u.2.2 := fun u hu => by
    obtain ⟨q1, q2⟩ := p4 u hu
    obtain ⟨bb, y1, y2, y3, y4⟩ := hM u.1 q1
    exact ⟨by omega, ⟨bb, y1, y2, y3, by rw [r4.1 508 (by decide) (by decide)]; exact y4⟩, q2⟩
  obtain ⟨S5, v1, v2, v3, v4, v5⟩ := s76_l (N := N) (U := U) (M := Sc.1 (20 + (k + 1))) (ch := ch) (x5 := nn (A (i + 1))) (x3 := A i + 4 + x) (k := k) (V := Sc.1 410) (Fw := fun v f => Sc.1 (32 + v) f) (Cv := cvC Sc) hN (by omega) hnp p2 (by omega) 64 0 N S2 (by omega) (by rw [e518]; exact s6) hM2 (fun v hv hc => envR_5 (ENR_w (RT_r h3) hv (by rw [r7 v hv hc]; omega)) r4) r6 (by omega)
  obtain ⟨S6, w1, w2, w3, w4⟩ := s230_l (N := N) (x5 := nn (A (i + 1))) 384 0 N S5 (by omega) (by omega)
  have kr5 : kmi Sr S5 := kmi_t (kmi_31 r4) ⟨fun q j a _ => by rw [v2 q (by omega) (by omega)], v3⟩
  have m5 : S5.1 503 39 = nn 0 := by rw [v2 503 (by omega) (by omega), r4.1 503 (by decide) (by decide)]; exact h4.2.2.2.2.2.2.2.2.2.2
  obtain ⟨k1, k2, k3, k4, k5, k6⟩ := PS_i hps kc3 kr5 m5
  have ca : f_X2_act N (102 + 2 * i) Sc = some (rV S4) := by
    rw [a_disp (c := 5) (by omega) h0 (by decide), if_neg (by decide), if_pos rfl]
    have e : f_X2_set N (102 + 2 * i) Sc = some (rV S4) := by
      unfold f_X2_set
      rw [if_pos xs, z1, xcJ_of r1]
      exact t1.trans u1
    rw [xcV_of e]
    rfl
  have rr : f_X12_step N (nn (A i + 1)) Sr = some (rI (nn (A (i + 1))) S6) := by
    rw [r_disp (by omega) c0 (by decide), if_neg (by decide), if_neg (by decide), if_neg (by decide), if_neg (by decide), if_neg (by decide), if_pos rfl]
    have e : f_X12_setAll N (nn (A i + 1) + 1) Sr = some (rI (nn (A (i + 1))) S6) := by
      have c1' : Sr.1 518 (A i + 1 + 1) = nn k := c1
      have r2' : f_X12_choose N (nn k) (nn (A i + 1 + 1 + 1)) Sr = some (rV S2) := r2
      have c2' : S2.1 518 (A i + 1 + 1 + 1) = nn x := by rw [e518]; exact c2
      have c3' : S2.1 518 (A i + 4 + x) = nn U.length := by rw [e518]; exact c3
      unfold f_X12_setAll
      rw [nn_addl, nn_addl, nn_addl, if_pos ((xin_nn (by omega)).mpr (by omega)), nn_t (a := A i + 1 + 1) (by omega), c1', xcV_of r2', if_pos ((xin_nn (by omega)).mpr (by omega)), nn_t (a := A i + 1 + 1 + 1) (by omega), c2', nn_add, show A i + 1 + 1 + 2 + x = A i + 4 + x by omega, if_pos ((xin_nn (by omega)).mpr (by omega)), nn_t (a := A i + 4 + x) (by omega), c3', nn_addl]
      have e44 := s44_l (N := N) (S := S2) (k := k) (x3 := nn (A i + 4 + x)) (nU := U.length) p2 U 0 (A i + 4 + x + 1) N (by omega) (by rw [e518]; exact s6) (by omega) (by omega)
      rw [show A i + 4 + x + 1 + (cdp U).length = A (i + 1) by omega] at e44
      exact e44.trans (v1.trans w1)
    rw [xcI_of e]
  have rt : RT S4 S6 ow nk wd sn nv (D i).2.2.2.2.2 := by
    refine RT_st k3 (fun q q1 q2 => u2 q q1) (by rw [u3]) (fun q q1 q2 => w2 q q1) (by rw [w2 503 (by omega)]) (fun v hv hv0 => ?_)
    obtain ⟨d1, d2, _⟩ := k3.1.2.2.1 v hv hv0
    have o5 : S5.1 512 = S2.1 512 := v2 512 (by omega) (by omega)
    have n6 : ∀ f, f < 6 → S6.1 512 (6 * v + f) = S5.1 530 (6 * v + f) := fun f hf => by rw [w4, if_pos (by omega)]
    by_cases q : ch v = true
    · have ek := r7 v hv q
      refine ⟨fun f hf => ?_, fun f hf hwf => ?_⟩
      · rw [n6 f hf, u5 v (by omega) hv, if_pos q, v5 v (by omega) hv f hf, if_pos q]
        refine pfl_c _ _ _ _ (fun j j1 j2 => ?_) (fun g hg => ?_) ?_
        · rw [List.length_map] at j2
          exact t4 v (by omega) hv q j (by omega)
        · rw [kvi_q kc3 (by omega) (by omega) (by omega)]
        · rw [d1 f hf, o5]
      · rw [n6 f hf, v5 v (by omega) hv f hf, if_pos q, pfl_o _ _ _ (fun g hg z => by
          obtain ⟨u, hu, e⟩ := List.mem_map.mp hg
          have := (p4 u hu).1
          rw [ek, show k + 1 - 1 = k by omega] at hwf
          omega)]
        have := d2 f hf hwf
        rw [o5] at this
        exact this
    · refine ⟨fun f hf => ?_, fun f hf hwf => ?_⟩
      · rw [n6 f hf, u5 v (by omega) hv, if_neg q, v5 v (by omega) hv f hf, if_neg q, d1 f hf, o5]
      · rw [n6 f hf, v5 v (by omega) hv f hf, if_neg q]
        have := d2 f hf hwf
        rw [o5] at this
        exact this
  refine OUT_n (sn := sn) (ou := ou) (Sc := S4) (Sr := S6) hi (by omega) (by omega) (by omega) (fun n => g_act (c := 5) (by omega) h0 (by decide) (by decide) (by decide) (by decide) (by decide) (by decide) ca) ⟨1, by omega, r_go h1 (by omega) rr⟩ ?_ ?_ rt ?_ (by omega) (by omega)
  · exact PRG_g k1 (fun q j hq _ => by rw [u2 q (by omega)]) (w2 518 (by omega)) (by rw [w2 503 (by omega)])
  · exact KDS_x k2 hnk (fun q a b => u2 q (by omega)) (w2 508 (by omega))
  · exact RM_x k4 (u2 409 (by omega)) (u2 411 (by omega)) ⟨by rw [w2 503 (by omega)], by rw [w2 503 (by omega)], by rw [w2 503 (by omega)], by rw [w2 503 (by omega)]; exact k4.2.2.2.2.2.2.2.2.2.2⟩ (w2 532 (by omega))
end S2
