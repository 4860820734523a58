/-! rows of the lite machine: statics, texts, throws -/
section XT
variable {l : Launch} {w : xW} {M M' : xM} {pc pc' : Nat} {ls ls' : List (Nat × Value)} {st st' rest : List Value} {h h' : xH} {o o' : xO × xH}
theorem e_ldcS {idx i : Nat} (hd : decode (x_b M) pc = .ok (.ldc idx, 2)) (hy : (x_y M).cls = RX9) (hi : (idx = 29 ∧ i = 0) ∨ (idx = 98 ∧ i = 1) ∨ (idx = 103 ∧ i = 2)) (k : x_S l w M (pc + 2) ls (.ref (w.2.2 i) :: st) h o) : x_S l w M pc ls st h o := by
  refine x_pu (fun p e R s m args below meth c H locs cells slots Q lr C hl k => ?_) k
  have hown := C.2.1.2.1
  rw [hy] at hown
  obtain ⟨-, -, -, -, -, -, -, -, g9, g10, g11⟩ := C.2.2
  rcases hi with ⟨rfl, rfl⟩ | ⟨rfl, rfl⟩ | ⟨rfl, rfl⟩
  · exact va_ldcS C.1.1 C.1.2.1 hown g9 hd k
  · exact va_ldcS C.1.1 C.1.2.1 hown g10 hd k
  · exact va_ldcS C.1.1 C.1.2.1 hown g11 hd k
theorem e_getsC {idx : Nat} (hd : decode (x_b M) pc = .ok (.getstatic idx, 3)) (hF : Cond.fieldLink (x_y M).cls idx "java/lang/String" "COMPACT_STRINGS" "Z" ∈ x_w) (kk : x_S l w M (pc + 3) ls (.int 1 :: st) h o) : x_S l w M pc ls st h o :=
  x_rd (fun p e R s m args below meth c0 H locs cells slots Q lr Cx hl hR hS kW => va_gets Cx.1.1 Cx.1.2.1 Cx.2.2.2.2.2.2.2.1 hS Cx.2.1.2.1 (Cx.2.1.2.2.1 _ hF) (fun _ z => z) hd kW) kk
theorem e_getsQ {idx : Nat} (hd : decode (x_b M) pc = .ok (.getstatic idx, 3)) (hF : Cond.fieldLink (x_y M).cls idx "jdk/internal/util/Preconditions" "SIOOBE_FORMATTER" "Ljava/util/function/BiFunction;" ∈ x_w) (kk : ∀ v : Value, (v = .null ∨ ∃ t : Nat, v = .ref t) → x_S l w M (pc + 3) ls (v :: st) h o) : x_S l w M pc ls st h o := by
  refine ⟨(kk .null (Or.inl rfl)).1, fun p e R s m args below meth c H locs cells slots mc ms lr Cx hl hR hS h1 h2 h3 h4 => ?_⟩
  rcases Cx.2.2.2.2.2.2.2.2.1 with hz | ⟨t, hz⟩
  · exact va_gets Cx.1.1 Cx.1.2.1 hz hS Cx.2.1.2.1 (Cx.2.1.2.2.1 _ hF) (fun _ z => z) hd ((kk _ (Or.inl rfl)).2 p e R s m args below meth c H locs cells slots mc ms lr Cx hl hR hS h1 h2 h3 h4)
  · exact va_gets Cx.1.1 Cx.1.2.1 hz hS Cx.2.1.2.1 (Cx.2.1.2.2.1 _ hF) (fun _ z => z) hd ((kk _ (Or.inr ⟨t, rfl⟩)).2 p e R s m args below meth c H locs cells slots mc ms lr Cx hl hR hS h1 h2 h3 h4)
/-- the fields of a text -/
theorem e_getV {idx q : Nat} {fs : List Value} {v : Value} (hd : decode (x_b M) pc = .ok (.getfield idx, 3)) (hF : Cond.fieldLink (x_y M).cls idx "java/lang/String" "value" "[B" ∈ x_w) (hq : q < h.1) (he : h.2.2 q = .inr (100, fs)) (hv : fs.getD 0 .null = v) (kk : x_S l w M (pc + 3) ls (v :: st) h o) : x_S l w M pc ls (.ref q :: st) h o := by
  refine x_rd (fun p e R s m args below meth c0 H locs cells slots Q lr Cx hl hR hS kW => ?_) kk
  have hx := hR.2 q hq
  rw [he] at hx
  obtain ⟨-, -, ⟨cf, k, fi, f, cell, a1, a2, a3, a4, a5, a6⟩, -⟩ := hx.2 rfl
  subst hv
  exact W.getf Cx.1.1 Cx.1.2.1 Cx.2.1.2.1 (Cx.2.1.2.2.1 _ hF) a1 a2 a3 a4 a5 rfl rfl hd kW
theorem e_getK {idx q : Nat} {fs : List Value} {v : Value} (hd : decode (x_b M) pc = .ok (.getfield idx, 3)) (hF : Cond.fieldLink (x_y M).cls idx "java/lang/String" "coder" "B" ∈ x_w) (hq : q < h.1) (he : h.2.2 q = .inr (100, fs)) (hv : fs.getD 1 .null = v) (kk : x_S l w M (pc + 3) ls (v :: st) h o) : x_S l w M pc ls (.ref q :: st) h o := by
  refine x_rd (fun p e R s m args below meth c0 H locs cells slots Q lr Cx hl hR hS kW => ?_) kk
  have hx := hR.2 q hq
  rw [he] at hx
  obtain ⟨-, -, -, ⟨cf, k, fi, f, cell, a1, a2, a3, a4, a5, a6⟩⟩ := hx.2 rfl
  subst hv
  exact W.getf Cx.1.1 Cx.1.2.1 Cx.2.1.2.1 (Cx.2.1.2.2.1 _ hF) a1 a2 a3 a4 a5 rfl rfl hd kW
/-- any reference, or null, out of the locals -/
theorem e_aload_nV {j : Fin 4} {v : Value} (hd : decode (x_b M) pc = .ok (.aload_n j, 1)) (a : Nat) (ha : ls[a]? = some ((j : Nat), v)) (hv : v = .null ∨ ∃ t : Nat, v = .ref t) (k : x_S l w M (pc + 1) ls (v :: st) h o) : x_S l w M pc ls st h o := by
  rcases hv with rfl | ⟨t, rfl⟩
  · exact x_pu (fun _ _ _ _ _ _ _ _ _ _ _ _ _ _ _ C hl k => lv_aload_nN C.1.1 C.1.2.1 hd rfl (lv_at hl a ha) k) k
  · exact e_aload_n hd a ha k
end XT
