/-! rows of the lite machine: statics, texts, throws -/
section XT
variable {l : Launch} {w : xW} {M M' : xM} {pc pc' : Nat} {ls ls' : List (Nat × Value)} {st st' rest : List Value} {h h' : xH} {o o' : xO × xH}
theorem e_ldcS {idx i : Nat} (hd : decode (x_b M) pc = .ok (.ldc idx, 2)) (hy : (x_y M).cls = RX9) (hi : (idx = 29 ∧ i = 0) ∨ (idx = 98 ∧ i = 1) ∨ (idx = 103 ∧ i = 2)) (k : x_S l w M (pc + 2) ls (.ref (w.2.2 i) :: st) h o) : x_S l w M pc ls st h o := by
  refine x_pu (fun p e R s m args below meth c H locs cells slots Q lr C hl k => ?_) k
  have hown := C.2.1.2.1
  rw [hy] at hown
  obtain ⟨-, -, -, -, -, -, -, -, g9, g10, g11⟩ := C.2.2
  rcases hi with ⟨rfl, rfl⟩ | ⟨rfl, rfl⟩ | ⟨rfl, rfl⟩
  · exact va_ldcS C.1.1 C.1.2.1 hown g9 hd k
  · exact va_ldcS C.1.1 C.1.2.1 hown g10 hd k
  · exact va_ldcS C.1.1 C.1.2.1 hown g11 hd k
theorem e_getsC {idx : Nat} (hd : decode (x_b M) pc = .ok (.getstatic idx, 3)) (hF : Cond.fieldLink (x_y M).cls idx "java/lang/String" "COMPACT_STRINGS" "Z" ∈ x_w) (kk : x_S l w M (pc + 3) ls (.int 1 :: st) h o) : x_S l w M pc ls st h o :=
  x_rd (fun p e R s m args below meth c0 H locs cells slots Q lr Cx hl hR hS kW => va_gets Cx.1.1 Cx.1.2.1 Cx.2.2.2.2.2.2.2.1 hS Cx.2.1.2.1 (Cx.2.1.2.2.1 _ hF) (fun _ z => z) hd kW) kk
theorem e_getsQ {idx : Nat} (hd : decode (x_b M) pc = .ok (.getstatic idx, 3)) (hF : Cond.fieldLink (x_y M).cls idx "jdk/internal/util/Preconditions" "SIOOBE_FORMATTER" "Ljava/util/function/BiFunction;" ∈ x_w) (kk : ∀ v : Value, (v = .null ∨ ∃ t : Nat, v = .ref t) → x_S l w M (pc + 3) ls (v :: st) h o) : x_S l w M pc ls st h o := by
  refine ⟨(kk .null (Or.inl rfl)).1, fun p e R s m args below meth c H locs cells slots mc ms lr Cx hl hR hS h1 h2 h3 h4 => ?_⟩
  rcases Cx.2.2.2.2.2.2.2.2.1 with hz | ⟨t, hz⟩
  · exact va_gets Cx.1.1 Cx.1.2.1 hz hS Cx.2.1.2.1 (Cx.2.1.2.2.1 _ hF) (fun _ z => z) hd ((kk _ (Or.inl rfl)).2 p e R s m args below meth c H locs cells slots mc ms lr Cx hl hR hS h1 h2 h3 h4)
  · exact va_gets Cx.1.1 Cx.1.2.1 hz hS Cx.2.1.2.1 (Cx.2.1.2.2.1 _ hF) (fun _ z => z) hd ((kk _ (Or.inr ⟨t, rfl⟩)).2 p e R s m args below meth c H locs cells slots mc ms lr Cx hl hR hS h1 h2 h3 h4)
/-- the fields of a text -/
theorem e_getV {idx q : Nat} {fs : List Value} {v : Value} (hd : decode (x_b M) pc = .ok (.getfield idx, 3)) (hF : Cond.fieldLink (x_y M).cls idx "java/lang/String" "value" "[B" ∈ x_w) (hq : q < h.1) (he : h.2.2 q = .inr (100, fs)) (hv : fs.getD 0 .null = v) (kk : x_S l w M (pc + 3) ls (v :: st) h o) : x_S l w M pc ls (.ref q :: st) h o := by
  refine x_rd (fun p e R s m args below meth c0 H locs cells slots Q lr Cx hl hR hS kW => ?_) kk
  have hx := hR.2 q hq
  rw [he] at hx
  obtain ⟨-, -, ⟨cf, k, fi, f, cell, a1, a2, a3, a4, a5, a6⟩, -⟩ := hx.2 rfl
  subst hv
  exact W.getf Cx.1.1 Cx.1.2.1 Cx.2.1.2.1 (Cx.2.1.2.2.1 _ hF) a1 a2 a3 a4 a5 rfl rfl hd kW
theorem e_getK {idx q : Nat} {fs : List Value} {v : Value} (hd : decode (x_b M) pc = .ok (.getfield idx, 3)) (hF : Cond.fieldLink (x_y M).cls idx "java/lang/String" "coder" "B" ∈ x_w) (hq : q < h.1) (he : h.2.2 q = .inr (100, fs)) (hv : fs.getD 1 .null = v) (kk : x_S l w M (pc + 3) ls (v :: st) h o) : x_S l w M pc ls (.ref q :: st) h o := by
  refine x_rd (fun p e R s m args below meth c0 H locs cells slots Q lr Cx hl hR hS kW => ?_) kk
  have hx := hR.2 q hq
  rw [he] at hx
  obtain ⟨-, -, -, ⟨cf, k, fi, f, cell, a1, a2, a3, a4, a5, a6⟩⟩ := hx.2 rfl
  subst hv
  exact W.getf Cx.1.1 Cx.1.2.1 Cx.2.1.2.1 (Cx.2.1.2.2.1 _ hF) a1 a2 a3 a4 a5 rfl rfl hd kW
/-- any reference, or null, out of the locals -/
theorem e_aload_nV {j : Fin 4} {v : Value} (hd : decode (x_b M) pc = .ok (.aload_n j, 1)) (a : Nat) (ha : ls[a]? = some ((j : Nat), v)) (hv : v = .null ∨ ∃ t : Nat, v = .ref t) (k : x_S l w M (pc + 1) ls (v :: st) h o) : x_S l w M pc ls st h o := by
  rcases hv with rfl | ⟨t, rfl⟩
  · exact x_pu (fun _ _ _ _ _ _ _ _ _ _ _ _ _ _ _ C hl k => lv_aload_nN C.1.1 C.1.2.1 hd rfl (lv_at hl a ha) k) k
  · exact e_aload_n hd a ha k
end XT
/-! switches -/
section XSW
variable {l : Launch} {w : xW} {M M' : xM} {pc pc' : Nat} {ls ls' : List (Nat × Value)} {st st' rest : List Value} {h h' : xH} {o o' : xO × xH}
theorem e_ldcw {idx : Nat} {v : Int32} (hd : decode (x_b M) pc = .ok (.ldc_w idx, 3)) (hw : Cond.constant (x_y M).cls idx v ∈ x_w) (k : x_S l w M (pc + 3) ls (.int v :: st) h o) : x_S l w M pc ls st h o :=
  x_pu (fun _ _ _ _ _ _ _ _ _ _ _ _ _ _ _ C _ k => lv_ldcw C.1.1 C.1.2.1 C.2.1.2.1 (C.2.1.2.2.1 _ hw) hd k) k
theorem e_tabC {dflt lo hi : Int} {offs : Array Int} {len : Nat} {x : Int32} {off : Int} {tgt : Nat} {L : List Int} (hd : decode (x_b M) pc = .ok (.tableswitch dflt lo hi offs, len)) (hx : x.toInt ∈ L) (ho : ∀ c ∈ L, lo ≤ c ∧ c ≤ hi ∧ offs[(c - lo).toNat]? = some off) (ht : (pc : Int) + off = (tgt : Int)) (k : x_S l w M tgt ls st h o) : x_S l w M pc ls (.int x :: st) h o := by
  obtain ⟨h1, h2, h3⟩ := ho _ hx
  exact e_tableIn hd (by omega) (by omega) h3 ht k
theorem e_tabD {dflt lo hi : Int} {offs : Array Int} {len : Nat} {x : Int32} {tgt : Nat} {L : List Int} (hd : decode (x_b M) pc = .ok (.tableswitch dflt lo hi offs, len)) (hx : x.toInt ∉ L) (ho : (hi - lo + 1).toNat ≤ offs.size ∧ ∀ i, i < offs.size → offs[i]? = some dflt ∨ (lo + i) ∈ L) (ht : (pc : Int) + dflt = (tgt : Int)) (k : x_S l w M tgt ls st h o) : x_S l w M pc ls (.int x :: st) h o := by
  by_cases h1 : x.toInt < lo
  · exact e_tableOut hd (Or.inl h1) ht k
  · by_cases h2 : hi < x.toInt
    · exact e_tableOut hd (Or.inr h2) ht k
    · rcases ho.2 (x.toInt - lo).toNat (by omega) with h3 | h3
      · exact e_tableIn hd h1 h2 h3 ht k
      · exact absurd (by rw [show x.toInt = lo + ((x.toInt - lo).toNat : Int) by omega]; exact h3) hx
theorem x_look {x : Int} {d : Int} : ∀ (ps : List (Int × Int)), (∀ p ∈ ps, p.2 = d ∨ p.1 ≠ x) → Op.lookupswitch.offset ps d x = d
  | [], _ => rfl
  | (a, b) :: r, h => by
    rw [Op.lookupswitch.offset_cons]
    by_cases e : a = x
    · rw [if_pos e]
      rcases h (a, b) List.mem_cons_self with q | q
      · exact q
      · exact absurd e q
    · rw [if_neg e]
      exact x_look r (fun p hp => h p (List.mem_cons_of_mem _ hp))
theorem e_lookC {dflt : Int} {ps : Array (Int × Int)} {len : Nat} {x : Int32} {off : Int} {tgt : Nat} {L : List Int} (hd : decode (x_b M) pc = .ok (.lookupswitch dflt ps, len)) (hx : x.toInt ∈ L) (ho : (ps.toList.zip (ps.toList.drop 1)).all (fun (a, next) => a.1 < next.1) = true ∧ ∀ c ∈ L, Op.lookupswitch.offset ps.toList dflt c = off) (ht : (pc : Int) + off = (tgt : Int)) (k : x_S l w M tgt ls st h o) : x_S l w M pc ls (.int x :: st) h o :=
  e_lookup hd ho.1 (ho.2 _ hx) ht k
theorem e_lookD {dflt : Int} {ps : Array (Int × Int)} {len : Nat} {x : Int32} {tgt : Nat} {L : List Int} (hd : decode (x_b M) pc = .ok (.lookupswitch dflt ps, len)) (hx : x.toInt ∉ L) (ho : (ps.toList.zip (ps.toList.drop 1)).all (fun (a, next) => a.1 < next.1) = true ∧ ∀ p ∈ ps.toList, p.2 = dflt ∨ p.1 ∈ L) (ht : (pc : Int) + dflt = (tgt : Int)) (k : x_S l w M tgt ls st h o) : x_S l w M pc ls (.int x :: st) h o :=
  e_lookup hd ho.1 (x_look _ (fun p hp => (ho.2 p hp).elim Or.inl (fun q => Or.inr (fun e => hx (e ▸ q))))) ht k
end XSW
