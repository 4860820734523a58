/-! the cells one by one -/
theorem cel_0 (lo : Nat) (I : Nat → Int32) (J : Nat → Int64) : cel lo 0 I J = .inr (11, [.ref (lo + 1), .ref (lo + 7), .ref (lo + 29), .ref (lo + 97), .ref (lo + 404), .ref (lo + 409), .int (I 6), .int (I 7)]) := rfl
theorem cel_1 (lo : Nat) (I : Nat → Int32) (J : Nat → Int64) : cel lo 1 I J = .inr (9, [.ref (lo + 2), .ref (lo + 3), .ref (lo + 4), .ref (lo + 5), .ref (lo + 6), .int (I 5), .int (I 6), .int (I 7)]) := rfl
theorem cel_2 (lo : Nat) (I : Nat → Int32) (J : Nat → Int64) : cel lo 2 I J = .inl (.long, 21, fun j => .long (J j)) := rfl
theorem cel_3 (lo : Nat) (I : Nat → Int32) (J : Nat → Int64) : cel lo 3 I J = .inl (.char, 500, fun j => .int (I j)) := rfl
abbrev xReg4 (k : Nat) : Prop := 4 ≤ k ∧ k < 6
theorem cel_r4 {k : Nat} (h : xReg4 k) (lo : Nat) (I : Nat → Int32) (J : Nat → Int64) : cel lo k I J = .inl (.int, 151, fun j => .int (I j)) := by unfold cel; rw [if_pos (show k < 413 by omega), if_pos (show k < 31 by omega), if_pos (show k < 9 by omega), if_neg (show ¬ k < 4 by omega), if_pos (show k < 7 by omega), if_pos (show k < 6 by omega)]
theorem xReg4_at {i : Int32} (h : xin i 2) : xReg4 (4 + i.toNatClampNeg) := by have := x_lt h; omega
theorem xReg4_lt {k : Nat} (h : xReg4 k) : k < 534 := by omega
theorem cel_4 (lo : Nat) (I : Nat → Int32) (J : Nat → Int64) : cel lo 4 I J = .inl (.int, 151, fun j => .int (I j)) := rfl
theorem cel_5 (lo : Nat) (I : Nat → Int32) (J : Nat → Int64) : cel lo 5 I J = .inl (.int, 151, fun j => .int (I j)) := rfl
theorem cel_6 (lo : Nat) (I : Nat → Int32) (J : Nat → Int64) : cel lo 6 I J = .inl (.long, 151, fun j => .long (J j)) := rfl
theorem cel_7 (lo : Nat) (I : Nat → Int32) (J : Nat → Int64) : cel lo 7 I J = .inr (3, [.ref (lo + 8), .ref (lo + 9), .ref (lo + 10), .ref (lo + 19), .ref (lo + 28), .int (I 5), .int (I 6), .int (I 7), .int (I 8)]) := rfl
theorem cel_8 (lo : Nat) (I : Nat → Int32) (J : Nat → Int64) : cel lo 8 I J = .inl (.long, 8, fun j => .long (J j)) := rfl
theorem cel_9 (lo : Nat) (I : Nat → Int32) (J : Nat → Int64) : cel lo 9 I J = .inl (.int, 8, fun j => .int (I j)) := rfl
theorem cel_10 (lo : Nat) (I : Nat → Int32) (J : Nat → Int64) : cel lo 10 I J = .inl (.array .long, 8, fun j => .ref (lo + (11 + j))) := rfl
abbrev xReg11 (k : Nat) : Prop := 11 ≤ k ∧ k < 19
theorem cel_r11 {k : Nat} (h : xReg11 k) (lo : Nat) (I : Nat → Int32) (J : Nat → Int64) : cel lo k I J = .inl (.long, 6, fun j => .long (J j)) := by unfold cel; rw [if_pos (show k < 413 by omega), if_pos (show k < 31 by omega), if_neg (show ¬ k < 9 by omega), if_pos (show k < 20 by omega), if_neg (show ¬ k < 11 by omega), if_pos (show k < 19 by omega)]
theorem xReg11_at {i : Int32} (h : xin i 8) : xReg11 (11 + i.toNatClampNeg) := by have := x_lt h; omega
theorem xReg11_lt {k : Nat} (h : xReg11 k) : k < 534 := by omega
theorem cel_19 (lo : Nat) (I : Nat → Int32) (J : Nat → Int64) : cel lo 19 I J = .inl (.array .int, 8, fun j => .ref (lo + (20 + j))) := rfl
abbrev xReg20 (k : Nat) : Prop := 20 ≤ k ∧ k < 28
theorem cel_r20 {k : Nat} (h : xReg20 k) (lo : Nat) (I : Nat → Int32) (J : Nat → Int64) : cel lo k I J = .inl (.int, 6, fun j => .int (I j)) := by unfold cel; rw [if_pos (show k < 413 by omega), if_pos (show k < 31 by omega), if_neg (show ¬ k < 9 by omega), if_neg (show ¬ k < 20 by omega), if_pos (show k < 29 by omega), if_pos (show k < 28 by omega)]
theorem xReg20_at {i : Int32} (h : xin i 8) : xReg20 (20 + i.toNatClampNeg) := by have := x_lt h; omega
theorem xReg20_lt {k : Nat} (h : xReg20 k) : k < 534 := by omega
theorem cel_28 (lo : Nat) (I : Nat → Int32) (J : Nat → Int64) : cel lo 28 I J = .inl (.long, 20, fun j => .long (J j)) := rfl
theorem cel_29 (lo : Nat) (I : Nat → Int32) (J : Nat → Int64) : cel lo 29 I J = .inr (10, [.ref (lo + 30), .ref (lo + 31), .ref (lo + 96), .int (I 3)]) := rfl
theorem cel_30 (lo : Nat) (I : Nat → Int32) (J : Nat → Int64) : cel lo 30 I J = .inl (.long, 8, fun j => .long (J j)) := rfl
theorem cel_31 (lo : Nat) (I : Nat → Int32) (J : Nat → Int64) : cel lo 31 I J = .inl (.array .int, 64, fun j => .ref (lo + (32 + j))) := rfl
abbrev xReg32 (k : Nat) : Prop := 32 ≤ k ∧ k < 96
theorem cel_r32 {k : Nat} (h : xReg32 k) (lo : Nat) (I : Nat → Int32) (J : Nat → Int64) : cel lo k I J = .inl (.int, 6, fun j => .int (I j)) := by unfold cel; rw [if_pos (show k < 413 by omega), if_neg (show ¬ k < 31 by omega), if_pos (show k < 404 by omega), if_pos (show k < 98 by omega), if_pos (show k < 96 by omega), if_neg (show ¬ k < 32 by omega)]
theorem xReg32_at {i : Int32} (h : xin i 64) : xReg32 (32 + i.toNatClampNeg) := by have := x_lt h; omega
theorem xReg32_lt {k : Nat} (h : xReg32 k) : k < 534 := by omega
theorem cel_96 (lo : Nat) (I : Nat → Int32) (J : Nat → Int64) : cel lo 96 I J = .inl (.int, 64, fun j => .int (I j)) := rfl
theorem cel_97 (lo : Nat) (I : Nat → Int32) (J : Nat → Int64) : cel lo 97 I J = .inr (5, [.ref (lo + 98), .ref (lo + 99), .ref (lo + 100), .ref (lo + 101), .int (I 4), .int (I 5), .int (I 6)]) := rfl
theorem cel_98 (lo : Nat) (I : Nat → Int32) (J : Nat → Int64) : cel lo 98 I J = .inl (.object "ArrayRecords$Step", 151, fun j => .ref (lo + (102 + 2 * j))) := rfl
theorem cel_99 (lo : Nat) (I : Nat → Int32) (J : Nat → Int64) : cel lo 99 I J = .inl (.object "ArrayRecords$Part", 151, fun j => .ref (lo + (103 + 2 * j))) := rfl
abbrev xReg100 (k : Nat) : Prop := 100 ≤ k ∧ k < 102
theorem cel_r100 {k : Nat} (h : xReg100 k) (lo : Nat) (I : Nat → Int32) (J : Nat → Int64) : cel lo k I J = .inl (.int, 151, fun j => .int (I j)) := by unfold cel; rw [if_pos (show k < 413 by omega), if_neg (show ¬ k < 31 by omega), if_pos (show k < 404 by omega), if_neg (show ¬ k < 98 by omega), if_neg (show ¬ k < 100 by omega), if_pos (show k < 102 by omega)]
theorem xReg100_at {i : Int32} (h : xin i 2) : xReg100 (100 + i.toNatClampNeg) := by have := x_lt h; omega
theorem xReg100_lt {k : Nat} (h : xReg100 k) : k < 534 := by omega
theorem cel_100 (lo : Nat) (I : Nat → Int32) (J : Nat → Int64) : cel lo 100 I J = .inl (.int, 151, fun j => .int (I j)) := rfl
theorem cel_101 (lo : Nat) (I : Nat → Int32) (J : Nat → Int64) : cel lo 101 I J = .inl (.int, 151, fun j => .int (I j)) := rfl
abbrev xStep (k : Nat) : Prop := 102 ≤ k ∧ k < 404 ∧ k % 2 = 0
abbrev xPart (k : Nat) : Prop := 102 ≤ k ∧ k < 404 ∧ k % 2 = 1
theorem cel_st {k : Nat} (h : xStep k) (lo : Nat) (I : Nat → Int32) (J : Nat → Int64) : cel lo k I J = .inr (8, [.int (I 0), .int (I 1), .int (I 2), .int (I 3), .int (I 4), .int (I 5), .int (I 6), .int (I 7), .int (I 8), .int (I 9)]) := by unfold cel; rw [if_pos (show k < 413 by omega), if_neg (show ¬ k < 31 by omega), if_pos (show k < 404 by omega), if_neg (show ¬ k < 98 by omega), if_neg (show ¬ k < 100 by omega), if_neg (show ¬ k < 102 by omega), if_pos (by omega)]
theorem cel_pa {k : Nat} (h : xPart k) (lo : Nat) (I : Nat → Int32) (J : Nat → Int64) : cel lo k I J = .inr (4, [.int (I 0), .int (I 1), .int (I 2), .int (I 3), .int (I 4), .int (I 5), .int (I 6)]) := by unfold cel; rw [if_pos (show k < 413 by omega), if_neg (show ¬ k < 31 by omega), if_pos (show k < 404 by omega), if_neg (show ¬ k < 98 by omega), if_neg (show ¬ k < 100 by omega), if_neg (show ¬ k < 102 by omega), if_neg (by omega)]
theorem xStep_at {i : Int32} (h : xin i 151) : xStep (102 + 2 * i.toNatClampNeg) := by have := x_lt h; omega
theorem xPart_at {i : Int32} (h : xin i 151) : xPart (103 + 2 * i.toNatClampNeg) := by have := x_lt h; omega
theorem xStep_lt {k : Nat} (h : xStep k) : k < 534 := by omega
theorem xPart_lt {k : Nat} (h : xPart k) : k < 534 := by omega
theorem cel_404 (lo : Nat) (I : Nat → Int32) (J : Nat → Int64) : cel lo 404 I J = .inr (6, [.ref (lo + 1), .ref (lo + 7), .ref (lo + 97), .ref (lo + 405), .ref (lo + 407)]) := rfl
theorem cel_405 (lo : Nat) (I : Nat → Int32) (J : Nat → Int64) : cel lo 405 I J = .inr (7, [.ref (lo + 1), .ref (lo + 7), .ref (lo + 97), .ref (lo + 406), .int (I 4), .int (I 5)]) := rfl
theorem cel_406 (lo : Nat) (I : Nat → Int32) (J : Nat → Int64) : cel lo 406 I J = .inl (.int, 10, fun j => .int (I j)) := rfl
theorem cel_407 (lo : Nat) (I : Nat → Int32) (J : Nat → Int64) : cel lo 407 I J = .inr (1, [.ref (lo + 1), .ref (lo + 7), .ref (lo + 97), .ref (lo + 405), .ref (lo + 408), .int (I 5), .int (I 6), .int (I 7), .int (I 8)]) := rfl
theorem cel_408 (lo : Nat) (I : Nat → Int32) (J : Nat → Int64) : cel lo 408 I J = .inl (.int, 151, fun j => .int (I j)) := rfl
theorem cel_409 (lo : Nat) (I : Nat → Int32) (J : Nat → Int64) : cel lo 409 I J = .inr (2, [.ref (lo + 97), .ref (lo + 7), .ref (lo + 29), .ref (lo + 478), .ref (lo + 410), .ref (lo + 411), .ref (lo + 412), .ref (lo + 413), .int (I 8), .int (I 9), .int (I 10)]) := rfl
theorem cel_410 (lo : Nat) (I : Nat → Int32) (J : Nat → Int64) : cel lo 410 I J = .inl (.int, 20, fun j => .int (I j)) := rfl
theorem cel_411 (lo : Nat) (I : Nat → Int32) (J : Nat → Int64) : cel lo 411 I J = .inl (.int, 64, fun j => .int (I j)) := rfl
theorem cel_412 (lo : Nat) (I : Nat → Int32) (J : Nat → Int64) : cel lo 412 I J = .inl (.int, 151, fun j => .int (I j)) := rfl
theorem cel_413 (lo : Nat) (I : Nat → Int32) (J : Nat → Int64) : cel lo 413 I J = .inl (.array .int, 64, fun j => .ref (lo + (414 + j))) := rfl
abbrev xReg414 (k : Nat) : Prop := 414 ≤ k ∧ k < 478
theorem cel_r414 {k : Nat} (h : xReg414 k) (lo : Nat) (I : Nat → Int32) (J : Nat → Int64) : cel lo k I J = .inl (.int, 6, fun j => .int (I j)) := by unfold cel; rw [if_neg (show ¬ k < 413 by omega), if_pos (show k < 511 by omega), if_pos (show k < 503 by omega), if_pos (show k < 480 by omega), if_pos (show k < 478 by omega), if_neg (show ¬ k < 414 by omega)]
theorem xReg414_at {i : Int32} (h : xin i 64) : xReg414 (414 + i.toNatClampNeg) := by have := x_lt h; omega
theorem xReg414_lt {k : Nat} (h : xReg414 k) : k < 534 := by omega
theorem cel_478 (lo : Nat) (I : Nat → Int32) (J : Nat → Int64) : cel lo 478 I J = .inr (0, [.ref (lo + 29), .ref (lo + 479), .ref (lo + 490), .ref (lo + 501), .ref (lo + 502)]) := rfl
theorem cel_479 (lo : Nat) (I : Nat → Int32) (J : Nat → Int64) : cel lo 479 I J = .inl (.array .int, 10, fun j => .ref (lo + (480 + j))) := rfl
abbrev xReg480 (k : Nat) : Prop := 480 ≤ k ∧ k < 490
theorem cel_r480 {k : Nat} (h : xReg480 k) (lo : Nat) (I : Nat → Int32) (J : Nat → Int64) : cel lo k I J = .inl (.int, 64, fun j => .int (I j)) := by unfold cel; rw [if_neg (show ¬ k < 413 by omega), if_pos (show k < 511 by omega), if_pos (show k < 503 by omega), if_neg (show ¬ k < 480 by omega), if_pos (show k < 491 by omega), if_pos (show k < 490 by omega)]
theorem xReg480_at {i : Int32} (h : xin i 10) : xReg480 (480 + i.toNatClampNeg) := by have := x_lt h; omega
theorem xReg480_lt {k : Nat} (h : xReg480 k) : k < 534 := by omega
theorem cel_490 (lo : Nat) (I : Nat → Int32) (J : Nat → Int64) : cel lo 490 I J = .inl (.array .int, 10, fun j => .ref (lo + (491 + j))) := rfl
abbrev xReg491 (k : Nat) : Prop := 491 ≤ k ∧ k < 501
theorem cel_r491 {k : Nat} (h : xReg491 k) (lo : Nat) (I : Nat → Int32) (J : Nat → Int64) : cel lo k I J = .inl (.int, 64, fun j => .int (I j)) := by unfold cel; rw [if_neg (show ¬ k < 413 by omega), if_pos (show k < 511 by omega), if_pos (show k < 503 by omega), if_neg (show ¬ k < 480 by omega), if_neg (show ¬ k < 491 by omega), if_pos (show k < 501 by omega)]
theorem xReg491_at {i : Int32} (h : xin i 10) : xReg491 (491 + i.toNatClampNeg) := by have := x_lt h; omega
theorem xReg491_lt {k : Nat} (h : xReg491 k) : k < 534 := by omega
abbrev xReg501 (k : Nat) : Prop := 501 ≤ k ∧ k < 503
theorem cel_r501 {k : Nat} (h : xReg501 k) (lo : Nat) (I : Nat → Int32) (J : Nat → Int64) : cel lo k I J = .inl (.int, 10, fun j => .int (I j)) := by unfold cel; rw [if_neg (show ¬ k < 413 by omega), if_pos (show k < 511 by omega), if_pos (show k < 503 by omega), if_neg (show ¬ k < 480 by omega), if_neg (show ¬ k < 491 by omega), if_neg (show ¬ k < 501 by omega)]
theorem xReg501_at {i : Int32} (h : xin i 2) : xReg501 (501 + i.toNatClampNeg) := by have := x_lt h; omega
theorem xReg501_lt {k : Nat} (h : xReg501 k) : k < 534 := by omega
theorem cel_501 (lo : Nat) (I : Nat → Int32) (J : Nat → Int64) : cel lo 501 I J = .inl (.int, 10, fun j => .int (I j)) := rfl
theorem cel_502 (lo : Nat) (I : Nat → Int32) (J : Nat → Int64) : cel lo 502 I J = .inl (.int, 10, fun j => .int (I j)) := rfl
theorem cel_503 (lo : Nat) (I : Nat → Int32) (J : Nat → Int64) : cel lo 503 I J = .inr (12, [.int (I 0), .ref (lo + 504), .int (I 2), .int (I 3), .ref (lo + 505), .ref (lo + 506), .ref (lo + 507), .ref (lo + 508), .int (I 8), .ref (lo + 509), .ref (lo + 510), .ref (lo + 511), .ref (lo + 512), .ref (lo + 513), .int (I 14), .ref (lo + 514), .ref (lo + 515), .ref (lo + 516), .int (I 18), .ref (lo + 517), .int (I 20), .int (I 21), .int (I 22), .int (I 23), .ref (lo + 518), .int (I 25), .int (I 26), .ref (lo + 519), .int (I 28), .int (I 29), .int (I 30), .ref (lo + 520), .ref (lo + 521), .ref (lo + 522), .ref (lo + 523), .int (I 35), .int (I 36), .ref (lo + 524), .ref (lo + 525), .int (I 39), .ref (lo + 526), .ref (lo + 527), .ref (lo + 528), .ref (lo + 529), .ref (lo + 530), .ref (lo + 531), .ref (lo + 532), .int (I 47)]) := rfl
theorem cel_504 (lo : Nat) (I : Nat → Int32) (J : Nat → Int64) : cel lo 504 I J = .inl (.int, 500, fun j => .int (I j)) := rfl
theorem cel_505 (lo : Nat) (I : Nat → Int32) (J : Nat → Int64) : cel lo 505 I J = .inl (.long, 7, fun j => .long (J j)) := rfl
theorem cel_506 (lo : Nat) (I : Nat → Int32) (J : Nat → Int64) : cel lo 506 I J = .inl (.int, 7, fun j => .int (I j)) := rfl
theorem cel_507 (lo : Nat) (I : Nat → Int32) (J : Nat → Int64) : cel lo 507 I J = .inl (.long, 42, fun j => .long (J j)) := rfl
theorem cel_508 (lo : Nat) (I : Nat → Int32) (J : Nat → Int64) : cel lo 508 I J = .inl (.int, 42, fun j => .int (I j)) := rfl
theorem cel_509 (lo : Nat) (I : Nat → Int32) (J : Nat → Int64) : cel lo 509 I J = .inl (.long, 20, fun j => .long (J j)) := rfl
theorem cel_510 (lo : Nat) (I : Nat → Int32) (J : Nat → Int64) : cel lo 510 I J = .inl (.int, 20, fun j => .int (I j)) := rfl
theorem cel_511 (lo : Nat) (I : Nat → Int32) (J : Nat → Int64) : cel lo 511 I J = .inl (.int, 64, fun j => .int (I j)) := rfl
theorem cel_512 (lo : Nat) (I : Nat → Int32) (J : Nat → Int64) : cel lo 512 I J = .inl (.int, 384, fun j => .int (I j)) := rfl
theorem cel_513 (lo : Nat) (I : Nat → Int32) (J : Nat → Int64) : cel lo 513 I J = .inl (.int, 64, fun j => .int (I j)) := rfl
abbrev xReg514 (k : Nat) : Prop := 514 ≤ k ∧ k < 516
theorem cel_r514 {k : Nat} (h : xReg514 k) (lo : Nat) (I : Nat → Int32) (J : Nat → Int64) : cel lo k I J = .inl (.int, 152, fun j => .int (I j)) := by unfold cel; rw [if_neg (show ¬ k < 413 by omega), if_neg (show ¬ k < 511 by omega), if_pos (show k < 520 by omega), if_pos (show k < 516 by omega), if_neg (show ¬ k < 513 by omega), if_neg (show ¬ k < 514 by omega)]
theorem xReg514_at {i : Int32} (h : xin i 2) : xReg514 (514 + i.toNatClampNeg) := by have := x_lt h; omega
theorem xReg514_lt {k : Nat} (h : xReg514 k) : k < 534 := by omega
theorem cel_514 (lo : Nat) (I : Nat → Int32) (J : Nat → Int64) : cel lo 514 I J = .inl (.int, 152, fun j => .int (I j)) := rfl
theorem cel_515 (lo : Nat) (I : Nat → Int32) (J : Nat → Int64) : cel lo 515 I J = .inl (.int, 152, fun j => .int (I j)) := rfl
theorem cel_516 (lo : Nat) (I : Nat → Int32) (J : Nat → Int64) : cel lo 516 I J = .inl (.long, 152, fun j => .long (J j)) := rfl
theorem cel_517 (lo : Nat) (I : Nat → Int32) (J : Nat → Int64) : cel lo 517 I J = .inl (.long, 20, fun j => .long (J j)) := rfl
theorem cel_518 (lo : Nat) (I : Nat → Int32) (J : Nat → Int64) : cel lo 518 I J = .inl (.int, 3000, fun j => .int (I j)) := rfl
theorem cel_519 (lo : Nat) (I : Nat → Int32) (J : Nat → Int64) : cel lo 519 I J = .inl (.int, 160, fun j => .int (I j)) := rfl
abbrev xReg520 (k : Nat) : Prop := 520 ≤ k ∧ k < 524
theorem cel_r520 {k : Nat} (h : xReg520 k) (lo : Nat) (I : Nat → Int32) (J : Nat → Int64) : cel lo k I J = .inl (.int, 12, fun j => .int (I j)) := by unfold cel; rw [if_neg (show ¬ k < 413 by omega), if_neg (show ¬ k < 511 by omega), if_neg (show ¬ k < 520 by omega), if_pos (show k < 528 by omega), if_pos (show k < 525 by omega), if_pos (show k < 524 by omega)]
theorem xReg520_at {i : Int32} (h : xin i 4) : xReg520 (520 + i.toNatClampNeg) := by have := x_lt h; omega
theorem xReg520_lt {k : Nat} (h : xReg520 k) : k < 534 := by omega
theorem cel_520 (lo : Nat) (I : Nat → Int32) (J : Nat → Int64) : cel lo 520 I J = .inl (.int, 12, fun j => .int (I j)) := rfl
theorem cel_521 (lo : Nat) (I : Nat → Int32) (J : Nat → Int64) : cel lo 521 I J = .inl (.int, 12, fun j => .int (I j)) := rfl
theorem cel_522 (lo : Nat) (I : Nat → Int32) (J : Nat → Int64) : cel lo 522 I J = .inl (.int, 12, fun j => .int (I j)) := rfl
theorem cel_523 (lo : Nat) (I : Nat → Int32) (J : Nat → Int64) : cel lo 523 I J = .inl (.int, 12, fun j => .int (I j)) := rfl
theorem cel_524 (lo : Nat) (I : Nat → Int32) (J : Nat → Int64) : cel lo 524 I J = .inl (.int, 200, fun j => .int (I j)) := rfl
theorem cel_525 (lo : Nat) (I : Nat → Int32) (J : Nat → Int64) : cel lo 525 I J = .inl (.int, 8, fun j => .int (I j)) := rfl
abbrev xReg526 (k : Nat) : Prop := 526 ≤ k ∧ k < 528
theorem cel_r526 {k : Nat} (h : xReg526 k) (lo : Nat) (I : Nat → Int32) (J : Nat → Int64) : cel lo k I J = .inl (.int, 768, fun j => .int (I j)) := by unfold cel; rw [if_neg (show ¬ k < 413 by omega), if_neg (show ¬ k < 511 by omega), if_neg (show ¬ k < 520 by omega), if_pos (show k < 528 by omega), if_neg (show ¬ k < 525 by omega), if_neg (show ¬ k < 526 by omega)]
theorem xReg526_at {i : Int32} (h : xin i 2) : xReg526 (526 + i.toNatClampNeg) := by have := x_lt h; omega
theorem xReg526_lt {k : Nat} (h : xReg526 k) : k < 534 := by omega
theorem cel_526 (lo : Nat) (I : Nat → Int32) (J : Nat → Int64) : cel lo 526 I J = .inl (.int, 768, fun j => .int (I j)) := rfl
theorem cel_527 (lo : Nat) (I : Nat → Int32) (J : Nat → Int64) : cel lo 527 I J = .inl (.int, 768, fun j => .int (I j)) := rfl
abbrev xReg528 (k : Nat) : Prop := 528 ≤ k ∧ k < 530
theorem cel_r528 {k : Nat} (h : xReg528 k) (lo : Nat) (I : Nat → Int32) (J : Nat → Int64) : cel lo k I J = .inl (.int, 12, fun j => .int (I j)) := by unfold cel; rw [if_neg (show ¬ k < 413 by omega), if_neg (show ¬ k < 511 by omega), if_neg (show ¬ k < 520 by omega), if_neg (show ¬ k < 528 by omega), if_pos (show k < 531 by omega), if_pos (show k < 530 by omega)]
theorem xReg528_at {i : Int32} (h : xin i 2) : xReg528 (528 + i.toNatClampNeg) := by have := x_lt h; omega
theorem xReg528_lt {k : Nat} (h : xReg528 k) : k < 534 := by omega
theorem cel_528 (lo : Nat) (I : Nat → Int32) (J : Nat → Int64) : cel lo 528 I J = .inl (.int, 12, fun j => .int (I j)) := rfl
theorem cel_529 (lo : Nat) (I : Nat → Int32) (J : Nat → Int64) : cel lo 529 I J = .inl (.int, 12, fun j => .int (I j)) := rfl
theorem cel_530 (lo : Nat) (I : Nat → Int32) (J : Nat → Int64) : cel lo 530 I J = .inl (.int, 384, fun j => .int (I j)) := rfl
theorem cel_531 (lo : Nat) (I : Nat → Int32) (J : Nat → Int64) : cel lo 531 I J = .inl (.boolean, 64, fun j => .int (I j)) := rfl
theorem cel_532 (lo : Nat) (I : Nat → Int32) (J : Nat → Int64) : cel lo 532 I J = .inl (.int, 64, fun j => .int (I j)) := rfl
theorem cel_533 (lo : Nat) (I : Nat → Int32) (J : Nat → Int64) : cel lo 533 I J = .inl (.long, 1, fun j => .long (J j)) := rfl
abbrev xbo (x : Int32) : Prop := x = 0 ∨ x = 1
theorem xbo_n {x : Int32} (h : xbo x) : narrow .boolean (.int x) = .int x := by rcases h with rfl | rfl <;> rfl
theorem xbo_f {x : Int32} (h : xbo x) : fits .boolean (.int x) = true := by rcases h with rfl | rfl <;> rfl
theorem xg {c : Prop} [Decidable c] {a : Option xr} {r : xr} (h : (if c then a else none) = some r) : c ∧ a = some r := by
  by_cases hc : c
  · rw [if_pos hc] at h
    exact ⟨hc, h⟩
  · rw [if_neg hc] at h
    cases h
def xcI (q : Option xr) (k : Int32 → xS → Option xr) : Option xr := match q with
  | some (.inl (some (.inl v)), S) => k v S
  | some (.inr E, S) => some (.inr E, S)
  | _ => none
def xcJ (q : Option xr) (k : Int64 → xS → Option xr) : Option xr := match q with
  | some (.inl (some (.inr (.inl v))), S) => k v S
  | some (.inr E, S) => some (.inr E, S)
  | _ => none
def xcR (q : Option xr) (k : Nat → xS → Option xr) : Option xr := match q with
  | some (.inl (some (.inr (.inr v))), S) => k v S
  | some (.inr E, S) => some (.inr E, S)
  | _ => none
def xcV (q : Option xr) (k : xS → Option xr) : Option xr := match q with
  | some (.inl none, S) => k S
  | some (.inr E, S) => some (.inr E, S)
  | _ => none
/-- .. with a handler for IllegalArgumentException -/
def xcVH (q : Option xr) (k : xS → Option xr) (hd : xS → Option xr) : Option xr := match q with
  | some (.inl none, S) => k S
  | some (.inr E, S) => if E = "java/lang/IllegalArgumentException" then hd S else none
  | _ => none
def xcIH (q : Option xr) (k : Int32 → xS → Option xr) (hd : xS → Option xr) : Option xr := match q with
  | some (.inl (some (.inl v)), S) => k v S
  | some (.inr E, S) => if E = "java/lang/IllegalArgumentException" then hd S else none
  | _ => none
theorem xcVH_s {q : Option xr} {k hd : xS → Option xr} {r : xr} (h : xcVH q k hd = some r) : (∃ S, q = some (.inl none, S) ∧ k S = some r) ∨ ∃ S, q = some (.inr "java/lang/IllegalArgumentException", S) ∧ hd S = some r := by
  unfold xcVH at h
  split at h
  · exact Or.inl ⟨_, rfl, h⟩
  · obtain ⟨rfl, h⟩ := xg h
    exact Or.inr ⟨_, rfl, h⟩
  · cases h
theorem xcIH_s {q : Option xr} {k : Int32 → xS → Option xr} {hd : xS → Option xr} {r : xr} (h : xcIH q k hd = some r) : (∃ v S, q = some (.inl (some (.inl v)), S) ∧ k v S = some r) ∨ ∃ S, q = some (.inr "java/lang/IllegalArgumentException", S) ∧ hd S = some r := by
  unfold xcIH at h
  split at h
  · exact Or.inl ⟨_, _, rfl, h⟩
  · obtain ⟨rfl, h⟩ := xg h
    exact Or.inr ⟨_, rfl, h⟩
  · cases h
theorem xcI_s {q : Option xr} {k : Int32 → xS → Option xr} {r : xr} (h : xcI q k = some r) : (∃ v S, q = some (.inl (some (.inl v)), S) ∧ k v S = some r) ∨ ∃ E S, q = some (.inr E, S) ∧ some ((.inr E, S) : xr) = some r := by
  unfold xcI at h
  split at h
  · exact Or.inl ⟨_, _, rfl, h⟩
  · exact Or.inr ⟨_, _, rfl, h⟩
  · cases h
theorem xcJ_s {q : Option xr} {k : Int64 → xS → Option xr} {r : xr} (h : xcJ q k = some r) : (∃ v S, q = some (.inl (some (.inr (.inl v))), S) ∧ k v S = some r) ∨ ∃ E S, q = some (.inr E, S) ∧ some ((.inr E, S) : xr) = some r := by
  unfold xcJ at h
  split at h
  · exact Or.inl ⟨_, _, rfl, h⟩
  · exact Or.inr ⟨_, _, rfl, h⟩
  · cases h
theorem xcR_s {q : Option xr} {k : Nat → xS → Option xr} {r : xr} (h : xcR q k = some r) : (∃ v S, q = some (.inl (some (.inr (.inr v))), S) ∧ k v S = some r) ∨ ∃ E S, q = some (.inr E, S) ∧ some ((.inr E, S) : xr) = some r := by
  unfold xcR at h
  split at h
  · exact Or.inl ⟨_, _, rfl, h⟩
  · exact Or.inr ⟨_, _, rfl, h⟩
  · cases h
theorem xcV_s {q : Option xr} {k : xS → Option xr} {r : xr} (h : xcV q k = some r) : (∃ S, q = some (.inl none, S) ∧ k S = some r) ∨ ∃ E S, q = some (.inr E, S) ∧ some ((.inr E, S) : xr) = some r := by
  unfold xcV at h
  split at h
  · exact Or.inl ⟨_, rfl, h⟩
  · exact Or.inr ⟨_, _, rfl, h⟩
  · cases h
section CF
variable {l : Launch} {w : xW} {g : Nat → xE} {M M' : xM} {pc pc' tgt : Nat} {ls ls' : List (Nat × Value)} {st st' rest : List Value} {S S' : xS} {r r' : xr}
theorem es_sub (is : List Nat) (hs : lv_pick ls is = ls') (k : ES l w g M pc ls' st S r) : ES l w g M pc ls st S r := es_l (fun _ _ k => x_sub is hs k) k

theorem es_callVI {idx n q : Nat} {as : List Value} {c : Nat} {C : String} {T : u_T} {N : Nat} {ty : Nat → FieldType} {fs : List Value} {q9 : Option xr} {kf : Int32 → xS → Option xr} (hf : xcI q9 kf = some r) (hC : x_CL c C T N ty) (hd : decode (x_b M) pc = .ok (.invokevirtual idx, 3)) (hk : x_CS M M' n) (hl1 : Cond.methodLink (x_y M).cls idx (x_y M') ∈ x_w) (hl2 : Cond.instanceMethod (x_y M') ∈ x_w) (hl3 : Cond.selects (x_y M').cls (x_y M') (x_y M') ∈ x_w) (hst : st = as.reverse ++ .ref (w.2.1 + q) :: rest) (hn : as.length = n) (hW : (rest.map fun v => v.category).sum ≤ 8) (hfit : (lg_sl (.ref (w.2.1 + q) :: as)).length ≤ x_n M') (hq : q < 534) (hCy : C = (x_y M').cls) (he : cel w.2.1 q (S.1 q) (S.2.1 q) = .inr (c, fs)) (kc : ∀ r', q9 = some r' → ES l w g M' 0 (lv_args 0 (.ref (w.2.1 + q) :: as)) [] S r') (ht : ∀ x ∈ tableOf (x_t M), covers x pc = false) (kr : ∀ (v : Int32) (S1 : xS), kf v S1 = some r → ES l w g M (pc + 3) ls (.int v :: rest) S1 r) : ES l w g M pc ls st S r := by
  rcases xcI_s hf with ⟨v, S1, hq9, h1⟩ | ⟨E, S1, hq9, h1⟩
  · exact es_callV hC hd hk hl1 hl2 hl3 hst hn hW hfit hq hCy he (r' := (.inl (some (.inl v)), S1)) (kc _ hq9) (fun _ e => by cases e; exact kr v S1 h1) (fun _ e => by cases e)
  · exact es_callV hC hd hk hl1 hl2 hl3 hst hn hW hfit hq hCy he (r' := (.inr E, S1)) (kc _ hq9) (fun _ e => by cases e) (fun _ e => by cases e; exact et_out ht h1)
theorem es_callSI {idx n : Nat} {as : List Value} {q9 : Option xr} {kf : Int32 → xS → Option xr} (hf : xcI q9 kf = some r) (hd : decode (x_b M) pc = .ok (.invokestatic idx, 3)) (hk : x_CS M M' n) (hl1 : Cond.methodLink (x_y M).cls idx (x_y M') ∈ x_w) (hl2 : Cond.static (x_y M') ∈ x_w) (hst : st = as.reverse ++ rest) (hn : as.length = n) (hW : (rest.map fun v => v.category).sum ≤ 8) (hfit : (lg_sl as).length ≤ x_n M') (kc : ∀ r', q9 = some r' → ES l w g M' 0 (lv_args 0 as) [] S r') (ht : ∀ x ∈ tableOf (x_t M), covers x pc = false) (kr : ∀ (v : Int32) (S1 : xS), kf v S1 = some r → ES l w g M (pc + 3) ls (.int v :: rest) S1 r) : ES l w g M pc ls st S r := by
  rcases xcI_s hf with ⟨v, S1, hq9, h1⟩ | ⟨E, S1, hq9, h1⟩
  · exact es_callS hd hk hl1 hl2 hst hn hW hfit (r' := (.inl (some (.inl v)), S1)) (kc _ hq9) (fun _ e => by cases e; exact kr v S1 h1) (fun _ e => by cases e)
  · exact es_callS hd hk hl1 hl2 hst hn hW hfit (r' := (.inr E, S1)) (kc _ hq9) (fun _ e => by cases e) (fun _ e => by cases e; exact et_out ht h1)
theorem es_callVJ {idx n q : Nat} {as : List Value} {c : Nat} {C : String} {T : u_T} {N : Nat} {ty : Nat → FieldType} {fs : List Value} {q9 : Option xr} {kf : Int64 → xS → Option xr} (hf : xcJ q9 kf = some r) (hC : x_CL c C T N ty) (hd : decode (x_b M) pc = .ok (.invokevirtual idx, 3)) (hk : x_CS M M' n) (hl1 : Cond.methodLink (x_y M).cls idx (x_y M') ∈ x_w) (hl2 : Cond.instanceMethod (x_y M') ∈ x_w) (hl3 : Cond.selects (x_y M').cls (x_y M') (x_y M') ∈ x_w) (hst : st = as.reverse ++ .ref (w.2.1 + q) :: rest) (hn : as.length = n) (hW : (rest.map fun v => v.category).sum ≤ 8) (hfit : (lg_sl (.ref (w.2.1 + q) :: as)).length ≤ x_n M') (hq : q < 534) (hCy : C = (x_y M').cls) (he : cel w.2.1 q (S.1 q) (S.2.1 q) = .inr (c, fs)) (kc : ∀ r', q9 = some r' → ES l w g M' 0 (lv_args 0 (.ref (w.2.1 + q) :: as)) [] S r') (ht : ∀ x ∈ tableOf (x_t M), covers x pc = false) (kr : ∀ (v : Int64) (S1 : xS), kf v S1 = some r → ES l w g M (pc + 3) ls (.long v :: rest) S1 r) : ES l w g M pc ls st S r := by
  rcases xcJ_s hf with ⟨v, S1, hq9, h1⟩ | ⟨E, S1, hq9, h1⟩
  · exact es_callV hC hd hk hl1 hl2 hl3 hst hn hW hfit hq hCy he (r' := (.inl (some (.inr (.inl v))), S1)) (kc _ hq9) (fun _ e => by cases e; exact kr v S1 h1) (fun _ e => by cases e)
  · exact es_callV hC hd hk hl1 hl2 hl3 hst hn hW hfit hq hCy he (r' := (.inr E, S1)) (kc _ hq9) (fun _ e => by cases e) (fun _ e => by cases e; exact et_out ht h1)
theorem es_callSJ {idx n : Nat} {as : List Value} {q9 : Option xr} {kf : Int64 → xS → Option xr} (hf : xcJ q9 kf = some r) (hd : decode (x_b M) pc = .ok (.invokestatic idx, 3)) (hk : x_CS M M' n) (hl1 : Cond.methodLink (x_y M).cls idx (x_y M') ∈ x_w) (hl2 : Cond.static (x_y M') ∈ x_w) (hst : st = as.reverse ++ rest) (hn : as.length = n) (hW : (rest.map fun v => v.category).sum ≤ 8) (hfit : (lg_sl as).length ≤ x_n M') (kc : ∀ r', q9 = some r' → ES l w g M' 0 (lv_args 0 as) [] S r') (ht : ∀ x ∈ tableOf (x_t M), covers x pc = false) (kr : ∀ (v : Int64) (S1 : xS), kf v S1 = some r → ES l w g M (pc + 3) ls (.long v :: rest) S1 r) : ES l w g M pc ls st S r := by
  rcases xcJ_s hf with ⟨v, S1, hq9, h1⟩ | ⟨E, S1, hq9, h1⟩
  · exact es_callS hd hk hl1 hl2 hst hn hW hfit (r' := (.inl (some (.inr (.inl v))), S1)) (kc _ hq9) (fun _ e => by cases e; exact kr v S1 h1) (fun _ e => by cases e)
  · exact es_callS hd hk hl1 hl2 hst hn hW hfit (r' := (.inr E, S1)) (kc _ hq9) (fun _ e => by cases e) (fun _ e => by cases e; exact et_out ht h1)
theorem es_callVR {idx n q : Nat} {as : List Value} {c : Nat} {C : String} {T : u_T} {N : Nat} {ty : Nat → FieldType} {fs : List Value} {q9 : Option xr} {kf : Nat → xS → Option xr} (hf : xcR q9 kf = some r) (hC : x_CL c C T N ty) (hd : decode (x_b M) pc = .ok (.invokevirtual idx, 3)) (hk : x_CS M M' n) (hl1 : Cond.methodLink (x_y M).cls idx (x_y M') ∈ x_w) (hl2 : Cond.instanceMethod (x_y M') ∈ x_w) (hl3 : Cond.selects (x_y M').cls (x_y M') (x_y M') ∈ x_w) (hst : st = as.reverse ++ .ref (w.2.1 + q) :: rest) (hn : as.length = n) (hW : (rest.map fun v => v.category).sum ≤ 8) (hfit : (lg_sl (.ref (w.2.1 + q) :: as)).length ≤ x_n M') (hq : q < 534) (hCy : C = (x_y M').cls) (he : cel w.2.1 q (S.1 q) (S.2.1 q) = .inr (c, fs)) (kc : ∀ r', q9 = some r' → ES l w g M' 0 (lv_args 0 (.ref (w.2.1 + q) :: as)) [] S r') (ht : ∀ x ∈ tableOf (x_t M), covers x pc = false) (kr : ∀ (v : Nat) (S1 : xS), kf v S1 = some r → ES l w g M (pc + 3) ls (.ref (w.2.1 + v) :: rest) S1 r) : ES l w g M pc ls st S r := by
  rcases xcR_s hf with ⟨v, S1, hq9, h1⟩ | ⟨E, S1, hq9, h1⟩
  · exact es_callV hC hd hk hl1 hl2 hl3 hst hn hW hfit hq hCy he (r' := (.inl (some (.inr (.inr v))), S1)) (kc _ hq9) (fun _ e => by cases e; exact kr v S1 h1) (fun _ e => by cases e)
  · exact es_callV hC hd hk hl1 hl2 hl3 hst hn hW hfit hq hCy he (r' := (.inr E, S1)) (kc _ hq9) (fun _ e => by cases e) (fun _ e => by cases e; exact et_out ht h1)
theorem es_callSR {idx n : Nat} {as : List Value} {q9 : Option xr} {kf : Nat → xS → Option xr} (hf : xcR q9 kf = some r) (hd : decode (x_b M) pc = .ok (.invokestatic idx, 3)) (hk : x_CS M M' n) (hl1 : Cond.methodLink (x_y M).cls idx (x_y M') ∈ x_w) (hl2 : Cond.static (x_y M') ∈ x_w) (hst : st = as.reverse ++ rest) (hn : as.length = n) (hW : (rest.map fun v => v.category).sum ≤ 8) (hfit : (lg_sl as).length ≤ x_n M') (kc : ∀ r', q9 = some r' → ES l w g M' 0 (lv_args 0 as) [] S r') (ht : ∀ x ∈ tableOf (x_t M), covers x pc = false) (kr : ∀ (v : Nat) (S1 : xS), kf v S1 = some r → ES l w g M (pc + 3) ls (.ref (w.2.1 + v) :: rest) S1 r) : ES l w g M pc ls st S r := by
  rcases xcR_s hf with ⟨v, S1, hq9, h1⟩ | ⟨E, S1, hq9, h1⟩
  · exact es_callS hd hk hl1 hl2 hst hn hW hfit (r' := (.inl (some (.inr (.inr v))), S1)) (kc _ hq9) (fun _ e => by cases e; exact kr v S1 h1) (fun _ e => by cases e)
  · exact es_callS hd hk hl1 hl2 hst hn hW hfit (r' := (.inr E, S1)) (kc _ hq9) (fun _ e => by cases e) (fun _ e => by cases e; exact et_out ht h1)
theorem es_callVV {idx n q : Nat} {as : List Value} {c : Nat} {C : String} {T : u_T} {N : Nat} {ty : Nat → FieldType} {fs : List Value} {q9 : Option xr} {kf : xS → Option xr} (hf : xcV q9 kf = some r) (hC : x_CL c C T N ty) (hd : decode (x_b M) pc = .ok (.invokevirtual idx, 3)) (hk : x_CS M M' n) (hl1 : Cond.methodLink (x_y M).cls idx (x_y M') ∈ x_w) (hl2 : Cond.instanceMethod (x_y M') ∈ x_w) (hl3 : Cond.selects (x_y M').cls (x_y M') (x_y M') ∈ x_w) (hst : st = as.reverse ++ .ref (w.2.1 + q) :: rest) (hn : as.length = n) (hW : (rest.map fun v => v.category).sum ≤ 8) (hfit : (lg_sl (.ref (w.2.1 + q) :: as)).length ≤ x_n M') (hq : q < 534) (hCy : C = (x_y M').cls) (he : cel w.2.1 q (S.1 q) (S.2.1 q) = .inr (c, fs)) (kc : ∀ r', q9 = some r' → ES l w g M' 0 (lv_args 0 (.ref (w.2.1 + q) :: as)) [] S r') (ht : ∀ x ∈ tableOf (x_t M), covers x pc = false) (kr : ∀ (S1 : xS), kf S1 = some r → ES l w g M (pc + 3) ls (rest) S1 r) : ES l w g M pc ls st S r := by
  rcases xcV_s hf with ⟨S1, hq9, h1⟩ | ⟨E, S1, hq9, h1⟩
  · exact es_callV hC hd hk hl1 hl2 hl3 hst hn hW hfit hq hCy he (r' := (.inl (none), S1)) (kc _ hq9) (fun _ e => by cases e; exact kr S1 h1) (fun _ e => by cases e)
  · exact es_callV hC hd hk hl1 hl2 hl3 hst hn hW hfit hq hCy he (r' := (.inr E, S1)) (kc _ hq9) (fun _ e => by cases e) (fun _ e => by cases e; exact et_out ht h1)
theorem es_callSV {idx n : Nat} {as : List Value} {q9 : Option xr} {kf : xS → Option xr} (hf : xcV q9 kf = some r) (hd : decode (x_b M) pc = .ok (.invokestatic idx, 3)) (hk : x_CS M M' n) (hl1 : Cond.methodLink (x_y M).cls idx (x_y M') ∈ x_w) (hl2 : Cond.static (x_y M') ∈ x_w) (hst : st = as.reverse ++ rest) (hn : as.length = n) (hW : (rest.map fun v => v.category).sum ≤ 8) (hfit : (lg_sl as).length ≤ x_n M') (kc : ∀ r', q9 = some r' → ES l w g M' 0 (lv_args 0 as) [] S r') (ht : ∀ x ∈ tableOf (x_t M), covers x pc = false) (kr : ∀ (S1 : xS), kf S1 = some r → ES l w g M (pc + 3) ls (rest) S1 r) : ES l w g M pc ls st S r := by
  rcases xcV_s hf with ⟨S1, hq9, h1⟩ | ⟨E, S1, hq9, h1⟩
  · exact es_callS hd hk hl1 hl2 hst hn hW hfit (r' := (.inl (none), S1)) (kc _ hq9) (fun _ e => by cases e; exact kr S1 h1) (fun _ e => by cases e)
  · exact es_callS hd hk hl1 hl2 hst hn hW hfit (r' := (.inr E, S1)) (kc _ hq9) (fun _ e => by cases e) (fun _ e => by cases e; exact et_out ht h1)
end CF
