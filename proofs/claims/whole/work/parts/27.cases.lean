/-! the law's cases and its loop: over any invariant that every call keeps. Written by gen/mkcases.py -/
section LC
variable {scr : List Int32} {d : Nat} {S : List hs_S} {I : Nat → Nat → Int32} {L : Nat → Nat → Int64} {R : Nat → Nat → Nat} {P : (Nat → Nat → Int32) → (Nat → Nat → Int64) → (Nat → Nat → Nat) → Prop}
/-- a call of both, with an int (or a boolean) for an answer: the answers agree, the invariant is kept -/
def CKi (scr : List Int32) (S : List hs_S) (P : (Nat → Nat → Int32) → (Nat → Nat → Int64) → (Nat → Nat → Nat) → Prop) (d jx jm : Nat) (as : List Value) : Prop := ∀ I L R, P I L R → ∃ (x : Int32) (I1 : Nat → Nat → Int32) (L1 : Nat → Nat → Int64) (R1 : Nat → Nat → Nat) (I2 : Nat → Nat → Int32) (L2 : Nat → Nat → Int64) (R2 : Nat → Nat → Nat), hs_C scr d jx (.ref 2 :: as) (S, I, L, R) = some (some (.int x), (S, I1, L1, R1)) ∧ ok11 S R1 140 ∧ hs_C scr d jm (.ref 140 :: as) (S, I1, L1, R1) = some (some (.int x), (S, I2, L2, R2)) ∧ P I2 L2 R2
def CKl (scr : List Int32) (S : List hs_S) (P : (Nat → Nat → Int32) → (Nat → Nat → Int64) → (Nat → Nat → Nat) → Prop) (d jx jm : Nat) (as : List Value) : Prop := ∀ I L R, P I L R → ∃ (x : Int64) (I1 : Nat → Nat → Int32) (L1 : Nat → Nat → Int64) (R1 : Nat → Nat → Nat) (I2 : Nat → Nat → Int32) (L2 : Nat → Nat → Int64) (R2 : Nat → Nat → Nat), hs_C scr d jx (.ref 2 :: as) (S, I, L, R) = some (some (.long x), (S, I1, L1, R1)) ∧ ok11 S R1 140 ∧ hs_C scr d jm (.ref 140 :: as) (S, I1, L1, R1) = some (some (.long x), (S, I2, L2, R2)) ∧ P I2 L2 R2
theorem lg_cmp_self (x : Int64) : lg_cmp x x = 0 := by simp [lg_cmp]
theorem lc0 {x3 : Int32}  (ok : ok10 S R 2 ∧ ok11 S R 140) (h0 : S[0]? = some (.inl 99)) (hP : P I L R) (hc : CKi scr S P d 13 193 []) : ∃ (I2 : Nat → Nat → Int32) (L2 : Nat → Nat → Int64) (R2 : Nat → Nat → Nat), P I2 L2 R2 ∧ hs_R scr (d + 1) 360 292 [some (.ref 0), some (.ref 2), some (.ref 140), some (.int x3)] [] (S, I, L, R) = hs_R scr (d + 1) 360 1954 [some (.ref 0), some (.ref 2), some (.ref 140), some (.int x3)] [] (S, I2, L2, R2) := by
  obtain ⟨x, I1, L1, R1, I2, L2, R2, e1, ok2, e2, hP2⟩ := hc I L R hP
  refine ⟨I2, L2, R2, hP2, ?_⟩
  rw [b360_292 ok.1, e1]
  show hs_R scr (d + 1) 360 296 _ [.int x] (S, I1, L1, R1) = _
  rw [b360_296 ok2, e2]
  show hs_R scr (d + 1) 360 300 _ [.int x, .int x] (S, I2, L2, R2) = _
  rw [b360_300, if_pos rfl]
theorem lc1 {x3 : Int32}  (ok : ok10 S R 2 ∧ ok11 S R 140) (h0 : S[0]? = some (.inl 99)) (hP : P I L R) (hc : CKl scr S P d 14 194 []) : ∃ (I2 : Nat → Nat → Int32) (L2 : Nat → Nat → Int64) (R2 : Nat → Nat → Nat), P I2 L2 R2 ∧ hs_R scr (d + 1) 360 305 [some (.ref 0), some (.ref 2), some (.ref 140), some (.int x3)] [] (S, I, L, R) = hs_R scr (d + 1) 360 1954 [some (.ref 0), some (.ref 2), some (.ref 140), some (.int x3)] [] (S, I2, L2, R2) := by
  obtain ⟨x, I1, L1, R1, I2, L2, R2, e1, ok2, e2, hP2⟩ := hc I L R hP
  refine ⟨I2, L2, R2, hP2, ?_⟩
  rw [b360_305 ok.1, e1]
  show hs_R scr (d + 1) 360 309 _ [.long x] (S, I1, L1, R1) = _
  rw [b360_309 ok2, e2]
  show hs_R scr (d + 1) 360 313 _ [.long x, .long x] (S, I2, L2, R2) = _
  rw [b360_313, lg_cmp_self, if_pos rfl]
theorem lc2 {x3 : Int32}  (ok : ok10 S R 2 ∧ ok11 S R 140) (h0 : S[0]? = some (.inl 99)) (hP : P I L R) (hc : CKl scr S P d 15 195 []) : ∃ (I2 : Nat → Nat → Int32) (L2 : Nat → Nat → Int64) (R2 : Nat → Nat → Nat), P I2 L2 R2 ∧ hs_R scr (d + 1) 360 319 [some (.ref 0), some (.ref 2), some (.ref 140), some (.int x3)] [] (S, I, L, R) = hs_R scr (d + 1) 360 1954 [some (.ref 0), some (.ref 2), some (.ref 140), some (.int x3)] [] (S, I2, L2, R2) := by
  obtain ⟨x, I1, L1, R1, I2, L2, R2, e1, ok2, e2, hP2⟩ := hc I L R hP
  refine ⟨I2, L2, R2, hP2, ?_⟩
  rw [b360_319 ok.1, e1]
  show hs_R scr (d + 1) 360 323 _ [.long x] (S, I1, L1, R1) = _
  rw [b360_323 ok2, e2]
  show hs_R scr (d + 1) 360 327 _ [.long x, .long x] (S, I2, L2, R2) = _
  rw [b360_327, lg_cmp_self, if_pos rfl]
theorem lc3 {x3 : Int32} (hb1 : hs_ib (x3 + 1) scr.length = true) (hb2 : hs_ib (x3 + 2) scr.length = true) (hb3 : hs_ib (x3 + 3) scr.length = true) (ok : ok10 S R 2 ∧ ok11 S R 140) (h0 : S[0]? = some (.inl 99)) (hP : P I L R) (hc : CKi scr S P d 16 196 [.int (List.getD scr (Int32.toNatClampNeg (x3 + 1)) 0), .int (List.getD scr (Int32.toNatClampNeg (x3 + 2)) 0), .int (List.getD scr (Int32.toNatClampNeg (x3 + 3)) 0)]) : ∃ (I2 : Nat → Nat → Int32) (L2 : Nat → Nat → Int64) (R2 : Nat → Nat → Nat), P I2 L2 R2 ∧ hs_R scr (d + 1) 360 333 [some (.ref 0), some (.ref 2), some (.ref 140), some (.int x3)] [] (S, I, L, R) = hs_R scr (d + 1) 360 1954 [some (.ref 0), some (.ref 2), some (.ref 140), some (.int x3)] [] (S, I2, L2, R2) := by
  obtain ⟨x, I1, L1, R1, I2, L2, R2, e1, ok2, e2, hP2⟩ := hc I L R hP
  refine ⟨I2, L2, R2, hP2, ?_⟩
  rw [b360_333 h0 ok.1, if_pos hb1, if_pos hb2, if_pos hb3, e1]
  show hs_R scr (d + 1) 360 352 _ [.int x] (S, I1, L1, R1) = _
  rw [b360_352 h0 ok2, if_pos hb1, if_pos hb2, if_pos hb3, e2]
  show hs_R scr (d + 1) 360 371 _ [.int x, .int x] (S, I2, L2, R2) = _
  rw [b360_371, if_pos rfl]
theorem lc4 {x3 : Int32} (hb1 : hs_ib (x3 + 1) scr.length = true) (hb2 : hs_ib (x3 + 2) scr.length = true) (hb3 : hs_ib (x3 + 3) scr.length = true) (hb4 : hs_ib (x3 + 4) scr.length = true) (ok : ok10 S R 2 ∧ ok11 S R 140) (h0 : S[0]? = some (.inl 99)) (hP : P I L R) (hc : CKi scr S P d 21 198 [.int (List.getD scr (Int32.toNatClampNeg (x3 + 1)) 0), .int (List.getD scr (Int32.toNatClampNeg (x3 + 2)) 0), .long (((Int32.toInt64 (List.getD scr (Int32.toNatClampNeg (x3 + 3)) 0)) <<< (Int32.toInt64 32 &&& 63)) ||| ((Int32.toInt64 (List.getD scr (Int32.toNatClampNeg (x3 + 4)) 0)) &&& 4294967295))]) : ∃ (I2 : Nat → Nat → Int32) (L2 : Nat → Nat → Int64) (R2 : Nat → Nat → Nat), P I2 L2 R2 ∧ hs_R scr (d + 1) 360 376 [some (.ref 0), some (.ref 2), some (.ref 140), some (.int x3)] [] (S, I, L, R) = hs_R scr (d + 1) 360 1954 [some (.ref 0), some (.ref 2), some (.ref 140), some (.int x3)] [] (S, I2, L2, R2) := by
  obtain ⟨x, I1, L1, R1, I2, L2, R2, e1, ok2, e2, hP2⟩ := hc I L R hP
  refine ⟨I2, L2, R2, hP2, ?_⟩
  rw [b360_376 h0 ok.1, if_pos hb1, if_pos hb2, if_pos hb3, if_pos hb4, e1]
  show hs_R scr (d + 1) 360 410 _ [.int x] (S, I1, L1, R1) = _
  rw [b360_410 h0 ok2, if_pos hb1, if_pos hb2, if_pos hb3, if_pos hb4, e2]
  show hs_R scr (d + 1) 360 444 _ [.int x, .int x] (S, I2, L2, R2) = _
  rw [b360_444, if_pos rfl]
theorem lc5 {x3 : Int32} (hb1 : hs_ib (x3 + 1) scr.length = true) (hb2 : hs_ib (x3 + 2) scr.length = true) (ok : ok10 S R 2 ∧ ok11 S R 140) (h0 : S[0]? = some (.inl 99)) (hP : P I L R) (hc : CKl scr S P d 27 202 [.int (List.getD scr (Int32.toNatClampNeg (x3 + 1)) 0), .int (List.getD scr (Int32.toNatClampNeg (x3 + 2)) 0)]) : ∃ (I2 : Nat → Nat → Int32) (L2 : Nat → Nat → Int64) (R2 : Nat → Nat → Nat), P I2 L2 R2 ∧ hs_R scr (d + 1) 360 449 [some (.ref 0), some (.ref 2), some (.ref 140), some (.int x3)] [] (S, I, L, R) = hs_R scr (d + 1) 360 1954 [some (.ref 0), some (.ref 2), some (.ref 140), some (.int x3)] [] (S, I2, L2, R2) := by
  obtain ⟨x, I1, L1, R1, I2, L2, R2, e1, ok2, e2, hP2⟩ := hc I L R hP
  refine ⟨I2, L2, R2, hP2, ?_⟩
  rw [b360_449 h0 ok.1, if_pos hb1, if_pos hb2, e1]
  show hs_R scr (d + 1) 360 463 _ [.long x] (S, I1, L1, R1) = _
  rw [b360_463 h0 ok2, if_pos hb1, if_pos hb2, e2]
  show hs_R scr (d + 1) 360 477 _ [.long x, .long x] (S, I2, L2, R2) = _
  rw [b360_477, lg_cmp_self, if_pos rfl]
theorem lc6 {x3 : Int32} (hb1 : hs_ib (x3 + 1) scr.length = true) (hb2 : hs_ib (x3 + 2) scr.length = true) (hb3 : hs_ib (x3 + 3) scr.length = true) (hb4 : hs_ib (x3 + 4) scr.length = true) (hb5 : hs_ib (x3 + 5) scr.length = true) (ok : ok10 S R 2 ∧ ok11 S R 140) (h0 : S[0]? = some (.inl 99)) (hP : P I L R) (hc : CKi scr S P d 29 203 [.int (List.getD scr (Int32.toNatClampNeg (x3 + 1)) 0), .int (List.getD scr (Int32.toNatClampNeg (x3 + 2)) 0), .int (List.getD scr (Int32.toNatClampNeg (x3 + 3)) 0), .int (List.getD scr (Int32.toNatClampNeg (x3 + 4)) 0), .int (List.getD scr (Int32.toNatClampNeg (x3 + 5)) 0)]) : ∃ (I2 : Nat → Nat → Int32) (L2 : Nat → Nat → Int64) (R2 : Nat → Nat → Nat), P I2 L2 R2 ∧ hs_R scr (d + 1) 360 483 [some (.ref 0), some (.ref 2), some (.ref 140), some (.int x3)] [] (S, I, L, R) = hs_R scr (d + 1) 360 1954 [some (.ref 0), some (.ref 2), some (.ref 140), some (.int x3)] [] (S, I2, L2, R2) := by
  obtain ⟨x, I1, L1, R1, I2, L2, R2, e1, ok2, e2, hP2⟩ := hc I L R hP
  refine ⟨I2, L2, R2, hP2, ?_⟩
  rw [b360_483 h0 ok.1, if_pos hb1, if_pos hb2, if_pos hb3, if_pos hb4, if_pos hb5, e1]
  show hs_R scr (d + 1) 360 512 _ [.int x] (S, I1, L1, R1) = _
  rw [b360_512 h0 ok2, if_pos hb1, if_pos hb2, if_pos hb3, if_pos hb4, if_pos hb5, e2]
  show hs_R scr (d + 1) 360 541 _ [.int x, .int x] (S, I2, L2, R2) = _
  rw [b360_541, if_pos rfl]
theorem lc7 {x3 : Int32} (hb1 : hs_ib (x3 + 1) scr.length = true) (hb2 : hs_ib (x3 + 2) scr.length = true) (hb3 : hs_ib (x3 + 3) scr.length = true) (hb4 : hs_ib (x3 + 4) scr.length = true) (hb5 : hs_ib (x3 + 5) scr.length = true) (ok : ok10 S R 2 ∧ ok11 S R 140) (h0 : S[0]? = some (.inl 99)) (hP : P I L R) (hc : CKi scr S P d 31 204 [.int (List.getD scr (Int32.toNatClampNeg (x3 + 1)) 0), .int (List.getD scr (Int32.toNatClampNeg (x3 + 2)) 0), .int (List.getD scr (Int32.toNatClampNeg (x3 + 3)) 0), .int (List.getD scr (Int32.toNatClampNeg (x3 + 4)) 0), .int (List.getD scr (Int32.toNatClampNeg (x3 + 5)) 0)]) : ∃ (I2 : Nat → Nat → Int32) (L2 : Nat → Nat → Int64) (R2 : Nat → Nat → Nat), P I2 L2 R2 ∧ hs_R scr (d + 1) 360 546 [some (.ref 0), some (.ref 2), some (.ref 140), some (.int x3)] [] (S, I, L, R) = hs_R scr (d + 1) 360 1954 [some (.ref 0), some (.ref 2), some (.ref 140), some (.int x3)] [] (S, I2, L2, R2) := by
  obtain ⟨x, I1, L1, R1, I2, L2, R2, e1, ok2, e2, hP2⟩ := hc I L R hP
  refine ⟨I2, L2, R2, hP2, ?_⟩
  rw [b360_546 h0 ok.1, if_pos hb1, if_pos hb2, if_pos hb3, if_pos hb4, if_pos hb5, e1]
  show hs_R scr (d + 1) 360 575 _ [.int x] (S, I1, L1, R1) = _
  rw [b360_575 h0 ok2, if_pos hb1, if_pos hb2, if_pos hb3, if_pos hb4, if_pos hb5, e2]
  show hs_R scr (d + 1) 360 604 _ [.int x, .int x] (S, I2, L2, R2) = _
  rw [b360_604, if_pos rfl]
theorem lc8 {x3 : Int32} (hb1 : hs_ib (x3 + 1) scr.length = true) (ok : ok10 S R 2 ∧ ok11 S R 140) (h0 : S[0]? = some (.inl 99)) (hP : P I L R) (hc : CKi scr S P d 34 207 [.int (List.getD scr (Int32.toNatClampNeg (x3 + 1)) 0)]) : ∃ (I2 : Nat → Nat → Int32) (L2 : Nat → Nat → Int64) (R2 : Nat → Nat → Nat), P I2 L2 R2 ∧ hs_R scr (d + 1) 360 609 [some (.ref 0), some (.ref 2), some (.ref 140), some (.int x3)] [] (S, I, L, R) = hs_R scr (d + 1) 360 1954 [some (.ref 0), some (.ref 2), some (.ref 140), some (.int x3)] [] (S, I2, L2, R2) := by
  obtain ⟨x, I1, L1, R1, I2, L2, R2, e1, ok2, e2, hP2⟩ := hc I L R hP
  refine ⟨I2, L2, R2, hP2, ?_⟩
  rw [b360_609 h0 ok.1, if_pos hb1, e1]
  show hs_R scr (d + 1) 360 618 _ [.int x] (S, I1, L1, R1) = _
  rw [b360_618 h0 ok2, if_pos hb1, e2]
  show hs_R scr (d + 1) 360 627 _ [.int x, .int x] (S, I2, L2, R2) = _
  rw [b360_627, if_pos rfl]
theorem lc9 {x3 : Int32} (hb1 : hs_ib (x3 + 1) scr.length = true) (ok : ok10 S R 2 ∧ ok11 S R 140) (h0 : S[0]? = some (.inl 99)) (hP : P I L R) (hc : CKi scr S P d 69 260 [.int (List.getD scr (Int32.toNatClampNeg (x3 + 1)) 0)]) : ∃ (I2 : Nat → Nat → Int32) (L2 : Nat → Nat → Int64) (R2 : Nat → Nat → Nat), P I2 L2 R2 ∧ hs_R scr (d + 1) 360 632 [some (.ref 0), some (.ref 2), some (.ref 140), some (.int x3)] [] (S, I, L, R) = hs_R scr (d + 1) 360 1954 [some (.ref 0), some (.ref 2), some (.ref 140), some (.int x3)] [] (S, I2, L2, R2) := by
  obtain ⟨x, I1, L1, R1, I2, L2, R2, e1, ok2, e2, hP2⟩ := hc I L R hP
  refine ⟨I2, L2, R2, hP2, ?_⟩
  rw [b360_632 h0 ok.1, if_pos hb1, e1]
  show hs_R scr (d + 1) 360 641 _ [.int x] (S, I1, L1, R1) = _
  rw [b360_641 h0 ok2, if_pos hb1, e2]
  show hs_R scr (d + 1) 360 650 _ [.int x, .int x] (S, I2, L2, R2) = _
  rw [b360_650, if_pos rfl]
theorem lc10 {x3 : Int32} (hb1 : hs_ib (x3 + 1) scr.length = true) (ok : ok10 S R 2 ∧ ok11 S R 140) (h0 : S[0]? = some (.inl 99)) (hP : P I L R) (hc : CKi scr S P d 79 206 [.int (List.getD scr (Int32.toNatClampNeg (x3 + 1)) 0)]) : ∃ (I2 : Nat → Nat → Int32) (L2 : Nat → Nat → Int64) (R2 : Nat → Nat → Nat), P I2 L2 R2 ∧ hs_R scr (d + 1) 360 655 [some (.ref 0), some (.ref 2), some (.ref 140), some (.int x3)] [] (S, I, L, R) = hs_R scr (d + 1) 360 1954 [some (.ref 0), some (.ref 2), some (.ref 140), some (.int x3)] [] (S, I2, L2, R2) := by
  obtain ⟨x, I1, L1, R1, I2, L2, R2, e1, ok2, e2, hP2⟩ := hc I L R hP
  refine ⟨I2, L2, R2, hP2, ?_⟩
  rw [b360_655 h0 ok.1, if_pos hb1, e1]
  show hs_R scr (d + 1) 360 664 _ [.int x] (S, I1, L1, R1) = _
  rw [b360_664 h0 ok2, if_pos hb1, e2]
  show hs_R scr (d + 1) 360 673 _ [.int x, .int x] (S, I2, L2, R2) = _
  rw [b360_673, if_pos rfl]
theorem lc11 {x3 : Int32} (hb1 : hs_ib (x3 + 1) scr.length = true) (ok : ok10 S R 2 ∧ ok11 S R 140) (h0 : S[0]? = some (.inl 99)) (hP : P I L R) (hc : CKi scr S P d 80 264 [.int (List.getD scr (Int32.toNatClampNeg (x3 + 1)) 0)]) : ∃ (I2 : Nat → Nat → Int32) (L2 : Nat → Nat → Int64) (R2 : Nat → Nat → Nat), P I2 L2 R2 ∧ hs_R scr (d + 1) 360 678 [some (.ref 0), some (.ref 2), some (.ref 140), some (.int x3)] [] (S, I, L, R) = hs_R scr (d + 1) 360 1954 [some (.ref 0), some (.ref 2), some (.ref 140), some (.int x3)] [] (S, I2, L2, R2) := by
  obtain ⟨x, I1, L1, R1, I2, L2, R2, e1, ok2, e2, hP2⟩ := hc I L R hP
  refine ⟨I2, L2, R2, hP2, ?_⟩
  rw [b360_678 h0 ok.1, if_pos hb1, e1]
  show hs_R scr (d + 1) 360 687 _ [.int x] (S, I1, L1, R1) = _
  rw [b360_687 h0 ok2, if_pos hb1, e2]
  show hs_R scr (d + 1) 360 696 _ [.int x, .int x] (S, I2, L2, R2) = _
  rw [b360_696, if_pos rfl]
theorem lc12 {x3 : Int32} (hb1 : hs_ib (x3 + 1) scr.length = true) (hb2 : hs_ib (x3 + 2) scr.length = true) (ok : ok10 S R 2 ∧ ok11 S R 140) (h0 : S[0]? = some (.inl 99)) (hP : P I L R) (hc : CKi scr S P d 88 271 [.int (List.getD scr (Int32.toNatClampNeg (x3 + 1)) 0), .int (List.getD scr (Int32.toNatClampNeg (x3 + 2)) 0)]) : ∃ (I2 : Nat → Nat → Int32) (L2 : Nat → Nat → Int64) (R2 : Nat → Nat → Nat), P I2 L2 R2 ∧ hs_R scr (d + 1) 360 701 [some (.ref 0), some (.ref 2), some (.ref 140), some (.int x3)] [] (S, I, L, R) = hs_R scr (d + 1) 360 1954 [some (.ref 0), some (.ref 2), some (.ref 140), some (.int x3)] [] (S, I2, L2, R2) := by
  obtain ⟨x, I1, L1, R1, I2, L2, R2, e1, ok2, e2, hP2⟩ := hc I L R hP
  refine ⟨I2, L2, R2, hP2, ?_⟩
  rw [b360_701 h0 ok.1, if_pos hb1, if_pos hb2, e1]
  show hs_R scr (d + 1) 360 715 _ [.int x] (S, I1, L1, R1) = _
  rw [b360_715 h0 ok2, if_pos hb1, if_pos hb2, e2]
  show hs_R scr (d + 1) 360 729 _ [.int x, .int x] (S, I2, L2, R2) = _
  rw [b360_729, if_pos rfl]
theorem lc13 {x3 : Int32} (hb1 : hs_ib (x3 + 1) scr.length = true) (hb2 : hs_ib (x3 + 2) scr.length = true) (ok : ok10 S R 2 ∧ ok11 S R 140) (h0 : S[0]? = some (.inl 99)) (hP : P I L R) (hc : CKi scr S P d 90 273 [.int (List.getD scr (Int32.toNatClampNeg (x3 + 1)) 0), .int (List.getD scr (Int32.toNatClampNeg (x3 + 2)) 0)]) : ∃ (I2 : Nat → Nat → Int32) (L2 : Nat → Nat → Int64) (R2 : Nat → Nat → Nat), P I2 L2 R2 ∧ hs_R scr (d + 1) 360 734 [some (.ref 0), some (.ref 2), some (.ref 140), some (.int x3)] [] (S, I, L, R) = hs_R scr (d + 1) 360 1954 [some (.ref 0), some (.ref 2), some (.ref 140), some (.int x3)] [] (S, I2, L2, R2) := by
  obtain ⟨x, I1, L1, R1, I2, L2, R2, e1, ok2, e2, hP2⟩ := hc I L R hP
  refine ⟨I2, L2, R2, hP2, ?_⟩
  rw [b360_734 h0 ok.1, if_pos hb1, if_pos hb2, e1]
  show hs_R scr (d + 1) 360 748 _ [.int x] (S, I1, L1, R1) = _
  rw [b360_748 h0 ok2, if_pos hb1, if_pos hb2, e2]
  show hs_R scr (d + 1) 360 762 _ [.int x, .int x] (S, I2, L2, R2) = _
  rw [b360_762, if_pos rfl]
theorem lc14 {x3 : Int32}  (ok : ok10 S R 2 ∧ ok11 S R 140) (h0 : S[0]? = some (.inl 99)) (hP : P I L R) (hc : CKi scr S P d 92 275 []) : ∃ (I2 : Nat → Nat → Int32) (L2 : Nat → Nat → Int64) (R2 : Nat → Nat → Nat), P I2 L2 R2 ∧ hs_R scr (d + 1) 360 767 [some (.ref 0), some (.ref 2), some (.ref 140), some (.int x3)] [] (S, I, L, R) = hs_R scr (d + 1) 360 1954 [some (.ref 0), some (.ref 2), some (.ref 140), some (.int x3)] [] (S, I2, L2, R2) := by
  obtain ⟨x, I1, L1, R1, I2, L2, R2, e1, ok2, e2, hP2⟩ := hc I L R hP
  refine ⟨I2, L2, R2, hP2, ?_⟩
  rw [b360_767 ok.1, e1]
  show hs_R scr (d + 1) 360 771 _ [.int x] (S, I1, L1, R1) = _
  rw [b360_771 ok2, e2]
  show hs_R scr (d + 1) 360 775 _ [.int x, .int x] (S, I2, L2, R2) = _
  rw [b360_775, if_pos rfl]
theorem lc15 {x3 : Int32} (hb1 : hs_ib (x3 + 1) scr.length = true) (ok : ok10 S R 2 ∧ ok11 S R 140) (h0 : S[0]? = some (.inl 99)) (hP : P I L R) (hc : CKi scr S P d 93 276 [.int (List.getD scr (Int32.toNatClampNeg (x3 + 1)) 0)]) : ∃ (I2 : Nat → Nat → Int32) (L2 : Nat → Nat → Int64) (R2 : Nat → Nat → Nat), P I2 L2 R2 ∧ hs_R scr (d + 1) 360 780 [some (.ref 0), some (.ref 2), some (.ref 140), some (.int x3)] [] (S, I, L, R) = hs_R scr (d + 1) 360 1954 [some (.ref 0), some (.ref 2), some (.ref 140), some (.int x3)] [] (S, I2, L2, R2) := by
  obtain ⟨x, I1, L1, R1, I2, L2, R2, e1, ok2, e2, hP2⟩ := hc I L R hP
  refine ⟨I2, L2, R2, hP2, ?_⟩
  rw [b360_780 h0 ok.1, if_pos hb1, e1]
  show hs_R scr (d + 1) 360 789 _ [.int x] (S, I1, L1, R1) = _
  rw [b360_789 h0 ok2, if_pos hb1, e2]
  show hs_R scr (d + 1) 360 798 _ [.int x, .int x] (S, I2, L2, R2) = _
  rw [b360_798, if_pos rfl]
theorem lc16 {x3 : Int32} (hb1 : hs_ib (x3 + 1) scr.length = true) (hb2 : hs_ib (x3 + 2) scr.length = true) (ok : ok10 S R 2 ∧ ok11 S R 140) (h0 : S[0]? = some (.inl 99)) (hP : P I L R) (hc : CKi scr S P d 94 277 [.int (List.getD scr (Int32.toNatClampNeg (x3 + 1)) 0), .int (List.getD scr (Int32.toNatClampNeg (x3 + 2)) 0)]) : ∃ (I2 : Nat → Nat → Int32) (L2 : Nat → Nat → Int64) (R2 : Nat → Nat → Nat), P I2 L2 R2 ∧ hs_R scr (d + 1) 360 803 [some (.ref 0), some (.ref 2), some (.ref 140), some (.int x3)] [] (S, I, L, R) = hs_R scr (d + 1) 360 1954 [some (.ref 0), some (.ref 2), some (.ref 140), some (.int x3)] [] (S, I2, L2, R2) := by
  obtain ⟨x, I1, L1, R1, I2, L2, R2, e1, ok2, e2, hP2⟩ := hc I L R hP
  refine ⟨I2, L2, R2, hP2, ?_⟩
  rw [b360_803 h0 ok.1, if_pos hb1, if_pos hb2, e1]
  show hs_R scr (d + 1) 360 817 _ [.int x] (S, I1, L1, R1) = _
  rw [b360_817 h0 ok2, if_pos hb1, if_pos hb2, e2]
  show hs_R scr (d + 1) 360 831 _ [.int x, .int x] (S, I2, L2, R2) = _
  rw [b360_831, if_pos rfl]
theorem lc17 {x3 : Int32} (hb1 : hs_ib (x3 + 1) scr.length = true) (hb2 : hs_ib (x3 + 2) scr.length = true) (ok : ok10 S R 2 ∧ ok11 S R 140) (h0 : S[0]? = some (.inl 99)) (hP : P I L R) (hc : CKi scr S P d 97 280 [.int (List.getD scr (Int32.toNatClampNeg (x3 + 1)) 0), .int (List.getD scr (Int32.toNatClampNeg (x3 + 2)) 0)]) : ∃ (I2 : Nat → Nat → Int32) (L2 : Nat → Nat → Int64) (R2 : Nat → Nat → Nat), P I2 L2 R2 ∧ hs_R scr (d + 1) 360 836 [some (.ref 0), some (.ref 2), some (.ref 140), some (.int x3)] [] (S, I, L, R) = hs_R scr (d + 1) 360 1954 [some (.ref 0), some (.ref 2), some (.ref 140), some (.int x3)] [] (S, I2, L2, R2) := by
  obtain ⟨x, I1, L1, R1, I2, L2, R2, e1, ok2, e2, hP2⟩ := hc I L R hP
  refine ⟨I2, L2, R2, hP2, ?_⟩
  rw [b360_836 h0 ok.1, if_pos hb1, if_pos hb2, e1]
  show hs_R scr (d + 1) 360 850 _ [.int x] (S, I1, L1, R1) = _
  rw [b360_850 h0 ok2, if_pos hb1, if_pos hb2, e2]
  show hs_R scr (d + 1) 360 864 _ [.int x, .int x] (S, I2, L2, R2) = _
  rw [b360_864, if_pos rfl]
theorem lc18 {x3 : Int32} (hb1 : hs_ib (x3 + 1) scr.length = true) (ok : ok10 S R 2 ∧ ok11 S R 140) (h0 : S[0]? = some (.inl 99)) (hP : P I L R) (hc : CKi scr S P d 98 281 [.int (List.getD scr (Int32.toNatClampNeg (x3 + 1)) 0)]) : ∃ (I2 : Nat → Nat → Int32) (L2 : Nat → Nat → Int64) (R2 : Nat → Nat → Nat), P I2 L2 R2 ∧ hs_R scr (d + 1) 360 869 [some (.ref 0), some (.ref 2), some (.ref 140), some (.int x3)] [] (S, I, L, R) = hs_R scr (d + 1) 360 1954 [some (.ref 0), some (.ref 2), some (.ref 140), some (.int x3)] [] (S, I2, L2, R2) := by
  obtain ⟨x, I1, L1, R1, I2, L2, R2, e1, ok2, e2, hP2⟩ := hc I L R hP
  refine ⟨I2, L2, R2, hP2, ?_⟩
  rw [b360_869 h0 ok.1, if_pos hb1, e1]
  show hs_R scr (d + 1) 360 878 _ [.int x] (S, I1, L1, R1) = _
  rw [b360_878 h0 ok2, if_pos hb1, e2]
  show hs_R scr (d + 1) 360 887 _ [.int x, .int x] (S, I2, L2, R2) = _
  rw [b360_887, if_pos rfl]
theorem lc19 {x3 : Int32} (hb1 : hs_ib (x3 + 1) scr.length = true) (ok : ok10 S R 2 ∧ ok11 S R 140) (h0 : S[0]? = some (.inl 99)) (hP : P I L R) (hc : CKi scr S P d 99 283 [.int (List.getD scr (Int32.toNatClampNeg (x3 + 1)) 0)]) : ∃ (I2 : Nat → Nat → Int32) (L2 : Nat → Nat → Int64) (R2 : Nat → Nat → Nat), P I2 L2 R2 ∧ hs_R scr (d + 1) 360 892 [some (.ref 0), some (.ref 2), some (.ref 140), some (.int x3)] [] (S, I, L, R) = hs_R scr (d + 1) 360 1954 [some (.ref 0), some (.ref 2), some (.ref 140), some (.int x3)] [] (S, I2, L2, R2) := by
  obtain ⟨x, I1, L1, R1, I2, L2, R2, e1, ok2, e2, hP2⟩ := hc I L R hP
  refine ⟨I2, L2, R2, hP2, ?_⟩
  rw [b360_892 h0 ok.1, if_pos hb1, e1]
  show hs_R scr (d + 1) 360 901 _ [.int x] (S, I1, L1, R1) = _
  rw [b360_901 h0 ok2, if_pos hb1, e2]
  show hs_R scr (d + 1) 360 910 _ [.int x, .int x] (S, I2, L2, R2) = _
  rw [b360_910, if_pos rfl]
theorem lc20 {x3 : Int32} (hb1 : hs_ib (x3 + 1) scr.length = true) (ok : ok10 S R 2 ∧ ok11 S R 140) (h0 : S[0]? = some (.inl 99)) (hP : P I L R) (hc0 : CKi scr S P d 104 285 [.int 0]) (hc1 : CKi scr S P d 104 285 [.int 1]) : ∃ (I2 : Nat → Nat → Int32) (L2 : Nat → Nat → Int64) (R2 : Nat → Nat → Nat), P I2 L2 R2 ∧ hs_R scr (d + 1) 360 915 [some (.ref 0), some (.ref 2), some (.ref 140), some (.int x3)] [] (S, I, L, R) = hs_R scr (d + 1) 360 1954 [some (.ref 0), some (.ref 2), some (.ref 140), some (.int x3)] [] (S, I2, L2, R2) := by
  by_cases hz : (List.getD scr (Int32.toNatClampNeg (x3 + 1)) 0) = 0
  · obtain ⟨x, I1, L1, R1, I2, L2, R2, e1, ok2, e2, hP2⟩ := hc0 I L R hP
    refine ⟨I2, L2, R2, hP2, ?_⟩
    rw [b360_915 h0, if_pos hb1, if_pos hz, b360_929 ok.1, e1]
    show hs_R scr (d + 1) 360 932 _ [.int x] (S, I1, L1, R1) = _
    rw [b360_932 h0, if_pos hb1, if_pos hz, b360_946 ok2, e2]
    show hs_R scr (d + 1) 360 949 _ [.int x, .int x] (S, I2, L2, R2) = _
    rw [b360_949, if_pos rfl]
  · obtain ⟨x, I1, L1, R1, I2, L2, R2, e1, ok2, e2, hP2⟩ := hc1 I L R hP
    refine ⟨I2, L2, R2, hP2, ?_⟩
    rw [b360_915 h0, if_pos hb1, if_neg hz, b360_929 ok.1, e1]
    show hs_R scr (d + 1) 360 932 _ [.int x] (S, I1, L1, R1) = _
    rw [b360_932 h0, if_pos hb1, if_neg hz, b360_946 ok2, e2]
    show hs_R scr (d + 1) 360 949 _ [.int x, .int x] (S, I2, L2, R2) = _
    rw [b360_949, if_pos rfl]
theorem lc21 {x3 : Int32} (hb1 : hs_ib (x3 + 1) scr.length = true) (hb2 : hs_ib (x3 + 2) scr.length = true) (ok : ok10 S R 2 ∧ ok11 S R 140) (h0 : S[0]? = some (.inl 99)) (hP : P I L R) (hc : CKi scr S P d 106 287 [.int (List.getD scr (Int32.toNatClampNeg (x3 + 1)) 0), .int (List.getD scr (Int32.toNatClampNeg (x3 + 2)) 0)]) : ∃ (I2 : Nat → Nat → Int32) (L2 : Nat → Nat → Int64) (R2 : Nat → Nat → Nat), P I2 L2 R2 ∧ hs_R scr (d + 1) 360 954 [some (.ref 0), some (.ref 2), some (.ref 140), some (.int x3)] [] (S, I, L, R) = hs_R scr (d + 1) 360 1954 [some (.ref 0), some (.ref 2), some (.ref 140), some (.int x3)] [] (S, I2, L2, R2) := by
  obtain ⟨x, I1, L1, R1, I2, L2, R2, e1, ok2, e2, hP2⟩ := hc I L R hP
  refine ⟨I2, L2, R2, hP2, ?_⟩
  rw [b360_954 h0 ok.1, if_pos hb1, if_pos hb2, e1]
  show hs_R scr (d + 1) 360 968 _ [.int x] (S, I1, L1, R1) = _
  rw [b360_968 h0 ok2, if_pos hb1, if_pos hb2, e2]
  show hs_R scr (d + 1) 360 982 _ [.int x, .int x] (S, I2, L2, R2) = _
  rw [b360_982, if_pos rfl]
theorem lc22 {x3 : Int32} (hb1 : hs_ib (x3 + 1) scr.length = true) (hb2 : hs_ib (x3 + 2) scr.length = true) (ok : ok10 S R 2 ∧ ok11 S R 140) (h0 : S[0]? = some (.inl 99)) (hP : P I L R) (hc : CKi scr S P d 108 288 [.int (List.getD scr (Int32.toNatClampNeg (x3 + 1)) 0), .int (List.getD scr (Int32.toNatClampNeg (x3 + 2)) 0)]) : ∃ (I2 : Nat → Nat → Int32) (L2 : Nat → Nat → Int64) (R2 : Nat → Nat → Nat), P I2 L2 R2 ∧ hs_R scr (d + 1) 360 987 [some (.ref 0), some (.ref 2), some (.ref 140), some (.int x3)] [] (S, I, L, R) = hs_R scr (d + 1) 360 1954 [some (.ref 0), some (.ref 2), some (.ref 140), some (.int x3)] [] (S, I2, L2, R2) := by
  obtain ⟨x, I1, L1, R1, I2, L2, R2, e1, ok2, e2, hP2⟩ := hc I L R hP
  refine ⟨I2, L2, R2, hP2, ?_⟩
  rw [b360_987 h0 ok.1, if_pos hb1, if_pos hb2, e1]
  show hs_R scr (d + 1) 360 1001 _ [.int x] (S, I1, L1, R1) = _
  rw [b360_1001 h0 ok2, if_pos hb1, if_pos hb2, e2]
  show hs_R scr (d + 1) 360 1015 _ [.int x, .int x] (S, I2, L2, R2) = _
  rw [b360_1015, if_pos rfl]
theorem lc23 {x3 : Int32} (hb1 : hs_ib (x3 + 1) scr.length = true) (hb2 : hs_ib (x3 + 2) scr.length = true) (ok : ok10 S R 2 ∧ ok11 S R 140) (h0 : S[0]? = some (.inl 99)) (hP : P I L R) (hc : CKi scr S P d 111 291 [.int (List.getD scr (Int32.toNatClampNeg (x3 + 1)) 0), .int (List.getD scr (Int32.toNatClampNeg (x3 + 2)) 0)]) : ∃ (I2 : Nat → Nat → Int32) (L2 : Nat → Nat → Int64) (R2 : Nat → Nat → Nat), P I2 L2 R2 ∧ hs_R scr (d + 1) 360 1020 [some (.ref 0), some (.ref 2), some (.ref 140), some (.int x3)] [] (S, I, L, R) = hs_R scr (d + 1) 360 1954 [some (.ref 0), some (.ref 2), some (.ref 140), some (.int x3)] [] (S, I2, L2, R2) := by
  obtain ⟨x, I1, L1, R1, I2, L2, R2, e1, ok2, e2, hP2⟩ := hc I L R hP
  refine ⟨I2, L2, R2, hP2, ?_⟩
  rw [b360_1020 h0 ok.1, if_pos hb1, if_pos hb2, e1]
  show hs_R scr (d + 1) 360 1034 _ [.int x] (S, I1, L1, R1) = _
  rw [b360_1034 h0 ok2, if_pos hb1, if_pos hb2, e2]
  show hs_R scr (d + 1) 360 1048 _ [.int x, .int x] (S, I2, L2, R2) = _
  rw [b360_1048, if_pos rfl]
theorem lc24 {x3 : Int32}  (ok : ok10 S R 2 ∧ ok11 S R 140) (h0 : S[0]? = some (.inl 99)) (hP : P I L R) (hc : CKi scr S P d 113 293 []) : ∃ (I2 : Nat → Nat → Int32) (L2 : Nat → Nat → Int64) (R2 : Nat → Nat → Nat), P I2 L2 R2 ∧ hs_R scr (d + 1) 360 1053 [some (.ref 0), some (.ref 2), some (.ref 140), some (.int x3)] [] (S, I, L, R) = hs_R scr (d + 1) 360 1954 [some (.ref 0), some (.ref 2), some (.ref 140), some (.int x3)] [] (S, I2, L2, R2) := by
  obtain ⟨x, I1, L1, R1, I2, L2, R2, e1, ok2, e2, hP2⟩ := hc I L R hP
  refine ⟨I2, L2, R2, hP2, ?_⟩
  rw [b360_1053 ok.1, e1]
  show hs_R scr (d + 1) 360 1057 _ [.int x] (S, I1, L1, R1) = _
  rw [b360_1057 ok2, e2]
  show hs_R scr (d + 1) 360 1061 _ [.int x, .int x] (S, I2, L2, R2) = _
  rw [b360_1061, if_pos rfl]
theorem lc25 {x3 : Int32} (hb1 : hs_ib (x3 + 1) scr.length = true) (hb2 : hs_ib (x3 + 2) scr.length = true) (ok : ok10 S R 2 ∧ ok11 S R 140) (h0 : S[0]? = some (.inl 99)) (hP : P I L R) (hc : CKi scr S P d 115 295 [.int (List.getD scr (Int32.toNatClampNeg (x3 + 1)) 0), .int (List.getD scr (Int32.toNatClampNeg (x3 + 2)) 0)]) : ∃ (I2 : Nat → Nat → Int32) (L2 : Nat → Nat → Int64) (R2 : Nat → Nat → Nat), P I2 L2 R2 ∧ hs_R scr (d + 1) 360 1066 [some (.ref 0), some (.ref 2), some (.ref 140), some (.int x3)] [] (S, I, L, R) = hs_R scr (d + 1) 360 1954 [some (.ref 0), some (.ref 2), some (.ref 140), some (.int x3)] [] (S, I2, L2, R2) := by
  obtain ⟨x, I1, L1, R1, I2, L2, R2, e1, ok2, e2, hP2⟩ := hc I L R hP
  refine ⟨I2, L2, R2, hP2, ?_⟩
  rw [b360_1066 h0 ok.1, if_pos hb1, if_pos hb2, e1]
  show hs_R scr (d + 1) 360 1080 _ [.int x] (S, I1, L1, R1) = _
  rw [b360_1080 h0 ok2, if_pos hb1, if_pos hb2, e2]
  show hs_R scr (d + 1) 360 1094 _ [.int x, .int x] (S, I2, L2, R2) = _
  rw [b360_1094, if_pos rfl]
theorem lc26 {x3 : Int32} (hb1 : hs_ib (x3 + 1) scr.length = true) (hb2 : hs_ib (x3 + 2) scr.length = true) (ok : ok10 S R 2 ∧ ok11 S R 140) (h0 : S[0]? = some (.inl 99)) (hP : P I L R) (hc : CKi scr S P d 116 296 [.int (List.getD scr (Int32.toNatClampNeg (x3 + 1)) 0), .int (List.getD scr (Int32.toNatClampNeg (x3 + 2)) 0)]) : ∃ (I2 : Nat → Nat → Int32) (L2 : Nat → Nat → Int64) (R2 : Nat → Nat → Nat), P I2 L2 R2 ∧ hs_R scr (d + 1) 360 1099 [some (.ref 0), some (.ref 2), some (.ref 140), some (.int x3)] [] (S, I, L, R) = hs_R scr (d + 1) 360 1954 [some (.ref 0), some (.ref 2), some (.ref 140), some (.int x3)] [] (S, I2, L2, R2) := by
  obtain ⟨x, I1, L1, R1, I2, L2, R2, e1, ok2, e2, hP2⟩ := hc I L R hP
  refine ⟨I2, L2, R2, hP2, ?_⟩
  rw [b360_1099 h0 ok.1, if_pos hb1, if_pos hb2, e1]
  show hs_R scr (d + 1) 360 1113 _ [.int x] (S, I1, L1, R1) = _
  rw [b360_1113 h0 ok2, if_pos hb1, if_pos hb2, e2]
  show hs_R scr (d + 1) 360 1127 _ [.int x, .int x] (S, I2, L2, R2) = _
  rw [b360_1127, if_pos rfl]
theorem lc27 {x3 : Int32} (hb1 : hs_ib (x3 + 1) scr.length = true) (hb2 : hs_ib (x3 + 2) scr.length = true) (ok : ok10 S R 2 ∧ ok11 S R 140) (h0 : S[0]? = some (.inl 99)) (hP : P I L R) (hc : CKi scr S P d 117 297 [.int (List.getD scr (Int32.toNatClampNeg (x3 + 1)) 0), .int (List.getD scr (Int32.toNatClampNeg (x3 + 2)) 0)]) : ∃ (I2 : Nat → Nat → Int32) (L2 : Nat → Nat → Int64) (R2 : Nat → Nat → Nat), P I2 L2 R2 ∧ hs_R scr (d + 1) 360 1132 [some (.ref 0), some (.ref 2), some (.ref 140), some (.int x3)] [] (S, I, L, R) = hs_R scr (d + 1) 360 1954 [some (.ref 0), some (.ref 2), some (.ref 140), some (.int x3)] [] (S, I2, L2, R2) := by
  obtain ⟨x, I1, L1, R1, I2, L2, R2, e1, ok2, e2, hP2⟩ := hc I L R hP
  refine ⟨I2, L2, R2, hP2, ?_⟩
  rw [b360_1132 h0 ok.1, if_pos hb1, if_pos hb2, e1]
  show hs_R scr (d + 1) 360 1146 _ [.int x] (S, I1, L1, R1) = _
  rw [b360_1146 h0 ok2, if_pos hb1, if_pos hb2, e2]
  show hs_R scr (d + 1) 360 1160 _ [.int x, .int x] (S, I2, L2, R2) = _
  rw [b360_1160, if_pos rfl]
theorem lc28 {x3 : Int32} (hb1 : hs_ib (x3 + 1) scr.length = true) (hb2 : hs_ib (x3 + 2) scr.length = true) (hb3 : hs_ib (x3 + 3) scr.length = true) (ok : ok10 S R 2 ∧ ok11 S R 140) (h0 : S[0]? = some (.inl 99)) (hP : P I L R) (hc : CKi scr S P d 118 298 [.int (List.getD scr (Int32.toNatClampNeg (x3 + 1)) 0), .int (List.getD scr (Int32.toNatClampNeg (x3 + 2)) 0), .int (List.getD scr (Int32.toNatClampNeg (x3 + 3)) 0)]) : ∃ (I2 : Nat → Nat → Int32) (L2 : Nat → Nat → Int64) (R2 : Nat → Nat → Nat), P I2 L2 R2 ∧ hs_R scr (d + 1) 360 1165 [some (.ref 0), some (.ref 2), some (.ref 140), some (.int x3)] [] (S, I, L, R) = hs_R scr (d + 1) 360 1954 [some (.ref 0), some (.ref 2), some (.ref 140), some (.int x3)] [] (S, I2, L2, R2) := by
  obtain ⟨x, I1, L1, R1, I2, L2, R2, e1, ok2, e2, hP2⟩ := hc I L R hP
  refine ⟨I2, L2, R2, hP2, ?_⟩
  rw [b360_1165 h0 ok.1, if_pos hb1, if_pos hb2, if_pos hb3, e1]
  show hs_R scr (d + 1) 360 1184 _ [.int x] (S, I1, L1, R1) = _
  rw [b360_1184 h0 ok2, if_pos hb1, if_pos hb2, if_pos hb3, e2]
  show hs_R scr (d + 1) 360 1203 _ [.int x, .int x] (S, I2, L2, R2) = _
  rw [b360_1203, if_pos rfl]
theorem lc29 {x3 : Int32} (hb1 : hs_ib (x3 + 1) scr.length = true) (hb2 : hs_ib (x3 + 2) scr.length = true) (ok : ok10 S R 2 ∧ ok11 S R 140) (h0 : S[0]? = some (.inl 99)) (hP : P I L R) (hc : CKi scr S P d 119 299 [.int (List.getD scr (Int32.toNatClampNeg (x3 + 1)) 0), .int (List.getD scr (Int32.toNatClampNeg (x3 + 2)) 0)]) : ∃ (I2 : Nat → Nat → Int32) (L2 : Nat → Nat → Int64) (R2 : Nat → Nat → Nat), P I2 L2 R2 ∧ hs_R scr (d + 1) 360 1208 [some (.ref 0), some (.ref 2), some (.ref 140), some (.int x3)] [] (S, I, L, R) = hs_R scr (d + 1) 360 1954 [some (.ref 0), some (.ref 2), some (.ref 140), some (.int x3)] [] (S, I2, L2, R2) := by
  obtain ⟨x, I1, L1, R1, I2, L2, R2, e1, ok2, e2, hP2⟩ := hc I L R hP
  refine ⟨I2, L2, R2, hP2, ?_⟩
  rw [b360_1208 h0 ok.1, if_pos hb1, if_pos hb2, e1]
  show hs_R scr (d + 1) 360 1222 _ [.int x] (S, I1, L1, R1) = _
  rw [b360_1222 h0 ok2, if_pos hb1, if_pos hb2, e2]
  show hs_R scr (d + 1) 360 1236 _ [.int x, .int x] (S, I2, L2, R2) = _
  rw [b360_1236, if_pos rfl]
theorem lc30 {x3 : Int32} (hb1 : hs_ib (x3 + 1) scr.length = true) (ok : ok10 S R 2 ∧ ok11 S R 140) (h0 : S[0]? = some (.inl 99)) (hP : P I L R) (hc : CKi scr S P d 120 300 [.int (List.getD scr (Int32.toNatClampNeg (x3 + 1)) 0)]) : ∃ (I2 : Nat → Nat → Int32) (L2 : Nat → Nat → Int64) (R2 : Nat → Nat → Nat), P I2 L2 R2 ∧ hs_R scr (d + 1) 360 1241 [some (.ref 0), some (.ref 2), some (.ref 140), some (.int x3)] [] (S, I, L, R) = hs_R scr (d + 1) 360 1954 [some (.ref 0), some (.ref 2), some (.ref 140), some (.int x3)] [] (S, I2, L2, R2) := by
  obtain ⟨x, I1, L1, R1, I2, L2, R2, e1, ok2, e2, hP2⟩ := hc I L R hP
  refine ⟨I2, L2, R2, hP2, ?_⟩
  rw [b360_1241 h0 ok.1, if_pos hb1, e1]
  show hs_R scr (d + 1) 360 1250 _ [.int x] (S, I1, L1, R1) = _
  rw [b360_1250 h0 ok2, if_pos hb1, e2]
  show hs_R scr (d + 1) 360 1259 _ [.int x, .int x] (S, I2, L2, R2) = _
  rw [b360_1259, if_pos rfl]
theorem lc31 {x3 : Int32}  (ok : ok10 S R 2 ∧ ok11 S R 140) (h0 : S[0]? = some (.inl 99)) (hP : P I L R) (hc : CKi scr S P d 122 303 []) : ∃ (I2 : Nat → Nat → Int32) (L2 : Nat → Nat → Int64) (R2 : Nat → Nat → Nat), P I2 L2 R2 ∧ hs_R scr (d + 1) 360 1264 [some (.ref 0), some (.ref 2), some (.ref 140), some (.int x3)] [] (S, I, L, R) = hs_R scr (d + 1) 360 1954 [some (.ref 0), some (.ref 2), some (.ref 140), some (.int x3)] [] (S, I2, L2, R2) := by
  obtain ⟨x, I1, L1, R1, I2, L2, R2, e1, ok2, e2, hP2⟩ := hc I L R hP
  refine ⟨I2, L2, R2, hP2, ?_⟩
  rw [b360_1264 ok.1, e1]
  show hs_R scr (d + 1) 360 1268 _ [.int x] (S, I1, L1, R1) = _
  rw [b360_1268 ok2, e2]
  show hs_R scr (d + 1) 360 1272 _ [.int x, .int x] (S, I2, L2, R2) = _
  rw [b360_1272, if_pos rfl]
theorem lc32 {x3 : Int32} (hb1 : hs_ib (x3 + 1) scr.length = true) (ok : ok10 S R 2 ∧ ok11 S R 140) (h0 : S[0]? = some (.inl 99)) (hP : P I L R) (hc : CKi scr S P d 123 304 [.int (List.getD scr (Int32.toNatClampNeg (x3 + 1)) 0)]) : ∃ (I2 : Nat → Nat → Int32) (L2 : Nat → Nat → Int64) (R2 : Nat → Nat → Nat), P I2 L2 R2 ∧ hs_R scr (d + 1) 360 1277 [some (.ref 0), some (.ref 2), some (.ref 140), some (.int x3)] [] (S, I, L, R) = hs_R scr (d + 1) 360 1954 [some (.ref 0), some (.ref 2), some (.ref 140), some (.int x3)] [] (S, I2, L2, R2) := by
  obtain ⟨x, I1, L1, R1, I2, L2, R2, e1, ok2, e2, hP2⟩ := hc I L R hP
  refine ⟨I2, L2, R2, hP2, ?_⟩
  rw [b360_1277 h0 ok.1, if_pos hb1, e1]
  show hs_R scr (d + 1) 360 1286 _ [.int x] (S, I1, L1, R1) = _
  rw [b360_1286 h0 ok2, if_pos hb1, e2]
  show hs_R scr (d + 1) 360 1295 _ [.int x, .int x] (S, I2, L2, R2) = _
  rw [b360_1295, if_pos rfl]
theorem lc33 {x3 : Int32} (hb1 : hs_ib (x3 + 1) scr.length = true) (ok : ok10 S R 2 ∧ ok11 S R 140) (h0 : S[0]? = some (.inl 99)) (hP : P I L R) (hc : CKi scr S P d 124 305 [.int (List.getD scr (Int32.toNatClampNeg (x3 + 1)) 0)]) : ∃ (I2 : Nat → Nat → Int32) (L2 : Nat → Nat → Int64) (R2 : Nat → Nat → Nat), P I2 L2 R2 ∧ hs_R scr (d + 1) 360 1300 [some (.ref 0), some (.ref 2), some (.ref 140), some (.int x3)] [] (S, I, L, R) = hs_R scr (d + 1) 360 1954 [some (.ref 0), some (.ref 2), some (.ref 140), some (.int x3)] [] (S, I2, L2, R2) := by
  obtain ⟨x, I1, L1, R1, I2, L2, R2, e1, ok2, e2, hP2⟩ := hc I L R hP
  refine ⟨I2, L2, R2, hP2, ?_⟩
  rw [b360_1300 h0 ok.1, if_pos hb1, e1]
  show hs_R scr (d + 1) 360 1309 _ [.int x] (S, I1, L1, R1) = _
  rw [b360_1309 h0 ok2, if_pos hb1, e2]
  show hs_R scr (d + 1) 360 1318 _ [.int x, .int x] (S, I2, L2, R2) = _
  rw [b360_1318, if_pos rfl]
theorem lc34 {x3 : Int32} (hb1 : hs_ib (x3 + 1) scr.length = true) (ok : ok10 S R 2 ∧ ok11 S R 140) (h0 : S[0]? = some (.inl 99)) (hP : P I L R) (hc : CKi scr S P d 125 308 [.int (List.getD scr (Int32.toNatClampNeg (x3 + 1)) 0)]) : ∃ (I2 : Nat → Nat → Int32) (L2 : Nat → Nat → Int64) (R2 : Nat → Nat → Nat), P I2 L2 R2 ∧ hs_R scr (d + 1) 360 1323 [some (.ref 0), some (.ref 2), some (.ref 140), some (.int x3)] [] (S, I, L, R) = hs_R scr (d + 1) 360 1954 [some (.ref 0), some (.ref 2), some (.ref 140), some (.int x3)] [] (S, I2, L2, R2) := by
  obtain ⟨x, I1, L1, R1, I2, L2, R2, e1, ok2, e2, hP2⟩ := hc I L R hP
  refine ⟨I2, L2, R2, hP2, ?_⟩
  rw [b360_1323 h0 ok.1, if_pos hb1, e1]
  show hs_R scr (d + 1) 360 1332 _ [.int x] (S, I1, L1, R1) = _
  rw [b360_1332 h0 ok2, if_pos hb1, e2]
  show hs_R scr (d + 1) 360 1341 _ [.int x, .int x] (S, I2, L2, R2) = _
  rw [b360_1341, if_pos rfl]
theorem lc35 {x3 : Int32} (hb1 : hs_ib (x3 + 1) scr.length = true) (ok : ok10 S R 2 ∧ ok11 S R 140) (h0 : S[0]? = some (.inl 99)) (hP : P I L R) (hc : CKi scr S P d 127 309 [.int (List.getD scr (Int32.toNatClampNeg (x3 + 1)) 0)]) : ∃ (I2 : Nat → Nat → Int32) (L2 : Nat → Nat → Int64) (R2 : Nat → Nat → Nat), P I2 L2 R2 ∧ hs_R scr (d + 1) 360 1346 [some (.ref 0), some (.ref 2), some (.ref 140), some (.int x3)] [] (S, I, L, R) = hs_R scr (d + 1) 360 1954 [some (.ref 0), some (.ref 2), some (.ref 140), some (.int x3)] [] (S, I2, L2, R2) := by
  obtain ⟨x, I1, L1, R1, I2, L2, R2, e1, ok2, e2, hP2⟩ := hc I L R hP
  refine ⟨I2, L2, R2, hP2, ?_⟩
  rw [b360_1346 h0 ok.1, if_pos hb1, e1]
  show hs_R scr (d + 1) 360 1355 _ [.int x] (S, I1, L1, R1) = _
  rw [b360_1355 h0 ok2, if_pos hb1, e2]
  show hs_R scr (d + 1) 360 1364 _ [.int x, .int x] (S, I2, L2, R2) = _
  rw [b360_1364, if_pos rfl]
theorem lc36 {x3 : Int32} (hb1 : hs_ib (x3 + 1) scr.length = true) (hb2 : hs_ib (x3 + 2) scr.length = true) (ok : ok10 S R 2 ∧ ok11 S R 140) (h0 : S[0]? = some (.inl 99)) (hP : P I L R) (hc : CKi scr S P d 130 312 [.int (List.getD scr (Int32.toNatClampNeg (x3 + 1)) 0), .int (List.getD scr (Int32.toNatClampNeg (x3 + 2)) 0)]) : ∃ (I2 : Nat → Nat → Int32) (L2 : Nat → Nat → Int64) (R2 : Nat → Nat → Nat), P I2 L2 R2 ∧ hs_R scr (d + 1) 360 1369 [some (.ref 0), some (.ref 2), some (.ref 140), some (.int x3)] [] (S, I, L, R) = hs_R scr (d + 1) 360 1954 [some (.ref 0), some (.ref 2), some (.ref 140), some (.int x3)] [] (S, I2, L2, R2) := by
  obtain ⟨x, I1, L1, R1, I2, L2, R2, e1, ok2, e2, hP2⟩ := hc I L R hP
  refine ⟨I2, L2, R2, hP2, ?_⟩
  rw [b360_1369 h0 ok.1, if_pos hb1, if_pos hb2, e1]
  show hs_R scr (d + 1) 360 1383 _ [.int x] (S, I1, L1, R1) = _
  rw [b360_1383 h0 ok2, if_pos hb1, if_pos hb2, e2]
  show hs_R scr (d + 1) 360 1397 _ [.int x, .int x] (S, I2, L2, R2) = _
  rw [b360_1397, if_pos rfl]
theorem lc37 {x3 : Int32} (hb1 : hs_ib (x3 + 1) scr.length = true) (hb2 : hs_ib (x3 + 2) scr.length = true) (ok : ok10 S R 2 ∧ ok11 S R 140) (h0 : S[0]? = some (.inl 99)) (hP : P I L R) (hc : CKi scr S P d 131 313 [.int (List.getD scr (Int32.toNatClampNeg (x3 + 1)) 0), .int (List.getD scr (Int32.toNatClampNeg (x3 + 2)) 0)]) : ∃ (I2 : Nat → Nat → Int32) (L2 : Nat → Nat → Int64) (R2 : Nat → Nat → Nat), P I2 L2 R2 ∧ hs_R scr (d + 1) 360 1402 [some (.ref 0), some (.ref 2), some (.ref 140), some (.int x3)] [] (S, I, L, R) = hs_R scr (d + 1) 360 1954 [some (.ref 0), some (.ref 2), some (.ref 140), some (.int x3)] [] (S, I2, L2, R2) := by
  obtain ⟨x, I1, L1, R1, I2, L2, R2, e1, ok2, e2, hP2⟩ := hc I L R hP
  refine ⟨I2, L2, R2, hP2, ?_⟩
  rw [b360_1402 h0 ok.1, if_pos hb1, if_pos hb2, e1]
  show hs_R scr (d + 1) 360 1416 _ [.int x] (S, I1, L1, R1) = _
  rw [b360_1416 h0 ok2, if_pos hb1, if_pos hb2, e2]
  show hs_R scr (d + 1) 360 1430 _ [.int x, .int x] (S, I2, L2, R2) = _
  rw [b360_1430, if_pos rfl]
theorem lc38 {x3 : Int32} (hb1 : hs_ib (x3 + 1) scr.length = true) (hb2 : hs_ib (x3 + 2) scr.length = true) (ok : ok10 S R 2 ∧ ok11 S R 140) (h0 : S[0]? = some (.inl 99)) (hP : P I L R) (hc : CKi scr S P d 134 316 [.int (List.getD scr (Int32.toNatClampNeg (x3 + 1)) 0), .int (List.getD scr (Int32.toNatClampNeg (x3 + 2)) 0)]) : ∃ (I2 : Nat → Nat → Int32) (L2 : Nat → Nat → Int64) (R2 : Nat → Nat → Nat), P I2 L2 R2 ∧ hs_R scr (d + 1) 360 1435 [some (.ref 0), some (.ref 2), some (.ref 140), some (.int x3)] [] (S, I, L, R) = hs_R scr (d + 1) 360 1954 [some (.ref 0), some (.ref 2), some (.ref 140), some (.int x3)] [] (S, I2, L2, R2) := by
  obtain ⟨x, I1, L1, R1, I2, L2, R2, e1, ok2, e2, hP2⟩ := hc I L R hP
  refine ⟨I2, L2, R2, hP2, ?_⟩
  rw [b360_1435 h0 ok.1, if_pos hb1, if_pos hb2, e1]
  show hs_R scr (d + 1) 360 1449 _ [.int x] (S, I1, L1, R1) = _
  rw [b360_1449 h0 ok2, if_pos hb1, if_pos hb2, e2]
  show hs_R scr (d + 1) 360 1463 _ [.int x, .int x] (S, I2, L2, R2) = _
  rw [b360_1463, if_pos rfl]
theorem lc39 {x3 : Int32} (hb1 : hs_ib (x3 + 1) scr.length = true) (hb2 : hs_ib (x3 + 2) scr.length = true) (ok : ok10 S R 2 ∧ ok11 S R 140) (h0 : S[0]? = some (.inl 99)) (hP : P I L R) (hc : CKi scr S P d 135 317 [.int (List.getD scr (Int32.toNatClampNeg (x3 + 1)) 0), .int (List.getD scr (Int32.toNatClampNeg (x3 + 2)) 0)]) : ∃ (I2 : Nat → Nat → Int32) (L2 : Nat → Nat → Int64) (R2 : Nat → Nat → Nat), P I2 L2 R2 ∧ hs_R scr (d + 1) 360 1468 [some (.ref 0), some (.ref 2), some (.ref 140), some (.int x3)] [] (S, I, L, R) = hs_R scr (d + 1) 360 1954 [some (.ref 0), some (.ref 2), some (.ref 140), some (.int x3)] [] (S, I2, L2, R2) := by
  obtain ⟨x, I1, L1, R1, I2, L2, R2, e1, ok2, e2, hP2⟩ := hc I L R hP
  refine ⟨I2, L2, R2, hP2, ?_⟩
  rw [b360_1468 h0 ok.1, if_pos hb1, if_pos hb2, e1]
  show hs_R scr (d + 1) 360 1482 _ [.int x] (S, I1, L1, R1) = _
  rw [b360_1482 h0 ok2, if_pos hb1, if_pos hb2, e2]
  show hs_R scr (d + 1) 360 1496 _ [.int x, .int x] (S, I2, L2, R2) = _
  rw [b360_1496, if_pos rfl]
theorem lc40 {x3 : Int32}  (ok : ok10 S R 2 ∧ ok11 S R 140) (h0 : S[0]? = some (.inl 99)) (hP : P I L R) (hc : CKi scr S P d 136 318 []) : ∃ (I2 : Nat → Nat → Int32) (L2 : Nat → Nat → Int64) (R2 : Nat → Nat → Nat), P I2 L2 R2 ∧ hs_R scr (d + 1) 360 1501 [some (.ref 0), some (.ref 2), some (.ref 140), some (.int x3)] [] (S, I, L, R) = hs_R scr (d + 1) 360 1954 [some (.ref 0), some (.ref 2), some (.ref 140), some (.int x3)] [] (S, I2, L2, R2) := by
  obtain ⟨x, I1, L1, R1, I2, L2, R2, e1, ok2, e2, hP2⟩ := hc I L R hP
  refine ⟨I2, L2, R2, hP2, ?_⟩
  rw [b360_1501 ok.1, e1]
  show hs_R scr (d + 1) 360 1505 _ [.int x] (S, I1, L1, R1) = _
  rw [b360_1505 ok2, e2]
  show hs_R scr (d + 1) 360 1509 _ [.int x, .int x] (S, I2, L2, R2) = _
  rw [b360_1509, if_pos rfl]
theorem lc41 {x3 : Int32} (hb1 : hs_ib (x3 + 1) scr.length = true) (ok : ok10 S R 2 ∧ ok11 S R 140) (h0 : S[0]? = some (.inl 99)) (hP : P I L R) (hc : CKi scr S P d 138 320 [.int (List.getD scr (Int32.toNatClampNeg (x3 + 1)) 0)]) : ∃ (I2 : Nat → Nat → Int32) (L2 : Nat → Nat → Int64) (R2 : Nat → Nat → Nat), P I2 L2 R2 ∧ hs_R scr (d + 1) 360 1514 [some (.ref 0), some (.ref 2), some (.ref 140), some (.int x3)] [] (S, I, L, R) = hs_R scr (d + 1) 360 1954 [some (.ref 0), some (.ref 2), some (.ref 140), some (.int x3)] [] (S, I2, L2, R2) := by
  obtain ⟨x, I1, L1, R1, I2, L2, R2, e1, ok2, e2, hP2⟩ := hc I L R hP
  refine ⟨I2, L2, R2, hP2, ?_⟩
  rw [b360_1514 h0 ok.1, if_pos hb1, e1]
  show hs_R scr (d + 1) 360 1523 _ [.int x] (S, I1, L1, R1) = _
  rw [b360_1523 h0 ok2, if_pos hb1, e2]
  show hs_R scr (d + 1) 360 1532 _ [.int x, .int x] (S, I2, L2, R2) = _
  rw [b360_1532, if_pos rfl]
theorem lc42 {x3 : Int32} (hb1 : hs_ib (x3 + 1) scr.length = true) (hb2 : hs_ib (x3 + 2) scr.length = true) (ok : ok10 S R 2 ∧ ok11 S R 140) (h0 : S[0]? = some (.inl 99)) (hP : P I L R) (hc : CKi scr S P d 140 322 [.int (List.getD scr (Int32.toNatClampNeg (x3 + 1)) 0), .int (List.getD scr (Int32.toNatClampNeg (x3 + 2)) 0)]) : ∃ (I2 : Nat → Nat → Int32) (L2 : Nat → Nat → Int64) (R2 : Nat → Nat → Nat), P I2 L2 R2 ∧ hs_R scr (d + 1) 360 1537 [some (.ref 0), some (.ref 2), some (.ref 140), some (.int x3)] [] (S, I, L, R) = hs_R scr (d + 1) 360 1954 [some (.ref 0), some (.ref 2), some (.ref 140), some (.int x3)] [] (S, I2, L2, R2) := by
  obtain ⟨x, I1, L1, R1, I2, L2, R2, e1, ok2, e2, hP2⟩ := hc I L R hP
  refine ⟨I2, L2, R2, hP2, ?_⟩
  rw [b360_1537 h0 ok.1, if_pos hb1, if_pos hb2, e1]
  show hs_R scr (d + 1) 360 1551 _ [.int x] (S, I1, L1, R1) = _
  rw [b360_1551 h0 ok2, if_pos hb1, if_pos hb2, e2]
  show hs_R scr (d + 1) 360 1565 _ [.int x, .int x] (S, I2, L2, R2) = _
  rw [b360_1565, if_pos rfl]
theorem lc43 {x3 : Int32} (hb1 : hs_ib (x3 + 1) scr.length = true) (ok : ok10 S R 2 ∧ ok11 S R 140) (h0 : S[0]? = some (.inl 99)) (hP : P I L R) (hc : CKi scr S P d 141 323 [.int (List.getD scr (Int32.toNatClampNeg (x3 + 1)) 0)]) : ∃ (I2 : Nat → Nat → Int32) (L2 : Nat → Nat → Int64) (R2 : Nat → Nat → Nat), P I2 L2 R2 ∧ hs_R scr (d + 1) 360 1570 [some (.ref 0), some (.ref 2), some (.ref 140), some (.int x3)] [] (S, I, L, R) = hs_R scr (d + 1) 360 1954 [some (.ref 0), some (.ref 2), some (.ref 140), some (.int x3)] [] (S, I2, L2, R2) := by
  obtain ⟨x, I1, L1, R1, I2, L2, R2, e1, ok2, e2, hP2⟩ := hc I L R hP
  refine ⟨I2, L2, R2, hP2, ?_⟩
  rw [b360_1570 h0 ok.1, if_pos hb1, e1]
  show hs_R scr (d + 1) 360 1579 _ [.int x] (S, I1, L1, R1) = _
  rw [b360_1579 h0 ok2, if_pos hb1, e2]
  show hs_R scr (d + 1) 360 1588 _ [.int x, .int x] (S, I2, L2, R2) = _
  rw [b360_1588, if_pos rfl]
theorem lc44 {x3 : Int32} (hb1 : hs_ib (x3 + 1) scr.length = true) (ok : ok10 S R 2 ∧ ok11 S R 140) (h0 : S[0]? = some (.inl 99)) (hP : P I L R) (hc : CKi scr S P d 142 324 [.int (List.getD scr (Int32.toNatClampNeg (x3 + 1)) 0)]) : ∃ (I2 : Nat → Nat → Int32) (L2 : Nat → Nat → Int64) (R2 : Nat → Nat → Nat), P I2 L2 R2 ∧ hs_R scr (d + 1) 360 1593 [some (.ref 0), some (.ref 2), some (.ref 140), some (.int x3)] [] (S, I, L, R) = hs_R scr (d + 1) 360 1954 [some (.ref 0), some (.ref 2), some (.ref 140), some (.int x3)] [] (S, I2, L2, R2) := by
  obtain ⟨x, I1, L1, R1, I2, L2, R2, e1, ok2, e2, hP2⟩ := hc I L R hP
  refine ⟨I2, L2, R2, hP2, ?_⟩
  rw [b360_1593 h0 ok.1, if_pos hb1, e1]
  show hs_R scr (d + 1) 360 1602 _ [.int x] (S, I1, L1, R1) = _
  rw [b360_1602 h0 ok2, if_pos hb1, e2]
  show hs_R scr (d + 1) 360 1611 _ [.int x, .int x] (S, I2, L2, R2) = _
  rw [b360_1611, if_pos rfl]
theorem lc45 {x3 : Int32} (hb1 : hs_ib (x3 + 1) scr.length = true) (ok : ok10 S R 2 ∧ ok11 S R 140) (h0 : S[0]? = some (.inl 99)) (hP : P I L R) (hc : CKi scr S P d 145 327 [.int (List.getD scr (Int32.toNatClampNeg (x3 + 1)) 0)]) : ∃ (I2 : Nat → Nat → Int32) (L2 : Nat → Nat → Int64) (R2 : Nat → Nat → Nat), P I2 L2 R2 ∧ hs_R scr (d + 1) 360 1616 [some (.ref 0), some (.ref 2), some (.ref 140), some (.int x3)] [] (S, I, L, R) = hs_R scr (d + 1) 360 1954 [some (.ref 0), some (.ref 2), some (.ref 140), some (.int x3)] [] (S, I2, L2, R2) := by
  obtain ⟨x, I1, L1, R1, I2, L2, R2, e1, ok2, e2, hP2⟩ := hc I L R hP
  refine ⟨I2, L2, R2, hP2, ?_⟩
  rw [b360_1616 h0 ok.1, if_pos hb1, e1]
  show hs_R scr (d + 1) 360 1625 _ [.int x] (S, I1, L1, R1) = _
  rw [b360_1625 h0 ok2, if_pos hb1, e2]
  show hs_R scr (d + 1) 360 1634 _ [.int x, .int x] (S, I2, L2, R2) = _
  rw [b360_1634, if_pos rfl]
theorem lc46 {x3 : Int32}  (ok : ok10 S R 2 ∧ ok11 S R 140) (h0 : S[0]? = some (.inl 99)) (hP : P I L R) (hc : CKi scr S P d 146 328 []) : ∃ (I2 : Nat → Nat → Int32) (L2 : Nat → Nat → Int64) (R2 : Nat → Nat → Nat), P I2 L2 R2 ∧ hs_R scr (d + 1) 360 1639 [some (.ref 0), some (.ref 2), some (.ref 140), some (.int x3)] [] (S, I, L, R) = hs_R scr (d + 1) 360 1954 [some (.ref 0), some (.ref 2), some (.ref 140), some (.int x3)] [] (S, I2, L2, R2) := by
  obtain ⟨x, I1, L1, R1, I2, L2, R2, e1, ok2, e2, hP2⟩ := hc I L R hP
  refine ⟨I2, L2, R2, hP2, ?_⟩
  rw [b360_1639 ok.1, e1]
  show hs_R scr (d + 1) 360 1643 _ [.int x] (S, I1, L1, R1) = _
  rw [b360_1643 ok2, e2]
  show hs_R scr (d + 1) 360 1647 _ [.int x, .int x] (S, I2, L2, R2) = _
  rw [b360_1647, if_pos rfl]
theorem lc47 {x3 : Int32}  (ok : ok10 S R 2 ∧ ok11 S R 140) (h0 : S[0]? = some (.inl 99)) (hP : P I L R) (hc : CKi scr S P d 148 331 []) : ∃ (I2 : Nat → Nat → Int32) (L2 : Nat → Nat → Int64) (R2 : Nat → Nat → Nat), P I2 L2 R2 ∧ hs_R scr (d + 1) 360 1652 [some (.ref 0), some (.ref 2), some (.ref 140), some (.int x3)] [] (S, I, L, R) = hs_R scr (d + 1) 360 1954 [some (.ref 0), some (.ref 2), some (.ref 140), some (.int x3)] [] (S, I2, L2, R2) := by
  obtain ⟨x, I1, L1, R1, I2, L2, R2, e1, ok2, e2, hP2⟩ := hc I L R hP
  refine ⟨I2, L2, R2, hP2, ?_⟩
  rw [b360_1652 ok.1, e1]
  show hs_R scr (d + 1) 360 1656 _ [.int x] (S, I1, L1, R1) = _
  rw [b360_1656 ok2, e2]
  show hs_R scr (d + 1) 360 1660 _ [.int x, .int x] (S, I2, L2, R2) = _
  rw [b360_1660, if_pos rfl]
theorem lc48 {x3 : Int32} (hb1 : hs_ib (x3 + 1) scr.length = true) (hb2 : hs_ib (x3 + 2) scr.length = true) (ok : ok10 S R 2 ∧ ok11 S R 140) (h0 : S[0]? = some (.inl 99)) (hP : P I L R) (hc : CKi scr S P d 149 332 [.int (List.getD scr (Int32.toNatClampNeg (x3 + 1)) 0), .int (List.getD scr (Int32.toNatClampNeg (x3 + 2)) 0)]) : ∃ (I2 : Nat → Nat → Int32) (L2 : Nat → Nat → Int64) (R2 : Nat → Nat → Nat), P I2 L2 R2 ∧ hs_R scr (d + 1) 360 1665 [some (.ref 0), some (.ref 2), some (.ref 140), some (.int x3)] [] (S, I, L, R) = hs_R scr (d + 1) 360 1954 [some (.ref 0), some (.ref 2), some (.ref 140), some (.int x3)] [] (S, I2, L2, R2) := by
  obtain ⟨x, I1, L1, R1, I2, L2, R2, e1, ok2, e2, hP2⟩ := hc I L R hP
  refine ⟨I2, L2, R2, hP2, ?_⟩
  rw [b360_1665 h0 ok.1, if_pos hb1, if_pos hb2, e1]
  show hs_R scr (d + 1) 360 1679 _ [.int x] (S, I1, L1, R1) = _
  rw [b360_1679 h0 ok2, if_pos hb1, if_pos hb2, e2]
  show hs_R scr (d + 1) 360 1693 _ [.int x, .int x] (S, I2, L2, R2) = _
  rw [b360_1693, if_pos rfl]
theorem lc49 {x3 : Int32}  (ok : ok10 S R 2 ∧ ok11 S R 140) (h0 : S[0]? = some (.inl 99)) (hP : P I L R) (hc : CKi scr S P d 152 335 []) : ∃ (I2 : Nat → Nat → Int32) (L2 : Nat → Nat → Int64) (R2 : Nat → Nat → Nat), P I2 L2 R2 ∧ hs_R scr (d + 1) 360 1698 [some (.ref 0), some (.ref 2), some (.ref 140), some (.int x3)] [] (S, I, L, R) = hs_R scr (d + 1) 360 1954 [some (.ref 0), some (.ref 2), some (.ref 140), some (.int x3)] [] (S, I2, L2, R2) := by
  obtain ⟨x, I1, L1, R1, I2, L2, R2, e1, ok2, e2, hP2⟩ := hc I L R hP
  refine ⟨I2, L2, R2, hP2, ?_⟩
  rw [b360_1698 ok.1, e1]
  show hs_R scr (d + 1) 360 1702 _ [.int x] (S, I1, L1, R1) = _
  rw [b360_1702 ok2, e2]
  show hs_R scr (d + 1) 360 1706 _ [.int x, .int x] (S, I2, L2, R2) = _
  rw [b360_1706, if_pos rfl]
theorem lc50 {x3 : Int32}  (ok : ok10 S R 2 ∧ ok11 S R 140) (h0 : S[0]? = some (.inl 99)) (hP : P I L R) (hc : CKi scr S P d 154 337 []) : ∃ (I2 : Nat → Nat → Int32) (L2 : Nat → Nat → Int64) (R2 : Nat → Nat → Nat), P I2 L2 R2 ∧ hs_R scr (d + 1) 360 1711 [some (.ref 0), some (.ref 2), some (.ref 140), some (.int x3)] [] (S, I, L, R) = hs_R scr (d + 1) 360 1954 [some (.ref 0), some (.ref 2), some (.ref 140), some (.int x3)] [] (S, I2, L2, R2) := by
  obtain ⟨x, I1, L1, R1, I2, L2, R2, e1, ok2, e2, hP2⟩ := hc I L R hP
  refine ⟨I2, L2, R2, hP2, ?_⟩
  rw [b360_1711 ok.1, e1]
  show hs_R scr (d + 1) 360 1715 _ [.int x] (S, I1, L1, R1) = _
  rw [b360_1715 ok2, e2]
  show hs_R scr (d + 1) 360 1719 _ [.int x, .int x] (S, I2, L2, R2) = _
  rw [b360_1719, if_pos rfl]
theorem lc51 {x3 : Int32} (hb1 : hs_ib (x3 + 1) scr.length = true) (ok : ok10 S R 2 ∧ ok11 S R 140) (h0 : S[0]? = some (.inl 99)) (hP : P I L R) (hc : CKi scr S P d 155 338 [.int (List.getD scr (Int32.toNatClampNeg (x3 + 1)) 0)]) : ∃ (I2 : Nat → Nat → Int32) (L2 : Nat → Nat → Int64) (R2 : Nat → Nat → Nat), P I2 L2 R2 ∧ hs_R scr (d + 1) 360 1724 [some (.ref 0), some (.ref 2), some (.ref 140), some (.int x3)] [] (S, I, L, R) = hs_R scr (d + 1) 360 1954 [some (.ref 0), some (.ref 2), some (.ref 140), some (.int x3)] [] (S, I2, L2, R2) := by
  obtain ⟨x, I1, L1, R1, I2, L2, R2, e1, ok2, e2, hP2⟩ := hc I L R hP
  refine ⟨I2, L2, R2, hP2, ?_⟩
  rw [b360_1724 h0 ok.1, if_pos hb1, e1]
  show hs_R scr (d + 1) 360 1733 _ [.int x] (S, I1, L1, R1) = _
  rw [b360_1733 h0 ok2, if_pos hb1, e2]
  show hs_R scr (d + 1) 360 1742 _ [.int x, .int x] (S, I2, L2, R2) = _
  rw [b360_1742, if_pos rfl]
theorem lc52 {x3 : Int32} (hb1 : hs_ib (x3 + 1) scr.length = true) (ok : ok10 S R 2 ∧ ok11 S R 140) (h0 : S[0]? = some (.inl 99)) (hP : P I L R) (hc : CKi scr S P d 156 340 [.int (List.getD scr (Int32.toNatClampNeg (x3 + 1)) 0)]) : ∃ (I2 : Nat → Nat → Int32) (L2 : Nat → Nat → Int64) (R2 : Nat → Nat → Nat), P I2 L2 R2 ∧ hs_R scr (d + 1) 360 1747 [some (.ref 0), some (.ref 2), some (.ref 140), some (.int x3)] [] (S, I, L, R) = hs_R scr (d + 1) 360 1954 [some (.ref 0), some (.ref 2), some (.ref 140), some (.int x3)] [] (S, I2, L2, R2) := by
  obtain ⟨x, I1, L1, R1, I2, L2, R2, e1, ok2, e2, hP2⟩ := hc I L R hP
  refine ⟨I2, L2, R2, hP2, ?_⟩
  rw [b360_1747 h0 ok.1, if_pos hb1, e1]
  show hs_R scr (d + 1) 360 1756 _ [.int x] (S, I1, L1, R1) = _
  rw [b360_1756 h0 ok2, if_pos hb1, e2]
  show hs_R scr (d + 1) 360 1765 _ [.int x, .int x] (S, I2, L2, R2) = _
  rw [b360_1765, if_pos rfl]
theorem lc53 {x3 : Int32} (hb1 : hs_ib (x3 + 1) scr.length = true) (ok : ok10 S R 2 ∧ ok11 S R 140) (h0 : S[0]? = some (.inl 99)) (hP : P I L R) (hc : CKi scr S P d 163 342 [.int (List.getD scr (Int32.toNatClampNeg (x3 + 1)) 0)]) : ∃ (I2 : Nat → Nat → Int32) (L2 : Nat → Nat → Int64) (R2 : Nat → Nat → Nat), P I2 L2 R2 ∧ hs_R scr (d + 1) 360 1770 [some (.ref 0), some (.ref 2), some (.ref 140), some (.int x3)] [] (S, I, L, R) = hs_R scr (d + 1) 360 1954 [some (.ref 0), some (.ref 2), some (.ref 140), some (.int x3)] [] (S, I2, L2, R2) := by
  obtain ⟨x, I1, L1, R1, I2, L2, R2, e1, ok2, e2, hP2⟩ := hc I L R hP
  refine ⟨I2, L2, R2, hP2, ?_⟩
  rw [b360_1770 h0 ok.1, if_pos hb1, e1]
  show hs_R scr (d + 1) 360 1779 _ [.int x] (S, I1, L1, R1) = _
  rw [b360_1779 h0 ok2, if_pos hb1, e2]
  show hs_R scr (d + 1) 360 1788 _ [.int x, .int x] (S, I2, L2, R2) = _
  rw [b360_1788, if_pos rfl]
theorem lc54 {x3 : Int32} (hb1 : hs_ib (x3 + 1) scr.length = true) (hb2 : hs_ib (x3 + 2) scr.length = true) (ok : ok10 S R 2 ∧ ok11 S R 140) (h0 : S[0]? = some (.inl 99)) (hP : P I L R) (hc : CKi scr S P d 165 343 [.int (List.getD scr (Int32.toNatClampNeg (x3 + 1)) 0), .int (List.getD scr (Int32.toNatClampNeg (x3 + 2)) 0)]) : ∃ (I2 : Nat → Nat → Int32) (L2 : Nat → Nat → Int64) (R2 : Nat → Nat → Nat), P I2 L2 R2 ∧ hs_R scr (d + 1) 360 1793 [some (.ref 0), some (.ref 2), some (.ref 140), some (.int x3)] [] (S, I, L, R) = hs_R scr (d + 1) 360 1954 [some (.ref 0), some (.ref 2), some (.ref 140), some (.int x3)] [] (S, I2, L2, R2) := by
  obtain ⟨x, I1, L1, R1, I2, L2, R2, e1, ok2, e2, hP2⟩ := hc I L R hP
  refine ⟨I2, L2, R2, hP2, ?_⟩
  rw [b360_1793 h0 ok.1, if_pos hb1, if_pos hb2, e1]
  show hs_R scr (d + 1) 360 1807 _ [.int x] (S, I1, L1, R1) = _
  rw [b360_1807 h0 ok2, if_pos hb1, if_pos hb2, e2]
  show hs_R scr (d + 1) 360 1821 _ [.int x, .int x] (S, I2, L2, R2) = _
  rw [b360_1821, if_pos rfl]
theorem lc55 {x3 : Int32} (hb1 : hs_ib (x3 + 1) scr.length = true) (ok : ok10 S R 2 ∧ ok11 S R 140) (h0 : S[0]? = some (.inl 99)) (hP : P I L R) (hc : CKi scr S P d 170 345 [.int (List.getD scr (Int32.toNatClampNeg (x3 + 1)) 0)]) : ∃ (I2 : Nat → Nat → Int32) (L2 : Nat → Nat → Int64) (R2 : Nat → Nat → Nat), P I2 L2 R2 ∧ hs_R scr (d + 1) 360 1826 [some (.ref 0), some (.ref 2), some (.ref 140), some (.int x3)] [] (S, I, L, R) = hs_R scr (d + 1) 360 1954 [some (.ref 0), some (.ref 2), some (.ref 140), some (.int x3)] [] (S, I2, L2, R2) := by
  obtain ⟨x, I1, L1, R1, I2, L2, R2, e1, ok2, e2, hP2⟩ := hc I L R hP
  refine ⟨I2, L2, R2, hP2, ?_⟩
  rw [b360_1826 h0 ok.1, if_pos hb1, e1]
  show hs_R scr (d + 1) 360 1835 _ [.int x] (S, I1, L1, R1) = _
  rw [b360_1835 h0 ok2, if_pos hb1, e2]
  show hs_R scr (d + 1) 360 1844 _ [.int x, .int x] (S, I2, L2, R2) = _
  rw [b360_1844, if_pos rfl]
theorem lc56 {x3 : Int32} (hb1 : hs_ib (x3 + 1) scr.length = true) (ok : ok10 S R 2 ∧ ok11 S R 140) (h0 : S[0]? = some (.inl 99)) (hP : P I L R) (hc : CKi scr S P d 171 346 [.int (List.getD scr (Int32.toNatClampNeg (x3 + 1)) 0)]) : ∃ (I2 : Nat → Nat → Int32) (L2 : Nat → Nat → Int64) (R2 : Nat → Nat → Nat), P I2 L2 R2 ∧ hs_R scr (d + 1) 360 1849 [some (.ref 0), some (.ref 2), some (.ref 140), some (.int x3)] [] (S, I, L, R) = hs_R scr (d + 1) 360 1954 [some (.ref 0), some (.ref 2), some (.ref 140), some (.int x3)] [] (S, I2, L2, R2) := by
  obtain ⟨x, I1, L1, R1, I2, L2, R2, e1, ok2, e2, hP2⟩ := hc I L R hP
  refine ⟨I2, L2, R2, hP2, ?_⟩
  rw [b360_1849 h0 ok.1, if_pos hb1, e1]
  show hs_R scr (d + 1) 360 1858 _ [.int x] (S, I1, L1, R1) = _
  rw [b360_1858 h0 ok2, if_pos hb1, e2]
  show hs_R scr (d + 1) 360 1867 _ [.int x, .int x] (S, I2, L2, R2) = _
  rw [b360_1867, if_pos rfl]
theorem lc57 {x3 : Int32} (hb1 : hs_ib (x3 + 1) scr.length = true) (ok : ok10 S R 2 ∧ ok11 S R 140) (h0 : S[0]? = some (.inl 99)) (hP : P I L R) (hc : CKi scr S P d 182 356 [.int (List.getD scr (Int32.toNatClampNeg (x3 + 1)) 0)]) : ∃ (I2 : Nat → Nat → Int32) (L2 : Nat → Nat → Int64) (R2 : Nat → Nat → Nat), P I2 L2 R2 ∧ hs_R scr (d + 1) 360 1872 [some (.ref 0), some (.ref 2), some (.ref 140), some (.int x3)] [] (S, I, L, R) = hs_R scr (d + 1) 360 1954 [some (.ref 0), some (.ref 2), some (.ref 140), some (.int x3)] [] (S, I2, L2, R2) := by
  obtain ⟨x, I1, L1, R1, I2, L2, R2, e1, ok2, e2, hP2⟩ := hc I L R hP
  refine ⟨I2, L2, R2, hP2, ?_⟩
  rw [b360_1872 h0 ok.1, if_pos hb1, e1]
  show hs_R scr (d + 1) 360 1881 _ [.int x] (S, I1, L1, R1) = _
  rw [b360_1881 h0 ok2, if_pos hb1, e2]
  show hs_R scr (d + 1) 360 1890 _ [.int x, .int x] (S, I2, L2, R2) = _
  rw [b360_1890, if_pos rfl]
theorem lc58 {x3 : Int32} (hb1 : hs_ib (x3 + 1) scr.length = true) (hb2 : hs_ib (x3 + 2) scr.length = true) (ok : ok10 S R 2 ∧ ok11 S R 140) (h0 : S[0]? = some (.inl 99)) (hP : P I L R) (hc : CKi scr S P d 184 357 [.int (List.getD scr (Int32.toNatClampNeg (x3 + 1)) 0), .int (List.getD scr (Int32.toNatClampNeg (x3 + 2)) 0)]) : ∃ (I2 : Nat → Nat → Int32) (L2 : Nat → Nat → Int64) (R2 : Nat → Nat → Nat), P I2 L2 R2 ∧ hs_R scr (d + 1) 360 1895 [some (.ref 0), some (.ref 2), some (.ref 140), some (.int x3)] [] (S, I, L, R) = hs_R scr (d + 1) 360 1954 [some (.ref 0), some (.ref 2), some (.ref 140), some (.int x3)] [] (S, I2, L2, R2) := by
  obtain ⟨x, I1, L1, R1, I2, L2, R2, e1, ok2, e2, hP2⟩ := hc I L R hP
  refine ⟨I2, L2, R2, hP2, ?_⟩
  rw [b360_1895 h0 ok.1, if_pos hb1, if_pos hb2, e1]
  show hs_R scr (d + 1) 360 1909 _ [.int x] (S, I1, L1, R1) = _
  rw [b360_1909 h0 ok2, if_pos hb1, if_pos hb2, e2]
  show hs_R scr (d + 1) 360 1923 _ [.int x, .int x] (S, I2, L2, R2) = _
  rw [b360_1923, if_pos rfl]
theorem lc59 {x3 : Int32}  (ok : ok10 S R 2 ∧ ok11 S R 140) (h0 : S[0]? = some (.inl 99)) (hP : P I L R) (hc : CKi scr S P d 188 358 []) : ∃ (I2 : Nat → Nat → Int32) (L2 : Nat → Nat → Int64) (R2 : Nat → Nat → Nat), P I2 L2 R2 ∧ hs_R scr (d + 1) 360 1928 [some (.ref 0), some (.ref 2), some (.ref 140), some (.int x3)] [] (S, I, L, R) = hs_R scr (d + 1) 360 1954 [some (.ref 0), some (.ref 2), some (.ref 140), some (.int x3)] [] (S, I2, L2, R2) := by
  obtain ⟨x, I1, L1, R1, I2, L2, R2, e1, ok2, e2, hP2⟩ := hc I L R hP
  refine ⟨I2, L2, R2, hP2, ?_⟩
  rw [b360_1928 ok.1, e1]
  show hs_R scr (d + 1) 360 1932 _ [.int x] (S, I1, L1, R1) = _
  rw [b360_1932 ok2, e2]
  show hs_R scr (d + 1) 360 1936 _ [.int x, .int x] (S, I2, L2, R2) = _
  rw [b360_1936, if_pos rfl]
theorem lc60 {x3 : Int32}  (ok : ok10 S R 2 ∧ ok11 S R 140) (h0 : S[0]? = some (.inl 99)) (hP : P I L R) (hc : CKi scr S P d 190 359 []) : ∃ (I2 : Nat → Nat → Int32) (L2 : Nat → Nat → Int64) (R2 : Nat → Nat → Nat), P I2 L2 R2 ∧ hs_R scr (d + 1) 360 1941 [some (.ref 0), some (.ref 2), some (.ref 140), some (.int x3)] [] (S, I, L, R) = hs_R scr (d + 1) 360 1954 [some (.ref 0), some (.ref 2), some (.ref 140), some (.int x3)] [] (S, I2, L2, R2) := by
  obtain ⟨x, I1, L1, R1, I2, L2, R2, e1, ok2, e2, hP2⟩ := hc I L R hP
  refine ⟨I2, L2, R2, hP2, ?_⟩
  rw [b360_1941 ok.1, e1]
  show hs_R scr (d + 1) 360 1945 _ [.int x] (S, I1, L1, R1) = _
  rw [b360_1945 ok2, e2]
  show hs_R scr (d + 1) 360 1949 _ [.int x, .int x] (S, I2, L2, R2) = _
  rw [b360_1949, if_pos rfl]
end LC
