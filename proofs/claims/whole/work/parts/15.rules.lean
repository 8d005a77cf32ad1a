/-! an equation for each instruction -/
section RR
variable {scr : List Int32} {d j pc : Nat} {loc loc' : hs_L} {st r : List Value} {h : hs_H} {S : List hs_S} {I : Nat → Nat → Int32} {L : Nat → Nat → Int64} {R : Nat → Nat → Nat}
theorem r_il_n {k : Fin 4} {x : Int32} (hd : decode (hs_code j) pc = .ok (.iload_n k, 1)) (hl : hs_get loc k.val = some (.int x)) : hs_R scr d j pc loc st h = hs_R scr d j (pc + 1) loc (.int x :: st) h := hs_R_go (t := (pc + 1, loc, .int x :: st, h)) ((hs_stp_of hd (Or.inr rfl)).trans (by show hs_li _ _ _ _ _ = _; rw [hs_li, hl]))
theorem r_il {k : Nat} {x : Int32} (hd : decode (hs_code j) pc = .ok (.iload k, 2)) (hl : hs_get loc k = some (.int x)) : hs_R scr d j pc loc st h = hs_R scr d j (pc + 2) loc (.int x :: st) h := hs_R_go (t := (pc + 2, loc, .int x :: st, h)) ((hs_stp_of hd (Or.inr rfl)).trans (by show hs_li _ _ _ _ _ = _; rw [hs_li, hl]))
theorem r_ll_n {k : Fin 4} {x : Int64} (hd : decode (hs_code j) pc = .ok (.lload_n k, 1)) (hl : hs_get loc k.val = some (.long x)) : hs_R scr d j pc loc st h = hs_R scr d j (pc + 1) loc (.long x :: st) h := hs_R_go (t := (pc + 1, loc, .long x :: st, h)) ((hs_stp_of hd (Or.inr rfl)).trans (by show hs_ll _ _ _ _ _ = _; rw [hs_ll, hl]))
theorem r_ll {k : Nat} {x : Int64} (hd : decode (hs_code j) pc = .ok (.lload k, 2)) (hl : hs_get loc k = some (.long x)) : hs_R scr d j pc loc st h = hs_R scr d j (pc + 2) loc (.long x :: st) h := hs_R_go (t := (pc + 2, loc, .long x :: st, h)) ((hs_stp_of hd (Or.inr rfl)).trans (by show hs_ll _ _ _ _ _ = _; rw [hs_ll, hl]))
theorem r_al_n {k : Fin 4} {x : Nat} (hd : decode (hs_code j) pc = .ok (.aload_n k, 1)) (hl : hs_get loc k.val = some (.ref x)) : hs_R scr d j pc loc st h = hs_R scr d j (pc + 1) loc (.ref x :: st) h := hs_R_go (t := (pc + 1, loc, .ref x :: st, h)) ((hs_stp_of hd (Or.inr rfl)).trans (by show hs_la _ _ _ _ _ = _; rw [hs_la, hl]))
theorem r_al {k : Nat} {x : Nat} (hd : decode (hs_code j) pc = .ok (.aload k, 2)) (hl : hs_get loc k = some (.ref x)) : hs_R scr d j pc loc st h = hs_R scr d j (pc + 2) loc (.ref x :: st) h := hs_R_go (t := (pc + 2, loc, .ref x :: st, h)) ((hs_stp_of hd (Or.inr rfl)).trans (by show hs_la _ _ _ _ _ = _; rw [hs_la, hl]))
theorem r_is_n {k : Fin 4} {x : Int32} (hd : decode (hs_code j) pc = .ok (.istore_n k, 1)) (hl : hs_put loc k.val (.int x) = some loc') : hs_R scr d j pc loc (.int x :: r) h = hs_R scr d j (pc + 1) loc' r h := hs_R_go (t := (pc + 1, loc', r, h)) ((hs_stp_of hd (Or.inr rfl)).trans (by show (hs_put loc k.val (.int x)).bind _ = _; rw [hl]; rfl))
theorem r_is {k : Nat} {x : Int32} (hd : decode (hs_code j) pc = .ok (.istore k, 2)) (hl : hs_put loc k (.int x) = some loc') : hs_R scr d j pc loc (.int x :: r) h = hs_R scr d j (pc + 2) loc' r h := hs_R_go (t := (pc + 2, loc', r, h)) ((hs_stp_of hd (Or.inr rfl)).trans (by show (hs_put loc k (.int x)).bind _ = _; rw [hl]; rfl))
theorem r_ls_n {k : Fin 4} {x : Int64} (hd : decode (hs_code j) pc = .ok (.lstore_n k, 1)) (hl : hs_put loc k.val (.long x) = some loc') : hs_R scr d j pc loc (.long x :: r) h = hs_R scr d j (pc + 1) loc' r h := hs_R_go (t := (pc + 1, loc', r, h)) ((hs_stp_of hd (Or.inr rfl)).trans (by show (hs_put loc k.val (.long x)).bind _ = _; rw [hl]; rfl))
theorem r_ls {k : Nat} {x : Int64} (hd : decode (hs_code j) pc = .ok (.lstore k, 2)) (hl : hs_put loc k (.long x) = some loc') : hs_R scr d j pc loc (.long x :: r) h = hs_R scr d j (pc + 2) loc' r h := hs_R_go (t := (pc + 2, loc', r, h)) ((hs_stp_of hd (Or.inr rfl)).trans (by show (hs_put loc k (.long x)).bind _ = _; rw [hl]; rfl))
theorem r_as_n {k : Fin 4} {x : Nat} (hd : decode (hs_code j) pc = .ok (.astore_n k, 1)) (hl : hs_put loc k.val (.ref x) = some loc') : hs_R scr d j pc loc (.ref x :: r) h = hs_R scr d j (pc + 1) loc' r h := hs_R_go (t := (pc + 1, loc', r, h)) ((hs_stp_of hd (Or.inr rfl)).trans (by show (hs_put loc k.val (.ref x)).bind _ = _; rw [hl]; rfl))
theorem r_as {k : Nat} {x : Nat} (hd : decode (hs_code j) pc = .ok (.astore k, 2)) (hl : hs_put loc k (.ref x) = some loc') : hs_R scr d j pc loc (.ref x :: r) h = hs_R scr d j (pc + 2) loc' r h := hs_R_go (t := (pc + 2, loc', r, h)) ((hs_stp_of hd (Or.inr rfl)).trans (by show (hs_put loc k (.ref x)).bind _ = _; rw [hl]; rfl))
theorem r_inc {k : Nat} {n : Int} {x c : Int32} (hd : decode (hs_code j) pc = .ok (.iinc k n, 3)) (hc : Int32.ofInt n = c) (hg : hs_get loc k = some (.int x)) (hl : hs_put loc k (.int (x + c)) = some loc') : hs_R scr d j pc loc st h = hs_R scr d j (pc + 3) loc' st h := hs_R_go (t := (pc + 3, loc', st, h)) ((hs_stp_of hd (Or.inr rfl)).trans (by show hs_inc _ _ _ _ _ _ = _; subst hc; rw [hs_inc, hg]; show (hs_put loc k (.int (x + Int32.ofInt n))).bind _ = _; rw [hl]; rfl))
theorem r_ic {n : Int} {v : Int32} (hd : decode (hs_code j) pc = .ok (.iconst n, 1)) (hv : Int32.ofInt n = v) : hs_R scr d j pc loc st h = hs_R scr d j (pc + 1) loc (.int v :: st) h := hs_R_go (t := (pc + 1, loc, .int v :: st, h)) ((hs_stp_of hd (Or.inr rfl)).trans (by rw [← hv]; rfl))
theorem r_bp {n : Int} {v : Int32} (hd : decode (hs_code j) pc = .ok (.bipush n, 2)) (hv : (Int8.ofInt n).toInt32 = v) : hs_R scr d j pc loc st h = hs_R scr d j (pc + 2) loc (.int v :: st) h := hs_R_go (t := (pc + 2, loc, .int v :: st, h)) ((hs_stp_of hd (Or.inr rfl)).trans (by rw [← hv]; rfl))
theorem r_sp {n : Int} {v : Int32} (hd : decode (hs_code j) pc = .ok (.sipush n, 3)) (hv : (Int16.ofInt n).toInt32 = v) : hs_R scr d j pc loc st h = hs_R scr d j (pc + 3) loc (.int v :: st) h := hs_R_go (t := (pc + 3, loc, .int v :: st, h)) ((hs_stp_of hd (Or.inr rfl)).trans (by rw [← hv]; rfl))
theorem r_lc {n : Fin 2} {v : Int64} (hd : decode (hs_code j) pc = .ok (.lconst n, 1)) (hv : Int64.ofNat n.val = v) : hs_R scr d j pc loc st h = hs_R scr d j (pc + 1) loc (.long v :: st) h := hs_R_go (t := (pc + 1, loc, .long v :: st, h)) ((hs_stp_of hd (Or.inr rfl)).trans (by rw [← hv]; rfl))
theorem r_ldcw {k : Nat} {v : Int32} (hd : decode (hs_code j) pc = .ok (.ldc_w k, 3)) (hv : hs_kI (hs_own j) k = some v) : hs_R scr d j pc loc st h = hs_R scr d j (pc + 3) loc (.int v :: st) h := hs_R_go (t := (pc + 3, loc, .int v :: st, h)) ((hs_stp_of hd (Or.inr rfl)).trans (by show (hs_kI (hs_own j) k).bind _ = _; rw [hv]; rfl))
theorem r_ldc {k : Nat} {v : Int32} (hd : decode (hs_code j) pc = .ok (.ldc k, 2)) (h8 : ¬ (hs_own j = 8 ∧ k = hs_sk)) (hv : hs_kI (hs_own j) k = some v) : hs_R scr d j pc loc st h = hs_R scr d j (pc + 2) loc (.int v :: st) h := hs_R_go (t := (pc + 2, loc, .int v :: st, h)) ((hs_stp_of hd (Or.inr rfl)).trans (by show (if _ then _ else (hs_kI (hs_own j) k).bind _) = _; rw [if_neg h8, hv]; rfl))
theorem r_ldct {k : Nat} (hd : decode (hs_code j) pc = .ok (.ldc k, 2)) (h8 : hs_own j = 8 ∧ k = hs_sk) : hs_R scr d j pc loc st h = hs_R scr d j (pc + 2) loc (.ref 1 :: st) h := hs_R_go (t := (pc + 2, loc, .ref 1 :: st, h)) ((hs_stp_of hd (Or.inr rfl)).trans (by show (if _ then _ else (hs_kI (hs_own j) k).bind _) = _; rw [if_pos h8]))
theorem r_ldc2 {k : Nat} {v : Int64} (hd : decode (hs_code j) pc = .ok (.ldc2_w k, 3)) (hv : hs_kL (hs_own j) k = some v) : hs_R scr d j pc loc st h = hs_R scr d j (pc + 3) loc (.long v :: st) h := hs_R_go (t := (pc + 3, loc, .long v :: st, h)) ((hs_stp_of hd (Or.inr rfl)).trans (by show (hs_kL (hs_own j) k).bind _ = _; rw [hv]; rfl))
theorem r_iadd {x y : Int32} (hd : decode (hs_code j) pc = .ok (.iadd, 1)) : hs_R scr d j pc loc (.int y :: .int x :: r) h = hs_R scr d j (pc + 1) loc (.int (x + y) :: r) h := hs_R_go (t := ((pc + 1), loc, (.int (x + y) :: r), h)) ((hs_stp_of hd (Or.inr rfl)).trans (rfl))
theorem r_isub {x y : Int32} (hd : decode (hs_code j) pc = .ok (.isub, 1)) : hs_R scr d j pc loc (.int y :: .int x :: r) h = hs_R scr d j (pc + 1) loc (.int (x - y) :: r) h := hs_R_go (t := ((pc + 1), loc, (.int (x - y) :: r), h)) ((hs_stp_of hd (Or.inr rfl)).trans (rfl))
theorem r_imul {x y : Int32} (hd : decode (hs_code j) pc = .ok (.imul, 1)) : hs_R scr d j pc loc (.int y :: .int x :: r) h = hs_R scr d j (pc + 1) loc (.int (x * y) :: r) h := hs_R_go (t := ((pc + 1), loc, (.int (x * y) :: r), h)) ((hs_stp_of hd (Or.inr rfl)).trans (rfl))
theorem r_iand {x y : Int32} (hd : decode (hs_code j) pc = .ok (.iand, 1)) : hs_R scr d j pc loc (.int y :: .int x :: r) h = hs_R scr d j (pc + 1) loc (.int (x &&& y) :: r) h := hs_R_go (t := ((pc + 1), loc, (.int (x &&& y) :: r), h)) ((hs_stp_of hd (Or.inr rfl)).trans (rfl))
theorem r_ior {x y : Int32} (hd : decode (hs_code j) pc = .ok (.ior, 1)) : hs_R scr d j pc loc (.int y :: .int x :: r) h = hs_R scr d j (pc + 1) loc (.int (x ||| y) :: r) h := hs_R_go (t := ((pc + 1), loc, (.int (x ||| y) :: r), h)) ((hs_stp_of hd (Or.inr rfl)).trans (rfl))
theorem r_ixor {x y : Int32} (hd : decode (hs_code j) pc = .ok (.ixor, 1)) : hs_R scr d j pc loc (.int y :: .int x :: r) h = hs_R scr d j (pc + 1) loc (.int (x ^^^ y) :: r) h := hs_R_go (t := ((pc + 1), loc, (.int (x ^^^ y) :: r), h)) ((hs_stp_of hd (Or.inr rfl)).trans (rfl))
theorem r_ishl {x y : Int32} (hd : decode (hs_code j) pc = .ok (.ishl, 1)) : hs_R scr d j pc loc (.int y :: .int x :: r) h = hs_R scr d j (pc + 1) loc (.int (x <<< (y &&& 31)) :: r) h := hs_R_go (t := ((pc + 1), loc, (.int (x <<< (y &&& 31)) :: r), h)) ((hs_stp_of hd (Or.inr rfl)).trans (rfl))
theorem r_ishr {x y : Int32} (hd : decode (hs_code j) pc = .ok (.ishr, 1)) : hs_R scr d j pc loc (.int y :: .int x :: r) h = hs_R scr d j (pc + 1) loc (.int (x >>> (y &&& 31)) :: r) h := hs_R_go (t := ((pc + 1), loc, (.int (x >>> (y &&& 31)) :: r), h)) ((hs_stp_of hd (Or.inr rfl)).trans (rfl))
theorem r_iushr {x y : Int32} (hd : decode (hs_code j) pc = .ok (.iushr, 1)) : hs_R scr d j pc loc (.int y :: .int x :: r) h = hs_R scr d j (pc + 1) loc (.int ((x.toUInt32 >>> (y.toUInt32 &&& Int32.toUInt32 31)).toInt32) :: r) h := hs_R_go (t := ((pc + 1), loc, (.int ((x.toUInt32 >>> (y.toUInt32 &&& Int32.toUInt32 31)).toInt32) :: r), h)) ((hs_stp_of hd (Or.inr rfl)).trans (rfl))
theorem r_ladd {x y : Int64} (hd : decode (hs_code j) pc = .ok (.ladd, 1)) : hs_R scr d j pc loc (.long y :: .long x :: r) h = hs_R scr d j (pc + 1) loc (.long (x + y) :: r) h := hs_R_go (t := ((pc + 1), loc, (.long (x + y) :: r), h)) ((hs_stp_of hd (Or.inr rfl)).trans (rfl))
theorem r_lsub {x y : Int64} (hd : decode (hs_code j) pc = .ok (.lsub, 1)) : hs_R scr d j pc loc (.long y :: .long x :: r) h = hs_R scr d j (pc + 1) loc (.long (x - y) :: r) h := hs_R_go (t := ((pc + 1), loc, (.long (x - y) :: r), h)) ((hs_stp_of hd (Or.inr rfl)).trans (rfl))
theorem r_lmul {x y : Int64} (hd : decode (hs_code j) pc = .ok (.lmul, 1)) : hs_R scr d j pc loc (.long y :: .long x :: r) h = hs_R scr d j (pc + 1) loc (.long (x * y) :: r) h := hs_R_go (t := ((pc + 1), loc, (.long (x * y) :: r), h)) ((hs_stp_of hd (Or.inr rfl)).trans (rfl))
theorem r_land {x y : Int64} (hd : decode (hs_code j) pc = .ok (.land, 1)) : hs_R scr d j pc loc (.long y :: .long x :: r) h = hs_R scr d j (pc + 1) loc (.long (x &&& y) :: r) h := hs_R_go (t := ((pc + 1), loc, (.long (x &&& y) :: r), h)) ((hs_stp_of hd (Or.inr rfl)).trans (rfl))
theorem r_lor {x y : Int64} (hd : decode (hs_code j) pc = .ok (.lor, 1)) : hs_R scr d j pc loc (.long y :: .long x :: r) h = hs_R scr d j (pc + 1) loc (.long (x ||| y) :: r) h := hs_R_go (t := ((pc + 1), loc, (.long (x ||| y) :: r), h)) ((hs_stp_of hd (Or.inr rfl)).trans (rfl))
theorem r_ineg {x : Int32} (hd : decode (hs_code j) pc = .ok (.ineg, 1)) : hs_R scr d j pc loc (.int x :: r) h = hs_R scr d j (pc + 1) loc (.int (-x) :: r) h := hs_R_go (t := ((pc + 1), loc, (.int (-x) :: r), h)) ((hs_stp_of hd (Or.inr rfl)).trans (rfl))
theorem r_i2b {x : Int32} (hd : decode (hs_code j) pc = .ok (.i2b, 1)) : hs_R scr d j pc loc (.int x :: r) h = hs_R scr d j (pc + 1) loc (.int (x.toInt8.toInt32) :: r) h := hs_R_go (t := ((pc + 1), loc, (.int (x.toInt8.toInt32) :: r), h)) ((hs_stp_of hd (Or.inr rfl)).trans (rfl))
theorem r_i2s {x : Int32} (hd : decode (hs_code j) pc = .ok (.i2s, 1)) : hs_R scr d j pc loc (.int x :: r) h = hs_R scr d j (pc + 1) loc (.int (x.toInt16.toInt32) :: r) h := hs_R_go (t := ((pc + 1), loc, (.int (x.toInt16.toInt32) :: r), h)) ((hs_stp_of hd (Or.inr rfl)).trans (rfl))
theorem r_i2c {x : Int32} (hd : decode (hs_code j) pc = .ok (.i2c, 1)) : hs_R scr d j pc loc (.int x :: r) h = hs_R scr d j (pc + 1) loc (.int ((x.toUInt32 % 65536).toInt32) :: r) h := hs_R_go (t := ((pc + 1), loc, (.int ((x.toUInt32 % 65536).toInt32) :: r), h)) ((hs_stp_of hd (Or.inr rfl)).trans (rfl))
theorem r_lneg {x : Int64} (hd : decode (hs_code j) pc = .ok (.lneg, 1)) : hs_R scr d j pc loc (.long x :: r) h = hs_R scr d j (pc + 1) loc (.long (-x) :: r) h := hs_R_go (t := ((pc + 1), loc, (.long (-x) :: r), h)) ((hs_stp_of hd (Or.inr rfl)).trans (rfl))
theorem r_lshl {x : Int64} {y : Int32} (hd : decode (hs_code j) pc = .ok (.lshl, 1)) : hs_R scr d j pc loc (.int y :: .long x :: r) h = hs_R scr d j (pc + 1) loc (.long (x <<< (y.toInt64 &&& 63)) :: r) h := hs_R_go (t := ((pc + 1), loc, (.long (x <<< (y.toInt64 &&& 63)) :: r), h)) ((hs_stp_of hd (Or.inr rfl)).trans (rfl))
theorem r_lcmp {x y : Int64} (hd : decode (hs_code j) pc = .ok (.lcmp, 1)) : hs_R scr d j pc loc (.long y :: .long x :: r) h = hs_R scr d j (pc + 1) loc (.int (lg_cmp x y) :: r) h := hs_R_go (t := ((pc + 1), loc, (.int (lg_cmp x y) :: r), h)) ((hs_stp_of hd (Or.inr rfl)).trans (rfl))
theorem r_i2l {x : Int32} (hd : decode (hs_code j) pc = .ok (.i2l, 1)) : hs_R scr d j pc loc (.int x :: r) h = hs_R scr d j (pc + 1) loc (.long x.toInt64 :: r) h := hs_R_go (t := ((pc + 1), loc, (.long x.toInt64 :: r), h)) ((hs_stp_of hd (Or.inr rfl)).trans (rfl))
theorem r_l2i {x : Int64} (hd : decode (hs_code j) pc = .ok (.l2i, 1)) : hs_R scr d j pc loc (.long x :: r) h = hs_R scr d j (pc + 1) loc (.int x.toInt32 :: r) h := hs_R_go (t := ((pc + 1), loc, (.int x.toInt32 :: r), h)) ((hs_stp_of hd (Or.inr rfl)).trans (rfl))
theorem r_idiv {x y : Int32} (hd : decode (hs_code j) pc = .ok (.idiv, 1)) : hs_R scr d j pc loc (.int y :: .int x :: r) h = if y = 0 then none else hs_R scr d j (pc + 1) loc (.int (x / y) :: r) h := by
  split
  · rename_i hy
    exact hs_R_none ((hs_stp_of hd (Or.inr rfl)).trans (if_pos hy))
  · rename_i hy
    exact hs_R_go (t := (pc + 1, loc, .int (x / y) :: r, h)) ((hs_stp_of hd (Or.inr rfl)).trans (if_neg hy))
theorem r_irem {x y : Int32} (hd : decode (hs_code j) pc = .ok (.irem, 1)) : hs_R scr d j pc loc (.int y :: .int x :: r) h = if y = 0 then none else hs_R scr d j (pc + 1) loc (.int (x - x / y * y) :: r) h := by
  split
  · rename_i hy
    exact hs_R_none ((hs_stp_of hd (Or.inr rfl)).trans (if_pos hy))
  · rename_i hy
    exact hs_R_go (t := (pc + 1, loc, .int (x - x / y * y) :: r, h)) ((hs_stp_of hd (Or.inr rfl)).trans (if_neg hy))
theorem r_ldiv {x y : Int64} (hd : decode (hs_code j) pc = .ok (.ldiv, 1)) : hs_R scr d j pc loc (.long y :: .long x :: r) h = if y = 0 then none else hs_R scr d j (pc + 1) loc (.long (x / y) :: r) h := by
  split
  · rename_i hy
    exact hs_R_none ((hs_stp_of hd (Or.inr rfl)).trans (if_pos hy))
  · rename_i hy
    exact hs_R_go (t := (pc + 1, loc, .long (x / y) :: r, h)) ((hs_stp_of hd (Or.inr rfl)).trans (if_neg hy))
theorem r_lrem {x y : Int64} (hd : decode (hs_code j) pc = .ok (.lrem, 1)) : hs_R scr d j pc loc (.long y :: .long x :: r) h = if y = 0 then none else hs_R scr d j (pc + 1) loc (.long (x - x / y * y) :: r) h := by
  split
  · rename_i hy
    exact hs_R_none ((hs_stp_of hd (Or.inr rfl)).trans (if_pos hy))
  · rename_i hy
    exact hs_R_go (t := (pc + 1, loc, .long (x - x / y * y) :: r, h)) ((hs_stp_of hd (Or.inr rfl)).trans (if_neg hy))
theorem r_dup {v : Value} (hd : decode (hs_code j) pc = .ok (.dup, 1)) (hc : v.category = 1) : hs_R scr d j pc loc (v :: r) h = hs_R scr d j (pc + 1) loc (v :: v :: r) h := hs_R_go (t := (pc + 1, loc, v :: v :: r, h)) ((hs_stp_of hd (Or.inr rfl)).trans (if_pos hc))
theorem r_pop {v : Value} (hd : decode (hs_code j) pc = .ok (.pop, 1)) (hc : v.category = 1) : hs_R scr d j pc loc (v :: r) h = hs_R scr d j (pc + 1) loc r h := hs_R_go (t := (pc + 1, loc, r, h)) ((hs_stp_of hd (Or.inr rfl)).trans (if_pos hc))
theorem r_dup2 {v w : Value} (hd : decode (hs_code j) pc = .ok (.dup2, 1)) (hc : v.category = 1 ∧ w.category = 1) : hs_R scr d j pc loc (v :: w :: r) h = hs_R scr d j (pc + 1) loc (v :: w :: v :: w :: r) h := hs_R_go (t := (pc + 1, loc, v :: w :: v :: w :: r, h)) ((hs_stp_of hd (Or.inr rfl)).trans (if_pos hc))
theorem r_goto {off : Int} {t : Nat} (hd : decode (hs_code j) pc = .ok (.goto off, 3)) (hj : hs_j pc off = some t) : hs_R scr d j pc loc st h = hs_R scr d j t loc st h := hs_R_go (t := (t, loc, st, h)) ((hs_stp_of hd (Or.inr rfl)).trans (by show (hs_j pc off).bind _ = _; rw [hj]; rfl))
theorem r_ceq {x y : Int32} {off : Int} {t : Nat} (hd : decode (hs_code j) pc = .ok (.if_icmp .eq off, 3)) (hj : hs_j pc off = some t) : hs_R scr d j pc loc (.int y :: .int x :: r) h = if x = y then hs_R scr d j t loc r h else hs_R scr d j (pc + 3) loc r h := by
  have e0 : hs_stp scr j pc loc (.int y :: .int x :: r) h = hs_br (hs_c2 .eq x y) t (pc + 3) loc r h := (hs_stp_of hd (Or.inr rfl)).trans (by simp only [hs_xi, hj])
  split
  · rename_i hq
    have q2 : hs_c2 .eq x y = true := decide_eq_true hq
    exact hs_R_go (t := (t, loc, r, h)) (e0.trans (by rw [q2]; rfl))
  · rename_i hq
    have q2 : hs_c2 .eq x y = false := decide_eq_false hq
    exact hs_R_go (t := (pc + 3, loc, r, h)) (e0.trans (by rw [q2]; rfl))
theorem r_zeq {x : Int32} {off : Int} {t : Nat} (hd : decode (hs_code j) pc = .ok (.ifCond .eq off, 3)) (hj : hs_j pc off = some t) : hs_R scr d j pc loc (.int x :: r) h = if x = 0 then hs_R scr d j t loc r h else hs_R scr d j (pc + 3) loc r h := by
  have e0 : hs_stp scr j pc loc (.int x :: r) h = hs_br (hs_c2 .eq x 0) t (pc + 3) loc r h := (hs_stp_of hd (Or.inr rfl)).trans (by simp only [hs_xi, hj])
  split
  · rename_i hq
    have q2 : hs_c2 .eq x 0 = true := decide_eq_true hq
    exact hs_R_go (t := (t, loc, r, h)) (e0.trans (by rw [q2]; rfl))
  · rename_i hq
    have q2 : hs_c2 .eq x 0 = false := decide_eq_false hq
    exact hs_R_go (t := (pc + 3, loc, r, h)) (e0.trans (by rw [q2]; rfl))
theorem r_clt {x y : Int32} {off : Int} {t : Nat} (hd : decode (hs_code j) pc = .ok (.if_icmp .lt off, 3)) (hj : hs_j pc off = some t) : hs_R scr d j pc loc (.int y :: .int x :: r) h = if x < y then hs_R scr d j t loc r h else hs_R scr d j (pc + 3) loc r h := by
  have e0 : hs_stp scr j pc loc (.int y :: .int x :: r) h = hs_br (hs_c2 .lt x y) t (pc + 3) loc r h := (hs_stp_of hd (Or.inr rfl)).trans (by simp only [hs_xi, hj])
  split
  · rename_i hq
    have q2 : hs_c2 .lt x y = true := decide_eq_true hq
    exact hs_R_go (t := (t, loc, r, h)) (e0.trans (by rw [q2]; rfl))
  · rename_i hq
    have q2 : hs_c2 .lt x y = false := decide_eq_false hq
    exact hs_R_go (t := (pc + 3, loc, r, h)) (e0.trans (by rw [q2]; rfl))
theorem r_zlt {x : Int32} {off : Int} {t : Nat} (hd : decode (hs_code j) pc = .ok (.ifCond .lt off, 3)) (hj : hs_j pc off = some t) : hs_R scr d j pc loc (.int x :: r) h = if x < 0 then hs_R scr d j t loc r h else hs_R scr d j (pc + 3) loc r h := by
  have e0 : hs_stp scr j pc loc (.int x :: r) h = hs_br (hs_c2 .lt x 0) t (pc + 3) loc r h := (hs_stp_of hd (Or.inr rfl)).trans (by simp only [hs_xi, hj])
  split
  · rename_i hq
    have q2 : hs_c2 .lt x 0 = true := decide_eq_true hq
    exact hs_R_go (t := (t, loc, r, h)) (e0.trans (by rw [q2]; rfl))
  · rename_i hq
    have q2 : hs_c2 .lt x 0 = false := decide_eq_false hq
    exact hs_R_go (t := (pc + 3, loc, r, h)) (e0.trans (by rw [q2]; rfl))
theorem r_cge {x y : Int32} {off : Int} {t : Nat} (hd : decode (hs_code j) pc = .ok (.if_icmp .ge off, 3)) (hj : hs_j pc off = some t) : hs_R scr d j pc loc (.int y :: .int x :: r) h = if y ≤ x then hs_R scr d j t loc r h else hs_R scr d j (pc + 3) loc r h := by
  have e0 : hs_stp scr j pc loc (.int y :: .int x :: r) h = hs_br (hs_c2 .ge x y) t (pc + 3) loc r h := (hs_stp_of hd (Or.inr rfl)).trans (by simp only [hs_xi, hj])
  split
  · rename_i hq
    have q2 : hs_c2 .ge x y = true := decide_eq_true hq
    exact hs_R_go (t := (t, loc, r, h)) (e0.trans (by rw [q2]; rfl))
  · rename_i hq
    have q2 : hs_c2 .ge x y = false := decide_eq_false hq
    exact hs_R_go (t := (pc + 3, loc, r, h)) (e0.trans (by rw [q2]; rfl))
theorem r_zge {x : Int32} {off : Int} {t : Nat} (hd : decode (hs_code j) pc = .ok (.ifCond .ge off, 3)) (hj : hs_j pc off = some t) : hs_R scr d j pc loc (.int x :: r) h = if 0 ≤ x then hs_R scr d j t loc r h else hs_R scr d j (pc + 3) loc r h := by
  have e0 : hs_stp scr j pc loc (.int x :: r) h = hs_br (hs_c2 .ge x 0) t (pc + 3) loc r h := (hs_stp_of hd (Or.inr rfl)).trans (by simp only [hs_xi, hj])
  split
  · rename_i hq
    have q2 : hs_c2 .ge x 0 = true := decide_eq_true hq
    exact hs_R_go (t := (t, loc, r, h)) (e0.trans (by rw [q2]; rfl))
  · rename_i hq
    have q2 : hs_c2 .ge x 0 = false := decide_eq_false hq
    exact hs_R_go (t := (pc + 3, loc, r, h)) (e0.trans (by rw [q2]; rfl))
theorem r_cgt {x y : Int32} {off : Int} {t : Nat} (hd : decode (hs_code j) pc = .ok (.if_icmp .gt off, 3)) (hj : hs_j pc off = some t) : hs_R scr d j pc loc (.int y :: .int x :: r) h = if y < x then hs_R scr d j t loc r h else hs_R scr d j (pc + 3) loc r h := by
  have e0 : hs_stp scr j pc loc (.int y :: .int x :: r) h = hs_br (hs_c2 .gt x y) t (pc + 3) loc r h := (hs_stp_of hd (Or.inr rfl)).trans (by simp only [hs_xi, hj])
  split
  · rename_i hq
    have q2 : hs_c2 .gt x y = true := decide_eq_true hq
    exact hs_R_go (t := (t, loc, r, h)) (e0.trans (by rw [q2]; rfl))
  · rename_i hq
    have q2 : hs_c2 .gt x y = false := decide_eq_false hq
    exact hs_R_go (t := (pc + 3, loc, r, h)) (e0.trans (by rw [q2]; rfl))
theorem r_zgt {x : Int32} {off : Int} {t : Nat} (hd : decode (hs_code j) pc = .ok (.ifCond .gt off, 3)) (hj : hs_j pc off = some t) : hs_R scr d j pc loc (.int x :: r) h = if 0 < x then hs_R scr d j t loc r h else hs_R scr d j (pc + 3) loc r h := by
  have e0 : hs_stp scr j pc loc (.int x :: r) h = hs_br (hs_c2 .gt x 0) t (pc + 3) loc r h := (hs_stp_of hd (Or.inr rfl)).trans (by simp only [hs_xi, hj])
  split
  · rename_i hq
    have q2 : hs_c2 .gt x 0 = true := decide_eq_true hq
    exact hs_R_go (t := (t, loc, r, h)) (e0.trans (by rw [q2]; rfl))
  · rename_i hq
    have q2 : hs_c2 .gt x 0 = false := decide_eq_false hq
    exact hs_R_go (t := (pc + 3, loc, r, h)) (e0.trans (by rw [q2]; rfl))
theorem r_cle {x y : Int32} {off : Int} {t : Nat} (hd : decode (hs_code j) pc = .ok (.if_icmp .le off, 3)) (hj : hs_j pc off = some t) : hs_R scr d j pc loc (.int y :: .int x :: r) h = if x ≤ y then hs_R scr d j t loc r h else hs_R scr d j (pc + 3) loc r h := by
  have e0 : hs_stp scr j pc loc (.int y :: .int x :: r) h = hs_br (hs_c2 .le x y) t (pc + 3) loc r h := (hs_stp_of hd (Or.inr rfl)).trans (by simp only [hs_xi, hj])
  split
  · rename_i hq
    have q2 : hs_c2 .le x y = true := decide_eq_true hq
    exact hs_R_go (t := (t, loc, r, h)) (e0.trans (by rw [q2]; rfl))
  · rename_i hq
    have q2 : hs_c2 .le x y = false := decide_eq_false hq
    exact hs_R_go (t := (pc + 3, loc, r, h)) (e0.trans (by rw [q2]; rfl))
theorem r_zle {x : Int32} {off : Int} {t : Nat} (hd : decode (hs_code j) pc = .ok (.ifCond .le off, 3)) (hj : hs_j pc off = some t) : hs_R scr d j pc loc (.int x :: r) h = if x ≤ 0 then hs_R scr d j t loc r h else hs_R scr d j (pc + 3) loc r h := by
  have e0 : hs_stp scr j pc loc (.int x :: r) h = hs_br (hs_c2 .le x 0) t (pc + 3) loc r h := (hs_stp_of hd (Or.inr rfl)).trans (by simp only [hs_xi, hj])
  split
  · rename_i hq
    have q2 : hs_c2 .le x 0 = true := decide_eq_true hq
    exact hs_R_go (t := (t, loc, r, h)) (e0.trans (by rw [q2]; rfl))
  · rename_i hq
    have q2 : hs_c2 .le x 0 = false := decide_eq_false hq
    exact hs_R_go (t := (pc + 3, loc, r, h)) (e0.trans (by rw [q2]; rfl))
theorem r_cne {x y : Int32} {off : Int} {t : Nat} (hd : decode (hs_code j) pc = .ok (.if_icmp .ne off, 3)) (hj : hs_j pc off = some t) : hs_R scr d j pc loc (.int y :: .int x :: r) h = if x = y then hs_R scr d j (pc + 3) loc r h else hs_R scr d j t loc r h := by
  have e0 : hs_stp scr j pc loc (.int y :: .int x :: r) h = hs_br (hs_c2 .ne x y) t (pc + 3) loc r h := (hs_stp_of hd (Or.inr rfl)).trans (by simp only [hs_xi, hj])
  split
  · rename_i hq
    have q2 : hs_c2 .ne x y = false := by simp only [hs_c2]; simp [hq]
    exact hs_R_go (t := (pc + 3, loc, r, h)) (e0.trans (by rw [q2]; rfl))
  · rename_i hq
    have q2 : hs_c2 .ne x y = true := by simp only [hs_c2]; simp [hq]
    exact hs_R_go (t := (t, loc, r, h)) (e0.trans (by rw [q2]; rfl))
theorem r_zne {x : Int32} {off : Int} {t : Nat} (hd : decode (hs_code j) pc = .ok (.ifCond .ne off, 3)) (hj : hs_j pc off = some t) : hs_R scr d j pc loc (.int x :: r) h = if x = 0 then hs_R scr d j (pc + 3) loc r h else hs_R scr d j t loc r h := by
  have e0 : hs_stp scr j pc loc (.int x :: r) h = hs_br (hs_c2 .ne x 0) t (pc + 3) loc r h := (hs_stp_of hd (Or.inr rfl)).trans (by simp only [hs_xi, hj])
  split
  · rename_i hq
    have q2 : hs_c2 .ne x 0 = false := by simp only [hs_c2]; simp [hq]
    exact hs_R_go (t := (pc + 3, loc, r, h)) (e0.trans (by rw [q2]; rfl))
  · rename_i hq
    have q2 : hs_c2 .ne x 0 = true := by simp only [hs_c2]; simp [hq]
    exact hs_R_go (t := (t, loc, r, h)) (e0.trans (by rw [q2]; rfl))
theorem r_getI {idx ci f fin k : Nat} (hd : decode (hs_code j) pc = .ok (.getfield idx, 3)) (hf : hs_fld (hs_own j) idx = some (ci, f, 0, fin)) (hk : S[k]? = some (.inl ci)) : hs_R scr d j pc loc (.ref k :: r) (S, I, L, R) = hs_R scr d j (pc + 3) loc (.int (I k f) :: r) (S, I, L, R) := hs_R_go (t := (pc + 3, loc, .int (I k f) :: r, (S, I, L, R))) ((hs_stp_of hd (Or.inr rfl)).trans (by show (hs_fld (hs_own j) idx).bind _ = _; rw [hf]; exact if_pos hk))
theorem r_getZ {idx ci f fin k : Nat} (hd : decode (hs_code j) pc = .ok (.getfield idx, 3)) (hf : hs_fld (hs_own j) idx = some (ci, f, 1, fin)) (hk : S[k]? = some (.inl ci)) : hs_R scr d j pc loc (.ref k :: r) (S, I, L, R) = hs_R scr d j (pc + 3) loc (.int (I k f) :: r) (S, I, L, R) := hs_R_go (t := (pc + 3, loc, .int (I k f) :: r, (S, I, L, R))) ((hs_stp_of hd (Or.inr rfl)).trans (by show (hs_fld (hs_own j) idx).bind _ = _; rw [hf]; exact if_pos hk))
theorem r_getL {idx ci f fin k : Nat} (hd : decode (hs_code j) pc = .ok (.getfield idx, 3)) (hf : hs_fld (hs_own j) idx = some (ci, f, 2, fin)) (hk : S[k]? = some (.inl ci)) : hs_R scr d j pc loc (.ref k :: r) (S, I, L, R) = hs_R scr d j (pc + 3) loc (.long (L k f) :: r) (S, I, L, R) := hs_R_go (t := (pc + 3, loc, .long (L k f) :: r, (S, I, L, R))) ((hs_stp_of hd (Or.inr rfl)).trans (by show (hs_fld (hs_own j) idx).bind _ = _; rw [hf]; exact if_pos hk))
theorem r_getR {idx ci f fin k : Nat} (hd : decode (hs_code j) pc = .ok (.getfield idx, 3)) (hf : hs_fld (hs_own j) idx = some (ci, f, 3, fin)) (hk : S[k]? = some (.inl ci)) (h2 : 2 ≤ R k f) : hs_R scr d j pc loc (.ref k :: r) (S, I, L, R) = hs_R scr d j (pc + 3) loc (.ref (R k f) :: r) (S, I, L, R) := hs_R_go (t := (pc + 3, loc, .ref (R k f) :: r, (S, I, L, R))) ((hs_stp_of hd (Or.inr rfl)).trans (by show (hs_fld (hs_own j) idx).bind _ = _; rw [hf]; exact (if_pos hk).trans (if_neg (Nat.not_lt.mpr h2))))
theorem r_putI {idx ci f k : Nat} {x : Int32} (hd : decode (hs_code j) pc = .ok (.putfield idx, 3)) (hf : hs_fld (hs_own j) idx = some (ci, f, 0, 0)) (hk : S[k]? = some (.inl ci)) : hs_R scr d j pc loc (.int x :: .ref k :: r) (S, I, L, R) = hs_R scr d j (pc + 3) loc r (S, hs_u I k f x, L, R) := hs_R_go (t := (pc + 3, loc, r, (S, hs_u I k f x, L, R))) ((hs_stp_of hd (Or.inr rfl)).trans (by show (hs_fld (hs_own j) idx).bind _ = _; rw [hf]; show (if (0 : Nat) = 0 ∨ (hs_kind j = 3 ∧ hs_own j = ci) then (if S[k]? = some (.inl ci) then hs_go (pc + 3) loc r (S, hs_u I k f x, L, R) else none) else none) = _; rw [if_pos (Or.inl rfl), if_pos hk]))
theorem r_putIF {idx ci f k : Nat} {x : Int32} (hd : decode (hs_code j) pc = .ok (.putfield idx, 3)) (hf : hs_fld (hs_own j) idx = some (ci, f, 0, 1)) (hk : S[k]? = some (.inl ci)) (hF : hs_kind j = 3 ∧ hs_own j = ci) : hs_R scr d j pc loc (.int x :: .ref k :: r) (S, I, L, R) = hs_R scr d j (pc + 3) loc r (S, hs_u I k f x, L, R) := hs_R_go (t := (pc + 3, loc, r, (S, hs_u I k f x, L, R))) ((hs_stp_of hd (Or.inr rfl)).trans (by show (hs_fld (hs_own j) idx).bind _ = _; rw [hf]; show (if (1 : Nat) = 0 ∨ (hs_kind j = 3 ∧ hs_own j = ci) then (if S[k]? = some (.inl ci) then hs_go (pc + 3) loc r (S, hs_u I k f x, L, R) else none) else none) = _; rw [if_pos (Or.inr hF), if_pos hk]))
theorem r_putL {idx ci f k : Nat} {x : Int64} (hd : decode (hs_code j) pc = .ok (.putfield idx, 3)) (hf : hs_fld (hs_own j) idx = some (ci, f, 2, 0)) (hk : S[k]? = some (.inl ci)) : hs_R scr d j pc loc (.long x :: .ref k :: r) (S, I, L, R) = hs_R scr d j (pc + 3) loc r (S, I, hs_u L k f x, R) := hs_R_go (t := (pc + 3, loc, r, (S, I, hs_u L k f x, R))) ((hs_stp_of hd (Or.inr rfl)).trans (by show (hs_fld (hs_own j) idx).bind _ = _; rw [hf]; show (if (0 : Nat) = 0 ∨ (hs_kind j = 3 ∧ hs_own j = ci) then (if S[k]? = some (.inl ci) then hs_go (pc + 3) loc r (S, I, hs_u L k f x, R) else none) else none) = _; rw [if_pos (Or.inl rfl), if_pos hk]))
theorem r_putLF {idx ci f k : Nat} {x : Int64} (hd : decode (hs_code j) pc = .ok (.putfield idx, 3)) (hf : hs_fld (hs_own j) idx = some (ci, f, 2, 1)) (hk : S[k]? = some (.inl ci)) (hF : hs_kind j = 3 ∧ hs_own j = ci) : hs_R scr d j pc loc (.long x :: .ref k :: r) (S, I, L, R) = hs_R scr d j (pc + 3) loc r (S, I, hs_u L k f x, R) := hs_R_go (t := (pc + 3, loc, r, (S, I, hs_u L k f x, R))) ((hs_stp_of hd (Or.inr rfl)).trans (by show (hs_fld (hs_own j) idx).bind _ = _; rw [hf]; show (if (1 : Nat) = 0 ∨ (hs_kind j = 3 ∧ hs_own j = ci) then (if S[k]? = some (.inl ci) then hs_go (pc + 3) loc r (S, I, hs_u L k f x, R) else none) else none) = _; rw [if_pos (Or.inr hF), if_pos hk]))
theorem r_putR {idx ci f k : Nat} {x : Nat} (hd : decode (hs_code j) pc = .ok (.putfield idx, 3)) (hf : hs_fld (hs_own j) idx = some (ci, f, 3, 0)) (hk : S[k]? = some (.inl ci)) (h2 : 2 ≤ x) : hs_R scr d j pc loc (.ref x :: .ref k :: r) (S, I, L, R) = hs_R scr d j (pc + 3) loc r (S, I, L, hs_u R k f x) := hs_R_go (t := (pc + 3, loc, r, (S, I, L, hs_u R k f x))) ((hs_stp_of hd (Or.inr rfl)).trans (by show (hs_fld (hs_own j) idx).bind _ = _; rw [hf]; show (if (0 : Nat) = 0 ∨ (hs_kind j = 3 ∧ hs_own j = ci) then (if S[k]? = some (.inl ci) ∧ 2 ≤ x then hs_go (pc + 3) loc r (S, I, L, hs_u R k f x) else none) else none) = _; rw [if_pos (Or.inl rfl), if_pos ⟨hk, h2⟩]))
theorem r_putRF {idx ci f k : Nat} {x : Nat} (hd : decode (hs_code j) pc = .ok (.putfield idx, 3)) (hf : hs_fld (hs_own j) idx = some (ci, f, 3, 1)) (hk : S[k]? = some (.inl ci)) (h2 : 2 ≤ x) (hF : hs_kind j = 3 ∧ hs_own j = ci) : hs_R scr d j pc loc (.ref x :: .ref k :: r) (S, I, L, R) = hs_R scr d j (pc + 3) loc r (S, I, L, hs_u R k f x) := hs_R_go (t := (pc + 3, loc, r, (S, I, L, hs_u R k f x))) ((hs_stp_of hd (Or.inr rfl)).trans (by show (hs_fld (hs_own j) idx).bind _ = _; rw [hf]; show (if (1 : Nat) = 0 ∨ (hs_kind j = 3 ∧ hs_own j = ci) then (if S[k]? = some (.inl ci) ∧ 2 ≤ x then hs_go (pc + 3) loc r (S, I, L, hs_u R k f x) else none) else none) = _; rw [if_pos (Or.inr hF), if_pos ⟨hk, h2⟩]))
theorem r_putZ {idx ci f k : Nat} {x : Int32} (hd : decode (hs_code j) pc = .ok (.putfield idx, 3)) (hf : hs_fld (hs_own j) idx = some (ci, f, 1, 0)) (hk : S[k]? = some (.inl ci)) : hs_R scr d j pc loc (.int x :: .ref k :: r) (S, I, L, R) = if x = 0 ∨ x = 1 then hs_R scr d j (pc + 3) loc r (S, hs_u I k f x, L, R) else none := by
  have e0 : hs_stp scr j pc loc (.int x :: .ref k :: r) (S, I, L, R) = if S[k]? = some (.inl ci) ∧ (x = 0 ∨ x = 1) then hs_go (pc + 3) loc r (S, hs_u I k f x, L, R) else none := (hs_stp_of hd (Or.inr rfl)).trans (by show (hs_fld (hs_own j) idx).bind _ = _; rw [hf]; show (if (0 : Nat) = 0 ∨ (hs_kind j = 3 ∧ hs_own j = ci) then (if S[k]? = some (.inl ci) ∧ (x = 0 ∨ x = 1) then hs_go (pc + 3) loc r (S, hs_u I k f x, L, R) else none) else none) = _; rw [if_pos (Or.inl rfl)])
  split
  · rename_i hq
    exact hs_R_go (t := (pc + 3, loc, r, (S, hs_u I k f x, L, R))) (e0.trans (if_pos ⟨hk, hq⟩))
  · rename_i hq
    exact hs_R_none (e0.trans (if_neg fun q => hq q.2))
theorem r_iald {k n : Nat} {i : Int32} (hd : decode (hs_code j) pc = .ok (.iaload, 1)) (hk : S[k]? = some (.inr (.int, n))) : hs_R scr d j pc loc (.int i :: .ref k :: r) (S, I, L, R) = if hs_ib i n = true then hs_R scr d j (pc + 1) loc (.int (I k i.toNatClampNeg) :: r) (S, I, L, R) else none := by
  have e0 : hs_stp scr j pc loc (.int i :: .ref k :: r) (S, I, L, R) = if .int = (.int : FieldType) ∧ hs_ib i n = true then hs_go (pc + 1) loc (.int (I k i.toNatClampNeg) :: r) (S, I, L, R) else none := (hs_stp_of hd (Or.inr rfl)).trans (by show hs_al scr j .int pc loc (.int i :: .ref k :: r) (S, I, L, R) = _; unfold hs_al; simp only [hk])
  split
  · rename_i hq
    exact hs_R_go (t := (pc + 1, loc, .int (I k i.toNatClampNeg) :: r, (S, I, L, R))) (e0.trans (if_pos ⟨rfl, hq⟩))
  · rename_i hq
    exact hs_R_none (e0.trans (if_neg fun q => hq q.2))
theorem r_bald {k n : Nat} {i : Int32} (hd : decode (hs_code j) pc = .ok (.baload, 1)) (hk : S[k]? = some (.inr (.byte, n))) : hs_R scr d j pc loc (.int i :: .ref k :: r) (S, I, L, R) = if hs_ib i n = true then hs_R scr d j (pc + 1) loc (.int (I k i.toNatClampNeg) :: r) (S, I, L, R) else none := by
  have e0 : hs_stp scr j pc loc (.int i :: .ref k :: r) (S, I, L, R) = if .byte = (.byte : FieldType) ∧ hs_ib i n = true then hs_go (pc + 1) loc (.int (I k i.toNatClampNeg) :: r) (S, I, L, R) else none := (hs_stp_of hd (Or.inr rfl)).trans (by show hs_al scr j .byte pc loc (.int i :: .ref k :: r) (S, I, L, R) = _; unfold hs_al; simp only [hk])
  split
  · rename_i hq
    exact hs_R_go (t := (pc + 1, loc, .int (I k i.toNatClampNeg) :: r, (S, I, L, R))) (e0.trans (if_pos ⟨rfl, hq⟩))
  · rename_i hq
    exact hs_R_none (e0.trans (if_neg fun q => hq q.2))
theorem r_lald {k n : Nat} {i : Int32} (hd : decode (hs_code j) pc = .ok (.laload, 1)) (hk : S[k]? = some (.inr (.long, n))) : hs_R scr d j pc loc (.int i :: .ref k :: r) (S, I, L, R) = if hs_ib i n = true then hs_R scr d j (pc + 1) loc (.long (L k i.toNatClampNeg) :: r) (S, I, L, R) else none := by
  have e0 : hs_stp scr j pc loc (.int i :: .ref k :: r) (S, I, L, R) = if .long = (.long : FieldType) ∧ hs_ib i n = true then hs_go (pc + 1) loc (.long (L k i.toNatClampNeg) :: r) (S, I, L, R) else none := (hs_stp_of hd (Or.inr rfl)).trans (by show hs_al scr j .long pc loc (.int i :: .ref k :: r) (S, I, L, R) = _; unfold hs_al; simp only [hk])
  split
  · rename_i hq
    exact hs_R_go (t := (pc + 1, loc, .long (L k i.toNatClampNeg) :: r, (S, I, L, R))) (e0.trans (if_pos ⟨rfl, hq⟩))
  · rename_i hq
    exact hs_R_none (e0.trans (if_neg fun q => hq q.2))
theorem r_iast {k n : Nat} {i : Int32} {x : Int32} (hd : decode (hs_code j) pc = .ok (.iastore, 1)) (hk : S[k]? = some (.inr (.int, n))) : hs_R scr d j pc loc (.int x :: .int i :: .ref k :: r) (S, I, L, R) = if hs_ib i n = true then hs_R scr d j (pc + 1) loc r (S, hs_u I k i.toNatClampNeg x, L, R) else none := by
  have e0 : hs_stp scr j pc loc (.int x :: .int i :: .ref k :: r) (S, I, L, R) = if hs_ib i n = true then hs_go (pc + 1) loc r (S, hs_u I k i.toNatClampNeg x, L, R) else none := (hs_stp_of hd (Or.inr rfl)).trans (by show hs_asi pc loc (.int x :: .int i :: .ref k :: r) (S, I, L, R) = _; unfold hs_asi; simp only [hk])
  split
  · rename_i hq
    exact hs_R_go (t := (pc + 1, loc, r, (S, hs_u I k i.toNatClampNeg x, L, R))) (e0.trans (if_pos hq))
  · rename_i hq
    exact hs_R_none (e0.trans (if_neg hq))
theorem r_bast {k n : Nat} {i : Int32} {x : Int32} (hd : decode (hs_code j) pc = .ok (.bastore, 1)) (hk : S[k]? = some (.inr (.byte, n))) : hs_R scr d j pc loc (.int x :: .int i :: .ref k :: r) (S, I, L, R) = if hs_ib i n = true then hs_R scr d j (pc + 1) loc r (S, hs_u I k i.toNatClampNeg (vp_nar .byte x), L, R) else none := by
  have e0 : hs_stp scr j pc loc (.int x :: .int i :: .ref k :: r) (S, I, L, R) = if hs_ib i n = true then hs_go (pc + 1) loc r (S, hs_u I k i.toNatClampNeg (vp_nar .byte x), L, R) else none := (hs_stp_of hd (Or.inr rfl)).trans (by show hs_asb pc loc (.int x :: .int i :: .ref k :: r) (S, I, L, R) = _; unfold hs_asb; simp only [hk])
  split
  · rename_i hq
    exact hs_R_go (t := (pc + 1, loc, r, (S, hs_u I k i.toNatClampNeg (vp_nar .byte x), L, R))) (e0.trans (if_pos hq))
  · rename_i hq
    exact hs_R_none (e0.trans (if_neg hq))
theorem r_last {k n : Nat} {i : Int32} {x : Int64} (hd : decode (hs_code j) pc = .ok (.lastore, 1)) (hk : S[k]? = some (.inr (.long, n))) : hs_R scr d j pc loc (.long x :: .int i :: .ref k :: r) (S, I, L, R) = if hs_ib i n = true then hs_R scr d j (pc + 1) loc r (S, I, hs_u L k i.toNatClampNeg x, R) else none := by
  have e0 : hs_stp scr j pc loc (.long x :: .int i :: .ref k :: r) (S, I, L, R) = if hs_ib i n = true then hs_go (pc + 1) loc r (S, I, hs_u L k i.toNatClampNeg x, R) else none := (hs_stp_of hd (Or.inr rfl)).trans (by show hs_asl pc loc (.long x :: .int i :: .ref k :: r) (S, I, L, R) = _; unfold hs_asl; simp only [hk])
  split
  · rename_i hq
    exact hs_R_go (t := (pc + 1, loc, r, (S, I, hs_u L k i.toNatClampNeg x, R))) (e0.trans (if_pos hq))
  · rename_i hq
    exact hs_R_none (e0.trans (if_neg hq))
theorem r_aald {k n : Nat} {i : Int32} {C : String} (hd : decode (hs_code j) pc = .ok (.aaload, 1)) (hk : S[k]? = some (.inr (.object C, n))) (hC : C = hs_cn 9 ∨ C = hs_cn 4 ∨ C = hs_cn 5) : hs_R scr d j pc loc (.int i :: .ref k :: r) (S, I, L, R) = if hs_ib i n = true ∧ 2 ≤ R k i.toNatClampNeg then hs_R scr d j (pc + 1) loc (.ref (R k i.toNatClampNeg) :: r) (S, I, L, R) else none := by
  have e0 : hs_stp scr j pc loc (.int i :: .ref k :: r) (S, I, L, R) = if (C = hs_cn 9 ∨ C = hs_cn 4 ∨ C = hs_cn 5) ∧ hs_ib i n = true ∧ 2 ≤ R k i.toNatClampNeg then hs_go (pc + 1) loc (.ref (R k i.toNatClampNeg) :: r) (S, I, L, R) else none := (hs_stp_of hd (Or.inr rfl)).trans (by show hs_aal pc loc (.int i :: .ref k :: r) (S, I, L, R) = _; unfold hs_aal; simp only [hk])
  split
  · rename_i hq
    exact hs_R_go (t := (pc + 1, loc, .ref (R k i.toNatClampNeg) :: r, (S, I, L, R))) (e0.trans (if_pos ⟨hC, hq⟩))
  · rename_i hq
    exact hs_R_none (e0.trans (if_neg fun q => hq q.2))
theorem r_len {k n : Nat} (hd : decode (hs_code j) pc = .ok (.arraylength, 1)) (hk : S[k]? = some (.inr (.int, n))) : hs_R scr d j pc loc (.ref k :: r) (S, I, L, R) = hs_R scr d j (pc + 1) loc (.int (Int32.ofNat n) :: r) (S, I, L, R) := hs_R_go (t := (pc + 1, loc, .int (Int32.ofNat n) :: r, (S, I, L, R))) ((hs_stp_of hd (Or.inr rfl)).trans (by show hs_len scr j pc loc (.ref k :: r) (S, I, L, R) = _; unfold hs_len; simp only [hk]))
theorem r_cv {idx jj b : Nat} {as : List Value} (hd : decode (hs_code j) pc = .ok (.invokevirtual idx, 3)) (hc : hs_cal (hs_own j) idx = some (0, jj)) (hk : h.1[b]? = some (.inl (hs_own jj))) (hn : as.length = hs_np jj) (hr : hs_rs r = true) (hf : hs_fitn jj (.ref b :: as) = true) : hs_R scr (d + 1) j pc loc (as.reverse ++ .ref b :: r) h = (hs_C scr d jj (.ref b :: as) h).bind fun o => hs_R scr (d + 1) j (pc + 3) loc (o.1.toList ++ r) o.2 := by
  refine hs_R_call (as := .ref b :: as) (r := r) (loc' := loc) ((hs_stp_of hd (Or.inr rfl)).trans ?_) hf
  show (hs_cal (hs_own j) idx).bind _ = _
  rw [hc]
  show hs_iv (0, jj) pc loc (as.reverse ++ .ref b :: r) h = _
  have e1 : (as.reverse ++ .ref b :: r).drop (hs_np jj) = .ref b :: r := by rw [← hn, ← List.length_reverse]; exact List.drop_left
  have e2 : (as.reverse ++ .ref b :: r).take (hs_np jj) = as.reverse := by rw [← hn, ← List.length_reverse]; exact List.take_left
  unfold hs_iv
  dsimp only
  rw [e1]
  dsimp only
  rw [if_pos ⟨hk, hr⟩, e2, List.reverse_reverse]
  rfl
theorem r_cs {idx jj : Nat} {as : List Value} (hd : decode (hs_code j) pc = .ok (.invokestatic idx, 3)) (hc : hs_cal (hs_own j) idx = some (1, jj)) (hn : as.length = hs_np jj) (hr : hs_rs r = true) (hf : hs_fitn jj as = true) : hs_R scr (d + 1) j pc loc (as.reverse ++ r) h = (hs_C scr d jj as h).bind fun o => hs_R scr (d + 1) j (pc + 3) loc (o.1.toList ++ r) o.2 := by
  refine hs_R_call (as := as) (r := r) (loc' := loc) ((hs_stp_of hd (Or.inr rfl)).trans ?_) hf
  show (hs_cal (hs_own j) idx).bind _ = _
  rw [hc]
  show hs_is (1, jj) pc loc (as.reverse ++ r) h = _
  have e1 : (as.reverse ++ r).drop (hs_np jj) = r := by rw [← hn, ← List.length_reverse]; exact List.drop_left
  have e2 : (as.reverse ++ r).take (hs_np jj) = as.reverse := by rw [← hn, ← List.length_reverse]; exact List.take_left
  unfold hs_is
  dsimp only
  rw [e1, e2, List.reverse_reverse, if_pos ⟨by rw [List.length_append, List.length_reverse, hn]; exact Nat.le_add_right _ _, hr⟩]
  rfl
theorem r_ci2 {idx jj b : Nat} {as : List Value} (hd : decode (hs_code j) pc = .ok (.invokespecial idx, 3)) (hc : hs_cal (hs_own j) idx = some (2, jj)) (hb : 2 ≤ b) (hn : as.length = hs_np jj) (hr : hs_rs r = true) (hf : hs_fitn jj (.ref b :: as) = true) : hs_R scr (d + 1) j pc loc (as.reverse ++ .ref b :: r) h = (hs_C scr d jj (.ref b :: as) h).bind fun o => hs_R scr (d + 1) j (pc + 3) loc (o.1.toList ++ r) o.2 := by
  refine hs_R_call (as := .ref b :: as) (r := r) (loc' := loc) ((hs_stp_of hd (Or.inr rfl)).trans ?_) hf
  show (hs_cal (hs_own j) idx).bind _ = _
  rw [hc]
  show hs_ip (2, jj) pc loc (as.reverse ++ .ref b :: r) h = _
  have e1 : (as.reverse ++ .ref b :: r).drop (hs_np jj) = .ref b :: r := by rw [← hn, ← List.length_reverse]; exact List.drop_left
  have e2 : (as.reverse ++ .ref b :: r).take (hs_np jj) = as.reverse := by rw [← hn, ← List.length_reverse]; exact List.take_left
  unfold hs_ip
  rw [e1]
  show (if hs_rs r = true ∧ 2 ≤ b then hs_ca jj (.ref b :: ((as.reverse ++ .ref b :: r).take (hs_np jj)).reverse) (pc + 3) loc r h else none) = _
  rw [if_pos ⟨hr, hb⟩, e2, List.reverse_reverse]
theorem r_ci3 {idx jj b : Nat} {as : List Value} (hd : decode (hs_code j) pc = .ok (.invokespecial idx, 3)) (hc : hs_cal (hs_own j) idx = some (3, jj)) (hb : 2 ≤ b) (hn : as.length = hs_np jj) (hr : hs_rs r = true) (hf : hs_fitn jj (.ref b :: as) = true) : hs_R scr (d + 1) j pc loc (as.reverse ++ .ref b :: r) h = (hs_C scr d jj (.ref b :: as) h).bind fun o => hs_R scr (d + 1) j (pc + 3) loc (o.1.toList ++ r) o.2 := by
  refine hs_R_call (as := .ref b :: as) (r := r) (loc' := loc) ((hs_stp_of hd (Or.inr rfl)).trans ?_) hf
  show (hs_cal (hs_own j) idx).bind _ = _
  rw [hc]
  show hs_ip (3, jj) pc loc (as.reverse ++ .ref b :: r) h = _
  have e1 : (as.reverse ++ .ref b :: r).drop (hs_np jj) = .ref b :: r := by rw [← hn, ← List.length_reverse]; exact List.drop_left
  have e2 : (as.reverse ++ .ref b :: r).take (hs_np jj) = as.reverse := by rw [← hn, ← List.length_reverse]; exact List.take_left
  unfold hs_ip
  rw [e1]
  show (if hs_rs r = true ∧ 2 ≤ b then hs_ca jj (.ref b :: ((as.reverse ++ .ref b :: r).take (hs_np jj)).reverse) (pc + 3) loc r h else none) = _
  rw [if_pos ⟨hr, hb⟩, e2, List.reverse_reverse]
theorem r_ob {idx x a : Nat} (hd : decode (hs_code j) pc = .ok (.invokespecial idx, 3)) (hc : hs_cal (hs_own j) idx = some (4, x)) (hr : hs_rs r = true) : hs_R scr d j pc loc (.ref a :: r) h = hs_R scr d j (pc + 3) loc r h := by
  refine hs_R_go (t := (pc + 3, loc, r, h)) ((hs_stp_of hd (Or.inr rfl)).trans ?_)
  show (hs_cal (hs_own j) idx).bind _ = _
  rw [hc]
  show hs_ip (4, x) pc loc (.ref a :: r) h = _
  have key : ∀ l : List Value, (match (4 : Nat), l with
  | 2, .ref b :: r0 => if hs_rs r0 = true ∧ 2 ≤ b then hs_ca x (.ref b :: (((.ref a : Value) :: r).take (hs_np x)).reverse) (pc + 3) loc r0 h else none
  | 3, .ref b :: r0 => if hs_rs r0 = true ∧ 2 ≤ b then hs_ca x (.ref b :: (((.ref a : Value) :: r).take (hs_np x)).reverse) (pc + 3) loc r0 h else none
  | 4, _ => (if hs_rs r = true then hs_go (pc + 3) loc r h else none)
  | _, _ => none) = hs_go (pc + 3) loc r h := by
    intro l
    cases l with
    | nil => exact if_pos hr
    | cons v l => cases v <;> exact if_pos hr
  exact key (((.ref a : Value) :: r).drop (hs_np x))
theorem r_max {idx q : Nat} {x y : Int32} (hd : decode (hs_code j) pc = .ok (.invokestatic idx, 3)) (hc : hs_cal (hs_own j) idx = some (6, q)) (hr : hs_rs r = true) : hs_R scr d j pc loc (.int y :: .int x :: r) h = hs_R scr d j (pc + 3) loc (.int (if x < y then y else x) :: r) h := hs_R_go (t := (pc + 3, loc, (.int (if x < y then y else x) :: r), h)) ((hs_stp_of hd (Or.inr rfl)).trans (by show (hs_cal (hs_own j) idx).bind _ = _; rw [hc]; exact if_pos hr))
theorem r_min {idx q : Nat} {x y : Int32} (hd : decode (hs_code j) pc = .ok (.invokestatic idx, 3)) (hc : hs_cal (hs_own j) idx = some (7, q)) (hr : hs_rs r = true) : hs_R scr d j pc loc (.int y :: .int x :: r) h = hs_R scr d j (pc + 3) loc (.int (if y < x then y else x) :: r) h := hs_R_go (t := (pc + 3, loc, (.int (if y < x then y else x) :: r), h)) ((hs_stp_of hd (Or.inr rfl)).trans (by show (hs_cal (hs_own j) idx).bind _ = _; rw [hc]; exact if_pos hr))
theorem r_abs {idx q : Nat} {x : Int32} (hd : decode (hs_code j) pc = .ok (.invokestatic idx, 3)) (hc : hs_cal (hs_own j) idx = some (8, q)) (hr : hs_rs r = true) : hs_R scr d j pc loc (.int x :: r) h = hs_R scr d j (pc + 3) loc (.int (if 0 ≤ x then x else 0 - x) :: r) h := hs_R_go (t := (pc + 3, loc, (.int (if 0 ≤ x then x else 0 - x) :: r), h)) ((hs_stp_of hd (Or.inr rfl)).trans (by show (hs_cal (hs_own j) idx).bind _ = _; rw [hc]; exact if_pos hr))
theorem r_absl {idx q : Nat} {x : Int64} (hd : decode (hs_code j) pc = .ok (.invokestatic idx, 3)) (hc : hs_cal (hs_own j) idx = some (9, q)) (hr : hs_rs r = true) : hs_R scr d j pc loc (.long x :: r) h = hs_R scr d j (pc + 3) loc (.long (if 0 < x then x else -x) :: r) h := hs_R_go (t := (pc + 3, loc, (.long (if 0 < x then x else -x) :: r), h)) ((hs_stp_of hd (Or.inr rfl)).trans (by show (hs_cal (hs_own j) idx).bind _ = _; rw [hc]; exact if_pos hr))
theorem r_ri {x : Int32} (hd : decode (hs_code j) pc = .ok (.ireturn, 1)) (ht : hs_ret j = some .int) : hs_R scr d j pc loc [.int x] h = some (some (.int x), h) := hs_R_ret ((hs_stp_of hd (Or.inr rfl)).trans (by show hs_ri j [.int x] h = _; unfold hs_ri; rw [ht]; rfl))
theorem r_rz {x : Int32} (hd : decode (hs_code j) pc = .ok (.ireturn, 1)) (ht : hs_ret j = some .boolean) : hs_R scr d j pc loc [.int x] h = if x = 0 ∨ x = 1 then some (some (.int x), h) else none := by
  have e0 : hs_stp scr j pc loc [.int x] h = if x = 0 ∨ x = 1 then hs_re (some (.int x)) h else none := (hs_stp_of hd (Or.inr rfl)).trans (by show hs_ri j [.int x] h = _; unfold hs_ri; rw [ht])
  split
  · rename_i hq
    exact hs_R_ret (e0.trans (if_pos hq))
  · rename_i hq
    exact hs_R_none (e0.trans (if_neg hq))
theorem r_rl {x : Int64} (hd : decode (hs_code j) pc = .ok (.lreturn, 1)) (ht : hs_ret j = some .long) : hs_R scr d j pc loc [.long x] h = some (some (.long x), h) := hs_R_ret ((hs_stp_of hd (Or.inr rfl)).trans (by show hs_rl j [.long x] h = _; unfold hs_rl; rw [ht]; rfl))
theorem r_rv (hd : decode (hs_code j) pc = .ok (.return_, 1)) (ht : hs_ret j = none) : hs_R scr d j pc loc [] h = some (none, h) := hs_R_ret ((hs_stp_of hd (Or.inr rfl)).trans (by show hs_rv j [] h = _; unfold hs_rv; rw [ht]; rfl))
theorem q_ite {α : Type} {c : Prop} {_ : Decidable c} {a a' b b' : α} (h1 : a = a') (h2 : b = b') : (if c then a else b) = (if c then a' else b') := by rw [h1, h2]
theorem r_getRe {idx ci f fin k v : Nat} (hd : decode (hs_code j) pc = .ok (.getfield idx, 3)) (hf : hs_fld (hs_own j) idx = some (ci, f, 3, fin)) (hk : S[k]? = some (.inl ci)) (he : R k f = v) (h2 : 2 ≤ v) : hs_R scr d j pc loc (.ref k :: r) (S, I, L, R) = hs_R scr d j (pc + 3) loc (.ref v :: r) (S, I, L, R) := by
  subst he
  exact r_getR hd hf hk h2
theorem r_ialdC {k n q : Nat} {i : Int32} (hd : decode (hs_code j) pc = .ok (.iaload, 1)) (hk : S[k]? = some (.inr (.int, n))) (hi : hs_ib i n = true) (hq : i.toNatClampNeg = q) : hs_R scr d j pc loc (.int i :: .ref k :: r) (S, I, L, R) = hs_R scr d j (pc + 1) loc (.int (I k q) :: r) (S, I, L, R) := by
  subst hq
  exact (r_iald hd hk).trans (if_pos hi)
theorem r_baldC {k n q : Nat} {i : Int32} (hd : decode (hs_code j) pc = .ok (.baload, 1)) (hk : S[k]? = some (.inr (.byte, n))) (hi : hs_ib i n = true) (hq : i.toNatClampNeg = q) : hs_R scr d j pc loc (.int i :: .ref k :: r) (S, I, L, R) = hs_R scr d j (pc + 1) loc (.int (I k q) :: r) (S, I, L, R) := by
  subst hq
  exact (r_bald hd hk).trans (if_pos hi)
theorem r_laldC {k n q : Nat} {i : Int32} (hd : decode (hs_code j) pc = .ok (.laload, 1)) (hk : S[k]? = some (.inr (.long, n))) (hi : hs_ib i n = true) (hq : i.toNatClampNeg = q) : hs_R scr d j pc loc (.int i :: .ref k :: r) (S, I, L, R) = hs_R scr d j (pc + 1) loc (.long (L k q) :: r) (S, I, L, R) := by
  subst hq
  exact (r_lald hd hk).trans (if_pos hi)
theorem r_iastC {k n q : Nat} {i : Int32} {x : Int32} (hd : decode (hs_code j) pc = .ok (.iastore, 1)) (hk : S[k]? = some (.inr (.int, n))) (hi : hs_ib i n = true) (hq : i.toNatClampNeg = q) : hs_R scr d j pc loc (.int x :: .int i :: .ref k :: r) (S, I, L, R) = hs_R scr d j (pc + 1) loc r (S, hs_u I k q x, L, R) := by
  subst hq
  exact (r_iast hd hk).trans (if_pos hi)
theorem r_bastC {k n q : Nat} {i : Int32} {x : Int32} (hd : decode (hs_code j) pc = .ok (.bastore, 1)) (hk : S[k]? = some (.inr (.byte, n))) (hi : hs_ib i n = true) (hq : i.toNatClampNeg = q) : hs_R scr d j pc loc (.int x :: .int i :: .ref k :: r) (S, I, L, R) = hs_R scr d j (pc + 1) loc r (S, hs_u I k q (vp_nar .byte x), L, R) := by
  subst hq
  exact (r_bast hd hk).trans (if_pos hi)
theorem r_lastC {k n q : Nat} {i : Int32} {x : Int64} (hd : decode (hs_code j) pc = .ok (.lastore, 1)) (hk : S[k]? = some (.inr (.long, n))) (hi : hs_ib i n = true) (hq : i.toNatClampNeg = q) : hs_R scr d j pc loc (.long x :: .int i :: .ref k :: r) (S, I, L, R) = hs_R scr d j (pc + 1) loc r (S, I, hs_u L k q x, R) := by
  subst hq
  exact (r_last hd hk).trans (if_pos hi)
theorem r_lenC {k n : Nat} {v : Int32} (hd : decode (hs_code j) pc = .ok (.arraylength, 1)) (hk : S[k]? = some (.inr (.int, n))) (hv : Int32.ofNat n = v) : hs_R scr d j pc loc (.ref k :: r) (S, I, L, R) = hs_R scr d j (pc + 1) loc (.int v :: r) (S, I, L, R) := by
  subst hv
  exact r_len hd hk
theorem r_cvE {idx jj b ci : Nat} {as : List Value} (hd : decode (hs_code j) pc = .ok (.invokevirtual idx, 3)) (hc : hs_cal (hs_own j) idx = some (0, jj)) (ho : hs_own jj = ci) (hk : h.1[b]? = some (.inl ci)) (hn : as.length = hs_np jj) (hr : hs_rs r = true) (hf : hs_fitn jj (.ref b :: as) = true) : hs_R scr (d + 1) j pc loc (as.reverse ++ .ref b :: r) h = (hs_C scr d jj (.ref b :: as) h).bind fun o => hs_R scr (d + 1) j (pc + 3) loc (o.1.toList ++ r) o.2 := r_cv hd hc (by rw [ho]; exact hk) hn hr hf
theorem hs_fitE {jj n : Nat} {as : List Value} (hm : hs_mL jj = n) (h : (as.flatMap fun v => if v.category = 2 then [some v, (none : Option Value)] else [some v]).length ≤ n) : hs_fitn jj as = true := by
  unfold hs_fitn
  rw [hm]
  exact decide_eq_true h
theorem r_acpI {idx q a c n0 n1 : Nat} {n dp sp : Int32} (hd : decode (hs_code j) pc = .ok (.invokestatic idx, 3)) (hc : hs_cal (hs_own j) idx = some (5, q)) (ha : S[a]? = some (.inr (.int, n0))) (hb : S[c]? = some (.inr (.int, n1))) (hr : hs_rs r = true) : hs_R scr d j pc loc (.int n :: .int dp :: .ref c :: .int sp :: .ref a :: r) (S, I, L, R) = if ¬ sp < 0 ∧ ¬ dp < 0 ∧ ¬ n < 0 ∧ sp.toNatClampNeg + n.toNatClampNeg ≤ n0 ∧ dp.toNatClampNeg + n.toNatClampNeg ≤ n1 then hs_R scr d j (pc + 3) loc r (S, hs_cpy I a c sp.toNatClampNeg dp.toNatClampNeg n.toNatClampNeg, L, R) else none := by
  have e0 : hs_stp scr j pc loc (.int n :: .int dp :: .ref c :: .int sp :: .ref a :: r) (S, I, L, R) = if hs_rs r = true ∧ ¬ sp < 0 ∧ ¬ dp < 0 ∧ ¬ n < 0 ∧ sp.toNatClampNeg + n.toNatClampNeg ≤ n0 ∧ dp.toNatClampNeg + n.toNatClampNeg ≤ n1 then hs_go (pc + 3) loc r (S, hs_cpy I a c sp.toNatClampNeg dp.toNatClampNeg n.toNatClampNeg, L, R) else none := (hs_stp_of hd (Or.inr rfl)).trans (by
    show (hs_cal (hs_own j) idx).bind _ = _
    rw [hc]
    show hs_acp pc loc (.int n :: .int dp :: .ref c :: .int sp :: .ref a :: r) (S, I, L, R) = _
    unfold hs_acp
    simp only [ha, hb])
  split
  · rename_i hq
    exact hs_R_go (t := (pc + 3, loc, r, (S, hs_cpy I a c sp.toNatClampNeg dp.toNatClampNeg n.toNatClampNeg, L, R))) (e0.trans (if_pos ⟨hr, hq⟩))
  · rename_i hq
    exact hs_R_none (e0.trans (if_neg fun q => hq q.2))
theorem r_acpL {idx q a c n0 n1 : Nat} {n dp sp : Int32} (hd : decode (hs_code j) pc = .ok (.invokestatic idx, 3)) (hc : hs_cal (hs_own j) idx = some (5, q)) (ha : S[a]? = some (.inr (.long, n0))) (hb : S[c]? = some (.inr (.long, n1))) (hr : hs_rs r = true) : hs_R scr d j pc loc (.int n :: .int dp :: .ref c :: .int sp :: .ref a :: r) (S, I, L, R) = if ¬ sp < 0 ∧ ¬ dp < 0 ∧ ¬ n < 0 ∧ sp.toNatClampNeg + n.toNatClampNeg ≤ n0 ∧ dp.toNatClampNeg + n.toNatClampNeg ≤ n1 then hs_R scr d j (pc + 3) loc r (S, I, hs_cpy L a c sp.toNatClampNeg dp.toNatClampNeg n.toNatClampNeg, R) else none := by
  have e0 : hs_stp scr j pc loc (.int n :: .int dp :: .ref c :: .int sp :: .ref a :: r) (S, I, L, R) = if hs_rs r = true ∧ ¬ sp < 0 ∧ ¬ dp < 0 ∧ ¬ n < 0 ∧ sp.toNatClampNeg + n.toNatClampNeg ≤ n0 ∧ dp.toNatClampNeg + n.toNatClampNeg ≤ n1 then hs_go (pc + 3) loc r (S, I, hs_cpy L a c sp.toNatClampNeg dp.toNatClampNeg n.toNatClampNeg, R) else none := (hs_stp_of hd (Or.inr rfl)).trans (by
    show (hs_cal (hs_own j) idx).bind _ = _
    rw [hc]
    show hs_acp pc loc (.int n :: .int dp :: .ref c :: .int sp :: .ref a :: r) (S, I, L, R) = _
    unfold hs_acp
    simp only [ha, hb])
  split
  · rename_i hq
    exact hs_R_go (t := (pc + 3, loc, r, (S, I, hs_cpy L a c sp.toNatClampNeg dp.toNatClampNeg n.toNatClampNeg, R))) (e0.trans (if_pos ⟨hr, hq⟩))
  · rename_i hq
    exact hs_R_none (e0.trans (if_neg fun q => hq q.2))
/-- where a table of places leads -/
def hs_swt (x : Int32) (lo hi : Int) (ts : List Nat) (df : Nat) : Nat := if x.toInt < lo ∨ hi < x.toInt then df else ts.getD (x.toInt - lo).toNat df
theorem r_tsw {x : Int32} {dd lo hi : Int} {offs : Array Int} {len df : Nat} {ts : List Nat} (hd : decode (hs_code j) pc = .ok (.tableswitch dd lo hi offs, len)) (hdf : hs_j pc dd = some df) (ho : offs.toList.map (hs_j pc) = ts.map some) (hn : (ts.length : Int) = hi - lo + 1) : hs_R scr d j pc loc (.int x :: r) h = hs_R scr d j (hs_swt x lo hi ts df) loc r h := by
  unfold hs_swt
  split
  · rename_i hq
    exact hs_R_go (t := (df, loc, r, h)) ((hs_stp_of hd (Or.inl rfl)).trans (by show (if x.toInt < lo ∨ hi < x.toInt then _ else _) = _; rw [if_pos hq, hdf]; rfl))
  · rename_i hq
    have hlt : (x.toInt - lo).toNat < ts.length := by omega
    have hlen : offs.toList.length = ts.length := by rw [← List.length_map (f := hs_j pc), ho, List.length_map]
    have h1 : (offs.toList.map (hs_j pc))[(x.toInt - lo).toNat]? = some (some (ts.getD (x.toInt - lo).toNat df)) := by rw [ho, List.getElem?_map, List.getD_eq_getElem?_getD, List.getElem?_eq_getElem hlt]; rfl
    rw [List.getElem?_map, List.getElem?_eq_getElem (by omega)] at h1
    have h2 : offs[(x.toInt - lo).toNat]? = some offs.toList[(x.toInt - lo).toNat] := by rw [← Array.getElem?_toList, List.getElem?_eq_getElem (by omega)]
    refine hs_R_go (t := (ts.getD (x.toInt - lo).toNat df, loc, r, h)) ((hs_stp_of hd (Or.inl rfl)).trans (by show (if x.toInt < lo ∨ hi < x.toInt then _ else (offs[(x.toInt - lo).toNat]?).bind _) = _; rw [if_neg hq, h2]; show (hs_j pc offs.toList[(x.toInt - lo).toNat]).bind _ = _; rw [Option.some.inj h1]; rfl))
end RR
