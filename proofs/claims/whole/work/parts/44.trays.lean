/-! trays -/
/-- a stretch of a row, written -/
def wr {α : Type} (m : Nat → Nat → α) (k lo n : Nat) (f : Nat → α) : Nat → Nat → α := fun a b => if a = k ∧ lo ≤ b ∧ b < lo + n then f (b - lo) else m a b
theorem wr_0 {α : Type} (m : Nat → Nat → α) (k lo : Nat) (f : Nat → α) : wr m k lo 0 f = m := by
  funext a b; unfold wr; rw [if_neg (by omega)]
theorem wr_s {α : Type} (m : Nat → Nat → α) (k lo n : Nat) (f : Nat → α) : hs_u (wr m k lo n f) k (lo + n) (f n) = wr m k lo (n + 1) f := by
  funext a b
  simp only [hs_u, wr]
  by_cases h1 : a = k ∧ b = lo + n
  · rw [if_pos h1, if_pos (by omega)]; congr 1; omega
  · rw [if_neg h1]
    by_cases h2 : a = k ∧ lo ≤ b ∧ b < lo + n
    · rw [if_pos h2, if_pos (by omega)]
    · rw [if_neg h2, if_neg (by omega)]
theorem wr_row {α : Type} (m : Nat → Nat → α) {k lo n a : Nat} (f : Nat → α) (h : a ≠ k) : wr m k lo n f a = m a := by
  funext b; unfold wr; rw [if_neg (by omega)]
theorem wr_in {α : Type} (m : Nat → Nat → α) {k lo n b : Nat} (f : Nat → α) (h : lo ≤ b ∧ b < lo + n) : wr m k lo n f k b = f (b - lo) := by
  unfold wr; rw [if_pos (by omega)]
theorem wr_out {α : Type} (m : Nat → Nat → α) {k lo n b : Nat} (f : Nat → α) (h : ¬ (lo ≤ b ∧ b < lo + n)) (a : Nat) : wr m k lo n f a b = m a b := by
  unfold wr; rw [if_neg (by omega)]
theorem Rc_tray {R : Nat → Nat → Nat} (h : Rc R) {k : Nat} (hk : k < 4) : R 3 k = 66 + 2 * k ∧ ok9 hs_S0 R (66 + 2 * k) := by
  rcases (show k = 0 ∨ k = 1 ∨ k = 2 ∨ k = 3 by omega) with rfl | rfl | rfl | rfl
  · exact ⟨q3_0 h, k9_66 h⟩
  · exact ⟨q3_1 h, k9_68 h⟩
  · exact ⟨q3_2 h, k9_70 h⟩
  · exact ⟨q3_3 h, k9_72 h⟩
theorem t2le (m : Nat) : (2 ≤ 66 + m) = True := eq_true (by omega)
theorem f60l {l : Nat} (h : l < 60) : (60 ≤ nI l) = False := eq_false (nI_ge (b := 60) h (by omega))
theorem out_k {α : Type} {x m : Int32} {n : Nat} {a b : α} (hx : x < 0 ∨ nI n ≤ x) (hm : m = nI n) : (if x < 0 then a else if m ≤ x then a else b) = a := by
  subst hm
  by_cases h0 : x < 0
  · exact if_pos h0
  · rw [if_neg h0, if_pos (hx.resolve_left h0)]
theorem out_l {α : Type} {x m : Int32} {n : Nat} {a b : α} (hx : x < 0 ∨ nI n ≤ x) (hm : m = nI n) : (if x < 0 then a else if x < m then b else a) = a := by
  subst hm; exact out_lt hx
theorem f4l {l : Nat} (h : l < 4) : (4 ≤ nI l) = False := eq_false (nI_ge (b := 4) h (by omega))
theorem t4l {l : Nat} (h : l < 4) : (nI l < 4) = True := eq_true (nI_lt (b := 4) h (by omega))
theorem ml60 (k : Nat) : (60 : Int32) * nI k = nI (60 * k) := pk_mul 60 k
theorem i30 : ((3 : Int32) = 0) = False := eq_false (by decide)
theorem i40 : ((4 : Int32) = 0) = False := eq_false (by decide)
theorem i3l0 : ((3 : Int32) ≤ 0) = False := eq_false (by decide)
theorem i4l0 : ((4 : Int32) ≤ 0) = False := eq_false (by decide)
theorem i1l0 : ((1 : Int32) ≤ 0) = False := eq_false (by decide)
theorem f0m1 : ((0 : Int32) ≤ -1) = False := eq_false (by decide)
theorem tm10 : ((-1 : Int32) < 0) = True := eq_true (by decide)
/-- a number cut to a sort -/
def cutv (s : Int32) (v : Int64) : Int64 := if s = 0 then Int32.toInt64 (Int8.toInt32 (Int32.toInt8 (Int64.toInt32 v))) else if s = 1 then Int32.toInt64 (Int16.toInt32 (Int32.toInt16 (Int64.toInt32 v))) else if s = 2 then Int32.toInt64 (Int64.toInt32 v) else v
section TR
variable {scr : List Int32} {d t rt st pt qt n np nr nl nb nq : Nat} {c : Nat → Int32} {I I' : Nat → Nat → Int32} {L L' : Nat → Nat → Int64} {R : Nat → Nat → Nat}
theorem Rel_t (h : RelA rt st pt qt n np nr nl nb nq I L R) (hT : Tr I' L') (hI : ∀ k, k ≠ 2 → k ≠ 140 → k ≠ 141 → k ≠ 142 → (k < 66 ∨ 74 ≤ k) → I' k = I k) (hL : ∀ k, k ≠ 143 → (k < 66 ∨ 74 ≤ k) → L' k = L k) (h2 : ∀ f, f ≠ 16 → I' 2 f = I 2 f) (h3 : ∀ f, f ≠ 0 → f ≠ 1 → I' 140 f = I 140 f) (hs : I' 2 16 = I' 140 0) : Rel I' L' R := by
  obtain ⟨a0, a1, a2, a3, a4, a5⟩ := h
  have he := a0.2.2.2.2.2
  refine ⟨rt, st, pt, qt, n, np, nr, nl, nb, nq, a0, RX_cg a1 (fun k hk => by rw [hI 145 (by omega) (by omega) (by omega) (by omega) (by omega)]) (fun k hk => by rw [hL 148 (by omega) (by omega)]) (fun o ho => hI _ (by omega) (by omega) (by omega) (by omega) (by omega)) (hL _ (by omega) (by omega)) (fun o ho => hI _ (by omega) (by omega) (by omega) (by omega) (by omega)), hT, Tx_cg a3 (by rw [hI 4 (by omega) (by omega) (by omega) (by omega) (by omega)]) (h3 _ (by omega) (by omega)) (hI _ (by omega) (by omega) (by omega) (by omega) (by omega)) (hI _ (by omega) (by omega) (by omega) (by omega) (by omega)) (by rw [hI 4 (by omega) (by omega) (by omega) (by omega) (by omega)]) (h3 _ (by omega) (by omega)) (by rw [hI 4 (by omega) (by omega) (by omega) (by omega) (by omega)]) (h3 _ (by omega) (by omega)) (hL _ (by omega) (by omega)), Ms_cg a4 hs (by rw [hL 2 (by omega) (by omega), hL 140 (by omega) (by omega)]; exact a4.2.1) (by rw [hL 2 (by omega) (by omega), hL 140 (by omega) (by omega)]; exact a4.2.2.1) (h2 _ (by omega)) (h3 _ (by omega) (by omega)) (hI _ (by omega) (by omega) (by omega) (by omega) (by omega)) (hI _ (by omega) (by omega) (by omega) (by omega) (by omega)), Mk_cg a5 (h2 _ (by omega)) (h3 _ (by omega) (by omega)) (fun k h1 h2 => hI _ (by omega) (by omega) (by omega) (by omega) (by omega)) (fun k h1 h2 => hL _ (by omega) (by omega)) (fun k h1 h2 => by rw [hI 145 (by omega) (by omega) (by omega) (by omega) (by omega)]) (fun k h1 h2 => by rw [hL 148 (by omega) (by omega)])⟩
theorem CK_stl (hA : RelA rt st pt qt n np nr nl nb nq I L R) {jx jm : Nat} {as : List Value} (v : Int64) (s : Int32) (hX : hs_C scr d jx (.ref 2 :: as) (hs_S0, I, L, R) = some (some (.long v), (hs_S0, hs_u I 2 16 s, L, R))) (hM : hs_C scr d jm (.ref 140 :: as) (hs_S0, hs_u I 2 16 s, L, R) = some (some (.long v), (hs_S0, hs_u (hs_u (hs_u I 2 16 s) 140 1 0) 140 0 s, L, R))) : ∃ (x : Int64) (I1 : Nat → Nat → Int32) (L1 : Nat → Nat → Int64) (R1 : Nat → Nat → Nat) (I2 : Nat → Nat → Int32) (L2 : Nat → Nat → Int64) (R2 : Nat → Nat → Nat), hs_C scr d jx (.ref 2 :: as) (hs_S0, I, L, R) = some (some (.long x), (hs_S0, I1, L1, R1)) ∧ ok11 hs_S0 R1 140 ∧ hs_C scr d jm (.ref 140 :: as) (hs_S0, I1, L1, R1) = some (some (.long x), (hs_S0, I2, L2, R2)) ∧ Rel I2 L2 R2 :=
  ⟨v, _, L, R, _, L, R, hX, k11_140 hA.1.1, hM, Rel_st hA (fun k h1 h2 => by simp (disch := omega) only [hu_row]) (fun f hf => by simp (disch := omega) only [hu_at]) (fun f h1 h2 => by simp (disch := omega) only [hu_at]) (by simp (disch := omega) only [hu_at, hu_same])⟩
theorem s17n {x : Int32} (hx : x < 0 ∨ nI 4 ≤ x) : hs_C scr d 17 [.int x] (hs_S0, I, L, R) = some (some (.int 0), (hs_S0, I, L, R)) := by
  rw [e17, b17_0, out_k (m := 4) hx rfl, b17_13, b17_14, if_pos (Or.inl rfl)]
theorem s17y {k : Nat} (hk : k < 4) : hs_C scr d 17 [.int (nI k)] (hs_S0, I, L, R) = some (some (.int 1), (hs_S0, I, L, R)) := by
  simp (disch := omega) only [Option.bind_some, Option.toList_some, Option.toList_none, List.append_nil, List.cons_append, List.nil_append, ↓reduceIte, true_or, or_true, Nat.reduceAdd, Nat.add_assoc, f_ge, t_le, t_lt, f_lt, f_l0, t_0l, t_pl, t_eq, f_eq, f_e0, i10, i01, ib_nI, nI_clamp, nI_add, ad10, ad18, ad26, ad34, ad42, ad47, ad52, ad59, ad107, ad117, ml8, mr8, ml5, ml10, hu_same, hu_row, hu_at, hu_hu, t2le, f60l, f4l, t4l, ml60, i30, i40, i3l0, i4l0, i1l0, f0m1, tm10, and_true, true_and, e17, b17_0, b17_13, b17_14]
theorem x19_loop {t : Nat} (o9 : ok9 hs_S0 R t) {y z : Int32} : ∀ m i, i + m = 60 → hs_R scr d 19 12 [some (.ref t), some (.int y), some (.int z), some (.int (nI i))] [] (hs_S0, I, fill L (t + 1) 0 i 0, R) = some (none, (hs_S0, I, fill L (t + 1) 0 60 0, R))
  | 0, i, h => by
    obtain rfl : i = 60 := by omega
    rw [b19_12 o9]; exact if_pos (by decide)
  | m + 1, i, h => by
    have hf := fill_s L (t + 1) 0 i (0 : Int64)
    rw [Nat.zero_add] at hf
    rw [b19_12 o9]
    simp (disch := omega) only [Option.bind_some, Option.toList_some, Option.toList_none, List.append_nil, List.cons_append, List.nil_append, ↓reduceIte, true_or, or_true, Nat.reduceAdd, Nat.add_assoc, f_ge, t_le, t_lt, f_lt, f_l0, t_0l, t_pl, t_eq, f_eq, f_e0, i10, i01, ib_nI, nI_clamp, nI_add, ad10, ad18, ad26, ad34, ad42, ad47, ad52, ad59, ad107, ad117, ml8, mr8, ml5, ml10, hu_same, hu_row, hu_at, hu_hu, t2le, f60l, f4l, t4l, ml60, i30, i40, i3l0, i4l0, i1l0, f0m1, tm10, and_true, true_and, nI_1, hf]
    exact x19_loop o9 m (i + 1) (by omega)
theorem x19 {t : Nat} (o9 : ok9 hs_S0 R t) {y z : Int32} : hs_C scr d 19 [.ref t, .int y, .int z] (hs_S0, I, L, R) = some (none, (hs_S0, hs_u (hs_u I t 1 y) t 2 z, fill L (t + 1) 0 60 0, R)) := by
  rw [e19, b19_0 o9]
  have := x19_loop (scr := scr) (d := d) (I := hs_u (hs_u I t 1 y) t 2 z) (L := L) o9 (y := y) (z := z) 60 0 rfl
  rw [fill_0] at this
  exact this
theorem m196_loop (o11 : ok11 hs_S0 R 140) {y : Int32} {k m : Nat} (hk : k < 4) (hm : m ≤ 60) : ∀ p i, i + p = m → hs_R scr d 196 74 [some (.ref 140), some (.int (nI k)), some (.int y), some (.int (nI m)), some (.int (nI i))] [] (hs_S0, I, fill L 143 (60 * k) i 0, R) = some (some (.int 1), (hs_S0, I, fill L 143 (60 * k) m 0, R))
  | 0, i, h => by
    obtain rfl : i = m := by omega
    rw [b196_74 o11]; exact if_pos (nI_le (Nat.le_refl _) (by omega))
  | p + 1, i, h => by
    have hf := fill_s L 143 (60 * k) i (0 : Int64)
    rw [b196_74 o11]
    simp (disch := omega) only [Option.bind_some, Option.toList_some, Option.toList_none, List.append_nil, List.cons_append, List.nil_append, ↓reduceIte, true_or, or_true, Nat.reduceAdd, Nat.add_assoc, f_ge, t_le, t_lt, f_lt, f_l0, t_0l, t_pl, t_eq, f_eq, f_e0, i10, i01, ib_nI, nI_clamp, nI_add, ad10, ad18, ad26, ad34, ad42, ad47, ad52, ad59, ad107, ad117, ml8, mr8, ml5, ml10, hu_same, hu_row, hu_at, hu_hu, t2le, f60l, f4l, t4l, ml60, i30, i40, i3l0, i4l0, i1l0, f0m1, tm10, and_true, true_and, nI_1, hf]
    exact m196_loop o11 hk hm p (i + 1) (by omega)
theorem ca3 : CA3 scr hs_S0 Rel 99 := by
  intro x y z I L R hP
  obtain ⟨rt, st, pt, qt, n, np, nr, nl, nb, nq, hA⟩ := hP; obtain ⟨hE, ⟨⟨hn8, hc0, hx0, hh⟩, ⟨hp5, hc1, hx1, hpp⟩, ⟨hr6, hc2, hx2, hrr, hru⟩, ⟨hl6, hc3, hx3, hll⟩, ⟨hb6, hq10, hc4, hx4, hc5, hx5, hqq⟩, hD, hN, hG⟩, hT, hTx, hM, hK⟩ := id hA; have o10 := k10_2 hE.1; have o11 := k11_140 hE.1; have o4 := Env_4 hE; have o1 : ok1 hs_S0 R (rt + 5) := o4.2.2.2.2.2.1; have r10_8 := hE.2.1; have hrt := hE.2.2.2.2.2.1; have hpt := hE.2.2.2.2.2.2
  rcases ix x (n := 4) (by omega) with hx | ⟨k, hk, rfl⟩
  · refine CK_st hA 0 1 ?_ ?_
    · simp (disch := omega) only [Option.bind_some, Option.toList_some, Option.toList_none, List.append_nil, List.cons_append, List.nil_append, ↓reduceIte, true_or, or_true, Nat.reduceAdd, Nat.add_assoc, f_ge, t_le, t_lt, f_lt, f_l0, t_0l, t_pl, t_eq, f_eq, f_e0, i10, i01, ib_nI, nI_clamp, nI_add, ad10, ad18, ad26, ad34, ad42, ad47, ad52, ad59, ad107, ad117, ml8, mr8, ml5, ml10, hu_same, hu_row, hu_at, hu_hu, e16, b16_0, b16_4 o10, b16_16 o10, b16_21, b16_33, b16_44, b16_56 o10, b16_60, e18, b18_0 o10, s17n hx]
    · simp (disch := first | omega | (simp (disch := omega) only [hu_same, hu_row, hu_at, hu_hu, hc0, hc1, hc2, hc3, hc4, hc5]; done)) only [Option.bind_some, Option.toList_some, Option.toList_none, List.append_nil, List.cons_append, List.nil_append, ↓reduceIte, true_or, or_true, Nat.reduceAdd, Nat.add_assoc, f_ge, t_le, t_lt, f_lt, f_l0, t_0l, t_pl, t_eq, f_eq, f_e0, i10, i01, ib_nI, nI_clamp, nI_add, ad10, ad18, ad26, ad34, ad42, ad47, ad52, ad59, ad107, ad117, ml8, mr8, ml5, ml10, hu_same, hu_row, hu_at, hu_hu, e196, b196_0 o11, b196_28 o11, b196_33, b196_45, b196_56, e197, b197_0 o11, out_k (m := 4) hx rfl]
  · obtain ⟨r3, o9⟩ := Rc_tray hE.1 hk
    rcases rg y 0 3 with hy | ⟨hy1, hy2, -⟩
    · refine CK_st hA 0 1 ?_ ?_
      · simp (disch := omega) only [Option.bind_some, Option.toList_some, Option.toList_none, List.append_nil, List.cons_append, List.nil_append, ↓reduceIte, true_or, or_true, Nat.reduceAdd, Nat.add_assoc, f_ge, t_le, t_lt, f_lt, f_l0, t_0l, t_pl, t_eq, f_eq, f_e0, i10, i01, ib_nI, nI_clamp, nI_add, ad10, ad18, ad26, ad34, ad42, ad47, ad52, ad59, ad107, ad117, ml8, mr8, ml5, ml10, hu_same, hu_row, hu_at, hu_hu, t2le, f60l, f4l, t4l, ml60, i30, i40, i3l0, i4l0, i1l0, f0m1, tm10, and_true, true_and, e16, b16_0, b16_4 o10, b16_16 o10, b16_21, b16_33, b16_44, b16_51 o9, b16_56 o10, b16_60, e18, b18_0 o10, s17y hk, out_g hy]
      · simp (disch := first | omega | (simp (disch := omega) only [hu_same, hu_row, hu_at, hu_hu, hc0, hc1, hc2, hc3, hc4, hc5]; done)) only [Option.bind_some, Option.toList_some, Option.toList_none, List.append_nil, List.cons_append, List.nil_append, ↓reduceIte, true_or, or_true, Nat.reduceAdd, Nat.add_assoc, f_ge, t_le, t_lt, f_lt, f_l0, t_0l, t_pl, t_eq, f_eq, f_e0, i10, i01, ib_nI, nI_clamp, nI_add, ad10, ad18, ad26, ad34, ad42, ad47, ad52, ad59, ad107, ad117, ml8, mr8, ml5, ml10, hu_same, hu_row, hu_at, hu_hu, t2le, f60l, f4l, t4l, ml60, i30, i40, i3l0, i4l0, i1l0, f0m1, tm10, and_true, true_and, e196, b196_0 o11, b196_28 o11, b196_33, b196_45, b196_56, e197, b197_0 o11, out_g hy]
    · by_cases h60 : z ≤ 60
      · by_cases h0 : 0 ≤ z
        · obtain ⟨m, hm, rfl⟩ := rg_nat (lo := 0) 60 rfl (by decide) ((i32_nlt _ _).mpr h0) h60
          have hl := fun (J : Nat → Nat → Int32) (K : Nat → Nat → Int64) => m196_loop (scr := scr) (d := 99) (I := J) (L := K) o11 (y := y) hk hm m 0 (by omega)
          simp only [fill_0, nI_0] at hl
          refine ⟨1, hs_u (hs_u (hs_u I (66 + 2 * k) 1 y) (66 + 2 * k) 2 (nI m)) 2 16 0, fill L (66 + 2 * k + 1) 0 60 0, R, hs_u (hs_u (hs_u (hs_u (hs_u (hs_u (hs_u I (66 + 2 * k) 1 y) (66 + 2 * k) 2 (nI m)) 2 16 0) 140 1 0) 140 0 0) 141 k y) 142 k (nI m), fill (fill L (66 + 2 * k + 1) 0 60 0) 143 (60 * k) m 0, R, ?_, o11, ?_, ?_⟩
          · simp (disch := omega) only [Option.bind_some, Option.toList_some, Option.toList_none, List.append_nil, List.cons_append, List.nil_append, ↓reduceIte, true_or, or_true, Nat.reduceAdd, Nat.add_assoc, f_ge, t_le, t_lt, f_lt, f_l0, t_0l, t_pl, t_eq, f_eq, f_e0, i10, i01, ib_nI, nI_clamp, nI_add, ad10, ad18, ad26, ad34, ad42, ad47, ad52, ad59, ad107, ad117, ml8, mr8, ml5, ml10, hu_same, hu_row, hu_at, hu_hu, t2le, f60l, f4l, t4l, ml60, i30, i40, i3l0, i4l0, i1l0, f0m1, tm10, and_true, true_and, e16, b16_0, b16_4 o10, b16_16 o10, b16_21, b16_33, b16_44, b16_51 o9, b16_56 o10, b16_60, e20, b20_0 o10, s17y hk, hy1, hy2, h60, h0, r3, x19 o9]
          · simp (disch := first | omega | (simp (disch := omega) only [hu_same, hu_row, hu_at, hu_hu, hc0, hc1, hc2, hc3, hc4, hc5]; done)) only [Option.bind_some, Option.toList_some, Option.toList_none, List.append_nil, List.cons_append, List.nil_append, ↓reduceIte, true_or, or_true, Nat.reduceAdd, Nat.add_assoc, f_ge, t_le, t_lt, f_lt, f_l0, t_0l, t_pl, t_eq, f_eq, f_e0, i10, i01, ib_nI, nI_clamp, nI_add, ad10, ad18, ad26, ad34, ad42, ad47, ad52, ad59, ad107, ad117, ml8, mr8, ml5, ml10, hu_same, hu_row, hu_at, hu_hu, t2le, f60l, f4l, t4l, ml60, i30, i40, i3l0, i4l0, i1l0, f0m1, tm10, and_true, true_and, e196, b196_0 o11, b196_28 o11, b196_33, b196_45, b196_56, e197, b197_0 o11, hy1, hy2, h60, h0, hl]
          · refine Rel_t hA ?_ (fun k h1 h2 h3 h4 h5 => by simp (disch := omega) only [hu_same, hu_row, hu_at, hu_hu]) (fun k h1 h2 => by simp (disch := omega) only [fill_row]) (fun f hf => by simp (disch := omega) only [hu_same, hu_row, hu_at, hu_hu]) (fun f h1 h2 => by simp (disch := omega) only [hu_same, hu_row, hu_at, hu_hu]) (by simp (disch := omega) only [hu_same, hu_row, hu_at, hu_hu])
            intro j hj
            have h1 := hT j hj
            by_cases hjk : j = k
            · subst hjk
              simp (disch := omega) only [hu_same, hu_row, hu_at, hu_hu]
              refine ⟨trivial, rg_nat 3 rfl (by decide) hy1 hy2, trivial, Or.inr ⟨m, hm, rfl, fun q hq => ?_⟩⟩
              rw [fill_row _ _ (show 67 + 2 * j ≠ 143 by omega), show 67 + 2 * j = 66 + 2 * j + 1 by omega, fill_in _ _ (by omega) (by omega), fill_in _ _ (by omega) (by omega)]
            · simp (disch := omega) only [hu_same, hu_row, hu_at, hu_hu]
              refine ⟨h1.1, h1.2.1, h1.2.2.1, h1.2.2.2.elim Or.inl fun ⟨m', g1, g2, g3⟩ => Or.inr ⟨m', g1, g2, fun q hq => ?_⟩⟩
              rw [fill_row _ _ (show 67 + 2 * j ≠ 143 by omega), fill_row _ _ (show 67 + 2 * j ≠ 66 + 2 * k + 1 by omega), fill_out _ _ (by omega), fill_row _ _ (by omega)]
              exact g3 q hq
        · refine CK_st hA 0 6 ?_ ?_
          · simp (disch := omega) only [Option.bind_some, Option.toList_some, Option.toList_none, List.append_nil, List.cons_append, List.nil_append, ↓reduceIte, true_or, or_true, Nat.reduceAdd, Nat.add_assoc, f_ge, t_le, t_lt, f_lt, f_l0, t_0l, t_pl, t_eq, f_eq, f_e0, i10, i01, ib_nI, nI_clamp, nI_add, ad10, ad18, ad26, ad34, ad42, ad47, ad52, ad59, ad107, ad117, ml8, mr8, ml5, ml10, hu_same, hu_row, hu_at, hu_hu, t2le, f60l, f4l, t4l, ml60, i30, i40, i3l0, i4l0, i1l0, f0m1, tm10, and_true, true_and, e16, b16_0, b16_4 o10, b16_16 o10, b16_21, b16_33, b16_44, b16_51 o9, b16_56 o10, b16_60, e18, b18_0 o10, s17y hk, hy1, hy2, h60, h0]
          · simp (disch := first | omega | (simp (disch := omega) only [hu_same, hu_row, hu_at, hu_hu, hc0, hc1, hc2, hc3, hc4, hc5]; done)) only [Option.bind_some, Option.toList_some, Option.toList_none, List.append_nil, List.cons_append, List.nil_append, ↓reduceIte, true_or, or_true, Nat.reduceAdd, Nat.add_assoc, f_ge, t_le, t_lt, f_lt, f_l0, t_0l, t_pl, t_eq, f_eq, f_e0, i10, i01, ib_nI, nI_clamp, nI_add, ad10, ad18, ad26, ad34, ad42, ad47, ad52, ad59, ad107, ad117, ml8, mr8, ml5, ml10, hu_same, hu_row, hu_at, hu_hu, t2le, f60l, f4l, t4l, ml60, i30, i40, i3l0, i4l0, i1l0, f0m1, tm10, and_true, true_and, e196, b196_0 o11, b196_28 o11, b196_33, b196_45, b196_56, e197, b197_0 o11, hy1, hy2, h60, h0]
      · refine CK_st hA 0 5 ?_ ?_
        · simp (disch := omega) only [Option.bind_some, Option.toList_some, Option.toList_none, List.append_nil, List.cons_append, List.nil_append, ↓reduceIte, true_or, or_true, Nat.reduceAdd, Nat.add_assoc, f_ge, t_le, t_lt, f_lt, f_l0, t_0l, t_pl, t_eq, f_eq, f_e0, i10, i01, ib_nI, nI_clamp, nI_add, ad10, ad18, ad26, ad34, ad42, ad47, ad52, ad59, ad107, ad117, ml8, mr8, ml5, ml10, hu_same, hu_row, hu_at, hu_hu, t2le, f60l, f4l, t4l, ml60, i30, i40, i3l0, i4l0, i1l0, f0m1, tm10, and_true, true_and, e16, b16_0, b16_4 o10, b16_16 o10, b16_21, b16_33, b16_44, b16_51 o9, b16_56 o10, b16_60, e18, b18_0 o10, s17y hk, hy1, hy2, h60]
        · simp (disch := first | omega | (simp (disch := omega) only [hu_same, hu_row, hu_at, hu_hu, hc0, hc1, hc2, hc3, hc4, hc5]; done)) only [Option.bind_some, Option.toList_some, Option.toList_none, List.append_nil, List.cons_append, List.nil_append, ↓reduceIte, true_or, or_true, Nat.reduceAdd, Nat.add_assoc, f_ge, t_le, t_lt, f_lt, f_l0, t_0l, t_pl, t_eq, f_eq, f_e0, i10, i01, ib_nI, nI_clamp, nI_add, ad10, ad18, ad26, ad34, ad42, ad47, ad52, ad59, ad107, ad117, ml8, mr8, ml5, ml10, hu_same, hu_row, hu_at, hu_hu, t2le, f60l, f4l, t4l, ml60, i30, i40, i3l0, i4l0, i1l0, f0m1, tm10, and_true, true_and, e196, b196_0 o11, b196_28 o11, b196_33, b196_45, b196_56, e197, b197_0 o11, hy1, hy2, h60]
/-- a place in a tray: what both ask first -/
theorem s22a {x y : Int32} (hx : x < 0 ∨ nI 4 ≤ x) (o10 : ok10 hs_S0 R 2) : hs_C scr (d + 1) 22 [.ref 2, .int x, .int y] (hs_S0, I, L, R) = some (some (.int 1), (hs_S0, I, L, R)) := by
  simp (disch := omega) only [Option.bind_some, Option.toList_some, Option.toList_none, List.append_nil, List.cons_append, List.nil_append, ↓reduceIte, true_or, or_true, Nat.reduceAdd, Nat.add_assoc, f_ge, t_le, t_lt, f_lt, f_l0, t_0l, t_pl, t_eq, f_eq, f_e0, i10, i01, ib_nI, nI_clamp, nI_add, ad10, ad18, ad26, ad34, ad42, ad47, ad52, ad59, ad107, ad117, ml8, mr8, ml5, ml10, hu_same, hu_row, hu_at, hu_hu, e22, b22_0, b22_4 o10, b22_18 o10, b22_33, b22_41, s17n hx]
theorem m199a {x y : Int32} (hx : x < 0 ∨ nI 4 ≤ x) (o11 : ok11 hs_S0 R 140) : hs_C scr (d + 1) 199 [.ref 140, .int x, .int y] (hs_S0, I, L, R) = some (some (.int 1), (hs_S0, I, L, R)) := by
  simp (disch := omega) only [Option.bind_some, Option.toList_some, Option.toList_none, List.append_nil, List.cons_append, List.nil_append, ↓reduceIte, true_or, or_true, Nat.reduceAdd, Nat.add_assoc, f_ge, t_le, t_lt, f_lt, f_l0, t_0l, t_pl, t_eq, f_eq, f_e0, i10, i01, ib_nI, nI_clamp, nI_add, ad10, ad18, ad26, ad34, ad42, ad47, ad52, ad59, ad107, ad117, ml8, mr8, ml5, ml10, hu_same, hu_row, hu_at, hu_hu, t2le, f60l, f4l, t4l, ml60, i30, i40, i3l0, i4l0, i1l0, f0m1, tm10, and_true, true_and, e199, b199_0 o11, b199_5 o11, b199_28, b199_33, e200, b200_0 o11, b200_9, b200_27, out_l (m := 4) hx rfl]
theorem s22b {y : Int32} {k : Nat} (hk : k < 4) (o10 : ok10 hs_S0 R 2) (r3 : R 3 k = 66 + 2 * k) (o9 : ok9 hs_S0 R (66 + 2 * k)) (h : I (66 + 2 * k) 2 = -1) : hs_C scr (d + 1) 22 [.ref 2, .int (nI k), .int y] (hs_S0, I, L, R) = some (some (.int 3), (hs_S0, I, L, R)) := by
  simp (disch := omega) only [Option.bind_some, Option.toList_some, Option.toList_none, List.append_nil, List.cons_append, List.nil_append, ↓reduceIte, true_or, or_true, Nat.reduceAdd, Nat.add_assoc, f_ge, t_le, t_lt, f_lt, f_l0, t_0l, t_pl, t_eq, f_eq, f_e0, i10, i01, ib_nI, nI_clamp, nI_add, ad10, ad18, ad26, ad34, ad42, ad47, ad52, ad59, ad107, ad117, ml8, mr8, ml5, ml10, hu_same, hu_row, hu_at, hu_hu, t2le, f60l, f4l, t4l, ml60, i30, i40, i3l0, i4l0, i1l0, f0m1, tm10, and_true, true_and, e22, b22_0, b22_4 o10, b22_15 o9, b22_18 o10, b22_29 o9, b22_33, b22_41, e23, b23_0 o9, b23_12, s17y hk, r3, h]
theorem m199b {y : Int32} {k : Nat} (hk : k < 4) (o11 : ok11 hs_S0 R 140) (h : I 142 k = -1) : hs_C scr (d + 1) 199 [.ref 140, .int (nI k), .int y] (hs_S0, I, L, R) = some (some (.int 3), (hs_S0, I, L, R)) := by
  simp (disch := omega) only [Option.bind_some, Option.toList_some, Option.toList_none, List.append_nil, List.cons_append, List.nil_append, ↓reduceIte, true_or, or_true, Nat.reduceAdd, Nat.add_assoc, f_ge, t_le, t_lt, f_lt, f_l0, t_0l, t_pl, t_eq, f_eq, f_e0, i10, i01, ib_nI, nI_clamp, nI_add, ad10, ad18, ad26, ad34, ad42, ad47, ad52, ad59, ad107, ad117, ml8, mr8, ml5, ml10, hu_same, hu_row, hu_at, hu_hu, t2le, f60l, f4l, t4l, ml60, i30, i40, i3l0, i4l0, i1l0, f0m1, tm10, and_true, true_and, e199, b199_0 o11, b199_5 o11, b199_28, b199_33, e200, b200_0 o11, b200_9, b200_27, h]
theorem s22c {y : Int32} {k m : Nat} (hk : k < 4) (o10 : ok10 hs_S0 R 2) (r3 : R 3 k = 66 + 2 * k) (o9 : ok9 hs_S0 R (66 + 2 * k)) (h : I (66 + 2 * k) 2 = nI m) (hm : m ≤ 60) (hy : y < 0 ∨ nI m ≤ y) : hs_C scr (d + 1) 22 [.ref 2, .int (nI k), .int y] (hs_S0, I, L, R) = some (some (.int 4), (hs_S0, I, L, R)) := by
  simp (disch := omega) only [Option.bind_some, Option.toList_some, Option.toList_none, List.append_nil, List.cons_append, List.nil_append, ↓reduceIte, true_or, or_true, Nat.reduceAdd, Nat.add_assoc, f_ge, t_le, t_lt, f_lt, f_l0, t_0l, t_pl, t_eq, f_eq, f_e0, i10, i01, ib_nI, nI_clamp, nI_add, ad10, ad18, ad26, ad34, ad42, ad47, ad52, ad59, ad107, ad117, ml8, mr8, ml5, ml10, hu_same, hu_row, hu_at, hu_hu, t2le, f60l, f4l, t4l, ml60, i30, i40, i3l0, i4l0, i1l0, f0m1, tm10, and_true, true_and, e22, b22_0, b22_4 o10, b22_15 o9, b22_18 o10, b22_29 o9, b22_33, b22_41, e23, b23_0 o9, b23_12, e24, b24_0 o9, b24_16, b24_17, s17y hk, r3, h, out_k (m := nI m) hy rfl]
theorem m199c {y : Int32} {k m : Nat} (hk : k < 4) (o11 : ok11 hs_S0 R 140) (h : I 142 k = nI m) (hm : m ≤ 60) (hy : y < 0 ∨ nI m ≤ y) : hs_C scr (d + 1) 199 [.ref 140, .int (nI k), .int y] (hs_S0, I, L, R) = some (some (.int 4), (hs_S0, I, L, R)) := by
  simp (disch := omega) only [Option.bind_some, Option.toList_some, Option.toList_none, List.append_nil, List.cons_append, List.nil_append, ↓reduceIte, true_or, or_true, Nat.reduceAdd, Nat.add_assoc, f_ge, t_le, t_lt, f_lt, f_l0, t_0l, t_pl, t_eq, f_eq, f_e0, i10, i01, ib_nI, nI_clamp, nI_add, ad10, ad18, ad26, ad34, ad42, ad47, ad52, ad59, ad107, ad117, ml8, mr8, ml5, ml10, hu_same, hu_row, hu_at, hu_hu, t2le, f60l, f4l, t4l, ml60, i30, i40, i3l0, i4l0, i1l0, f0m1, tm10, and_true, true_and, i00, e199, b199_0 o11, b199_5 o11, b199_28, b199_33, e200, b200_0 o11, b200_9, b200_27, h, out_l (m := nI m) hy rfl]
theorem s22d {k m j : Nat} (hk : k < 4) (o10 : ok10 hs_S0 R 2) (r3 : R 3 k = 66 + 2 * k) (o9 : ok9 hs_S0 R (66 + 2 * k)) (h : I (66 + 2 * k) 2 = nI m) (hm : m ≤ 60) (hj : j < m) : hs_C scr (d + 1) 22 [.ref 2, .int (nI k), .int (nI j)] (hs_S0, I, L, R) = some (some (.int 0), (hs_S0, I, L, R)) := by
  simp (disch := omega) only [Option.bind_some, Option.toList_some, Option.toList_none, List.append_nil, List.cons_append, List.nil_append, ↓reduceIte, true_or, or_true, Nat.reduceAdd, Nat.add_assoc, f_ge, t_le, t_lt, f_lt, f_l0, t_0l, t_pl, t_eq, f_eq, f_e0, i10, i01, ib_nI, nI_clamp, nI_add, ad10, ad18, ad26, ad34, ad42, ad47, ad52, ad59, ad107, ad117, ml8, mr8, ml5, ml10, hu_same, hu_row, hu_at, hu_hu, t2le, f60l, f4l, t4l, ml60, i30, i40, i3l0, i4l0, i1l0, f0m1, tm10, and_true, true_and, e22, b22_0, b22_4 o10, b22_15 o9, b22_18 o10, b22_29 o9, b22_33, b22_41, e23, b23_0 o9, b23_12, e24, b24_0 o9, b24_16, b24_17, s17y hk, r3, h]
theorem m199d {k m j : Nat} (hk : k < 4) (o11 : ok11 hs_S0 R 140) (h : I 142 k = nI m) (hm : m ≤ 60) (hj : j < m) : hs_C scr (d + 1) 199 [.ref 140, .int (nI k), .int (nI j)] (hs_S0, I, L, R) = some (some (.int 0), (hs_S0, I, L, R)) := by
  simp (disch := omega) only [Option.bind_some, Option.toList_some, Option.toList_none, List.append_nil, List.cons_append, List.nil_append, ↓reduceIte, true_or, or_true, Nat.reduceAdd, Nat.add_assoc, f_ge, t_le, t_lt, f_lt, f_l0, t_0l, t_pl, t_eq, f_eq, f_e0, i10, i01, ib_nI, nI_clamp, nI_add, ad10, ad18, ad26, ad34, ad42, ad47, ad52, ad59, ad107, ad117, ml8, mr8, ml5, ml10, hu_same, hu_row, hu_at, hu_hu, t2le, f60l, f4l, t4l, ml60, i30, i40, i3l0, i4l0, i1l0, f0m1, tm10, and_true, true_and, i00, e199, b199_0 o11, b199_5 o11, b199_28, b199_33, e200, b200_0 o11, b200_9, b200_27, h]
theorem x26 {s : Nat} {v : Int64} (o9 : ok9 hs_S0 R t) (hs : s ≤ 3) (h : I t 1 = nI s) : hs_C scr d 26 [.ref t, .long v] (hs_S0, I, L, R) = some (some (.long (cutv (nI s) v)), (hs_S0, I, L, R)) := by
  rcases (show s = 0 ∨ s = 1 ∨ s = 2 ∨ s = 3 by omega) with rfl | rfl | rfl | rfl
  · simp (disch := omega) only [Option.bind_some, Option.toList_some, Option.toList_none, List.append_nil, List.cons_append, List.nil_append, ↓reduceIte, true_or, or_true, Nat.reduceAdd, Nat.add_assoc, f_ge, t_le, t_lt, f_lt, f_l0, t_0l, t_pl, t_eq, f_eq, f_e0, i10, i01, ib_nI, nI_clamp, nI_add, ad10, ad18, ad26, ad34, ad42, ad47, ad52, ad59, ad107, ad117, ml8, mr8, ml5, ml10, hu_same, hu_row, hu_at, hu_hu, e26, b26_0 o9, b26_32, b26_37, b26_42, b26_46, h, show hs_swt (nI 0) 0 2 [32, 37, 42] 46 = 32 by decide]; rfl
  · simp (disch := omega) only [Option.bind_some, Option.toList_some, Option.toList_none, List.append_nil, List.cons_append, List.nil_append, ↓reduceIte, true_or, or_true, Nat.reduceAdd, Nat.add_assoc, f_ge, t_le, t_lt, f_lt, f_l0, t_0l, t_pl, t_eq, f_eq, f_e0, i10, i01, ib_nI, nI_clamp, nI_add, ad10, ad18, ad26, ad34, ad42, ad47, ad52, ad59, ad107, ad117, ml8, mr8, ml5, ml10, hu_same, hu_row, hu_at, hu_hu, e26, b26_0 o9, b26_32, b26_37, b26_42, b26_46, h, show hs_swt (nI 1) 0 2 [32, 37, 42] 46 = 37 by decide]; rfl
  · simp (disch := omega) only [Option.bind_some, Option.toList_some, Option.toList_none, List.append_nil, List.cons_append, List.nil_append, ↓reduceIte, true_or, or_true, Nat.reduceAdd, Nat.add_assoc, f_ge, t_le, t_lt, f_lt, f_l0, t_0l, t_pl, t_eq, f_eq, f_e0, i10, i01, ib_nI, nI_clamp, nI_add, ad10, ad18, ad26, ad34, ad42, ad47, ad52, ad59, ad107, ad117, ml8, mr8, ml5, ml10, hu_same, hu_row, hu_at, hu_hu, e26, b26_0 o9, b26_32, b26_37, b26_42, b26_46, h, show hs_swt (nI 2) 0 2 [32, 37, 42] 46 = 42 by decide]; rfl
  · simp (disch := omega) only [Option.bind_some, Option.toList_some, Option.toList_none, List.append_nil, List.cons_append, List.nil_append, ↓reduceIte, true_or, or_true, Nat.reduceAdd, Nat.add_assoc, f_ge, t_le, t_lt, f_lt, f_l0, t_0l, t_pl, t_eq, f_eq, f_e0, i10, i01, ib_nI, nI_clamp, nI_add, ad10, ad18, ad26, ad34, ad42, ad47, ad52, ad59, ad107, ad117, ml8, mr8, ml5, ml10, hu_same, hu_row, hu_at, hu_hu, e26, b26_0 o9, b26_32, b26_37, b26_42, b26_46, h, show hs_swt (nI 3) 0 2 [32, 37, 42] 46 = 46 by decide]; rfl
theorem m201 {s : Int32} {v : Int64} : hs_C scr d 201 [.int s, .long v] (hs_S0, I, L, R) = some (some (.long (cutv s v)), (hs_S0, I, L, R)) := by
  rw [e201, b201_0]
  unfold cutv
  by_cases h0 : s = 0
  · rw [if_pos h0, if_pos h0, b201_35]
  · rw [if_neg h0, if_neg h0]
    by_cases h1 : s = 1
    · rw [if_pos h1, if_pos h1, b201_35]
    · rw [if_neg h1, if_neg h1]
      by_cases h2 : s = 2
      · rw [if_pos h2, if_pos h2, b201_35]
      · rw [if_neg h2, if_neg h2, b201_35]
theorem x25 {s m j : Nat} {v : Int64} (o9 : ok9 hs_S0 R t) (hs : s ≤ 3) (h : I t 1 = nI s) (h2 : I t 2 = nI m) (hm : m ≤ 60) (hj : j < m) : hs_C scr (d + 1) 25 [.ref t, .int (nI j), .long v] (hs_S0, I, L, R) = some (none, (hs_S0, I, hs_u L (t + 1) j (cutv (nI s) v), R)) := by
  simp (disch := omega) only [Option.bind_some, Option.toList_some, Option.toList_none, List.append_nil, List.cons_append, List.nil_append, ↓reduceIte, true_or, or_true, Nat.reduceAdd, Nat.add_assoc, f_ge, t_le, t_lt, f_lt, f_l0, t_0l, t_pl, t_eq, f_eq, f_e0, i10, i01, ib_nI, nI_clamp, nI_add, ad10, ad18, ad26, ad34, ad42, ad47, ad52, ad59, ad107, ad117, ml8, mr8, ml5, ml10, hu_same, hu_row, hu_at, hu_hu, t2le, f60l, f4l, t4l, ml60, i30, i40, i3l0, i4l0, i1l0, f0m1, tm10, and_true, true_and, e25, b25_0 o9, b25_5 o9, b25_19, e24, b24_0 o9, b24_16, b24_17, h2, x26 o9 hs h, b25_18 o9.2.2.2]
theorem m198y {k m j : Nat} {v : Int64} (hk : k < 4) (o11 : ok11 hs_S0 R 140) (h : I 142 k = nI m) (hm : m ≤ 60) (hj : j < m) : hs_C scr (d + 2) 198 [.ref 140, .int (nI k), .int (nI j), .long v] (hs_S0, I, L, R) = some (some (.int 1), (hs_S0, hs_u (hs_u I 140 1 0) 140 0 0, hs_u L 143 (60 * k + j) (cutv (I 141 k) v), R)) := by
  have h' : hs_u I 140 1 0 142 k = nI m := by simp (disch := omega) only [hu_same, hu_row, hu_at, hu_hu, h]
  simp (disch := omega) only [Option.bind_some, Option.toList_some, Option.toList_none, List.append_nil, List.cons_append, List.nil_append, ↓reduceIte, true_or, or_true, Nat.reduceAdd, Nat.add_assoc, f_ge, t_le, t_lt, f_lt, f_l0, t_0l, t_pl, t_eq, f_eq, f_e0, i10, i01, ib_nI, nI_clamp, nI_add, ad10, ad18, ad26, ad34, ad42, ad47, ad52, ad59, ad107, ad117, ml8, mr8, ml5, ml10, hu_same, hu_row, hu_at, hu_hu, t2le, f60l, f4l, t4l, ml60, i30, i40, i3l0, i4l0, i1l0, f0m1, tm10, and_true, true_and, i00, e198, b198_0 o11, b198_12 o11 o11, m199d hk o11 h' hm hj, m201, b198_44 (S := hs_S0) (u0 := 143) (n_u0 := 240) rfl]
theorem Tr_w {k m j : Nat} {v : Int64} (h : Tr I L) (hk : k < 4) (h2 : I 142 k = nI m) (hj : j < m) (hm : m ≤ 60) (hI : ∀ j, j < 4 → I' (66 + 2 * j) = I (66 + 2 * j)) (h1 : I' 141 = I 141) (h3 : I' 142 = I 142) : Tr I' (hs_u (hs_u L (66 + 2 * k + 1) j v) 143 (60 * k + j) v) := by
  intro q hq
  have g := h q hq
  rw [hI q hq, h1, h3]
  refine ⟨g.1, g.2.1, g.2.2.1, ?_⟩
  rcases g.2.2.2 with g | ⟨m', g1, g2, g3⟩
  · exact Or.inl g
  · refine Or.inr ⟨m', g1, g2, fun p hp => ?_⟩
    by_cases e : q = k ∧ p = j
    · obtain ⟨rfl, rfl⟩ := e
      rw [show 67 + 2 * q = 66 + 2 * q + 1 by omega]
      simp (disch := omega) only [hu_same, hu_row, hu_at, hu_hu]
    · have g4 := g3 p hp
      simp (disch := omega) only [hu_same, hu_row, hu_at, hu_hu]
      exact g4
theorem ca4 : CA4 scr hs_S0 Rel 99 := by
  intro x y v I L R hP
  obtain ⟨rt, st, pt, qt, n, np, nr, nl, nb, nq, hA⟩ := hP; obtain ⟨hE, ⟨⟨hn8, hc0, hx0, hh⟩, ⟨hp5, hc1, hx1, hpp⟩, ⟨hr6, hc2, hx2, hrr, hru⟩, ⟨hl6, hc3, hx3, hll⟩, ⟨hb6, hq10, hc4, hx4, hc5, hx5, hqq⟩, hD, hN, hG⟩, hT, hTx, hM, hK⟩ := id hA; have o10 := k10_2 hE.1; have o11 := k11_140 hE.1; have o4 := Env_4 hE; have o1 : ok1 hs_S0 R (rt + 5) := o4.2.2.2.2.2.1; have r10_8 := hE.2.1; have hrt := hE.2.2.2.2.2.1; have hpt := hE.2.2.2.2.2.2
  rcases ix x (n := 4) (by omega) with hx | ⟨k, hk, rfl⟩
  · refine CK_st hA 0 1 ?_ ?_
    · simp (disch := omega) only [Option.bind_some, Option.toList_some, Option.toList_none, List.append_nil, List.cons_append, List.nil_append, ↓reduceIte, true_or, or_true, Nat.reduceAdd, Nat.add_assoc, f_ge, t_le, t_lt, f_lt, f_l0, t_0l, t_pl, t_eq, f_eq, f_e0, i10, i01, ib_nI, nI_clamp, nI_add, ad10, ad18, ad26, ad34, ad42, ad47, ad52, ad59, ad107, ad117, ml8, mr8, ml5, ml10, hu_same, hu_row, hu_at, hu_hu, e21, b21_0 o10, b21_6 o10, b21_19, b21_31 o10, b21_35, e18, b18_0 o10, s22a hx o10]
    · simp (disch := first | omega | (simp (disch := omega) only [hu_same, hu_row, hu_at, hu_hu, hc0, hc1, hc2, hc3, hc4, hc5]; done)) only [Option.bind_some, Option.toList_some, Option.toList_none, List.append_nil, List.cons_append, List.nil_append, ↓reduceIte, true_or, or_true, Nat.reduceAdd, Nat.add_assoc, f_ge, t_le, t_lt, f_lt, f_l0, t_0l, t_pl, t_eq, f_eq, f_e0, i10, i01, ib_nI, nI_clamp, nI_add, ad10, ad18, ad26, ad34, ad42, ad47, ad52, ad59, ad107, ad117, ml8, mr8, ml5, ml10, hu_same, hu_row, hu_at, hu_hu, t2le, f60l, f4l, t4l, ml60, i30, i40, i3l0, i4l0, i1l0, f0m1, tm10, and_true, true_and, e198, b198_0 o11, b198_12 o11 o11, m199a hx o11]
  · obtain ⟨r3, o9⟩ := Rc_tray hE.1 hk
    obtain ⟨t1, ⟨s, hs, t1b⟩, t2, t3⟩ := hT k hk
    rcases t3 with t3 | ⟨m, hm, t3, t4⟩
    · have t2' := t2.trans t3
      refine CK_st hA 0 3 ?_ ?_
      · simp (disch := omega) only [Option.bind_some, Option.toList_some, Option.toList_none, List.append_nil, List.cons_append, List.nil_append, ↓reduceIte, true_or, or_true, Nat.reduceAdd, Nat.add_assoc, f_ge, t_le, t_lt, f_lt, f_l0, t_0l, t_pl, t_eq, f_eq, f_e0, i10, i01, ib_nI, nI_clamp, nI_add, ad10, ad18, ad26, ad34, ad42, ad47, ad52, ad59, ad107, ad117, ml8, mr8, ml5, ml10, hu_same, hu_row, hu_at, hu_hu, t2le, f60l, f4l, t4l, ml60, i30, i40, i3l0, i4l0, i1l0, f0m1, tm10, and_true, true_and, e21, b21_0 o10, b21_6 o10, b21_19, b21_31 o10, b21_35, e18, b18_0 o10, s22b hk o10 r3 o9 t2']
      · simp (disch := first | omega | (simp (disch := omega) only [hu_same, hu_row, hu_at, hu_hu, hc0, hc1, hc2, hc3, hc4, hc5]; done)) only [Option.bind_some, Option.toList_some, Option.toList_none, List.append_nil, List.cons_append, List.nil_append, ↓reduceIte, true_or, or_true, Nat.reduceAdd, Nat.add_assoc, f_ge, t_le, t_lt, f_lt, f_l0, t_0l, t_pl, t_eq, f_eq, f_e0, i10, i01, ib_nI, nI_clamp, nI_add, ad10, ad18, ad26, ad34, ad42, ad47, ad52, ad59, ad107, ad117, ml8, mr8, ml5, ml10, hu_same, hu_row, hu_at, hu_hu, t2le, f60l, f4l, t4l, ml60, i30, i40, i3l0, i4l0, i1l0, f0m1, tm10, and_true, true_and, e198, b198_0 o11, b198_12 o11 o11, m199b hk o11 (I := hs_u (hs_u I 2 16 3) 140 1 0) (by simp (disch := omega) only [hu_same, hu_row, hu_at, hu_hu, t3])]
    · have t2' := t2.trans t3
      rcases ix y (n := m) (by omega) with hy | ⟨j, hj, rfl⟩
      · refine CK_st hA 0 4 ?_ ?_
        · simp (disch := omega) only [Option.bind_some, Option.toList_some, Option.toList_none, List.append_nil, List.cons_append, List.nil_append, ↓reduceIte, true_or, or_true, Nat.reduceAdd, Nat.add_assoc, f_ge, t_le, t_lt, f_lt, f_l0, t_0l, t_pl, t_eq, f_eq, f_e0, i10, i01, ib_nI, nI_clamp, nI_add, ad10, ad18, ad26, ad34, ad42, ad47, ad52, ad59, ad107, ad117, ml8, mr8, ml5, ml10, hu_same, hu_row, hu_at, hu_hu, t2le, f60l, f4l, t4l, ml60, i30, i40, i3l0, i4l0, i1l0, f0m1, tm10, and_true, true_and, e21, b21_0 o10, b21_6 o10, b21_19, b21_31 o10, b21_35, e18, b18_0 o10, s22c hk o10 r3 o9 t2' hm hy]
        · simp (disch := first | omega | (simp (disch := omega) only [hu_same, hu_row, hu_at, hu_hu, hc0, hc1, hc2, hc3, hc4, hc5]; done)) only [Option.bind_some, Option.toList_some, Option.toList_none, List.append_nil, List.cons_append, List.nil_append, ↓reduceIte, true_or, or_true, Nat.reduceAdd, Nat.add_assoc, f_ge, t_le, t_lt, f_lt, f_l0, t_0l, t_pl, t_eq, f_eq, f_e0, i10, i01, ib_nI, nI_clamp, nI_add, ad10, ad18, ad26, ad34, ad42, ad47, ad52, ad59, ad107, ad117, ml8, mr8, ml5, ml10, hu_same, hu_row, hu_at, hu_hu, t2le, f60l, f4l, t4l, ml60, i30, i40, i3l0, i4l0, i1l0, f0m1, tm10, and_true, true_and, e198, b198_0 o11, b198_12 o11 o11, m199c hk o11 (I := hs_u (hs_u I 2 16 4) 140 1 0) (by simp (disch := omega) only [hu_same, hu_row, hu_at, hu_hu, t3]) hm hy]
      · refine ⟨1, hs_u I 2 16 0, hs_u L (66 + 2 * k + 1) j (cutv (nI s) v), R, hs_u (hs_u (hs_u I 2 16 0) 140 1 0) 140 0 0, hs_u (hs_u L (66 + 2 * k + 1) j (cutv (nI s) v)) 143 (60 * k + j) (cutv (nI s) v), R, ?_, o11, ?_, ?_⟩
        · simp (disch := omega) only [Option.bind_some, Option.toList_some, Option.toList_none, List.append_nil, List.cons_append, List.nil_append, ↓reduceIte, true_or, or_true, Nat.reduceAdd, Nat.add_assoc, f_ge, t_le, t_lt, f_lt, f_l0, t_0l, t_pl, t_eq, f_eq, f_e0, i10, i01, ib_nI, nI_clamp, nI_add, ad10, ad18, ad26, ad34, ad42, ad47, ad52, ad59, ad107, ad117, ml8, mr8, ml5, ml10, hu_same, hu_row, hu_at, hu_hu, t2le, f60l, f4l, t4l, ml60, i30, i40, i3l0, i4l0, i1l0, f0m1, tm10, and_true, true_and, e21, b21_0 o10, b21_6 o10, b21_19, b21_26 o9, b21_31 o10, b21_35, e20, b20_0 o10, s22d hk o10 r3 o9 t2' hm hj, r3, x25 o9 hs (t1.trans t1b) t2' hm hj]
        · rw [m198y hk o11 (m := m) (by simp (disch := omega) only [hu_same, hu_row, hu_at, hu_hu, t3]) hm hj]
          simp (disch := omega) only [hu_same, hu_row, hu_at, hu_hu, t1b]
        · exact Rel_t hA (Tr_w hT hk t3 hj hm (fun j hj => by simp (disch := omega) only [hu_same, hu_row, hu_at, hu_hu]) (by simp (disch := omega) only [hu_same, hu_row, hu_at, hu_hu]) (by simp (disch := omega) only [hu_same, hu_row, hu_at, hu_hu])) (fun k h1 h2 h3 h4 h5 => by simp (disch := omega) only [hu_same, hu_row, hu_at, hu_hu]) (fun k h1 h2 => by simp (disch := omega) only [hu_same, hu_row, hu_at, hu_hu]) (fun f hf => by simp (disch := omega) only [hu_same, hu_row, hu_at, hu_hu]) (fun f h1 h2 => by simp (disch := omega) only [hu_same, hu_row, hu_at, hu_hu]) (by simp (disch := omega) only [hu_same, hu_row, hu_at, hu_hu])
theorem ca5 : CA5 scr hs_S0 Rel 99 := by
  intro x y I L R hP
  obtain ⟨rt, st, pt, qt, n, np, nr, nl, nb, nq, hA⟩ := hP; obtain ⟨hE, ⟨⟨hn8, hc0, hx0, hh⟩, ⟨hp5, hc1, hx1, hpp⟩, ⟨hr6, hc2, hx2, hrr, hru⟩, ⟨hl6, hc3, hx3, hll⟩, ⟨hb6, hq10, hc4, hx4, hc5, hx5, hqq⟩, hD, hN, hG⟩, hT, hTx, hM, hK⟩ := id hA; have o10 := k10_2 hE.1; have o11 := k11_140 hE.1; have o4 := Env_4 hE; have o1 : ok1 hs_S0 R (rt + 5) := o4.2.2.2.2.2.1; have r10_8 := hE.2.1; have hrt := hE.2.2.2.2.2.1; have hpt := hE.2.2.2.2.2.2
  rcases ix x (n := 4) (by omega) with hx | ⟨k, hk, rfl⟩
  · refine CK_stl hA (-1) 1 ?_ ?_
    · simp (disch := omega) only [Option.bind_some, Option.toList_some, Option.toList_none, List.append_nil, List.cons_append, List.nil_append, ↓reduceIte, true_or, or_true, Nat.reduceAdd, Nat.add_assoc, f_ge, t_le, t_lt, f_lt, f_l0, t_0l, t_pl, t_eq, f_eq, f_e0, i10, i01, ib_nI, nI_clamp, nI_add, ad10, ad18, ad26, ad34, ad42, ad47, ad52, ad59, ad107, ad117, ml8, mr8, ml5, ml10, hu_same, hu_row, hu_at, hu_hu, e27, b27_0 o10, b27_6 o10, b27_16, e28, b28_0 o10, s22a hx o10]; rfl
    · simp (disch := first | omega | (simp (disch := omega) only [hu_same, hu_row, hu_at, hu_hu, hc0, hc1, hc2, hc3, hc4, hc5]; done)) only [Option.bind_some, Option.toList_some, Option.toList_none, List.append_nil, List.cons_append, List.nil_append, ↓reduceIte, true_or, or_true, Nat.reduceAdd, Nat.add_assoc, f_ge, t_le, t_lt, f_lt, f_l0, t_0l, t_pl, t_eq, f_eq, f_e0, i10, i01, ib_nI, nI_clamp, nI_add, ad10, ad18, ad26, ad34, ad42, ad47, ad52, ad59, ad107, ad117, ml8, mr8, ml5, ml10, hu_same, hu_row, hu_at, hu_hu, t2le, f60l, f4l, t4l, ml60, i30, i40, i3l0, i4l0, i1l0, f0m1, tm10, and_true, true_and, e202, b202_0 o11, b202_12 o11 o11, b202_39, m199a hx o11]
  · obtain ⟨r3, o9⟩ := Rc_tray hE.1 hk
    obtain ⟨t1, ⟨s, hs, t1b⟩, t2, t3⟩ := hT k hk
    rcases t3 with t3 | ⟨m, hm, t3, t4⟩
    · have t2' := t2.trans t3
      refine CK_stl hA (-1) 3 ?_ ?_
      · simp (disch := omega) only [Option.bind_some, Option.toList_some, Option.toList_none, List.append_nil, List.cons_append, List.nil_append, ↓reduceIte, true_or, or_true, Nat.reduceAdd, Nat.add_assoc, f_ge, t_le, t_lt, f_lt, f_l0, t_0l, t_pl, t_eq, f_eq, f_e0, i10, i01, ib_nI, nI_clamp, nI_add, ad10, ad18, ad26, ad34, ad42, ad47, ad52, ad59, ad107, ad117, ml8, mr8, ml5, ml10, hu_same, hu_row, hu_at, hu_hu, t2le, f60l, f4l, t4l, ml60, i30, i40, i3l0, i4l0, i1l0, f0m1, tm10, and_true, true_and, e27, b27_0 o10, b27_6 o10, b27_16, e28, b28_0 o10, s22b hk o10 r3 o9 t2']; rfl
      · simp (disch := first | omega | (simp (disch := omega) only [hu_same, hu_row, hu_at, hu_hu, hc0, hc1, hc2, hc3, hc4, hc5]; done)) only [Option.bind_some, Option.toList_some, Option.toList_none, List.append_nil, List.cons_append, List.nil_append, ↓reduceIte, true_or, or_true, Nat.reduceAdd, Nat.add_assoc, f_ge, t_le, t_lt, f_lt, f_l0, t_0l, t_pl, t_eq, f_eq, f_e0, i10, i01, ib_nI, nI_clamp, nI_add, ad10, ad18, ad26, ad34, ad42, ad47, ad52, ad59, ad107, ad117, ml8, mr8, ml5, ml10, hu_same, hu_row, hu_at, hu_hu, t2le, f60l, f4l, t4l, ml60, i30, i40, i3l0, i4l0, i1l0, f0m1, tm10, and_true, true_and, e202, b202_0 o11, b202_12 o11 o11, b202_39, m199b hk o11 (I := hs_u (hs_u I 2 16 3) 140 1 0) (by simp (disch := omega) only [hu_same, hu_row, hu_at, hu_hu, t3])]
    · have t2' := t2.trans t3
      rcases ix y (n := m) (by omega) with hy | ⟨j, hj, rfl⟩
      · refine CK_stl hA (-1) 4 ?_ ?_
        · simp (disch := omega) only [Option.bind_some, Option.toList_some, Option.toList_none, List.append_nil, List.cons_append, List.nil_append, ↓reduceIte, true_or, or_true, Nat.reduceAdd, Nat.add_assoc, f_ge, t_le, t_lt, f_lt, f_l0, t_0l, t_pl, t_eq, f_eq, f_e0, i10, i01, ib_nI, nI_clamp, nI_add, ad10, ad18, ad26, ad34, ad42, ad47, ad52, ad59, ad107, ad117, ml8, mr8, ml5, ml10, hu_same, hu_row, hu_at, hu_hu, t2le, f60l, f4l, t4l, ml60, i30, i40, i3l0, i4l0, i1l0, f0m1, tm10, and_true, true_and, e27, b27_0 o10, b27_6 o10, b27_16, e28, b28_0 o10, s22c hk o10 r3 o9 t2' hm hy]; rfl
        · simp (disch := first | omega | (simp (disch := omega) only [hu_same, hu_row, hu_at, hu_hu, hc0, hc1, hc2, hc3, hc4, hc5]; done)) only [Option.bind_some, Option.toList_some, Option.toList_none, List.append_nil, List.cons_append, List.nil_append, ↓reduceIte, true_or, or_true, Nat.reduceAdd, Nat.add_assoc, f_ge, t_le, t_lt, f_lt, f_l0, t_0l, t_pl, t_eq, f_eq, f_e0, i10, i01, ib_nI, nI_clamp, nI_add, ad10, ad18, ad26, ad34, ad42, ad47, ad52, ad59, ad107, ad117, ml8, mr8, ml5, ml10, hu_same, hu_row, hu_at, hu_hu, t2le, f60l, f4l, t4l, ml60, i30, i40, i3l0, i4l0, i1l0, f0m1, tm10, and_true, true_and, e202, b202_0 o11, b202_12 o11 o11, b202_39, m199c hk o11 (I := hs_u (hs_u I 2 16 4) 140 1 0) (by simp (disch := omega) only [hu_same, hu_row, hu_at, hu_hu, t3]) hm hy]
      · have t5 := t4 j hj
        rw [show 67 + 2 * k = 66 + (2 * k + 1) by omega] at t5
        refine CK_stl hA (L 143 (60 * k + j)) 0 ?_ ?_
        · simp (disch := omega) only [Option.bind_some, Option.toList_some, Option.toList_none, List.append_nil, List.cons_append, List.nil_append, ↓reduceIte, true_or, or_true, Nat.reduceAdd, Nat.add_assoc, f_ge, t_le, t_lt, f_lt, f_l0, t_0l, t_pl, t_eq, f_eq, f_e0, i10, i01, ib_nI, nI_clamp, nI_add, ad10, ad18, ad26, ad34, ad42, ad47, ad52, ad59, ad107, ad117, ml8, mr8, ml5, ml10, hu_same, hu_row, hu_at, hu_hu, t2le, f60l, f4l, t4l, ml60, i30, i40, i3l0, i4l0, i1l0, f0m1, tm10, and_true, true_and, e27, b27_0 o10, b27_6 o10, b27_16, b27_29 o9, s22d hk o10 r3 o9 t2' hm hj, r3, t5]
        · simp (disch := first | omega | (simp (disch := omega) only [hu_same, hu_row, hu_at, hu_hu, hc0, hc1, hc2, hc3, hc4, hc5]; done)) only [Option.bind_some, Option.toList_some, Option.toList_none, List.append_nil, List.cons_append, List.nil_append, ↓reduceIte, true_or, or_true, Nat.reduceAdd, Nat.add_assoc, f_ge, t_le, t_lt, f_lt, f_l0, t_0l, t_pl, t_eq, f_eq, f_e0, i10, i01, ib_nI, nI_clamp, nI_add, ad10, ad18, ad26, ad34, ad42, ad47, ad52, ad59, ad107, ad117, ml8, mr8, ml5, ml10, hu_same, hu_row, hu_at, hu_hu, t2le, f60l, f4l, t4l, ml60, i30, i40, i3l0, i4l0, i1l0, f0m1, tm10, and_true, true_and, i00, e202, b202_0 o11, b202_12 o11 o11, b202_39, m199d hk o11 (I := hs_u (hs_u I 2 16 0) 140 1 0) (by simp (disch := omega) only [hu_same, hu_row, hu_at, hu_hu, t3]) hm hj]
end TR
