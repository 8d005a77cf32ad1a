/-! calls, first: what only reads -/
theorem lgc_lt (x y : Int64) : lg_cmp x y < 0 ↔ x < y := by
  unfold lg_cmp
  by_cases h1 : x > y
  · rw [if_pos h1]; rw [gt_iff_lt, Int64.lt_iff_toInt_lt] at h1; rw [Int64.lt_iff_toInt_lt]; exact ⟨fun h => absurd h (by decide), fun h => by omega⟩
  · rw [if_neg h1]
    by_cases h2 : x = y
    · rw [if_pos h2, h2]; rw [Int64.lt_iff_toInt_lt]; exact ⟨fun h => absurd h (by decide), fun h => by omega⟩
    · rw [if_neg h2]
      rw [gt_iff_lt, Int64.lt_iff_toInt_lt] at h1
      have h3 : x.toInt ≠ y.toInt := fun q => h2 (Int64.toInt_inj.mp q)
      rw [Int64.lt_iff_toInt_lt]; exact ⟨fun _ => by omega, fun _ => by decide⟩
theorem lgc_gt (x y : Int64) : (0 : Int32) < lg_cmp x y ↔ y < x := by
  unfold lg_cmp
  by_cases h1 : x > y
  · rw [if_pos h1]; exact ⟨fun _ => h1, fun _ => by decide⟩
  · rw [if_neg h1]
    by_cases h2 : x = y
    · rw [if_pos h2]; exact ⟨fun h => absurd h (by decide), fun h => absurd h h1⟩
    · rw [if_neg h2]; exact ⟨fun h => absurd h (by decide), fun h => absurd h h1⟩
theorem i64_lt (x y : Int32) : x.toInt64 < y.toInt64 ↔ x < y := by
  rw [Int64.lt_iff_toInt_lt, Int32.lt_iff_toInt_lt, Int32.toInt_toInt64, Int32.toInt_toInt64]
theorem i32_nlt (x y : Int32) : ¬ x < y ↔ y ≤ x := by
  rw [Int32.lt_iff_toInt_lt, Int32.le_iff_toInt_le]; omega
theorem ix (x : Int32) {n : Nat} (hn : n < 2 ^ 31) : (x < 0 ∨ nI n ≤ x) ∨ ∃ k, k < n ∧ x = nI k := by
  rcases pk_ix x hn with h | h | h
  · exact Or.inl (Or.inl h)
  · exact Or.inl (Or.inr h)
  · exact Or.inr h
theorem pred_le {k n : Nat} (h : k < n) (hn : n < 2 ^ 31) : nI k ≤ nI n - 1 := by
  obtain ⟨m, rfl⟩ : ∃ m, n = m + 1 := ⟨n - 1, by omega⟩
  rw [nI_pred]; exact nI_le (by omega) (by omega)
theorem pred_nle {x : Int32} {n : Nat} (h0 : ¬ x < 0) (h : nI n ≤ x) (hn : n < 2 ^ 31) : ¬ x ≤ nI n - 1 := by
  rcases n with _ | m
  · rw [nI_0]; intro h2; apply h0; rw [Int32.le_iff_toInt_le] at h2; rw [Int32.lt_iff_toInt_lt]; exact Int.lt_of_le_of_lt h2 (by decide)
  · rw [nI_pred]; intro h2
    rw [Int32.le_iff_toInt_le, nI_toInt (by omega)] at h h2; omega
section B2
variable {scr : List Int32} {d : Nat} {S : List hs_S} {I : Nat → Nat → Int32} {L : Nat → Nat → Int64} {R : Nat → Nat → Nat}
theorem s223 {x : Int32} (a b : Int64) (lo hi : Int32) (ha : a = lo.toInt64) (hb : b = hi.toInt64) : hs_C scr d 223 [.long x.toInt64, .long a, .long b] (S, I, L, R) = some (some (.int (if x < lo then 0 else if x ≤ hi then 1 else 0)), (S, I, L, R)) := by
  subst ha; subst hb
  rw [e223, b223_0]
  simp only [lgc_lt, lgc_gt]
  by_cases h1 : x < lo
  · rw [if_pos ((i64_lt _ _).mpr h1), if_pos h1, b223_17, b223_18, if_pos (Or.inl rfl)]
  · rw [if_neg (fun q => h1 ((i64_lt _ _).mp q)), if_neg h1]
    by_cases h2 : x ≤ hi
    · rw [if_neg (fun q => (i32_nlt _ _).mpr h2 ((i64_lt _ _).mp q)), if_pos h2, b223_18, if_pos (Or.inr rfl)]
    · rw [if_pos ((i64_lt _ _).mpr (Classical.byContradiction fun q => h2 ((i32_nlt _ _).mp q))), if_neg h2, b223_17, b223_18, if_pos (Or.inl rfl)]
theorem s223p {x m : Int32} : hs_C scr d 223 [.long x.toInt64, .long 0, .long m.toInt64] (S, I, L, R) = some (some (.int (if x < 0 then 0 else if x ≤ m then 1 else 0)), (S, I, L, R)) := s223 0 _ 0 m rfl rfl
end B2
theorem f_ge {a b : Nat} (h : a < b) (hb : b < 2 ^ 31) : (nI b ≤ nI a) = False := eq_false (nI_ge h hb)
theorem t_le {a b : Nat} (h : a ≤ b) (hb : b < 2 ^ 31) : (nI a ≤ nI b) = True := eq_true (nI_le h hb)
theorem t_lt {a b : Nat} (h : a < b) (hb : b < 2 ^ 31) : (nI a < nI b) = True := eq_true (nI_lt h hb)
theorem f_lt {a b : Nat} (h : b ≤ a) (hb : a < 2 ^ 31) : (nI a < nI b) = False := eq_false (nI_nlt h hb)
theorem f_l0 {a : Nat} (h : a < 2 ^ 31) : (nI a < 0) = False := eq_false (nI_pos h)
theorem t_0l {a : Nat} (h : a < 2 ^ 31) : (0 ≤ nI a) = True := eq_true (nI_pos' h)
theorem t_pl {k n : Nat} (h : k < n) (hn : n < 2 ^ 31) : (nI k ≤ nI n - 1) = True := eq_true (pred_le h hn)
theorem t_eq {a b : Nat} (h : a = b) : (nI a = nI b) = True := by rw [h]; exact eq_self _
theorem f_eq {a b : Nat} (h : a ≠ b) (ha : a < 2 ^ 31) (hb : b < 2 ^ 31) : (nI a = nI b) = False := eq_false fun q => h ((nI_eq ha hb).mp q)
theorem f_e0 {a : Nat} (h : a ≠ 0) (ha : a < 2 ^ 31) : (nI a = 0) = False := eq_false (nI_ne0 (by omega) ha)
theorem i10 : ((1 : Int32) = 0) = False := eq_false (by decide)
theorem i01 : ((0 : Int32) = 1) = False := eq_false (by decide)
theorem hu_hu {α : Type} (m : Nat → Nat → α) (k f : Nat) (x y : α) : hs_u (hs_u m k f x) k f y = hs_u m k f y := by
  funext a b; simp only [hs_u]; split <;> rfl
theorem ad10 (k : Nat) : (10 : Int32) + nI k = nI (10 + k) := nI_add 10 k
theorem ad18 (k : Nat) : (18 : Int32) + nI k = nI (18 + k) := nI_add 18 k
theorem ad26 (k : Nat) : (26 : Int32) + nI k = nI (26 + k) := nI_add 26 k
theorem ad34 (k : Nat) : (34 : Int32) + nI k = nI (34 + k) := nI_add 34 k
theorem ad42 (k : Nat) : (42 : Int32) + nI k = nI (42 + k) := nI_add 42 k
theorem ad47 (k : Nat) : (47 : Int32) + nI k = nI (47 + k) := nI_add 47 k
theorem ad52 (k : Nat) : (52 : Int32) + nI k = nI (52 + k) := nI_add 52 k
theorem ad59 (k : Nat) : (59 : Int32) + nI k = nI (59 + k) := nI_add 59 k
theorem ad107 (k : Nat) : (107 : Int32) + nI k = nI (107 + k) := nI_add 107 k
theorem ad117 (k : Nat) : (117 : Int32) + nI k = nI (117 + k) := nI_add 117 k
theorem ml8 (k : Nat) : (8 : Int32) * nI k = nI (8 * k) := pk_mul 8 k
theorem mr8 (k : Nat) : nI k * (8 : Int32) = nI (k * 8) := pk_mul k 8
theorem ml5 (k : Nat) : (5 : Int32) * nI k = nI (5 * k) := pk_mul 5 k
theorem ml10 (k : Nat) : (10 : Int32) * nI k = nI (10 * k) := pk_mul 10 k
theorem swt_y {k : Nat} {hi : Int} {ts : List Nat} {df : Nat} (h : (k : Int) ≤ hi) (hk : k < 2 ^ 31) : hs_swt (nI k) 0 hi ts df = ts.getD k df := by
  unfold hs_swt
  rw [nI_toInt hk, if_neg (by omega)]
  simp
theorem swt_n {x : Int32} {n : Nat} {hi : Int} {ts : List Nat} {df : Nat} (hx : x < 0 ∨ nI n ≤ x) (hn : (n : Int) = hi + 1) (h2 : n < 2 ^ 31) : hs_swt x 0 hi ts df = df := by
  unfold hs_swt
  apply if_pos
  rcases hx with hx | hx
  · left; rw [Int32.lt_iff_toInt_lt] at hx; exact hx
  · right; rw [Int32.le_iff_toInt_le, nI_toInt h2] at hx; omega
theorem isn_n {x h : Int32} {n : Nat} (hx : x < 0 ∨ nI n ≤ x) (hh : h = nI n - 1) (hn : n < 2 ^ 31) : (if x < 0 then (0 : Int32) else if x ≤ h then 1 else 0) = 0 := by
  subst hh
  by_cases h0 : x < 0
  · exact if_pos h0
  · rw [if_neg h0, if_neg (pred_nle h0 (hx.resolve_left h0) hn)]
theorem i20 : ((2 : Int32) = 0) = False := eq_false (by decide)
theorem i50 : ((5 : Int32) = 0) = False := eq_false (by decide)
theorem i90 : ((9 : Int32) = 0) = False := eq_false (by decide)
theorem t_99 {l : Nat} (h : l < 100) : (nI l ≤ 99) = True := eq_true (nI_le (b := 99) (by omega) (by omega))
/-- out of a range that ends at m -/
theorem out_n {α : Type} {x m : Int32} {n : Nat} {a b : α} (hx : x < 0 ∨ nI n ≤ x) (hm : m = nI n - 1) (hn : n < 2 ^ 31 := by omega) : (if x < 0 then a else if x ≤ m then b else a) = a := by
  subst hm
  by_cases h0 : x < 0
  · exact if_pos h0
  · rw [if_neg h0, if_neg (pred_nle h0 (hx.resolve_left h0) hn)]
theorem gd0 {a e : Nat} {l : List Nat} : (a :: l).getD 0 e = a := rfl
theorem gd1 {a b e : Nat} {l : List Nat} : (a :: b :: l).getD 1 e = b := rfl
theorem gd2 {a b c e : Nat} {l : List Nat} : (a :: b :: c :: l).getD 2 e = c := rfl
theorem gd3 {a b c f e : Nat} {l : List Nat} : (a :: b :: c :: f :: l).getD 3 e = f := rfl
theorem gds {a e k : Nat} {l : List Nat} : (a :: l).getD (k + 1) e = l.getD k e := rfl
section CK
variable {scr : List Int32} {d rt st pt qt n np nr nl nb nq : Nat} {I : Nat → Nat → Int32} {L : Nat → Nat → Int64} {R : Nat → Nat → Nat}
theorem CK_st (hA : RelA rt st pt qt n np nr nl nb nq I L R) {jx jm : Nat} {as : List Value} (v s : Int32) (hX : hs_C scr d jx (.ref 2 :: as) (hs_S0, I, L, R) = some (some (.int v), (hs_S0, hs_u I 2 16 s, L, R))) (hM : hs_C scr d jm (.ref 140 :: as) (hs_S0, hs_u I 2 16 s, L, R) = some (some (.int v), (hs_S0, hs_u (hs_u (hs_u I 2 16 s) 140 1 0) 140 0 s, L, R))) : ∃ (x : Int32) (I1 : Nat → Nat → Int32) (L1 : Nat → Nat → Int64) (R1 : Nat → Nat → Nat) (I2 : Nat → Nat → Int32) (L2 : Nat → Nat → Int64) (R2 : Nat → Nat → Nat), hs_C scr d jx (.ref 2 :: as) (hs_S0, I, L, R) = some (some (.int x), (hs_S0, I1, L1, R1)) ∧ ok11 hs_S0 R1 140 ∧ hs_C scr d jm (.ref 140 :: as) (hs_S0, I1, L1, R1) = some (some (.int x), (hs_S0, I2, L2, R2)) ∧ Rel I2 L2 R2 :=
  ⟨v, _, L, R, _, L, R, hX, k11_140 hA.1.1, hM, Rel_st hA (fun k h1 h2 => by simp (disch := omega) only [hu_row]) (fun f hf => by simp (disch := omega) only [hu_at]) (fun f h1 h2 => by simp (disch := omega) only [hu_at]) (by simp (disch := omega) only [hu_at, hu_same])⟩
theorem ca0 : CA0 scr hs_S0 Rel (d + 1) := by
  intro I L R hP
  have ho := Rel_ok hP
  obtain ⟨rt, st, pt, qt, n, np, nr, nl, nb, nq, hA⟩ := hP
  refine ⟨I 2 16, I, L, R, hs_u I 140 1 0, L, R, ?_, ho.2, ?_, ?_⟩
  · rw [e13, b13_0 ho.1]
  · rw [e193, b193_0 ho.2, hu_at _ _ (by omega), hA.2.2.2.2.1.1]
  · exact Rel_st hA (fun k h1 h2 => by simp (disch := omega) only [hu_row]) (fun f hf => by simp (disch := omega) only [hu_at]) (fun f h1 h2 => by simp (disch := omega) only [hu_at]) (by simp (disch := omega) only [hu_at, hA.2.2.2.2.1.1])
theorem s89n (o10 : ok10 hs_S0 R 2) (r10_8 : R 2 8 = rt) (o4 : ok4 hs_S0 R rt) {x : Int32} (hx0 : I (rt + 5) 4 = nI n) (hx : x < 0 ∨ nI n ≤ x) : hs_C scr (d + 1) 89 [.ref 2, .int x] (hs_S0, I, L, R) = some (some (.int 0), (hs_S0, I, L, R)) := by
  rw [e89, b89_0 o10 r10_8 o4, hx0]
  rcases hx with hx | hx
  · rw [if_pos hx, b89_22, b89_23, if_pos (Or.inl rfl)]
  · rw [if_pos hx, b89_22, b89_23, if_pos (Or.inl rfl), ite_self]
theorem s89y (o10 : ok10 hs_S0 R 2) (r10_8 : R 2 8 = rt) (o4 : ok4 hs_S0 R rt) {k : Nat} (hx0 : I (rt + 5) 4 = nI n) (hk : k < n) (hn : n < 2 ^ 31) : hs_C scr (d + 1) 89 [.ref 2, .int (nI k)] (hs_S0, I, L, R) = some (some (.int 1), (hs_S0, I, L, R)) := by
  simp (disch := omega) only [Option.bind_some, Option.toList_some, Option.toList_none, List.append_nil, List.cons_append, List.nil_append, ↓reduceIte, true_or, or_true, Nat.reduceAdd, Nat.add_assoc, f_ge, t_le, t_lt, f_lt, f_l0, t_0l, t_pl, t_eq, f_eq, f_e0, i10, i01, ib_nI, nI_clamp, nI_add, ad10, ad18, ad26, ad34, ad42, ad47, ad52, ad59, ad107, ad117, ml8, mr8, ml5, ml10, hu_same, hu_row, hu_at, hu_hu, e89, b89_0 o10 r10_8 o4, b89_22, b89_23, hx0]
theorem s272n (o11 : ok11 hs_S0 R 140) {x : Int32} (hc0 : I 145 0 = nI n) (hx : x < 0 ∨ nI n ≤ x) (hn : n < 2 ^ 31) : hs_C scr (d + 1) 272 [.ref 140, .int x] (hs_S0, I, L, R) = some (some (.int 0), (hs_S0, I, L, R)) := by
  have hcq : I (140 + 5) 0 = nI n := hc0
  rw [e272, b272_0 o11, s223p, hcq]
  by_cases h0 : x < 0
  · simp only [h0, Option.bind_some, Option.toList_some, Option.toList_none, List.append_nil, List.cons_append, List.nil_append, ↓reduceIte, true_or, or_true, Nat.reduceAdd, Nat.add_assoc, e272, b272_0 o11, b272_15]
  · have := pred_nle h0 (hx.resolve_left h0) hn
    simp only [h0, this, Option.bind_some, Option.toList_some, Option.toList_none, List.append_nil, List.cons_append, List.nil_append, ↓reduceIte, true_or, or_true, Nat.reduceAdd, Nat.add_assoc, e272, b272_0 o11, b272_15]
theorem s272y (o11 : ok11 hs_S0 R 140) {k : Nat} (hc0 : I 145 0 = nI n) (hk : k < n) (hn : n < 2 ^ 31) : hs_C scr (d + 1) 272 [.ref 140, .int (nI k)] (hs_S0, I, L, R) = some (some (.int 1), (hs_S0, I, L, R)) := by
  have hcq : I (140 + 5) 0 = nI n := hc0
  rw [e272, b272_0 o11, s223p, hcq]
  simp (disch := omega) only [Option.bind_some, Option.toList_some, Option.toList_none, List.append_nil, List.cons_append, List.nil_append, ↓reduceIte, true_or, or_true, Nat.reduceAdd, Nat.add_assoc, f_ge, t_le, t_lt, f_lt, f_l0, t_0l, t_pl, t_eq, f_eq, f_e0, i10, i01, ib_nI, nI_clamp, nI_add, ad10, ad18, ad26, ad34, ad42, ad47, ad52, ad59, ad107, ad117, ml8, mr8, ml5, ml10, hu_same, hu_row, hu_at, hu_hu, e272, b272_0 o11, b272_15]
theorem s91n (o10 : ok10 hs_S0 R 2) (r10_8 : R 2 8 = rt) (o4 : ok4 hs_S0 R rt) {x : Int32} (hx0 : I rt 8 = nI n) (hx : x < 0 ∨ nI n ≤ x) : hs_C scr (d + 1) 91 [.ref 2, .int x] (hs_S0, I, L, R) = some (some (.int 0), (hs_S0, I, L, R)) := by
  rw [e91, b91_0 o10 r10_8 o4, hx0]
  rcases hx with hx | hx
  · rw [if_pos hx, b91_19, b91_20, if_pos (Or.inl rfl)]
  · rw [if_pos hx, b91_19, b91_20, if_pos (Or.inl rfl), ite_self]
theorem s91y (o10 : ok10 hs_S0 R 2) (r10_8 : R 2 8 = rt) (o4 : ok4 hs_S0 R rt) {k : Nat} (hx0 : I rt 8 = nI n) (hk : k < n) (hn : n < 2 ^ 31) : hs_C scr (d + 1) 91 [.ref 2, .int (nI k)] (hs_S0, I, L, R) = some (some (.int 1), (hs_S0, I, L, R)) := by
  simp (disch := omega) only [Option.bind_some, Option.toList_some, Option.toList_none, List.append_nil, List.cons_append, List.nil_append, ↓reduceIte, true_or, or_true, Nat.reduceAdd, Nat.add_assoc, f_ge, t_le, t_lt, f_lt, f_l0, t_0l, t_pl, t_eq, f_eq, f_e0, i10, i01, ib_nI, nI_clamp, nI_add, ad10, ad18, ad26, ad34, ad42, ad47, ad52, ad59, ad107, ad117, ml8, mr8, ml5, ml10, hu_same, hu_row, hu_at, hu_hu, e91, b91_0 o10 r10_8 o4, b91_19, b91_20, hx0]
theorem s95n (o10 : ok10 hs_S0 R 2) (r10_8 : R 2 8 = rt) (o4 : ok4 hs_S0 R rt) {x : Int32} (hx0 : I rt 10 = nI n) (hx : x < 0 ∨ nI n ≤ x) : hs_C scr (d + 1) 95 [.ref 2, .int x] (hs_S0, I, L, R) = some (some (.int 0), (hs_S0, I, L, R)) := by
  rw [e95, b95_0 o10 r10_8 o4, hx0]
  rcases hx with hx | hx
  · rw [if_pos hx, b95_19, b95_20, if_pos (Or.inl rfl)]
  · rw [if_pos hx, b95_19, b95_20, if_pos (Or.inl rfl), ite_self]
theorem s95y (o10 : ok10 hs_S0 R 2) (r10_8 : R 2 8 = rt) (o4 : ok4 hs_S0 R rt) {k : Nat} (hx0 : I rt 10 = nI n) (hk : k < n) (hn : n < 2 ^ 31) : hs_C scr (d + 1) 95 [.ref 2, .int (nI k)] (hs_S0, I, L, R) = some (some (.int 1), (hs_S0, I, L, R)) := by
  simp (disch := omega) only [Option.bind_some, Option.toList_some, Option.toList_none, List.append_nil, List.cons_append, List.nil_append, ↓reduceIte, true_or, or_true, Nat.reduceAdd, Nat.add_assoc, f_ge, t_le, t_lt, f_lt, f_l0, t_0l, t_pl, t_eq, f_eq, f_e0, i10, i01, ib_nI, nI_clamp, nI_add, ad10, ad18, ad26, ad34, ad42, ad47, ad52, ad59, ad107, ad117, ml8, mr8, ml5, ml10, hu_same, hu_row, hu_at, hu_hu, e95, b95_0 o10 r10_8 o4, b95_19, b95_20, hx0]
theorem s274n (o11 : ok11 hs_S0 R 140) {x : Int32} (hc0 : I 145 1 = nI n) (hx : x < 0 ∨ nI n ≤ x) (hn : n < 2 ^ 31) : hs_C scr (d + 1) 274 [.ref 140, .int x] (hs_S0, I, L, R) = some (some (.int 0), (hs_S0, I, L, R)) := by
  have hcq : I (140 + 5) 1 = nI n := hc0
  rw [e274, b274_0 o11, s223p, hcq]
  by_cases h0 : x < 0
  · simp only [h0, Option.bind_some, Option.toList_some, Option.toList_none, List.append_nil, List.cons_append, List.nil_append, ↓reduceIte, true_or, or_true, Nat.reduceAdd, Nat.add_assoc, e274, b274_0 o11, b274_15]
  · have := pred_nle h0 (hx.resolve_left h0) hn
    simp only [h0, this, Option.bind_some, Option.toList_some, Option.toList_none, List.append_nil, List.cons_append, List.nil_append, ↓reduceIte, true_or, or_true, Nat.reduceAdd, Nat.add_assoc, e274, b274_0 o11, b274_15]
theorem s274y (o11 : ok11 hs_S0 R 140) {k : Nat} (hc0 : I 145 1 = nI n) (hk : k < n) (hn : n < 2 ^ 31) : hs_C scr (d + 1) 274 [.ref 140, .int (nI k)] (hs_S0, I, L, R) = some (some (.int 1), (hs_S0, I, L, R)) := by
  have hcq : I (140 + 5) 1 = nI n := hc0
  rw [e274, b274_0 o11, s223p, hcq]
  simp (disch := omega) only [Option.bind_some, Option.toList_some, Option.toList_none, List.append_nil, List.cons_append, List.nil_append, ↓reduceIte, true_or, or_true, Nat.reduceAdd, Nat.add_assoc, f_ge, t_le, t_lt, f_lt, f_l0, t_0l, t_pl, t_eq, f_eq, f_e0, i10, i01, ib_nI, nI_clamp, nI_add, ad10, ad18, ad26, ad34, ad42, ad47, ad52, ad59, ad107, ad117, ml8, mr8, ml5, ml10, hu_same, hu_row, hu_at, hu_hu, e274, b274_0 o11, b274_15]
theorem s278n (o11 : ok11 hs_S0 R 140) {x : Int32} (hc0 : I 145 3 = nI n) (hx : x < 0 ∨ nI n ≤ x) (hn : n < 2 ^ 31) : hs_C scr (d + 1) 278 [.ref 140, .int x] (hs_S0, I, L, R) = some (some (.int 0), (hs_S0, I, L, R)) := by
  have hcq : I (140 + 5) 3 = nI n := hc0
  rw [e278, b278_0 o11, s223p, hcq]
  by_cases h0 : x < 0
  · simp only [h0, Option.bind_some, Option.toList_some, Option.toList_none, List.append_nil, List.cons_append, List.nil_append, ↓reduceIte, true_or, or_true, Nat.reduceAdd, Nat.add_assoc, e278, b278_0 o11, b278_15]
  · have := pred_nle h0 (hx.resolve_left h0) hn
    simp only [h0, this, Option.bind_some, Option.toList_some, Option.toList_none, List.append_nil, List.cons_append, List.nil_append, ↓reduceIte, true_or, or_true, Nat.reduceAdd, Nat.add_assoc, e278, b278_0 o11, b278_15]
theorem s278y (o11 : ok11 hs_S0 R 140) {k : Nat} (hc0 : I 145 3 = nI n) (hk : k < n) (hn : n < 2 ^ 31) : hs_C scr (d + 1) 278 [.ref 140, .int (nI k)] (hs_S0, I, L, R) = some (some (.int 1), (hs_S0, I, L, R)) := by
  have hcq : I (140 + 5) 3 = nI n := hc0
  rw [e278, b278_0 o11, s223p, hcq]
  simp (disch := omega) only [Option.bind_some, Option.toList_some, Option.toList_none, List.append_nil, List.cons_append, List.nil_append, ↓reduceIte, true_or, or_true, Nat.reduceAdd, Nat.add_assoc, f_ge, t_le, t_lt, f_lt, f_l0, t_0l, t_pl, t_eq, f_eq, f_e0, i10, i01, ib_nI, nI_clamp, nI_add, ad10, ad18, ad26, ad34, ad42, ad47, ad52, ad59, ad107, ad117, ml8, mr8, ml5, ml10, hu_same, hu_row, hu_at, hu_hu, e278, b278_0 o11, b278_15]
theorem s339n (o11 : ok11 hs_S0 R 140) {x : Int32} (hc0 : I 145 4 = nI n) (hx : x < 0 ∨ nI n ≤ x) (hn : n < 2 ^ 31) : hs_C scr (d + 1) 339 [.ref 140, .int x] (hs_S0, I, L, R) = some (some (.int 0), (hs_S0, I, L, R)) := by
  have hcq : I (140 + 5) 4 = nI n := hc0
  rw [e339, b339_0 o11, s223p, hcq]
  by_cases h0 : x < 0
  · simp only [h0, Option.bind_some, Option.toList_some, Option.toList_none, List.append_nil, List.cons_append, List.nil_append, ↓reduceIte, true_or, or_true, Nat.reduceAdd, Nat.add_assoc, e339, b339_0 o11, b339_15]
  · have := pred_nle h0 (hx.resolve_left h0) hn
    simp only [h0, this, Option.bind_some, Option.toList_some, Option.toList_none, List.append_nil, List.cons_append, List.nil_append, ↓reduceIte, true_or, or_true, Nat.reduceAdd, Nat.add_assoc, e339, b339_0 o11, b339_15]
theorem s339y (o11 : ok11 hs_S0 R 140) {k : Nat} (hc0 : I 145 4 = nI n) (hk : k < n) (hn : n < 2 ^ 31) : hs_C scr (d + 1) 339 [.ref 140, .int (nI k)] (hs_S0, I, L, R) = some (some (.int 1), (hs_S0, I, L, R)) := by
  have hcq : I (140 + 5) 4 = nI n := hc0
  rw [e339, b339_0 o11, s223p, hcq]
  simp (disch := omega) only [Option.bind_some, Option.toList_some, Option.toList_none, List.append_nil, List.cons_append, List.nil_append, ↓reduceIte, true_or, or_true, Nat.reduceAdd, Nat.add_assoc, f_ge, t_le, t_lt, f_lt, f_l0, t_0l, t_pl, t_eq, f_eq, f_e0, i10, i01, ib_nI, nI_clamp, nI_add, ad10, ad18, ad26, ad34, ad42, ad47, ad52, ad59, ad107, ad117, ml8, mr8, ml5, ml10, hu_same, hu_row, hu_at, hu_hu, e339, b339_0 o11, b339_15]
end CK
