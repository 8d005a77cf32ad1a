/-! pour -/
theorem sub_ti {m : Nat} {z : Int32} (hm : m ≤ 1000000) (hz : 0 ≤ z.toInt) : (nI m - z).toInt = (m : Int) - z.toInt := by
  rw [Int32.toInt_sub, nI_toInt (by omega)]
  have h1 := Int32.toInt_lt z
  apply Int.bmod_eq_of_le <;> omega
theorem add_ti (x z : Int32) : (x.toInt64 + z.toInt64).toInt = x.toInt + z.toInt := by
  rw [Int64.toInt_add, Int32.toInt_toInt64, Int32.toInt_toInt64]
  have h1 := Int32.toInt_lt z
  have h2 := Int32.le_toInt z
  have h3 := Int32.toInt_lt x
  have h4 := Int32.le_toInt x
  apply Int.bmod_eq_of_le <;> omega
theorem hr_x {x z : Int32} {m : Nat} (hm : m ≤ 60) (hz : 0 ≤ z.toInt) : (nI m - z < x) ↔ (m : Int) < x.toInt + z.toInt := by
  rw [Int32.lt_iff_toInt_lt, sub_ti (by omega) hz]; omega
theorem hr_m {x z : Int32} {m : Nat} (hm : m ≤ 60) : (0 < lg_cmp (x.toInt64 + z.toInt64) (nI m).toInt64) ↔ (m : Int) < x.toInt + z.toInt := by
  rw [lgc_gt, Int64.lt_iff_toInt_lt, add_ti, Int32.toInt_toInt64, nI_toInt (by omega)]
theorem hr_m2 {x z : Int32} {m : Nat} (hm : m ≤ 60) : (lg_cmp (x.toInt64 + z.toInt64) (nI m).toInt64 ≤ 0) ↔ ¬ (m : Int) < x.toInt + z.toInt := by
  rw [← hr_m hm, i32_nlt]
theorem wr_pre {α : Type} (m : Nat → Nat → α) (k lo n : Nat) (f : Nat → α) : hs_u (wr m k (lo + 1) n (fun z => f (z + 1))) k lo (f 0) = wr m k lo (n + 1) f := by
  funext a b
  simp only [hs_u, wr]
  by_cases h1 : a = k ∧ b = lo
  · rw [if_pos h1, if_pos (by omega)]; congr 1; omega
  · rw [if_neg h1]
    by_cases h2 : a = k ∧ lo + 1 ≤ b ∧ b < lo + 1 + n
    · rw [if_pos h2, if_pos (by omega)]; congr 1; omega
    · rw [if_neg h2, if_neg (by omega)]
theorem i11_0 : ((11 : Int32) = 0) = False := eq_false (by decide)
section PO
variable {scr : List Int32} {d rt st pt qt n np nr nl nb nq : Nat} {J : Nat → Nat → Int32} {L : Nat → Nat → Int64} {R : Nat → Nat → Nat}
theorem m203_up {a b i j w : Nat} (o11 : ok11 hs_S0 R 140) (ha : a < 4) (hb : b < 4) (h1 : i + w ≤ 60) (h2 : j + w ≤ 60) (hij : j ≤ i) : ∀ p q jk, q + p = w → hs_R scr d 203 158 [some (.ref 140), some (.int (nI a)), some (.int (nI i)), some (.int (nI b)), some (.int (nI j)), some (.int (nI w)), some (.int 0), some (.int (nI q)), jk] [] (hs_S0, J, wr L 143 (60 * b + j) q (fun z => L 143 (60 * a + i + z)), R) = some (some (.int 1), (hs_S0, J, wr L 143 (60 * b + j) w (fun z => L 143 (60 * a + i + z)), R))
  | 0, q, jk, h => by
    obtain rfl : q = w := by omega
    rw [b203_158, if_pos (nI_le (Nat.le_refl _) (by omega))]
  | p + 1, q, jk, h => by
    have hw := wr_s L 143 (60 * b + j) q (fun z => L 143 (60 * a + i + z))
    have hr : wr L 143 (60 * b + j) q (fun z => L 143 (60 * a + i + z)) 143 (60 * a + i + q) = L 143 (60 * a + i + q) := wr_out _ _ (by omega) _
    rw [b203_158, if_neg (nI_ge (by omega) (by omega)), if_pos rfl, b203_182 o11]
    simp (disch := omega) only [↓reduceIte, Nat.reduceAdd, f_ge, t_le, t_lt, f_lt, f_l0, t_0l, t_pl, t_eq, f_eq, f_e0, i10, i01, ib_nI, nI_clamp, nI_add, ad10, ad18, ad26, ad34, ad42, ad47, ad52, ad59, ad107, ad117, ml8, mr8, ml5, ml10, t2le, f60l, f4l, t4l, ml60, i30, i40, i3l0, i4l0, i1l0, f0m1, tm10, and_true, true_and, nI_1, hr, hw]
    exact m203_up o11 ha hb h1 h2 hij p (q + 1) _ (by omega)
theorem m203_dn {a b i j w : Nat} (o11 : ok11 hs_S0 R 140) (ha : a < 4) (hb : b < 4) (h1 : i + w ≤ 60) (h2 : j + w ≤ 60) (hij : i < j) : ∀ p q jk, q + p = w → hs_R scr d 203 158 [some (.ref 140), some (.int (nI a)), some (.int (nI i)), some (.int (nI b)), some (.int (nI j)), some (.int (nI w)), some (.int 1), some (.int (nI q)), jk] [] (hs_S0, J, wr L 143 (60 * b + j + p) q (fun z => L 143 (60 * a + i + p + z)), R) = some (some (.int 1), (hs_S0, J, wr L 143 (60 * b + j) w (fun z => L 143 (60 * a + i + z)), R))
  | 0, q, jk, h => by
    obtain rfl : q = w := by omega
    rw [b203_158, if_pos (nI_le (Nat.le_refl _) (by omega))]; rfl
  | p + 1, q, jk, h => by
    have hw := wr_pre L 143 (60 * b + j + p) q (fun z => L 143 (60 * a + i + p + z))
    have hr : wr L 143 (60 * b + j + (p + 1)) q (fun z => L 143 (60 * a + i + (p + 1) + z)) 143 (60 * a + i + p) = L 143 (60 * a + i + p) := wr_out _ _ (by omega) _
    have hs : nI w - 1 - nI q = nI p := by
      obtain ⟨w', rfl⟩ : ∃ w', w = w' + 1 := ⟨w - 1, by omega⟩
      rw [nI_pred, pk_sub (by omega)]; congr 1; omega
    have hf : (fun z => L 143 (60 * a + i + (p + 1) + z)) = (fun z => L 143 (60 * a + i + p + (z + 1))) := by
      funext z; congr 1; omega
    rw [b203_158, if_neg (nI_ge (by omega) (by omega)), if_neg (by decide), hs, b203_182 o11]
    simp (disch := omega) only [↓reduceIte, Nat.reduceAdd, f_ge, t_le, t_lt, f_lt, f_l0, t_0l, t_pl, t_eq, f_eq, f_e0, i10, i01, ib_nI, nI_clamp, nI_add, ad10, ad18, ad26, ad34, ad42, ad47, ad52, ad59, ad107, ad117, ml8, mr8, ml5, ml10, t2le, f60l, f4l, t4l, ml60, i30, i40, i3l0, i4l0, i1l0, f0m1, tm10, and_true, true_and, nI_1, hr]
    rw [hf]
    have hw2 : hs_u (wr L 143 (60 * b + j + (p + 1)) q (fun z => L 143 (60 * a + i + p + (z + 1)))) 143 (60 * b + j + p) (L 143 (60 * a + i + p)) = wr L 143 (60 * b + j + p) (q + 1) (fun z => L 143 (60 * a + i + p + z)) := hw
    rw [hw2]
    exact m203_dn o11 ha hb h1 h2 hij p (q + 1) _ (by omega)
theorem ca6 : CA6 scr hs_S0 Rel 99 := by
  intro x1 x2 x3 x4 x5 I L R hP
  obtain ⟨rt, st, pt, qt, n, np, nr, nl, nb, nq, hA⟩ := hP; obtain ⟨hE, ⟨⟨hn8, hc0, hx0, hh⟩, ⟨hp5, hc1, hx1, hpp⟩, ⟨hr6, hc2, hx2, hrr, hru⟩, ⟨hl6, hc3, hx3, hll⟩, ⟨hb6, hq10, hc4, hx4, hc5, hx5, hqq⟩, hD, hN, hG⟩, hT, hTx, hM, hK⟩ := id hA; have o10 := k10_2 hE.1; have o11 := k11_140 hE.1; have o4 := Env_4 hE; have o1 : ok1 hs_S0 R (rt + 5) := o4.2.2.2.2.2.1; have r10_8 := hE.2.1; have hrt := hE.2.2.2.2.2.1; have hpt := hE.2.2.2.2.2.2
  rcases ix x1 (n := 4) (by omega) with hx | ⟨a, ha, rfl⟩
  · refine CK_st hA 0 1 ?_ ?_
    · simp (disch := omega) only [Option.bind_some, Option.toList_some, Option.toList_none, List.append_nil, List.cons_append, List.nil_append, ↓reduceIte, true_or, or_true, Nat.reduceAdd, Nat.add_assoc, f_ge, t_le, t_lt, f_lt, f_l0, t_0l, t_pl, t_eq, f_eq, f_e0, i10, i01, ib_nI, nI_clamp, nI_add, ad10, ad18, ad26, ad34, ad42, ad47, ad52, ad59, ad107, ad117, ml8, mr8, ml5, ml10, hu_same, hu_row, hu_at, hu_hu, e29, b29_0, b29_4, b29_11 o10, b29_14 o10, b29_19, b29_26 o10, b29_52 o10, b29_57, b29_77, b29_89, b29_113 o10, b29_118, b29_141, e18, b18_0 o10, s17n hx]
    · rw [e203, b203_0 o11, out_k (m := 4) hx rfl]
      simp (disch := first | omega | (simp (disch := omega) only [hu_same, hu_row, hu_at, hu_hu, hc0, hc1, hc2, hc3, hc4, hc5]; done)) only [Option.bind_some, Option.toList_some, Option.toList_none, List.append_nil, List.cons_append, List.nil_append, ↓reduceIte, true_or, or_true, Nat.reduceAdd, Nat.add_assoc, f_ge, t_le, t_lt, f_lt, f_l0, t_0l, t_pl, t_eq, f_eq, f_e0, i10, i01, ib_nI, nI_clamp, nI_add, ad10, ad18, ad26, ad34, ad42, ad47, ad52, ad59, ad107, ad117, ml8, mr8, ml5, ml10, hu_same, hu_row, hu_at, hu_hu, b203_28 o11, b203_33, b203_52 o11, b203_57, b203_79, b203_91, b203_136 o11, b203_141, b203_153, e197, b197_0 o11]
  rcases ix x3 (n := 4) (by omega) with hx | ⟨b, hb, rfl⟩
  · refine CK_st hA 0 1 ?_ ?_
    · simp (disch := omega) only [Option.bind_some, Option.toList_some, Option.toList_none, List.append_nil, List.cons_append, List.nil_append, ↓reduceIte, true_or, or_true, Nat.reduceAdd, Nat.add_assoc, f_ge, t_le, t_lt, f_lt, f_l0, t_0l, t_pl, t_eq, f_eq, f_e0, i10, i01, ib_nI, nI_clamp, nI_add, ad10, ad18, ad26, ad34, ad42, ad47, ad52, ad59, ad107, ad117, ml8, mr8, ml5, ml10, hu_same, hu_row, hu_at, hu_hu, e29, b29_0, b29_4, b29_11 o10, b29_14 o10, b29_19, b29_26 o10, b29_52 o10, b29_57, b29_77, b29_89, b29_113 o10, b29_118, b29_141, e18, b18_0 o10, s17y ha, s17n hx]
    · rw [e203, b203_0 o11, if_neg (nI_pos (by omega)), if_neg (show ¬ (4 : Int32) ≤ nI a from nI_ge (b := 4) (by omega) (by omega)), out_l (m := 4) hx rfl]
      simp (disch := first | omega | (simp (disch := omega) only [hu_same, hu_row, hu_at, hu_hu, hc0, hc1, hc2, hc3, hc4, hc5]; done)) only [Option.bind_some, Option.toList_some, Option.toList_none, List.append_nil, List.cons_append, List.nil_append, ↓reduceIte, true_or, or_true, Nat.reduceAdd, Nat.add_assoc, f_ge, t_le, t_lt, f_lt, f_l0, t_0l, t_pl, t_eq, f_eq, f_e0, i10, i01, ib_nI, nI_clamp, nI_add, ad10, ad18, ad26, ad34, ad42, ad47, ad52, ad59, ad107, ad117, ml8, mr8, ml5, ml10, hu_same, hu_row, hu_at, hu_hu, t2le, f60l, f4l, t4l, ml60, i30, i40, i3l0, i4l0, i1l0, f0m1, tm10, and_true, true_and, b203_28 o11, b203_33, b203_52 o11, b203_57, b203_79, b203_91, b203_136 o11, b203_141, b203_153, e197, b197_0 o11]
  obtain ⟨ra, o9a⟩ := Rc_tray hE.1 ha
  obtain ⟨rb, o9b⟩ := Rc_tray hE.1 hb
  obtain ⟨u1, ⟨s, hs, u1b⟩, u2, u3⟩ := hT a ha
  obtain ⟨v1, ⟨s', hs', v1b⟩, v2, v3⟩ := hT b hb
  rcases u3 with u3 | ⟨m, hm, u3, u4⟩
  · refine CK_st hA 0 3 ?_ ?_
    · simp (disch := omega) only [Option.bind_some, Option.toList_some, Option.toList_none, List.append_nil, List.cons_append, List.nil_append, ↓reduceIte, true_or, or_true, Nat.reduceAdd, Nat.add_assoc, f_ge, t_le, t_lt, f_lt, f_l0, t_0l, t_pl, t_eq, f_eq, f_e0, i10, i01, ib_nI, nI_clamp, nI_add, ad10, ad18, ad26, ad34, ad42, ad47, ad52, ad59, ad107, ad117, ml8, mr8, ml5, ml10, hu_same, hu_row, hu_at, hu_hu, t2le, f60l, f4l, t4l, ml60, i30, i40, i3l0, i4l0, i1l0, f0m1, tm10, and_true, true_and, e29, b29_0, b29_4, b29_11 o10, b29_14 o10, b29_19, b29_26 o10, b29_34 o9a, b29_41 o9b, b29_52 o10, b29_57, b29_77, b29_89, b29_113 o10, b29_118, b29_141, e23, b23_0 o9a, b23_12, e18, b18_0 o10, s17y ha, s17y hb, ra, rb, u2, u3]
    · simp (disch := first | omega | (simp (disch := omega) only [hu_same, hu_row, hu_at, hu_hu, hc0, hc1, hc2, hc3, hc4, hc5]; done)) only [Option.bind_some, Option.toList_some, Option.toList_none, List.append_nil, List.cons_append, List.nil_append, ↓reduceIte, true_or, or_true, Nat.reduceAdd, Nat.add_assoc, f_ge, t_le, t_lt, f_lt, f_l0, t_0l, t_pl, t_eq, f_eq, f_e0, i10, i01, ib_nI, nI_clamp, nI_add, ad10, ad18, ad26, ad34, ad42, ad47, ad52, ad59, ad107, ad117, ml8, mr8, ml5, ml10, hu_same, hu_row, hu_at, hu_hu, t2le, f60l, f4l, t4l, ml60, i30, i40, i3l0, i4l0, i1l0, f0m1, tm10, and_true, true_and, e203, b203_0 o11, b203_28 o11, b203_33, b203_52 o11, b203_57, b203_79, b203_91, b203_136 o11, b203_141, b203_153, e197, b197_0 o11, u3]
  rcases v3 with v3 | ⟨m', hm', v3, v4⟩
  · refine CK_st hA 0 3 ?_ ?_
    · simp (disch := omega) only [Option.bind_some, Option.toList_some, Option.toList_none, List.append_nil, List.cons_append, List.nil_append, ↓reduceIte, true_or, or_true, Nat.reduceAdd, Nat.add_assoc, f_ge, t_le, t_lt, f_lt, f_l0, t_0l, t_pl, t_eq, f_eq, f_e0, i10, i01, ib_nI, nI_clamp, nI_add, ad10, ad18, ad26, ad34, ad42, ad47, ad52, ad59, ad107, ad117, ml8, mr8, ml5, ml10, hu_same, hu_row, hu_at, hu_hu, t2le, f60l, f4l, t4l, ml60, i30, i40, i3l0, i4l0, i1l0, f0m1, tm10, and_true, true_and, e29, b29_0, b29_4, b29_11 o10, b29_14 o10, b29_19, b29_26 o10, b29_34 o9a, b29_41 o9b, b29_49 o9a o9b o10, b29_52 o10, b29_57, b29_77, b29_89, b29_113 o10, b29_118, b29_141, e18, b18_0 o10, e23, b23_0 o9a, b23_12, e23, b23_0 o9b, b23_12, s17y ha, s17y hb, ra, rb, u2, u3, v2, v3]
    · simp (disch := first | omega | (simp (disch := omega) only [hu_same, hu_row, hu_at, hu_hu, hc0, hc1, hc2, hc3, hc4, hc5]; done)) only [Option.bind_some, Option.toList_some, Option.toList_none, List.append_nil, List.cons_append, List.nil_append, ↓reduceIte, true_or, or_true, Nat.reduceAdd, Nat.add_assoc, f_ge, t_le, t_lt, f_lt, f_l0, t_0l, t_pl, t_eq, f_eq, f_e0, i10, i01, ib_nI, nI_clamp, nI_add, ad10, ad18, ad26, ad34, ad42, ad47, ad52, ad59, ad107, ad117, ml8, mr8, ml5, ml10, hu_same, hu_row, hu_at, hu_hu, t2le, f60l, f4l, t4l, ml60, i30, i40, i3l0, i4l0, i1l0, f0m1, tm10, and_true, true_and, e203, b203_0 o11, b203_28 o11, b203_33, b203_52 o11, b203_57, b203_79, b203_91, b203_136 o11, b203_141, b203_153, e197, b197_0 o11, u3, v3]
  by_cases hss : I 141 a = I 141 b
  case neg =>
    refine CK_st hA 0 11 ?_ ?_
    · simp (disch := omega) only [Option.bind_some, Option.toList_some, Option.toList_none, List.append_nil, List.cons_append, List.nil_append, ↓reduceIte, true_or, or_true, Nat.reduceAdd, Nat.add_assoc, f_ge, t_le, t_lt, f_lt, f_l0, t_0l, t_pl, t_eq, f_eq, f_e0, i10, i01, ib_nI, nI_clamp, nI_add, ad10, ad18, ad26, ad34, ad42, ad47, ad52, ad59, ad107, ad117, ml8, mr8, ml5, ml10, hu_same, hu_row, hu_at, hu_hu, t2le, f60l, f4l, t4l, ml60, i30, i40, i3l0, i4l0, i1l0, f0m1, tm10, and_true, true_and, e29, b29_0, b29_4, b29_11 o10, b29_14 o10, b29_19, b29_26 o10, b29_34 o9a, b29_41 o9b, b29_49 o9a o9b o10, b29_52 o10, b29_57, b29_77, b29_89, b29_113 o10, b29_118, b29_141, e18, b18_0 o10, e23, b23_0 o9a, b23_12, e23, b23_0 o9b, b23_12, s17y ha, s17y hb, ra, rb, u2, u3, v2, v3, u1, v1, hss]
    · simp (disch := first | omega | (simp (disch := omega) only [hu_same, hu_row, hu_at, hu_hu, hc0, hc1, hc2, hc3, hc4, hc5]; done)) only [Option.bind_some, Option.toList_some, Option.toList_none, List.append_nil, List.cons_append, List.nil_append, ↓reduceIte, true_or, or_true, Nat.reduceAdd, Nat.add_assoc, f_ge, t_le, t_lt, f_lt, f_l0, t_0l, t_pl, t_eq, f_eq, f_e0, i10, i01, ib_nI, nI_clamp, nI_add, ad10, ad18, ad26, ad34, ad42, ad47, ad52, ad59, ad107, ad117, ml8, mr8, ml5, ml10, hu_same, hu_row, hu_at, hu_hu, t2le, f60l, f4l, t4l, ml60, i30, i40, i3l0, i4l0, i1l0, f0m1, tm10, and_true, true_and, e203, b203_0 o11, b203_28 o11, b203_33, b203_52 o11, b203_57, b203_79, b203_91, b203_136 o11, b203_141, b203_153, e197, b197_0 o11, u3, v3, hss]
  by_cases h5 : 0 ≤ x5
  case neg =>
    refine CK_st hA 0 6 ?_ ?_
    · simp (disch := omega) only [Option.bind_some, Option.toList_some, Option.toList_none, List.append_nil, List.cons_append, List.nil_append, ↓reduceIte, true_or, or_true, Nat.reduceAdd, Nat.add_assoc, f_ge, t_le, t_lt, f_lt, f_l0, t_0l, t_pl, t_eq, f_eq, f_e0, i10, i01, ib_nI, nI_clamp, nI_add, ad10, ad18, ad26, ad34, ad42, ad47, ad52, ad59, ad107, ad117, ml8, mr8, ml5, ml10, hu_same, hu_row, hu_at, hu_hu, t2le, f60l, f4l, t4l, ml60, i30, i40, i3l0, i4l0, i1l0, f0m1, tm10, and_true, true_and, e29, b29_0, b29_4, b29_11 o10, b29_14 o10, b29_19, b29_26 o10, b29_34 o9a, b29_41 o9b, b29_49 o9a o9b o10, b29_52 o10, b29_57, b29_77, b29_89, b29_113 o10, b29_118, b29_141, e18, b18_0 o10, e23, b23_0 o9a, b23_12, e23, b23_0 o9b, b23_12, s17y ha, s17y hb, ra, rb, u2, u3, v2, v3, u1, v1, hss, h5]
    · simp (disch := first | omega | (simp (disch := omega) only [hu_same, hu_row, hu_at, hu_hu, hc0, hc1, hc2, hc3, hc4, hc5]; done)) only [Option.bind_some, Option.toList_some, Option.toList_none, List.append_nil, List.cons_append, List.nil_append, ↓reduceIte, true_or, or_true, Nat.reduceAdd, Nat.add_assoc, f_ge, t_le, t_lt, f_lt, f_l0, t_0l, t_pl, t_eq, f_eq, f_e0, i10, i01, ib_nI, nI_clamp, nI_add, ad10, ad18, ad26, ad34, ad42, ad47, ad52, ad59, ad107, ad117, ml8, mr8, ml5, ml10, hu_same, hu_row, hu_at, hu_hu, t2le, f60l, f4l, t4l, ml60, i30, i40, i3l0, i4l0, i1l0, f0m1, tm10, and_true, true_and, e203, b203_0 o11, b203_28 o11, b203_33, b203_52 o11, b203_57, b203_79, b203_91, b203_136 o11, b203_141, b203_153, e197, b197_0 o11, u3, v3, hss, h5]
  have h5i : 0 ≤ x5.toInt := by rw [Int32.le_iff_toInt_le] at h5; exact h5
  have x30a : hs_C scr 98 30 [.ref (66 + 2 * a), .int x2, .int x5] (hs_S0, I, L, R) = some (some (.int (if x2 < 0 ∨ (m : Int) < x2.toInt + x5.toInt then 0 else 1)), (hs_S0, I, L, R)) := by
    rw [e30, b30_0 o9a, u2, u3]
    simp only [hr_x hm h5i, b30_18, b30_19, Option.bind_some, Option.toList_some, Option.toList_none, List.append_nil, List.cons_append, List.nil_append, ↓reduceIte, true_or, or_true, Nat.reduceAdd, Nat.add_assoc]
    by_cases q1 : x2 < 0
    · simp only [q1, Option.bind_some, Option.toList_some, Option.toList_none, List.append_nil, List.cons_append, List.nil_append, ↓reduceIte, true_or, or_true, Nat.reduceAdd, Nat.add_assoc]
    · by_cases q2 : (m : Int) < x2.toInt + x5.toInt <;> simp only [q1, q2, false_or, Option.bind_some, Option.toList_some, Option.toList_none, List.append_nil, List.cons_append, List.nil_append, ↓reduceIte, true_or, or_true, Nat.reduceAdd, Nat.add_assoc]
  have x30b : hs_C scr 98 30 [.ref (66 + 2 * b), .int x4, .int x5] (hs_S0, I, L, R) = some (some (.int (if x4 < 0 ∨ (m' : Int) < x4.toInt + x5.toInt then 0 else 1)), (hs_S0, I, L, R)) := by
    rw [e30, b30_0 o9b, v2, v3]
    simp only [hr_x hm' h5i, b30_18, b30_19, Option.bind_some, Option.toList_some, Option.toList_none, List.append_nil, List.cons_append, List.nil_append, ↓reduceIte, true_or, or_true, Nat.reduceAdd, Nat.add_assoc]
    by_cases q1 : x4 < 0
    · simp only [q1, Option.bind_some, Option.toList_some, Option.toList_none, List.append_nil, List.cons_append, List.nil_append, ↓reduceIte, true_or, or_true, Nat.reduceAdd, Nat.add_assoc]
    · by_cases q2 : (m' : Int) < x4.toInt + x5.toInt <;> simp only [q1, q2, false_or, Option.bind_some, Option.toList_some, Option.toList_none, List.append_nil, List.cons_append, List.nil_append, ↓reduceIte, true_or, or_true, Nat.reduceAdd, Nat.add_assoc]
  by_cases hbad : (x2 < 0 ∨ (m : Int) < x2.toInt + x5.toInt) ∨ (x4 < 0 ∨ (m' : Int) < x4.toInt + x5.toInt)
  · refine CK_st hA 0 4 ?_ ?_
    · by_cases q1 : (x2 < 0 ∨ (m : Int) < x2.toInt + x5.toInt)
      · simp (disch := omega) only [Option.bind_some, Option.toList_some, Option.toList_none, List.append_nil, List.cons_append, List.nil_append, ↓reduceIte, true_or, or_true, Nat.reduceAdd, Nat.add_assoc, f_ge, t_le, t_lt, f_lt, f_l0, t_0l, t_pl, t_eq, f_eq, f_e0, i10, i01, ib_nI, nI_clamp, nI_add, ad10, ad18, ad26, ad34, ad42, ad47, ad52, ad59, ad107, ad117, ml8, mr8, ml5, ml10, hu_same, hu_row, hu_at, hu_hu, t2le, f60l, f4l, t4l, ml60, i30, i40, i3l0, i4l0, i1l0, f0m1, tm10, and_true, true_and, e29, b29_0, b29_4, b29_11 o10, b29_14 o10, b29_19, b29_26 o10, b29_34 o9a, b29_41 o9b, b29_49 o9a o9b o10, b29_52 o10, b29_57, b29_77, b29_89, b29_98 o9b, b29_113 o10, b29_118, b29_141, e18, b18_0 o10, e23, b23_0 o9a, b23_12, e23, b23_0 o9b, b23_12, s17y ha, s17y hb, ra, rb, u2, u3, v2, v3, u1, v1, hss, h5, x30a, q1]
      · simp (disch := omega) only [Option.bind_some, Option.toList_some, Option.toList_none, List.append_nil, List.cons_append, List.nil_append, ↓reduceIte, true_or, or_true, Nat.reduceAdd, Nat.add_assoc, f_ge, t_le, t_lt, f_lt, f_l0, t_0l, t_pl, t_eq, f_eq, f_e0, i10, i01, ib_nI, nI_clamp, nI_add, ad10, ad18, ad26, ad34, ad42, ad47, ad52, ad59, ad107, ad117, ml8, mr8, ml5, ml10, hu_same, hu_row, hu_at, hu_hu, t2le, f60l, f4l, t4l, ml60, i30, i40, i3l0, i4l0, i1l0, f0m1, tm10, and_true, true_and, e29, b29_0, b29_4, b29_11 o10, b29_14 o10, b29_19, b29_26 o10, b29_34 o9a, b29_41 o9b, b29_49 o9a o9b o10, b29_52 o10, b29_57, b29_77, b29_89, b29_98 o9b, b29_110 o9a o9b o10, b29_113 o10, b29_118, b29_141, e18, b18_0 o10, e23, b23_0 o9a, b23_12, e23, b23_0 o9b, b23_12, s17y ha, s17y hb, ra, rb, u2, u3, v2, v3, u1, v1, hss, h5, x30a, x30b, q1, hbad.resolve_left q1]
    · have hq : ∀ {α : Type} (A B : α), (if x2 < 0 then A else if x4 < 0 then A else if (m : Int) < x2.toInt + x5.toInt then A else if ¬ (m' : Int) < x4.toInt + x5.toInt then B else A) = A := by
        intro α A B
        by_cases q1 : x2 < 0
        · exact if_pos q1
        · rw [if_neg q1]
          by_cases q2 : x4 < 0
          · exact if_pos q2
          · rw [if_neg q2]
            by_cases q3 : (m : Int) < x2.toInt + x5.toInt
            · exact if_pos q3
            · rw [if_neg q3, if_neg]
              intro q4; rcases hbad with (g | g) | (g | g) <;> contradiction
      simp (disch := first | omega | (simp (disch := omega) only [hu_same, hu_row, hu_at, hu_hu, hc0, hc1, hc2, hc3, hc4, hc5]; done)) only [Option.bind_some, Option.toList_some, Option.toList_none, List.append_nil, List.cons_append, List.nil_append, ↓reduceIte, true_or, or_true, Nat.reduceAdd, Nat.add_assoc, f_ge, t_le, t_lt, f_lt, f_l0, t_0l, t_pl, t_eq, f_eq, f_e0, i10, i01, ib_nI, nI_clamp, nI_add, ad10, ad18, ad26, ad34, ad42, ad47, ad52, ad59, ad107, ad117, ml8, mr8, ml5, ml10, hu_same, hu_row, hu_at, hu_hu, t2le, f60l, f4l, t4l, ml60, i30, i40, i3l0, i4l0, i1l0, f0m1, tm10, and_true, true_and, e203, b203_0 o11, b203_28 o11, b203_33, b203_52 o11, b203_57, b203_79, b203_91, b203_136 o11, b203_141, b203_153, e197, b197_0 o11, u3, v3, hss, h5, hr_m hm, hr_m2 hm', hq]
  · have n1 : ¬ x2 < 0 := fun q => hbad (Or.inl (Or.inl q))
    have n2 : ¬ (m : Int) < x2.toInt + x5.toInt := fun q => hbad (Or.inl (Or.inr q))
    have n3 : ¬ x4 < 0 := fun q => hbad (Or.inr (Or.inl q))
    have n4 : ¬ (m' : Int) < x4.toInt + x5.toInt := fun q => hbad (Or.inr (Or.inr q))
    obtain ⟨i, hi0, rfl⟩ := nI_of n1
    obtain ⟨j, hj0, rfl⟩ := nI_of n3
    obtain ⟨w, hw0, rfl⟩ := nI_of ((i32_nlt _ _).mpr h5)
    rw [nI_toInt hi0, nI_toInt hw0] at n2
    rw [nI_toInt hj0, nI_toInt hw0] at n4
    have g1 : i + w ≤ m := by omega
    have g2 : j + w ≤ m' := by omega
    have z1 : ¬ (nI i < 0 ∨ (m : Int) < (nI i).toInt + (nI w).toInt) := fun q => hbad (Or.inl q)
    have z2 : ¬ (nI j < 0 ∨ (m' : Int) < (nI j).toInt + (nI w).toInt) := fun q => hbad (Or.inr q)
    have z3 : ¬ (m : Int) < (nI i).toInt + (nI w).toInt := fun q => z1 (Or.inr q)
    have z4 : ¬ (m' : Int) < (nI j).toInt + (nI w).toInt := fun q => z2 (Or.inr q)
    refine ⟨1, hs_u I 2 16 0, hs_cpy L (66 + 2 * a + 1) (66 + 2 * b + 1) i j w, R, hs_u (hs_u (hs_u I 2 16 0) 140 1 0) 140 0 0, wr (hs_cpy L (66 + 2 * a + 1) (66 + 2 * b + 1) i j w) 143 (60 * b + j) w (fun z => (hs_cpy L (66 + 2 * a + 1) (66 + 2 * b + 1) i j w) 143 (60 * a + i + z)), R, ?_, o11, ?_, ?_⟩
    · have e1 : nI i < 0 ↔ False := iff_false_intro n1
      have e3 : nI j < 0 ↔ False := iff_false_intro n3
      have e5 : nI w < 0 ↔ False := iff_false_intro ((i32_nlt _ _).mpr h5)
      have e6 : i + w ≤ 60 := by omega
      have e7 : j + w ≤ 60 := by omega
      simp (disch := omega) only [Option.bind_some, Option.toList_some, Option.toList_none, List.append_nil, List.cons_append, List.nil_append, ↓reduceIte, true_or, or_true, Nat.reduceAdd, Nat.add_assoc, f_ge, t_le, t_lt, f_lt, f_l0, t_0l, t_pl, t_eq, f_eq, f_e0, i10, i01, ib_nI, nI_clamp, nI_add, ad10, ad18, ad26, ad34, ad42, ad47, ad52, ad59, ad107, ad117, ml8, mr8, ml5, ml10, hu_same, hu_row, hu_at, hu_hu, t2le, f60l, f4l, t4l, ml60, i30, i40, i3l0, i4l0, i1l0, f0m1, tm10, and_true, true_and, e29, b29_0, b29_4, b29_11 o10, b29_14 o10, b29_19, b29_26 o10, b29_34 o9a, b29_41 o9b, b29_49 o9a o9b o10, b29_52 o10, b29_57, b29_77, b29_89, b29_98 o9b, b29_110 o9a o9b o10, b29_113 o10, b29_118, b29_141, e20, b20_0 o10, e23, b23_0 o9a, b23_12, e23, b23_0 o9b, b23_12, s17y ha, s17y hb, ra, rb, u2, u3, v2, v3, u1, v1, hss, h5, x30a, x30b, z1, z2, z3, z4, false_or, not_false_eq_true, e6, e7]
    · simp (disch := first | omega | (simp (disch := omega) only [hu_same, hu_row, hu_at, hu_hu, hc0, hc1, hc2, hc3, hc4, hc5]; done)) only [Option.bind_some, Option.toList_some, Option.toList_none, List.append_nil, List.cons_append, List.nil_append, ↓reduceIte, true_or, or_true, Nat.reduceAdd, Nat.add_assoc, f_ge, t_le, t_lt, f_lt, f_l0, t_0l, t_pl, t_eq, f_eq, f_e0, i10, i01, ib_nI, nI_clamp, nI_add, ad10, ad18, ad26, ad34, ad42, ad47, ad52, ad59, ad107, ad117, ml8, mr8, ml5, ml10, hu_same, hu_row, hu_at, hu_hu, t2le, f60l, f4l, t4l, ml60, i30, i40, i3l0, i4l0, i1l0, f0m1, tm10, and_true, true_and, e203, b203_0 o11, b203_28 o11, b203_33, b203_52 o11, b203_57, b203_79, b203_91, b203_136 o11, b203_141, b203_153, e197, b197_0 o11, u3, v3, hss, h5, hr_m hm, hr_m2 hm', z3, z4, not_false_eq_true]
      simp only [← Nat.add_assoc]
      by_cases hij : j ≤ i
      · rw [if_pos (nI_le hij (by omega))]
        have := m203_up (scr := scr) (d := 99) (J := hs_u (hs_u (hs_u I 2 16 0) 140 1 0) 140 0 0) (L := hs_cpy L (66 + 2 * a + 1) (66 + 2 * b + 1) i j w) o11 ha hb (show i + w ≤ 60 by omega) (show j + w ≤ 60 by omega) hij w 0 none (by omega)
        rw [wr_0] at this
        exact this
      · rw [if_neg (nI_ge (by omega) (by omega))]
        have := m203_dn (scr := scr) (d := 99) (J := hs_u (hs_u (hs_u I 2 16 0) 140 1 0) 140 0 0) (L := hs_cpy L (66 + 2 * a + 1) (66 + 2 * b + 1) i j w) o11 ha hb (show i + w ≤ 60 by omega) (show j + w ≤ 60 by omega) (show i < j by omega) w 0 none (by omega)
        rw [wr_0] at this
        exact this
    · have cr : ∀ k, k ≠ 66 + 2 * b + 1 → hs_cpy L (66 + 2 * a + 1) (66 + 2 * b + 1) i j w k = L k := by
        intro k hk; funext z; simp only [hs_cpy, hs_z]; rw [if_neg hk]
      have cb : hs_cpy L (66 + 2 * a + 1) (66 + 2 * b + 1) i j w (66 + 2 * b + 1) = va_cpy (L (66 + 2 * a + 1)) (L (66 + 2 * b + 1)) i j w := by
        funext z; simp only [hs_cpy, hs_z, ↓reduceIte]
      refine Rel_t hA ?_ (fun k h1 h2 h3 h4 h5 => by simp (disch := omega) only [hu_same, hu_row, hu_at, hu_hu]) (fun k h1 h2 => by rw [wr_row _ _ h1, cr _ (by omega)]) (fun f hf => by simp (disch := omega) only [hu_same, hu_row, hu_at, hu_hu]) (fun f h1 h2 => by simp (disch := omega) only [hu_same, hu_row, hu_at, hu_hu]) (by simp (disch := omega) only [hu_same, hu_row, hu_at, hu_hu])
      intro q hq
      have g := hT q hq
      simp (disch := omega) only [hu_same, hu_row, hu_at, hu_hu]
      refine ⟨g.1, g.2.1, g.2.2.1, ?_⟩
      rcases g.2.2.2 with g | ⟨m2, y1, y2, y3⟩
      · exact Or.inl g
      · refine Or.inr ⟨m2, y1, y2, fun p hp => ?_⟩
        rw [wr_row _ _ (show 67 + 2 * q ≠ 143 by omega), cr 143 (by omega)]
        by_cases e : q = b
        · subst e
          have hmm : m2 = m' := (nI_eq (by omega) (by omega)).mp (y2.symm.trans v3)
          subst hmm
          rw [show 67 + 2 * q = 66 + 2 * q + 1 by omega, cb]
          by_cases e2 : j ≤ p ∧ p < j + w
          · rw [pk_cpy_in e2.1 e2.2, wr_in _ _ (by omega)]
            have := u4 (i + (p - j)) (by omega)
            rw [show 67 + 2 * a = 66 + 2 * a + 1 by omega] at this
            rw [this]; congr 1; omega
          · rw [pk_cpy_out (by omega), wr_out _ _ (by omega), cr 143 (by omega)]
            have := y3 p hp
            rw [show 67 + 2 * q = 66 + 2 * q + 1 by omega] at this
            exact this
        · rw [cr _ (by omega), wr_out _ _ (by omega), cr 143 (by omega)]
          exact y3 p hp
end PO
