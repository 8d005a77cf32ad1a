/-! copyLengths, feed -/
section CP
variable {scr : List Int32} {d t rt st pt qt n np nr nl nb nq : Nat} {c : Nat → Int32} {I I' : Nat → Nat → Int32} {L L' : Nat → Nat → Int64} {R : Nat → Nat → Nat}
theorem x98_loop {k m s : Nat} (o10 : ok10 hs_S0 R 2) (o1 : ok1 hs_S0 R (rt + 5)) (o9 : ok9 hs_S0 R t) (hH : RH n c I rt) (hs : s ≤ 3) (h1 : I t 1 = nI s) (h2 : I t 2 = nI m) (hm : m ≤ 60) (hnm : n ≤ m) : ∀ p i, i + p = n → hs_R scr (d + 2) 98 62 [some (.ref 2), some (.int (nI k)), some (.ref t), some (.ref (rt + 5)), some (.int (nI i))] [] (hs_S0, I, wr L (t + 1) 0 i (fun j => cutv (nI s) (c (10 + j)).toInt64), R) = some (some (.int (nI n)), (hs_S0, hs_u I 2 16 0, wr L (t + 1) 0 n (fun j => cutv (nI s) (c (10 + j)).toInt64), R))
  | 0, i, h => by
    obtain rfl : i = n := by omega
    have hx0 := hH.2.2.1
    rw [b98_62 o1 o10 o9]
    simp (disch := omega) only [Option.bind_some, Option.toList_some, Option.toList_none, List.append_nil, List.cons_append, List.nil_append, ↓reduceIte, true_or, or_true, Nat.reduceAdd, Nat.add_assoc, f_ge, t_le, t_lt, f_lt, f_l0, t_0l, t_pl, t_eq, f_eq, f_e0, i10, i01, ib_nI, nI_clamp, nI_add, ad10, ad18, ad26, ad34, ad42, ad47, ad52, ad59, ad107, ad117, ml8, mr8, ml5, ml10, hu_same, hu_row, hu_at, hu_hu, hx0, b98_99, e68, b68_0 o10]
  | p + 1, i, h => by
    have hx0 := hH.2.2.1
    have hn := hH.1
    have hi := (hH.2.2.2 i (by omega)).1
    have hw := wr_s L (t + 1) 0 i (fun j => cutv (nI s) (c (10 + j)).toInt64)
    rw [Nat.zero_add] at hw
    rw [b98_62 o1 o10 o9]
    simp (disch := omega) only [Option.bind_some, Option.toList_some, Option.toList_none, List.append_nil, List.cons_append, List.nil_append, ↓reduceIte, true_or, or_true, Nat.reduceAdd, Nat.add_assoc, f_ge, t_le, t_lt, f_lt, f_l0, t_0l, t_pl, t_eq, f_eq, f_e0, i10, i01, ib_nI, nI_clamp, nI_add, ad10, ad18, ad26, ad34, ad42, ad47, ad52, ad59, ad107, ad117, ml8, mr8, ml5, ml10, hu_same, hu_row, hu_at, hu_hu, hx0, hi, b98_85, nI_1, x25 (v := (c (10 + i)).toInt64) o9 hs h1 h2 hm (show i < m by omega), hw]
    exact x98_loop o10 o1 o9 hH hs h1 h2 hm hnm p (i + 1) (by omega)
theorem m281_loop {k m s : Nat} (o11 : ok11 hs_S0 R 140) (hk : k < 4) (hc0 : I 145 0 = nI n) (hn : n ≤ 8) (h1 : I 141 k = nI s) (h2 : I 142 k = nI m) (hm : m ≤ 60) (hnm : n ≤ m) (h3 : hs_u (hs_u I 140 1 0) 140 0 0 = I) : ∀ p i, i + p = n → hs_R scr (d + 3) 281 62 [some (.ref 140), some (.int (nI k)), some (.int (nI i))] [] (hs_S0, I, wr L 143 (60 * k) i (fun j => cutv (nI s) (I 145 (10 + j)).toInt64), R) = some (some (.int (nI n)), (hs_S0, I, wr L 143 (60 * k) n (fun j => cutv (nI s) (I 145 (10 + j)).toInt64), R))
  | 0, i, h => by
    obtain rfl : i = n := by omega
    rw [b281_62 o11]
    simp (disch := omega) only [Option.bind_some, Option.toList_some, Option.toList_none, List.append_nil, List.cons_append, List.nil_append, ↓reduceIte, true_or, or_true, Nat.reduceAdd, Nat.add_assoc, f_ge, t_le, t_lt, f_lt, f_l0, t_0l, t_pl, t_eq, f_eq, f_e0, i10, i01, ib_nI, nI_clamp, nI_add, ad10, ad18, ad26, ad34, ad42, ad47, ad52, ad59, ad107, ad117, ml8, mr8, ml5, ml10, hu_same, hu_row, hu_at, hu_hu, hc0]
  | p + 1, i, h => by
    have hw := wr_s L 143 (60 * k) i (fun j => cutv (nI s) (I 145 (10 + j)).toInt64)
    rw [b281_62 o11]
    simp (disch := omega) only [Option.bind_some, Option.toList_some, Option.toList_none, List.append_nil, List.cons_append, List.nil_append, ↓reduceIte, true_or, or_true, Nat.reduceAdd, Nat.add_assoc, f_ge, t_le, t_lt, f_lt, f_l0, t_0l, t_pl, t_eq, f_eq, f_e0, i10, i01, ib_nI, nI_clamp, nI_add, ad10, ad18, ad26, ad34, ad42, ad47, ad52, ad59, ad107, ad117, ml8, mr8, ml5, ml10, hc0, b281_88, nI_1, m198y (v := (I 145 (10 + i)).toInt64) hk o11 h2 hm (show i < m by omega), h3, h1, hw]
    exact m281_loop o11 hk hc0 hn h1 h2 hm hnm h3 p (i + 1) (by omega)
theorem ca18 : CA18 scr hs_S0 Rel 99 := by
  intro x I L R hP
  obtain ⟨rt, st, pt, qt, n, np, nr, nl, nb, nq, hA⟩ := hP; obtain ⟨hE, ⟨⟨hn8, hc0, hx0, hh⟩, ⟨hp5, hc1, hx1, hpp⟩, ⟨hr6, hc2, hx2, hrr, hru⟩, ⟨hl6, hc3, hx3, hll⟩, ⟨hb6, hq10, hc4, hx4, hc5, hx5, hqq⟩, hD, hN, hG⟩, hT, hTx, hM, hK⟩ := id hA; have o10 := k10_2 hE.1; have o11 := k11_140 hE.1; have o4 := Env_4 hE; have o1 : ok1 hs_S0 R (rt + 5) := o4.2.2.2.2.2.1; have r10_8 := hE.2.1; have hrt := hE.2.2.2.2.2.1; have hpt := hE.2.2.2.2.2.2
  rcases ix x (n := 4) (by omega) with hx | ⟨k, hk, rfl⟩
  · refine CK_st hA (-1) 1 ?_ ?_
    · simp (disch := omega) only [Option.bind_some, Option.toList_some, Option.toList_none, List.append_nil, List.cons_append, List.nil_append, ↓reduceIte, true_or, or_true, Nat.reduceAdd, Nat.add_assoc, f_ge, t_le, t_lt, f_lt, f_l0, t_0l, t_pl, t_eq, f_eq, f_e0, i10, i01, ib_nI, nI_clamp, nI_add, ad10, ad18, ad26, ad34, ad42, ad47, ad52, ad59, ad107, ad117, ml8, mr8, ml5, ml10, hu_same, hu_row, hu_at, hu_hu, e98, b98_0, b98_4 o10, b98_12, b98_32, b98_50 o10, b98_58, b98_85, b98_99, e28, b28_0 o10, s17n hx]
    · simp (disch := first | omega | (simp (disch := omega) only [hu_same, hu_row, hu_at, hu_hu, hc0, hc1, hc2, hc3, hc4, hc5]; done)) only [Option.bind_some, Option.toList_some, Option.toList_none, List.append_nil, List.cons_append, List.nil_append, ↓reduceIte, true_or, or_true, Nat.reduceAdd, Nat.add_assoc, f_ge, t_le, t_lt, f_lt, f_l0, t_0l, t_pl, t_eq, f_eq, f_e0, i10, i01, ib_nI, nI_clamp, nI_add, ad10, ad18, ad26, ad34, ad42, ad47, ad52, ad59, ad107, ad117, ml8, mr8, ml5, ml10, hu_same, hu_row, hu_at, hu_hu, e281, b281_0 o11, b281_15 o11, b281_23, b281_38, b281_59, b281_88, e282, b282_0, b282_9, e265, b265_0 o11, s223 0 3 0 3 rfl rfl, isn_n (h := 3) hx rfl (by omega)]
  · obtain ⟨r3, o9⟩ := Rc_tray hE.1 hk
    obtain ⟨t1, ⟨s, hs, t1b⟩, t2, t3⟩ := hT k hk
    have hk3 : nI k ≤ 3 := nI_le (b := 3) (by omega) (by omega)
    rcases t3 with t3 | ⟨m, hm, t3, t4⟩
    · have t2' := t2.trans t3
      refine CK_st hA (-1) 3 ?_ ?_
      · simp (disch := omega) only [Option.bind_some, Option.toList_some, Option.toList_none, List.append_nil, List.cons_append, List.nil_append, ↓reduceIte, true_or, or_true, Nat.reduceAdd, Nat.add_assoc, f_ge, t_le, t_lt, f_lt, f_l0, t_0l, t_pl, t_eq, f_eq, f_e0, i10, i01, ib_nI, nI_clamp, nI_add, ad10, ad18, ad26, ad34, ad42, ad47, ad52, ad59, ad107, ad117, ml8, mr8, ml5, ml10, hu_same, hu_row, hu_at, hu_hu, t2le, f60l, f4l, t4l, ml60, i30, i40, i3l0, i4l0, i1l0, f0m1, tm10, and_true, true_and, e98, b98_0, b98_4 o10, b98_12, b98_19 o9, b98_24 o10 r10_8 o4 o9, b98_32, b98_50 o10, b98_58, b98_85, b98_99, e23, b23_0 o9, b23_12, e28, b28_0 o10, s17y hk, r3, t2']
      · simp (disch := first | omega | (simp (disch := omega) only [hu_same, hu_row, hu_at, hu_hu, hc0, hc1, hc2, hc3, hc4, hc5]; done)) only [Option.bind_some, Option.toList_some, Option.toList_none, List.append_nil, List.cons_append, List.nil_append, ↓reduceIte, true_or, or_true, Nat.reduceAdd, Nat.add_assoc, f_ge, t_le, t_lt, f_lt, f_l0, t_0l, t_pl, t_eq, f_eq, f_e0, i10, i01, ib_nI, nI_clamp, nI_add, ad10, ad18, ad26, ad34, ad42, ad47, ad52, ad59, ad107, ad117, ml8, mr8, ml5, ml10, hu_same, hu_row, hu_at, hu_hu, t2le, f60l, f4l, t4l, ml60, i30, i40, i3l0, i4l0, i1l0, f0m1, tm10, and_true, true_and, e281, b281_0 o11, b281_15 o11, b281_23, b281_38, b281_59, b281_88, e282, b282_0, b282_9, e265, b265_0 o11, s223 0 3 0 3 rfl rfl, hk3, t3]
    · have t2' := t2.trans t3
      by_cases hnm : n ≤ m
      · have hl := x98_loop (scr := scr) (d := 97) (L := L) (k := k) o10 o1 o9 hA.2.1.1 hs (t1.trans t1b) t2' hm hnm n 0 (by omega)
        rw [wr_0, nI_0] at hl
        have hl2 := m281_loop (scr := scr) (d := 96) (n := n) (R := R) (k := k) (m := m) (s := s) (I := hs_u (hs_u (hs_u I 2 16 0) 140 1 0) 140 0 0) (L := wr L (66 + 2 * k + 1) 0 n (fun j => cutv (nI s) (I 145 (10 + j)).toInt64)) o11 hk (by simp (disch := omega) only [hu_same, hu_row, hu_at, hu_hu, hc0]) hn8 (by simp (disch := omega) only [hu_same, hu_row, hu_at, hu_hu, t1b]) (by simp (disch := omega) only [hu_same, hu_row, hu_at, hu_hu, t3]) hm hnm (by rw [hu_self (k := 140) (f := 1) _ (by simp (disch := omega) only [hu_same, hu_row, hu_at, hu_hu]), hu_hu]) n 0 (by omega)
        rw [wr_0, nI_0] at hl2
        simp (disch := omega) only [hu_same, hu_row, hu_at, hu_hu, Nat.add_assoc] at hl2
        refine ⟨nI n, hs_u I 2 16 0, wr L (66 + 2 * k + 1) 0 n (fun j => cutv (nI s) (I 145 (10 + j)).toInt64), R, hs_u (hs_u (hs_u I 2 16 0) 140 1 0) 140 0 0, wr (wr L (66 + 2 * k + 1) 0 n (fun j => cutv (nI s) (I 145 (10 + j)).toInt64)) 143 (60 * k) n (fun j => cutv (nI s) (I 145 (10 + j)).toInt64), R, ?_, o11, ?_, ?_⟩
        · simp (disch := omega) only [Option.bind_some, Option.toList_some, Option.toList_none, List.append_nil, List.cons_append, List.nil_append, ↓reduceIte, true_or, or_true, Nat.reduceAdd, Nat.add_assoc, f_ge, t_le, t_lt, f_lt, f_l0, t_0l, t_pl, t_eq, f_eq, f_e0, i10, i01, ib_nI, nI_clamp, nI_add, ad10, ad18, ad26, ad34, ad42, ad47, ad52, ad59, ad107, ad117, ml8, mr8, ml5, ml10, hu_same, hu_row, hu_at, hu_hu, t2le, f60l, f4l, t4l, ml60, i30, i40, i3l0, i4l0, i1l0, f0m1, tm10, and_true, true_and, e98, b98_0, b98_4 o10, b98_12, b98_19 o9, b98_24 o10 r10_8 o4 o9, b98_32, b98_50 o10, b98_58, b98_85, b98_99, e23, b23_0 o9, b23_12, e30, b30_0 o9, b30_18, b30_19, s17y hk, r3, t2', hx0, pk_sub, hl, show ¬ (0 : Int32) < 0 by decide]
        · simp (disch := first | omega | (simp (disch := omega) only [hu_same, hu_row, hu_at, hu_hu, hc0, hc1, hc2, hc3, hc4, hc5]; done)) only [Option.bind_some, Option.toList_some, Option.toList_none, List.append_nil, List.cons_append, List.nil_append, ↓reduceIte, true_or, or_true, Nat.reduceAdd, Nat.add_assoc, f_ge, t_le, t_lt, f_lt, f_l0, t_0l, t_pl, t_eq, f_eq, f_e0, i10, i01, ib_nI, nI_clamp, nI_add, ad10, ad18, ad26, ad34, ad42, ad47, ad52, ad59, ad107, ad117, ml8, mr8, ml5, ml10, hu_same, hu_row, hu_at, hu_hu, t2le, f60l, f4l, t4l, ml60, i30, i40, i3l0, i4l0, i1l0, f0m1, tm10, and_true, true_and, e281, b281_0 o11, b281_15 o11, b281_23, b281_38, b281_59, b281_88, e282, b282_0, b282_9, e265, b265_0 o11, s223 0 3 0 3 rfl rfl, hk3, t3, hc0, hl2]
        · refine Rel_t hA ?_ (fun k h1 h2 h3 h4 h5 => by simp (disch := omega) only [hu_same, hu_row, hu_at, hu_hu]) (fun k h1 h2 => by simp (disch := omega) only [wr_row]) (fun f hf => by simp (disch := omega) only [hu_same, hu_row, hu_at, hu_hu]) (fun f h1 h2 => by simp (disch := omega) only [hu_same, hu_row, hu_at, hu_hu]) (by simp (disch := omega) only [hu_same, hu_row, hu_at, hu_hu])
          intro q hq
          have g := hT q hq
          simp (disch := omega) only [hu_same, hu_row, hu_at, hu_hu]
          refine ⟨g.1, g.2.1, g.2.2.1, ?_⟩
          rcases g.2.2.2 with g | ⟨m', g1, g2, g3⟩
          · exact Or.inl g
          · refine Or.inr ⟨m', g1, g2, fun p hp => ?_⟩
            have g4 := g3 p hp
            by_cases e : q = k ∧ p < n
            · obtain ⟨rfl, e⟩ := e
              rw [wr_row _ _ (show 67 + 2 * q ≠ 143 by omega), show 67 + 2 * q = 66 + 2 * q + 1 by omega, wr_in _ _ (by omega), wr_in _ _ (by omega)]
              simp only [Nat.sub_zero, Nat.add_sub_cancel_left]
            · rw [wr_row _ _ (show 67 + 2 * q ≠ 143 by omega)]
              have e1 : wr L (66 + 2 * k + 1) 0 n (fun j => cutv (nI s) (I 145 (10 + j)).toInt64) (67 + 2 * q) p = L (67 + 2 * q) p := by
                by_cases e2 : q = k
                · exact wr_out _ _ (by omega) _
                · rw [wr_row _ _ (by omega)]
              rw [e1, wr_out _ _ (by omega), wr_row _ _ (by omega)]
              exact g4
      · refine CK_st hA (-1) 4 ?_ ?_
        · simp (disch := omega) only [Option.bind_some, Option.toList_some, Option.toList_none, List.append_nil, List.cons_append, List.nil_append, ↓reduceIte, true_or, or_true, Nat.reduceAdd, Nat.add_assoc, f_ge, t_le, t_lt, f_lt, f_l0, t_0l, t_pl, t_eq, f_eq, f_e0, i10, i01, ib_nI, nI_clamp, nI_add, ad10, ad18, ad26, ad34, ad42, ad47, ad52, ad59, ad107, ad117, ml8, mr8, ml5, ml10, hu_same, hu_row, hu_at, hu_hu, t2le, f60l, f4l, t4l, ml60, i30, i40, i3l0, i4l0, i1l0, f0m1, tm10, and_true, true_and, e98, b98_0, b98_4 o10, b98_12, b98_19 o9, b98_24 o10 r10_8 o4 o9, b98_32, b98_50 o10, b98_58, b98_85, b98_99, e23, b23_0 o9, b23_12, e30, b30_0 o9, b30_18, b30_19, e28, b28_0 o10, s17y hk, r3, t2', hx0, eq_true (pk_sneg (a := m) (b := n) (by omega) (by omega)), show ¬ (0 : Int32) < 0 by decide]
        · simp (disch := first | omega | (simp (disch := omega) only [hu_same, hu_row, hu_at, hu_hu, hc0, hc1, hc2, hc3, hc4, hc5]; done)) only [Option.bind_some, Option.toList_some, Option.toList_none, List.append_nil, List.cons_append, List.nil_append, ↓reduceIte, true_or, or_true, Nat.reduceAdd, Nat.add_assoc, f_ge, t_le, t_lt, f_lt, f_l0, t_0l, t_pl, t_eq, f_eq, f_e0, i10, i01, ib_nI, nI_clamp, nI_add, ad10, ad18, ad26, ad34, ad42, ad47, ad52, ad59, ad107, ad117, ml8, mr8, ml5, ml10, hu_same, hu_row, hu_at, hu_hu, t2le, f60l, f4l, t4l, ml60, i30, i40, i3l0, i4l0, i1l0, f0m1, tm10, and_true, true_and, e281, b281_0 o11, b281_15 o11, b281_23, b281_38, b281_59, b281_88, e282, b282_0, b282_9, e265, b265_0 o11, s223 0 3 0 3 rfl rfl, hk3, t3, hc0]
end CP
