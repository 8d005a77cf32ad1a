/-! longIn, evenIn, shownIn -/
section WH
variable {scr : List Int32} {d t rt st pt qt n np nr nl nb nq lp : Nat} {c r : Nat → Int32} {I I' J : Nat → Nat → Int32} {L L' : Nat → Nat → Int64} {R : Nat → Nat → Nat}
theorem tp {l : Nat} (h : 200 < l) (hl : l < 2 ^ 31) : ((200 : Int32) < nI l) = True := eq_true (nI_lt (a := 200) h hl)
theorem f0m : ((0 : Int32) ≤ -1) = False := eq_false (by decide)
theorem ca39 : CA39 scr hs_S0 Rel 99 := by
  intro x y I L R hP
  obtain ⟨rt, st, pt, qt, n, np, nr, nl, nb, nq, hA⟩ := hP; obtain ⟨hE, ⟨⟨hn8, hc0, hx0, hh⟩, ⟨hp5, hc1, hx1, hpp⟩, ⟨hr6, hc2, hx2, hrr, hru⟩, ⟨hl6, hc3, hx3, hll⟩, ⟨hb6, hq10, hc4, hx4, hc5, hx5, hqq⟩, hD, hN, hG⟩, hT, hTx, hM, hK⟩ := id hA; have o10 := k10_2 hE.1; have o11 := k11_140 hE.1; have o4 := Env_4 hE; have o1 : ok1 hs_S0 R (rt + 5) := o4.2.2.2.2.2.1; have r10_8 := hE.2.1; have hrt := hE.2.2.2.2.2.1; have hpt := hE.2.2.2.2.2.2
  rcases ix x (n := n) (by omega) with hx | ⟨k, hk, rfl⟩
  · refine CK_st hA (-1) 2 ?_ ?_
    · simp (disch := omega) only [Option.bind_some, Option.toList_some, Option.toList_none, List.append_nil, List.cons_append, List.nil_append, ↓reduceIte, true_or, or_true, Nat.reduceAdd, Nat.add_assoc, f_ge, t_le, t_lt, f_lt, f_l0, t_0l, t_pl, t_eq, f_eq, f_e0, i10, i01, ib_nI, nI_clamp, nI_add, ad10, ad18, ad26, ad34, ad42, ad47, ad52, ad59, ad107, ad117, ml8, mr8, ml5, ml10, hu_same, hu_row, hu_at, hu_hu, i20, i50, i90, i00, i2l0, i5l0, i9l0, t_0lt, e135, b135_0 o10, b135_9 o10, b135_19, b135_41 o10, b135_51, b135_64, e107, b107_0 o10, b107_5, b107_21, b107_26, e28, b28_0 o10, s89n o10 r10_8 o4 hx0 hx]
    · simp (disch := first | omega | (simp (disch := omega) only [hu_same, hu_row, hu_at, hu_hu, hc0, hc1, hc2, hc3, hc4, hc5]; done)) only [Option.bind_some, Option.toList_some, Option.toList_none, List.append_nil, List.cons_append, List.nil_append, ↓reduceIte, true_or, or_true, Nat.reduceAdd, Nat.add_assoc, f_ge, t_le, t_lt, f_lt, f_l0, t_0l, t_pl, t_eq, f_eq, f_e0, i10, i01, ib_nI, nI_clamp, nI_add, ad10, ad18, ad26, ad34, ad42, ad47, ad52, ad59, ad107, ad117, ml8, mr8, ml5, ml10, hu_same, hu_row, hu_at, hu_hu, e317, b317_0 o11, b317_15 o11, b317_23, b317_33 o11, b317_41, b317_48, b317_79 o11, b317_83, b317_89 o11, b317_93 o11, b317_103, b317_107, e265, b265_0 o11, s272n o11 (n := n) (hx := hx) (hn := by omega)]
  rcases rg y 0 99 with hy | ⟨h1, h2, -⟩
  · refine CK_st hA (-1) 5 ?_ ?_
    · simp (disch := omega) only [Option.bind_some, Option.toList_some, Option.toList_none, List.append_nil, List.cons_append, List.nil_append, ↓reduceIte, true_or, or_true, Nat.reduceAdd, Nat.add_assoc, f_ge, t_le, t_lt, f_lt, f_l0, t_0l, t_pl, t_eq, f_eq, f_e0, i10, i01, ib_nI, nI_clamp, nI_add, ad10, ad18, ad26, ad34, ad42, ad47, ad52, ad59, ad107, ad117, ml8, mr8, ml5, ml10, hu_same, hu_row, hu_at, hu_hu, i20, i50, i90, i00, i2l0, i5l0, i9l0, t_0lt, e135, b135_0 o10, b135_9 o10, b135_19, b135_41 o10, b135_51, b135_64, e107, b107_0 o10, b107_5, b107_21, b107_26, e28, b28_0 o10, s89y o10 r10_8 o4 hx0 hk (by omega), out_g hy]
    · simp (disch := first | omega | (simp (disch := omega) only [hu_same, hu_row, hu_at, hu_hu, hc0, hc1, hc2, hc3, hc4, hc5]; done)) only [Option.bind_some, Option.toList_some, Option.toList_none, List.append_nil, List.cons_append, List.nil_append, ↓reduceIte, true_or, or_true, Nat.reduceAdd, Nat.add_assoc, f_ge, t_le, t_lt, f_lt, f_l0, t_0l, t_pl, t_eq, f_eq, f_e0, i10, i01, ib_nI, nI_clamp, nI_add, ad10, ad18, ad26, ad34, ad42, ad47, ad52, ad59, ad107, ad117, ml8, mr8, ml5, ml10, hu_same, hu_row, hu_at, hu_hu, e317, b317_0 o11, b317_15 o11, b317_23, b317_33 o11, b317_41, b317_48, b317_79 o11, b317_83, b317_89 o11, b317_93 o11, b317_103, b317_107, e265, b265_0 o11, s272y o11 (n := n) (hk := hk) (hn := by omega), s223 0 99 0 99 rfl rfl, out_g hy]
  obtain ⟨lp, hlp⟩ := lpc_ex hA.2.1.2.2.1
  have hHB := HB_of hA.2.1.1 hA.2.1.2.2.1 hD hlp
  have hX := fo_ex (n := 201) (head := fun i (j : Unit) => hs_R scr 99 135 23 [some (.ref 2), some (.int (nI k)), some (.int y), some (.int 0), some (.int (nI i))] [] (hs_S0, I, L, R)) (q := fun i => decide (¬ lenA (I 145) lp i k < y)) (res := fun i => some (some (.int (nI i)), (hs_S0, hs_u I 2 16 0, L, R))) (fin := some (some (.int (-1)), (hs_S0, hs_u I 2 16 8, L, R))) (fun i j hi => by
      show (_ ∧ hs_R scr 99 135 23 _ _ _ = _) ∨ (_ ∧ ∃ j', hs_R scr 99 135 23 _ _ _ = _)
      rw [b135_23 o10 r10_8 o4]
      simp (disch := omega) only [Option.bind_some, Option.toList_some, Option.toList_none, List.append_nil, List.cons_append, List.nil_append, ↓reduceIte, true_or, or_true, Nat.reduceAdd, Nat.add_assoc, f_ge, t_le, t_lt, f_lt, f_l0, t_0l, t_pl, t_eq, f_eq, f_e0, i10, i01, ib_nI, nI_clamp, nI_add, ad10, ad18, ad26, ad34, ad42, ad47, ad52, ad59, ad107, ad117, ml8, mr8, ml5, ml10, hu_same, hu_row, hu_at, hu_hu, f200, nI_1, e135, b135_0 o10, b135_9 o10, b135_19, b135_41 o10, b135_51, b135_64, e68, b68_0 o10, x132 o4 hA.2.1.1 hA.2.1.2.2.1 hlp hk (show i ≤ 9999 by omega)]
      by_cases g : lenA (I 145) lp i k < y
      · right; exact ⟨by simp [g], (), by simp only [g, ↓reduceIte]⟩
      · left; exact ⟨by simp [g], by simp only [g, ↓reduceIte]⟩) (fun j => by
      show hs_R scr 99 135 23 _ _ _ = _
      rw [b135_23 o10 r10_8 o4]
      simp (disch := omega) only [Option.bind_some, Option.toList_some, Option.toList_none, List.append_nil, List.cons_append, List.nil_append, ↓reduceIte, true_or, or_true, Nat.reduceAdd, Nat.add_assoc, f_ge, t_le, t_lt, f_lt, f_l0, t_0l, t_pl, t_eq, f_eq, f_e0, i10, i01, ib_nI, nI_clamp, nI_add, ad10, ad18, ad26, ad34, ad42, ad47, ad52, ad59, ad107, ad117, ml8, mr8, ml5, ml10, hu_same, hu_row, hu_at, hu_hu, tp, e135, b135_0 o10, b135_9 o10, b135_19, b135_41 o10, b135_51, b135_64, e28, b28_0 o10]) 201 0 () (by omega)
  have hM := fun (J : Nat → Nat → Int32) (hJ : J 145 = I 145) => fo_ex (n := 201) (head := fun i (j : Unit) => hs_R scr 99 317 51 [some (.ref 140), some (.int (nI k)), some (.int y), some (.int (-1)), some (.int (nI i))] [] (hs_S0, hs_z (sas J) 145 (cd (J 145) n lp i), L, R)) (q := fun i => decide (¬ lenA (I 145) lp i k < y)) (res := fun i => some (some (.int (nI i)), (hs_S0, sas J, L, R))) (fin := some (some (.int (-1)), (hs_S0, hs_u (sas J) 140 0 8, L, R))) (fun i j hi => by
      show (_ ∧ hs_R scr 99 317 51 _ _ _ = _) ∨ (_ ∧ ∃ j', hs_R scr 99 317 51 _ _ _ = _)
      rw [hJ]
      rw [b317_51 o11]
      simp (disch := omega) only [Option.bind_some, Option.toList_some, Option.toList_none, List.append_nil, List.cons_append, List.nil_append, ↓reduceIte, true_or, or_true, Nat.reduceAdd, Nat.add_assoc, f_ge, t_le, t_lt, f_lt, f_l0, t_0l, t_pl, t_eq, f_eq, f_e0, i10, i01, ib_nI, nI_clamp, nI_add, ad10, ad18, ad26, ad34, ad42, ad47, ad52, ad59, ad107, ad117, ml8, mr8, ml5, ml10, hu_same, hu_row, hu_at, hu_hu, f200, f0m, nI_1, hz_s, cd_10 hn8 hk, b317_79 o11]
      by_cases g : lenA (I 145) lp i k < y
      · right
        refine ⟨by simp [g], (), ?_⟩
        simp only [g, ↓reduceIte, m284d o11 hHB, Option.bind_some, Option.toList_some, Option.toList_none, List.append_nil, List.cons_append, List.nil_append, ↓reduceIte, true_or, or_true, Nat.reduceAdd, Nat.add_assoc, b317_83, nI_1]
      · left
        refine ⟨by simp [g], ?_⟩
        simp only [g, ↓reduceIte, m284d o11 hHB, Option.bind_some, Option.toList_some, Option.toList_none, List.append_nil, List.cons_append, List.nil_append, ↓reduceIte, true_or, or_true, Nat.reduceAdd, Nat.add_assoc, b317_83, nI_1]
        rw [b317_51 o11]
        simp (disch := omega) only [Option.bind_some, Option.toList_some, Option.toList_none, List.append_nil, List.cons_append, List.nil_append, ↓reduceIte, true_or, or_true, Nat.reduceAdd, Nat.add_assoc, f_ge, t_le, t_lt, f_lt, f_l0, t_0l, t_pl, t_eq, f_eq, f_e0, i10, i01, ib_nI, nI_clamp, nI_add, ad10, ad18, ad26, ad34, ad42, ad47, ad52, ad59, ad107, ad117, ml8, mr8, ml5, ml10, hu_same, hu_row, hu_at, hu_hu, e317, b317_0 o11, b317_15 o11, b317_23, b317_33 o11, b317_41, b317_48, b317_79 o11, b317_83, b317_89 o11, b317_93 o11, b317_103, b317_107, m307 o11 (J := J) (r := cd (I 145) n lp (i + 1)) (fun k hk => by rw [hJ]; exact cd_hi hn8 hk), ite_self]) (fun j => by
      show hs_R scr 99 317 51 _ _ _ = _
      rw [b317_51 o11]
      simp (disch := omega) only [Option.bind_some, Option.toList_some, Option.toList_none, List.append_nil, List.cons_append, List.nil_append, ↓reduceIte, true_or, or_true, Nat.reduceAdd, Nat.add_assoc, f_ge, t_le, t_lt, f_lt, f_l0, t_0l, t_pl, t_eq, f_eq, f_e0, i10, i01, ib_nI, nI_clamp, nI_add, ad10, ad18, ad26, ad34, ad42, ad47, ad52, ad59, ad107, ad117, ml8, mr8, ml5, ml10, hu_same, hu_row, hu_at, hu_hu, tp, f0m, e317, b317_0 o11, b317_15 o11, b317_23, b317_33 o11, b317_41, b317_48, b317_79 o11, b317_83, b317_89 o11, b317_93 o11, b317_103, b317_107, e265, b265_0 o11, m307 o11 (J := J) (r := cd (J 145) n lp 201) (fun k hk => cd_hi hn8 hk)]) 201 0 () (by omega)
  have hJ : hs_u (hs_u (hs_u I 2 16 0) 140 1 0) 140 0 0 145 = I 145 := by simp (disch := omega) only [hu_same, hu_row, hu_at, hu_hu]
  cases hf : fnd (fun i => decide (¬ lenA (I 145) lp i k < y)) 0 201 with
  | none =>
    rw [hf] at hX
    have hJ : hs_u (hs_u (hs_u I 2 16 8) 140 1 0) 140 0 0 145 = I 145 := by simp (disch := omega) only [hu_same, hu_row, hu_at, hu_hu]
    have hM' := hM _ hJ
    rw [hf, hJ, cd_0 hHB, ← hJ, sas_z, nI_0] at hM'
    refine CK_sc hA (-1) 8 ?_ ?_
    · simp (disch := omega) only [Option.bind_some, Option.toList_some, Option.toList_none, List.append_nil, List.cons_append, List.nil_append, ↓reduceIte, true_or, or_true, Nat.reduceAdd, Nat.add_assoc, f_ge, t_le, t_lt, f_lt, f_l0, t_0l, t_pl, t_eq, f_eq, f_e0, i10, i01, ib_nI, nI_clamp, nI_add, ad10, ad18, ad26, ad34, ad42, ad47, ad52, ad59, ad107, ad117, ml8, mr8, ml5, ml10, hu_same, hu_row, hu_at, hu_hu, i20, i50, i90, i00, i2l0, i5l0, i9l0, t_0lt, e135, b135_0 o10, b135_9 o10, b135_19, b135_41 o10, b135_51, b135_64, e107, b107_0 o10, b107_5, b107_21, b107_26, s89y o10 r10_8 o4 hx0 hk (by omega), h1, h2]
      exact hX
    · simp (disch := first | omega | (simp (disch := omega) only [hu_same, hu_row, hu_at, hu_hu, hc0, hc1, hc2, hc3, hc4, hc5]; done)) only [Option.bind_some, Option.toList_some, Option.toList_none, List.append_nil, List.cons_append, List.nil_append, ↓reduceIte, true_or, or_true, Nat.reduceAdd, Nat.add_assoc, f_ge, t_le, t_lt, f_lt, f_l0, t_0l, t_pl, t_eq, f_eq, f_e0, i10, i01, ib_nI, nI_clamp, nI_add, ad10, ad18, ad26, ad34, ad42, ad47, ad52, ad59, ad107, ad117, ml8, mr8, ml5, ml10, hu_same, hu_row, hu_at, hu_hu, e317, b317_0 o11, b317_15 o11, b317_23, b317_33 o11, b317_41, b317_48, b317_79 o11, b317_83, b317_89 o11, b317_93 o11, b317_103, b317_107, s272y o11 (n := n) (hk := hk) (hn := by omega), s223 0 99 0 99 rfl rfl, h1, h2, m306 o11]
      exact hM'
  | some b =>
    rw [hf] at hX
    have hM' := hM _ hJ
    rw [hf, hJ, cd_0 hHB, ← hJ, sas_z, nI_0] at hM'
    refine CK_sc hA (nI b) 0 ?_ ?_
    · simp (disch := omega) only [Option.bind_some, Option.toList_some, Option.toList_none, List.append_nil, List.cons_append, List.nil_append, ↓reduceIte, true_or, or_true, Nat.reduceAdd, Nat.add_assoc, f_ge, t_le, t_lt, f_lt, f_l0, t_0l, t_pl, t_eq, f_eq, f_e0, i10, i01, ib_nI, nI_clamp, nI_add, ad10, ad18, ad26, ad34, ad42, ad47, ad52, ad59, ad107, ad117, ml8, mr8, ml5, ml10, hu_same, hu_row, hu_at, hu_hu, i20, i50, i90, i00, i2l0, i5l0, i9l0, t_0lt, e135, b135_0 o10, b135_9 o10, b135_19, b135_41 o10, b135_51, b135_64, e107, b107_0 o10, b107_5, b107_21, b107_26, s89y o10 r10_8 o4 hx0 hk (by omega), h1, h2]
      exact hX
    · rw [sas_0]
      simp (disch := first | omega | (simp (disch := omega) only [hu_same, hu_row, hu_at, hu_hu, hc0, hc1, hc2, hc3, hc4, hc5]; done)) only [Option.bind_some, Option.toList_some, Option.toList_none, List.append_nil, List.cons_append, List.nil_append, ↓reduceIte, true_or, or_true, Nat.reduceAdd, Nat.add_assoc, f_ge, t_le, t_lt, f_lt, f_l0, t_0l, t_pl, t_eq, f_eq, f_e0, i10, i01, ib_nI, nI_clamp, nI_add, ad10, ad18, ad26, ad34, ad42, ad47, ad52, ad59, ad107, ad117, ml8, mr8, ml5, ml10, hu_same, hu_row, hu_at, hu_hu, e317, b317_0 o11, b317_15 o11, b317_23, b317_33 o11, b317_41, b317_48, b317_79 o11, b317_83, b317_89 o11, b317_93 o11, b317_103, b317_107, s272y o11 (n := n) (hk := hk) (hn := by omega), s223 0 99 0 99 rfl rfl, h1, h2, m306 o11]
      exact hM'
theorem ca33 : CA33 scr hs_S0 Rel 99 := by
  intro x I L R hP
  obtain ⟨rt, st, pt, qt, n, np, nr, nl, nb, nq, hA⟩ := hP; obtain ⟨hE, ⟨⟨hn8, hc0, hx0, hh⟩, ⟨hp5, hc1, hx1, hpp⟩, ⟨hr6, hc2, hx2, hrr, hru⟩, ⟨hl6, hc3, hx3, hll⟩, ⟨hb6, hq10, hc4, hx4, hc5, hx5, hqq⟩, hD, hN, hG⟩, hT, hTx, hM, hK⟩ := id hA; have o10 := k10_2 hE.1; have o11 := k11_140 hE.1; have o4 := Env_4 hE; have o1 : ok1 hs_S0 R (rt + 5) := o4.2.2.2.2.2.1; have r10_8 := hE.2.1; have hrt := hE.2.2.2.2.2.1; have hpt := hE.2.2.2.2.2.2
  rcases ix x (n := nl) (by omega) with hx | ⟨l, hl, rfl⟩
  · refine CK_st hA (-1) 2 ?_ ?_
    · simp (disch := omega) only [Option.bind_some, Option.toList_some, Option.toList_none, List.append_nil, List.cons_append, List.nil_append, ↓reduceIte, true_or, or_true, Nat.reduceAdd, Nat.add_assoc, f_ge, t_le, t_lt, f_lt, f_l0, t_0l, t_pl, t_eq, f_eq, f_e0, i10, i01, ib_nI, nI_clamp, nI_add, ad10, ad18, ad26, ad34, ad42, ad47, ad52, ad59, ad107, ad117, ml8, mr8, ml5, ml10, hu_same, hu_row, hu_at, hu_hu, e124, b124_0 o10, b124_5 o10, b124_13, b124_32 o10, b124_40, b124_53, e28, b28_0 o10, s95n o10 r10_8 o4 hx3 hx]
    · simp (disch := first | omega | (simp (disch := omega) only [hu_same, hu_row, hu_at, hu_hu, hc0, hc1, hc2, hc3, hc4, hc5]; done)) only [Option.bind_some, Option.toList_some, Option.toList_none, List.append_nil, List.cons_append, List.nil_append, ↓reduceIte, true_or, or_true, Nat.reduceAdd, Nat.add_assoc, f_ge, t_le, t_lt, f_lt, f_l0, t_0l, t_pl, t_eq, f_eq, f_e0, i10, i01, ib_nI, nI_clamp, nI_add, ad10, ad18, ad26, ad34, ad42, ad47, ad52, ad59, ad107, ad117, ml8, mr8, ml5, ml10, hu_same, hu_row, hu_at, hu_hu, e305, b305_0 o11, b305_15 o11, b305_23, b305_30, b305_48, b305_53 o11, b305_57, b305_63 o11, b305_67 o11, b305_77, b305_81, e265, b265_0 o11, s278n o11 (n := nl) (hx := hx) (hn := by omega)]
  obtain ⟨lp, hlp⟩ := lpc_ex hA.2.1.2.2.1
  have hHB := HB_of hA.2.1.1 hA.2.1.2.2.1 hD hlp
  have hl6' : l < 6 := by omega
  have hq : ∀ i, i ≤ 200 → ∀ k, k < n → qV (cd (I 145) n lp i) l k = qW (I 145) (I 145 9) (nI i) l k := by
    intro i hi k hk
    have hk' := hh k hk
    unfold qV qW
    rw [cd_26 hn8 hk, cd_o (by omega), sA_nat hk'.2.2.2.2.2.2.1 hk'.2.2.2.2.2.2.2 hD.2.2.2.2 (by omega)]
  have hX := fo_ex (n := 201) (head := fun i (j : Unit) => hs_R scr 99 124 16 [some (.ref 2), some (.int (nI l)), some (.int (nI i))] [] (hs_S0, I, L, R)) (q := fun i => decide (cn (qV (cd (I 145) n lp i) l) n = 0)) (res := fun i => some (some (.int (nI i)), (hs_S0, hs_u I 2 16 0, L, R))) (fin := some (some (.int (-1)), (hs_S0, hs_u I 2 16 8, L, R))) (fun i j hi => by
      show (_ ∧ hs_R scr 99 124 16 _ _ _ = _) ∨ (_ ∧ ∃ j', hs_R scr 99 124 16 _ _ _ = _)
      rw [b124_16 o10 r10_8 o4]
      simp (disch := omega) only [Option.bind_some, Option.toList_some, Option.toList_none, List.append_nil, List.cons_append, List.nil_append, ↓reduceIte, true_or, or_true, Nat.reduceAdd, Nat.add_assoc, f_ge, t_le, t_lt, f_lt, f_l0, t_0l, t_pl, t_eq, f_eq, f_e0, i10, i01, ib_nI, nI_clamp, nI_add, ad10, ad18, ad26, ad34, ad42, ad47, ad52, ad59, ad107, ad117, ml8, mr8, ml5, ml10, hu_same, hu_row, hu_at, hu_hu, f200, nI_1, e124, b124_0 o10, b124_5 o10, b124_13, b124_32 o10, b124_40, b124_53, e68, b68_0 o10, x121 o4 hA.2.1.1 hA.2.1.2.2.2.1 hD hl6']
      rw [← fnd_cg (q := qV (cd (I 145) n lp i) l) (fun a h1 h2 => hq i (by omega) a (by omega))]
      by_cases g : cn (qV (cd (I 145) n lp i) l) n = 0
      · rw [fnd_none.mpr (fun a _ h2 => cn_0.mp g a (by omega))]
        left; exact ⟨by simp [g], by simp only [↓reduceIte, i10]⟩
      · cases hf : fnd (qV (cd (I 145) n lp i) l) 0 n with
        | none => exact absurd (cn_0.mpr (fun a h => fnd_none.mp hf a (by omega) (by omega))) g
        | some a => right; exact ⟨by simp [g], (), by simp only [↓reduceIte]⟩) (fun j => by
      show hs_R scr 99 124 16 _ _ _ = _
      rw [b124_16 o10 r10_8 o4]
      simp (disch := omega) only [Option.bind_some, Option.toList_some, Option.toList_none, List.append_nil, List.cons_append, List.nil_append, ↓reduceIte, true_or, or_true, Nat.reduceAdd, Nat.add_assoc, f_ge, t_le, t_lt, f_lt, f_l0, t_0l, t_pl, t_eq, f_eq, f_e0, i10, i01, ib_nI, nI_clamp, nI_add, ad10, ad18, ad26, ad34, ad42, ad47, ad52, ad59, ad107, ad117, ml8, mr8, ml5, ml10, hu_same, hu_row, hu_at, hu_hu, tp, e124, b124_0 o10, b124_5 o10, b124_13, b124_32 o10, b124_40, b124_53, e28, b28_0 o10]) 201 0 () (by omega)
  have hM := fun (J : Nat → Nat → Int32) (hJ : J 145 = I 145) => fo_ex (n := 201) (head := fun i (j : Unit) => hs_R scr 99 305 32 [some (.ref 140), some (.int (nI l)), some (.int (-1)), some (.int (nI i))] [] (hs_S0, hs_z (sas J) 145 (cd (J 145) n lp i), L, R)) (q := fun i => decide (cn (qV (cd (I 145) n lp i) l) n = 0)) (res := fun i => some (some (.int (nI i)), (hs_S0, sas J, L, R))) (fin := some (some (.int (-1)), (hs_S0, hs_u (sas J) 140 0 8, L, R))) (fun i j hi => by
      show (_ ∧ hs_R scr 99 305 32 _ _ _ = _) ∨ (_ ∧ ∃ j', hs_R scr 99 305 32 _ _ _ = _)
      rw [hJ]
      have h0 : hs_z (sas J) 145 (cd (I 145) n lp i) 145 0 = nI n := by rw [hz_s, cd_o (by omega)]; exact hc0
      rw [b305_32 o11]
      simp (disch := omega) only [Option.bind_some, Option.toList_some, Option.toList_none, List.append_nil, List.cons_append, List.nil_append, ↓reduceIte, true_or, or_true, Nat.reduceAdd, Nat.add_assoc, f_ge, t_le, t_lt, f_lt, f_l0, t_0l, t_pl, t_eq, f_eq, f_e0, i10, i01, ib_nI, nI_clamp, nI_add, ad10, ad18, ad26, ad34, ad42, ad47, ad52, ad59, ad107, ad117, ml8, mr8, ml5, ml10, hu_same, hu_row, hu_at, hu_hu, f200, f0m, nI_1, m301 (scr := scr) (d := 96) (L := L) o11 h0 hn8 hl6', hz_s, b305_48, b305_53 o11]
      by_cases g : cn (qV (cd (I 145) n lp i) l) n = 0
      · left
        refine ⟨by simp [g], ?_⟩
        simp only [g, ↓reduceIte, nI_0, m284d o11 hHB, Option.bind_some, Option.toList_some, Option.toList_none, List.append_nil, List.cons_append, List.nil_append, ↓reduceIte, true_or, or_true, Nat.reduceAdd, Nat.add_assoc, b305_57, nI_1]
        rw [b305_32 o11]
        simp (disch := omega) only [Option.bind_some, Option.toList_some, Option.toList_none, List.append_nil, List.cons_append, List.nil_append, ↓reduceIte, true_or, or_true, Nat.reduceAdd, Nat.add_assoc, f_ge, t_le, t_lt, f_lt, f_l0, t_0l, t_pl, t_eq, f_eq, f_e0, i10, i01, ib_nI, nI_clamp, nI_add, ad10, ad18, ad26, ad34, ad42, ad47, ad52, ad59, ad107, ad117, ml8, mr8, ml5, ml10, hu_same, hu_row, hu_at, hu_hu, e305, b305_0 o11, b305_15 o11, b305_23, b305_30, b305_48, b305_53 o11, b305_57, b305_63 o11, b305_67 o11, b305_77, b305_81, m307 o11 (J := J) (r := cd (I 145) n lp (i + 1)) (fun k hk => by rw [hJ]; exact cd_hi hn8 hk), ite_self]
      · have := cn_le (q := qV (cd (I 145) n lp i) l) n
        right
        refine ⟨by simp [g], (), ?_⟩
        simp (disch := omega) only [f_e0, ↓reduceIte, m284d o11 hHB, Option.bind_some, Option.toList_some, Option.toList_none, List.append_nil, List.cons_append, List.nil_append, ↓reduceIte, true_or, or_true, Nat.reduceAdd, Nat.add_assoc, b305_57, nI_1]) (fun j => by
      show hs_R scr 99 305 32 _ _ _ = _
      rw [b305_32 o11]
      simp (disch := omega) only [Option.bind_some, Option.toList_some, Option.toList_none, List.append_nil, List.cons_append, List.nil_append, ↓reduceIte, true_or, or_true, Nat.reduceAdd, Nat.add_assoc, f_ge, t_le, t_lt, f_lt, f_l0, t_0l, t_pl, t_eq, f_eq, f_e0, i10, i01, ib_nI, nI_clamp, nI_add, ad10, ad18, ad26, ad34, ad42, ad47, ad52, ad59, ad107, ad117, ml8, mr8, ml5, ml10, hu_same, hu_row, hu_at, hu_hu, tp, f0m, e305, b305_0 o11, b305_15 o11, b305_23, b305_30, b305_48, b305_53 o11, b305_57, b305_63 o11, b305_67 o11, b305_77, b305_81, e265, b265_0 o11, m307 o11 (J := J) (r := cd (J 145) n lp 201) (fun k hk => cd_hi hn8 hk)]) 201 0 () (by omega)
  cases hf : fnd (fun i => decide (cn (qV (cd (I 145) n lp i) l) n = 0)) 0 201 with
  | none =>
    rw [hf] at hX
    have hJ : hs_u (hs_u (hs_u I 2 16 8) 140 1 0) 140 0 0 145 = I 145 := by simp (disch := omega) only [hu_same, hu_row, hu_at, hu_hu]
    have hM' := hM _ hJ
    rw [hf, hJ, cd_0 hHB, ← hJ, sas_z, nI_0] at hM'
    refine CK_sc hA (-1) 8 ?_ ?_
    · simp (disch := omega) only [Option.bind_some, Option.toList_some, Option.toList_none, List.append_nil, List.cons_append, List.nil_append, ↓reduceIte, true_or, or_true, Nat.reduceAdd, Nat.add_assoc, f_ge, t_le, t_lt, f_lt, f_l0, t_0l, t_pl, t_eq, f_eq, f_e0, i10, i01, ib_nI, nI_clamp, nI_add, ad10, ad18, ad26, ad34, ad42, ad47, ad52, ad59, ad107, ad117, ml8, mr8, ml5, ml10, hu_same, hu_row, hu_at, hu_hu, e124, b124_0 o10, b124_5 o10, b124_13, b124_32 o10, b124_40, b124_53, s95y o10 r10_8 o4 hx3 hl (by omega)]
      exact hX
    · simp (disch := first | omega | (simp (disch := omega) only [hu_same, hu_row, hu_at, hu_hu, hc0, hc1, hc2, hc3, hc4, hc5]; done)) only [Option.bind_some, Option.toList_some, Option.toList_none, List.append_nil, List.cons_append, List.nil_append, ↓reduceIte, true_or, or_true, Nat.reduceAdd, Nat.add_assoc, f_ge, t_le, t_lt, f_lt, f_l0, t_0l, t_pl, t_eq, f_eq, f_e0, i10, i01, ib_nI, nI_clamp, nI_add, ad10, ad18, ad26, ad34, ad42, ad47, ad52, ad59, ad107, ad117, ml8, mr8, ml5, ml10, hu_same, hu_row, hu_at, hu_hu, e305, b305_0 o11, b305_15 o11, b305_23, b305_30, b305_48, b305_53 o11, b305_57, b305_63 o11, b305_67 o11, b305_77, b305_81, s278y o11 (n := nl) (hk := hl) (hn := by omega), m306 o11]
      exact hM'
  | some b =>
    rw [hf] at hX
    have hJ : hs_u (hs_u (hs_u I 2 16 0) 140 1 0) 140 0 0 145 = I 145 := by simp (disch := omega) only [hu_same, hu_row, hu_at, hu_hu]
    have hM' := hM _ hJ
    rw [hf, hJ, cd_0 hHB, ← hJ, sas_z, nI_0] at hM'
    refine CK_sc hA (nI b) 0 ?_ ?_
    · simp (disch := omega) only [Option.bind_some, Option.toList_some, Option.toList_none, List.append_nil, List.cons_append, List.nil_append, ↓reduceIte, true_or, or_true, Nat.reduceAdd, Nat.add_assoc, f_ge, t_le, t_lt, f_lt, f_l0, t_0l, t_pl, t_eq, f_eq, f_e0, i10, i01, ib_nI, nI_clamp, nI_add, ad10, ad18, ad26, ad34, ad42, ad47, ad52, ad59, ad107, ad117, ml8, mr8, ml5, ml10, hu_same, hu_row, hu_at, hu_hu, e124, b124_0 o10, b124_5 o10, b124_13, b124_32 o10, b124_40, b124_53, s95y o10 r10_8 o4 hx3 hl (by omega)]
      exact hX
    · rw [sas_0]
      simp (disch := first | omega | (simp (disch := omega) only [hu_same, hu_row, hu_at, hu_hu, hc0, hc1, hc2, hc3, hc4, hc5]; done)) only [Option.bind_some, Option.toList_some, Option.toList_none, List.append_nil, List.cons_append, List.nil_append, ↓reduceIte, true_or, or_true, Nat.reduceAdd, Nat.add_assoc, f_ge, t_le, t_lt, f_lt, f_l0, t_0l, t_pl, t_eq, f_eq, f_e0, i10, i01, ib_nI, nI_clamp, nI_add, ad10, ad18, ad26, ad34, ad42, ad47, ad52, ad59, ad107, ad117, ml8, mr8, ml5, ml10, hu_same, hu_row, hu_at, hu_hu, e305, b305_0 o11, b305_15 o11, b305_23, b305_30, b305_48, b305_53 o11, b305_57, b305_63 o11, b305_67 o11, b305_77, b305_81, s278y o11 (n := nl) (hk := hl) (hn := by omega), m306 o11]
      exact hM'
/-- do the hairs from the second on stand as the first -/
def qE (r : Nat → Int32) (k : Nat) : Bool := decide (¬ r (26 + k) = r 26)
theorem x137 {e : Nat} (o4 : ok4 hs_S0 R t) (h : RH n c I t) (h9 : c 9 = 0 ∨ c 9 = 1) (he : e ≤ 200) : hs_C scr (d + 1) 137 [.ref (t + 5), .int (nI e), .int (c 9)] (hs_S0, I, L, R) = some (some (.int (match fnd (qE (cd c n lp e)) 1 (n - 1) with | some _ => 0 | none => 1)), (hs_S0, I, L, R)) := by
  have o1 : ok1 hs_S0 R (t + 5) := o4.2.2.2.2.2.1
  obtain ⟨hn, -, hx0, hh⟩ := id h
  have hfin : ∀ m, n ≤ m → m ≤ 8 → hs_R scr (d + 1) 137 2 [some (.ref (t + 5)), some (.int (nI e)), some (.int (c 9)), some (.int (nI m))] [] (hs_S0, I, L, R) = some (some (.int 1), (hs_S0, I, L, R)) := by
    intro m h1 h2
    rw [b137_2 o1, hx0, if_pos (nI_le h1 (by omega))]
  rw [e137, b137_0]
  by_cases hn0 : n = 0
  · subst hn0; exact hfin 1 (by omega) (by omega)
  have hsa : ∀ k, k < n → sA c (c 9) (nI e) k = cd c n lp e (26 + k) := by
    intro k hk
    have hk' := hh k hk
    rw [sA_nat hk'.2.2.2.2.2.2.1 hk'.2.2.2.2.2.2.2 h9 (by omega), cd_26 hn hk]
  refine (fo_ex (n := n) (head := fun i (_ : Unit) => hs_R scr (d + 1) 137 2 [some (.ref (t + 5)), some (.int (nI e)), some (.int (c 9)), some (.int (nI i))] [] (hs_S0, I, L, R)) (q := qE (cd c n lp e)) (res := fun _ => some (some (.int 0), (hs_S0, I, L, R))) (fin := some (some (.int 1), (hs_S0, I, L, R))) ?_ (fun _ => hfin n (Nat.le_refl _) hn) (n - 1) 1 () (by omega)).trans ?_
  · intro i j hi
    show (_ ∧ hs_R scr (d + 1) 137 2 _ _ _ = _) ∨ (_ ∧ ∃ j', hs_R scr (d + 1) 137 2 _ _ _ = _)
    have e0 := x103 (scr := scr) (d := d) (L := L) (x2 := nI e) (x3 := c 9) (k := 0) o1 h (by omega)
    rw [nI_0, hsa 0 (by omega), Nat.add_zero] at e0
    rw [b137_2 o1]
    simp (disch := omega) only [Option.bind_some, Option.toList_some, Option.toList_none, List.append_nil, List.cons_append, List.nil_append, ↓reduceIte, true_or, or_true, Nat.reduceAdd, Nat.add_assoc, f_ge, t_le, t_lt, f_lt, f_l0, t_0l, t_pl, t_eq, f_eq, f_e0, i10, i01, ib_nI, nI_clamp, nI_add, ad10, ad18, ad26, ad34, ad42, ad47, ad52, ad59, ad107, ad117, ml8, mr8, ml5, ml10, hu_same, hu_row, hu_at, hu_hu, hx0, nI_1, e137, b137_17 o1, b137_24, x103 o1 h hi, e0, hsa i hi]
    by_cases g : cd c n lp e (26 + i) = cd c n lp e 26
    · right; exact ⟨by simp [qE, g], (), by rw [if_pos g]⟩
    · left; exact ⟨by simp [qE, g], by rw [if_neg g]⟩
  · cases fnd (qE (cd c n lp e)) 1 (n - 1) <;> rfl
theorem m319 (o11 : ok11 hs_S0 R 140) (h0 : r 0 = nI n) (hn : n ≤ 8) : hs_C scr d 319 [.ref 140] (hs_S0, hs_z J 145 r, L, R) = some (some (.int (match fnd (qE r) 1 (n - 1) with | some _ => 0 | none => 1)), (hs_S0, hs_z J 145 r, L, R)) := by
  have hfin : ∀ m, n ≤ m → m ≤ 8 → hs_R scr d 319 2 [some (.ref 140), some (.int (nI m))] [] (hs_S0, hs_z J 145 r, L, R) = some (some (.int 1), (hs_S0, hs_z J 145 r, L, R)) := by
    intro m h1 h2
    rw [b319_2 o11]
    simp (disch := omega) only [Option.bind_some, Option.toList_some, Option.toList_none, List.append_nil, List.cons_append, List.nil_append, ↓reduceIte, true_or, or_true, Nat.reduceAdd, Nat.add_assoc, f_ge, t_le, t_lt, f_lt, f_l0, t_0l, t_pl, t_eq, f_eq, f_e0, i10, i01, ib_nI, nI_clamp, nI_add, ad10, ad18, ad26, ad34, ad42, ad47, ad52, ad59, ad107, ad117, ml8, mr8, ml5, ml10, hz_s, h0]
  rw [e319, b319_0]
  by_cases hn0 : n = 0
  · subst hn0; exact hfin 1 (by omega) (by omega)
  refine (fo_ex (n := n) (head := fun i (_ : Unit) => hs_R scr d 319 2 [some (.ref 140), some (.int (nI i))] [] (hs_S0, hs_z J 145 r, L, R)) (q := qE r) (res := fun _ => some (some (.int 0), (hs_S0, hs_z J 145 r, L, R))) (fin := some (some (.int 1), (hs_S0, hs_z J 145 r, L, R))) ?_ (fun _ => hfin n (Nat.le_refl _) hn) (n - 1) 1 () (by omega)).trans ?_
  · intro i j hi
    show (_ ∧ hs_R scr d 319 2 _ _ _ = _) ∨ (_ ∧ ∃ j', hs_R scr d 319 2 _ _ _ = _)
    rw [b319_2 o11]
    simp (disch := omega) only [Option.bind_some, Option.toList_some, Option.toList_none, List.append_nil, List.cons_append, List.nil_append, ↓reduceIte, true_or, or_true, Nat.reduceAdd, Nat.add_assoc, f_ge, t_le, t_lt, f_lt, f_l0, t_0l, t_pl, t_eq, f_eq, f_e0, i10, i01, ib_nI, nI_clamp, nI_add, ad10, ad18, ad26, ad34, ad42, ad47, ad52, ad59, ad107, ad117, ml8, mr8, ml5, ml10, hz_s, h0, nI_1]
    by_cases g : r (26 + i) = r 26
    · right; exact ⟨by simp [qE, g], (), by rw [if_pos g]⟩
    · left; exact ⟨by simp [qE, g], by rw [if_neg g]⟩
  · cases fnd (qE r) 1 (n - 1) <;> rfl
theorem ca40 : CA40 scr hs_S0 Rel 99 := by
  intro I L R hP
  obtain ⟨rt, st, pt, qt, n, np, nr, nl, nb, nq, hA⟩ := hP; obtain ⟨hE, ⟨⟨hn8, hc0, hx0, hh⟩, ⟨hp5, hc1, hx1, hpp⟩, ⟨hr6, hc2, hx2, hrr, hru⟩, ⟨hl6, hc3, hx3, hll⟩, ⟨hb6, hq10, hc4, hx4, hc5, hx5, hqq⟩, hD, hN, hG⟩, hT, hTx, hM, hK⟩ := id hA; have o10 := k10_2 hE.1; have o11 := k11_140 hE.1; have o4 := Env_4 hE; have o1 : ok1 hs_S0 R (rt + 5) := o4.2.2.2.2.2.1; have r10_8 := hE.2.1; have hrt := hE.2.2.2.2.2.1; have hpt := hE.2.2.2.2.2.2
  obtain ⟨lp, hlp⟩ := lpc_ex hA.2.1.2.2.1
  have hHB := HB_of hA.2.1.1 hA.2.1.2.2.1 hD hlp
  have h16 := hD.2.2.2.1
  have hX := fo_ex (n := 201) (head := fun i (j : Unit) => hs_R scr 99 136 2 [some (.ref 2), some (.int (nI i))] [] (hs_S0, I, L, R)) (q := fun i => (fnd (qE (cd (I 145) n lp i)) 1 (n - 1)).isNone) (res := fun i => some (some (.int (nI i)), (hs_S0, hs_u I 2 16 0, L, R))) (fin := some (some (.int (-1)), (hs_S0, hs_u I 2 16 8, L, R))) (fun i j hi => by
      show (_ ∧ hs_R scr 99 136 2 _ _ _ = _) ∨ (_ ∧ ∃ j', hs_R scr 99 136 2 _ _ _ = _)
      rw [b136_2 o10 r10_8 o4]
      simp (disch := omega) only [Option.bind_some, Option.toList_some, Option.toList_none, List.append_nil, List.cons_append, List.nil_append, ↓reduceIte, true_or, or_true, Nat.reduceAdd, Nat.add_assoc, f_ge, t_le, t_lt, f_lt, f_l0, t_0l, t_pl, t_eq, f_eq, f_e0, i10, i01, ib_nI, nI_clamp, nI_add, ad10, ad18, ad26, ad34, ad42, ad47, ad52, ad59, ad107, ad117, ml8, mr8, ml5, ml10, hu_same, hu_row, hu_at, hu_hu, f200, nI_1, e136, b136_27 o10, b136_35, b136_48, e68, b68_0 o10, h16, x137 (lp := lp) o4 hA.2.1.1 hD.2.2.2.2 (show i ≤ 200 by omega)]
      cases hf : fnd (qE (cd (I 145) n lp i)) 1 (n - 1) with
      | none => left; exact ⟨rfl, by simp only [↓reduceIte, i10]⟩
      | some a => right; exact ⟨rfl, (), by simp only [↓reduceIte]⟩) (fun j => by
      show hs_R scr 99 136 2 _ _ _ = _
      rw [b136_2 o10 r10_8 o4]
      simp (disch := omega) only [Option.bind_some, Option.toList_some, Option.toList_none, List.append_nil, List.cons_append, List.nil_append, ↓reduceIte, true_or, or_true, Nat.reduceAdd, Nat.add_assoc, f_ge, t_le, t_lt, f_lt, f_l0, t_0l, t_pl, t_eq, f_eq, f_e0, i10, i01, ib_nI, nI_clamp, nI_add, ad10, ad18, ad26, ad34, ad42, ad47, ad52, ad59, ad107, ad117, ml8, mr8, ml5, ml10, hu_same, hu_row, hu_at, hu_hu, tp, e136, b136_27 o10, b136_35, b136_48, e28, b28_0 o10]) 201 0 () (by omega)
  have hM := fun (J : Nat → Nat → Int32) (hJ : J 145 = I 145) => fo_ex (n := 201) (head := fun i (j : Unit) => hs_R scr 99 318 18 [some (.ref 140), some (.int (-1)), some (.int (nI i))] [] (hs_S0, hs_z (sas J) 145 (cd (J 145) n lp i), L, R)) (q := fun i => (fnd (qE (cd (I 145) n lp i)) 1 (n - 1)).isNone) (res := fun i => some (some (.int (nI i)), (hs_S0, sas J, L, R))) (fin := some (some (.int (-1)), (hs_S0, hs_u (sas J) 140 0 8, L, R))) (fun i j hi => by
      show (_ ∧ hs_R scr 99 318 18 _ _ _ = _) ∨ (_ ∧ ∃ j', hs_R scr 99 318 18 _ _ _ = _)
      rw [hJ]
      have h0 : cd (I 145) n lp i 0 = nI n := by rw [cd_o (by omega)]; exact hc0
      rw [b318_18 o11]
      simp (disch := omega) only [Option.bind_some, Option.toList_some, Option.toList_none, List.append_nil, List.cons_append, List.nil_append, ↓reduceIte, true_or, or_true, Nat.reduceAdd, Nat.add_assoc, f_ge, t_le, t_lt, f_lt, f_l0, t_0l, t_pl, t_eq, f_eq, f_e0, i10, i01, ib_nI, nI_clamp, nI_add, ad10, ad18, ad26, ad34, ad42, ad47, ad52, ad59, ad107, ad117, ml8, mr8, ml5, ml10, hu_same, hu_row, hu_at, hu_hu, f200, f0m, nI_1, m319 (scr := scr) (L := L) o11 h0 hn8, b318_33, b318_38 o11]
      cases hf : fnd (qE (cd (I 145) n lp i)) 1 (n - 1) with
      | none =>
        left
        refine ⟨rfl, ?_⟩
        simp only [↓reduceIte, i10, m284d o11 hHB, Option.bind_some, Option.toList_some, Option.toList_none, List.append_nil, List.cons_append, List.nil_append, ↓reduceIte, true_or, or_true, Nat.reduceAdd, Nat.add_assoc, b318_42, nI_1]
        rw [b318_18 o11]
        simp (disch := omega) only [Option.bind_some, Option.toList_some, Option.toList_none, List.append_nil, List.cons_append, List.nil_append, ↓reduceIte, true_or, or_true, Nat.reduceAdd, Nat.add_assoc, f_ge, t_le, t_lt, f_lt, f_l0, t_0l, t_pl, t_eq, f_eq, f_e0, i10, i01, ib_nI, nI_clamp, nI_add, ad10, ad18, ad26, ad34, ad42, ad47, ad52, ad59, ad107, ad117, ml8, mr8, ml5, ml10, hu_same, hu_row, hu_at, hu_hu, e318, b318_16, b318_33, b318_38 o11, b318_42, b318_48 o11, b318_52 o11, b318_62, b318_66, m307 o11 (J := J) (r := cd (I 145) n lp (i + 1)) (fun k hk => by rw [hJ]; exact cd_hi hn8 hk), ite_self]
      | some a =>
        right
        refine ⟨rfl, (), ?_⟩
        simp only [↓reduceIte, m284d o11 hHB, Option.bind_some, Option.toList_some, Option.toList_none, List.append_nil, List.cons_append, List.nil_append, ↓reduceIte, true_or, or_true, Nat.reduceAdd, Nat.add_assoc, b318_42, nI_1]) (fun j => by
      show hs_R scr 99 318 18 _ _ _ = _
      rw [b318_18 o11]
      simp (disch := omega) only [Option.bind_some, Option.toList_some, Option.toList_none, List.append_nil, List.cons_append, List.nil_append, ↓reduceIte, true_or, or_true, Nat.reduceAdd, Nat.add_assoc, f_ge, t_le, t_lt, f_lt, f_l0, t_0l, t_pl, t_eq, f_eq, f_e0, i10, i01, ib_nI, nI_clamp, nI_add, ad10, ad18, ad26, ad34, ad42, ad47, ad52, ad59, ad107, ad117, ml8, mr8, ml5, ml10, hu_same, hu_row, hu_at, hu_hu, tp, f0m, e318, b318_16, b318_33, b318_38 o11, b318_42, b318_48 o11, b318_52 o11, b318_62, b318_66, e265, b265_0 o11, m307 o11 (J := J) (r := cd (J 145) n lp 201) (fun k hk => cd_hi hn8 hk)]) 201 0 () (by omega)
  cases hf : fnd (fun i => (fnd (qE (cd (I 145) n lp i)) 1 (n - 1)).isNone) 0 201 with
  | none =>
    rw [hf] at hX
    have hJ : hs_u (hs_u (hs_u I 2 16 8) 140 1 0) 140 0 0 145 = I 145 := by simp (disch := omega) only [hu_same, hu_row, hu_at, hu_hu]
    have hM' := hM _ hJ
    rw [hf, hJ, cd_0 hHB, ← hJ, sas_z, nI_0] at hM'
    refine CK_sc hA (-1) 8 ?_ ?_
    · rw [e136, b136_0]; exact hX
    · rw [e318, b318_0 o11, m306 o11]
      simp only [Option.bind_some, Option.toList_some, Option.toList_none, List.append_nil, List.cons_append, List.nil_append, ↓reduceIte, true_or, or_true, Nat.reduceAdd, Nat.add_assoc, b318_16]
      exact hM'
  | some b =>
    rw [hf] at hX
    have hJ : hs_u (hs_u (hs_u I 2 16 0) 140 1 0) 140 0 0 145 = I 145 := by simp (disch := omega) only [hu_same, hu_row, hu_at, hu_hu]
    have hM' := hM _ hJ
    rw [hf, hJ, cd_0 hHB, ← hJ, sas_z, nI_0] at hM'
    refine CK_sc hA (nI b) 0 ?_ ?_
    · rw [e136, b136_0]; exact hX
    · rw [sas_0, e318, b318_0 o11, m306 o11]
      simp only [Option.bind_some, Option.toList_some, Option.toList_none, List.append_nil, List.cons_append, List.nil_append, ↓reduceIte, true_or, or_true, Nat.reduceAdd, Nat.add_assoc, b318_16]
      exact hM'
end WH
