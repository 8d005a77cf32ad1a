/-! mark, back -/
section MB
variable {scr : List Int32} {d t rt st pt qt n np nr nl nb nq lp t0 t1 : Nat} {c r : Nat → Int32} {I I' J : Nat → Nat → Int32} {L L' : Nat → Nat → Int64} {R : Nat → Nat → Nat}
theorem RG_7 (h : RG n nl c I t) : I t 7 = 0 ∨ I t 7 = 1 := by
  obtain ⟨h1, h2⟩ := h
  rcases h2 with h2 | ⟨h2, -⟩
  · exact Or.inl (h1.trans h2)
  · exact Or.inr (h1.trans h2)
theorem ca59 : CA59 scr hs_S0 Rel 99 := by
  intro I L R hP
  obtain ⟨rt, st, pt, qt, n, np, nr, nl, nb, nq, hA⟩ := hP; obtain ⟨hE, ⟨⟨hn8, hc0, hx0, hh⟩, ⟨hp5, hc1, hx1, hpp⟩, ⟨hr6, hc2, hx2, hrr, hru⟩, ⟨hl6, hc3, hx3, hll⟩, ⟨hb6, hq10, hc4, hx4, hc5, hx5, hqq⟩, hD, hN, hG⟩, hT, hTx, hM, hK⟩ := id hA; have o10 := k10_2 hE.1; have o11 := k11_140 hE.1; have o4 := Env_4 hE; have o1 : ok1 hs_S0 R (rt + 5) := o4.2.2.2.2.2.1; have r10_8 := hE.2.1; have hrt := hE.2.2.2.2.2.1; have hpt := hE.2.2.2.2.2.2
  have o5 := Env_5 hE
  have r10_10 := hE.2.2.2.1
  obtain ⟨m, hm3, hm1, hm2, hmk⟩ := id hK
  by_cases hm : m = 3
  · subst hm
    refine CK_st hA (-1) 7 ?_ ?_
    · rw [e188, b188_0 o10, hm1, if_neg (by decide)]
      simp (disch := omega) only [Option.bind_some, Option.toList_some, Option.toList_none, List.append_nil, List.cons_append, List.nil_append, ↓reduceIte, true_or, or_true, Nat.reduceAdd, Nat.add_assoc, f_ge, t_le, t_lt, f_lt, f_l0, t_0l, t_pl, t_eq, f_eq, f_e0, i10, i01, ib_nI, nI_clamp, nI_add, ad10, ad18, ad26, ad34, ad42, ad47, ad52, ad59, ad107, ad117, ml8, mr8, ml5, ml10, hu_same, hu_row, hu_at, hu_hu, b188_14, e28, b28_0 o10]
    · rw [e358, b358_0 o11]
      simp (disch := omega) only [Option.bind_some, Option.toList_some, Option.toList_none, List.append_nil, List.cons_append, List.nil_append, ↓reduceIte, true_or, or_true, Nat.reduceAdd, Nat.add_assoc, f_ge, t_le, t_lt, f_lt, f_l0, t_0l, t_pl, t_eq, f_eq, f_e0, i10, i01, ib_nI, nI_clamp, nI_add, ad10, ad18, ad26, ad34, ad42, ad47, ad52, ad59, ad107, ad117, ml8, mr8, ml5, ml10, hu_same, hu_row, hu_at, hu_hu, hm2, show (nI 3 = 3) = True from eq_true rfl, b358_24, e265, b265_0 o11]
  · have hm' : m < 3 := by omega
    obtain ⟨r13, om4, r14, om5⟩ := Rc_mk hE.1 hm'
    obtain ⟨I1, L1, e1, f1, f2, f3, f4⟩ := x185 (scr := scr) (d := 97) (I := I) (L := L) om4 o4 (by omega) (by rw [hD.2.2.2.1]; exact hD.2.2.2.2)
    have h7 : I1 pt 7 = 0 ∨ I1 pt 7 = 1 := by rw [f1 pt (by omega)]; exact RG_7 hG
    obtain ⟨I2, e2, g0, g4⟩ := x189 (scr := scr) (d := 98) (I := I1) (L := L1) om5 o5 (by omega) h7
    have g1 : ∀ k, k < 74 + 22 * m ∨ 96 + 22 * m ≤ k → I2 k = I k := fun k hk => by rw [g0 k (by omega), f1 k (by omega)]
    have hmM := fun (J : Nat → Nat → Int32) => m259 (scr := scr) (d := 98) (J := J) (L := L1) (a := 0) (b := m + 1) o11 (by omega) (by omega) (by omega)
    simp only [nI_0, Nat.mul_zero, Nat.zero_add] at hmM
    have i15 : I1 2 15 = nI m := by rw [f1 2 (by omega)]; exact hm1
    have j15 : I2 2 15 = nI m := by rw [g1 2 (by omega)]; exact hm1
    have b1 : nI m < 3 := nI_lt (b := 3) hm' (by omega)
    have b2 : (nI m = 3) = False := eq_false fun q => by have := (nI_eq (a := m) (b := 3) (by omega) (by omega)).mp q; omega
    refine ⟨nI (m + 1), hs_u (hs_u I2 2 15 (nI (m + 1))) 2 16 0, L1, R, wr (hs_u (hs_u (hs_u (hs_u (hs_u I2 2 15 (nI (m + 1))) 2 16 0) 140 1 0) 140 0 0) 140 24 (nI (m + 1))) 145 (399 * (m + 1)) 399 (fun k => I 145 k), wr L1 148 (31 * (m + 1)) 31 (fun k => L1 148 k), R, ?_, o11, ?_, ?_⟩
    · rw [e188, b188_0 o10, hm1, if_pos b1]
      simp (disch := omega) only [Option.bind_some, Option.toList_some, Option.toList_none, List.append_nil, List.cons_append, List.nil_append, ↓reduceIte, true_or, or_true, Nat.reduceAdd, Nat.add_assoc, f_ge, t_le, t_lt, f_lt, f_l0, t_0l, t_pl, t_eq, f_eq, f_e0, i10, i01, ib_nI, nI_clamp, nI_add, ad10, ad18, ad26, ad34, ad42, ad47, ad52, ad59, ad107, ad117, ml8, mr8, ml5, ml10, hu_same, hu_row, hu_at, hu_hu, t2le', and_true, r13, b188_24 (o_t0 := o10) (e_t0_8 := r10_8) (o_t0_8 := o4) (o_u0 := om4), b188_31 o10, e1, i15, r14, b188_40 (o_t0 := o10) (e_t0_10 := r10_10) (o_t0_10 := o5) (o_u0 := om5), e2, b188_47 o10, j15, nI_1, e68, b68_0 o10, b188_65]
    · rw [e358, b358_0 o11]
      simp (disch := omega) only [Option.bind_some, Option.toList_some, Option.toList_none, List.append_nil, List.cons_append, List.nil_append, ↓reduceIte, true_or, or_true, Nat.reduceAdd, Nat.add_assoc, f_ge, t_le, t_lt, f_lt, f_l0, t_0l, t_pl, t_eq, f_eq, f_e0, i10, i01, ib_nI, nI_clamp, nI_add, ad10, ad18, ad26, ad34, ad42, ad47, ad52, ad59, ad107, ad117, ml8, mr8, ml5, ml10, hu_same, hu_row, hu_at, hu_hu, g1, hm2, b2, nI_1, hmM, b358_44 o11, wr_row]
    · refine ⟨rt, st, pt, qt, n, np, nr, nl, nb, nq, hE, RX_cg hA.2.1 (fun k hk => by simp (disch := omega) only [hu_same, hu_row, hu_at, hu_hu, wr_row, wr_out, g1]) (fun k hk => by rw [wr_out _ _ (by omega), f2 _ (by omega)]) (fun o ho => by simp (disch := omega) only [hu_same, hu_row, hu_at, hu_hu, wr_row, wr_out, g1]) (by rw [wr_row _ _ (by omega), f2 _ (by omega)]) (fun o ho => by simp (disch := omega) only [hu_same, hu_row, hu_at, hu_hu, wr_row, wr_out, g1]), Tr_cg hT (fun j hj => by simp (disch := omega) only [hu_same, hu_row, hu_at, hu_hu, wr_row, wr_out, g1]) (fun j hj => by rw [wr_row _ _ (by omega), f2 _ (by omega)]) (by simp (disch := omega) only [hu_same, hu_row, hu_at, hu_hu, wr_row, wr_out, g1]) (by simp (disch := omega) only [hu_same, hu_row, hu_at, hu_hu, wr_row, wr_out, g1]) (by rw [wr_row _ _ (by omega), f2 _ (by omega)]), Tx_cg hTx (by simp (disch := omega) only [hu_same, hu_row, hu_at, hu_hu, wr_row, wr_out, g1]) (by simp (disch := omega) only [hu_same, hu_row, hu_at, hu_hu, wr_row, wr_out, g1]) (by simp (disch := omega) only [hu_same, hu_row, hu_at, hu_hu, wr_row, wr_out, g1]) (by simp (disch := omega) only [hu_same, hu_row, hu_at, hu_hu, wr_row, wr_out, g1]) (by simp (disch := omega) only [hu_same, hu_row, hu_at, hu_hu, wr_row, wr_out, g1]) (by simp (disch := omega) only [hu_same, hu_row, hu_at, hu_hu, wr_row, wr_out, g1]) (by simp (disch := omega) only [hu_same, hu_row, hu_at, hu_hu, wr_row, wr_out, g1]) (by simp (disch := omega) only [hu_same, hu_row, hu_at, hu_hu, wr_row, wr_out, g1]) (by rw [wr_row _ _ (by omega), f2 _ (by omega)]), Ms_cg hM (by simp (disch := omega) only [hu_same, hu_row, hu_at, hu_hu, wr_row, wr_out, g1]) (by rw [wr_row _ _ (by omega), wr_row _ _ (by omega), f2 _ (by omega), f2 _ (by omega)]; exact hM.2.1) (by rw [wr_row _ _ (by omega), wr_row _ _ (by omega), f2 _ (by omega), f2 _ (by omega)]; exact hM.2.2.1) (by simp (disch := omega) only [hu_same, hu_row, hu_at, hu_hu, wr_row, wr_out, g1]) (by simp (disch := omega) only [hu_same, hu_row, hu_at, hu_hu, wr_row, wr_out, g1]) (by simp (disch := omega) only [hu_same, hu_row, hu_at, hu_hu, wr_row, wr_out, g1]) (by simp (disch := omega) only [hu_same, hu_row, hu_at, hu_hu, wr_row, wr_out, g1]), ?_⟩
      refine ⟨m + 1, by omega, by simp (disch := omega) only [hu_same, hu_row, hu_at, hu_hu, wr_row, wr_out, g1], by simp (disch := omega) only [hu_same, hu_row, hu_at, hu_hu, wr_row, wr_out, g1], fun i hi => ?_⟩
      by_cases him : i = m
      · subst him
        refine ⟨n, np, nr, nl, nb, nq, RX_cb hA.2.1 (fun k hk => ?_) (fun k hk => ?_) (fun o b hob => ?_) (fun b hb => ?_) (fun o b hob => ?_)⟩
        · rw [wr_in _ _ (by omega), Nat.add_sub_cancel_left]
        · rw [wr_in _ _ (by omega), Nat.add_sub_cancel_left, f2 _ (by omega)]
        · rw [wr_row _ _ (by omega), hu_row _ _ (by omega), hu_row _ _ (by omega), hu_row _ _ (by omega), hu_row _ _ (by omega), hu_row _ _ (by omega), g0 _ (by omega)]
          exact f4 o b hob
        · rw [wr_row _ _ (by omega)]; exact f3 b hb
        · rw [wr_row _ _ (by omega), hu_row _ _ (by omega), hu_row _ _ (by omega), hu_row _ _ (by omega), hu_row _ _ (by omega), hu_row _ _ (by omega), g4 o b hob, f1 _ (by omega)]
      · obtain ⟨n1, np1, nr1, nl1, nb1, nq1, h⟩ := hmk i (by omega)
        exact ⟨n1, np1, nr1, nl1, nb1, nq1, RX_cg h (fun k hk => by simp (disch := omega) only [hu_same, hu_row, hu_at, hu_hu, wr_row, wr_out, g1]) (fun k hk => by rw [wr_out _ _ (by omega), f2 _ (by omega)]) (fun o ho => by simp (disch := omega) only [hu_same, hu_row, hu_at, hu_hu, wr_row, wr_out, g1]) (by rw [wr_row _ _ (by omega), f2 _ (by omega)]) (fun o ho => by simp (disch := omega) only [hu_same, hu_row, hu_at, hu_hu, wr_row, wr_out, g1])⟩
theorem ca60 : CA60 scr hs_S0 Rel 99 := by
  intro I L R hP
  obtain ⟨rt, st, pt, qt, n, np, nr, nl, nb, nq, hA⟩ := hP; obtain ⟨hE, ⟨⟨hn8, hc0, hx0, hh⟩, ⟨hp5, hc1, hx1, hpp⟩, ⟨hr6, hc2, hx2, hrr, hru⟩, ⟨hl6, hc3, hx3, hll⟩, ⟨hb6, hq10, hc4, hx4, hc5, hx5, hqq⟩, hD, hN, hG⟩, hT, hTx, hM, hK⟩ := id hA; have o10 := k10_2 hE.1; have o11 := k11_140 hE.1; have o4 := Env_4 hE; have o1 : ok1 hs_S0 R (rt + 5) := o4.2.2.2.2.2.1; have r10_8 := hE.2.1; have hrt := hE.2.2.2.2.2.1; have hpt := hE.2.2.2.2.2.2
  have o5 := Env_5 hE
  have r10_10 := hE.2.2.2.1
  obtain ⟨m, hm3, hm1, hm2, hmk⟩ := id hK
  by_cases hm : m = 0
  · subst hm
    refine CK_st hA (-1) 8 ?_ ?_
    · rw [e190, b190_0 o10 r10_8 o4, hm1, if_neg (by decide)]
      simp (disch := omega) only [Option.bind_some, Option.toList_some, Option.toList_none, List.append_nil, List.cons_append, List.nil_append, ↓reduceIte, true_or, or_true, Nat.reduceAdd, Nat.add_assoc, f_ge, t_le, t_lt, f_lt, f_l0, t_0l, t_pl, t_eq, f_eq, f_e0, i10, i01, ib_nI, nI_clamp, nI_add, ad10, ad18, ad26, ad34, ad42, ad47, ad52, ad59, ad107, ad117, ml8, mr8, ml5, ml10, hu_same, hu_row, hu_at, hu_hu, b190_13, e28, b28_0 o10]
    · rw [e359, b359_0 o11]
      simp (disch := omega) only [Option.bind_some, Option.toList_some, Option.toList_none, List.append_nil, List.cons_append, List.nil_append, ↓reduceIte, true_or, or_true, Nat.reduceAdd, Nat.add_assoc, f_ge, t_le, t_lt, f_lt, f_l0, t_0l, t_pl, t_eq, f_eq, f_e0, i10, i01, ib_nI, nI_clamp, nI_add, ad10, ad18, ad26, ad34, ad42, ad47, ad52, ad59, ad107, ad117, ml8, mr8, ml5, ml10, hu_same, hu_row, hu_at, hu_hu, hm2, show (nI 0 = 0) = True from eq_true rfl, b359_23, e265, b265_0 o11]
  · obtain ⟨k0, rfl⟩ : ∃ k0, m = k0 + 1 := ⟨m - 1, by omega⟩
    have hm' : k0 < 3 := by omega
    obtain ⟨r13, om4, r14, om5⟩ := Rc_mk hE.1 hm'
    obtain ⟨n1, np1, nr1, nl1, nb1, nq1, hX⟩ := hmk k0 (by omega)
    have hD1 := hX.2.2.2.2.2.1
    have hG1 := hX.2.2.2.2.2.2.2
    obtain ⟨I1, L1, e1, f1, f2, f3, f4⟩ := x185 (scr := scr) (d := 97) (I := hs_u I 2 15 (nI k0)) (L := L) o4 om4 (by omega) (by rw [hu_row _ _ (by omega), hD1.2.2.2.1]; exact hD1.2.2.2.2)
    have h7 : I1 (90 + 22 * k0) 7 = 0 ∨ I1 (90 + 22 * k0) 7 = 1 := by rw [f1 _ (by omega), hu_row _ _ (by omega)]; exact RG_7 hG1
    obtain ⟨I2, e2, g0, g4⟩ := x189 (scr := scr) (d := 98) (I := I1) (L := L1) o5 om5 (by omega) h7
    have g1 : ∀ k, k ≠ 2 → (k < rt ∨ rt + 16 ≤ k) → (k < pt ∨ pt + 6 ≤ k) → I2 k = I k := fun k h2 hk hk2 => by rw [g0 k (by omega), f1 k (by omega), hu_row _ _ h2]
    have g2 : I2 2 = up (I 2) 15 (nI k0) := by rw [g0 2 (by omega), f1 2 (by omega), hu_up]
    have hmM := fun (J : Nat → Nat → Int32) => m259 (scr := scr) (d := 98) (J := J) (L := L1) (a := k0 + 1) (b := 0) o11 (by omega) (by omega) (by omega)
    simp only [nI_0, Nat.mul_zero] at hmM
    have i15 : I1 2 15 = nI k0 := by rw [f1 2 (by omega), hu_same]
    have j15 : I2 2 15 = nI k0 := by rw [g2, up_s]
    have b1 : (0 : Int32) < nI (k0 + 1) := nI_lt (a := 0) (by omega) (by omega)
    refine ⟨nI k0, hs_u I2 2 16 0, L1, R, hs_u (wr (hs_u (hs_u (hs_u I2 2 16 0) 140 1 0) 140 0 0) 145 0 399 (fun k => I 145 (399 * (k0 + 1) + k))) 140 24 (nI k0), wr L1 148 0 31 (fun k => L1 148 (31 * (k0 + 1) + k)), R, ?_, o11, ?_, ?_⟩
    · rw [e190, b190_0 o10 r10_8 o4, hm1, if_pos b1, nI_pred]
      simp (disch := omega) only [Option.bind_some, Option.toList_some, Option.toList_none, List.append_nil, List.cons_append, List.nil_append, ↓reduceIte, true_or, or_true, Nat.reduceAdd, Nat.add_assoc, f_ge, t_le, t_lt, f_lt, f_l0, t_0l, t_pl, t_eq, f_eq, f_e0, i10, i01, ib_nI, nI_clamp, nI_add, ad10, ad18, ad26, ad34, ad42, ad47, ad52, ad59, ad107, ad117, ml8, mr8, ml5, ml10, hu_same, hu_row, hu_at, hu_hu, t2le', and_true, r13, b190_37 (o_u0 := o4), e1, b190_40 o10 r10_10 o5, i15, r14, b190_53 (o_u0 := o5), e2, b190_56 o10, j15, e68, b68_0 o10, b190_64]
    · rw [e359, b359_0 o11]
      simp (disch := omega) only [Option.bind_some, Option.toList_some, Option.toList_none, List.append_nil, List.cons_append, List.nil_append, ↓reduceIte, true_or, or_true, Nat.reduceAdd, Nat.add_assoc, f_ge, t_le, t_lt, f_lt, f_l0, t_0l, t_pl, t_eq, f_eq, f_e0, i10, i01, ib_nI, nI_clamp, nI_add, ad10, ad18, ad26, ad34, ad42, ad47, ad52, ad59, ad107, ad117, ml8, mr8, ml5, ml10, hu_same, hu_row, hu_at, hu_hu, g1, hm2, hmM, b359_33 o11, wr_row, nI_pred]
    · have w1 : ∀ k, k ≠ 2 → k ≠ 140 → k ≠ 145 → (k < rt ∨ rt + 16 ≤ k) → (k < pt ∨ pt + 6 ≤ k) → hs_u (wr (hs_u (hs_u (hs_u I2 2 16 0) 140 1 0) 140 0 0) 145 0 399 (fun k => I 145 (399 * (k0 + 1) + k))) 140 24 (nI k0) k = I k := fun k h1 h2 h3 h4 h5 => by
        rw [hu_row _ _ h2, wr_row _ _ h3, hu_row _ _ h2, hu_row _ _ h2, hu_row _ _ h1, g1 k h1 h4 h5]
      have w140 : ∀ f, f ≠ 0 → f ≠ 1 → f ≠ 24 → hs_u (wr (hs_u (hs_u (hs_u I2 2 16 0) 140 1 0) 140 0 0) 145 0 399 (fun k => I 145 (399 * (k0 + 1) + k))) 140 24 (nI k0) 140 f = I 140 f := fun f h1 h2 h3 => by
        rw [hu_ne _ _ h3, wr_row _ _ (by omega), hu_ne _ _ h1, hu_ne _ _ h2, hu_row _ _ (by omega), g1 140 (by omega) (by omega) (by omega)]
      have w145 : ∀ k, 399 ≤ k → hs_u (wr (hs_u (hs_u (hs_u I2 2 16 0) 140 1 0) 140 0 0) 145 0 399 (fun k => I 145 (399 * (k0 + 1) + k))) 140 24 (nI k0) 145 k = I 145 k := fun k hk => by
        rw [hu_row _ _ (by omega), wr_out _ _ (by omega), hu_row _ _ (by omega), hu_row _ _ (by omega), hu_row _ _ (by omega), g1 145 (by omega) (by omega) (by omega)]
      have w2 : ∀ f, f ≠ 15 → f ≠ 16 → hs_u (wr (hs_u (hs_u (hs_u I2 2 16 0) 140 1 0) 140 0 0) 145 0 399 (fun k => I 145 (399 * (k0 + 1) + k))) 140 24 (nI k0) 2 f = I 2 f := fun f h1 h2 => by
        rw [hu_row _ _ (by omega), wr_row _ _ (by omega), hu_row _ _ (by omega), hu_row _ _ (by omega), hu_ne _ _ h2, g2, up_n _ _ h1]
      refine ⟨rt, st, pt, qt, n1, np1, nr1, nl1, nb1, nq1, hE, RX_cb hX (fun k hk => ?_) (fun k hk => ?_) (fun o b hob => ?_) (fun b hb => ?_) (fun o b hob => ?_), Tr_cg hT (fun j hj => w1 _ (by omega) (by omega) (by omega) (by omega) (by omega)) (fun j hj => by rw [wr_row _ _ (by omega), f2 _ (by omega)]) (w1 _ (by omega) (by omega) (by omega) (by omega) (by omega)) (w1 _ (by omega) (by omega) (by omega) (by omega) (by omega)) (by rw [wr_row _ _ (by omega), f2 _ (by omega)]), Tx_cg hTx (by rw [w1 4 (by omega) (by omega) (by omega) (by omega) (by omega)]) (w140 _ (by omega) (by omega) (by omega)) (w1 _ (by omega) (by omega) (by omega) (by omega) (by omega)) (w1 _ (by omega) (by omega) (by omega) (by omega) (by omega)) (by rw [w1 4 (by omega) (by omega) (by omega) (by omega) (by omega)]) (w140 _ (by omega) (by omega) (by omega)) (by rw [w1 4 (by omega) (by omega) (by omega) (by omega) (by omega)]) (w140 _ (by omega) (by omega) (by omega)) (by rw [wr_row _ _ (by omega), f2 _ (by omega)]), Ms_cg hM (by simp (disch := omega) only [hu_same, hu_row, hu_at, hu_hu, wr_row]) (by rw [wr_row _ _ (by omega), wr_row _ _ (by omega), f2 _ (by omega), f2 _ (by omega)]; exact hM.2.1) (by rw [wr_row _ _ (by omega), wr_row _ _ (by omega), f2 _ (by omega), f2 _ (by omega)]; exact hM.2.2.1) (w2 _ (by omega) (by omega)) (w140 _ (by omega) (by omega) (by omega)) (w1 _ (by omega) (by omega) (by omega) (by omega) (by omega)) (w1 _ (by omega) (by omega) (by omega) (by omega) (by omega)), ?_⟩
      · rw [hu_row _ _ (by omega), wr_in _ _ (by omega), Nat.sub_zero]
      · rw [wr_in _ _ (by omega), Nat.sub_zero, f2 _ (by omega)]
      · rw [hu_row _ _ (by omega), wr_row _ _ (by omega), hu_row _ _ (by omega), hu_row _ _ (by omega), hu_row _ _ (by omega), g0 _ (by omega), f4 o b hob, hu_row _ _ (by omega)]
      · rw [wr_row _ _ (by omega)]; exact f3 b hb
      · rw [hu_row _ _ (by omega), wr_row _ _ (by omega), hu_row _ _ (by omega), hu_row _ _ (by omega), hu_row _ _ (by omega), g4 o b hob, f1 _ (by omega), hu_row _ _ (by omega)]
      · refine ⟨k0, by omega, ?_, by rw [hu_same], fun i hi => ?_⟩
        · rw [hu_row _ _ (by omega), wr_row _ _ (by omega), hu_row _ _ (by omega), hu_row _ _ (by omega), hu_ne _ _ (by omega), j15]
        · obtain ⟨n2, np2, nr2, nl2, nb2, nq2, h⟩ := hmk i (by omega)
          exact ⟨n2, np2, nr2, nl2, nb2, nq2, RX_cg h (fun k hk => w145 _ (by omega)) (fun k hk => by rw [wr_out _ _ (by omega), f2 _ (by omega)]) (fun o ho => w1 _ (by omega) (by omega) (by omega) (by omega) (by omega)) (by rw [wr_row _ _ (by omega), f2 _ (by omega)]) (fun o ho => w1 _ (by omega) (by omega) (by omega) (by omega) (by omega))⟩
end MB
