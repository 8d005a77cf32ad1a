/-! within -/
theorem r4 (a b c e : Int32) : a - b - c + e = (a - b) - (c - e) := by grind
theorem r5 (s x y : Int32) : s + x + (y - x) = s + y := by grind
def Ef (c : Nat → Int32) (n u v : Nat) : Int32 := Bf c n (nI u) (nI v) - (if u = 0 then 0 else Bf c n (nI (u - 1)) (nI v))
def Df (c : Nat → Int32) (n u v : Nat) : Int32 := if v = 0 then Ef c n u 0 else Ef c n u v - Ef c n u (v - 1)
theorem fo_tel {c : Nat → Int32} {n u : Nat} {s : Int32} : ∀ e, fo (fun v s => s + Df c n u v) (e + 1) s = s + Ef c n u e
  | 0 => by show s + Df c n u 0 = _; rw [Df, if_pos rfl]
  | e + 1 => by
    show fo (fun v s => s + Df c n u v) (e + 1) s + Df c n u (e + 1) = _
    rw [fo_tel e, Df, if_neg (by omega), Nat.add_sub_cancel, r5]
theorem Ef_2 {c : Nat → Int32} {n u v : Nat} (hb : ∀ k, k < n → bd (c (26 + k)) 2) (hv : v ≤ 4) : Ef c n u v = Ef c n u (min 2 v) := by
  by_cases h : v ≤ 2
  · rw [Nat.min_eq_right h]
  · rw [Nat.min_eq_left (by omega)]
    unfold Ef
    have : nI v = 2 ∨ nI v = 3 ∨ nI v = 4 := by
      have : v = 3 ∨ v = 4 := by omega
      rcases this with rfl | rfl
      · exact Or.inr (Or.inl rfl)
      · exact Or.inr (Or.inr rfl)
    rw [Bf_2 hb this, Bf_2 (x := nI (u - 1)) hb this]; rfl
theorem f2l {l : Nat} (h : l ≤ 2) : ((2 : Int32) < nI l) = False := eq_false (nI_nlt (a := 2) h (by omega))
theorem t2l {l : Nat} (h : 2 < l) (hl : l < 2 ^ 31) : ((2 : Int32) < nI l) = True := eq_true (nI_lt (a := 2) h hl)
theorem fnl0 {l : Nat} (h : l ≠ 0) (hl : l < 2 ^ 31) : (nI l ≤ 0) = False := eq_false (nI_nle (by omega) hl)
section WI
variable {scr : List Int32} {d t rt st pt qt n np nr nl nb nq lp : Nat} {c r : Nat → Int32} {I I' J : Nat → Nat → Int32} {L L' : Nat → Nat → Int64} {R : Nat → Nat → Nat}
theorem x128 {m : Nat} (o1 : ok1 hs_S0 R (t + 5)) (h : RH n c I t) (hm : m ≤ 4) : hs_C scr (d + 1) 128 [.ref (t + 5), .int (nI m)] (hs_S0, I, L, R) = some (some (.int (fo (fun v s => s + Ef c n v (m - v)) (min m 2 + 1) 0)), (hs_S0, I, L, R)) := by
  have hl := fo_upT (n := min m 2 + 1) (g := fun v s => s + Ef c n v (m - v)) (head := fun i s => hs_R scr (d + 1) 128 4 [some (.ref (t + 5)), some (.int (nI m)), some (.int s), some (.int (nI i))] [] (hs_S0, I, L, R)) (fun i s hi => by
    show hs_R scr (d + 1) 128 4 _ _ _ = hs_R scr (d + 1) 128 4 _ _ _
    rw [b128_4 o1]
    simp (disch := omega) only [Option.bind_some, Option.toList_some, Option.toList_none, List.append_nil, List.cons_append, List.nil_append, ↓reduceIte, true_or, or_true, Nat.reduceAdd, Nat.add_assoc, f_ge, t_le, t_lt, f_lt, f_l0, t_0l, t_pl, t_eq, f_eq, f_e0, i10, i01, ib_nI, nI_clamp, nI_add, ad10, ad18, ad26, ad34, ad42, ad47, ad52, ad59, ad107, ad117, ml8, mr8, ml5, ml10, hu_same, hu_row, hu_at, hu_hu, f2l, pk_sub, x129 o1 h (nI_pos' (n := i) (by omega)), b128_23 o1]
    by_cases hi0 : i = 0
    · subst hi0
      have e : hs_C scr d 129 [.ref (t + 5), .int (nI 0 - 1), .int (nI (m - 0))] (hs_S0, I, L, R) = some (some (.int 0), (hs_S0, I, L, R)) := x129n
      rw [e]
      simp only [Option.bind_some, Option.toList_some, Option.toList_none, List.append_nil, List.cons_append, List.nil_append, ↓reduceIte, true_or, or_true, Nat.reduceAdd, Nat.add_assoc, b128_33, nI_1, Ef]
    · obtain ⟨i', rfl⟩ : ∃ i', i = i' + 1 := ⟨i - 1, by omega⟩
      rw [nI_pred, x129 o1 h (nI_pos' (by omega))]
      simp only [Option.bind_some, Option.toList_some, Option.toList_none, List.append_nil, List.cons_append, List.nil_append, ↓reduceIte, true_or, or_true, Nat.reduceAdd, Nat.add_assoc, b128_33, nI_1, Ef, Nat.add_sub_cancel, Nat.add_eq_zero_iff, Nat.succ_ne_self, and_false]) 0
  rw [nI_0] at hl
  rw [e128, b128_0]
  refine hl.trans ?_
  show hs_R scr (d + 1) 128 4 _ _ _ = _
  rw [b128_4 o1]
  by_cases q : m < min m 2 + 1
  · rw [if_pos (nI_lt q (by omega)), b128_42]
  · rw [if_neg (nI_nlt (by omega) (by omega)), if_pos (show (2 : Int32) < nI (min m 2 + 1) from nI_lt (a := 2) (by omega) (by omega)), b128_42]
theorem m310 {u v : Nat} (o11 : ok11 hs_S0 R 140) (hc0 : I 145 0 = nI n) (hn : n ≤ 8) (hu : u ≤ 2) (hv : v ≤ 2) : hs_C scr (d + 1) 310 [.ref 140, .int (nI u), .int (nI v)] (hs_S0, I, L, R) = some (some (.int (Df (I 145) n u v)), (hs_S0, I, L, R)) := by
  by_cases hu0 : u = 0
  · subst hu0
    by_cases hv0 : v = 0
    · subst hv0
      simp (disch := omega) only [Option.bind_some, Option.toList_some, Option.toList_none, List.append_nil, List.cons_append, List.nil_append, ↓reduceIte, true_or, or_true, Nat.reduceAdd, Nat.add_assoc, f_ge, t_le, t_lt, f_lt, f_l0, t_0l, t_pl, t_eq, f_eq, f_e0, i10, i01, ib_nI, nI_clamp, nI_add, ad10, ad18, ad26, ad34, ad42, ad47, ad52, ad59, ad107, ad117, ml8, mr8, ml5, ml10, hu_same, hu_row, hu_at, hu_hu, e310, b310_0 o11, b310_6 o11, b310_20, b310_22 o11, b310_35, b310_37 o11, b310_56, b310_60, b310_61, m311 o11 hc0 hn, show (nI 0 ≤ 0) = True from eq_true (by decide)]
      simp only [Df, Ef, ↓reduceIte, Int32.sub_zero]
    · obtain ⟨v', rfl⟩ : ∃ v', v = v' + 1 := ⟨v - 1, by omega⟩
      simp (disch := omega) only [Option.bind_some, Option.toList_some, Option.toList_none, List.append_nil, List.cons_append, List.nil_append, ↓reduceIte, true_or, or_true, Nat.reduceAdd, Nat.add_assoc, f_ge, t_le, t_lt, f_lt, f_l0, t_0l, t_pl, t_eq, f_eq, f_e0, i10, i01, ib_nI, nI_clamp, nI_add, ad10, ad18, ad26, ad34, ad42, ad47, ad52, ad59, ad107, ad117, ml8, mr8, ml5, ml10, hu_same, hu_row, hu_at, hu_hu, e310, b310_0 o11, b310_6 o11, b310_20, b310_22 o11, b310_35, b310_37 o11, b310_56, b310_60, b310_61, m311 o11 hc0 hn, show (nI 0 ≤ 0) = True from eq_true (by decide), fnl0, nI_pred]
      simp only [Df, Ef, ↓reduceIte, Int32.sub_zero, Nat.add_sub_cancel, hv0]
  · obtain ⟨u', rfl⟩ : ∃ u', u = u' + 1 := ⟨u - 1, by omega⟩
    by_cases hv0 : v = 0
    · subst hv0
      simp (disch := omega) only [Option.bind_some, Option.toList_some, Option.toList_none, List.append_nil, List.cons_append, List.nil_append, ↓reduceIte, true_or, or_true, Nat.reduceAdd, Nat.add_assoc, f_ge, t_le, t_lt, f_lt, f_l0, t_0l, t_pl, t_eq, f_eq, f_e0, i10, i01, ib_nI, nI_clamp, nI_add, ad10, ad18, ad26, ad34, ad42, ad47, ad52, ad59, ad107, ad117, ml8, mr8, ml5, ml10, hu_same, hu_row, hu_at, hu_hu, e310, b310_0 o11, b310_6 o11, b310_20, b310_22 o11, b310_35, b310_37 o11, b310_56, b310_60, b310_61, m311 o11 hc0 hn, show (nI 0 ≤ 0) = True from eq_true (by decide), fnl0, nI_pred]
      simp only [Df, Ef, ↓reduceIte, Nat.add_sub_cancel, hu0]
    · obtain ⟨v', rfl⟩ : ∃ v', v = v' + 1 := ⟨v - 1, by omega⟩
      simp (disch := omega) only [Option.bind_some, Option.toList_some, Option.toList_none, List.append_nil, List.cons_append, List.nil_append, ↓reduceIte, true_or, or_true, Nat.reduceAdd, Nat.add_assoc, f_ge, t_le, t_lt, f_lt, f_l0, t_0l, t_pl, t_eq, f_eq, f_e0, i10, i01, ib_nI, nI_clamp, nI_add, ad10, ad18, ad26, ad34, ad42, ad47, ad52, ad59, ad107, ad117, ml8, mr8, ml5, ml10, hu_same, hu_row, hu_at, hu_hu, e310, b310_0 o11, b310_6 o11, b310_20, b310_22 o11, b310_35, b310_37 o11, b310_56, b310_60, b310_61, m311 o11 hc0 hn, fnl0, nI_pred]
      simp only [Df, Ef, ↓reduceIte, Nat.add_sub_cancel, hu0, hv0, r4]
theorem m309_in {m u : Nat} (o11 : ok11 hs_S0 R 140) (hc0 : I 145 0 = nI n) (hn : n ≤ 8) (hu : u ≤ 2) (hm : m ≤ 4) (s : Int32) : ∃ q, hs_R scr (d + 2) 309 40 [some (.ref 140), some (.int (nI m)), some (.int s), some (.int (nI u)), some (.int 0)] [] (hs_S0, I, L, R) = hs_R scr (d + 2) 309 32 [some (.ref 140), some (.int (nI m)), some (.int (s + (if u ≤ m then Ef (I 145) n u (min 2 (m - u)) else 0))), some (.int (nI (u + 1))), q] [] (hs_S0, I, L, R) := by
  by_cases hum : u ≤ m
  · have hl := fo_upT (n := min 2 (m - u) + 1) (g := fun v s => s + Df (I 145) n u v) (head := fun i s => hs_R scr (d + 2) 309 40 [some (.ref 140), some (.int (nI m)), some (.int s), some (.int (nI u)), some (.int (nI i))] [] (hs_S0, I, L, R)) (fun i s hi => by
      show hs_R scr (d + 2) 309 40 _ _ _ = hs_R scr (d + 2) 309 40 _ _ _
      rw [b309_40 o11]
      simp (disch := omega) only [Option.bind_some, Option.toList_some, Option.toList_none, List.append_nil, List.cons_append, List.nil_append, ↓reduceIte, true_or, or_true, Nat.reduceAdd, Nat.add_assoc, f_ge, t_le, t_lt, f_lt, f_l0, t_0l, t_pl, t_eq, f_eq, f_e0, i10, i01, ib_nI, nI_clamp, nI_add, ad10, ad18, ad26, ad34, ad42, ad47, ad52, ad59, ad107, ad117, ml8, mr8, ml5, ml10, hu_same, hu_row, hu_at, hu_hu, f2l, m310 o11 hc0 hn hu (show i ≤ 2 by omega), b309_62, nI_1]) s
    rw [nI_0, fo_tel] at hl
    rw [if_pos hum]
    refine ⟨some (.int (nI (min 2 (m - u) + 1))), hl.trans ?_⟩
    show hs_R scr (d + 2) 309 40 _ _ _ = _
    rw [b309_40 o11]
    by_cases q : 2 < min 2 (m - u) + 1
    · rw [if_pos (show (2 : Int32) < nI (min 2 (m - u) + 1) from nI_lt (a := 2) q (by omega)), b309_70, nI_1]
    · rw [if_neg (show ¬ (2 : Int32) < nI (min 2 (m - u) + 1) from nI_nlt (a := 2) (by omega) (by omega)), nI_add, if_pos (nI_lt (by omega) (by omega)), b309_70, nI_1]
  · rw [if_neg hum, Int32.add_zero]
    refine ⟨some (.int 0), ?_⟩
    rw [b309_40 o11, if_neg (by decide), ← nI_0, nI_add, if_pos (nI_lt (by omega) (by omega)), b309_70, nI_1]
theorem m309 {m : Nat} (o11 : ok11 hs_S0 R 140) (hc0 : I 145 0 = nI n) (hn : n ≤ 8) (hm : m ≤ 4) : hs_R scr (d + 2) 309 32 [some (.ref 140), some (.int (nI m)), some (.int 0), some (.int 0), none] [] (hs_S0, I, L, R) = some (some (.int (fo (fun u s => s + (if u ≤ m then Ef (I 145) n u (min 2 (m - u)) else 0)) 3 0)), (hs_S0, I, L, R)) := by
  obtain ⟨q, hl⟩ := fo_upJ (n := 3) (g := fun u s => s + (if u ≤ m then Ef (I 145) n u (min 2 (m - u)) else 0)) (head := fun i s (q : Option Value) => hs_R scr (d + 2) 309 32 [some (.ref 140), some (.int (nI m)), some (.int s), some (.int (nI i)), q] [] (hs_S0, I, L, R)) (fun i s q hi => by
    show ∃ q', hs_R scr (d + 2) 309 32 _ _ _ = hs_R scr (d + 2) 309 32 [some (.ref 140), some (.int (nI m)), some (.int _), some (.int (nI (i + 1))), q'] _ _
    obtain ⟨q', h⟩ := m309_in (scr := scr) (d := d) (L := L) o11 hc0 hn (show i ≤ 2 by omega) hm s
    refine ⟨q', ?_⟩
    rw [b309_32, if_neg (show ¬ (2 : Int32) < nI i from nI_nlt (a := 2) (by omega) (by omega))]
    exact h) 0 none 3 (Nat.le_refl _)
  rw [nI_0] at hl
  refine hl.trans ?_
  show hs_R scr (d + 2) 309 32 _ _ _ = _
  rw [b309_32, if_pos (show (2 : Int32) < nI 3 by decide)]
theorem ca35 : CA35 scr hs_S0 Rel 99 := by
  intro x I L R hP
  obtain ⟨rt, st, pt, qt, n, np, nr, nl, nb, nq, hA⟩ := hP; obtain ⟨hE, ⟨⟨hn8, hc0, hx0, hh⟩, ⟨hp5, hc1, hx1, hpp⟩, ⟨hr6, hc2, hx2, hrr, hru⟩, ⟨hl6, hc3, hx3, hll⟩, ⟨hb6, hq10, hc4, hx4, hc5, hx5, hqq⟩, hD, hN, hG⟩, hT, hTx, hM, hK⟩ := id hA; have o10 := k10_2 hE.1; have o11 := k11_140 hE.1; have o4 := Env_4 hE; have o1 : ok1 hs_S0 R (rt + 5) := o4.2.2.2.2.2.1; have r10_8 := hE.2.1; have hrt := hE.2.2.2.2.2.1; have hpt := hE.2.2.2.2.2.2
  rcases rg x 0 4 with hx | ⟨h1, h2, -⟩
  · refine CK_st hA (-1) 5 ?_ ?_
    · simp (disch := omega) only [Option.bind_some, Option.toList_some, Option.toList_none, List.append_nil, List.cons_append, List.nil_append, ↓reduceIte, true_or, or_true, Nat.reduceAdd, Nat.add_assoc, f_ge, t_le, t_lt, f_lt, f_l0, t_0l, t_pl, t_eq, f_eq, f_e0, i10, i01, ib_nI, nI_clamp, nI_add, ad10, ad18, ad26, ad34, ad42, ad47, ad52, ad59, ad107, ad117, ml8, mr8, ml5, ml10, hu_same, hu_row, hu_at, hu_hu, e127, b127_0 o10 r10_8 o4, b127_9 o10, b127_14, b127_29 o10, b127_32, e28, b28_0 o10, out_g hx]
    · simp (disch := first | omega | (simp (disch := omega) only [hu_same, hu_row, hu_at, hu_hu, hc0, hc1, hc2, hc3, hc4, hc5]; done)) only [Option.bind_some, Option.toList_some, Option.toList_none, List.append_nil, List.cons_append, List.nil_append, ↓reduceIte, true_or, or_true, Nat.reduceAdd, Nat.add_assoc, f_ge, t_le, t_lt, f_lt, f_l0, t_0l, t_pl, t_eq, f_eq, f_e0, i10, i01, ib_nI, nI_clamp, nI_add, ad10, ad18, ad26, ad34, ad42, ad47, ad52, ad59, ad107, ad117, ml8, mr8, ml5, ml10, hu_same, hu_row, hu_at, hu_hu, e309, b309_0 o11, b309_19 o11, b309_27, b309_62, b309_70, e265, b265_0 o11, s223 0 4 0 4 rfl rfl, out_g hx]
  · obtain ⟨m, hm, rfl⟩ := rg_nat 4 rfl (by decide) h1 h2
    have hb : ∀ k, k < n → bd (I 145 (26 + k)) 2 := fun k hk => (hh k hk).2.2.2.2.2.2.1
    have hJ : hs_u (hs_u (hs_u I 2 16 0) 140 1 0) 140 0 0 145 = I 145 := by simp (disch := omega) only [hu_same, hu_row, hu_at, hu_hu]
    have hM := m309 (scr := scr) (d := 97) (L := L) (I := hs_u (hs_u (hs_u I 2 16 0) 140 1 0) 140 0 0) (n := n) o11 (by rw [hJ]; exact hc0) hn8 hm
    rw [hJ] at hM
    have heq : fo (fun v s => s + Ef (I 145) n v (m - v)) (min m 2 + 1) 0 = fo (fun u s => s + (if u ≤ m then Ef (I 145) n u (min 2 (m - u)) else 0)) 3 0 := by
      have hs : ∀ v s, v < min m 2 + 1 → s + Ef (I 145) n v (m - v) = s + (if v ≤ m then Ef (I 145) n v (min 2 (m - v)) else 0) := by
        intro v s hv
        rw [if_pos (by omega), Ef_2 hb (by omega)]
      rw [fo_cg (g' := fun u s => s + (if u ≤ m then Ef (I 145) n u (min 2 (m - u)) else 0)) hs]
      by_cases q0 : m = 0
      · subst q0
        show _ = (_ + (if 1 ≤ 0 then _ else (0 : Int32))) + (if 2 ≤ 0 then _ else (0 : Int32))
        rw [if_neg (by omega), if_neg (by omega), Int32.add_zero, Int32.add_zero]; rfl
      · by_cases q1 : m = 1
        · subst q1
          show _ = _ + (if 2 ≤ 1 then _ else (0 : Int32))
          rw [if_neg (by omega), Int32.add_zero]; rfl
        · rw [Nat.min_eq_right (by omega)]
    refine CK_st hA (fo (fun u s => s + (if u ≤ m then Ef (I 145) n u (min 2 (m - u)) else 0)) 3 0) 0 ?_ ?_
    · simp (disch := omega) only [Option.bind_some, Option.toList_some, Option.toList_none, List.append_nil, List.cons_append, List.nil_append, ↓reduceIte, true_or, or_true, Nat.reduceAdd, Nat.add_assoc, f_ge, t_le, t_lt, f_lt, f_l0, t_0l, t_pl, t_eq, f_eq, f_e0, i10, i01, ib_nI, nI_clamp, nI_add, ad10, ad18, ad26, ad34, ad42, ad47, ad52, ad59, ad107, ad117, ml8, mr8, ml5, ml10, hu_same, hu_row, hu_at, hu_hu, e127, b127_0 o10 r10_8 o4, b127_9 o10, b127_14, b127_29 o10, b127_32, e68, b68_0 o10, h1, h2, x128 o1 hA.2.1.1 hm, heq]
    · simp (disch := first | omega | (simp (disch := omega) only [hu_same, hu_row, hu_at, hu_hu, hc0, hc1, hc2, hc3, hc4, hc5]; done)) only [Option.bind_some, Option.toList_some, Option.toList_none, List.append_nil, List.cons_append, List.nil_append, ↓reduceIte, true_or, or_true, Nat.reduceAdd, Nat.add_assoc, f_ge, t_le, t_lt, f_lt, f_l0, t_0l, t_pl, t_eq, f_eq, f_e0, i10, i01, ib_nI, nI_clamp, nI_add, ad10, ad18, ad26, ad34, ad42, ad47, ad52, ad59, ad107, ad117, ml8, mr8, ml5, ml10, hu_same, hu_row, hu_at, hu_hu, e309, b309_0 o11, b309_19 o11, b309_27, b309_62, b309_70, s223 0 4 0 4 rfl rfl, h1, h2]
      exact hM
end WI
