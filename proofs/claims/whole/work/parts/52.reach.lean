/-! reach, within -/
theorem fo_upP {α β J : Type} {head : Nat → α → J → β} {g : Nat → α → α} {P : α → Prop} {n : Nat} (hs : ∀ i s j, i < n → P s → (∃ j', head i s j = head (i + 1) (g i s) j') ∧ P (g i s)) (s : α) (j : J) (h0 : P s) : ∀ m, m ≤ n → (∃ j', head 0 s j = head m (fo g m s) j') ∧ P (fo g m s)
  | 0, _ => ⟨⟨j, rfl⟩, h0⟩
  | m + 1, hm => by
    obtain ⟨⟨j1, h1⟩, p1⟩ := fo_upP hs s j h0 m (by omega)
    obtain ⟨⟨j2, h2⟩, p2⟩ := hs m (fo g m s) j1 (by omega) p1
    exact ⟨⟨j2, h1.trans h2⟩, p2⟩
def gR (c : Nat → Int32) (l k : Nat) (s : Int32 × Int32) : Int32 × Int32 := if qV c l k = true then (if s.1 < c (59 + 8 * l + k) - c (26 + k) then c (59 + 8 * l + k) - c (26 + k) else s.1, if s.2 < c (26 + k) - c (59 + 8 * l + k) then c (26 + k) - c (59 + 8 * l + k) else s.2) else s
theorem le_lt {a b : Int32} (h : 0 ≤ a) (h2 : a < b) : 0 ≤ b := by
  rw [Int32.le_iff_toInt_le] at h ⊢; rw [Int32.lt_iff_toInt_lt] at h2; omega
theorem gR_p {c : Nat → Int32} {l k : Nat} {s : Int32 × Int32} (h : 0 ≤ s.1 ∧ 0 ≤ s.2) : 0 ≤ (gR c l k s).1 ∧ 0 ≤ (gR c l k s).2 := by
  unfold gR
  split
  · refine ⟨?_, ?_⟩
    · dsimp only
      split
      · rename_i q; exact le_lt h.1 q
      · exact h.1
    · dsimp only
      split
      · rename_i q; exact le_lt h.2 q
      · exact h.2
  · exact h
def Bf (c : Nat → Int32) (n : Nat) (x y : Int32) : Int32 := fo (fun k s => s * (((if c (26 + k) + x < 2 then c (26 + k) + x else 2) - (if 0 < c (26 + k) - y then c (26 + k) - y else 0)) + 1)) n 1
theorem Bf_2 {c : Nat → Int32} {n : Nat} {x y : Int32} (hb : ∀ k, k < n → bd (c (26 + k)) 2) (hy : y = 2 ∨ y = 3 ∨ y = 4) : Bf c n x y = Bf c n x 2 := by
  unfold Bf
  refine fo_cg (fun k s hk => ?_)
  obtain ⟨a, ha, e⟩ := hb k hk
  have : (if (0 : Int32) < nI a - y then nI a - y else 0) = (if (0 : Int32) < nI a - 2 then nI a - 2 else 0) := by
    have : a = 0 ∨ a = 1 ∨ a = 2 := by omega
    rcases this with rfl | rfl | rfl <;> rcases hy with rfl | rfl | rfl <;> decide
  rw [e, this]
section RE
variable {scr : List Int32} {d t rt st pt qt n np nr nl nb nq lp : Nat} {c r : Nat → Int32} {I I' J : Nat → Nat → Int32} {L L' : Nat → Nat → Int64} {R : Nat → Nat → Nat}
theorem x126 {l : Nat} (o4 : ok4 hs_S0 R t) (h : RH n c I t) (h2 : RLk n nl c I t) (hl : l < 6) : hs_C scr (d + 1) 126 [.ref t, .int (nI l)] (hs_S0, I, L, R) = some (some (.int ((fo (gR c l) n (0, 0)).1 + (fo (gR c l) n (0, 0)).2)), (hs_S0, I, L, R)) := by
  obtain ⟨hn, -, hx0, hh⟩ := id h
  obtain ⟨⟨q, hq⟩, -⟩ := fo_upP (n := n) (g := gR c l) (P := fun s => 0 ≤ s.1 ∧ 0 ≤ s.2) (head := fun i s (q : Option Value) => hs_R scr (d + 1) 126 7 [some (.ref t), some (.int (nI l)), some (.int s.1), some (.int s.2), some (.int (nI i)), q] [] (hs_S0, I, L, R)) (fun i s q hi hp => by
    refine ⟨?_, gR_p hp⟩
    show ∃ q' : Option Value, hs_R scr (d + 1) 126 7 _ _ _ = hs_R scr (d + 1) 126 7 [some (.ref t), some (.int (nI l)), some (.int (gR c l i s).1), some (.int (gR c l i s).2), some (.int (nI (i + 1))), q'] _ _
    have h1 := hh i hi
    rw [b126_7 o4]
    simp (disch := omega) only [Option.bind_some, Option.toList_some, Option.toList_none, List.append_nil, List.cons_append, List.nil_append, ↓reduceIte, true_or, or_true, Nat.reduceAdd, Nat.add_assoc, f_ge, t_le, t_lt, f_lt, f_l0, t_0l, t_pl, t_eq, f_eq, f_e0, i10, i01, ib_nI, nI_clamp, nI_add, ad10, ad18, ad26, ad34, ad42, ad47, ad52, ad59, ad107, ad117, ml8, mr8, ml5, ml10, hu_same, hu_row, hu_at, hu_hu, hx0, nI_1, e126, b126_26 o4, b126_70, x96 o4 h2 hl hi hn, h1.2.2.1]
    refine ⟨some (.int (c (59 + (8 * l + i)))), ?_⟩
    by_cases g1 : c (59 + (8 * l + i)) = 3
    · simp only [g1, ↓reduceIte]
      rw [show gR c l i s = s from if_neg (by simp [qV, Nat.add_assoc, g1])]
    · simp only [g1, ↓reduceIte]
      by_cases g2 : c (59 + (8 * l + i)) = c (26 + i)
      · rw [show gR c l i s = s from if_neg (by simp [qV, Nat.add_assoc, g2]), g2, Int32.sub_self, if_neg ((i32_nlt s.1 0).mpr hp.1), if_neg ((i32_nlt s.2 0).mpr hp.2)]
      · have hq : qV c l i = true := by simp [qV, Nat.add_assoc, g1, g2]
        have e : gR c l i s = (if s.1 < c (59 + 8 * l + i) - c (26 + i) then c (59 + 8 * l + i) - c (26 + i) else s.1, if s.2 < c (26 + i) - c (59 + 8 * l + i) then c (26 + i) - c (59 + 8 * l + i) else s.2) := if_pos hq
        rw [e]
        simp only [Nat.add_assoc]) (0, 0) none ⟨by decide, by decide⟩ n (Nat.le_refl _)
  simp only [nI_0] at hq
  rw [e126, b126_0]
  refine hq.trans ?_
  rw [b126_7 o4]
  simp (disch := omega) only [Option.bind_some, Option.toList_some, Option.toList_none, List.append_nil, List.cons_append, List.nil_append, ↓reduceIte, true_or, or_true, Nat.reduceAdd, Nat.add_assoc, f_ge, t_le, t_lt, f_lt, f_l0, t_0l, t_pl, t_eq, f_eq, f_e0, i10, i01, ib_nI, nI_clamp, nI_add, ad10, ad18, ad26, ad34, ad42, ad47, ad52, ad59, ad107, ad117, ml8, mr8, ml5, ml10, hu_same, hu_row, hu_at, hu_hu, hx0]
theorem m308 {l : Nat} (o11 : ok11 hs_S0 R 140) (hc0 : I 145 0 = nI n) (hn : n ≤ 8) (hl : l < 6) : hs_R scr (d + 2) 308 31 [some (.ref 140), some (.int (nI l)), some (.int 0), some (.int 0), some (.int 0)] [] (hs_S0, I, L, R) = some (some (.int ((fo (gR (I 145) l) n (0, 0)).1 + (fo (gR (I 145) l) n (0, 0)).2)), (hs_S0, I, L, R)) := by
  have hlp := fo_upT (n := n) (g := gR (I 145) l) (head := fun i s => hs_R scr (d + 2) 308 31 [some (.ref 140), some (.int (nI l)), some (.int s.1), some (.int s.2), some (.int (nI i))] [] (hs_S0, I, L, R)) (fun i s hi => by
    show hs_R scr (d + 2) 308 31 _ _ _ = hs_R scr (d + 2) 308 31 _ _ _
    rw [b308_31 o11]
    simp (disch := omega) only [Option.bind_some, Option.toList_some, Option.toList_none, List.append_nil, List.cons_append, List.nil_append, ↓reduceIte, true_or, or_true, Nat.reduceAdd, Nat.add_assoc, f_ge, t_le, t_lt, f_lt, f_l0, t_0l, t_pl, t_eq, f_eq, f_e0, i10, i01, ib_nI, nI_clamp, nI_add, ad10, ad18, ad26, ad34, ad42, ad47, ad52, ad59, ad107, ad117, ml8, mr8, ml5, ml10, hu_same, hu_row, hu_at, hu_hu, hc0, nI_1, e308, b308_23, b308_49 o11, b308_63 o11, b308_96, b308_101, m302 o11 hl (show i < 8 by omega), m279 o11 hl (show i < 8 by omega)]
    by_cases g : qV (I 145) l i = true
    · simp only [g, ↓reduceIte]
      have e : gR (I 145) l i s = (if s.1 < I 145 (59 + 8 * l + i) - I 145 (26 + i) then I 145 (59 + 8 * l + i) - I 145 (26 + i) else s.1, if s.2 < I 145 (26 + i) - I 145 (59 + 8 * l + i) then I 145 (26 + i) - I 145 (59 + 8 * l + i) else s.2) := if_pos g
      rw [e]
      simp only [Nat.add_assoc]
    · simp only [g, ↓reduceIte, i10, Bool.false_eq_true]
      rw [show gR (I 145) l i s = s from if_neg g]) (0, 0)
  simp only [nI_0] at hlp
  refine hlp.trans ?_
  rw [b308_31 o11]
  simp (disch := omega) only [Option.bind_some, Option.toList_some, Option.toList_none, List.append_nil, List.cons_append, List.nil_append, ↓reduceIte, true_or, or_true, Nat.reduceAdd, Nat.add_assoc, f_ge, t_le, t_lt, f_lt, f_l0, t_0l, t_pl, t_eq, f_eq, f_e0, i10, i01, ib_nI, nI_clamp, nI_add, ad10, ad18, ad26, ad34, ad42, ad47, ad52, ad59, ad107, ad117, ml8, mr8, ml5, ml10, hu_same, hu_row, hu_at, hu_hu, hc0]
theorem ca34 : CA34 scr hs_S0 Rel 99 := by
  intro x I L R hP
  obtain ⟨rt, st, pt, qt, n, np, nr, nl, nb, nq, hA⟩ := hP; obtain ⟨hE, ⟨⟨hn8, hc0, hx0, hh⟩, ⟨hp5, hc1, hx1, hpp⟩, ⟨hr6, hc2, hx2, hrr, hru⟩, ⟨hl6, hc3, hx3, hll⟩, ⟨hb6, hq10, hc4, hx4, hc5, hx5, hqq⟩, hD, hN, hG⟩, hT, hTx, hM, hK⟩ := id hA; have o10 := k10_2 hE.1; have o11 := k11_140 hE.1; have o4 := Env_4 hE; have o1 : ok1 hs_S0 R (rt + 5) := o4.2.2.2.2.2.1; have r10_8 := hE.2.1; have hrt := hE.2.2.2.2.2.1; have hpt := hE.2.2.2.2.2.2
  rcases ix x (n := nl) (by omega) with hx | ⟨l, hl, rfl⟩
  · refine CK_st hA (-1) 2 ?_ ?_
    · simp (disch := omega) only [Option.bind_some, Option.toList_some, Option.toList_none, List.append_nil, List.cons_append, List.nil_append, ↓reduceIte, true_or, or_true, Nat.reduceAdd, Nat.add_assoc, f_ge, t_le, t_lt, f_lt, f_l0, t_0l, t_pl, t_eq, f_eq, f_e0, i10, i01, ib_nI, nI_clamp, nI_add, ad10, ad18, ad26, ad34, ad42, ad47, ad52, ad59, ad107, ad117, ml8, mr8, ml5, ml10, hu_same, hu_row, hu_at, hu_hu, e125, b125_0 o10, b125_5 o10 r10_8 o4, b125_17 o10, b125_20, b125_28, e28, b28_0 o10, s95n o10 r10_8 o4 hx3 hx]
    · simp (disch := first | omega | (simp (disch := omega) only [hu_same, hu_row, hu_at, hu_hu, hc0, hc1, hc2, hc3, hc4, hc5]; done)) only [Option.bind_some, Option.toList_some, Option.toList_none, List.append_nil, List.cons_append, List.nil_append, ↓reduceIte, true_or, or_true, Nat.reduceAdd, Nat.add_assoc, f_ge, t_le, t_lt, f_lt, f_l0, t_0l, t_pl, t_eq, f_eq, f_e0, i10, i01, ib_nI, nI_clamp, nI_add, ad10, ad18, ad26, ad34, ad42, ad47, ad52, ad59, ad107, ad117, ml8, mr8, ml5, ml10, hu_same, hu_row, hu_at, hu_hu, e308, b308_0 o11, b308_15 o11, b308_23, b308_49 o11, b308_63 o11, b308_96, b308_101, e265, b265_0 o11, s278n o11 (n := nl) (hx := hx) (hn := by omega)]
  · have hJ : hs_u (hs_u (hs_u I 2 16 0) 140 1 0) 140 0 0 145 = I 145 := by simp (disch := omega) only [hu_same, hu_row, hu_at, hu_hu]
    have hm := m308 (scr := scr) (d := 97) (L := L) (I := hs_u (hs_u (hs_u I 2 16 0) 140 1 0) 140 0 0) (n := n) o11 (by rw [hJ]; exact hc0) hn8 (show l < 6 by omega)
    rw [hJ] at hm
    refine CK_st hA ((fo (gR (I 145) l) n (0, 0)).1 + (fo (gR (I 145) l) n (0, 0)).2) 0 ?_ ?_
    · simp (disch := omega) only [Option.bind_some, Option.toList_some, Option.toList_none, List.append_nil, List.cons_append, List.nil_append, ↓reduceIte, true_or, or_true, Nat.reduceAdd, Nat.add_assoc, f_ge, t_le, t_lt, f_lt, f_l0, t_0l, t_pl, t_eq, f_eq, f_e0, i10, i01, ib_nI, nI_clamp, nI_add, ad10, ad18, ad26, ad34, ad42, ad47, ad52, ad59, ad107, ad117, ml8, mr8, ml5, ml10, hu_same, hu_row, hu_at, hu_hu, e125, b125_0 o10, b125_5 o10 r10_8 o4, b125_17 o10, b125_20, b125_28, e68, b68_0 o10, s95y o10 r10_8 o4 hx3 hl (by omega), x126 o4 hA.2.1.1 hA.2.1.2.2.2.1 (show l < 6 by omega)]
    · simp (disch := first | omega | (simp (disch := omega) only [hu_same, hu_row, hu_at, hu_hu, hc0, hc1, hc2, hc3, hc4, hc5]; done)) only [Option.bind_some, Option.toList_some, Option.toList_none, List.append_nil, List.cons_append, List.nil_append, ↓reduceIte, true_or, or_true, Nat.reduceAdd, Nat.add_assoc, f_ge, t_le, t_lt, f_lt, f_l0, t_0l, t_pl, t_eq, f_eq, f_e0, i10, i01, ib_nI, nI_clamp, nI_add, ad10, ad18, ad26, ad34, ad42, ad47, ad52, ad59, ad107, ad117, ml8, mr8, ml5, ml10, hu_same, hu_row, hu_at, hu_hu, e308, b308_0 o11, b308_15 o11, b308_23, b308_49 o11, b308_63 o11, b308_96, b308_101, s278y o11 (n := nl) (hk := hl) (hn := by omega)]
      exact hm
theorem x129 {x y : Int32} (o1 : ok1 hs_S0 R (t + 5)) (h : RH n c I t) (hx : 0 ≤ x) : hs_C scr d 129 [.ref (t + 5), .int x, .int y] (hs_S0, I, L, R) = some (some (.int (Bf c n x y)), (hs_S0, I, L, R)) := by
  obtain ⟨hn, -, hx0, hh⟩ := id h
  obtain ⟨q, hl⟩ := fo_upJ (n := n) (g := fun k s => s * (((if c (26 + k) + x < 2 then c (26 + k) + x else 2) - (if 0 < c (26 + k) - y then c (26 + k) - y else 0)) + 1)) (head := fun i s (q : Option Value × Option Value) => hs_R scr d 129 11 [some (.ref (t + 5)), some (.int x), some (.int y), some (.int s), some (.int (nI i)), q.1, q.2] [] (hs_S0, I, L, R)) (fun i s q hi => by
    show ∃ q' : Option Value × Option Value, hs_R scr d 129 11 _ _ _ = hs_R scr d 129 11 [some (.ref (t + 5)), some (.int x), some (.int y), some (.int _), some (.int (nI (i + 1))), q'.1, q'.2] _ _
    have h1 := hh i hi
    rw [b129_11 o1]
    simp (disch := omega) only [Option.bind_some, Option.toList_some, Option.toList_none, List.append_nil, List.cons_append, List.nil_append, ↓reduceIte, true_or, or_true, Nat.reduceAdd, Nat.add_assoc, f_ge, t_le, t_lt, f_lt, f_l0, t_0l, t_pl, t_eq, f_eq, f_e0, i10, i01, ib_nI, nI_clamp, nI_add, ad10, ad18, ad26, ad34, ad42, ad47, ad52, ad59, ad107, ad117, ml8, mr8, ml5, ml10, hu_same, hu_row, hu_at, hu_hu, hx0, nI_1, h1.2.2.1]
    exact ⟨(_, _), rfl⟩) 1 (none, none) n (Nat.le_refl _)
  rw [nI_0] at hl
  rw [e129, b129_0, if_pos hx]
  refine hl.trans ?_
  show hs_R scr d 129 11 _ _ _ = _
  rw [b129_11 o1]
  simp (disch := omega) only [Option.bind_some, Option.toList_some, Option.toList_none, List.append_nil, List.cons_append, List.nil_append, ↓reduceIte, true_or, or_true, Nat.reduceAdd, Nat.add_assoc, f_ge, t_le, t_lt, f_lt, f_l0, t_0l, t_pl, t_eq, f_eq, f_e0, i10, i01, ib_nI, nI_clamp, nI_add, ad10, ad18, ad26, ad34, ad42, ad47, ad52, ad59, ad107, ad117, ml8, mr8, ml5, ml10, hu_same, hu_row, hu_at, hu_hu, hx0]
  rfl
theorem x129n {y : Int32} : hs_C scr d 129 [.ref (t + 5), .int (-1), .int y] (hs_S0, I, L, R) = some (some (.int 0), (hs_S0, I, L, R)) := by
  rw [e129, b129_0, if_neg (by decide)]
theorem m311 {x y : Int32} (o11 : ok11 hs_S0 R 140) (hc0 : I 145 0 = nI n) (hn : n ≤ 8) : hs_C scr d 311 [.ref 140, .int x, .int y] (hs_S0, I, L, R) = some (some (.int (Bf (I 145) n x y)), (hs_S0, I, L, R)) := by
  have hl := fo_upT (n := n) (g := fun k s => s * (((if I 145 (26 + k) + x < 2 then I 145 (26 + k) + x else 2) - (if 0 < I 145 (26 + k) - y then I 145 (26 + k) - y else 0)) + 1)) (head := fun i s => hs_R scr d 311 5 [some (.ref 140), some (.int x), some (.int y), some (.int s), some (.int (nI i))] [] (hs_S0, I, L, R)) (fun i s hi => by
    show hs_R scr d 311 5 _ _ _ = hs_R scr d 311 5 _ _ _
    rw [b311_5 o11]
    simp (disch := omega) only [Option.bind_some, Option.toList_some, Option.toList_none, List.append_nil, List.cons_append, List.nil_append, ↓reduceIte, true_or, or_true, Nat.reduceAdd, Nat.add_assoc, f_ge, t_le, t_lt, f_lt, f_l0, t_0l, t_pl, t_eq, f_eq, f_e0, i10, i01, ib_nI, nI_clamp, nI_add, ad10, ad18, ad26, ad34, ad42, ad47, ad52, ad59, ad107, ad117, ml8, mr8, ml5, ml10, hu_same, hu_row, hu_at, hu_hu, hc0, nI_1]) 1
  rw [nI_0] at hl
  rw [e311, b311_0]
  refine hl.trans ?_
  show hs_R scr d 311 5 _ _ _ = _
  rw [b311_5 o11]
  simp (disch := omega) only [Option.bind_some, Option.toList_some, Option.toList_none, List.append_nil, List.cons_append, List.nil_append, ↓reduceIte, true_or, or_true, Nat.reduceAdd, Nat.add_assoc, f_ge, t_le, t_lt, f_lt, f_l0, t_0l, t_pl, t_eq, f_eq, f_e0, i10, i01, ib_nI, nI_clamp, nI_add, ad10, ad18, ad26, ad34, ad42, ad47, ad52, ad59, ad107, ad117, ml8, mr8, ml5, ml10, hu_same, hu_row, hu_at, hu_hu, hc0]
  rfl
end RE
