/-! feed -/
def shv (j : Nat) : Int32 := if j = 0 then 24 else if j = 1 then 16 else if j = 2 then 8 else 0
def byt (x : Int32) (j : Nat) : Int32 := Int8.toInt32 (Int32.toInt8 (x >>> (shv j &&& 31)))
theorem byt_r (x : Int32) (j : Nat) : (byt x j).toInt8.toInt32 = byt x j := by unfold byt; simp
theorem byt_vb (x : Int32) (j : Nat) : vp_nar .byte (byt x j) = byt x j := pk_vb _
theorem hu_3 {α : Type} (m : Nat → Nat → α) {k f p q : Nat} (a b v : α) (h : k ≠ p) : hs_u (hs_u (hs_u m k f a) p q v) k f b = hs_u (hs_u m p q v) k f b := by
  funext x y; simp only [hs_u]
  by_cases h1 : x = k ∧ y = f
  · rw [if_pos h1, if_pos h1]
  · rw [if_neg h1, if_neg h1, if_neg h1]
def apX (I : Nat → Nat → Int32) (ts : Nat) (x : Int32) : Nat → Nat → Int32 := hs_u (wr I 5 ts 4 (byt x)) 4 5 (nI (ts + 4))
def apM (I : Nat → Nat → Int32) (ts : Nat) (x : Int32) : Nat → Nat → Int32 := hs_u (wr I 144 ts 4 (byt x)) 140 8 (nI (ts + 4))
theorem f900 {l : Nat} (h : l < 900) : (900 ≤ nI l) = False := eq_false (nI_ge (b := 900) h (by omega))
def sx (i : Nat) : Int32 := if i = 0 then 24 else if i = 1 then 16 else if i = 2 then 8 else if i = 3 then 0 else -8
def sm (i : Nat) : Int32 := if i = 0 then 3 else if i = 1 then 2 else if i = 2 then 1 else if i = 3 then 0 else -1
theorem sx_s : ∀ i, i < 4 → sx i + (-8) = sx (i + 1) ∧ ¬ sx i < 0 ∧ shv i = sx i := by decide
theorem sm_s : ∀ i, i < 4 → sm i + (-1) = sm (i + 1) ∧ ¬ sm i < 0 ∧ shv i = 8 * sm i := by decide
section FE
variable {scr : List Int32} {d rt st pt qt n np nr nl nb nq ts : Nat} {I : Nat → Nat → Int32} {L : Nat → Nat → Int64} {R : Nat → Nat → Nat}
theorem x33_loop {x : Int32} (o8 : ok8 hs_S0 R 4) (hts : ts + 4 ≤ 900) : ∀ p i, i + p = 4 → hs_R scr d 33 3 [some (.ref 4), some (.int x), some (.int (sx i))] [] (hs_S0, hs_u (wr I 5 ts i (byt x)) 4 5 (nI (ts + i)), L, R) = some (none, (hs_S0, apX I ts x, L, R))
  | 0, i, h => by
    obtain rfl : i = 4 := by omega
    rw [b33_3 o8, if_pos (show sx 4 < 0 by decide), b33_46]; rfl
  | p + 1, i, h => by
    obtain ⟨h1, h2, h3⟩ := sx_s i (by omega)
    have hw := wr_s I 5 ts i (byt x)
    have hb : Int8.toInt32 (Int32.toInt8 (x >>> (sx i &&& 31))) = byt x i := by unfold byt; rw [h3]
    rw [b33_3 o8, if_neg h2]
    simp (disch := omega) only [Option.bind_some, Option.toList_some, Option.toList_none, List.append_nil, List.cons_append, List.nil_append, ↓reduceIte, true_or, or_true, Nat.reduceAdd, Nat.add_assoc, f_ge, t_le, t_lt, f_lt, f_l0, t_0l, t_pl, t_eq, f_eq, f_e0, i10, i01, ib_nI, nI_clamp, nI_add, ad10, ad18, ad26, ad34, ad42, ad47, ad52, ad59, ad107, ad117, ml8, mr8, ml5, ml10, hu_same, hu_row, f900, nI_1, byt_vb, hb, h1]
    rw [hu_3 _ _ _ _ (by omega), hw]
    exact x33_loop o8 hts p (i + 1) (by omega)
theorem x33 {x : Int32} (o8 : ok8 hs_S0 R 4) (hts : ts + 4 ≤ 900) (h : I 4 5 = nI ts) : hs_C scr d 33 [.ref 4, .int x] (hs_S0, I, L, R) = some (none, (hs_S0, apX I ts x, L, R)) := by
  have := x33_loop (scr := scr) (d := d) (I := I) (L := L) (x := x) o8 hts 4 0 rfl
  rw [wr_0, Nat.add_zero, hu_self _ h] at this
  rw [e33, b33_0]; exact this
theorem m205_loop {x : Int32} (o11 : ok11 hs_S0 R 140) (hts : ts + 4 ≤ 900) : ∀ p i, i + p = 4 → hs_R scr d 205 2 [some (.ref 140), some (.int x), some (.int (sm i))] [] (hs_S0, hs_u (wr I 144 ts i (byt x)) 140 8 (nI (ts + i)), L, R) = some (none, (hs_S0, apM I ts x, L, R))
  | 0, i, h => by
    obtain rfl : i = 4 := by omega
    rw [b205_2 o11, if_pos (show sm 4 < 0 by decide)]; rfl
  | p + 1, i, h => by
    obtain ⟨h1, h2, h3⟩ := sm_s i (by omega)
    have hw := wr_s I 144 ts i (byt x)
    have hb : Int8.toInt32 (Int32.toInt8 (x >>> (8 * sm i &&& 31))) = byt x i := by unfold byt; rw [h3]
    rw [b205_2 o11, if_neg h2]
    simp (disch := omega) only [Option.bind_some, Option.toList_some, Option.toList_none, List.append_nil, List.cons_append, List.nil_append, ↓reduceIte, true_or, or_true, Nat.reduceAdd, Nat.add_assoc, f_ge, t_le, t_lt, f_lt, f_l0, t_0l, t_pl, t_eq, f_eq, f_e0, i10, i01, ib_nI, nI_clamp, nI_add, ad10, ad18, ad26, ad34, ad42, ad47, ad52, ad59, ad107, ad117, ml8, mr8, ml5, ml10, hu_same, hu_row, nI_1, byt_vb, hb, h1]
    rw [hu_3 _ _ _ _ (by omega), hw]
    exact m205_loop o11 hts p (i + 1) (by omega)
theorem m205 {x : Int32} (o11 : ok11 hs_S0 R 140) (hts : ts + 4 ≤ 900) (h : I 140 8 = nI ts) : hs_C scr d 205 [.ref 140, .int x] (hs_S0, I, L, R) = some (none, (hs_S0, apM I ts x, L, R)) := by
  have := m205_loop (scr := scr) (d := d) (I := I) (L := L) (x := x) o11 hts 4 0 rfl
  rw [wr_0, Nat.add_zero, hu_self _ h] at this
  rw [e205, b205_0]; exact this
theorem apX_4 (I : Nat → Nat → Int32) (ts : Nat) (x : Int32) : apX I ts x 4 5 = nI (ts + 4) := hu_same _ _ _ _
theorem apM_8 (I : Nat → Nat → Int32) (ts : Nat) (x : Int32) : apM I ts x 140 8 = nI (ts + 4) := hu_same _ _ _ _
theorem apX_row (I : Nat → Nat → Int32) (ts : Nat) (x : Int32) {k : Nat} (h : k ≠ 4 ∧ k ≠ 5) : apX I ts x k = I k := by
  unfold apX; rw [hu_row _ _ h.1, wr_row _ _ h.2]
theorem apM_row (I : Nat → Nat → Int32) (ts : Nat) (x : Int32) {k : Nat} (h : k ≠ 140 ∧ k ≠ 144) : apM I ts x k = I k := by
  unfold apM; rw [hu_row _ _ h.1, wr_row _ _ h.2]
theorem apX_f (I : Nat → Nat → Int32) (ts : Nat) (x : Int32) {f : Nat} (h : f ≠ 5) : apX I ts x 4 f = I 4 f := by
  unfold apX; rw [hu_ne _ _ h, wr_row _ _ (by omega)]
theorem apM_f (I : Nat → Nat → Int32) (ts : Nat) (x : Int32) {f : Nat} (h : f ≠ 8) : apM I ts x 140 f = I 140 f := by
  unfold apM; rw [hu_ne _ _ h, wr_row _ _ (by omega)]
theorem apX_o (I : Nat → Nat → Int32) (ts : Nat) (x : Int32) {i : Nat} (h : ¬ (ts ≤ i ∧ i < ts + 4)) : apX I ts x 5 i = I 5 i := by
  unfold apX; rw [hu_row _ _ (by omega), wr_out _ _ h]
theorem apX_i (I : Nat → Nat → Int32) (ts : Nat) (x : Int32) {i : Nat} (h : ts ≤ i ∧ i < ts + 4) : apX I ts x 5 i = byt x (i - ts) := by
  unfold apX; rw [hu_row _ _ (by omega), wr_in _ _ h]
theorem apM_o (I : Nat → Nat → Int32) (ts : Nat) (x : Int32) {i : Nat} (h : ¬ (ts ≤ i ∧ i < ts + 4)) : apM I ts x 144 i = I 144 i := by
  unfold apM; rw [hu_row _ _ (by omega), wr_out _ _ h]
theorem apM_i (I : Nat → Nat → Int32) (ts : Nat) (x : Int32) {i : Nat} (h : ts ≤ i ∧ i < ts + 4) : apM I ts x 144 i = byt x (i - ts) := by
  unfold apM; rw [hu_row _ _ (by omega), wr_in _ _ h]
theorem ca7 : CA7 scr hs_S0 Rel 99 := by
  intro x1 x2 x3 x4 x5 I L R hP
  obtain ⟨rt, st, pt, qt, n, np, nr, nl, nb, nq, hA⟩ := hP; obtain ⟨hE, ⟨⟨hn8, hc0, hx0, hh⟩, ⟨hp5, hc1, hx1, hpp⟩, ⟨hr6, hc2, hx2, hrr, hru⟩, ⟨hl6, hc3, hx3, hll⟩, ⟨hb6, hq10, hc4, hx4, hc5, hx5, hqq⟩, hD, hN, hG⟩, hT, hTx, hM, hK⟩ := id hA; have o10 := k10_2 hE.1; have o11 := k11_140 hE.1; have o4 := Env_4 hE; have o1 : ok1 hs_S0 R (rt + 5) := o4.2.2.2.2.2.1; have r10_8 := hE.2.1; have hrt := hE.2.2.2.2.2.1; have hpt := hE.2.2.2.2.2.2
  have o8 : ok8 hs_S0 R 4 := k8_4 hE.1
  obtain ⟨⟨ts, hts, hx, hm, hb⟩, hf1, hf2, hw⟩ := hTx
  by_cases h : ts + 20 ≤ 900
  · have e1 : ¬ (900 - 20 : Int32) < nI ts := by
      rw [show (900 - 20 : Int32) = nI 880 from rfl]; exact nI_nlt (by omega) (by omega)
    have e2 : nI ts + 20 ≤ 900 := by
      rw [show (20 : Int32) = nI 20 from rfl, nI_add, show (900 : Int32) = nI 900 from rfl]; exact nI_le (by omega) (by omega)
    refine ⟨nI (ts + 20), apX (apX (apX (apX (apX I ts x1) (ts + 4) x2) (ts + 8) x3) (ts + 12) x4) (ts + 16) x5, L, R, apM (apM (apM (apM (apM (hs_u (apX (apX (apX (apX (apX I ts x1) (ts + 4) x2) (ts + 8) x3) (ts + 12) x4) (ts + 16) x5) 140 1 0) ts x1) (ts + 4) x2) (ts + 8) x3) (ts + 12) x4) (ts + 16) x5, L, R, ?_, o11, ?_, ?_⟩
    · rw [e31, b31_0 o10, e32, b32_0 (t0 := 4) o8, hx]
      simp (disch := omega) only [Option.bind_some, Option.toList_some, Option.toList_none, List.append_nil, List.cons_append, List.nil_append, ↓reduceIte, true_or, or_true, Nat.reduceAdd, Nat.add_assoc, f_ge, t_le, t_lt, f_lt, f_l0, t_0l, t_pl, t_eq, f_eq, f_e0, i10, i01, ib_nI, nI_clamp, nI_add, ad10, ad18, ad26, ad34, ad42, ad47, ad52, ad59, ad107, ad117, ml8, mr8, ml5, ml10, hu_same, hu_row, hu_at, hu_hu, e1, b31_9 o10, b31_22 o10, b31_30 o10, b31_38 o10, b31_47 o10, b31_56 o10, b32_17, x33 (ts := ts) o8 (by omega) hx, x33 (ts := ts + 4) o8 (by omega) (apX_4 _ _ _), x33 (ts := ts + 8) o8 (by omega) (apX_4 _ (ts + 4) _), x33 (ts := ts + 12) o8 (by omega) (apX_4 _ (ts + 8) _), x33 (ts := ts + 16) o8 (by omega) (apX_4 _ (ts + 12) _), apX_4]
    · have hm' : hs_u (apX (apX (apX (apX (apX I ts x1) (ts + 4) x2) (ts + 8) x3) (ts + 12) x4) (ts + 16) x5) 140 1 0 140 8 = nI ts := by
        simp (disch := omega) only [hu_same, hu_row, hu_at, hu_hu, apX_row, apM_row, apX_f, apM_f, apX_4, apM_8, hm]
      simp (disch := omega) only [Option.bind_some, Option.toList_some, Option.toList_none, List.append_nil, List.cons_append, List.nil_append, ↓reduceIte, true_or, or_true, Nat.reduceAdd, Nat.add_assoc, e204, b204_0 o11, b204_25 o11, b204_30 o11, b204_35 o11, b204_41 o11, b204_47 o11, hm', e2, m205 (ts := ts) o11 (by omega) hm', m205 (ts := ts + 4) o11 (by omega) (apM_8 _ _ _), m205 (ts := ts + 8) o11 (by omega) (apM_8 _ (ts + 4) _), m205 (ts := ts + 12) o11 (by omega) (apM_8 _ (ts + 8) _), m205 (ts := ts + 16) o11 (by omega) (apM_8 _ (ts + 12) _), apM_8]
    · refine ⟨rt, st, pt, qt, n, np, nr, nl, nb, nq, hE, RX_cg hA.2.1 (fun k hk => by simp (disch := omega) only [hu_same, hu_row, hu_at, hu_hu, apX_row, apM_row, apX_f, apM_f, apX_4, apM_8]) (fun k hk => rfl) (fun o ho => by simp (disch := omega) only [hu_same, hu_row, hu_at, hu_hu, apX_row, apM_row, apX_f, apM_f, apX_4, apM_8]) rfl (fun o ho => by simp (disch := omega) only [hu_same, hu_row, hu_at, hu_hu, apX_row, apM_row, apX_f, apM_f, apX_4, apM_8]), Tr_cg hT (fun j hj => by simp (disch := omega) only [hu_same, hu_row, hu_at, hu_hu, apX_row, apM_row, apX_f, apM_f, apX_4, apM_8]) (fun j hj => rfl) (by simp (disch := omega) only [hu_same, hu_row, hu_at, hu_hu, apX_row, apM_row, apX_f, apM_f, apX_4, apM_8]) (by simp (disch := omega) only [hu_same, hu_row, hu_at, hu_hu, apX_row, apM_row, apX_f, apM_f, apX_4, apM_8]) rfl, ?_, Ms_cg hM (by simp (disch := omega) only [hu_same, hu_row, hu_at, hu_hu, apX_row, apM_row, apX_f, apM_f, apX_4, apM_8, hM.1]) hM.2.1 hM.2.2.1 (by simp (disch := omega) only [hu_same, hu_row, hu_at, hu_hu, apX_row, apM_row, apX_f, apM_f, apX_4, apM_8]) (by simp (disch := omega) only [hu_same, hu_row, hu_at, hu_hu, apX_row, apM_row, apX_f, apM_f, apX_4, apM_8]) (by simp (disch := omega) only [hu_same, hu_row, hu_at, hu_hu, apX_row, apM_row, apX_f, apM_f, apX_4, apM_8]) (by simp (disch := omega) only [hu_same, hu_row, hu_at, hu_hu, apX_row, apM_row, apX_f, apM_f, apX_4, apM_8]), Mk_cg hK (by simp (disch := omega) only [hu_same, hu_row, hu_at, hu_hu, apX_row, apM_row, apX_f, apM_f, apX_4, apM_8]) (by simp (disch := omega) only [hu_same, hu_row, hu_at, hu_hu, apX_row, apM_row, apX_f, apM_f, apX_4, apM_8]) (fun k h1 h2 => by simp (disch := omega) only [hu_same, hu_row, hu_at, hu_hu, apX_row, apM_row, apX_f, apM_f, apX_4, apM_8]) (fun k h1 h2 => rfl) (fun k h1 h2 => by simp (disch := omega) only [hu_same, hu_row, hu_at, hu_hu, apX_row, apM_row, apX_f, apM_f, apX_4, apM_8]) (fun k h1 h2 => rfl)⟩
      refine ⟨⟨ts + 20, h, by simp (disch := omega) only [hu_same, hu_row, hu_at, hu_hu, apX_row, apM_row, apX_f, apM_f, apX_4, apM_8, Nat.add_assoc, Nat.reduceAdd], by simp (disch := omega) only [hu_same, hu_row, hu_at, hu_hu, apX_row, apM_row, apX_f, apM_f, apX_4, apM_8, Nat.add_assoc, Nat.reduceAdd], fun i hi => ?_⟩, by simp (disch := omega) only [hu_same, hu_row, hu_at, hu_hu, apX_row, apM_row, apX_f, apM_f, apX_4, apM_8, hf1], by simp (disch := omega) only [hu_same, hu_row, hu_at, hu_hu, apX_row, apM_row, apX_f, apM_f, apX_4, apM_8, hf2], hw⟩
      rcases (show i < ts ∨ (ts ≤ i ∧ i < ts + 4) ∨ (ts + 4 ≤ i ∧ i < ts + 8) ∨ (ts + 8 ≤ i ∧ i < ts + 12) ∨ (ts + 12 ≤ i ∧ i < ts + 16) ∨ (ts + 16 ≤ i ∧ i < ts + 20) by omega) with q | q | q | q | q | q
      · simp (disch := omega) only [hu_same, hu_row, hu_at, hu_hu, apX_row, apM_row, apX_f, apM_f, apX_4, apM_8, apX_o, apM_o]; exact hb i q
      all_goals simp (disch := omega) only [hu_same, hu_row, hu_at, hu_hu, apX_row, apM_row, apX_f, apM_f, apX_4, apM_8, apX_o, apM_o, apX_i, apM_i, byt_r, and_self]
  · have e1 : (900 - 20 : Int32) < nI ts := by
      rw [show (900 - 20 : Int32) = nI 880 from rfl]; exact nI_lt (by omega) (by omega)
    have e2 : ¬ nI ts + 20 ≤ 900 := by
      rw [show (20 : Int32) = nI 20 from rfl, nI_add, show (900 : Int32) = nI 900 from rfl]; exact nI_ge (by omega) (by omega)
    refine ⟨-1, I, L, R, hs_u I 140 1 0, L, R, ?_, o11, ?_, ?_⟩
    · rw [e31, b31_0 o10, e32, b32_0 (t0 := 4) o8, hx]
      simp (disch := omega) only [Option.bind_some, Option.toList_some, Option.toList_none, List.append_nil, List.cons_append, List.nil_append, ↓reduceIte, true_or, or_true, Nat.reduceAdd, Nat.add_assoc, f_ge, t_le, t_lt, f_lt, f_l0, t_0l, t_pl, t_eq, f_eq, f_e0, i10, i01, ib_nI, nI_clamp, nI_add, ad10, ad18, ad26, ad34, ad42, ad47, ad52, ad59, ad107, ad117, ml8, mr8, ml5, ml10, hu_same, hu_row, hu_at, hu_hu, e1, b31_9 o10, b31_22 o10, b31_30 o10, b31_38 o10, b31_47 o10, b31_56 o10, b32_17]
    · simp (disch := omega) only [Option.bind_some, Option.toList_some, Option.toList_none, List.append_nil, List.cons_append, List.nil_append, ↓reduceIte, true_or, or_true, Nat.reduceAdd, Nat.add_assoc, f_ge, t_le, t_lt, f_lt, f_l0, t_0l, t_pl, t_eq, f_eq, f_e0, i10, i01, ib_nI, nI_clamp, nI_add, ad10, ad18, ad26, ad34, ad42, ad47, ad52, ad59, ad107, ad117, ml8, mr8, ml5, ml10, hu_same, hu_row, hu_at, hu_hu, e204, b204_0 o11, b204_25 o11, b204_30 o11, b204_35 o11, b204_41 o11, b204_47 o11, hm, e2]
    · exact Rel_st hA (fun k h1 h2 => by simp (disch := omega) only [hu_row]) (fun f hf => by simp (disch := omega) only [hu_at]) (fun f h1 h2 => by simp (disch := omega) only [hu_at]) (by simp (disch := omega) only [hu_at, hM.1])
end FE
