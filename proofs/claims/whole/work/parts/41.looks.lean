/-! polls, looks -/
theorem fnd_none {q : Nat → Bool} : ∀ {m i : Nat}, fnd q i m = none ↔ ∀ a, i ≤ a → a < i + m → q a = false
  | 0, i => ⟨fun _ a h1 h2 => by omega, fun _ => rfl⟩
  | m + 1, i => by
    rw [fnd]
    by_cases h : q i = true
    · rw [if_pos h]
      exact ⟨fun q => (by cases q), fun q => (by rw [q i (by omega) (by omega)] at h; cases h)⟩
    · rw [if_neg h, fnd_none]
      exact ⟨fun g a h1 h2 => by
        by_cases e : a = i
        · subst e; exact Bool.not_eq_true _ ▸ h
        · exact g a (by omega) (by omega), fun g a h1 h2 => g a (by omega) (by omega)⟩
theorem fnd_lt {q : Nat → Bool} {a : Nat} : ∀ {m i : Nat}, fnd q i m = some a → i ≤ a ∧ a < i + m
  | 0, i, h => by cases h
  | m + 1, i, h => by
    rw [fnd] at h
    split at h
    · cases h; omega
    · have := fnd_lt h; omega
/-- how many -/
def cn (q : Nat → Bool) : Nat → Nat
  | 0 => 0
  | n + 1 => cn q n + (if q n = true then 1 else 0)
theorem cn_le {q : Nat → Bool} : ∀ n, cn q n ≤ n
  | 0 => Nat.le_refl _
  | n + 1 => by have := cn_le (q := q) n; rw [cn]; split <;> omega
theorem cn_0 {q : Nat → Bool} : ∀ {n}, cn q n = 0 ↔ ∀ a, a < n → q a = false
  | 0 => ⟨fun _ a h => by omega, fun _ => rfl⟩
  | n + 1 => by
    rw [cn]
    by_cases h : q n = true
    · rw [if_pos h]; exact ⟨fun q => by omega, fun g => by rw [g n (by omega)] at h; cases h⟩
    · rw [if_neg h, Nat.add_zero, cn_0]
      exact ⟨fun g a ha => by
        by_cases e : a = n
        · subst e; exact Bool.not_eq_true _ ▸ h
        · exact g a (by omega), fun g a ha => g a (by omega)⟩
theorem fo_cn {q : Nat → Bool} : ∀ n, fo (fun k s => s + (if q k = true then (1 : Int32) else 0)) n 0 = nI (cn q n)
  | 0 => rfl
  | n + 1 => by
    show fo (fun k s => s + (if q k = true then (1 : Int32) else 0)) n 0 + _ = _
    rw [fo_cn n, cn]
    split
    · rw [nI_1]
    · rw [Int32.add_zero]; rfl
def mvA (c : Nat → Int32) (x : Int32) (k : Nat) : Int32 := if 0 < x - c (34 + k) then x - c (34 + k) else 0
def sA (c : Nat → Int32) (pe x : Int32) (k : Nat) : Int32 := if pe = 0 then (if 0 < c (26 + k) - mvA c x k then c (26 + k) - mvA c x k else 0) else (if c (26 + k) + mvA c x k < 2 then c (26 + k) + mvA c x k else 2)
def qW (c : Nat → Int32) (pe x : Int32) (l k : Nat) : Bool := decide (¬ c (59 + 8 * l + k) = 3 ∧ ¬ c (59 + 8 * l + k) = sA c pe x k)
def qV (c : Nat → Int32) (l k : Nat) : Bool := decide (¬ c (59 + 8 * l + k) = 3 ∧ ¬ c (59 + 8 * l + k) = c (26 + k))
theorem sA_0 {c : Nat → Int32} {pe : Int32} {k : Nat} (h1 : bd (c (26 + k)) 2) (h2 : bd (c (34 + k)) 99) : sA c pe 0 k = c (26 + k) := by
  obtain ⟨a, ha, e1⟩ := h1
  obtain ⟨b, hb, e2⟩ := h2
  have hm : mvA c 0 k = 0 := by
    unfold mvA
    rw [e2]
    apply if_neg
    rw [Int32.lt_iff_toInt_lt, show (0 : Int32) = nI 0 from rfl, pk_sub_toInt (by omega) (by omega), nI_toInt (by omega)]
    omega
  unfold sA
  rw [hm, e1, Int32.sub_zero, Int32.add_zero]
  have : a = 0 ∨ a = 1 ∨ a = 2 := by omega
  rcases this with rfl | rfl | rfl <;> (split <;> decide)
section LK
variable {scr : List Int32} {d t n np nr nl nb nq : Nat} {c : Nat → Int32} {I : Nat → Nat → Int32} {L : Nat → Nat → Int64} {R : Nat → Nat → Nat}
theorem x103 {x2 x3 : Int32} {k : Nat} (o1 : ok1 hs_S0 R (t + 5)) (h : RH n c I t) (hk : k < n) : hs_C scr d 103 [.ref (t + 5), .int (nI k), .int x2, .int x3] (hs_S0, I, L, R) = some (some (.int (sA c x3 x2 k)), (hs_S0, I, L, R)) := by
  obtain ⟨hn, -, hx0, hh⟩ := h
  have h1 := hh k hk
  simp (disch := omega) only [Option.bind_some, Option.toList_some, Option.toList_none, List.append_nil, List.cons_append, List.nil_append, ↓reduceIte, true_or, or_true, Nat.reduceAdd, Nat.add_assoc, f_ge, t_le, t_lt, f_lt, f_l0, t_0l, t_pl, t_eq, f_eq, f_e0, i10, i01, ib_nI, nI_clamp, nI_add, ad10, ad18, ad26, ad34, ad42, ad47, ad52, ad59, ad107, ad117, ml8, mr8, ml5, ml10, hu_same, hu_row, hu_at, hu_hu, e103, b103_0 o1, b103_47, h1.2.2.1, h1.2.2.2.1]
  unfold sA mvA
  by_cases h0 : x3 = 0
  · simp only [h0, ↓reduceIte]
  · simp only [h0, ↓reduceIte]
theorem x96 {l k : Nat} (o4 : ok4 hs_S0 R t) (h : RLk n nl c I t) (hl : l < 6) (hk : k < n) (hn : n ≤ 8) : hs_C scr d 96 [.ref t, .int (nI l), .int (nI k)] (hs_S0, I, L, R) = some (some (.int (c (59 + 8 * l + k))), (hs_S0, I, L, R)) := by
  have h1 := ((h.2.2.2 l k hl (by omega)).1 hk).1
  simp (disch := omega) only [Option.bind_some, Option.toList_some, Option.toList_none, List.append_nil, List.cons_append, List.nil_append, ↓reduceIte, true_or, or_true, Nat.reduceAdd, Nat.add_assoc, f_ge, t_le, t_lt, f_lt, f_l0, t_0l, t_pl, t_eq, f_eq, f_e0, i10, i01, ib_nI, nI_clamp, nI_add, ad10, ad18, ad26, ad34, ad42, ad47, ad52, ad59, ad107, ad117, ml8, mr8, ml5, ml10, hu_same, hu_row, hu_at, hu_hu, e96, b96_0 o4, h1]
theorem m279 {l k : Nat} (o11 : ok11 hs_S0 R 140) (hl : l < 6) (hk : k < 8) : hs_C scr d 279 [.ref 140, .int (nI l), .int (nI k)] (hs_S0, I, L, R) = some (some (.int (I 145 (59 + 8 * l + k))), (hs_S0, I, L, R)) := by
  simp (disch := omega) only [Option.bind_some, Option.toList_some, Option.toList_none, List.append_nil, List.cons_append, List.nil_append, ↓reduceIte, true_or, or_true, Nat.reduceAdd, Nat.add_assoc, f_ge, t_le, t_lt, f_lt, f_l0, t_0l, t_pl, t_eq, f_eq, f_e0, i10, i01, ib_nI, nI_clamp, nI_add, ad10, ad18, ad26, ad34, ad42, ad47, ad52, ad59, ad107, ad117, ml8, mr8, ml5, ml10, hu_same, hu_row, hu_at, hu_hu, e279, b279_0 o11]
theorem x121 {x : Int32} {l : Nat} (o4 : ok4 hs_S0 R t) (h : RH n c I t) (h2 : RLk n nl c I t) (h3 : RD c I t) (hl : l < 6) : hs_C scr (d + 1) 121 [.ref t, .int (nI l), .int x] (hs_S0, I, L, R) = some (some (.int (match fnd (qW c (c 9) x l) 0 n with | some _ => 0 | none => 1)), (hs_S0, I, L, R)) := by
  have o1 : ok1 hs_S0 R (t + 5) := o4.2.2.2.2.2.1
  have hn := h.1
  have hx0 := h.2.2.1
  have h9 := h3.2.2.2.1
  rw [e121, b121_0, ← nI_0]
  refine (fo_ex (n := n) (head := fun i (j : Option Value) => hs_R scr (d + 1) 121 2 [some (.ref t), some (.int (nI l)), some (.int x), some (.int (nI i)), j] [] (hs_S0, I, L, R)) (q := qW c (c 9) x l) (res := fun _ => some (some (.int 0), (hs_S0, I, L, R))) (fin := some (some (.int 1), (hs_S0, I, L, R))) ?_ ?_ n 0 none (by omega)).trans ?_
  · intro i j hi
    show (_ ∧ hs_R scr (d + 1) 121 2 _ _ _ = _) ∨ (_ ∧ ∃ j', hs_R scr (d + 1) 121 2 _ _ _ = _)
    rw [b121_2 o4]
    simp (disch := omega) only [Option.bind_some, Option.toList_some, Option.toList_none, List.append_nil, List.cons_append, List.nil_append, ↓reduceIte, true_or, or_true, Nat.reduceAdd, Nat.add_assoc, f_ge, t_le, t_lt, f_lt, f_l0, t_0l, t_pl, t_eq, f_eq, f_e0, i10, i01, ib_nI, nI_clamp, nI_add, ad10, ad18, ad26, ad34, ad42, ad47, ad52, ad59, ad107, ad117, ml8, mr8, ml5, ml10, hu_same, hu_row, hu_at, hu_hu, hx0, nI_1, e121, b121_19 o4, b121_42, b121_47, x96 o4 h2 hl hi hn, x103 o1 h hi, h9]
    by_cases g1 : c (59 + (8 * l + i)) = 3
    · right
      refine ⟨by simp [qW, Nat.add_assoc, g1], some (.int (c (59 + (8 * l + i)))), ?_⟩
      simp only [g1, ↓reduceIte]
    · by_cases g2 : c (59 + (8 * l + i)) = sA c (c 9) x i
      · right
        refine ⟨by simp [qW, Nat.add_assoc, g2], some (.int (c (59 + (8 * l + i)))), ?_⟩
        simp only [g1, ↓reduceIte]
        rw [if_pos g2]
      · left
        refine ⟨by simp [qW, Nat.add_assoc, g1, g2], ?_⟩
        simp only [g1, ↓reduceIte]
        rw [if_neg g2]
  · intro j
    show hs_R scr (d + 1) 121 2 _ _ _ = _
    rw [b121_2 o4]
    simp (disch := omega) only [Option.bind_some, Option.toList_some, Option.toList_none, List.append_nil, List.cons_append, List.nil_append, ↓reduceIte, true_or, or_true, Nat.reduceAdd, Nat.add_assoc, f_ge, t_le, t_lt, f_lt, f_l0, t_0l, t_pl, t_eq, f_eq, f_e0, i10, i01, ib_nI, nI_clamp, nI_add, ad10, ad18, ad26, ad34, ad42, ad47, ad52, ad59, ad107, ad117, ml8, mr8, ml5, ml10, hu_same, hu_row, hu_at, hu_hu, hx0]
  · cases fnd (qW c (c 9) x l) 0 n <;> rfl
theorem m302 {l k : Nat} (o11 : ok11 hs_S0 R 140) (hl : l < 6) (hk : k < 8) : hs_C scr (d + 1) 302 [.ref 140, .int (nI l), .int (nI k)] (hs_S0, I, L, R) = some (some (.int (if qV (I 145) l k = true then 0 else 1)), (hs_S0, I, L, R)) := by
  simp (disch := omega) only [Option.bind_some, Option.toList_some, Option.toList_none, List.append_nil, List.cons_append, List.nil_append, ↓reduceIte, true_or, or_true, Nat.reduceAdd, Nat.add_assoc, f_ge, t_le, t_lt, f_lt, f_l0, t_0l, t_pl, t_eq, f_eq, f_e0, i10, i01, ib_nI, nI_clamp, nI_add, ad10, ad18, ad26, ad34, ad42, ad47, ad52, ad59, ad107, ad117, ml8, mr8, ml5, ml10, hu_same, hu_row, hu_at, hu_hu, e302, b302_0 o11, b302_6 o11, b302_16 o11, b302_28, b302_33, m279 o11 hl hk]
  by_cases g1 : I 145 (59 + (8 * l + k)) = 3
  · simp only [g1, ↓reduceIte]
    simp [qV, Nat.add_assoc, g1]
  · simp only [g1, ↓reduceIte]
    by_cases g2 : I 145 (59 + (8 * l + k)) = I 145 (26 + k)
    · rw [if_pos g2]; simp [qV, Nat.add_assoc, g2]
    · rw [if_neg g2]; simp [qV, Nat.add_assoc, g1, g2]
theorem m301 {l : Nat} (o11 : ok11 hs_S0 R 140) (hc0 : I 145 0 = nI n) (hn : n ≤ 8) (hl : l < 6) : hs_C scr (d + 2) 301 [.ref 140, .int (nI l)] (hs_S0, I, L, R) = some (some (.int (nI (cn (qV (I 145) l) n))), (hs_S0, I, L, R)) := by
  have hlp := fo_upT (n := n) (g := fun k s => s + (if qV (I 145) l k = true then (1 : Int32) else 0)) (head := fun i s => hs_R scr (d + 2) 301 4 [some (.ref 140), some (.int (nI l)), some (.int s), some (.int (nI i))] [] (hs_S0, I, L, R)) (fun i s hi => by
    show hs_R scr (d + 2) 301 4 _ _ _ = hs_R scr (d + 2) 301 4 _ _ _
    rw [b301_4 o11]
    simp (disch := omega) only [Option.bind_some, Option.toList_some, Option.toList_none, List.append_nil, List.cons_append, List.nil_append, ↓reduceIte, true_or, or_true, Nat.reduceAdd, Nat.add_assoc, f_ge, t_le, t_lt, f_lt, f_l0, t_0l, t_pl, t_eq, f_eq, f_e0, i10, i01, ib_nI, nI_clamp, nI_add, ad10, ad18, ad26, ad34, ad42, ad47, ad52, ad59, ad107, ad117, ml8, mr8, ml5, ml10, hu_same, hu_row, hu_at, hu_hu, hc0, nI_1, e301, b301_21, b301_29, m302 o11 hl (show i < 8 by omega)]
    by_cases g : qV (I 145) l i = true
    · simp only [g, ↓reduceIte]
    · simp only [g, ↓reduceIte, i10, Bool.false_eq_true]) 0
  rw [nI_0, fo_cn] at hlp
  rw [e301, b301_0]
  refine hlp.trans ?_
  show hs_R scr (d + 2) 301 4 _ _ _ = _
  rw [b301_4 o11]
  simp (disch := omega) only [Option.bind_some, Option.toList_some, Option.toList_none, List.append_nil, List.cons_append, List.nil_append, ↓reduceIte, true_or, or_true, Nat.reduceAdd, Nat.add_assoc, f_ge, t_le, t_lt, f_lt, f_l0, t_0l, t_pl, t_eq, f_eq, f_e0, i10, i01, ib_nI, nI_clamp, nI_add, ad10, ad18, ad26, ad34, ad42, ad47, ad52, ad59, ad107, ad117, ml8, mr8, ml5, ml10, hu_same, hu_row, hu_at, hu_hu, hc0]
theorem qW_0 {l : Nat} {pe : Int32} (h : RH n c I t) {k : Nat} (hk : k < n) : qW c pe 0 l k = qV c l k := by
  have h1 := (h.2.2.2 k hk).2.2.2.2
  unfold qW qV
  rw [sA_0 h1.2.2.1 h1.2.2.2]
theorem x121z {l : Nat} (o4 : ok4 hs_S0 R t) (h : RH n c I t) (h2 : RLk n nl c I t) (h3 : RD c I t) (hl : l < 6) : hs_C scr (d + 1) 121 [.ref t, .int (nI l), .int 0] (hs_S0, I, L, R) = some (some (.int (if cn (qV c l) n = 0 then 1 else 0)), (hs_S0, I, L, R)) := by
  rw [x121 o4 h h2 h3 hl, fnd_cg (q' := qV c l) (fun a h1 h2 => qW_0 h (by omega))]
  by_cases g : cn (qV c l) n = 0
  · rw [if_pos g, fnd_none.mpr (fun a _ h2 => cn_0.mp g a (by omega))]
  · rw [if_neg g]
    cases hf : fnd (qV c l) 0 n with
    | none => exact absurd (cn_0.mpr (fun a h => fnd_none.mp hf a (by omega) (by omega))) g
    | some a => rfl
theorem ca30 : CA30 scr hs_S0 Rel 99 := by
  intro x I L R hP
  obtain ⟨rt, st, pt, qt, n, np, nr, nl, nb, nq, hA⟩ := hP; obtain ⟨hE, ⟨⟨hn8, hc0, hx0, hh⟩, ⟨hp5, hc1, hx1, hpp⟩, ⟨hr6, hc2, hx2, hrr, hru⟩, ⟨hl6, hc3, hx3, hll⟩, ⟨hb6, hq10, hc4, hx4, hc5, hx5, hqq⟩, hD, hN, hG⟩, hT, hTx, hM, hK⟩ := id hA; have o10 := k10_2 hE.1; have o11 := k11_140 hE.1; have o4 := Env_4 hE; have o1 : ok1 hs_S0 R (rt + 5) := o4.2.2.2.2.2.1; have r10_8 := hE.2.1; have hrt := hE.2.2.2.2.2.1; have hpt := hE.2.2.2.2.2.2
  rcases ix x (n := nl) (by omega) with hx | ⟨l, hl, rfl⟩
  · refine CK_st hA (-1) 2 ?_ ?_
    · simp (disch := omega) only [Option.bind_some, Option.toList_some, Option.toList_none, List.append_nil, List.cons_append, List.nil_append, ↓reduceIte, true_or, or_true, Nat.reduceAdd, Nat.add_assoc, f_ge, t_le, t_lt, f_lt, f_l0, t_0l, t_pl, t_eq, f_eq, f_e0, i10, i01, ib_nI, nI_clamp, nI_add, ad10, ad18, ad26, ad34, ad42, ad47, ad52, ad59, ad107, ad117, ml8, mr8, ml5, ml10, hu_same, hu_row, hu_at, hu_hu, e120, b120_0 o10, b120_5 o10 r10_8 o4, b120_13, b120_24, b120_32 o10, b120_35, e28, b28_0 o10, s95n o10 r10_8 o4 hx3 hx]
    · simp (disch := first | omega | (simp (disch := omega) only [hu_same, hu_row, hu_at, hu_hu, hc0, hc1, hc2, hc3, hc4, hc5]; done)) only [Option.bind_some, Option.toList_some, Option.toList_none, List.append_nil, List.cons_append, List.nil_append, ↓reduceIte, true_or, or_true, Nat.reduceAdd, Nat.add_assoc, f_ge, t_le, t_lt, f_lt, f_l0, t_0l, t_pl, t_eq, f_eq, f_e0, i10, i01, ib_nI, nI_clamp, nI_add, ad10, ad18, ad26, ad34, ad42, ad47, ad52, ad59, ad107, ad117, ml8, mr8, ml5, ml10, hu_same, hu_row, hu_at, hu_hu, e300, b300_0 o11, b300_15 o11, b300_23, b300_29, b300_37, e265, b265_0 o11, s278n o11 (n := nl) (hx := hx) (hn := by omega)]
  · refine CK_st hA (if cn (qV (I 145) l) n = 0 then 1 else 0) 0 ?_ ?_
    · simp (disch := omega) only [Option.bind_some, Option.toList_some, Option.toList_none, List.append_nil, List.cons_append, List.nil_append, ↓reduceIte, true_or, or_true, Nat.reduceAdd, Nat.add_assoc, f_ge, t_le, t_lt, f_lt, f_l0, t_0l, t_pl, t_eq, f_eq, f_e0, i10, i01, ib_nI, nI_clamp, nI_add, ad10, ad18, ad26, ad34, ad42, ad47, ad52, ad59, ad107, ad117, ml8, mr8, ml5, ml10, hu_same, hu_row, hu_at, hu_hu, e120, b120_0 o10, b120_5 o10 r10_8 o4, b120_13, b120_24, b120_32 o10, b120_35, e68, b68_0 o10, s95y o10 r10_8 o4 hx3 hl (by omega), x121z o4 hA.2.1.1 hA.2.1.2.2.2.1 hD (show l < 6 by omega)]
      by_cases g : cn (qV (I 145) l) n = 0
      · simp only [g, ↓reduceIte, i10]
      · simp only [g, ↓reduceIte]
    · simp (disch := first | omega | (simp (disch := omega) only [hu_same, hu_row, hu_at, hu_hu, hc0, hc1, hc2, hc3, hc4, hc5]; done)) only [Option.bind_some, Option.toList_some, Option.toList_none, List.append_nil, List.cons_append, List.nil_append, ↓reduceIte, true_or, or_true, Nat.reduceAdd, Nat.add_assoc, f_ge, t_le, t_lt, f_lt, f_l0, t_0l, t_pl, t_eq, f_eq, f_e0, i10, i01, ib_nI, nI_clamp, nI_add, ad10, ad18, ad26, ad34, ad42, ad47, ad52, ad59, ad107, ad117, ml8, mr8, ml5, ml10, hu_same, hu_row, hu_at, hu_hu, e300, b300_0 o11, b300_15 o11, b300_23, b300_29, b300_37, e265, b265_0 o11, s278y o11 (n := nl) (hk := hl) (hn := by omega), m301 o11 (n := n) (hn := hn8) (hl := (show l < 6 by omega))]
      by_cases g : cn (qV (I 145) l) n = 0
      · simp only [g, ↓reduceIte, nI_0]
      · have := cn_le (q := qV (I 145) l) n
        simp (disch := omega) only [g, ↓reduceIte, f_e0]
theorem ca31 : CA31 scr hs_S0 Rel 99 := by
  intro I L R hP
  obtain ⟨rt, st, pt, qt, n, np, nr, nl, nb, nq, hA⟩ := hP; obtain ⟨hE, ⟨⟨hn8, hc0, hx0, hh⟩, ⟨hp5, hc1, hx1, hpp⟩, ⟨hr6, hc2, hx2, hrr, hru⟩, ⟨hl6, hc3, hx3, hll⟩, ⟨hb6, hq10, hc4, hx4, hc5, hx5, hqq⟩, hD, hN, hG⟩, hT, hTx, hM, hK⟩ := id hA; have o10 := k10_2 hE.1; have o11 := k11_140 hE.1; have o4 := Env_4 hE; have o1 : ok1 hs_S0 R (rt + 5) := o4.2.2.2.2.2.1; have r10_8 := hE.2.1; have hrt := hE.2.2.2.2.2.1; have hpt := hE.2.2.2.2.2.2
  have hX := fo_ex (n := nl) (head := fun i (j : Unit) => hs_R scr 99 122 2 [some (.ref 2), some (.int (nI i))] [] (hs_S0, I, L, R)) (q := fun l => decide (cn (qV (I 145) l) n = 0)) (res := fun i => some (some (.int (nI i)), (hs_S0, hs_u I 2 16 0, L, R))) (fin := some (some (.int (-1)), (hs_S0, hs_u I 2 16 8, L, R))) (fun i j hi => by
      show (_ ∧ hs_R scr 99 122 2 _ _ _ = _) ∨ (_ ∧ ∃ j', hs_R scr 99 122 2 _ _ _ = _)
      rw [b122_2 o10 r10_8 o4]
      simp (disch := omega) only [Option.bind_some, Option.toList_some, Option.toList_none, List.append_nil, List.cons_append, List.nil_append, ↓reduceIte, true_or, or_true, Nat.reduceAdd, Nat.add_assoc, f_ge, t_le, t_lt, f_lt, f_l0, t_0l, t_pl, t_eq, f_eq, f_e0, i10, i01, ib_nI, nI_clamp, nI_add, ad10, ad18, ad26, ad34, ad42, ad47, ad52, ad59, ad107, ad117, ml8, mr8, ml5, ml10, hu_same, hu_row, hu_at, hu_hu, hx3, nI_1, e122, b122_22 o10, b122_30, b122_43, e68, b68_0 o10, x121z o4 hA.2.1.1 hA.2.1.2.2.2.1 hD (show i < 6 by omega)]
      by_cases g : cn (qV (I 145) i) n = 0
      · left; exact ⟨by simp [g], by simp only [g, ↓reduceIte, i10]⟩
      · right; exact ⟨by simp [g], (), by simp only [g, ↓reduceIte]⟩) (fun j => by
      show hs_R scr 99 122 2 _ _ _ = _
      rw [b122_2 o10 r10_8 o4]
      simp (disch := omega) only [Option.bind_some, Option.toList_some, Option.toList_none, List.append_nil, List.cons_append, List.nil_append, ↓reduceIte, true_or, or_true, Nat.reduceAdd, Nat.add_assoc, f_ge, t_le, t_lt, f_lt, f_l0, t_0l, t_pl, t_eq, f_eq, f_e0, i10, i01, ib_nI, nI_clamp, nI_add, ad10, ad18, ad26, ad34, ad42, ad47, ad52, ad59, ad107, ad117, ml8, mr8, ml5, ml10, hu_same, hu_row, hu_at, hu_hu, hx3, e122, b122_22 o10, b122_30, b122_43, e28, b28_0 o10]) nl 0 () (by omega)
  have hM := fun (J : Nat → Nat → Int32) (hJ : J 145 = I 145) => fo_ex (n := nl) (head := fun i (j : Unit) => hs_R scr 99 303 12 [some (.ref 140), some (.int (nI i))] [] (hs_S0, J, L, R)) (q := fun l => decide (cn (qV (I 145) l) n = 0)) (res := fun i => some (some (.int (nI i)), (hs_S0, J, L, R))) (fin := some (some (.int (-1)), (hs_S0, hs_u J 140 0 8, L, R))) (fun i j hi => by
      show (_ ∧ hs_R scr 99 303 12 _ _ _ = _) ∨ (_ ∧ ∃ j', hs_R scr 99 303 12 _ _ _ = _)
      have hJ0 : J 145 0 = nI n := by rw [hJ]; exact hc0
      have hJ3 : J 145 3 = nI nl := by rw [hJ]; exact hc3
      rw [b303_12 o11]
      simp (disch := omega) only [Option.bind_some, Option.toList_some, Option.toList_none, List.append_nil, List.cons_append, List.nil_append, ↓reduceIte, true_or, or_true, Nat.reduceAdd, Nat.add_assoc, f_ge, t_le, t_lt, f_lt, f_l0, t_0l, t_pl, t_eq, f_eq, f_e0, i10, i01, ib_nI, nI_clamp, nI_add, ad10, ad18, ad26, ad34, ad42, ad47, ad52, ad59, ad107, ad117, ml8, mr8, ml5, ml10, hu_same, hu_row, hu_at, hu_hu, hJ3, nI_1, e303, b303_27, b303_44, m301 o11 (n := n) hJ0 hn8 (show i < 6 by omega), hJ]
      by_cases g : cn (qV (I 145) i) n = 0
      · left; exact ⟨by simp [g], by simp only [g, ↓reduceIte, nI_0]⟩
      · have := cn_le (q := qV (I 145) i) n
        right; exact ⟨by simp [g], (), by simp (disch := omega) only [g, ↓reduceIte, f_e0]⟩) (fun j => by
      show hs_R scr 99 303 12 _ _ _ = _
      have hJ3 : J 145 3 = nI nl := by rw [hJ]; exact hc3
      rw [b303_12 o11]
      simp (disch := omega) only [Option.bind_some, Option.toList_some, Option.toList_none, List.append_nil, List.cons_append, List.nil_append, ↓reduceIte, true_or, or_true, Nat.reduceAdd, Nat.add_assoc, f_ge, t_le, t_lt, f_lt, f_l0, t_0l, t_pl, t_eq, f_eq, f_e0, i10, i01, ib_nI, nI_clamp, nI_add, ad10, ad18, ad26, ad34, ad42, ad47, ad52, ad59, ad107, ad117, ml8, mr8, ml5, ml10, hu_same, hu_row, hu_at, hu_hu, hJ3, e303, b303_27, b303_44, e265, b265_0 o11]) nl 0 () (by omega)
  simp only [nI_0] at hX hM
  cases hf : fnd (fun l => decide (cn (qV (I 145) l) n = 0)) 0 nl with
  | none =>
    rw [hf] at hX hM
    refine CK_st hA (-1) 8 ?_ ?_
    · rw [e122, b122_0]; exact hX
    · rw [e303, b303_0 o11, hM _ (by simp (disch := omega) only [hu_same, hu_row, hu_at, hu_hu]), hu_hu]
  | some a =>
    rw [hf] at hX hM
    refine CK_st hA (nI a) 0 ?_ ?_
    · rw [e122, b122_0]; exact hX
    · rw [e303, b303_0 o11, hM _ (by simp (disch := omega) only [hu_same, hu_row, hu_at, hu_hu])]
theorem ca32 : CA32 scr hs_S0 Rel 99 := by
  intro x I L R hP
  obtain ⟨rt, st, pt, qt, n, np, nr, nl, nb, nq, hA⟩ := hP; obtain ⟨hE, ⟨⟨hn8, hc0, hx0, hh⟩, ⟨hp5, hc1, hx1, hpp⟩, ⟨hr6, hc2, hx2, hrr, hru⟩, ⟨hl6, hc3, hx3, hll⟩, ⟨hb6, hq10, hc4, hx4, hc5, hx5, hqq⟩, hD, hN, hG⟩, hT, hTx, hM, hK⟩ := id hA; have o10 := k10_2 hE.1; have o11 := k11_140 hE.1; have o4 := Env_4 hE; have o1 : ok1 hs_S0 R (rt + 5) := o4.2.2.2.2.2.1; have r10_8 := hE.2.1; have hrt := hE.2.2.2.2.2.1; have hpt := hE.2.2.2.2.2.2
  rcases ix x (n := nl) (by omega) with hx | ⟨l, hl, rfl⟩
  · refine CK_st hA (-1) 2 ?_ ?_
    · simp (disch := omega) only [Option.bind_some, Option.toList_some, Option.toList_none, List.append_nil, List.cons_append, List.nil_append, ↓reduceIte, true_or, or_true, Nat.reduceAdd, Nat.add_assoc, f_ge, t_le, t_lt, f_lt, f_l0, t_0l, t_pl, t_eq, f_eq, f_e0, i10, i01, ib_nI, nI_clamp, nI_add, ad10, ad18, ad26, ad34, ad42, ad47, ad52, ad59, ad107, ad117, ml8, mr8, ml5, ml10, hu_same, hu_row, hu_at, hu_hu, e123, b123_0 o10, b123_5 o10, b123_13, b123_41 o10 r10_8 o4, b123_69, b123_80, e28, b28_0 o10, s95n o10 r10_8 o4 hx3 hx]
    · simp (disch := first | omega | (simp (disch := omega) only [hu_same, hu_row, hu_at, hu_hu, hc0, hc1, hc2, hc3, hc4, hc5]; done)) only [Option.bind_some, Option.toList_some, Option.toList_none, List.append_nil, List.cons_append, List.nil_append, ↓reduceIte, true_or, or_true, Nat.reduceAdd, Nat.add_assoc, f_ge, t_le, t_lt, f_lt, f_l0, t_0l, t_pl, t_eq, f_eq, f_e0, i10, i01, ib_nI, nI_clamp, nI_add, ad10, ad18, ad26, ad34, ad42, ad47, ad52, ad59, ad107, ad117, ml8, mr8, ml5, ml10, hu_same, hu_row, hu_at, hu_hu, e304, b304_0 o11, b304_15 o11, b304_23, b304_31, e265, b265_0 o11, s278n o11 (n := nl) (hx := hx) (hn := by omega)]
  · obtain ⟨q, hl0⟩ := fo_upJ (n := n) (g := fun k s => s + (if qV (I 145) l k = true then (1 : Int32) else 0)) (head := fun i s (q : Option Value) => hs_R scr 99 123 18 [some (.ref 2), some (.int (nI l)), some (.int s), some (.int (nI i)), q] [] (hs_S0, I, L, R)) (fun i s q hi => by
      show ∃ q' : Option Value, hs_R scr 99 123 18 _ _ _ = hs_R scr 99 123 18 [some (.ref 2), some (.int (nI l)), some (.int _), some (.int (nI (i + 1))), q'] _ _
      rw [b123_18 o10 r10_8 o4]
      have h1 := hh i hi
      simp (disch := omega) only [Option.bind_some, Option.toList_some, Option.toList_none, List.append_nil, List.cons_append, List.nil_append, ↓reduceIte, true_or, or_true, Nat.reduceAdd, Nat.add_assoc, f_ge, t_le, t_lt, f_lt, f_l0, t_0l, t_pl, t_eq, f_eq, f_e0, i10, i01, ib_nI, nI_clamp, nI_add, ad10, ad18, ad26, ad34, ad42, ad47, ad52, ad59, ad107, ad117, ml8, mr8, ml5, ml10, hu_same, hu_row, hu_at, hu_hu, hx0, nI_1, e123, b123_0 o10, b123_5 o10, b123_13, b123_41 o10 r10_8 o4, b123_69, b123_80, x96 o4 hA.2.1.2.2.2.1 (show l < 6 by omega) hi hn8, h1.2.2.1]
      by_cases g1 : I 145 (59 + (8 * l + i)) = 3
      · simp only [g1, ↓reduceIte]
        refine ⟨some (.int 3), ?_⟩
        rw [if_neg (by simp [qV, Nat.add_assoc, g1]), Int32.add_zero]
      · simp only [g1, ↓reduceIte]
        by_cases g2 : I 145 (59 + (8 * l + i)) = I 145 (26 + i)
        · refine ⟨some (.int (I 145 (59 + (8 * l + i)))), ?_⟩
          rw [if_pos g2, if_neg (by simp [qV, Nat.add_assoc, g2]), Int32.add_zero]
        · refine ⟨some (.int (I 145 (59 + (8 * l + i)))), ?_⟩
          rw [if_neg g2, if_pos (by simp [qV, Nat.add_assoc, g1, g2])]) 0 none n (Nat.le_refl _)
    rw [nI_0, fo_cn] at hl0
    have hl1 : hs_R scr 99 123 18 [some (.ref 2), some (.int (nI l)), some (.int (nI (cn (qV (I 145) l) n))), some (.int (nI n)), q] [] (hs_S0, I, L, R) = some (some (.int (nI (cn (qV (I 145) l) n))), (hs_S0, hs_u I 2 16 0, L, R)) := by
      rw [b123_18 o10 r10_8 o4]
      simp (disch := omega) only [Option.bind_some, Option.toList_some, Option.toList_none, List.append_nil, List.cons_append, List.nil_append, ↓reduceIte, true_or, or_true, Nat.reduceAdd, Nat.add_assoc, f_ge, t_le, t_lt, f_lt, f_l0, t_0l, t_pl, t_eq, f_eq, f_e0, i10, i01, ib_nI, nI_clamp, nI_add, ad10, ad18, ad26, ad34, ad42, ad47, ad52, ad59, ad107, ad117, ml8, mr8, ml5, ml10, hu_same, hu_row, hu_at, hu_hu, hx0, e123, b123_0 o10, b123_5 o10, b123_13, b123_41 o10 r10_8 o4, b123_69, b123_80, e68, b68_0 o10]
    refine CK_st hA (nI (cn (qV (I 145) l) n)) 0 ?_ ?_
    · simp (disch := omega) only [Option.bind_some, Option.toList_some, Option.toList_none, List.append_nil, List.cons_append, List.nil_append, ↓reduceIte, true_or, or_true, Nat.reduceAdd, Nat.add_assoc, f_ge, t_le, t_lt, f_lt, f_l0, t_0l, t_pl, t_eq, f_eq, f_e0, i10, i01, ib_nI, nI_clamp, nI_add, ad10, ad18, ad26, ad34, ad42, ad47, ad52, ad59, ad107, ad117, ml8, mr8, ml5, ml10, hu_same, hu_row, hu_at, hu_hu, e123, b123_0 o10, b123_5 o10, b123_13, b123_41 o10 r10_8 o4, b123_69, b123_80, s95y o10 r10_8 o4 hx3 hl (by omega)]
      exact hl0.trans hl1
    · simp (disch := first | omega | (simp (disch := omega) only [hu_same, hu_row, hu_at, hu_hu, hc0, hc1, hc2, hc3, hc4, hc5]; done)) only [Option.bind_some, Option.toList_some, Option.toList_none, List.append_nil, List.cons_append, List.nil_append, ↓reduceIte, true_or, or_true, Nat.reduceAdd, Nat.add_assoc, f_ge, t_le, t_lt, f_lt, f_l0, t_0l, t_pl, t_eq, f_eq, f_e0, i10, i01, ib_nI, nI_clamp, nI_add, ad10, ad18, ad26, ad34, ad42, ad47, ad52, ad59, ad107, ad117, ml8, mr8, ml5, ml10, hu_same, hu_row, hu_at, hu_hu, e304, b304_0 o11, b304_15 o11, b304_23, b304_31, e265, b265_0 o11, s278y o11 (n := nl) (hk := hl) (hn := by omega), m301 o11 (n := n) (hn := hn8) (hl := (show l < 6 by omega))]
end LK
