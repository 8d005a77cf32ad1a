/-! loops that only read -/
theorem fo_upJ {α β J : Type} {head : Nat → α → J → β} {g : Nat → α → α} {n : Nat} (hs : ∀ i s j, i < n → ∃ j', head i s j = head (i + 1) (g i s) j') (s : α) (j : J) : ∀ m, m ≤ n → ∃ j', head 0 s j = head m (fo g m s) j'
  | 0, _ => ⟨j, rfl⟩
  | m + 1, hm => by
    obtain ⟨j1, h1⟩ := fo_upJ hs s j m (by omega)
    obtain ⟨j2, h2⟩ := hs m (fo g m s) j1 (by omega)
    exact ⟨j2, h1.trans h2⟩
def fnd (q : Nat → Bool) : Nat → Nat → Option Nat
  | _, 0 => none
  | i, m + 1 => if q i = true then some i else fnd q (i + 1) m
theorem fo_ex {β J : Type} {head : Nat → J → β} {q : Nat → Bool} {res : Nat → β} {fin : β} {n : Nat} (hs : ∀ i j, i < n → (q i = true ∧ head i j = res i) ∨ (q i = false ∧ ∃ j', head i j = head (i + 1) j')) (hf : ∀ j, head n j = fin) : ∀ m i j, i + m = n → head i j = (match fnd q i m with | some a => res a | none => fin)
  | 0, i, j, h => by
    obtain rfl : i = n := by omega
    exact hf j
  | m + 1, i, j, h => by
    rcases hs i j (by omega) with ⟨h1, h2⟩ | ⟨h1, j', h2⟩
    · rw [h2, fnd, if_pos h1]
    · rw [h2, fnd, if_neg (by rw [h1]; decide)]
      exact fo_ex hs hf m (i + 1) j' (by omega)
theorem fo_cg {α : Type} {g g' : Nat → α → α} {s : α} : ∀ {n : Nat}, (∀ i s, i < n → g i s = g' i s) → fo g n s = fo g' n s
  | 0, _ => rfl
  | n + 1, h => by
    show g n (fo g n s) = g' n (fo g' n s)
    rw [fo_cg (fun i s hi => h i s (by omega)), h n _ (by omega)]
theorem fnd_cg {q q' : Nat → Bool} : ∀ {m i : Nat}, (∀ a, i ≤ a → a < i + m → q a = q' a) → fnd q i m = fnd q' i m
  | 0, _, _ => rfl
  | m + 1, i, h => by
    rw [fnd, fnd, h i (by omega) (by omega), fnd_cg (fun a h1 h2 => h a (by omega) (by omega))]
def gWax (c : Nat → Int32) (k : Nat) (s : Int32) : Int32 := s ||| (if c (34 + k) ≤ 0 then 0 else (1 : Int32) <<< (nI k &&& 31))
def gSt (c : Nat → Int32) (how : Int32) (k : Nat) (s : Int32) : Int32 := s ||| (if c (26 + k) = how then (1 : Int32) <<< (nI k &&& 31) else 0)
def gGr (n : Nat) (far : Int32) (k : Nat) (s : Int32) : Int32 := s ||| (if far ≤ (if nI n - 1 - nI k < nI k then nI n - 1 - nI k else nI k) then 0 else (1 : Int32) <<< (nI k &&& 31))
def gLen (c : Nat → Int32) (k : Nat) (s : Int32) : Int32 := s + c (10 + k)
def gSeat (c : Nat → Int32) (k : Nat) (s : Int32) : Int32 := s + c (42 + k)
def ab (x : Int32) : Int32 := if 0 ≤ x then x else 0 - x
theorem ab_if (x : Int32) : (if 0 ≤ x then x else 0 - x) = ab x := rfl
def gPoll (c : Nat → Int32) (len to : Int32) (k : Nat) (s : Int32) : Int32 := s + (if ab (c (47 + k) - len) ≤ ab (c (47 + k) - to) then (if ab (c (47 + k) - to) ≤ ab (c (47 + k) - len) then 0 else -c (42 + k)) else c (42 + k))
section LP
variable {scr : List Int32} {d t n np nr nl nb nq : Nat} {c : Nat → Int32} {I : Nat → Nat → Int32} {L : Nat → Nat → Int64} {R : Nat → Nat → Nat}
theorem x83 (o1 : ok1 hs_S0 R (t + 5)) (h : RH n c I t) : hs_C scr d 83 [.ref (t + 5)] (hs_S0, I, L, R) = some (some (.int (fo (gWax c) n 0)), (hs_S0, I, L, R)) := by
  obtain ⟨hn, -, hx0, hh⟩ := h
  have hl := fo_upT (n := n) (g := gWax c) (head := fun i s => hs_R scr d 83 4 [some (.ref (t + 5)), some (.int (s)), some (.int (nI i))] [] (hs_S0, I, L, R)) (fun i s hi => by
    show hs_R scr d 83 4 _ _ _ = hs_R scr d 83 4 _ _ _
    rw [b83_4 o1]
    simp (disch := omega) only [Option.bind_some, Option.toList_some, Option.toList_none, List.append_nil, List.cons_append, List.nil_append, ↓reduceIte, true_or, or_true, Nat.reduceAdd, Nat.add_assoc, f_ge, t_le, t_lt, f_lt, f_l0, t_0l, t_pl, t_eq, f_eq, f_e0, i10, i01, ib_nI, nI_clamp, nI_add, ad10, ad18, ad26, ad34, ad42, ad47, ad52, ad59, ad107, ad117, ml8, mr8, ml5, ml10, hu_same, hu_row, hu_at, hu_hu, hx0, nI_1, e83, b83_0, b83_27, (hh i hi).2.2.2.1, gWax]
    split
    · rw [Int32.or_zero]
    · rfl) 0
  rw [nI_0] at hl
  rw [e83, b83_0]
  refine hl.trans ?_
  show hs_R scr d 83 4 _ _ _ = _
  rw [b83_4 o1]
  simp (disch := omega) only [Option.bind_some, Option.toList_some, Option.toList_none, List.append_nil, List.cons_append, List.nil_append, ↓reduceIte, true_or, or_true, Nat.reduceAdd, Nat.add_assoc, f_ge, t_le, t_lt, f_lt, f_l0, t_0l, t_pl, t_eq, f_eq, f_e0, i10, i01, ib_nI, nI_clamp, nI_add, ad10, ad18, ad26, ad34, ad42, ad47, ad52, ad59, ad107, ad117, ml8, mr8, ml5, ml10, hu_same, hu_row, hu_at, hu_hu, hx0]
theorem m266 (o11 : ok11 hs_S0 R 140) (hc0 : I 145 0 = nI n) (hn : n ≤ 8) : hs_C scr d 266 [.ref 140] (hs_S0, I, L, R) = some (some (.int (fo (gWax (I 145)) n 0)), (hs_S0, I, L, R)) := by
  have hl := fo_upT (n := n) (g := gWax (I 145)) (head := fun i s => hs_R scr d 266 4 [some (.ref 140), some (.int (s)), some (.int (nI i))] [] (hs_S0, I, L, R)) (fun i s hi => by
    show hs_R scr d 266 4 _ _ _ = hs_R scr d 266 4 _ _ _
    rw [b266_4 o11]
    simp (disch := omega) only [Option.bind_some, Option.toList_some, Option.toList_none, List.append_nil, List.cons_append, List.nil_append, ↓reduceIte, true_or, or_true, Nat.reduceAdd, Nat.add_assoc, f_ge, t_le, t_lt, f_lt, f_l0, t_0l, t_pl, t_eq, f_eq, f_e0, i10, i01, ib_nI, nI_clamp, nI_add, ad10, ad18, ad26, ad34, ad42, ad47, ad52, ad59, ad107, ad117, ml8, mr8, ml5, ml10, hu_same, hu_row, hu_at, hu_hu, hc0, nI_1, e266, b266_0, b266_34, gWax]
    split <;> rfl) 0
  rw [nI_0] at hl
  rw [e266, b266_0]
  refine hl.trans ?_
  show hs_R scr d 266 4 _ _ _ = _
  rw [b266_4 o11]
  simp (disch := omega) only [Option.bind_some, Option.toList_some, Option.toList_none, List.append_nil, List.cons_append, List.nil_append, ↓reduceIte, true_or, or_true, Nat.reduceAdd, Nat.add_assoc, f_ge, t_le, t_lt, f_lt, f_l0, t_0l, t_pl, t_eq, f_eq, f_e0, i10, i01, ib_nI, nI_clamp, nI_add, ad10, ad18, ad26, ad34, ad42, ad47, ad52, ad59, ad107, ad117, ml8, mr8, ml5, ml10, hu_same, hu_row, hu_at, hu_hu, hc0]
theorem x85 {x : Int32} (o1 : ok1 hs_S0 R (t + 5)) (h : RH n c I t) : hs_C scr d 85 [.ref (t + 5), .int x] (hs_S0, I, L, R) = some (some (.int (fo (gSt c x) n 0)), (hs_S0, I, L, R)) := by
  obtain ⟨hn, -, hx0, hh⟩ := h
  have hl := fo_upT (n := n) (g := gSt c x) (head := fun i s => hs_R scr d 85 4 [some (.ref (t + 5)), some (.int x), some (.int (s)), some (.int (nI i))] [] (hs_S0, I, L, R)) (fun i s hi => by
    show hs_R scr d 85 4 _ _ _ = hs_R scr d 85 4 _ _ _
    rw [b85_4 o1]
    simp (disch := omega) only [Option.bind_some, Option.toList_some, Option.toList_none, List.append_nil, List.cons_append, List.nil_append, ↓reduceIte, true_or, or_true, Nat.reduceAdd, Nat.add_assoc, f_ge, t_le, t_lt, f_lt, f_l0, t_0l, t_pl, t_eq, f_eq, f_e0, i10, i01, ib_nI, nI_clamp, nI_add, ad10, ad18, ad26, ad34, ad42, ad47, ad52, ad59, ad107, ad117, ml8, mr8, ml5, ml10, hu_same, hu_row, hu_at, hu_hu, hx0, nI_1, e85, b85_0, b85_28, (hh i hi).2.2.1, gSt]
    split
    · rfl
    · rw [Int32.or_zero]) 0
  rw [nI_0] at hl
  rw [e85, b85_0]
  refine hl.trans ?_
  show hs_R scr d 85 4 _ _ _ = _
  rw [b85_4 o1]
  simp (disch := omega) only [Option.bind_some, Option.toList_some, Option.toList_none, List.append_nil, List.cons_append, List.nil_append, ↓reduceIte, true_or, or_true, Nat.reduceAdd, Nat.add_assoc, f_ge, t_le, t_lt, f_lt, f_l0, t_0l, t_pl, t_eq, f_eq, f_e0, i10, i01, ib_nI, nI_clamp, nI_add, ad10, ad18, ad26, ad34, ad42, ad47, ad52, ad59, ad107, ad117, ml8, mr8, ml5, ml10, hu_same, hu_row, hu_at, hu_hu, hx0]
theorem m268 {x : Int32} (o11 : ok11 hs_S0 R 140) (hc0 : I 145 0 = nI n) (hn : n ≤ 8) : hs_C scr d 268 [.ref 140, .int x] (hs_S0, I, L, R) = some (some (.int (fo (gSt (I 145) x) n 0)), (hs_S0, I, L, R)) := by
  have hl := fo_upT (n := n) (g := gSt (I 145) x) (head := fun i s => hs_R scr d 268 4 [some (.ref 140), some (.int x), some (.int (s)), some (.int (nI i))] [] (hs_S0, I, L, R)) (fun i s hi => by
    show hs_R scr d 268 4 _ _ _ = hs_R scr d 268 4 _ _ _
    rw [b268_4 o11]
    simp (disch := omega) only [Option.bind_some, Option.toList_some, Option.toList_none, List.append_nil, List.cons_append, List.nil_append, ↓reduceIte, true_or, or_true, Nat.reduceAdd, Nat.add_assoc, f_ge, t_le, t_lt, f_lt, f_l0, t_0l, t_pl, t_eq, f_eq, f_e0, i10, i01, ib_nI, nI_clamp, nI_add, ad10, ad18, ad26, ad34, ad42, ad47, ad52, ad59, ad107, ad117, ml8, mr8, ml5, ml10, hu_same, hu_row, hu_at, hu_hu, hc0, nI_1, e268, b268_0, b268_35, gSt]
    split <;> rfl) 0
  rw [nI_0] at hl
  rw [e268, b268_0]
  refine hl.trans ?_
  show hs_R scr d 268 4 _ _ _ = _
  rw [b268_4 o11]
  simp (disch := omega) only [Option.bind_some, Option.toList_some, Option.toList_none, List.append_nil, List.cons_append, List.nil_append, ↓reduceIte, true_or, or_true, Nat.reduceAdd, Nat.add_assoc, f_ge, t_le, t_lt, f_lt, f_l0, t_0l, t_pl, t_eq, f_eq, f_e0, i10, i01, ib_nI, nI_clamp, nI_add, ad10, ad18, ad26, ad34, ad42, ad47, ad52, ad59, ad107, ad117, ml8, mr8, ml5, ml10, hu_same, hu_row, hu_at, hu_hu, hc0]
theorem x86 (o1 : ok1 hs_S0 R (t + 5)) (h : RH n c I t) : hs_C scr d 86 [.ref (t + 5)] (hs_S0, I, L, R) = some (some (.int (fo (gLen c) n 0)), (hs_S0, I, L, R)) := by
  obtain ⟨hn, -, hx0, hh⟩ := h
  have hl := fo_upT (n := n) (g := gLen c) (head := fun i s => hs_R scr d 86 4 [some (.ref (t + 5)), some (.int (s)), some (.int (nI i))] [] (hs_S0, I, L, R)) (fun i s hi => by
    show hs_R scr d 86 4 _ _ _ = hs_R scr d 86 4 _ _ _
    rw [b86_4 o1]
    simp (disch := omega) only [Option.bind_some, Option.toList_some, Option.toList_none, List.append_nil, List.cons_append, List.nil_append, ↓reduceIte, true_or, or_true, Nat.reduceAdd, Nat.add_assoc, f_ge, t_le, t_lt, f_lt, f_l0, t_0l, t_pl, t_eq, f_eq, f_e0, i10, i01, ib_nI, nI_clamp, nI_add, ad10, ad18, ad26, ad34, ad42, ad47, ad52, ad59, ad107, ad117, ml8, mr8, ml5, ml10, hu_same, hu_row, hu_at, hu_hu, hx0, nI_1, e86, b86_0, (hh i hi).1, gLen]
    skip) 0
  rw [nI_0] at hl
  rw [e86, b86_0]
  refine hl.trans ?_
  show hs_R scr d 86 4 _ _ _ = _
  rw [b86_4 o1]
  simp (disch := omega) only [Option.bind_some, Option.toList_some, Option.toList_none, List.append_nil, List.cons_append, List.nil_append, ↓reduceIte, true_or, or_true, Nat.reduceAdd, Nat.add_assoc, f_ge, t_le, t_lt, f_lt, f_l0, t_0l, t_pl, t_eq, f_eq, f_e0, i10, i01, ib_nI, nI_clamp, nI_add, ad10, ad18, ad26, ad34, ad42, ad47, ad52, ad59, ad107, ad117, ml8, mr8, ml5, ml10, hu_same, hu_row, hu_at, hu_hu, hx0]
theorem m269 (o11 : ok11 hs_S0 R 140) (hc0 : I 145 0 = nI n) (hn : n ≤ 8) : hs_C scr d 269 [.ref 140, .int 0, .int (nI n)] (hs_S0, I, L, R) = some (some (.int (fo (gLen (I 145)) n 0)), (hs_S0, I, L, R)) := by
  have hl := fo_upT (n := n) (g := gLen (I 145)) (head := fun i s => hs_R scr d 269 5 [some (.ref 140), some (.int 0), some (.int (nI n)), some (.int (s)), some (.int (nI i))] [] (hs_S0, I, L, R)) (fun i s hi => by
    show hs_R scr d 269 5 _ _ _ = hs_R scr d 269 5 _ _ _
    rw [b269_5 o11]
    simp (disch := omega) only [Option.bind_some, Option.toList_some, Option.toList_none, List.append_nil, List.cons_append, List.nil_append, ↓reduceIte, true_or, or_true, Nat.reduceAdd, Nat.add_assoc, f_ge, t_le, t_lt, f_lt, f_l0, t_0l, t_pl, t_eq, f_eq, f_e0, i10, i01, ib_nI, nI_clamp, nI_add, ad10, ad18, ad26, ad34, ad42, ad47, ad52, ad59, ad107, ad117, ml8, mr8, ml5, ml10, hu_same, hu_row, hu_at, hu_hu, hc0, nI_1, e269, b269_0, gLen]
    skip) 0
  rw [nI_0] at hl
  rw [e269, b269_0]
  refine hl.trans ?_
  show hs_R scr d 269 5 _ _ _ = _
  rw [b269_5 o11]
  simp (disch := omega) only [Option.bind_some, Option.toList_some, Option.toList_none, List.append_nil, List.cons_append, List.nil_append, ↓reduceIte, true_or, or_true, Nat.reduceAdd, Nat.add_assoc, f_ge, t_le, t_lt, f_lt, f_l0, t_0l, t_pl, t_eq, f_eq, f_e0, i10, i01, ib_nI, nI_clamp, nI_add, ad10, ad18, ad26, ad34, ad42, ad47, ad52, ad59, ad107, ad117, ml8, mr8, ml5, ml10, hu_same, hu_row, hu_at, hu_hu, hc0]
theorem x87 (o4 : ok4 hs_S0 R t) (h : RP n c I t) : hs_C scr d 87 [.ref t] (hs_S0, I, L, R) = some (some (.int (fo (gSeat c) n 0)), (hs_S0, I, L, R)) := by
  obtain ⟨hn, -, hx0, hh⟩ := h
  have hl := fo_upT (n := n) (g := gSeat c) (head := fun i s => hs_R scr d 87 4 [some (.ref t), some (.int (s)), some (.int (nI i))] [] (hs_S0, I, L, R)) (fun i s hi => by
    show hs_R scr d 87 4 _ _ _ = hs_R scr d 87 4 _ _ _
    rw [b87_4 o4]
    simp (disch := omega) only [Option.bind_some, Option.toList_some, Option.toList_none, List.append_nil, List.cons_append, List.nil_append, ↓reduceIte, true_or, or_true, Nat.reduceAdd, Nat.add_assoc, f_ge, t_le, t_lt, f_lt, f_l0, t_0l, t_pl, t_eq, f_eq, f_e0, i10, i01, ib_nI, nI_clamp, nI_add, ad10, ad18, ad26, ad34, ad42, ad47, ad52, ad59, ad107, ad117, ml8, mr8, ml5, ml10, hu_same, hu_row, hu_at, hu_hu, hx0, nI_1, e87, b87_0, (hh i hi).1, gSeat]
    skip) 0
  rw [nI_0] at hl
  rw [e87, b87_0]
  refine hl.trans ?_
  show hs_R scr d 87 4 _ _ _ = _
  rw [b87_4 o4]
  simp (disch := omega) only [Option.bind_some, Option.toList_some, Option.toList_none, List.append_nil, List.cons_append, List.nil_append, ↓reduceIte, true_or, or_true, Nat.reduceAdd, Nat.add_assoc, f_ge, t_le, t_lt, f_lt, f_l0, t_0l, t_pl, t_eq, f_eq, f_e0, i10, i01, ib_nI, nI_clamp, nI_add, ad10, ad18, ad26, ad34, ad42, ad47, ad52, ad59, ad107, ad117, ml8, mr8, ml5, ml10, hu_same, hu_row, hu_at, hu_hu, hx0]
theorem m270 (o11 : ok11 hs_S0 R 140) (hc0 : I 145 1 = nI n) (hn : n ≤ 5) : hs_C scr d 270 [.ref 140] (hs_S0, I, L, R) = some (some (.int (fo (gSeat (I 145)) n 0)), (hs_S0, I, L, R)) := by
  have hl := fo_upT (n := n) (g := gSeat (I 145)) (head := fun i s => hs_R scr d 270 4 [some (.ref 140), some (.int (s)), some (.int (nI i))] [] (hs_S0, I, L, R)) (fun i s hi => by
    show hs_R scr d 270 4 _ _ _ = hs_R scr d 270 4 _ _ _
    rw [b270_4 o11]
    simp (disch := omega) only [Option.bind_some, Option.toList_some, Option.toList_none, List.append_nil, List.cons_append, List.nil_append, ↓reduceIte, true_or, or_true, Nat.reduceAdd, Nat.add_assoc, f_ge, t_le, t_lt, f_lt, f_l0, t_0l, t_pl, t_eq, f_eq, f_e0, i10, i01, ib_nI, nI_clamp, nI_add, ad10, ad18, ad26, ad34, ad42, ad47, ad52, ad59, ad107, ad117, ml8, mr8, ml5, ml10, hu_same, hu_row, hu_at, hu_hu, hc0, nI_1, e270, b270_0, gSeat]
    skip) 0
  rw [nI_0] at hl
  rw [e270, b270_0]
  refine hl.trans ?_
  show hs_R scr d 270 4 _ _ _ = _
  rw [b270_4 o11]
  simp (disch := omega) only [Option.bind_some, Option.toList_some, Option.toList_none, List.append_nil, List.cons_append, List.nil_append, ↓reduceIte, true_or, or_true, Nat.reduceAdd, Nat.add_assoc, f_ge, t_le, t_lt, f_lt, f_l0, t_0l, t_pl, t_eq, f_eq, f_e0, i10, i01, ib_nI, nI_clamp, nI_add, ad10, ad18, ad26, ad34, ad42, ad47, ad52, ad59, ad107, ad117, ml8, mr8, ml5, ml10, hu_same, hu_row, hu_at, hu_hu, hc0]
theorem m267a {x y : Int32} (o11 : ok11 hs_S0 R 140) (hc0 : I 145 0 = nI n) (hn : n ≤ 8) : hs_R scr d 267 15 [some (.ref 140), some (.int x), some (.int y), some (.int 0), some (.int 0)] [] (hs_S0, I, L, R) = some (some (.int (fo (gGr n y) n 0)), (hs_S0, I, L, R)) := by
  have hl := fo_upT (n := n) (g := gGr n y) (head := fun i s => hs_R scr d 267 15 [some (.ref 140), some (.int x), some (.int y), some (.int (s)), some (.int (nI i))] [] (hs_S0, I, L, R)) (fun i s hi => by
    show hs_R scr d 267 15 _ _ _ = hs_R scr d 267 15 _ _ _
    rw [b267_15 o11]
    simp (disch := omega) only [Option.bind_some, Option.toList_some, Option.toList_none, List.append_nil, List.cons_append, List.nil_append, ↓reduceIte, true_or, or_true, Nat.reduceAdd, Nat.add_assoc, f_ge, t_le, t_lt, f_lt, f_l0, t_0l, t_pl, t_eq, f_eq, f_e0, i10, i01, ib_nI, nI_clamp, nI_add, ad10, ad18, ad26, ad34, ad42, ad47, ad52, ad59, ad107, ad117, ml8, mr8, ml5, ml10, hu_same, hu_row, hu_at, hu_hu, hc0, nI_1, e267, b267_0 o11, b267_55, gGr]
    generalize (if nI n - 1 - nI i < nI i then nI n - 1 - nI i else nI i) = z
    split <;> rfl) 0
  rw [nI_0] at hl
  refine hl.trans ?_
  show hs_R scr d 267 15 _ _ _ = _
  rw [b267_15 o11]
  simp (disch := omega) only [Option.bind_some, Option.toList_some, Option.toList_none, List.append_nil, List.cons_append, List.nil_append, ↓reduceIte, true_or, or_true, Nat.reduceAdd, Nat.add_assoc, f_ge, t_le, t_lt, f_lt, f_l0, t_0l, t_pl, t_eq, f_eq, f_e0, i10, i01, ib_nI, nI_clamp, nI_add, ad10, ad18, ad26, ad34, ad42, ad47, ad52, ad59, ad107, ad117, ml8, mr8, ml5, ml10, hu_same, hu_row, hu_at, hu_hu, hc0]
theorem x84a {x y : Int32} (o4 : ok4 hs_S0 R t) (h : RH n c I t) : hs_R scr d 84 28 [some (.ref t), some (.int x), some (.int y), some (.int 0), some (.int 0)] [] (hs_S0, I, L, R) = some (some (.int (fo (gGr n y) n 0)), (hs_S0, I, L, R)) := by
  obtain ⟨hn, -, hx0, hh⟩ := h
  have hl := fo_upT (n := n) (g := gGr n y) (head := fun i s => hs_R scr d 84 28 [some (.ref t), some (.int x), some (.int y), some (.int (s)), some (.int (nI i))] [] (hs_S0, I, L, R)) (fun i s hi => by
    show hs_R scr d 84 28 _ _ _ = hs_R scr d 84 28 _ _ _
    rw [b84_28 o4]
    simp (disch := omega) only [Option.bind_some, Option.toList_some, Option.toList_none, List.append_nil, List.cons_append, List.nil_append, ↓reduceIte, true_or, or_true, Nat.reduceAdd, Nat.add_assoc, f_ge, t_le, t_lt, f_lt, f_l0, t_0l, t_pl, t_eq, f_eq, f_e0, i10, i01, ib_nI, nI_clamp, nI_add, ad10, ad18, ad26, ad34, ad42, ad47, ad52, ad59, ad107, ad117, ml8, mr8, ml5, ml10, hu_same, hu_row, hu_at, hu_hu, hx0, nI_1, e84, b84_0 o4, b84_22, b84_68, gGr]
    generalize (if nI n - 1 - nI i < nI i then nI n - 1 - nI i else nI i) = z
    split
    · rw [Int32.or_zero]
    · rfl) 0
  rw [nI_0] at hl
  refine hl.trans ?_
  show hs_R scr d 84 28 _ _ _ = _
  rw [b84_28 o4]
  simp (disch := omega) only [Option.bind_some, Option.toList_some, Option.toList_none, List.append_nil, List.cons_append, List.nil_append, ↓reduceIte, true_or, or_true, Nat.reduceAdd, Nat.add_assoc, f_ge, t_le, t_lt, f_lt, f_l0, t_0l, t_pl, t_eq, f_eq, f_e0, i10, i01, ib_nI, nI_clamp, nI_add, ad10, ad18, ad26, ad34, ad42, ad47, ad52, ad59, ad107, ad117, ml8, mr8, ml5, ml10, hu_same, hu_row, hu_at, hu_hu, hx0]
theorem x84 {x : Int32} (o4 : ok4 hs_S0 R t) (h : RH n c I t) (hD : RD c I t) : hs_C scr d 84 [.ref t, .int x] (hs_S0, I, L, R) = some (some (.int (fo (gGr n ((c 8 + x) / c 7)) n 0)), (hs_S0, I, L, R)) := by
  obtain ⟨-, ⟨h7, g, hg1, hg2, hg3⟩, ⟨h8, -⟩, -⟩ := hD
  rw [e84, b84_0 o4, h7, h8, hg3, if_neg (nI_nle (by omega) (by omega)), if_neg (nI_ne0 (by omega) (by omega)), b84_22, x84a o4 h]
theorem m267 {x : Int32} (o11 : ok11 hs_S0 R 140) (hc0 : I 145 0 = nI n) (hn : n ≤ 8) (hD : RD (I 145) I t) : hs_C scr d 267 [.ref 140, .int x] (hs_S0, I, L, R) = some (some (.int (fo (gGr n (x / I 145 7)) n 0)), (hs_S0, I, L, R)) := by
  obtain ⟨-, ⟨h7, g, hg1, hg2, hg3⟩, ⟨h8, -⟩, -⟩ := hD
  rw [e267, b267_0 o11, show (140 + 5 : Nat) = 145 from rfl, hg3, if_neg (nI_ne0 (by omega) (by omega)), m267a o11 hc0 hn]
theorem x112 {k : Nat} {y : Int32} (o4 : ok4 hs_S0 R t) (h : RH n c I t) (h2 : RP np c I t) (hk : k < n) : hs_C scr d 112 [.ref t, .int (nI k), .int y] (hs_S0, I, L, R) = some (some (.int (fo (gPoll c (c (10 + k)) y) np 0)), (hs_S0, I, L, R)) := by
  obtain ⟨hn, -, hx0, hh⟩ := h; obtain ⟨hp, -, hx1, hpp⟩ := h2; have hk6 := (hh k hk).1
  obtain ⟨q, hl⟩ := fo_upJ (n := np) (g := gPoll c (c (10 + k)) y) (head := fun i s (q : Option Value × Option Value) => hs_R scr d 112 5 [some (.ref t), some (.int (nI k)), some (.int y), some (.int (s)), some (.int (nI i)), q.1, q.2] [] (hs_S0, I, L, R)) (fun i s q hi => by
    show ∃ q' : Option Value × Option Value, hs_R scr d 112 5 _ _ _ = hs_R scr d 112 5 [some (.ref t), some (.int (nI k)), some (.int y), some (.int (_)), some (.int (nI (i + 1))), q'.1, q'.2] _ _
    rw [b112_5 o4]
    simp (disch := omega) only [Option.bind_some, Option.toList_some, Option.toList_none, List.append_nil, List.cons_append, List.nil_append, ↓reduceIte, true_or, or_true, Nat.reduceAdd, Nat.add_assoc, f_ge, t_le, t_lt, f_lt, f_l0, t_0l, t_pl, t_eq, f_eq, f_e0, i10, i01, ib_nI, nI_clamp, nI_add, ad10, ad18, ad26, ad34, ad42, ad47, ad52, ad59, ad107, ad117, ml8, mr8, ml5, ml10, hu_same, hu_row, hu_at, hu_hu, hx1, nI_1, e112, b112_0, b112_87, (hpp i hi).1, (hpp i hi).2.1, hk6]
    simp only [ab_if, gPoll]
    by_cases h1 : ab (c (47 + i) - c (10 + k)) ≤ ab (c (47 + i) - y)
    · by_cases h2 : ab (c (47 + i) - y) ≤ ab (c (47 + i) - c (10 + k))
      · simp only [h1, h2, ↓reduceIte]
        exact ⟨(_, _), by rw [Int32.add_zero]⟩
      · simp only [h1, h2, ↓reduceIte]
        exact ⟨(_, _), by rw [Int32.sub_eq_add_neg]⟩
    · simp only [h1, ↓reduceIte]
      exact ⟨(_, _), rfl⟩) 0 (none, none) np (Nat.le_refl _)
  rw [nI_0] at hl
  rw [e112, b112_0]
  refine hl.trans ?_
  show hs_R scr d 112 5 _ _ _ = _
  rw [b112_5 o4]
  simp (disch := omega) only [Option.bind_some, Option.toList_some, Option.toList_none, List.append_nil, List.cons_append, List.nil_append, ↓reduceIte, true_or, or_true, Nat.reduceAdd, Nat.add_assoc, f_ge, t_le, t_lt, f_lt, f_l0, t_0l, t_pl, t_eq, f_eq, f_e0, i10, i01, ib_nI, nI_clamp, nI_add, ad10, ad18, ad26, ad34, ad42, ad47, ad52, ad59, ad107, ad117, ml8, mr8, ml5, ml10, hu_same, hu_row, hu_at, hu_hu, hx1]
theorem m292 {k : Nat} {y : Int32} (o11 : ok11 hs_S0 R 140) (hc1 : I 145 1 = nI np) (hp : np ≤ 5) (hk : k < 8) : hs_C scr d 292 [.ref 140, .int (nI k), .int y] (hs_S0, I, L, R) = some (some (.int (fo (gPoll (I 145) (I 145 (10 + k)) y) np 0)), (hs_S0, I, L, R)) := by
  obtain ⟨q, hl⟩ := fo_upJ (n := np) (g := gPoll (I 145) (I 145 (10 + k)) y) (head := fun i s (q : Option Value × Option Value) => hs_R scr d 292 5 [some (.ref 140), some (.int (nI k)), some (.int y), some (.int (s)), some (.int (nI i)), q.1, q.2] [] (hs_S0, I, L, R)) (fun i s q hi => by
    show ∃ q' : Option Value × Option Value, hs_R scr d 292 5 _ _ _ = hs_R scr d 292 5 [some (.ref 140), some (.int (nI k)), some (.int y), some (.int (_)), some (.int (nI (i + 1))), q'.1, q'.2] _ _
    rw [b292_5 o11]
    simp (disch := omega) only [Option.bind_some, Option.toList_some, Option.toList_none, List.append_nil, List.cons_append, List.nil_append, ↓reduceIte, true_or, or_true, Nat.reduceAdd, Nat.add_assoc, f_ge, t_le, t_lt, f_lt, f_l0, t_0l, t_pl, t_eq, f_eq, f_e0, i10, i01, ib_nI, nI_clamp, nI_add, ad10, ad18, ad26, ad34, ad42, ad47, ad52, ad59, ad107, ad117, ml8, mr8, ml5, ml10, hu_same, hu_row, hu_at, hu_hu, hc1, nI_1, e292, b292_0, b292_101]
    simp only [ab_if, gPoll]
    by_cases h1 : ab (I 145 (47 + i) - I 145 (10 + k)) ≤ ab (I 145 (47 + i) - y)
    · by_cases h2 : ab (I 145 (47 + i) - y) ≤ ab (I 145 (47 + i) - I 145 (10 + k))
      · simp only [h1, h2, ↓reduceIte]
        exact ⟨(_, _), rfl⟩
      · simp only [h1, h2, ↓reduceIte]
        exact ⟨(_, _), rfl⟩
    · simp only [h1, ↓reduceIte]
      exact ⟨(_, _), rfl⟩) 0 (none, none) np (Nat.le_refl _)
  rw [nI_0] at hl
  rw [e292, b292_0]
  refine hl.trans ?_
  show hs_R scr d 292 5 _ _ _ = _
  rw [b292_5 o11]
  simp (disch := omega) only [Option.bind_some, Option.toList_some, Option.toList_none, List.append_nil, List.cons_append, List.nil_append, ↓reduceIte, true_or, or_true, Nat.reduceAdd, Nat.add_assoc, f_ge, t_le, t_lt, f_lt, f_l0, t_0l, t_pl, t_eq, f_eq, f_e0, i10, i01, ib_nI, nI_clamp, nI_add, ad10, ad18, ad26, ad34, ad42, ad47, ad52, ad59, ad107, ad117, ml8, mr8, ml5, ml10, hu_same, hu_row, hu_at, hu_hu, hc1]
end LP
