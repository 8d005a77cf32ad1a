/-! seen, second half -/
section S2
variable {scr : List Int32} {d t rt st pt qt n np nr nl nb nq lp k m N a : Nat} {c : Nat → Int32} {v : Nat → Int64} {D E : Nat → Nat} {I I' J : Nat → Nat → Int32} {L L' : Nat → Nat → Int64} {R : Nat → Nat → Nat}
def qS (c : Nat → Int32) (lp : Nat) (D E : Nat → Nat) (h i : Nat) : Bool := decide (¬ lenA c lp (D i) h = nI (E i))
theorem lenA_n {e h : Nat} : ∃ z, z ≤ 99 ∧ lenA c lp e h = nI z := ⟨_, by omega, rfl⟩
theorem x151 {h : Nat} (o10 : ok10 hs_S0 R 2) (r10_8 : R 2 8 = rt) (o4 : ok4 hs_S0 R rt) (o9 : ok9 hs_S0 R t) (hH : RH n c I rt) (hU : RU nr c I rt) (hl : lpc nr lp c) (hh : h < n) (hN : N ≤ 20) (hv : ∀ i, i < N → L (t + 1) (2 * i) = lN (D i) ∧ L (t + 1) (2 * i + 1) = lN (E i) ∧ D i ≤ 200 ∧ E i ≤ 99) : hs_C scr (d + 3) 151 [.ref 2, .int (nI h), .ref t, .int (nI N)] (hs_S0, I, L, R) = some (some (.int (match fnd (qS c lp D E h) 0 N with | some _ => 0 | none => 1)), (hs_S0, I, L, R)) := by
  rw [e151, b151_0]
  refine (fo_ex (n := N) (head := fun i (q : Option Value) => hs_R scr (d + 3) 151 3 [some (.ref 2), some (.int (nI h)), some (.ref t), some (.int (nI N)), some (.int (nI i)), q] [] (hs_S0, I, L, R)) (q := qS c lp D E h) (res := fun _ => some (some (.int 0), (hs_S0, I, L, R))) (fin := some (some (.int 1), (hs_S0, I, L, R))) ?_ ?_ N 0 none (by omega)).trans ?_
  · intro i q hi
    show (_ ∧ hs_R scr (d + 3) 151 3 _ _ _ = _) ∨ (_ ∧ ∃ q' : Option Value, hs_R scr (d + 3) 151 3 _ _ _ = _)
    obtain ⟨v1, v2, v3, v4⟩ := hv i hi
    obtain ⟨z, hz, ez⟩ := lenA_n (c := c) (lp := lp) (e := D i) (h := h)
    rw [b151_3 (o_t0 := o10) (e_t0_8 := r10_8) (o_t0_8 := o4) (o_t2 := o9)]
    simp (disch := omega) only [Option.bind_some, Option.toList_some, Option.toList_none, List.append_nil, List.cons_append, List.nil_append, ↓reduceIte, true_or, or_true, Nat.reduceAdd, Nat.add_assoc, f_ge, t_le, t_lt, f_lt, f_l0, t_0l, t_pl, t_eq, f_eq, f_e0, i10, i01, ib_nI, nI_clamp, nI_add, ad10, ad18, ad26, ad34, ad42, ad47, ad52, ad59, ad107, ad117, ml8, mr8, ml5, ml10, hu_same, hu_row, hu_at, hu_hu, ml2, nI_1, v1, lN_i, x132 o4 hH hU hl hh (show D i ≤ 9999 by omega), b151_31 (o_t2 := o9), v2, ez, nI_l, lgc_e]
    by_cases g : z = E i
    · right
      refine ⟨by simp [qS, ez, g], some (.int (nI (D i))), ?_⟩
      rw [if_pos (by rw [g])]
    · left
      refine ⟨?_, if_neg (fun q => g ((pk_lEQ (by omega) (by omega)).mp q))⟩
      simp only [qS, ez, decide_eq_true_eq]
      exact fun q => g ((nI_eq (by omega) (by omega)).mp q)
  · intro q
    show hs_R scr (d + 3) 151 3 _ _ _ = _
    rw [b151_3 (o_t0 := o10) (e_t0_8 := r10_8) (o_t0_8 := o4) (o_t2 := o9), if_pos (nI_le (Nat.le_refl _) (by omega))]
  · cases fnd (qS c lp D E h) 0 N <;> rfl
theorem x149 {x : Int32} (o10 : ok10 hs_S0 R 2) (r10_8 : R 2 8 = rt) (o4 : ok4 hs_S0 R rt) (o9 : ok9 hs_S0 R t) (hH : RH n c I rt) (hU : RU nr c I rt) (hl : lpc nr lp c) (hN : N ≤ 20) (hv : ∀ i, i < N → L (t + 1) (2 * i) = lN (D i) ∧ L (t + 1) (2 * i + 1) = lN (E i) ∧ D i ≤ 200 ∧ E i ≤ 99) : ∃ s, hs_R scr (d + 4) 149 79 [some (.ref 2), some (.int x), some (.int (nI N)), some (.ref t), some (.int 0), some (.int 0)] [] (hs_S0, I, L, R) = some (some (.int s), (hs_S0, hs_u I 2 16 0, L, R)) ∧ isS n (fun h => ∀ i, i < N → lenA c lp (D i) h = nI (E i)) s := by
  obtain ⟨hn, -, hx0, -⟩ := id hH
  have hlp := fo_upT (n := n) (g := fun h s => s ||| (match fnd (qS c lp D E h) 0 N with | some _ => 0 | none => (1 : Int32) <<< (nI h &&& 31))) (head := fun h s => hs_R scr (d + 4) 149 79 [some (.ref 2), some (.int x), some (.int (nI N)), some (.ref t), some (.int s), some (.int (nI h))] [] (hs_S0, I, L, R)) (fun h s hh => by
    show hs_R scr (d + 4) 149 79 _ _ _ = hs_R scr (d + 4) 149 79 _ _ _
    rw [b149_79 (o_t0 := o10) (e_t0_8 := r10_8) (o_t0_8 := o4)]
    simp (disch := omega) only [Option.bind_some, Option.toList_some, Option.toList_none, List.append_nil, List.cons_append, List.nil_append, ↓reduceIte, true_or, or_true, Nat.reduceAdd, Nat.add_assoc, f_ge, t_le, t_lt, f_lt, f_l0, t_0l, t_pl, t_eq, f_eq, f_e0, i10, i01, ib_nI, nI_clamp, nI_add, ad10, ad18, ad26, ad34, ad42, ad47, ad52, ad59, ad107, ad117, ml8, mr8, ml5, ml10, hu_same, hu_row, hu_at, hu_hu, hx0, nI_1, x151 o10 r10_8 o4 o9 hH hU hl hh hN hv, b149_102, b149_114]
    cases hf : fnd (qS c lp D E h) 0 N with
    | none => simp only [i10, ↓reduceIte]
    | some b => simp only [↓reduceIte, Int32.or_zero]) 0
  rw [nI_0] at hlp
  refine ⟨fo (fun h s => s ||| (match fnd (qS c lp D E h) 0 N with | some _ => 0 | none => (1 : Int32) <<< (nI h &&& 31))) n 0, hlp.trans ?_, ?_⟩
  · show hs_R scr (d + 4) 149 79 _ _ _ = _
    rw [b149_79 (o_t0 := o10) (e_t0_8 := r10_8) (o_t0_8 := o4)]
    simp (disch := omega) only [Option.bind_some, Option.toList_some, Option.toList_none, List.append_nil, List.cons_append, List.nil_append, ↓reduceIte, true_or, or_true, Nat.reduceAdd, Nat.add_assoc, f_ge, t_le, t_lt, f_lt, f_l0, t_0l, t_pl, t_eq, f_eq, f_e0, i10, i01, ib_nI, nI_clamp, nI_add, ad10, ad18, ad26, ad34, ad42, ad47, ad52, ad59, ad107, ad117, ml8, mr8, ml5, ml10, hu_same, hu_row, hu_at, hu_hu, hx0, e68, b68_0 o10, b149_126]
  · refine isS_or (g := fun h => match fnd (qS c lp D E h) 0 N with | some _ => 0 | none => (1 : Int32) <<< (nI h &&& 31)) (by omega) (fun k hk => ?_)
    cases hf : fnd (qS c lp D E k) 0 N with
    | none =>
      refine Or.inl ⟨fun i hi => ?_, rfl⟩
      have := fnd_none.mp hf i (by omega) (by omega)
      simp only [qS, decide_eq_false_iff_not, Classical.not_not] at this
      exact this
    | some b =>
      refine Or.inr ⟨fun q => ?_, rfl⟩
      have : fnd (qS c lp D E k) 0 N = none := fnd_none.mpr (fun i _ hi => by simp only [qS, decide_eq_false_iff_not, Classical.not_not]; exact q i (by omega))
      rw [hf] at this; cases this
theorem m334 {e f : Nat} (o11 : ok11 hs_S0 R 140) (h0 : c 0 = nI n) (hn : n ≤ 8) : ∃ s, hs_C scr d 334 [.ref 140, .int (nI e)] (hs_S0, hs_z J 145 (cd c n lp f), L, R) = some (some (.int s), (hs_S0, hs_z J 145 (cd c n lp f), L, R)) ∧ isS n (fun h => lenA c lp f h = nI e) s := by
  have h0' : cd c n lp f 0 = nI n := by rw [cd_o (by omega)]; exact h0
  have hlp := fo_upT (n := n) (g := fun h s => s ||| (if lenA c lp f h = nI e then (1 : Int32) <<< (nI h &&& 31) else 0)) (head := fun h s => hs_R scr d 334 4 [some (.ref 140), some (.int (nI e)), some (.int s), some (.int (nI h))] [] (hs_S0, hs_z J 145 (cd c n lp f), L, R)) (fun h s hh => by
    show hs_R scr d 334 4 _ _ _ = hs_R scr d 334 4 _ _ _
    rw [b334_4 o11]
    simp (disch := omega) only [Option.bind_some, Option.toList_some, Option.toList_none, List.append_nil, List.cons_append, List.nil_append, ↓reduceIte, true_or, or_true, Nat.reduceAdd, Nat.add_assoc, f_ge, t_le, t_lt, f_lt, f_l0, t_0l, t_pl, t_eq, f_eq, f_e0, i10, i01, ib_nI, nI_clamp, nI_add, ad10, ad18, ad26, ad34, ad42, ad47, ad52, ad59, ad107, ad117, ml8, mr8, ml5, ml10, hz_s, h0', nI_1, cd_10 hn hh, b334_35]
    by_cases g : lenA c lp f h = nI e
    · rw [if_pos g, if_pos g]
    · rw [if_neg g, if_neg g]) 0
  rw [nI_0] at hlp
  refine ⟨_, ?_, isS_or (g := fun h => if lenA c lp f h = nI e then (1 : Int32) <<< (nI h &&& 31) else 0) (by omega) (fun k hk => ?_)⟩
  · rw [e334, b334_0]
    refine hlp.trans ?_
    show hs_R scr d 334 4 _ _ _ = _
    rw [b334_4 o11]
    simp (disch := omega) only [Option.bind_some, Option.toList_some, Option.toList_none, List.append_nil, List.cons_append, List.nil_append, ↓reduceIte, true_or, or_true, Nat.reduceAdd, Nat.add_assoc, f_ge, t_le, t_lt, f_lt, f_l0, t_0l, t_pl, t_eq, f_eq, f_e0, i10, i01, ib_nI, nI_clamp, nI_add, ad10, ad18, ad26, ad34, ad42, ad47, ad52, ad59, ad107, ad117, ml8, mr8, ml5, ml10, hz_s, h0']
  · by_cases g : lenA c lp f k = nI e
    · exact Or.inl ⟨g, if_pos g⟩
    · exact Or.inr ⟨g, if_neg g⟩
/-- what the reference has held against its tray by day t, entry i -/
def pS (c : Nat → Int32) (lp N : Nat) (D E : Nat → Nat) (t i h : Nat) : Prop := ∀ j, j < N → (D j < t ∨ (D j = t ∧ j < i)) → lenA c lp (D j) h = nI (E j)
theorem m332_in {f : Nat} (o11 : ok11 hs_S0 R 140) (hHB : HB n lp c) (ha : a < 4) (hf : f ≤ 200) (hN : N ≤ 20) (hv : ∀ i, i < N → L 143 (60 * a + 2 * i) = lN (D i) ∧ L 143 (60 * a + (2 * i + 1)) = lN (E i) ∧ D i ≤ 200 ∧ E i ≤ 99) : ∀ p i s, i + p = N → isS n (pS c lp N D E f i) s → ∃ s', hs_R scr (d + 1) 332 162 [some (.ref 140), some (.int (nI a)), some (.int (nI N)), some (.int s), some (.int (nI f)), some (.int (nI i))] [] (hs_S0, hs_z J 145 (cd c n lp f), L, R) = hs_R scr (d + 1) 332 147 [some (.ref 140), some (.int (nI a)), some (.int (nI N)), some (.int s'), some (.int (nI (f + 1))), some (.int (nI N))] [] (hs_S0, hs_z J 145 (cd c n lp (f + 1)), L, R) ∧ isS n (pS c lp N D E (f + 1) 0) s'
  | 0, i, s, hi, hs => by
    obtain rfl : i = N := by omega
    refine ⟨s, ?_, isS_cg hs (fun k hk => ⟨fun q j h1 h2 => q j h1 (by omega), fun q j h1 h2 => q j h1 (by omega)⟩)⟩
    rw [b332_162 o11, if_pos (nI_le (Nat.le_refl _) (by omega)), m284d o11 hHB]
    simp only [Option.bind_some, Option.toList_some, Option.toList_none, List.append_nil, List.cons_append, List.nil_append, ↓reduceIte, true_or, or_true, Nat.reduceAdd, Nat.add_assoc, b332_213, nI_1]
  | p + 1, i, s, hi, hs => by
    obtain ⟨v1, v2, v3, v4⟩ := hv i (by omega)
    rw [b332_162 o11, if_neg (nI_ge (by omega) (by omega)), e333, b333_0 o11]
    simp (disch := omega) only [Option.bind_some, Option.toList_some, Option.toList_none, List.append_nil, List.cons_append, List.nil_append, ↓reduceIte, true_or, or_true, Nat.reduceAdd, Nat.add_assoc, f_ge, t_le, t_lt, f_lt, f_l0, t_0l, t_pl, t_eq, f_eq, f_e0, i10, i01, ib_nI, nI_clamp, nI_add, ad10, ad18, ad26, ad34, ad42, ad47, ad52, ad59, ad107, ad117, ml8, mr8, ml5, ml10, hu_same, hu_row, hu_at, hu_hu, t2le, f60l, f4l, t4l, ml60, i30, i40, i3l0, i4l0, i1l0, f0m1, tm10, and_true, true_and, ml2, v1, b332_177 o11, nI_l, lgc_e, b332_203, nI_1]
    by_cases g : D i = f
    · rw [if_pos (by rw [g]), e333, b333_0 o11]
      obtain ⟨s1, e1, h1⟩ := m334 (scr := scr) (d := d) (J := J) (L := L) (R := R) (lp := lp) (e := E i) (f := f) o11 hHB.2.1 hHB.1
      simp (disch := omega) only [Option.bind_some, Option.toList_some, Option.toList_none, List.append_nil, List.cons_append, List.nil_append, ↓reduceIte, true_or, or_true, Nat.reduceAdd, Nat.add_assoc, f_ge, t_le, t_lt, f_lt, f_l0, t_0l, t_pl, t_eq, f_eq, f_e0, i10, i01, ib_nI, nI_clamp, nI_add, ad10, ad18, ad26, ad34, ad42, ad47, ad52, ad59, ad107, ad117, ml8, mr8, ml5, ml10, hu_same, hu_row, hu_at, hu_hu, t2le, f60l, f4l, t4l, ml60, i30, i40, i3l0, i4l0, i1l0, f0m1, tm10, and_true, true_and, v2, b332_197 (o_u1 := o11), lN_i, e1, b332_201, b332_203, nI_1]
      refine m332_in o11 hHB ha hf hN hv p (i + 1) (s &&& s1) (by omega) (isS_cg (isS_and hs h1) (fun k hk => ⟨fun q j h1 h2 => ?_, fun q => ⟨fun j h1 h2 => q j h1 (by omega), by have := q i (by omega) (by omega); rwa [g] at this⟩⟩))
      by_cases e : j = i
      · subst e; rw [g]; exact q.2
      · exact q.1 j h1 (by omega)
    · rw [if_neg (fun q => g ((pk_lEQ (by omega) (by omega)).mp q))]
      refine m332_in o11 hHB ha hf hN hv p (i + 1) s (by omega) (isS_cg hs (fun k hk => ⟨fun q j h1 h2 => q j h1 (by
        by_cases e : j = i
        · subst e; omega
        · omega), fun q j h1 h2 => q j h1 (by omega)⟩))
theorem m332_out (o11 : ok11 hs_S0 R 140) (hHB : HB n lp (J 145)) (ha : a < 4) (hN : N ≤ 20) (hN0 : 0 < N) (hv : ∀ i, i < N → L 143 (60 * a + 2 * i) = lN (D i) ∧ L 143 (60 * a + (2 * i + 1)) = lN (E i) ∧ D i ≤ 200 ∧ E i ≤ 99) : ∀ p f s w, f + p = 201 → isS n (pS (J 145) lp N D E f 0) s → ∃ s', hs_R scr (d + 1) 332 147 [some (.ref 140), some (.int (nI a)), some (.int (nI N)), some (.int s), some (.int (nI f)), w] [] (hs_S0, hs_z (sas J) 145 (cd (J 145) n lp f), L, R) = some (some (.int s'), (hs_S0, sas J, L, R)) ∧ isS n (pS (J 145) lp N D E 201 0) s'
  | 0, f, s, w, hf, hs => by
    obtain rfl : f = 201 := by omega
    refine ⟨s, ?_, hs⟩
    rw [b332_147, if_pos (show (200 : Int32) < nI 201 by decide), b332_219 o11, m307 o11 (J := J) (r := cd (J 145) n lp 201) (fun k hk => cd_hi hHB.1 hk)]
    simp only [Option.bind_some, Option.toList_some, Option.toList_none, List.append_nil, List.cons_append, List.nil_append, ↓reduceIte, true_or, or_true, Nat.reduceAdd, Nat.add_assoc, b332_223]
  | p + 1, f, s, w, hf, hs => by
    have e0 : hs_R scr (d + 1) 332 147 [some (.ref 140), some (.int (nI a)), some (.int (nI N)), some (.int s), some (.int (nI f)), w] [] (hs_S0, hs_z (sas J) 145 (cd (J 145) n lp f), L, R) = hs_R scr (d + 1) 332 162 [some (.ref 140), some (.int (nI a)), some (.int (nI N)), some (.int s), some (.int (nI f)), some (.int (nI 0))] [] (hs_S0, hs_z (sas J) 145 (cd (J 145) n lp f), L, R) := by
      rw [b332_147, if_neg (show ¬ (200 : Int32) < nI f from nI_nlt (a := 200) (by omega) (by omega)), if_neg (nI_nle hN0 (by omega))]; rfl
    obtain ⟨s1, e1, h1⟩ := m332_in (scr := scr) (d := d) (J := sas J) (L := L) (R := R) o11 hHB ha (show f ≤ 200 by omega) hN hv N 0 s (by omega) hs
    obtain ⟨s2, e2, h2⟩ := m332_out o11 hHB ha hN hN0 hv p (f + 1) s1 (some (.int (nI N))) (by omega) h1
    exact ⟨s2, e0.trans (e1.trans e2), h2⟩
theorem rem2 {i : Nat} (h : i < 2 ^ 31) : nI i - nI i / 2 * 2 = nI (i % 2) := pk_rem (d := 2) h (by omega) (by omega)
theorem m332_chk (o11 : ok11 hs_S0 R 140) (ha : a < 4) (hN : N ≤ 20) (hv : ∀ i, i < 2 * N → L 143 (60 * a + i) = v i) : ∀ q i, i + q = 2 * N → (∃ j, j < 2 * N ∧ i ≤ j ∧ inL (v j) (if j % 2 = 0 then 200 else 99) = false) ∧ hs_R scr (d + 1) 332 82 [some (.ref 140), some (.int (nI a)), some (.int (nI N)), some (.int (nI i)), none, none] [] (hs_S0, I, L, R) = some (some (.int (-1)), (hs_S0, hs_u I 140 0 5, L, R)) ∨ (∀ j, i ≤ j → j < 2 * N → inL (v j) (if j % 2 = 0 then 200 else 99) = true) ∧ hs_R scr (d + 1) 332 82 [some (.ref 140), some (.int (nI a)), some (.int (nI N)), some (.int (nI i)), none, none] [] (hs_S0, I, L, R) = hs_R scr (d + 1) 332 82 [some (.ref 140), some (.int (nI a)), some (.int (nI N)), some (.int (nI (2 * N))), none, none] [] (hs_S0, I, L, R)
  | 0, i, h => by
    obtain rfl : i = 2 * N := by omega
    exact Or.inr ⟨fun j h1 h2 => by omega, rfl⟩
  | q + 1, i, h => by
    have e1 : hs_R scr (d + 1) 332 82 [some (.ref 140), some (.int (nI a)), some (.int (nI N)), some (.int (nI i)), none, none] [] (hs_S0, I, L, R) = (if inL (v i) (if i % 2 = 0 then 200 else 99) = true then hs_R scr (d + 1) 332 82 [some (.ref 140), some (.int (nI a)), some (.int (nI N)), some (.int (nI (i + 1))), none, none] [] (hs_S0, I, L, R) else some (some (.int (-1)), (hs_S0, hs_u I 140 0 5, L, R))) := by
      rw [b332_82 o11, ml2, if_neg (nI_ge (by omega) (by omega)), e333, b333_0 o11]
      simp (disch := omega) only [Option.bind_some, Option.toList_some, Option.toList_none, List.append_nil, List.cons_append, List.nil_append, ↓reduceIte, true_or, or_true, Nat.reduceAdd, Nat.add_assoc, f_ge, t_le, t_lt, f_lt, f_l0, t_0l, t_pl, t_eq, f_eq, f_e0, i10, i01, ib_nI, nI_clamp, nI_add, ad10, ad18, ad26, ad34, ad42, ad47, ad52, ad59, ad107, ad117, ml8, mr8, ml5, ml10, hu_same, hu_row, hu_at, hu_hu, t2le, f60l, f4l, t4l, ml60, i30, i40, i3l0, i4l0, i1l0, f0m1, tm10, and_true, true_and, hv, b332_95, rem2]
      by_cases g : i % 2 = 0
      · rw [g, if_pos (show nI 0 = 0 from rfl), if_pos rfl, b332_111, s223l]
        simp only [Option.bind_some, Option.toList_some, Option.toList_none, List.append_nil, List.cons_append, List.nil_append, ↓reduceIte, true_or, or_true, Nat.reduceAdd, Nat.add_assoc, b332_114 o11]
        by_cases g2 : inL (v i) 200 = true
        · simp only [g2, ↓reduceIte, i10, nI_1]
        · simp only [g2, ↓reduceIte, Bool.false_eq_true, e265, b265_0 o11, Option.bind_some, Option.toList_some, Option.toList_none, List.append_nil, List.cons_append, List.nil_append, ↓reduceIte, true_or, or_true, Nat.reduceAdd, Nat.add_assoc, b332_122]
      · have g' : i % 2 = 1 := by omega
        rw [g', if_neg (show ¬ nI 1 = 0 by decide), if_neg (show ¬ (1 : Nat) = 0 by omega), b332_111, s223l]
        simp only [Option.bind_some, Option.toList_some, Option.toList_none, List.append_nil, List.cons_append, List.nil_append, ↓reduceIte, true_or, or_true, Nat.reduceAdd, Nat.add_assoc, b332_114 o11]
        by_cases g2 : inL (v i) 99 = true
        · simp only [g2, ↓reduceIte, i10, nI_1]
        · simp only [g2, ↓reduceIte, Bool.false_eq_true, e265, b265_0 o11, Option.bind_some, Option.toList_some, Option.toList_none, List.append_nil, List.cons_append, List.nil_append, ↓reduceIte, true_or, or_true, Nat.reduceAdd, Nat.add_assoc, b332_122]
    by_cases g : inL (v i) (if i % 2 = 0 then 200 else 99) = true
    · rw [e1, if_pos g]
      rcases m332_chk o11 ha hN hv q (i + 1) (by omega) with ⟨⟨j, h1, h2, h3⟩, e2⟩ | ⟨h1, e2⟩
      · exact Or.inl ⟨⟨j, h1, by omega, h3⟩, e2⟩
      · refine Or.inr ⟨fun j a1 a2 => ?_, e2⟩
        by_cases e : j = i
        · subst e; exact g
        · exact h1 j (by omega) a2
    · left
      refine ⟨⟨i, by omega, Nat.le_refl _, by simpa using g⟩, ?_⟩
      rw [e1, if_neg g]
theorem ca48 : CA48 scr hs_S0 Rel 99 := by
  intro x y I L R hP
  obtain ⟨rt, st, pt, qt, n, np, nr, nl, nb, nq, hA⟩ := hP; obtain ⟨hE, ⟨⟨hn8, hc0, hx0, hh⟩, ⟨hp5, hc1, hx1, hpp⟩, ⟨hr6, hc2, hx2, hrr, hru⟩, ⟨hl6, hc3, hx3, hll⟩, ⟨hb6, hq10, hc4, hx4, hc5, hx5, hqq⟩, hD, hN, hG⟩, hT, hTx, hM, hK⟩ := id hA; have o10 := k10_2 hE.1; have o11 := k11_140 hE.1; have o4 := Env_4 hE; have o1 : ok1 hs_S0 R (rt + 5) := o4.2.2.2.2.2.1; have r10_8 := hE.2.1; have hrt := hE.2.2.2.2.2.1; have hpt := hE.2.2.2.2.2.2
  rcases ix x (n := 4) (by omega) with hx | ⟨k, hk, rfl⟩
  · refine CK_st hA (-1) 1 ?_ ?_
    · simp (disch := omega) only [Option.bind_some, Option.toList_some, Option.toList_none, List.append_nil, List.cons_append, List.nil_append, ↓reduceIte, true_or, or_true, Nat.reduceAdd, Nat.add_assoc, f_ge, t_le, t_lt, f_lt, f_l0, t_0l, t_pl, t_eq, f_eq, f_e0, i10, i01, ib_nI, nI_clamp, nI_add, ad10, ad18, ad26, ad34, ad42, ad47, ad52, ad59, ad107, ad117, ml8, mr8, ml5, ml10, hu_same, hu_row, hu_at, hu_hu, e149, b149_0, b149_4 o10, b149_12, b149_32, b149_48, b149_64, b149_67 o10, b149_72, b149_102, b149_114, b149_126, e28, b28_0 o10, s17n hx]
    · simp (disch := first | omega | (simp (disch := omega) only [hu_same, hu_row, hu_at, hu_hu, hc0, hc1, hc2, hc3, hc4, hc5]; done)) only [Option.bind_some, Option.toList_some, Option.toList_none, List.append_nil, List.cons_append, List.nil_append, ↓reduceIte, true_or, or_true, Nat.reduceAdd, Nat.add_assoc, f_ge, t_le, t_lt, f_lt, f_l0, t_0l, t_pl, t_eq, f_eq, f_e0, i10, i01, ib_nI, nI_clamp, nI_add, ad10, ad18, ad26, ad34, ad42, ad47, ad52, ad59, ad107, ad117, ml8, mr8, ml5, ml10, hu_same, hu_row, hu_at, hu_hu, e332, b332_0 o11, b332_15 o11, b332_23, b332_38, b332_61, b332_71 o11, b332_79, b332_95, b332_111, b332_114 o11, b332_122, b332_144, b332_177 o11, b332_197 o11, b332_201, b332_203, b332_213, b332_219 o11, b332_223, e282, b282_0, b282_9, e265, b265_0 o11, s223 0 3 0 3 rfl rfl, isn_n (h := 3) hx rfl (by omega)]
  obtain ⟨r3, o9⟩ := Rc_tray hE.1 hk
  obtain ⟨t1, ⟨s, hs, t1b⟩, t2, t3⟩ := hT k hk
  have hk3 : nI k ≤ 3 := nI_le (b := 3) (by omega) (by omega)
  rcases t3 with t3 | ⟨m, hm, t3, t4⟩
  · have t2' := t2.trans t3
    refine CK_st hA (-1) 3 ?_ ?_
    · simp (disch := omega) only [Option.bind_some, Option.toList_some, Option.toList_none, List.append_nil, List.cons_append, List.nil_append, ↓reduceIte, true_or, or_true, Nat.reduceAdd, Nat.add_assoc, f_ge, t_le, t_lt, f_lt, f_l0, t_0l, t_pl, t_eq, f_eq, f_e0, i10, i01, ib_nI, nI_clamp, nI_add, ad10, ad18, ad26, ad34, ad42, ad47, ad52, ad59, ad107, ad117, ml8, mr8, ml5, ml10, hu_same, hu_row, hu_at, hu_hu, t2le, f60l, f4l, t4l, ml60, i30, i40, i3l0, i4l0, i1l0, f0m1, tm10, and_true, true_and, e149, b149_0, b149_4 o10, b149_12, b149_19 o9, b149_24 o9 o10, b149_32, b149_48, b149_64, b149_67 o10, b149_72, b149_102, b149_114, b149_126, e23, b23_0 o9, b23_12, e28, b28_0 o10, s17y hk, r3, t2']
    · simp (disch := first | omega | (simp (disch := omega) only [hu_same, hu_row, hu_at, hu_hu, hc0, hc1, hc2, hc3, hc4, hc5]; done)) only [Option.bind_some, Option.toList_some, Option.toList_none, List.append_nil, List.cons_append, List.nil_append, ↓reduceIte, true_or, or_true, Nat.reduceAdd, Nat.add_assoc, f_ge, t_le, t_lt, f_lt, f_l0, t_0l, t_pl, t_eq, f_eq, f_e0, i10, i01, ib_nI, nI_clamp, nI_add, ad10, ad18, ad26, ad34, ad42, ad47, ad52, ad59, ad107, ad117, ml8, mr8, ml5, ml10, hu_same, hu_row, hu_at, hu_hu, t2le, f60l, f4l, t4l, ml60, i30, i40, i3l0, i4l0, i1l0, f0m1, tm10, and_true, true_and, e332, b332_0 o11, b332_15 o11, b332_23, b332_38, b332_61, b332_71 o11, b332_79, b332_95, b332_111, b332_114 o11, b332_122, b332_144, b332_177 o11, b332_197 o11, b332_201, b332_203, b332_213, b332_219 o11, b332_223, e282, b282_0, b282_9, e265, b265_0 o11, s223 0 3 0 3 rfl rfl, hk3, t3]
  have t2' := t2.trans t3
  have hdiv : nI m / 2 = nI (m / 2) := pk_div (d := 2) (by omega) (by omega) (by omega)
  have q1 : (y ≤ nI (m / 2)) ↔ 2 * y.toInt ≤ m := by
    rw [Int32.le_iff_toInt_le, nI_toInt (by omega)]; omega
  have q2 : ((0 : Int32) ≤ lg_cmp (nI m).toInt64 ((2 : Int64) * y.toInt64)) ↔ 2 * y.toInt ≤ m := by
    rw [lgc_ge, Int64.le_iff_toInt_le, mul_ti, Int32.toInt_toInt64, nI_toInt (by omega)]
  by_cases hy : 2 * y.toInt ≤ m
  case neg =>
    refine CK_st hA (-1) 4 ?_ ?_
    · simp (disch := omega) only [Option.bind_some, Option.toList_some, Option.toList_none, List.append_nil, List.cons_append, List.nil_append, ↓reduceIte, true_or, or_true, Nat.reduceAdd, Nat.add_assoc, f_ge, t_le, t_lt, f_lt, f_l0, t_0l, t_pl, t_eq, f_eq, f_e0, i10, i01, ib_nI, nI_clamp, nI_add, ad10, ad18, ad26, ad34, ad42, ad47, ad52, ad59, ad107, ad117, ml8, mr8, ml5, ml10, hu_same, hu_row, hu_at, hu_hu, t2le, f60l, f4l, t4l, ml60, i30, i40, i3l0, i4l0, i1l0, f0m1, tm10, and_true, true_and, e149, b149_0, b149_4 o10, b149_12, b149_19 o9, b149_24 o9 o10, b149_32, b149_48, b149_64, b149_67 o10, b149_72, b149_102, b149_114, b149_126, e23, b23_0 o9, b23_12, e28, b28_0 o10, s17y hk, r3, t2', hdiv, q1, hy]
    · simp (disch := first | omega | (simp (disch := omega) only [hu_same, hu_row, hu_at, hu_hu, hc0, hc1, hc2, hc3, hc4, hc5]; done)) only [Option.bind_some, Option.toList_some, Option.toList_none, List.append_nil, List.cons_append, List.nil_append, ↓reduceIte, true_or, or_true, Nat.reduceAdd, Nat.add_assoc, f_ge, t_le, t_lt, f_lt, f_l0, t_0l, t_pl, t_eq, f_eq, f_e0, i10, i01, ib_nI, nI_clamp, nI_add, ad10, ad18, ad26, ad34, ad42, ad47, ad52, ad59, ad107, ad117, ml8, mr8, ml5, ml10, hu_same, hu_row, hu_at, hu_hu, t2le, f60l, f4l, t4l, ml60, i30, i40, i3l0, i4l0, i1l0, f0m1, tm10, and_true, true_and, e332, b332_0 o11, b332_15 o11, b332_23, b332_38, b332_61, b332_71 o11, b332_79, b332_95, b332_111, b332_114 o11, b332_122, b332_144, b332_177 o11, b332_197 o11, b332_201, b332_203, b332_213, b332_219 o11, b332_223, e282, b282_0, b282_9, e265, b265_0 o11, s223 0 3 0 3 rfl rfl, hk3, t3, q2, hy]
  rcases rg y 0 20 with hy2 | ⟨h1, h2, h3⟩
  · refine CK_st hA (-1) 5 ?_ ?_
    · simp (disch := omega) only [Option.bind_some, Option.toList_some, Option.toList_none, List.append_nil, List.cons_append, List.nil_append, ↓reduceIte, true_or, or_true, Nat.reduceAdd, Nat.add_assoc, f_ge, t_le, t_lt, f_lt, f_l0, t_0l, t_pl, t_eq, f_eq, f_e0, i10, i01, ib_nI, nI_clamp, nI_add, ad10, ad18, ad26, ad34, ad42, ad47, ad52, ad59, ad107, ad117, ml8, mr8, ml5, ml10, hu_same, hu_row, hu_at, hu_hu, t2le, f60l, f4l, t4l, ml60, i30, i40, i3l0, i4l0, i1l0, f0m1, tm10, and_true, true_and, e149, b149_0, b149_4 o10, b149_12, b149_19 o9, b149_24 o9 o10, b149_32, b149_48, b149_64, b149_67 o10, b149_72, b149_102, b149_114, b149_126, e23, b23_0 o9, b23_12, e28, b28_0 o10, s17y hk, r3, t2', hdiv, q1, hy, out_h hy2]
    · simp (disch := first | omega | (simp (disch := omega) only [hu_same, hu_row, hu_at, hu_hu, hc0, hc1, hc2, hc3, hc4, hc5]; done)) only [Option.bind_some, Option.toList_some, Option.toList_none, List.append_nil, List.cons_append, List.nil_append, ↓reduceIte, true_or, or_true, Nat.reduceAdd, Nat.add_assoc, f_ge, t_le, t_lt, f_lt, f_l0, t_0l, t_pl, t_eq, f_eq, f_e0, i10, i01, ib_nI, nI_clamp, nI_add, ad10, ad18, ad26, ad34, ad42, ad47, ad52, ad59, ad107, ad117, ml8, mr8, ml5, ml10, hu_same, hu_row, hu_at, hu_hu, t2le, f60l, f4l, t4l, ml60, i30, i40, i3l0, i4l0, i1l0, f0m1, tm10, and_true, true_and, e332, b332_0 o11, b332_15 o11, b332_23, b332_38, b332_61, b332_71 o11, b332_79, b332_95, b332_111, b332_114 o11, b332_122, b332_144, b332_177 o11, b332_197 o11, b332_201, b332_203, b332_213, b332_219 o11, b332_223, e282, b282_0, b282_9, e265, b265_0 o11, s223 0 3 0 3 rfl rfl, hk3, t3, q2, hy, s223 0 20 0 20 rfl rfl, out_g hy2]
  obtain ⟨N, hN, rfl⟩ := rg_nat 20 rfl (by decide) h1 h2
  rw [nI_toInt (by omega)] at hy
  have hy' : 2 * (nI N).toInt ≤ m := by rw [nI_toInt (by omega)]; exact hy
  have hNm : 2 * N ≤ m := by omega
  have hxv : ∀ i, i < m → L (66 + 2 * k + 1) i = L 143 (60 * k + i) := fun i hi => by
    have := t4 i hi
    rwa [show 67 + 2 * k = 66 + 2 * k + 1 by omega] at this
  have e150 := x150 (scr := scr) (d := 98) (I := I) (L := L) (N := N) (v := fun i => L 143 (60 * k + i)) o9 t2' hm hNm hxv
  have hchk := fun (J : Nat → Nat → Int32) => m332_chk (scr := scr) (d := 98) (I := J) (L := L) (R := R) (a := k) (N := N) (v := fun i => L 143 (60 * k + i)) o11 hk hN (fun i _ => rfl) (2 * N) 0 (by omega)
  have hq : ∀ i, i < N → ((fun i => !(inL (L 143 (60 * k + 2 * i)) 200 && inL (L 143 (60 * k + (2 * i + 1))) 99)) i = false ↔ inL (L 143 (60 * k + 2 * i)) 200 = true ∧ inL (L 143 (60 * k + (2 * i + 1))) 99 = true) := by
    intro i hi; simp
  rcases hchk (hs_u (hs_u (hs_u I 2 16 5) 140 1 0) 140 0 0) with ⟨⟨j, j1, -, j3⟩, e1⟩ | ⟨hgood, -⟩
  · cases hf : fnd (fun i => !(inL (L 143 (60 * k + 2 * i)) 200 && inL (L 143 (60 * k + (2 * i + 1))) 99)) 0 N with
    | none =>
      exfalso
      have g := (hq (j / 2) (by omega)).mp (fnd_none.mp hf (j / 2) (by omega) (by omega))
      by_cases p : j % 2 = 0
      · rw [if_pos p] at j3
        rw [show j = 2 * (j / 2) by omega, g.1] at j3; cases j3
      · rw [if_neg p] at j3
        rw [show j = 2 * (j / 2) + 1 by omega, g.2] at j3; cases j3
    | some b =>
      rw [hf] at e150
      rw [nI_0] at e1
      refine CK_st hA (-1) 5 ?_ ?_
      · simp (disch := omega) only [Option.bind_some, Option.toList_some, Option.toList_none, List.append_nil, List.cons_append, List.nil_append, ↓reduceIte, true_or, or_true, Nat.reduceAdd, Nat.add_assoc, f_ge, t_le, t_lt, f_lt, f_l0, t_0l, t_pl, t_eq, f_eq, f_e0, i10, i01, ib_nI, nI_clamp, nI_add, ad10, ad18, ad26, ad34, ad42, ad47, ad52, ad59, ad107, ad117, ml8, mr8, ml5, ml10, hu_same, hu_row, hu_at, hu_hu, t2le, f60l, f4l, t4l, ml60, i30, i40, i3l0, i4l0, i1l0, f0m1, tm10, and_true, true_and, e149, b149_0, b149_4 o10, b149_12, b149_19 o9, b149_24 o9 o10, b149_32, b149_48, b149_64, b149_67 o10, b149_72, b149_102, b149_114, b149_126, e23, b23_0 o9, b23_12, e28, b28_0 o10, s17y hk, r3, t2', hdiv, q1, hy', h1, h3, e150]
      · simp (disch := first | omega | (simp (disch := omega) only [hu_same, hu_row, hu_at, hu_hu, hc0, hc1, hc2, hc3, hc4, hc5]; done)) only [Option.bind_some, Option.toList_some, Option.toList_none, List.append_nil, List.cons_append, List.nil_append, ↓reduceIte, true_or, or_true, Nat.reduceAdd, Nat.add_assoc, f_ge, t_le, t_lt, f_lt, f_l0, t_0l, t_pl, t_eq, f_eq, f_e0, i10, i01, ib_nI, nI_clamp, nI_add, ad10, ad18, ad26, ad34, ad42, ad47, ad52, ad59, ad107, ad117, ml8, mr8, ml5, ml10, hu_same, hu_row, hu_at, hu_hu, t2le, f60l, f4l, t4l, ml60, i30, i40, i3l0, i4l0, i1l0, f0m1, tm10, and_true, true_and, e332, b332_0 o11, b332_15 o11, b332_23, b332_38, b332_61, b332_71 o11, b332_79, b332_95, b332_111, b332_114 o11, b332_122, b332_144, b332_177 o11, b332_197 o11, b332_201, b332_203, b332_213, b332_219 o11, b332_223, e282, b282_0, b282_9, e265, b265_0 o11, s223 0 3 0 3 rfl rfl, hk3, t3, q2, hy', s223 0 20 0 20 rfl rfl, h1, h2]
        rw [hu_hu] at e1
        exact e1
  · have hf : fnd (fun i => !(inL (L 143 (60 * k + 2 * i)) 200 && inL (L 143 (60 * k + (2 * i + 1))) 99)) 0 N = none := fnd_none.mpr (fun i _ hi => (hq i (by omega)).mpr ⟨by
        have := hgood (2 * i) (by omega) (by omega)
        rwa [if_pos (by omega)] at this, by
        have := hgood (2 * i + 1) (by omega) (by omega)
        rwa [if_neg (by omega)] at this⟩)
    rw [hf] at e150
    obtain ⟨D, hD0⟩ : ∃ D : Nat → Nat, D = fun i => (L 143 (60 * k + 2 * i)).toInt.toNat := ⟨_, rfl⟩
    obtain ⟨E, hE0⟩ : ∃ E : Nat → Nat, E = fun i => (L 143 (60 * k + (2 * i + 1))).toInt.toNat := ⟨_, rfl⟩
    have hv : ∀ i, i < N → L 143 (60 * k + 2 * i) = lN (D i) ∧ L 143 (60 * k + (2 * i + 1)) = lN (E i) ∧ D i ≤ 200 ∧ E i ≤ 99 := by
      intro i hi
      have g := (hq i hi).mp (fnd_none.mp hf i (by omega) (by omega))
      obtain ⟨a1, b1, c1⟩ := inL_n (b := 200) (by omega) g.1
      obtain ⟨a2, b2, c2⟩ := inL_n (b := 99) (by omega) g.2
      have d1 : D i = a1 := by rw [hD0]; show (L 143 (60 * k + 2 * i)).toInt.toNat = _; rw [c1, pk_lT (by omega)]; rfl
      have d2 : E i = a2 := by rw [hE0]; show (L 143 (60 * k + (2 * i + 1))).toInt.toNat = _; rw [c2, pk_lT (by omega)]; rfl
      rw [d1, d2]; exact ⟨c1, c2, b1, b2⟩
    have hvx : ∀ i, i < N → L (66 + 2 * k + 1) (2 * i) = lN (D i) ∧ L (66 + 2 * k + 1) (2 * i + 1) = lN (E i) ∧ D i ≤ 200 ∧ E i ≤ 99 := by
      intro i hi
      rw [hxv _ (by omega), hxv _ (by omega)]; exact hv i hi
    obtain ⟨lp, hlp⟩ := lpc_ex hA.2.1.2.2.1
    have hHB := HB_of hA.2.1.1 hA.2.1.2.2.1 hD hlp
    obtain ⟨s1, e2, h4⟩ := x149 (scr := scr) (d := 95) (I := I) (L := L) (x := nI k) o10 r10_8 o4 o9 hA.2.1.1 hA.2.1.2.2.1 hlp hN hvx
    have hJ : hs_u (hs_u (hs_u I 2 16 0) 140 1 0) 140 0 0 145 = I 145 := by simp (disch := omega) only [hu_same, hu_row, hu_at, hu_hu]
    have hJ0 : hs_u (hs_u (hs_u I 2 16 0) 140 1 0) 140 0 0 (140 + 5) 0 = nI n := by rw [show (140 + 5 : Nat) = 145 from rfl, hJ]; exact hc0
    have hM : ∃ s2, hs_R scr 99 332 147 [some (.ref 140), some (.int (nI k)), some (.int (nI N)), some (.int (nI (2 ^ n) - 1)), some (.int (nI 0)), none] [] (hs_S0, sas (hs_u (hs_u (hs_u I 2 16 0) 140 1 0) 140 0 0), L, R) = some (some (.int s2), (hs_S0, sas (hs_u (hs_u (hs_u I 2 16 0) 140 1 0) 140 0 0), L, R)) ∧ isS n (fun h => ∀ i, i < N → lenA (I 145) lp (D i) h = nI (E i)) s2 := by
      by_cases hN0 : N = 0
      · subst hN0
        refine ⟨_, ?_, isS_cg (isS_all (by omega)) (fun h _ => ⟨fun _ i hi => by omega, fun _ => trivial⟩)⟩
        rw [b332_147, if_neg (by decide), if_pos (by decide), b332_219 o11]
        have := m307 (scr := scr) (d := 98) (L := L) (R := R) (J := hs_u (hs_u (hs_u I 2 16 0) 140 1 0) 140 0 0) (r := hs_u (hs_u (hs_u I 2 16 0) 140 1 0) 140 0 0 145) o11 (fun k _ => rfl)
        rw [sas_z] at this
        rw [this]
        simp only [Option.bind_some, Option.toList_some, Option.toList_none, List.append_nil, List.cons_append, List.nil_append, ↓reduceIte, true_or, or_true, Nat.reduceAdd, Nat.add_assoc, b332_223]
      · obtain ⟨s2, e3, h5⟩ := m332_out (scr := scr) (d := 98) (n := n) (lp := lp) (J := hs_u (hs_u (hs_u I 2 16 0) 140 1 0) 140 0 0) (L := L) (R := R) (D := D) (E := E) o11 (by rw [hJ]; exact hHB) hk hN (by omega) hv 201 0 (nI (2 ^ n) - 1) none (by omega) (isS_cg (isS_all (by omega)) (fun h _ => ⟨fun _ j hj hq => by omega, fun _ => trivial⟩))
        rw [cd_0 (by rw [hJ]; exact hHB), sas_z] at e3
        rw [hJ] at h5
        refine ⟨s2, e3, isS_cg h5 (fun h _ => ⟨fun q i hi => q i hi (by have := (hv i hi).2.2.1; omega), fun q j hj _ => q j hj⟩)⟩
    obtain ⟨s2, e3, h5⟩ := hM
    obtain rfl := isS_u h4 h5
    refine CK_sc hA s1 0 ?_ ?_
    · simp (disch := omega) only [Option.bind_some, Option.toList_some, Option.toList_none, List.append_nil, List.cons_append, List.nil_append, ↓reduceIte, true_or, or_true, Nat.reduceAdd, Nat.add_assoc, f_ge, t_le, t_lt, f_lt, f_l0, t_0l, t_pl, t_eq, f_eq, f_e0, i10, i01, ib_nI, nI_clamp, nI_add, ad10, ad18, ad26, ad34, ad42, ad47, ad52, ad59, ad107, ad117, ml8, mr8, ml5, ml10, hu_same, hu_row, hu_at, hu_hu, t2le, f60l, f4l, t4l, ml60, i30, i40, i3l0, i4l0, i1l0, f0m1, tm10, and_true, true_and, e149, b149_0, b149_4 o10, b149_12, b149_19 o9, b149_24 o9 o10, b149_32, b149_48, b149_64, b149_67 o10, b149_72, b149_102, b149_114, b149_126, e23, b23_0 o9, b23_12, e28, b28_0 o10, s17y hk, r3, t2', hdiv, q1, hy', h1, h3, e150]
      exact e2
    · rw [sas_0]
      rcases hchk (hs_u (hs_u (hs_u I 2 16 0) 140 1 0) 140 0 0) with ⟨⟨j, j1, -, j3⟩, -⟩ | ⟨-, e4⟩
      · rw [hgood j (by omega) j1] at j3; cases j3
      · rw [nI_0] at e4
        simp (disch := first | omega | (simp (disch := omega) only [hu_same, hu_row, hu_at, hu_hu, hc0, hc1, hc2, hc3, hc4, hc5]; done)) only [Option.bind_some, Option.toList_some, Option.toList_none, List.append_nil, List.cons_append, List.nil_append, ↓reduceIte, true_or, or_true, Nat.reduceAdd, Nat.add_assoc, f_ge, t_le, t_lt, f_lt, f_l0, t_0l, t_pl, t_eq, f_eq, f_e0, i10, i01, ib_nI, nI_clamp, nI_add, ad10, ad18, ad26, ad34, ad42, ad47, ad52, ad59, ad107, ad117, ml8, mr8, ml5, ml10, hu_same, hu_row, hu_at, hu_hu, t2le, f60l, f4l, t4l, ml60, i30, i40, i3l0, i4l0, i1l0, f0m1, tm10, and_true, true_and, e332, b332_0 o11, b332_15 o11, b332_23, b332_38, b332_61, b332_71 o11, b332_79, b332_95, b332_111, b332_114 o11, b332_122, b332_144, b332_177 o11, b332_197 o11, b332_201, b332_203, b332_213, b332_219 o11, b332_223, e282, b282_0, b282_9, e265, b265_0 o11, s223 0 3 0 3 rfl rfl, hk3, t3, q2, hy', s223 0 20 0 20 rfl rfl, h1, h2]
        refine e4.trans ?_
        rw [b332_82 o11, ml2, if_pos (nI_le (Nat.le_refl _) (by omega)), hJ0, sh1 n (by omega), m306 o11]
        simp only [Option.bind_some, Option.toList_some, Option.toList_none, List.append_nil, List.cons_append, List.nil_append, ↓reduceIte, true_or, or_true, Nat.reduceAdd, Nat.add_assoc, b332_144]
        exact e3
end S2
