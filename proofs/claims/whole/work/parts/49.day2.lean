/-! day, and looking ahead -/
theorem hu_wr {α : Type} (m : Nat → Nat → α) {k lo n k' q : Nat} (f : Nat → α) (v : α) (h : k ≠ k') : hs_u (wr m k lo n f) k' q v = wr (hs_u m k' q v) k lo n f := by
  funext a b; simp only [hs_u, wr]
  by_cases h1 : a = k' ∧ b = q
  · rw [if_pos h1, if_neg (by omega), if_pos h1]
  · rw [if_neg h1, if_neg h1]
def sB (a b pe x : Int32) : Int32 := if pe = 0 then (if 0 < a - (if 0 < x - b then x - b else 0) then a - (if 0 < x - b then x - b else 0) else 0) else (if a + (if 0 < x - b then x - b else 0) < 2 then a + (if 0 < x - b then x - b else 0) else 2)
theorem sB_nat {s w d : Nat} {pe : Int32} (hs : s ≤ 2) (hw : w ≤ 99) (hd : d ≤ 100000) (hp : pe = 0 ∨ pe = 1) : sB (nI s) (nI w) pe (nI d) = if pe = 1 then nI (min 2 (s + (d - w))) else nI (s - (d - w)) := by
  unfold sB
  rw [mx0 (by omega) (by omega), mx0 (by omega) (by omega), nI_add, mn2 (by omega)]
  rcases hp with rfl | rfl
  · rw [if_pos rfl, if_neg (by decide)]
  · rw [if_neg (by decide), if_pos rfl]
theorem sA_nat {c : Nat → Int32} {d k : Nat} (h1 : bd (c (26 + k)) 2) (h2 : bd (c (34 + k)) 99) (h9 : c 9 = 0 ∨ c 9 = 1) (hd : d ≤ 100000) : sA c (c 9) (nI d) k = stA c d k := by
  obtain ⟨s, hs, e1⟩ := h1
  obtain ⟨w, hw, e2⟩ := h2
  have : sA c (c 9) (nI d) k = sB (nI s) (nI w) (c 9) (nI d) := by unfold sA mvA sB; rw [e1, e2]
  rw [this, sB_nat hs hw hd h9]
  unfold stA; rw [e1, e2, nI_clamp (by omega), nI_clamp (by omega)]
section D2
variable {scr : List Int32} {d t n np nr nl nb nq lp : Nat} {c r : Nat → Int32} {I I' : Nat → Nat → Int32} {L : Nat → Nat → Int64} {R : Nat → Nat → Nat}
/-- the lip that is reigned from -/
def lpc (nr lp : Nat) (c : Nat → Int32) : Prop := lp ≤ 9 ∧ ((nr = 0 ∧ lp = 0) ∨ ∃ ru, ru < nr ∧ c 58 = nI ru ∧ c (52 + ru) = nI lp)
theorem lpc_ex (h : RU nr c I t) : ∃ lp, lpc nr lp c := by
  obtain ⟨h1, h2, h3, h4, ru, h5, h6 | h6⟩ := h
  · exact ⟨0, by omega, Or.inl ⟨h6.1, rfl⟩⟩
  · obtain ⟨lp, g1, g2⟩ := (h4 ru h6.1).2
    exact ⟨lp, g1, Or.inr ⟨ru, h6.1, h5, g2⟩⟩
theorem x101 (o4 : ok4 hs_S0 R t) (h : RU nr c I t) (hl : lpc nr lp c) : hs_C scr d 101 [.ref t] (hs_S0, I, L, R) = some (some (.int (nI lp)), (hs_S0, I, L, R)) := by
  obtain ⟨h1, h2, h3, h4, ru, h5, h6⟩ := h
  rcases h6 with ⟨rfl, -, h6⟩ | ⟨h6, h7⟩
  · rcases hl with ⟨hl, ⟨-, rfl⟩ | ⟨ru', hq, -⟩⟩
    · simp (disch := omega) only [Option.bind_some, Option.toList_some, Option.toList_none, List.append_nil, List.cons_append, List.nil_append, ↓reduceIte, true_or, or_true, Nat.reduceAdd, Nat.add_assoc, f_ge, t_le, t_lt, f_lt, f_l0, t_0l, t_pl, t_eq, f_eq, f_e0, i10, i01, ib_nI, nI_clamp, nI_add, ad10, ad18, ad26, ad34, ad42, ad47, ad52, ad59, ad107, ad117, ml8, mr8, ml5, ml10, hu_same, hu_row, hu_at, hu_hu, e101, b101_0 o4, b101_30, b101_31, h6, tm10]; rfl
    · omega
  · rcases hl with ⟨hl, ⟨rfl, -⟩ | ⟨ru', hq, e1, e2⟩⟩
    · omega
    · obtain rfl : ru = ru' := (nI_eq (by omega) (by omega)).mp (h5.symm.trans e1)
      simp (disch := omega) only [Option.bind_some, Option.toList_some, Option.toList_none, List.append_nil, List.cons_append, List.nil_append, ↓reduceIte, true_or, or_true, Nat.reduceAdd, Nat.add_assoc, f_ge, t_le, t_lt, f_lt, f_l0, t_0l, t_pl, t_eq, f_eq, f_e0, i10, i01, ib_nI, nI_clamp, nI_add, ad10, ad18, ad26, ad34, ad42, ad47, ad52, ad59, ad107, ad117, ml8, mr8, ml5, ml10, hu_same, hu_row, hu_at, hu_hu, e101, b101_0 o4, b101_30, b101_31, h7, h3, (h4 ru h6).1, e2]
theorem HB_of (h : RH n c I t) (h2 : RU nr c I t) (h3 : RD c I t) (hl : lpc nr lp c) : HB n lp c := by
  obtain ⟨a1, a2, a3, a4⟩ := h
  refine ⟨a1, a2, fun k hk => ?_, h3.2.2.2.2, hl.1, ?_⟩
  · have := a4 k hk; exact ⟨this.2.2.2.2.1, this.2.2.2.2.2.1, this.2.2.2.2.2.2.1, this.2.2.2.2.2.2.2⟩
  · rcases hl with ⟨hl, ⟨rfl, rfl⟩ | ⟨ru', hq, e1, e2⟩⟩
    · exact Or.inl ⟨h2.2.1, rfl⟩
    · right
      refine ⟨?_, ru', by have := h2.1; omega, e1, e2⟩
      rw [h2.2.1]; exact nI_ne0 (by omega) (by have := h2.1; omega)
theorem x103w {x2 x3 a b : Int32} {k : Nat} (o1 : ok1 hs_S0 R (t + 5)) (hk : k < 8) (h8 : I (t + 8) k = a) (h9 : I (t + 9) k = b) : hs_C scr d 103 [.ref (t + 5), .int (nI k), .int x2, .int x3] (hs_S0, I, L, R) = some (some (.int (sB a b x3 x2)), (hs_S0, I, L, R)) := by
  simp (disch := omega) only [Option.bind_some, Option.toList_some, Option.toList_none, List.append_nil, List.cons_append, List.nil_append, ↓reduceIte, true_or, or_true, Nat.reduceAdd, Nat.add_assoc, f_ge, t_le, t_lt, f_lt, f_l0, t_0l, t_pl, t_eq, f_eq, f_e0, i10, i01, ib_nI, nI_clamp, nI_add, ad10, ad18, ad26, ad34, ad42, ad47, ad52, ad59, ad107, ad117, ml8, mr8, ml5, ml10, hu_same, hu_row, hu_at, hu_hu, e103, b103_0 o1, b103_47, h8, h9]
  unfold sB
  by_cases h0 : x3 = 0
  · simp only [h0, ↓reduceIte]
  · simp only [h0, ↓reduceIte]
/-- the hairs' rows, the first i of them e days on -/
def ldp (I : Nat → Nat → Int32) (t : Nat) (c : Nat → Int32) (lp e i : Nat) : Nat → Nat → Int32 := wr (wr (wr I (t + 6) 0 i (lenA c lp e)) (t + 8) 0 i (stA c e)) (t + 9) 0 i (wxA c e)
theorem ldp_s {e i : Nat} (v1 v2 v3 : Int32) (h1 : v1 = lenA c lp e i) (h2 : v2 = stA c e i) (h3 : v3 = wxA c e i) : hs_u (hs_u (hs_u (ldp I t c lp e i) (t + 6) i v1) (t + 8) i v2) (t + 9) i v3 = ldp I t c lp e (i + 1) := by
  have g1 := wr_s I (t + 6) 0 i (lenA c lp e)
  have g2 := wr_s (wr I (t + 6) 0 (i + 1) (lenA c lp e)) (t + 8) 0 i (stA c e)
  have g3 := wr_s (wr (wr I (t + 6) 0 (i + 1) (lenA c lp e)) (t + 8) 0 (i + 1) (stA c e)) (t + 9) 0 i (wxA c e)
  rw [Nat.zero_add] at g1 g2 g3
  unfold ldp
  rw [hu_wr (k := t + 9) (k' := t + 6) _ _ _ (by omega), hu_wr (k := t + 8) (k' := t + 6) _ _ _ (by omega), h1, g1, hu_wr (k := t + 9) (k' := t + 8) _ _ _ (by omega), h2, g2, h3, g3]
theorem ldp_6 {e i k : Nat} (h : i ≤ k) : ldp I t c lp e i (t + 6) k = I (t + 6) k := by
  unfold ldp; rw [wr_row _ _ (by omega), wr_row _ _ (by omega), wr_out _ _ (by omega)]
theorem ldp_8 {e i k : Nat} (h : i ≤ k) : ldp I t c lp e i (t + 8) k = I (t + 8) k := by
  unfold ldp; rw [wr_row _ _ (by omega), wr_out _ _ (by omega), wr_row _ _ (by omega)]
theorem ldp_9 {e i k : Nat} (h : i ≤ k) : ldp I t c lp e i (t + 9) k = I (t + 9) k := by
  unfold ldp; rw [wr_out _ _ (by omega), wr_row _ _ (by omega), wr_row _ _ (by omega)]
theorem ldp_r {e i a : Nat} (h : a ≠ t + 6 ∧ a ≠ t + 8 ∧ a ≠ t + 9) : ldp I t c lp e i a = I a := by
  unfold ldp; rw [wr_row _ _ h.2.2, wr_row _ _ h.2.1, wr_row _ _ h.1]
theorem ldp_i6 {e i k : Nat} (h : k < i) : ldp I t c lp e i (t + 6) k = lenA c lp e k := by
  unfold ldp; rw [wr_row _ _ (by omega), wr_row _ _ (by omega), wr_in _ _ (by omega), Nat.sub_zero]
theorem ldp_i8 {e i k : Nat} (h : k < i) : ldp I t c lp e i (t + 8) k = stA c e k := by
  unfold ldp; rw [wr_row _ _ (by omega), wr_in _ _ (by omega), Nat.sub_zero]
theorem ldp_i9 {e i k : Nat} (h : k < i) : ldp I t c lp e i (t + 9) k = wxA c e k := by
  unfold ldp; rw [wr_in _ _ (by omega), Nat.sub_zero]
theorem x102_loop {e : Nat} (o1 : ok1 hs_S0 R (t + 5)) (h : RH n c I t) (h9 : c 9 = 0 ∨ c 9 = 1) (hlp : lp ≤ 9) (he : e ≤ 9999) : ∀ p i, i + p = n → hs_R scr (d + 1) 102 3 [some (.ref (t + 5)), some (.int (nI e)), some (.int (nI lp)), some (.int (c 9)), some (.int (nI i))] [] (hs_S0, ldp I t c lp e i, L, R) = some (none, (hs_S0, ldp I t c lp e n, L, R))
  | 0, i, hi => by
    obtain rfl : i = n := by omega
    obtain ⟨hn, -, hx0, hh⟩ := id h
    rw [b102_3 o1]
    simp (disch := omega) only [Option.bind_some, Option.toList_some, Option.toList_none, List.append_nil, List.cons_append, List.nil_append, ↓reduceIte, true_or, or_true, Nat.reduceAdd, Nat.add_assoc, f_ge, t_le, t_lt, f_lt, f_l0, t_0l, t_pl, t_eq, f_eq, f_e0, i10, i01, ib_nI, nI_clamp, nI_add, ad10, ad18, ad26, ad34, ad42, ad47, ad52, ad59, ad107, ad117, ml8, mr8, ml5, ml10, hu_same, hu_row, hu_at, hu_hu, ldp_r, hx0]
  | p + 1, i, hi => by
    obtain ⟨hn, -, hx0, hh⟩ := id h
    obtain ⟨e6, e7, e8, e9, ⟨a, ha, ea⟩, ⟨g, hg, eg⟩, ⟨s, hs, es⟩, ⟨x, hx, ex⟩⟩ := hh i (by omega)
    have hb : e * (g + lp) ≤ 9999 * 18 := Nat.mul_le_mul he (by omega)
    have v1 : nI (min 99 (a + e * (g + lp))) = lenA c lp e i := by
      unfold lenA; rw [ea, eg, nI_clamp (by omega), nI_clamp (by omega)]
    have v2 : sB (nI s) (nI x) (c 9) (nI e) = stA c e i := by
      rw [sB_nat hs hx (by omega) h9]; unfold stA; rw [es, ex, nI_clamp (by omega), nI_clamp (by omega)]
    have v3 : nI (x - e) = wxA c e i := by unfold wxA; rw [ex, nI_clamp (by omega)]
    rw [b102_3 o1]
    simp (disch := omega) only [Option.bind_some, Option.toList_some, Option.toList_none, List.append_nil, List.cons_append, List.nil_append, ↓reduceIte, true_or, or_true, Nat.reduceAdd, Nat.add_assoc, f_ge, t_le, t_lt, f_lt, f_l0, t_0l, t_pl, t_eq, f_eq, f_e0, i10, i01, ib_nI, nI_clamp, nI_add, ad10, ad18, ad26, ad34, ad42, ad47, ad52, ad59, ad107, ad117, ml8, mr8, ml5, ml10, hu_same, hu_row, hu_at, hu_hu, ldp_r, hx0, ldp_6, e6, ea, e7, eg, pk_mul, mn99]
    rw [x103w (a := nI s) (b := nI x) o1 (by omega) (by simp (disch := omega) only [hu_same, hu_row, hu_at, hu_hu, ldp_8, e8, es]) (by simp (disch := omega) only [hu_same, hu_row, hu_at, hu_hu, ldp_9, e9, ex])]
    simp (disch := omega) only [Option.bind_some, Option.toList_some, Option.toList_none, List.append_nil, List.cons_append, List.nil_append, ↓reduceIte, true_or, or_true, Nat.reduceAdd, Nat.add_assoc, b102_57 (S := hs_S0) (u0 := t + 8) (n_u0 := 8) o1.2.2.2.2.2.2.2.1]
    simp (disch := omega) only [Option.bind_some, Option.toList_some, Option.toList_none, List.append_nil, List.cons_append, List.nil_append, ↓reduceIte, true_or, or_true, Nat.reduceAdd, Nat.add_assoc, f_ge, t_le, t_lt, f_lt, f_l0, t_0l, t_pl, t_eq, f_eq, f_e0, i10, i01, ib_nI, nI_clamp, nI_add, ad10, ad18, ad26, ad34, ad42, ad47, ad52, ad59, ad107, ad117, ml8, mr8, ml5, ml10, hu_same, hu_row, hu_at, hu_hu, ldp_9, e9, ex, mx0, nI_1]
    rw [ldp_s _ _ _ v1 v2 v3]
    exact x102_loop o1 h h9 hlp he p (i + 1) (by omega)
theorem x102 {e : Nat} (o1 : ok1 hs_S0 R (t + 5)) (h : RH n c I t) (h9 : c 9 = 0 ∨ c 9 = 1) (hlp : lp ≤ 9) (he : e ≤ 9999) : hs_C scr (d + 1) 102 [.ref (t + 5), .int (nI e), .int (nI lp), .int (c 9)] (hs_S0, I, L, R) = some (none, (hs_S0, ldp I t c lp e n, L, R)) := by
  have hl := x102_loop (scr := scr) (d := d) (L := L) o1 h h9 hlp he n 0 (by omega)
  have e0 : ldp I t c lp e 0 = I := by unfold ldp; rw [wr_0, wr_0, wr_0]
  rw [e0, nI_0] at hl
  rw [e102, b102_0]; exact hl
theorem x100 {e dy : Nat} (o4 : ok4 hs_S0 R t) (h : RH n c I t) (h2 : RU nr c I t) (h3 : RD c I t) (hl : lpc nr lp c) (hdy : c 8 = nI dy) (he : e + dy ≤ 9999) : hs_C scr (d + 2) 100 [.ref t, .int (nI e)] (hs_S0, I, L, R) = some (some (.int 1), (hs_S0, hs_u (ldp I t c lp e n) t 15 (nI (dy + e)), L, R)) := by
  have o1 : ok1 hs_S0 R (t + 5) := o4.2.2.2.2.2.1
  have e1 : nI e ≤ 9999 - nI dy := by
    rw [show (9999 : Int32) = nI 9999 from rfl, pk_sub (by omega)]; exact nI_le (by omega) (by omega)
  have h15 := h3.2.2.1.1
  have h16 := h3.2.2.2.1
  simp (disch := omega) only [Option.bind_some, Option.toList_some, Option.toList_none, List.append_nil, List.cons_append, List.nil_append, ↓reduceIte, true_or, or_true, Nat.reduceAdd, Nat.add_assoc, f_ge, t_le, t_lt, f_lt, f_l0, t_0l, t_pl, t_eq, f_eq, f_e0, i10, i01, ib_nI, nI_clamp, nI_add, ad10, ad18, ad26, ad34, ad42, ad47, ad52, ad59, ad107, ad117, ml8, mr8, ml5, ml10, hu_same, hu_row, hu_at, hu_hu, e100, b100_0 o4, b100_23 o4 o1, b100_30 o4, h15, h16, hdy, e1, x101 o4 h2 hl, x102 o1 h h3.2.2.2.2 hl.1 (show e ≤ 9999 by omega), ldp_r]
theorem x100n {e dy : Nat} (o4 : ok4 hs_S0 R t) (h3 : RD c I t) (hdy : c 8 = nI dy) (hdy2 : dy ≤ 9999) (he2 : e ≤ 9999) (he : ¬ e + dy ≤ 9999) : hs_C scr (d + 2) 100 [.ref t, .int (nI e)] (hs_S0, I, L, R) = some (some (.int 0), (hs_S0, I, L, R)) := by
  have e1 : ¬ nI e ≤ 9999 - nI dy := by
    rw [show (9999 : Int32) = nI 9999 from rfl, pk_sub (by omega)]; exact nI_ge (by omega) (by omega)
  have h15 := h3.2.2.1.1
  rw [e100, b100_0 o4, h15, hdy, if_neg e1]
end D2
