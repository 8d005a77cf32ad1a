/-! marks -/
theorem hcp_row {α : Type} (m : Nat → Nat → α) {a e sp dp n k : Nat} (h : k ≠ e) : hs_cpy m a e sp dp n k = m k := by
  funext b; simp only [hs_cpy, hs_z]; rw [if_neg h]
theorem hcp_in {α : Type} (m : Nat → Nat → α) {a e n b : Nat} (h : b < n) : hs_cpy m a e 0 0 n e b = m a b := by
  simp only [hs_cpy, hs_z, ↓reduceIte]; rw [pk_cpy_in (by omega) (by omega)]; simp
theorem tn_31 : (31 : Int32).toNatClampNeg = 31 := by decide
theorem tn_48 : (48 : Int32).toNatClampNeg = 48 := by decide
theorem tn_60 : (60 : Int32).toNatClampNeg = 60 := by decide
theorem tn_10 : (10 : Int32).toNatClampNeg = 10 := by decide
theorem nl00 : ((0 : Int32) < 0) = False := eq_false (by decide)
theorem nl8 : ((8 : Int32) < 0) = False := eq_false (by decide)
theorem nl5 : ((5 : Int32) < 0) = False := eq_false (by decide)
theorem nl6 : ((6 : Int32) < 0) = False := eq_false (by decide)
theorem nl31 : ((31 : Int32) < 0) = False := eq_false (by decide)
theorem nl48 : ((48 : Int32) < 0) = False := eq_false (by decide)
theorem nl60 : ((60 : Int32) < 0) = False := eq_false (by decide)
theorem nl10 : ((10 : Int32) < 0) = False := eq_false (by decide)
section MK
variable {scr : List Int32} {d t rt st pt qt n np nr nl nb nq lp t0 t1 : Nat} {c r : Nat → Int32} {w : Nat → Int64} {I I' J : Nat → Nat → Int32} {L L' : Nat → Nat → Int64} {R : Nat → Nat → Nat}
theorem x185 (o0 : ok4 hs_S0 R t0) (o1 : ok4 hs_S0 R t1) (hd : t0 + 16 ≤ t1 ∨ t1 + 16 ≤ t0) (h16 : I t1 16 = 0 ∨ I t1 16 = 1) : ∃ I' L', hs_C scr (d + 1) 185 [.ref t0, .ref t1] (hs_S0, I, L, R) = some (none, (hs_S0, I', L', R)) ∧ (∀ k, k < t0 ∨ t0 + 16 ≤ k → I' k = I k) ∧ (∀ k, k ≠ t0 + 2 → L' k = L k) ∧ (∀ b, b < 31 → L' (t0 + 2) b = L (t1 + 2) b) ∧ (∀ o b, (o = 0 ∧ 8 ≤ b ∧ b < 18) ∨ (o = 1 ∧ b = 3) ∨ ((o = 3 ∨ o = 4) ∧ b < 31) ∨ (o = 5 ∧ b = 4) ∨ (6 ≤ o ∧ o ≤ 9 ∧ b < 8) ∨ ((o = 10 ∨ o = 11) ∧ b < 5) ∨ (o = 12 ∧ b < 6) ∨ (o = 13 ∧ b < 48) ∨ ((o = 14 ∨ o = 15) ∧ b < 10) → I' (t0 + o) b = I (t1 + o) b) := by
  have a3 : ok3 hs_S0 R (t0 + 1) := o0.2.2.2.1
  have b3 : ok3 hs_S0 R (t1 + 1) := o1.2.2.2.1
  have a1 : ok1 hs_S0 R (t0 + 5) := o0.2.2.2.2.2.1
  have b1 : ok1 hs_S0 R (t1 + 5) := o1.2.2.2.2.2.1
  refine ⟨_, _, by
    rw [e185, b185_0 (o_t0 := o0) (o_t1 := o1), e186, b186_0 (o_t0 := a3) (o_t1 := b3)]
    simp (disch := omega) only [tn_0, tn_5, tn_6, tn_8, tn_10, tn_31, tn_48, tn_60, nl00, nl8, nl5, nl6, nl31, nl48, nl60, nl10, not_false_eq_true, true_and, and_true, Nat.zero_add, Nat.le_refl, ↓reduceIte, Option.bind_some, Option.toList_none, List.append_nil]
    rw [b185_11 (o_t0 := o0) (o_t1 := o1), e187, b187_0 (o_t0 := a1) (o_t1 := b1)]
    simp (disch := omega) only [tn_0, tn_5, tn_6, tn_8, tn_10, tn_31, tn_48, tn_60, nl00, nl8, nl5, nl6, nl31, nl48, nl60, nl10, not_false_eq_true, true_and, and_true, Nat.zero_add, Nat.le_refl, ↓reduceIte, Option.bind_some, Option.toList_none, List.append_nil]
    rw [b185_22 (o_t0 := o0) (o_t1 := o1)]
    simp (disch := omega) only [tn_0, tn_5, tn_6, tn_8, tn_10, tn_31, tn_48, tn_60, nl00, nl8, nl5, nl6, nl31, nl48, nl60, nl10, not_false_eq_true, true_and, and_true, Nat.zero_add, Nat.le_refl, ↓reduceIte]
    rw [b185_118 (o_t0 := o0) (o_t1 := o1), b185_126 (o_t0 := o0) (o_t1 := o1), b185_134 (o_t0 := o0) (o_t1 := o1), b185_142 (o_t0 := o0) (o_t1 := o1), b185_150 (o_t0 := o0) (o_t1 := o1), b185_158 (o_t0 := o0) (o_t1 := o1), b185_166 (o_t0 := o0) (o_t1 := o1), b185_174 (o_t0 := o0) (o_t1 := o1), if_pos (by simp (disch := omega) only [hu_same, hu_row, hu_at, hcp_row, hcp_in, Nat.add_assoc, Nat.reduceAdd]; exact h16), b185_182 (o_t0 := o0) (o_t1 := o1), b185_190], ?_, ?_, ?_, ?_⟩
  · intro k hk
    simp (disch := omega) only [hu_same, hu_row, hu_at, hcp_row, hcp_in]
  · intro k hk
    simp (disch := omega) only [hu_same, hu_row, hu_at, hcp_row, hcp_in]
  · intro b hb
    rw [show t0 + 2 = t0 + 1 + 1 from rfl, show t1 + 2 = t1 + 1 + 1 from rfl]
    simp (disch := omega) only [hu_same, hu_row, hu_at, hcp_row, hcp_in]
  · intro o b h
    simp only [Nat.add_assoc, Nat.reduceAdd]
    rcases h with ⟨rfl, h1, h2⟩ | ⟨rfl, rfl⟩ | ⟨rfl | rfl, h⟩ | ⟨rfl, rfl⟩ | ⟨h1, h2, h⟩ | ⟨rfl | rfl, h⟩ | ⟨rfl, h⟩ | ⟨rfl, h⟩ | ⟨rfl | rfl, h⟩
    · simp only [Nat.add_zero]
      rcases (show b = 8 ∨ b = 9 ∨ b = 10 ∨ b = 11 ∨ b = 12 ∨ b = 13 ∨ b = 14 ∨ b = 15 ∨ b = 16 ∨ b = 17 by omega) with rfl | rfl | rfl | rfl | rfl | rfl | rfl | rfl | rfl | rfl
      all_goals simp (disch := omega) only [hu_same, hu_row, hu_at, hcp_row, hcp_in]
    · simp (disch := omega) only [hu_same, hu_row, hu_at, hcp_row, hcp_in]
    · simp (disch := omega) only [hu_same, hu_row, hu_at, hcp_row, hcp_in]
    · simp (disch := omega) only [hu_same, hu_row, hu_at, hcp_row, hcp_in]
    · simp (disch := omega) only [hu_same, hu_row, hu_at, hcp_row, hcp_in]
    · rcases (show o = 6 ∨ o = 7 ∨ o = 8 ∨ o = 9 by omega) with rfl | rfl | rfl | rfl
      all_goals simp (disch := omega) only [hu_same, hu_row, hu_at, hcp_row, hcp_in]
    · simp (disch := omega) only [hu_same, hu_row, hu_at, hcp_row, hcp_in]
    · simp (disch := omega) only [hu_same, hu_row, hu_at, hcp_row, hcp_in]
    · simp (disch := omega) only [hu_same, hu_row, hu_at, hcp_row, hcp_in]
    · simp (disch := omega) only [hu_same, hu_row, hu_at, hcp_row, hcp_in]
    · simp (disch := omega) only [hu_same, hu_row, hu_at, hcp_row, hcp_in]
    · simp (disch := omega) only [hu_same, hu_row, hu_at, hcp_row, hcp_in]
theorem x189 (o0 : ok5 hs_S0 R t0) (o1 : ok5 hs_S0 R t1) (hd : t0 + 6 ≤ t1 ∨ t1 + 6 ≤ t0) (h7 : I t1 7 = 0 ∨ I t1 7 = 1) : ∃ I', hs_C scr d 189 [.ref t0, .ref t1] (hs_S0, I, L, R) = some (none, (hs_S0, I', L, R)) ∧ (∀ k, k < t0 ∨ t0 + 6 ≤ k → I' k = I k) ∧ (∀ o b, (o = 0 ∧ 5 ≤ b ∧ b ≤ 7) ∨ (1 ≤ o ∧ o ≤ 5 ∧ b < 60) → I' (t0 + o) b = I (t1 + o) b) := by
  refine ⟨_, by
    rw [e189, b189_0 (o_t0 := o0) (o_t1 := o1), if_pos (by simp (disch := omega) only [hu_same, hu_row, hu_at, hcp_row, hcp_in]; exact h7)]
    simp (disch := omega) only [tn_0, tn_5, tn_6, tn_8, tn_10, tn_31, tn_48, tn_60, nl00, nl8, nl5, nl6, nl31, nl48, nl60, nl10, not_false_eq_true, true_and, and_true, Nat.zero_add, Nat.le_refl, ↓reduceIte]
    rfl, ?_, ?_⟩
  · intro k hk
    simp (disch := omega) only [hu_same, hu_row, hu_at, hcp_row, hcp_in]
  · intro o b h
    rcases h with ⟨rfl, h1, h2⟩ | ⟨h1, h2, h⟩
    · simp only [Nat.add_zero]
      rcases (show b = 5 ∨ b = 6 ∨ b = 7 by omega) with rfl | rfl | rfl
      all_goals simp (disch := omega) only [hu_same, hu_row, hu_at, hcp_row, hcp_in]
    · rcases (show o = 1 ∨ o = 2 ∨ o = 3 ∨ o = 4 ∨ o = 5 by omega) with rfl | rfl | rfl | rfl | rfl
      all_goals simp (disch := omega) only [hu_same, hu_row, hu_at, hcp_row, hcp_in]
theorem f399 {l : Nat} (h : l < 399) : (399 ≤ nI l) = False := eq_false (nI_ge (b := 399) h (by omega))
theorem f31 {l : Nat} (h : l < 31) : (31 ≤ nI l) = False := eq_false (nI_ge (b := 31) h (by omega))
theorem ml399 (k : Nat) : (399 : Int32) * nI k = nI (399 * k) := pk_mul 399 k
theorem ml31 (k : Nat) : (31 : Int32) * nI k = nI (31 * k) := pk_mul 31 k
theorem m259_b {a b : Nat} (o11 : ok11 hs_S0 R 140) (ha : a ≤ 4) (hb : b ≤ 4) (hab : a ≠ b) : ∀ p i, i + p = 31 → hs_R scr d 259 41 [some (.ref 140), some (.int (nI a)), some (.int (nI b)), some (.int (nI i))] [] (hs_S0, J, wr L 148 (31 * b) i (fun k => L 148 (31 * a + k)), R) = some (none, (hs_S0, J, wr L 148 (31 * b) 31 (fun k => L 148 (31 * a + k)), R))
  | 0, i, h => by
    obtain rfl : i = 31 := by omega
    rw [b259_41 o11, if_pos (show (31 : Int32) ≤ nI 31 by decide)]
  | p + 1, i, h => by
    have hw := wr_s L 148 (31 * b) i (fun k => L 148 (31 * a + k))
    have hr : wr L 148 (31 * b) i (fun k => L 148 (31 * a + k)) 148 (31 * a + i) = L 148 (31 * a + i) := wr_out _ _ (by omega) _
    rw [b259_41 o11]
    simp (disch := omega) only [Option.bind_some, Option.toList_some, Option.toList_none, List.append_nil, List.cons_append, List.nil_append, ↓reduceIte, true_or, or_true, Nat.reduceAdd, Nat.add_assoc, f_ge, t_le, t_lt, f_lt, f_l0, t_0l, t_pl, t_eq, f_eq, f_e0, i10, i01, ib_nI, nI_clamp, nI_add, ad10, ad18, ad26, ad34, ad42, ad47, ad52, ad59, ad107, ad117, ml8, mr8, ml5, ml10, f31, ml31, nI_1, hr, hw]
    exact m259_b o11 ha hb hab p (i + 1) (by omega)
theorem m259_a {a b : Nat} (o11 : ok11 hs_S0 R 140) (ha : a ≤ 4) (hb : b ≤ 4) (hab : a ≠ b) : ∀ p i, i + p = 399 → hs_R scr d 259 2 [some (.ref 140), some (.int (nI a)), some (.int (nI b)), some (.int (nI i))] [] (hs_S0, wr J 145 (399 * b) i (fun k => J 145 (399 * a + k)), L, R) = some (none, (hs_S0, wr J 145 (399 * b) 399 (fun k => J 145 (399 * a + k)), wr L 148 (31 * b) 31 (fun k => L 148 (31 * a + k)), R))
  | 0, i, h => by
    obtain rfl : i = 399 := by omega
    rw [b259_2 o11, if_pos (show (399 : Int32) ≤ nI 399 by decide)]
    have := m259_b (scr := scr) (d := d) (J := wr J 145 (399 * b) 399 (fun k => J 145 (399 * a + k))) (L := L) o11 ha hb hab 31 0 rfl
    rw [wr_0, nI_0] at this
    exact this
  | p + 1, i, h => by
    have hw := wr_s J 145 (399 * b) i (fun k => J 145 (399 * a + k))
    have hr : wr J 145 (399 * b) i (fun k => J 145 (399 * a + k)) 145 (399 * a + i) = J 145 (399 * a + i) := wr_out _ _ (by omega) _
    rw [b259_2 o11]
    simp (disch := omega) only [Option.bind_some, Option.toList_some, Option.toList_none, List.append_nil, List.cons_append, List.nil_append, ↓reduceIte, true_or, or_true, Nat.reduceAdd, Nat.add_assoc, f_ge, t_le, t_lt, f_lt, f_l0, t_0l, t_pl, t_eq, f_eq, f_e0, i10, i01, ib_nI, nI_clamp, nI_add, ad10, ad18, ad26, ad34, ad42, ad47, ad52, ad59, ad107, ad117, ml8, mr8, ml5, ml10, f399, ml399, nI_1, hr, hw]
    exact m259_a o11 ha hb hab p (i + 1) (by omega)
theorem m259 {a b : Nat} (o11 : ok11 hs_S0 R 140) (ha : a ≤ 4) (hb : b ≤ 4) (hab : a ≠ b) : hs_C scr d 259 [.ref 140, .int (nI a), .int (nI b)] (hs_S0, J, L, R) = some (none, (hs_S0, wr J 145 (399 * b) 399 (fun k => J 145 (399 * a + k)), wr L 148 (31 * b) 31 (fun k => L 148 (31 * a + k)), R)) := by
  have := m259_a (scr := scr) (d := d) (J := J) (L := L) o11 ha hb hab 399 0 rfl
  rw [wr_0, nI_0] at this
  rw [e259, b259_0]; exact this
theorem Rc_mk {m : Nat} (h : Rc R) (hm : m < 3) : R 13 m = 74 + 22 * m ∧ ok4 hs_S0 R (74 + 22 * m) ∧ R 14 m = 90 + 22 * m ∧ ok5 hs_S0 R (90 + 22 * m) := by
  rcases (show m = 0 ∨ m = 1 ∨ m = 2 by omega) with rfl | rfl | rfl
  · exact ⟨q13_0 h, k4_74 h, q14_0 h, k5_90 h⟩
  · exact ⟨q13_1 h, k4_96 h, q14_1 h, k5_112 h⟩
  · exact ⟨q13_2 h, k4_118 h, q14_2 h, k5_134 h⟩
theorem t2le' (a m : Nat) (h : 2 ≤ a) : (2 ≤ a + m) = True := eq_true (by omega)
end MK
