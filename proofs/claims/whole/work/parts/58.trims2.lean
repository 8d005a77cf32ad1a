/-! shortest, shortestSet, divided, dividedBy -/
section T2
variable {scr : List Int32} {d t rt st pt qt n np nr nl nb nq lp : Nat} {c : Nat → Int32} {a : Nat → Nat} {I I' J : Nat → Nat → Int32} {L L' : Nat → Nat → Int64} {R : Nat → Nat → Nat} {S : List hs_S}
theorem szN_le (m : Nat) : szN m ≤ 10 := cn_le 10
theorem x143_loop {T X N : Nat} (o10 : ok10 hs_S0 R 2) (hN : N ≤ 256) (hT : T ≤ 10000) (hX : X ≤ 999) (hW : ∀ m, m < N → I 17 m = nI (Wt a n m) ∧ Wt a n m ≤ 10000) : ∀ s b, s ≤ N → b < N → T ≤ Wt a n b + X → (∀ m, s ≤ m → m < N → T ≤ Wt a n m + X → szN b < szN m ∨ (szN b = szN m ∧ b ≤ m)) → ∃ b', hs_R scr (d + 1) 143 28 [some (.ref 2), some (.int (nI X)), some (.int (nI N)), some (.int (nI T - nI X)), some (.int (nI b)), some (.int (nI s - 1))] [] (hs_S0, I, L, R) = some (some (.int (nI b')), (hs_S0, I, L, R)) ∧ bst (fun m => T ≤ Wt a n m + X) N b'
  | 0, b, _, hb, hP, hl => by
    refine ⟨b, ?_, hb, hP, fun m hm q => hl m (by omega) hm q⟩
    rw [b143_28 o10, if_pos (by decide)]
  | s + 1, b, hs, hb, hP, hl => by
    obtain ⟨w1, w2⟩ := hW s (by omega)
    have hc : (nI (Wt a n s) < nI T - nI X) = (Wt a n s + X < T) := by
      rw [Int32.lt_iff_toInt_lt, pk_sub_toInt (by omega) (by omega), nI_toInt (by omega)]
      apply propext; omega
    have hz := szN_le s
    have hz2 := szN_le b
    have hm1 : nI s + -1 = nI s - 1 := (Int32.sub_eq_add_neg _ _).symm
    rw [nI_pred, b143_28 o10]
    simp (disch := omega) only [Option.bind_some, Option.toList_some, Option.toList_none, List.append_nil, List.cons_append, List.nil_append, ↓reduceIte, true_or, or_true, Nat.reduceAdd, Nat.add_assoc, f_ge, t_le, t_lt, f_lt, f_l0, t_0l, t_pl, t_eq, f_eq, f_e0, i10, i01, ib_nI, nI_clamp, nI_add, ad10, ad18, ad26, ad34, ad42, ad47, ad52, ad59, ad107, ad117, ml8, mr8, ml5, ml10, hu_same, hu_row, hu_at, hu_hu, w1, hc, x139, p_eq, b143_49, b143_54, b143_61, hm1]
    by_cases q1 : Wt a n s + X < T
    · rw [if_pos q1]
      exact x143_loop o10 hN hT hX hW s b (by omega) hb hP (fun m h1 h2 h3 => by
        by_cases e : m = s
        · subst e; omega
        · exact hl m (by omega) h2 h3)
    · rw [if_neg q1]
      by_cases q2 : szN b < szN s
      · rw [if_pos (show nI (cn (q321 (nI b)) 10) < nI (cn (q321 (nI s)) 10) from nI_lt q2 (by have : cn (q321 (nI s)) 10 ≤ 10 := hz; omega))]
        exact x143_loop o10 hN hT hX hW s b (by omega) hb hP (fun m h1 h2 h3 => by
          by_cases e : m = s
          · subst e; exact Or.inl q2
          · exact hl m (by omega) h2 h3)
      · rw [if_neg (show ¬ nI (cn (q321 (nI b)) 10) < nI (cn (q321 (nI s)) 10) from nI_nlt (by have : ¬ cn (q321 (nI b)) 10 < cn (q321 (nI s)) 10 := q2; omega) (by have : cn (q321 (nI b)) 10 ≤ 10 := hz2; omega))]
        exact x143_loop o10 hN hT hX hW s s (by omega) (by omega) (by omega) (fun m h1 h2 h3 => by
          by_cases e : m = s
          · subst e; omega
          · have := hl m (by omega) h2 h3; omega)
theorem m325_loop {T X : Nat} (o11 : ok11 hs_S0 R 140) (hc0 : I 145 0 = nI n) (hn : n ≤ 8) (ha : ∀ k, k < n → I 145 (10 + k) = nI (a k)) (hal : ∀ k, k < n → a k ≤ 99) (hT : T = smN a n) (hX : X ≤ 999) : ∀ p i b, i + p = 2 ^ n → b < 2 ^ n → T ≤ Wt a n b + X → (∀ m, m < i → T ≤ Wt a n m + X → szN b < szN m ∨ (szN b = szN m ∧ b ≤ m)) → ∃ b', hs_R scr (d + 2) 325 16 [some (.ref 140), some (.int (nI X)), some (.int (nI (2 ^ n - 1))), some (.int (nI b)), some (.int (nI i))] [] (hs_S0, I, L, R) = some (some (.int (nI b')), (hs_S0, I, L, R)) ∧ bst (fun m => T ≤ Wt a n m + X) (2 ^ n) b'
  | 0, i, b, hi, hb, hP, hl => by
    have hp := p2 hn
    refine ⟨b, ?_, hb, hP, fun m hm q => hl m (by omega) q⟩
    rw [b325_16 o11, if_pos (nI_lt (by omega) (by omega))]
  | p + 1, i, b, hi, hb, hP, hl => by
    have hp := p2 hn
    have hco := Wt_co (a := a) (n := n) (m := i) (by omega)
    have hwl := Wt_le (a := a) (n := n) (m := 2 ^ n - 1 - i) hal
    have hz := szN_le i
    have hz2 := szN_le b
    have r1 : ∀ b2, hs_R scr (d + 2) 325 69 [some (.ref 140), some (.int (nI X)), some (.int (nI (2 ^ n - 1))), some (.int (nI b2)), some (.int (nI i))] [] (hs_S0, I, L, R) = hs_R scr (d + 2) 325 16 [some (.ref 140), some (.int (nI X)), some (.int (nI (2 ^ n - 1))), some (.int (nI b2)), some (.int (nI (i + 1)))] [] (hs_S0, I, L, R) := fun b2 => by rw [b325_69, nI_1]
    rw [b325_16 o11, if_neg (nI_nlt (by omega) (by omega)), co_bit n hn i (by omega), m326 o11 hc0 hn ha (by omega)]
    simp only [Option.bind_some, Option.toList_some, Option.toList_none, List.append_nil, List.cons_append, List.nil_append, ↓reduceIte, true_or, or_true, Nat.reduceAdd, Nat.add_assoc, b325_32, b325_66, r1]
    by_cases q1 : X < Wt a n (2 ^ n - 1 - i)
    · rw [if_pos (nI_lt q1 (by omega))]
      exact m325_loop o11 hc0 hn ha hal hT hX p (i + 1) b (by omega) hb hP (fun m h1 h2 => by
        by_cases e : m = i
        · subst e; omega
        · exact hl m (by omega) h2)
    · rw [if_neg (nI_nlt (by omega) (by omega)), m321]
      simp only [Option.bind_some, Option.toList_some, Option.toList_none, List.append_nil, List.cons_append, List.nil_append, ↓reduceIte, true_or, or_true, Nat.reduceAdd, Nat.add_assoc, b325_41, m321, b325_45, b325_66, r1]
      by_cases q2 : szN i < szN b
      · rw [if_pos (show nI (cn (q321 (nI i)) 10) < nI (cn (q321 (nI b)) 10) from nI_lt q2 (by have : cn (q321 (nI b)) 10 ≤ 10 := hz2; omega))]
        exact m325_loop o11 hc0 hn ha hal hT hX p (i + 1) i (by omega) (by omega) (by omega) (fun m h1 h2 => by
          by_cases e : m = i
          · subst e; omega
          · have := hl m (by omega) h2; omega)
      · rw [if_neg (show ¬ nI (cn (q321 (nI i)) 10) < nI (cn (q321 (nI b)) 10) from nI_nlt (by have : ¬ cn (q321 (nI i)) 10 < cn (q321 (nI b)) 10 := q2; omega) (by have : cn (q321 (nI i)) 10 ≤ 10 := hz; omega))]
        simp only [Option.bind_some, Option.toList_some, Option.toList_none, List.append_nil, List.cons_append, List.nil_append, ↓reduceIte, true_or, or_true, Nat.reduceAdd, Nat.add_assoc, b325_53, m321, b325_57, b325_66, r1]
        by_cases q3 : szN i = szN b
        · rw [if_pos (show nI (cn (q321 (nI i)) 10) = nI (cn (q321 (nI b)) 10) from congrArg nI q3)]
          by_cases q4 : b ≤ i
          · rw [if_pos (nI_le q4 (by omega))]
            exact m325_loop o11 hc0 hn ha hal hT hX p (i + 1) b (by omega) hb hP (fun m h1 h2 => by
              by_cases e : m = i
              · subst e; omega
              · exact hl m (by omega) h2)
          · rw [if_neg (nI_ge (by omega) (by omega))]
            exact m325_loop o11 hc0 hn ha hal hT hX p (i + 1) i (by omega) (by omega) (by omega) (fun m h1 h2 => by
              by_cases e : m = i
              · subst e; omega
              · have := hl m (by omega) h2; omega)
        · rw [if_neg (show ¬ nI (cn (q321 (nI i)) 10) = nI (cn (q321 (nI b)) 10) from fun q => q3 ((nI_eq (by have : cn (q321 (nI i)) 10 ≤ 10 := hz; omega) (by have : cn (q321 (nI b)) 10 ≤ 10 := hz2; omega)).mp q))]
          exact m325_loop o11 hc0 hn ha hal hT hX p (i + 1) b (by omega) hb hP (fun m h1 h2 => by
            by_cases e : m = i
            · subst e; omega
            · exact hl m (by omega) h2)
theorem Wt_all {n : Nat} : Wt a n (2 ^ n - 1) = smN a n := by
  have := Wt_co (a := a) (n := n) (m := 0) (Nat.two_pow_pos n)
  have h0 : Wt a n 0 = 0 := by
    unfold Wt
    rw [smN_cg (g := fun _ => 0) (fun k _ => by simp)]
    clear this
    induction n with
    | zero => rfl
    | succ n ih => rw [smN, ih]
  rw [h0, Nat.sub_zero, Nat.zero_add] at this; exact this
/-- both find the same set -/
theorem trims {X : Nat} (hA : RelA rt st pt qt n np nr nl nb nq I L R) (hX : X ≤ 999) : ∃ b I', b < 256 ∧ hs_C scr (d + 2) 143 [.ref 2, .int (nI X)] (hs_S0, I, L, R) = some (some (.int (nI b)), (hs_S0, I', L, R)) ∧ (∀ k, k ≠ 17 → I' k = I k) ∧ ∀ J, J 145 = I 145 → hs_C scr (d + 2) 325 [.ref 140, .int (nI X)] (hs_S0, J, L, R) = some (some (.int (nI b)), (hs_S0, J, L, R)) := by
  have hP : Rel I L R := ⟨rt, st, pt, qt, n, np, nr, nl, nb, nq, hA⟩
  have hE := hA.1
  have o10 := k10_2 hE.1; have o11 := k11_140 hE.1; have o4 := Env_4 hE
  have o1 : ok1 hs_S0 R (rt + 5) := o4.2.2.2.2.2.1
  have r10_8 := hE.2.1; have hrt := hE.2.2.2.2.2.1
  have hH := hA.2.1.1
  obtain ⟨hn8, hc0, hx0, hh⟩ := id hH
  have hp := p2 hn8
  have hpos : 0 < 2 ^ n := Nat.two_pow_pos n
  obtain ⟨a, ha⟩ : ∃ a : Nat → Nat, a = fun k => (I 145 (10 + k)).toNatClampNeg := ⟨_, rfl⟩
  have hf : ∀ k, k < n → I 145 (10 + k) = nI (a k) := fun k hk => by rw [ha]; exact (bd_tn (hh k hk).2.2.2.2.1 (by omega)).1
  have hal : ∀ k, k < n → a k ≤ 99 := fun k hk => by rw [ha]; exact (bd_tn (hh k hk).2.2.2.2.1 (by omega)).2
  have hT := smN_le (m := 99) hal
  obtain ⟨I', e1, f1, f2⟩ := x144 (scr := scr) (d := d + 1) (L := L) (a := a) o10 r10_8 o4 (by omega) hH hf
  have hH' : RH n (I 145) I' rt := RH_cg hH (fun k _ => rfl) (by rw [f1 _ (by omega)]) (f1 _ (by omega)) (f1 _ (by omega)) (f1 _ (by omega)) (f1 _ (by omega))
  have hsum : fo (gLen (I 145)) n 0 = nI (smN a n) := fo_sm (g := fun k => I 145 (10 + k)) hf
  have hw : ∀ m, m < 2 ^ n → I' 17 m = nI (Wt a n m) ∧ Wt a n m ≤ 10000 := fun m hm => ⟨f2 m hm, by have := Wt_le (a := a) (n := n) (m := m) hal; omega⟩
  obtain ⟨b, e2, hb⟩ := x143_loop (scr := scr) (d := d + 1) (I := I') (L := L) (a := a) (n := n) (T := smN a n) (X := X) (N := 2 ^ n) o10 hp (by omega) hX hw (2 ^ n) (2 ^ n - 1) (Nat.le_refl _) (by omega) (by rw [Wt_all]; omega) (fun m h1 h2 => by omega)
  refine ⟨b, I', by have := hb.1; omega, ?_, f1, fun J hJ => ?_⟩
  · have hpr : nI (2 ^ n) - 1 = nI (2 ^ n - 1) := by
      obtain ⟨z, hz⟩ : ∃ z, 2 ^ n = z + 1 := ⟨2 ^ n - 1, by omega⟩
      rw [hz, nI_pred, Nat.add_sub_cancel]
    rw [e143, b143_0 o10, e1]
    simp only [Option.bind_some, Option.toList_some, Option.toList_none, List.append_nil, List.cons_append, List.nil_append, ↓reduceIte, true_or, or_true, Nat.reduceAdd, Nat.add_assoc, b143_4 o10 r10_8 o4, x86 o1 hH', hsum, b143_15]
    rw [hpr] at e2 ⊢
    exact e2
  · have hJ0 : J 145 0 = nI n := by rw [hJ]; exact hc0
    have hJf : ∀ k, k < n → J 145 (10 + k) = nI (a k) := fun k hk => by rw [hJ]; exact hf k hk
    obtain ⟨b', e3, hb'⟩ := m325_loop (scr := scr) (d := d) (I := J) (L := L) (a := a) (n := n) (T := smN a n) (X := X) o11 hJ0 hn8 hJf hal rfl hX (2 ^ n) 0 (2 ^ n - 1) (by omega) (by omega) (by rw [Wt_all]; omega) (fun m h1 => by omega)
    have hpr : nI (2 ^ n) - 1 = nI (2 ^ n - 1) := by
      obtain ⟨z, hz⟩ : ∃ z, 2 ^ n = z + 1 := ⟨2 ^ n - 1, by omega⟩
      rw [hz, nI_pred, Nat.add_sub_cancel]
    rw [bst_u hb hb', e325, b325_0 o11, show (140 + 5 : Nat) = 145 from rfl, hJ0, sh1 n (by omega), hpr]
    rw [nI_0] at e3
    exact e3
/-- a call of the class that used the row of sets, and one of the reference that only reads -/
theorem CK_17 (hA : RelA rt st pt qt n np nr nl nb nq I L R) {jx jm : Nat} {as : List Value} (v s : Int32) (hI : ∀ k, k ≠ 17 → I' k = I k) (hX : hs_C scr d jx (.ref 2 :: as) (hs_S0, I, L, R) = some (some (.int v), (hs_S0, hs_u I' 2 16 s, L, R))) (hM : hs_C scr d jm (.ref 140 :: as) (hs_S0, hs_u I' 2 16 s, L, R) = some (some (.int v), (hs_S0, hs_u (hs_u (hs_u I' 2 16 s) 140 1 0) 140 0 s, L, R))) : ∃ (x : Int32) (I1 : Nat → Nat → Int32) (L1 : Nat → Nat → Int64) (R1 : Nat → Nat → Nat) (I2 : Nat → Nat → Int32) (L2 : Nat → Nat → Int64) (R2 : Nat → Nat → Nat), hs_C scr d jx (.ref 2 :: as) (hs_S0, I, L, R) = some (some (.int x), (hs_S0, I1, L1, R1)) ∧ ok11 hs_S0 R1 140 ∧ hs_C scr d jm (.ref 140 :: as) (hs_S0, I1, L1, R1) = some (some (.int x), (hs_S0, I2, L2, R2)) ∧ Rel I2 L2 R2 :=
  ⟨v, _, L, R, _, L, R, hX, k11_140 hA.1.1, hM, Rel_sc hA (fun k h1 h2 h3 h4 h5 h6 h7 h8 => by rw [hu_row _ _ h2, hu_row _ _ h2, hu_row _ _ h1, hI k h6]) (fun k h1 => rfl) (fun f hf => by simp (disch := omega) only [hu_at, hu_row, hI]) (fun f h1 h2 h3 => by simp (disch := omega) only [hu_at, hu_row, hI]) (by simp (disch := omega) only [hu_at, hu_same])⟩
theorem ca44 : CA44 scr hs_S0 Rel 99 := by
  intro x I L R hP
  obtain ⟨rt, st, pt, qt, n, np, nr, nl, nb, nq, hA⟩ := hP; obtain ⟨hE, ⟨⟨hn8, hc0, hx0, hh⟩, ⟨hp5, hc1, hx1, hpp⟩, ⟨hr6, hc2, hx2, hrr, hru⟩, ⟨hl6, hc3, hx3, hll⟩, ⟨hb6, hq10, hc4, hx4, hc5, hx5, hqq⟩, hD, hN, hG⟩, hT, hTx, hM, hK⟩ := id hA; have o10 := k10_2 hE.1; have o11 := k11_140 hE.1; have o4 := Env_4 hE; have o1 : ok1 hs_S0 R (rt + 5) := o4.2.2.2.2.2.1; have r10_8 := hE.2.1; have hrt := hE.2.2.2.2.2.1; have hpt := hE.2.2.2.2.2.2
  rcases rg x 0 999 with hx | ⟨h1, h2, h3⟩
  · refine CK_st hA (-1) 5 ?_ ?_
    · simp (disch := omega) only [Option.bind_some, Option.toList_some, Option.toList_none, List.append_nil, List.cons_append, List.nil_append, ↓reduceIte, true_or, or_true, Nat.reduceAdd, Nat.add_assoc, f_ge, t_le, t_lt, f_lt, f_l0, t_0l, t_pl, t_eq, f_eq, f_e0, i10, i01, ib_nI, nI_clamp, nI_add, ad10, ad18, ad26, ad34, ad42, ad47, ad52, ad59, ad107, ad117, ml8, mr8, ml5, ml10, hu_same, hu_row, hu_at, hu_hu, e142, b142_0 o10, b142_11 o10, b142_16, b142_23, b142_26 o10, b142_29, e28, b28_0 o10, out_g hx]
    · simp (disch := first | omega | (simp (disch := omega) only [hu_same, hu_row, hu_at, hu_hu, hc0, hc1, hc2, hc3, hc4, hc5]; done)) only [Option.bind_some, Option.toList_some, Option.toList_none, List.append_nil, List.cons_append, List.nil_append, ↓reduceIte, true_or, or_true, Nat.reduceAdd, Nat.add_assoc, f_ge, t_le, t_lt, f_lt, f_l0, t_0l, t_pl, t_eq, f_eq, f_e0, i10, i01, ib_nI, nI_clamp, nI_add, ad10, ad18, ad26, ad34, ad42, ad47, ad52, ad59, ad107, ad117, ml8, mr8, ml5, ml10, hu_same, hu_row, hu_at, hu_hu, e324, b324_0 o11, b324_19 o11, b324_27, b324_30, b324_38, e265, b265_0 o11, s223 0 999 0 999 rfl rfl, out_g hx]
  · obtain ⟨X, hX, rfl⟩ := rg_nat 999 rfl (by decide) h1 h2
    obtain ⟨b, I', hb, e1, f1, e2⟩ := trims (scr := scr) (d := 96) hA hX
    refine CK_17 hA (nI (cn (q321 (nI b)) 10)) 0 f1 ?_ ?_
    · simp (disch := omega) only [Option.bind_some, Option.toList_some, Option.toList_none, List.append_nil, List.cons_append, List.nil_append, ↓reduceIte, true_or, or_true, Nat.reduceAdd, Nat.add_assoc, f_ge, t_le, t_lt, f_lt, f_l0, t_0l, t_pl, t_eq, f_eq, f_e0, i10, i01, ib_nI, nI_clamp, nI_add, ad10, ad18, ad26, ad34, ad42, ad47, ad52, ad59, ad107, ad117, ml8, mr8, ml5, ml10, hu_same, hu_row, hu_at, hu_hu, e142, b142_0 o10, b142_11 o10, b142_16, b142_23, b142_26 o10, b142_29, e68, b68_0 o10, h1, h2, e1, x139, p_eq]
    · have hJ : hs_u (hs_u (hs_u I' 2 16 0) 140 1 0) 140 0 0 145 = I 145 := by simp (disch := omega) only [hu_same, hu_row, hu_at, hu_hu, f1]
      simp (disch := first | omega | (simp (disch := omega) only [hu_same, hu_row, hu_at, hu_hu, hc0, hc1, hc2, hc3, hc4, hc5]; done)) only [Option.bind_some, Option.toList_some, Option.toList_none, List.append_nil, List.cons_append, List.nil_append, ↓reduceIte, true_or, or_true, Nat.reduceAdd, Nat.add_assoc, f_ge, t_le, t_lt, f_lt, f_l0, t_0l, t_pl, t_eq, f_eq, f_e0, i10, i01, ib_nI, nI_clamp, nI_add, ad10, ad18, ad26, ad34, ad42, ad47, ad52, ad59, ad107, ad117, ml8, mr8, ml5, ml10, hu_same, hu_row, hu_at, hu_hu, e324, b324_0 o11, b324_19 o11, b324_27, b324_30, b324_38, e265, b265_0 o11, s223 0 999 0 999 rfl rfl, h1, h2, e2 _ hJ, m321]
theorem ca45 : CA45 scr hs_S0 Rel 99 := by
  intro x I L R hP
  obtain ⟨rt, st, pt, qt, n, np, nr, nl, nb, nq, hA⟩ := hP; obtain ⟨hE, ⟨⟨hn8, hc0, hx0, hh⟩, ⟨hp5, hc1, hx1, hpp⟩, ⟨hr6, hc2, hx2, hrr, hru⟩, ⟨hl6, hc3, hx3, hll⟩, ⟨hb6, hq10, hc4, hx4, hc5, hx5, hqq⟩, hD, hN, hG⟩, hT, hTx, hM, hK⟩ := id hA; have o10 := k10_2 hE.1; have o11 := k11_140 hE.1; have o4 := Env_4 hE; have o1 : ok1 hs_S0 R (rt + 5) := o4.2.2.2.2.2.1; have r10_8 := hE.2.1; have hrt := hE.2.2.2.2.2.1; have hpt := hE.2.2.2.2.2.2
  rcases rg x 0 999 with hx | ⟨h1, h2, h3⟩
  · refine CK_st hA (-1) 5 ?_ ?_
    · simp (disch := omega) only [Option.bind_some, Option.toList_some, Option.toList_none, List.append_nil, List.cons_append, List.nil_append, ↓reduceIte, true_or, or_true, Nat.reduceAdd, Nat.add_assoc, f_ge, t_le, t_lt, f_lt, f_l0, t_0l, t_pl, t_eq, f_eq, f_e0, i10, i01, ib_nI, nI_clamp, nI_add, ad10, ad18, ad26, ad34, ad42, ad47, ad52, ad59, ad107, ad117, ml8, mr8, ml5, ml10, hu_same, hu_row, hu_at, hu_hu, e145, b145_0 o10, b145_11 o10, b145_16, b145_25 o10, b145_28, e28, b28_0 o10, out_g hx]
    · simp (disch := first | omega | (simp (disch := omega) only [hu_same, hu_row, hu_at, hu_hu, hc0, hc1, hc2, hc3, hc4, hc5]; done)) only [Option.bind_some, Option.toList_some, Option.toList_none, List.append_nil, List.cons_append, List.nil_append, ↓reduceIte, true_or, or_true, Nat.reduceAdd, Nat.add_assoc, f_ge, t_le, t_lt, f_lt, f_l0, t_0l, t_pl, t_eq, f_eq, f_e0, i10, i01, ib_nI, nI_clamp, nI_add, ad10, ad18, ad26, ad34, ad42, ad47, ad52, ad59, ad107, ad117, ml8, mr8, ml5, ml10, hu_same, hu_row, hu_at, hu_hu, e327, b327_0 o11, b327_19 o11, b327_27, b327_35, e265, b265_0 o11, s223 0 999 0 999 rfl rfl, out_g hx]
  · obtain ⟨X, hX, rfl⟩ := rg_nat 999 rfl (by decide) h1 h2
    obtain ⟨b, I', hb, e1, f1, e2⟩ := trims (scr := scr) (d := 96) hA hX
    refine CK_17 hA (nI b) 0 f1 ?_ ?_
    · simp (disch := omega) only [Option.bind_some, Option.toList_some, Option.toList_none, List.append_nil, List.cons_append, List.nil_append, ↓reduceIte, true_or, or_true, Nat.reduceAdd, Nat.add_assoc, f_ge, t_le, t_lt, f_lt, f_l0, t_0l, t_pl, t_eq, f_eq, f_e0, i10, i01, ib_nI, nI_clamp, nI_add, ad10, ad18, ad26, ad34, ad42, ad47, ad52, ad59, ad107, ad117, ml8, mr8, ml5, ml10, hu_same, hu_row, hu_at, hu_hu, e145, b145_0 o10, b145_11 o10, b145_16, b145_25 o10, b145_28, e68, b68_0 o10, h1, h2, e1]
    · have hJ : hs_u (hs_u (hs_u I' 2 16 0) 140 1 0) 140 0 0 145 = I 145 := by simp (disch := omega) only [hu_same, hu_row, hu_at, hu_hu, f1]
      simp (disch := first | omega | (simp (disch := omega) only [hu_same, hu_row, hu_at, hu_hu, hc0, hc1, hc2, hc3, hc4, hc5]; done)) only [Option.bind_some, Option.toList_some, Option.toList_none, List.append_nil, List.cons_append, List.nil_append, ↓reduceIte, true_or, or_true, Nat.reduceAdd, Nat.add_assoc, f_ge, t_le, t_lt, f_lt, f_l0, t_0l, t_pl, t_eq, f_eq, f_e0, i10, i01, ib_nI, nI_clamp, nI_add, ad10, ad18, ad26, ad34, ad42, ad47, ad52, ad59, ad107, ad117, ml8, mr8, ml5, ml10, hu_same, hu_row, hu_at, hu_hu, e327, b327_0 o11, b327_19 o11, b327_27, b327_35, e265, b265_0 o11, s223 0 999 0 999 rfl rfl, h1, h2, e2 _ hJ]
end T2
