/-! legible -/
def bn : Nat → Nat → Nat
  | 0, 0 => 1
  | 0, _ + 1 => 0
  | _ + 1, 0 => 1
  | m + 1, i + 1 => bn m (i + 1) + bn m i
def Pc (p q : Nat) : Nat → Nat → Nat
  | 0, 0 => 1
  | 0, _ + 1 => 0
  | m + 1, 0 => Pc p q m 0 * q
  | m + 1, i + 1 => Pc p q m (i + 1) * q + Pc p q m i * p
theorem bn_d : ∀ m, m < 9 → ∀ r, r < 9 → bn m r * (m - r) / (r + 1) = bn m (r + 1) := by decide
theorem bn_b : ∀ m, m < 9 → ∀ r, r < 10 → bn m r ≤ 70 := by decide
theorem bn_0 : ∀ m, bn m 0 = 1
  | 0 => rfl
  | _ + 1 => rfl
theorem Pc_hi {p q : Nat} : ∀ m i, m < i → Pc p q m i = 0
  | 0, 0, h => by omega
  | 0, _ + 1, _ => rfl
  | m + 1, 0, h => by omega
  | m + 1, i + 1, h => by rw [Pc, Pc_hi m (i + 1) (by omega), Pc_hi m i (by omega)]; simp
theorem bn_hi : ∀ m i, m < i → bn m i = 0
  | 0, 0, h => by omega
  | 0, _ + 1, _ => rfl
  | m + 1, 0, h => by omega
  | m + 1, i + 1, h => by rw [bn, bn_hi m (i + 1) (by omega), bn_hi m i (by omega)]
theorem Pc_bn {p q : Nat} : ∀ m i, i ≤ m → Pc p q m i = bn m i * p ^ i * q ^ (m - i)
  | 0, 0, _ => by simp [Pc, bn]
  | 0, i + 1, h => by omega
  | m + 1, 0, _ => by
    rw [Pc, Pc_bn m 0 (by omega), bn_0, bn_0, Nat.sub_zero, Nat.sub_zero, Nat.pow_succ, Nat.pow_zero]; simp
  | m + 1, i + 1, h => by
    rw [Pc, bn, Pc_bn m i (by omega), show m + 1 - (i + 1) = m - i by omega]
    by_cases q1 : i + 1 ≤ m
    · rw [Pc_bn m (i + 1) q1]
      have e : q ^ (m - i) = q ^ (m - (i + 1)) * q := by rw [← Nat.pow_succ]; congr 1; omega
      rw [e, Nat.pow_succ]; grind
    · rw [Pc_hi m (i + 1) (by omega), bn_hi m (i + 1) (by omega), Nat.pow_succ]; grind
theorem Pc_le {p q : Nat} (h : p + q ≤ 16) : ∀ m i, Pc p q m i ≤ 16 ^ m
  | 0, 0 => Nat.le_refl _
  | 0, _ + 1 => by simp [Pc]
  | m + 1, 0 => by
    rw [Pc, Nat.pow_succ]; exact Nat.mul_le_mul (Pc_le h m 0) (by omega)
  | m + 1, i + 1 => by
    have a := Nat.mul_le_mul_right q (Pc_le h m (i + 1))
    have b := Nat.mul_le_mul_right p (Pc_le h m i)
    have c : 16 ^ m * q + 16 ^ m * p ≤ 16 ^ m * 16 := by rw [← Nat.mul_add]; exact Nat.mul_le_mul_left _ (by omega)
    rw [Pc, Nat.pow_succ]; omega
theorem f8g {l : Nat} (h : l ≤ 8) : ((8 : Int32) < nI l) = False := eq_false (nI_nlt (a := 8) h (by omega))
section LG
variable {scr : List Int32} {d t rt st pt qt n np nr nl nb nq lp k l m p q : Nat} {c : Nat → Int32} {I I' J : Nat → Nat → Int32} {L L' : Nat → Nat → Int64} {R : Nat → Nat → Nat} {S : List hs_S}
def q3 (c : Nat → Int32) (l k : Nat) : Bool := decide (¬ c (59 + 8 * l + k) = 3)
theorem x166 (o4 : ok4 hs_S0 R t) (h : RH n c I t) (h2 : RLk n nl c I t) (hl : l < 6) : hs_C scr (d + 1) 166 [.ref t, .int (nI l)] (hs_S0, I, L, R) = some (some (.int (nI (cn (q3 c l) n))), (hs_S0, I, L, R)) := by
  obtain ⟨hn, -, hx0, -⟩ := id h
  have hlp := fo_upT (n := n) (g := fun k s => s + (if q3 c l k = true then (1 : Int32) else 0)) (head := fun i s => hs_R scr (d + 1) 166 4 [some (.ref t), some (.int (nI l)), some (.int s), some (.int (nI i))] [] (hs_S0, I, L, R)) (fun i s hi => by
    show hs_R scr (d + 1) 166 4 _ _ _ = hs_R scr (d + 1) 166 4 _ _ _
    rw [b166_4 o4]
    simp (disch := omega) only [Option.bind_some, Option.toList_some, Option.toList_none, List.append_nil, List.cons_append, List.nil_append, ↓reduceIte, true_or, or_true, Nat.reduceAdd, Nat.add_assoc, f_ge, t_le, t_lt, f_lt, f_l0, t_0l, t_pl, t_eq, f_eq, f_e0, i10, i01, ib_nI, nI_clamp, nI_add, ad10, ad18, ad26, ad34, ad42, ad47, ad52, ad59, ad107, ad117, ml8, mr8, ml5, ml10, hu_same, hu_row, hu_at, hu_hu, hx0, nI_1, x96 o4 h2 hl hi hn, b166_21, b166_28]
    by_cases g : c (59 + (8 * l + i)) = 3
    · rw [if_pos g, if_neg (by simp [q3, Nat.add_assoc, g]), Int32.add_zero]
    · rw [if_neg g, if_pos (by simp [q3, Nat.add_assoc, g])]) 0
  rw [nI_0, fo_cn] at hlp
  rw [e166, b166_0]
  refine hlp.trans ?_
  show hs_R scr (d + 1) 166 4 _ _ _ = _
  rw [b166_4 o4]
  simp (disch := omega) only [Option.bind_some, Option.toList_some, Option.toList_none, List.append_nil, List.cons_append, List.nil_append, ↓reduceIte, true_or, or_true, Nat.reduceAdd, Nat.add_assoc, f_ge, t_le, t_lt, f_lt, f_l0, t_0l, t_pl, t_eq, f_eq, f_e0, i10, i01, ib_nI, nI_clamp, nI_add, ad10, ad18, ad26, ad34, ad42, ad47, ad52, ad59, ad107, ad117, ml8, mr8, ml5, ml10, hu_same, hu_row, hu_at, hu_hu, hx0]
theorem x167 {b e : Nat} (hb : b < 2 ^ 31) (he : e < 2 ^ 31) : hs_C scr d 167 [.int (nI b), .int (nI e)] (S, I, L, R) = some (some (.long (lN (b ^ e))), (S, I, L, R)) := by
  have main : ∀ i, i ≤ e → hs_R scr d 167 5 [some (.int (nI b)), some (.int (nI e)), some (.long (lN 1)), none, some (.int (nI 0))] [] (S, I, L, R) = hs_R scr d 167 5 [some (.int (nI b)), some (.int (nI e)), some (.long (lN (b ^ i))), none, some (.int (nI i))] [] (S, I, L, R) := by
    intro i
    induction i with
    | zero => intro _; rfl
    | succ i ih =>
      intro h
      rw [ih (by omega), b167_5, if_neg (nI_ge (by omega) (by omega)), nI_l hb, lN_mul, nI_1, Nat.pow_succ]
  rw [e167, b167_0]
  refine (main e (Nat.le_refl _)).trans ?_
  rw [b167_5, if_pos (nI_le (Nat.le_refl _) (by omega))]
theorem x165 (o10 : ok10 hs_S0 R 2) (r10_8 : R 2 8 = rt) (o4 : ok4 hs_S0 R rt) (h13 : I rt 13 = nI p) (hp : p ≤ 16) (hm : m ≤ 8) (hk : k ≤ 8) {x1 : Int32} : hs_R scr (d + 1) 165 48 [some (.ref 2), some (.int x1), some (.int (nI k)), some (.int (nI m)), some (.long 1), none, some (.long 0), none, some (.int 0)] [] (hs_S0, I, L, R) = hs_R scr (d + 1) 165 120 [some (.ref 2), some (.int x1), some (.int (nI k)), some (.int (nI m)), some (.long (lN (bn m (min k m + 1)))), none, some (.long (lN (smN (fun r => Pc p (16 - p) m r) (min k m + 1)))), none, some (.int (nI (min k m + 1)))] [] (hs_S0, I, L, R) := by
  have h16 : (16 : Int32) - nI p = nI (16 - p) := pk_sub (a := 16) hp
  have main : ∀ i, i ≤ min k m + 1 → hs_R scr (d + 1) 165 48 [some (.ref 2), some (.int x1), some (.int (nI k)), some (.int (nI m)), some (.long 1), none, some (.long 0), none, some (.int 0)] [] (hs_S0, I, L, R) = hs_R scr (d + 1) 165 48 [some (.ref 2), some (.int x1), some (.int (nI k)), some (.int (nI m)), some (.long (lN (bn m i))), none, some (.long (lN (smN (fun r => Pc p (16 - p) m r) i))), none, some (.int (nI i))] [] (hs_S0, I, L, R) := by
    intro i
    induction i with
    | zero => intro _; rw [bn_0]; rfl
    | succ i ih =>
      intro h
      have hb := bn_b m (by omega) i (by omega)
      have hb2 : bn m i * (m - i) ≤ 70 * 8 := Nat.mul_le_mul hb (by omega)
      rw [ih (by omega), b165_48 o10 r10_8 o4, if_neg (nI_nlt (by omega) (by omega)), if_neg (nI_nlt (by omega) (by omega)), h13, x167 (by omega) (by omega)]
      simp only [Option.bind_some, Option.toList_some, Option.toList_none, List.append_nil, List.cons_append, List.nil_append, ↓reduceIte, true_or, or_true, Nat.reduceAdd, Nat.add_assoc, b165_76 o10 r10_8 o4, h13, h16]
      rw [pk_sub (by omega), x167 (by omega) (by omega)]
      simp only [Option.bind_some, Option.toList_some, Option.toList_none, List.append_nil, List.cons_append, List.nil_append, ↓reduceIte, true_or, or_true, Nat.reduceAdd, Nat.add_assoc, b165_94]
      rw [nI_1, nI_l (n := i + 1) (by omega), pk_sub (a := m) (b := i) (by omega), nI_l (n := m - i) (by omega), if_neg (lN_ne (by omega) (by omega)), lN_mul, lN_mul, lN_mul, lN_add, pk_lDiv (by omega) (by omega) (by omega), bn_d m (by omega) i (by omega), smN, Pc_bn m i (by omega)]
  refine (main (min k m + 1) (Nat.le_refl _)).trans ?_
  rw [b165_48 o10 r10_8 o4]
  by_cases g : k < min k m + 1
  · rw [if_pos (nI_lt g (by omega))]
  · rw [if_neg (nI_nlt (by omega) (by omega)), if_pos (nI_lt (by omega) (by omega))]
/-- the chances, as far as m hairs -/
def chs (p q m : Nat) (L0 L : Nat → Nat → Int64) : Prop := (∀ k, k ≠ 150 → L k = L0 k) ∧ ∀ i, i ≤ 8 → L 150 i = lN (Pc p q m i)
theorem m343_a (o11 : ok11 hs_S0 R 140) {x1 x2 : Int32} : ∃ L', hs_R scr d 343 47 [some (.ref 140), some (.int x1), some (.int x2), some (.long 1), none, some (.int 0), none, none] [] (hs_S0, I, L, R) = hs_R scr d 343 80 [some (.ref 140), some (.int x1), some (.int x2), some (.long 1), none, some (.int 0), none, none] [] (hs_S0, I, L', R) ∧ chs p q 0 L L' := by
  have main : ∀ j i, i + j = 9 → hs_R scr d 343 47 [some (.ref 140), some (.int x1), some (.int x2), some (.long 1), none, some (.int (nI i)), none, none] [] (hs_S0, I, wr L 150 0 i (fun i => lN (Pc p q 0 i)), R) = hs_R scr d 343 80 [some (.ref 140), some (.int x1), some (.int x2), some (.long 1), none, some (.int 0), none, none] [] (hs_S0, I, wr L 150 0 9 (fun i => lN (Pc p q 0 i)), R) := by
    intro j
    induction j with
    | zero =>
      intro i h
      obtain rfl : i = 9 := by omega
      rw [b343_47 o11, if_pos (by decide)]
    | succ j ih =>
      intro i h
      have hw := wr_s L 150 0 i (fun i => lN (Pc p q 0 i))
      rw [Nat.zero_add] at hw
      rw [← ih (i + 1) (by omega), b343_47 o11, if_neg (show ¬ (8 : Int32) < nI i from nI_nlt (a := 8) (by omega) (by omega))]
      cases i with
      | zero =>
        rw [if_pos (show nI 0 = 0 from rfl), b343_70 (S := hs_S0) (u0 := 150) (n_u0 := 9) rfl]
        simp (disch := omega) only [Option.bind_some, Option.toList_some, Option.toList_none, List.append_nil, List.cons_append, List.nil_append, ↓reduceIte, true_or, or_true, Nat.reduceAdd, Nat.add_assoc, f_ge, t_le, t_lt, f_lt, f_l0, t_0l, t_pl, t_eq, f_eq, f_e0, i10, i01, ib_nI, nI_clamp, nI_add, ad10, ad18, ad26, ad34, ad42, ad47, ad52, ad59, ad107, ad117, ml8, mr8, ml5, ml10, nI_1]
        rw [← hw]; rfl
      | succ i =>
        rw [if_neg (nI_ne0 (by omega) (by omega)), b343_70 (S := hs_S0) (u0 := 150) (n_u0 := 9) rfl]
        simp (disch := omega) only [Option.bind_some, Option.toList_some, Option.toList_none, List.append_nil, List.cons_append, List.nil_append, ↓reduceIte, true_or, or_true, Nat.reduceAdd, Nat.add_assoc, f_ge, t_le, t_lt, f_lt, f_l0, t_0l, t_pl, t_eq, f_eq, f_e0, i10, i01, ib_nI, nI_clamp, nI_add, ad10, ad18, ad26, ad34, ad42, ad47, ad52, ad59, ad107, ad117, ml8, mr8, ml5, ml10, nI_1]
        rw [← hw]; rfl
  have := main 9 0 rfl
  rw [wr_0, nI_0] at this
  exact ⟨_, this, fun k hk => wr_row _ _ hk, fun i hi => by rw [wr_in _ _ (by omega), Nat.sub_zero]⟩
theorem m343_b (o11 : ok11 hs_S0 R 140) (h6 : I 145 6 = nI p) (hp : p ≤ 16) {x1 x2 x5 : Int32} {y3 : Int64} {L0 : Nat → Nat → Int64} : ∀ j L, j ≤ 8 → (∀ k, k ≠ 150 → L k = L0 k) → (∀ i, i ≤ 8 → L 150 i = if j < i then lN (Pc p (16 - p) (m + 1) i) else lN (Pc p (16 - p) m i)) → ∃ L', hs_R scr d 343 109 [some (.ref 140), some (.int x1), some (.int x2), some (.long y3), none, some (.int x5), some (.int (nI j)), none] [] (hs_S0, I, L, R) = hs_R scr d 343 191 [some (.ref 140), some (.int x1), some (.int x2), some (.long (y3 * 16)), none, some (.int x5), some (.int (nI 0)), none] [] (hs_S0, I, L', R) ∧ chs p (16 - p) (m + 1) L0 L'
  | 0, L, hj, h1, h2 => by
    have h16 : (16 : Int32) - nI p = nI (16 - p) := pk_sub (a := 16) hp
    refine ⟨hs_u L 150 0 (lN (Pc p (16 - p) (m + 1) 0)), ?_, fun k hk => by rw [hu_row _ _ hk, h1 k hk], fun i hi => ?_⟩
    · rw [b343_109 o11, if_pos (show nI 0 ≤ 0 by decide)]
      simp only [Nat.reduceAdd]
      rw [h2 0 (by omega), if_neg (by omega), h6, h16, nI_l (by omega), lN_mul]; rfl
    · by_cases e : i = 0
      · subst e; rw [hu_same]
      · rw [hu_ne _ _ e, h2 i hi, if_pos (by omega)]
  | j + 1, L, hj, h1, h2 => by
    have h16 : (16 : Int32) - nI p = nI (16 - p) := pk_sub (a := 16) hp
    have hm1 : nI (j + 1) + -1 = nI j := pk_m1 j
    obtain ⟨L', e, h3⟩ := m343_b o11 h6 hp (x1 := x1) (x2 := x2) (x5 := x5) (y3 := y3) j (hs_u L 150 (j + 1) (lN (Pc p (16 - p) (m + 1) (j + 1)))) (by omega) (fun k hk => by rw [hu_row _ _ hk, h1 k hk]) (fun i hi => by
      by_cases e : i = j + 1
      · subst e; rw [hu_same, if_pos (by omega)]
      · rw [hu_ne _ _ e, h2 i hi]
        by_cases g : j + 1 < i
        · rw [if_pos g, if_pos (by omega)]
        · rw [if_neg g, if_neg (by omega)])
    refine ⟨L', ?_, h3⟩
    rw [b343_109 o11, if_neg (nI_nle (by omega) (by omega))]
    simp (disch := omega) only [↓reduceIte, Nat.reduceAdd, f_ge, t_le, t_lt, f_lt, f_l0, t_0l, t_pl, t_eq, f_eq, f_e0, i10, i01, ib_nI, nI_clamp, nI_add, ad10, ad18, ad26, ad34, ad42, ad47, ad52, ad59, ad107, ad117, ml8, mr8, ml5, ml10, nI_pred, hm1]
    rw [h2 (j + 1) (by omega), h2 j (by omega), if_neg (by omega), if_neg (by omega), h6, h16, nI_l (by omega), nI_l (by omega), lN_mul, lN_mul, lN_add]
    exact e
theorem m343_c (o11 : ok11 hs_S0 R 140) (hc0 : I 145 0 = nI n) (hn : n ≤ 8) (h6 : I 145 6 = nI p) (hp : p ≤ 16) (hl : l < 6) {x2 : Int32} {L0 : Nat → Nat → Int64} : ∀ j e w L, e + j = n → chs p (16 - p) (cn (q3 (I 145) l) e) L0 L → ∃ L', hs_R scr (d + 1) 343 80 [some (.ref 140), some (.int (nI l)), some (.int x2), some (.long (lN (16 ^ cn (q3 (I 145) l) e))), none, some (.int (nI e)), w, none] [] (hs_S0, I, L, R) = hs_R scr (d + 1) 343 203 [some (.ref 140), some (.int (nI l)), some (.int x2), some (.long (lN (16 ^ cn (q3 (I 145) l) n))), none, some (.long 0), none, some (.int 0)] [] (hs_S0, I, L', R) ∧ chs p (16 - p) (cn (q3 (I 145) l) n) L0 L'
  | 0, e, w, L, h, hc => by
    obtain rfl : e = n := by omega
    refine ⟨L, ?_, hc⟩
    rw [b343_80 o11]
    simp (disch := omega) only [Option.bind_some, Option.toList_some, Option.toList_none, List.append_nil, List.cons_append, List.nil_append, ↓reduceIte, true_or, or_true, Nat.reduceAdd, Nat.add_assoc, f_ge, t_le, t_lt, f_lt, f_l0, t_0l, t_pl, t_eq, f_eq, f_e0, i10, i01, ib_nI, nI_clamp, nI_add, ad10, ad18, ad26, ad34, ad42, ad47, ad52, ad59, ad107, ad117, ml8, mr8, ml5, ml10, hu_same, hu_row, hu_at, hu_hu, hc0]
  | j + 1, e, w, L, h, hc => by
    have e0 : hs_R scr (d + 1) 343 80 [some (.ref 140), some (.int (nI l)), some (.int x2), some (.long (lN (16 ^ cn (q3 (I 145) l) e))), none, some (.int (nI e)), w, none] [] (hs_S0, I, L, R) = hs_R scr (d + 1) 343 98 [some (.ref 140), some (.int (nI l)), some (.int x2), some (.long (lN (16 ^ cn (q3 (I 145) l) e))), none, some (.int (nI e)), w, none] [.int (I 145 (59 + (8 * l + e)))] (hs_S0, I, L, R) := by
      rw [b343_80 o11]
      simp (disch := omega) only [Option.bind_some, Option.toList_some, Option.toList_none, List.append_nil, List.cons_append, List.nil_append, ↓reduceIte, true_or, or_true, Nat.reduceAdd, Nat.add_assoc, f_ge, t_le, t_lt, f_lt, f_l0, t_0l, t_pl, t_eq, f_eq, f_e0, i10, i01, ib_nI, nI_clamp, nI_add, ad10, ad18, ad26, ad34, ad42, ad47, ad52, ad59, ad107, ad117, ml8, mr8, ml5, ml10, hu_same, hu_row, hu_at, hu_hu, hc0, m279 o11 hl (show e < 8 by omega)]
    rw [e0, b343_98]
    by_cases g : I 145 (59 + (8 * l + e)) = 3
    · have e1 : cn (q3 (I 145) l) (e + 1) = cn (q3 (I 145) l) e := by
        rw [cn, if_neg (by simp [q3, Nat.add_assoc, g]), Nat.add_zero]
      obtain ⟨L', e2, h2⟩ := m343_c o11 hc0 hn h6 hp hl (x2 := x2) j (e + 1) w L (by omega) (by rw [e1]; exact hc)
      rw [e1] at e2
      exact ⟨L', by rw [if_pos g, b343_191, nI_1]; exact e2, h2⟩
    · have e1 : cn (q3 (I 145) l) (e + 1) = cn (q3 (I 145) l) e + 1 := by
        rw [cn, if_pos (by simp [q3, Nat.add_assoc, g])]
      obtain ⟨L1, e2, h2⟩ := m343_b (scr := scr) (d := d + 1) (I := I) (R := R) (m := cn (q3 (I 145) l) e) o11 h6 hp (x1 := nI l) (x2 := x2) (x5 := nI e) (y3 := lN (16 ^ cn (q3 (I 145) l) e)) 8 L (by omega) hc.1 (fun i hi => by rw [if_neg (by omega)]; exact hc.2 i hi)
      obtain ⟨L', e3, h3⟩ := m343_c o11 hc0 hn h6 hp hl (x2 := x2) j (e + 1) (some (.int (nI 0))) L1 (by omega) (by rw [e1]; exact h2)
      have e4 : lN (16 ^ cn (q3 (I 145) l) e) * 16 = lN (16 ^ cn (q3 (I 145) l) (e + 1)) := by
        rw [e1, Nat.pow_succ]; exact lN_mul _ 16
      refine ⟨L', ?_, h3⟩
      rw [if_neg g]
      refine Eq.trans ?_ ((e2.trans ?_).trans e3)
      · rfl
      · rw [b343_191, nI_1, e4]
theorem m343_d (o11 : ok11 hs_S0 R 140) (hk : k ≤ 8) (hc : ∀ i, i ≤ 8 → L 150 i = lN (Pc p q m i)) {x1 : Int32} {y3 : Int64} : hs_R scr (d + 1) 343 203 [some (.ref 140), some (.int x1), some (.int (nI k)), some (.long y3), none, some (.long 0), none, some (.int 0)] [] (hs_S0, I, L, R) = ((hs_C scr d 344 [.ref 140, .long (lN (smN (fun r => Pc p q m r) (k + 1))), .long y3] (hs_S0, I, L, R)).bind fun o => hs_R scr (d + 1) 343 234 [some (.ref 140), some (.int x1), some (.int (nI k)), some (.long y3), none, some (.long (lN (smN (fun r => Pc p q m r) (k + 1)))), none, some (.int (nI (k + 1)))] (o.1.toList ++ []) o.2) := by
  have main : ∀ i, i ≤ k + 1 → hs_R scr (d + 1) 343 203 [some (.ref 140), some (.int x1), some (.int (nI k)), some (.long y3), none, some (.long 0), none, some (.int 0)] [] (hs_S0, I, L, R) = hs_R scr (d + 1) 343 203 [some (.ref 140), some (.int x1), some (.int (nI k)), some (.long y3), none, some (.long (lN (smN (fun r => Pc p q m r) i))), none, some (.int (nI i))] [] (hs_S0, I, L, R) := by
    intro i
    induction i with
    | zero => intro _; rfl
    | succ i ih =>
      intro h
      rw [ih (by omega), b343_203 o11, if_neg (nI_nlt (by omega) (by omega))]
      simp (disch := omega) only [↓reduceIte, Nat.reduceAdd, f_ge, t_le, t_lt, f_lt, f_l0, t_0l, t_pl, t_eq, f_eq, f_e0, i10, i01, ib_nI, nI_clamp, nI_add, ad10, ad18, ad26, ad34, ad42, ad47, ad52, ad59, ad107, ad117, ml8, mr8, ml5, ml10, nI_1, hc, lN_add]
      rfl
  refine (main (k + 1) (Nat.le_refl _)).trans ?_
  rw [b343_203 o11, if_pos (nI_lt (by omega) (by omega))]
theorem sm_cut {f : Nat → Nat} {m : Nat} (h : ∀ i, m < i → f i = 0) : ∀ k, smN f (min k m + 1) = smN f (k + 1)
  | 0 => by rw [Nat.zero_min]
  | k + 1 => by
    by_cases q : k + 1 ≤ m
    · rw [Nat.min_eq_left q]
    · have := sm_cut h k
      rw [Nat.min_eq_right (by omega)] at this ⊢
      rw [this, smN, smN, smN, h (k + 1) (by omega)]; rfl
theorem ca54 : CA54 scr hs_S0 Rel 99 := by
  intro x y I L R hP
  obtain ⟨rt, st, pt, qt, n, np, nr, nl, nb, nq, hA⟩ := hP; obtain ⟨hE, ⟨⟨hn8, hc0, hx0, hh⟩, ⟨hp5, hc1, hx1, hpp⟩, ⟨hr6, hc2, hx2, hrr, hru⟩, ⟨hl6, hc3, hx3, hll⟩, ⟨hb6, hq10, hc4, hx4, hc5, hx5, hqq⟩, hD, hN, hG⟩, hT, hTx, hM, hK⟩ := id hA; have o10 := k10_2 hE.1; have o11 := k11_140 hE.1; have o4 := Env_4 hE; have o1 : ok1 hs_S0 R (rt + 5) := o4.2.2.2.2.2.1; have r10_8 := hE.2.1; have hrt := hE.2.2.2.2.2.1; have hpt := hE.2.2.2.2.2.2
  rcases ix x (n := nl) (by omega) with hx | ⟨l, hl, rfl⟩
  · refine CK_st hA 0 2 ?_ ?_
    · simp (disch := omega) only [Option.bind_some, Option.toList_some, Option.toList_none, List.append_nil, List.cons_append, List.nil_append, ↓reduceIte, true_or, or_true, Nat.reduceAdd, Nat.add_assoc, f_ge, t_le, t_lt, f_lt, f_l0, t_0l, t_pl, t_eq, f_eq, f_e0, i10, i01, ib_nI, nI_clamp, nI_add, ad10, ad18, ad26, ad34, ad42, ad47, ad52, ad59, ad107, ad117, ml8, mr8, ml5, ml10, hu_same, hu_row, hu_at, hu_hu, e165, b165_0 o10, b165_5 o10 r10_8 o4, b165_13, b165_24 o10, b165_29, b165_38, b165_76 o10 r10_8 o4, b165_94, b165_120, b165_129 o10, b165_132, e18, b18_0 o10, s95n o10 r10_8 o4 hx3 hx]
    · simp (disch := first | omega | (simp (disch := omega) only [hu_same, hu_row, hu_at, hu_hu, hc0, hc1, hc2, hc3, hc4, hc5]; done)) only [Option.bind_some, Option.toList_some, Option.toList_none, List.append_nil, List.cons_append, List.nil_append, ↓reduceIte, true_or, or_true, Nat.reduceAdd, Nat.add_assoc, f_ge, t_le, t_lt, f_lt, f_l0, t_0l, t_pl, t_eq, f_eq, f_e0, i10, i01, ib_nI, nI_clamp, nI_add, ad10, ad18, ad26, ad34, ad42, ad47, ad52, ad59, ad107, ad117, ml8, mr8, ml5, ml10, hu_same, hu_row, hu_at, hu_hu, e343, b343_0 o11, b343_15 o11, b343_23, b343_33 o11, b343_41, b343_98, b343_191, b343_234, e197, b197_0 o11, s278n o11 (n := nl) (hx := hx) (hn := by omega)]
  rcases rg y 0 8 with hy | ⟨h1, h2, h3⟩
  · refine CK_st hA 0 5 ?_ ?_
    · simp (disch := omega) only [Option.bind_some, Option.toList_some, Option.toList_none, List.append_nil, List.cons_append, List.nil_append, ↓reduceIte, true_or, or_true, Nat.reduceAdd, Nat.add_assoc, f_ge, t_le, t_lt, f_lt, f_l0, t_0l, t_pl, t_eq, f_eq, f_e0, i10, i01, ib_nI, nI_clamp, nI_add, ad10, ad18, ad26, ad34, ad42, ad47, ad52, ad59, ad107, ad117, ml8, mr8, ml5, ml10, hu_same, hu_row, hu_at, hu_hu, e165, b165_0 o10, b165_5 o10 r10_8 o4, b165_13, b165_24 o10, b165_29, b165_38, b165_76 o10 r10_8 o4, b165_94, b165_120, b165_129 o10, b165_132, e18, b18_0 o10, s95y o10 r10_8 o4 hx3 hl (by omega), out_g hy]
    · simp (disch := first | omega | (simp (disch := omega) only [hu_same, hu_row, hu_at, hu_hu, hc0, hc1, hc2, hc3, hc4, hc5]; done)) only [Option.bind_some, Option.toList_some, Option.toList_none, List.append_nil, List.cons_append, List.nil_append, ↓reduceIte, true_or, or_true, Nat.reduceAdd, Nat.add_assoc, f_ge, t_le, t_lt, f_lt, f_l0, t_0l, t_pl, t_eq, f_eq, f_e0, i10, i01, ib_nI, nI_clamp, nI_add, ad10, ad18, ad26, ad34, ad42, ad47, ad52, ad59, ad107, ad117, ml8, mr8, ml5, ml10, hu_same, hu_row, hu_at, hu_hu, e343, b343_0 o11, b343_15 o11, b343_23, b343_33 o11, b343_41, b343_98, b343_191, b343_234, e197, b197_0 o11, s278y o11 (n := nl) (hk := hl) (hn := by omega), s223 0 8 0 8 rfl rfl, out_g hy]
  obtain ⟨k, hk, rfl⟩ := rg_nat 8 rfl (by decide) h1 h2
  obtain ⟨p, hp, ep⟩ := hD.1.2
  have h13 : I rt 13 = nI p := hD.1.1.trans ep
  have hl6' : l < 6 := by omega
  obtain ⟨m, hm⟩ : ∃ m, m = cn (q3 (I 145) l) n := ⟨_, rfl⟩
  have hm8 : m ≤ 8 := by rw [hm]; have := cn_le (q := q3 (I 145) l) n; omega
  obtain ⟨A, hA1⟩ : ∃ A, A = smN (fun r => Pc p (16 - p) m r) (k + 1) := ⟨_, rfl⟩
  have hA2 : smN (fun r => Pc p (16 - p) m r) (min k m + 1) = A := by rw [hA1]; exact sm_cut (fun i hi => Pc_hi m i hi) k
  have hpw : 16 ^ m ≤ 16 ^ 8 := Nat.pow_le_pow_right (by omega) hm8
  have hA3 : A ≤ 16 ^ 8 * (k + 1) := by rw [hA1]; exact smN_le (fun r _ => Nat.le_trans (Pc_le (by omega) m r) hpw)
  have hA4 : A < 2 ^ 63 := Nat.lt_of_le_of_lt hA3 (Nat.lt_of_le_of_lt (Nat.mul_le_mul_left _ (show k + 1 ≤ 9 by omega)) (by decide))
  have hB4 : 16 ^ m < 2 ^ 63 := Nat.lt_of_le_of_lt hpw (by decide)
  have hB0 : 0 < 16 ^ m := Nat.pow_pos (by omega)
  have hJ : hs_u (hs_u (hs_u I 2 16 0) 140 1 0) 140 0 0 145 = I 145 := by simp (disch := omega) only [hu_same, hu_row, hu_at, hu_hu]
  obtain ⟨J, hJd⟩ : ∃ J, J = hs_u (hs_u (hs_u I 2 16 0) 140 1 0) 140 0 0 := ⟨_, rfl⟩
  rw [← hJd] at hJ
  obtain ⟨K, hKd⟩ : ∃ K, K = hs_u (hs_u L 2 17 (lN A / lN (Nat.gcd A (16 ^ m)))) 2 18 (lN (16 ^ m) / lN (Nat.gcd A (16 ^ m))) := ⟨_, rfl⟩
  obtain ⟨L1, e1, c1⟩ := m343_a (scr := scr) (d := 99) (I := J) (L := K) (R := R) (p := p) (q := 16 - p) o11 (x1 := nI l) (x2 := nI k)
  obtain ⟨L2, e2, c2⟩ := m343_c (scr := scr) (d := 98) (I := J) (R := R) (n := n) (p := p) (l := l) o11 (by rw [hJ]; exact hc0) hn8 (by rw [hJ]; exact ep) hp hl6' (x2 := nI k) (L0 := K) n 0 none L1 (by omega) c1
  rw [hJ, ← hm] at e2 c2
  have e3 := m343_d (scr := scr) (d := 98) (I := J) (L := L2) (R := R) (k := k) (p := p) (q := 16 - p) (m := m) o11 hk c2.2 (x1 := nI l) (y3 := lN (16 ^ m))
  rw [← hA1, m344 (S := hs_S0) o11 hA4 hB4 hB0] at e3
  refine ⟨1, hs_u I 2 16 0, K, R, J, hs_u (hs_u L2 140 2 (lN A / lN (Nat.gcd A (16 ^ m)))) 140 3 (lN (16 ^ m) / lN (Nat.gcd A (16 ^ m))), R, ?_, o11, ?_, ?_⟩
  · simp (disch := omega) only [Option.bind_some, Option.toList_some, Option.toList_none, List.append_nil, List.cons_append, List.nil_append, ↓reduceIte, true_or, or_true, Nat.reduceAdd, Nat.add_assoc, f_ge, t_le, t_lt, f_lt, f_l0, t_0l, t_pl, t_eq, f_eq, f_e0, i10, i01, ib_nI, nI_clamp, nI_add, ad10, ad18, ad26, ad34, ad42, ad47, ad52, ad59, ad107, ad117, ml8, mr8, ml5, ml10, hu_same, hu_row, hu_at, hu_hu, e165, b165_0 o10, b165_5 o10 r10_8 o4, b165_13, b165_24 o10, b165_29, b165_38, b165_76 o10 r10_8 o4, b165_94, b165_129 o10, b165_132, s95y o10 r10_8 o4 hx3 hl (by omega), h1, h2, x166 o4 hA.2.1.1 hA.2.1.2.2.2.1 hl6', ← hm]
    rw [x165 o10 r10_8 o4 h13 hp hm8 hk, hA2, b165_120]
    rw [show hs_C scr 98 167 [.int 16, .int (nI m)] (hs_S0, I, L, R) = some (some (.long (lN (16 ^ m))), (hs_S0, I, L, R)) from x167 (b := 16) (by omega) (by omega)]
    simp (disch := omega) only [Option.bind_some, Option.toList_some, Option.toList_none, List.append_nil, List.cons_append, List.nil_append, ↓reduceIte, true_or, or_true, Nat.reduceAdd, Nat.add_assoc, f_ge, t_le, t_lt, f_lt, f_l0, t_0l, t_pl, t_eq, f_eq, f_e0, i10, i01, ib_nI, nI_clamp, nI_add, ad10, ad18, ad26, ad34, ad42, ad47, ad52, ad59, ad107, ad117, ml8, mr8, ml5, ml10, hu_same, hu_row, hu_at, hu_hu, b165_129 (o_u0 := o10), x168 o10 hA4 hB4 hB0, b165_132, hKd]
  · simp (disch := first | omega | (simp (disch := omega) only [hu_same, hu_row, hu_at, hu_hu, hc0, hc1, hc2, hc3, hc4, hc5]; done)) only [Option.bind_some, Option.toList_some, Option.toList_none, List.append_nil, List.cons_append, List.nil_append, ↓reduceIte, true_or, or_true, Nat.reduceAdd, Nat.add_assoc, f_ge, t_le, t_lt, f_lt, f_l0, t_0l, t_pl, t_eq, f_eq, f_e0, i10, i01, ib_nI, nI_clamp, nI_add, ad10, ad18, ad26, ad34, ad42, ad47, ad52, ad59, ad107, ad117, ml8, mr8, ml5, ml10, hu_same, hu_row, hu_at, hu_hu, e343, b343_0 o11, b343_15 o11, b343_23, b343_33 o11, b343_41, s278y o11 (n := nl) (hk := hl) (hn := by omega), s223 0 8 0 8 rfl rfl, h1, h2]
    rw [← hJd]
    refine e1.trans (Eq.trans ?_ (e2.trans (e3.trans ?_)))
    · rfl
    · simp only [Option.bind_some, Option.toList_some, Option.toList_none, List.append_nil, List.cons_append, List.nil_append, ↓reduceIte, true_or, or_true, Nat.reduceAdd, Nat.add_assoc, b343_234]
  · have hKr : ∀ k, k ≠ 2 → K k = L k := fun k hk => by rw [hKd, hu_row _ _ hk, hu_row _ _ hk]
    refine Rel_fq hA (fun k h1 h2 h3 h4 h5 h6 h7 h8 => by rw [hJd]; simp (disch := omega) only [hu_row]) (fun k h1 h2 h3 => by rw [hu_row _ _ h2, hu_row _ _ h2, c2.1 k h3, hKr k h1]) (fun f hf => by rw [hJd]; simp (disch := omega) only [hu_at, hu_row]) (fun f h1 h2 h3 => by rw [hJd]; simp (disch := omega) only [hu_at]) (by rw [hJd]; simp (disch := omega) only [hu_at, hu_same]) ?_ ?_
    · rw [hu_row _ _ (by omega), hu_row _ _ (by omega), c2.1 2 (by omega), hKd]; simp (disch := omega) only [hu_at, hu_same]
    · rw [hu_row _ _ (by omega), hu_row _ _ (by omega), c2.1 2 (by omega), hKd]; simp (disch := omega) only [hu_at, hu_same]
end LG
