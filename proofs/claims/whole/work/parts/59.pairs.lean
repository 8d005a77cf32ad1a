/-! divided, dividedBy, paired, pairedSet -/
def dvN (T w : Nat) : Nat := if 2 * w ≤ T then T - 2 * w else 2 * w - T
theorem i_rev (a b : Int32) : 0 - (a - b) = b - a := by grind
theorem ab_dv {T w : Nat} (hT : T < 2 ^ 29) (hw : w < 2 ^ 28) : ab (nI T - nI (2 * w)) = nI (dvN T w) ∧ ab (nI (2 * w) - nI T) = nI (dvN T w) := by
  unfold dvN ab
  by_cases h : 2 * w ≤ T
  · rw [if_pos h, pk_sub h, if_pos (nI_pos' (by omega)), i_rev]
    refine ⟨rfl, ?_⟩
    by_cases h2 : 2 * w = T
    · rw [h2, Nat.sub_self, Int32.sub_self]; decide
    · rw [if_neg, pk_sub h]
      rw [Int32.le_iff_toInt_le, pk_sub_toInt (by omega) (by omega)]
      show ¬ (0 : Int) ≤ _
      omega
  · rw [if_neg h]
    have h' : T ≤ 2 * w := by omega
    refine ⟨?_, by rw [pk_sub h', if_pos (nI_pos' (by omega))]⟩
    rw [if_neg, i_rev, pk_sub h']
    rw [Int32.le_iff_toInt_le, pk_sub_toInt (by omega) (by omega)]
    show ¬ (0 : Int) ≤ _
    omega
def gDv (a : Nat → Nat) (n i b : Nat) : Nat := if dvN (smN a n) (Wt a n b) ≤ dvN (smN a n) (Wt a n (i + 1)) then b else i + 1
theorem ml2 (k : Nat) : (2 : Int32) * nI k = nI (2 * k) := pk_mul 2 k
theorem dv_le {T w : Nat} (hT : T ≤ 792) (hw : w ≤ 792) : dvN T w ≤ 1584 := by unfold dvN; split <;> omega
section PR
variable {scr : List Int32} {d t rt st pt qt n np nr nl nb nq lp : Nat} {c : Nat → Int32} {a : Nat → Nat} {I I' J : Nat → Nat → Int32} {L L' : Nat → Nat → Int64} {R : Nat → Nat → Nat} {S : List hs_S}
theorem x147_loop (o10 : ok10 hs_S0 R 2) (hn : n ≤ 8) (hal : ∀ k, k < n → a k ≤ 99) (hW : ∀ m, m < 2 ^ n → I 17 m = nI (Wt a n m)) : hs_R scr d 147 21 [some (.ref 2), some (.int (nI (2 ^ n))), some (.int (nI (smN a n))), some (.int 0), some (.int 1)] [] (hs_S0, I, L, R) = some (some (.int (nI (fo (gDv a n) (2 ^ n - 1) 0))), (hs_S0, I, L, R)) ∧ fo (gDv a n) (2 ^ n - 1) 0 < 2 ^ n := by
  have hp := p2 hn
  have hpos : 0 < 2 ^ n := Nat.two_pow_pos n
  have hT := smN_le (m := 99) hal
  have hu := fo_up (n := 2 ^ n - 1) (g := gDv a n) (head := fun i b => hs_R scr d 147 21 [some (.ref 2), some (.int (nI (2 ^ n))), some (.int (nI (smN a n))), some (.int (nI b)), some (.int (nI (i + 1)))] [] (hs_S0, I, L, R)) (P := fun _ b => b < 2 ^ n) (fun i b hi hb => by
    have w1 := Wt_le (a := a) (n := n) (m := b) hal
    have w2 := Wt_le (a := a) (n := n) (m := i + 1) hal
    have d1 := dv_le (T := smN a n) (w := Wt a n b) (by omega) (by omega)
    have d2 := dv_le (T := smN a n) (w := Wt a n (i + 1)) (by omega) (by omega)
    refine ⟨?_, ?_⟩
    · show hs_R scr d 147 21 _ _ _ = hs_R scr d 147 21 _ _ _
      rw [b147_21 o10, if_neg (nI_ge (by omega) (by omega))]
      simp (disch := omega) only [Nat.reduceAdd, f_ge, t_le, t_lt, f_lt, f_l0, t_0l, t_pl, t_eq, f_eq, f_e0, i10, i01, ib_nI, nI_clamp, nI_add, ad10, ad18, ad26, ad34, ad42, ad47, ad52, ad59, ad107, ad117, ml8, mr8, ml5, ml10, ↓reduceIte, hW b hb, hW (i + 1) (by omega), ml2, ab_if, (ab_dv (T := smN a n) (w := Wt a n b) (by omega) (by omega)).1, (ab_dv (T := smN a n) (w := Wt a n (i + 1)) (by omega) (by omega)).1, b147_60, nI_1]
      unfold gDv
      by_cases q : dvN (smN a n) (Wt a n b) ≤ dvN (smN a n) (Wt a n (i + 1))
      · rw [if_pos q, if_pos (nI_le q (by omega))]
      · rw [if_neg q, if_neg (nI_ge (by omega) (by omega))]
    · show gDv a n i b < 2 ^ n
      unfold gDv; split <;> omega) (s := 0) hpos (2 ^ n - 1) (Nat.le_refl _)
  refine ⟨hu.1.trans ?_, hu.2⟩
  show hs_R scr d 147 21 _ _ _ = _
  rw [b147_21 o10, if_pos (nI_le (by omega) (by omega))]
theorem m330 {m : Nat} (o11 : ok11 hs_S0 R 140) (hc0 : I 145 0 = nI n) (hn : n ≤ 8) (ha : ∀ k, k < n → I 145 (10 + k) = nI (a k)) (hal : ∀ k, k < n → a k ≤ 99) (hm : m < 1024) : hs_C scr (d + 2) 330 [.ref 140, .int (nI m)] (hs_S0, I, L, R) = some (some (.int (nI (dvN (smN a n) (Wt a n m)))), (hs_S0, I, L, R)) := by
  have hT := smN_le (m := 99) hal
  have w1 := Wt_le (a := a) (n := n) (m := m) hal
  have hsum : fo (gLen (I 145)) n 0 = nI (smN a n) := fo_sm (g := fun k => I 145 (10 + k)) ha
  rw [e330, b330_0 o11, m326 o11 hc0 hn ha hm]
  simp only [Option.bind_some, Option.toList_some, Option.toList_none, List.append_nil, List.cons_append, List.nil_append, ↓reduceIte, true_or, or_true, Nat.reduceAdd, Nat.add_assoc, b330_6 o11, hc0, m269 o11 hc0 hn, hsum, b330_18, ml2, ab_if, (ab_dv (T := smN a n) (w := Wt a n m) (by omega) (by omega)).2]
theorem m329 (o11 : ok11 hs_S0 R 140) (hc0 : I 145 0 = nI n) (hn : n ≤ 8) (ha : ∀ k, k < n → I 145 (10 + k) = nI (a k)) (hal : ∀ k, k < n → a k ≤ 99) : hs_C scr (d + 3) 329 [.ref 140] (hs_S0, I, L, R) = some (some (.int (nI (fo (gDv a n) (2 ^ n - 1) 0))), (hs_S0, I, L, R)) := by
  have hp := p2 hn
  have hpos : 0 < 2 ^ n := Nat.two_pow_pos n
  have hT := smN_le (m := 99) hal
  have hc0' : I (140 + 5) 0 = nI n := hc0
  have hu := fo_up (n := 2 ^ n - 1) (g := gDv a n) (head := fun i b => hs_R scr (d + 3) 329 4 [some (.ref 140), some (.int (nI b)), some (.int (nI (i + 1)))] [] (hs_S0, I, L, R)) (P := fun _ b => b < 2 ^ n) (fun i b hi hb => by
    have w1 := Wt_le (a := a) (n := n) (m := b) hal
    have w2 := Wt_le (a := a) (n := n) (m := i + 1) hal
    have d1 := dv_le (T := smN a n) (w := Wt a n b) (by omega) (by omega)
    have d2 := dv_le (T := smN a n) (w := Wt a n (i + 1)) (by omega) (by omega)
    refine ⟨?_, ?_⟩
    · show hs_R scr (d + 3) 329 4 _ _ _ = hs_R scr (d + 3) 329 4 _ _ _
      rw [b329_4 o11, hc0', sh1 n (by omega), if_neg (nI_ge (by omega) (by omega)), m330 o11 hc0 hn ha hal (by omega)]
      simp only [Option.bind_some, Option.toList_some, Option.toList_none, List.append_nil, List.cons_append, List.nil_append, ↓reduceIte, true_or, or_true, Nat.reduceAdd, Nat.add_assoc, b329_21 o11, m330 o11 hc0 hn ha hal (show b < 1024 by omega), b329_26, b329_31, nI_1]
      unfold gDv
      by_cases q : dvN (smN a n) (Wt a n b) ≤ dvN (smN a n) (Wt a n (i + 1))
      · rw [if_pos q, if_pos (nI_le q (by omega))]
      · rw [if_neg q, if_neg (nI_ge (by omega) (by omega))]
    · show gDv a n i b < 2 ^ n
      unfold gDv; split <;> omega) (s := 0) hpos (2 ^ n - 1) (Nat.le_refl _)
  rw [e329, b329_0]
  refine hu.1.trans ?_
  show hs_R scr (d + 3) 329 4 _ _ _ = _
  rw [b329_4 o11, hc0', sh1 n (by omega), if_pos (nI_le (by omega) (by omega))]
theorem halves (hA : RelA rt st pt qt n np nr nl nb nq I L R) : ∃ b z I', hs_C scr (d + 2) 147 [.ref 2] (hs_S0, I, L, R) = some (some (.int (nI b)), (hs_S0, I', L, R)) ∧ b < 256 ∧ (∀ k, k ≠ 17 → I' k = I k) ∧ ab (fo (gLen (I 145)) n 0 - 2 * I' 17 b) = nI z ∧ ∀ J, J 145 = I 145 → ∀ e, hs_C scr (e + 3) 329 [.ref 140] (hs_S0, J, L, R) = some (some (.int (nI b)), (hs_S0, J, L, R)) ∧ hs_C scr (e + 2) 330 [.ref 140, .int (nI b)] (hs_S0, J, L, R) = some (some (.int (nI z)), (hs_S0, J, L, R)) := by
  have hE := hA.1
  have o10 := k10_2 hE.1; have o11 := k11_140 hE.1; have o4 := Env_4 hE
  have o1 : ok1 hs_S0 R (rt + 5) := o4.2.2.2.2.2.1
  have r10_8 := hE.2.1; have hrt := hE.2.2.2.2.2.1
  have hH := hA.2.1.1
  obtain ⟨hn8, hc0, hx0, hh⟩ := id hH
  have hp := p2 hn8
  obtain ⟨a, ha⟩ : ∃ a : Nat → Nat, a = fun k => (I 145 (10 + k)).toNatClampNeg := ⟨_, rfl⟩
  have hf : ∀ k, k < n → I 145 (10 + k) = nI (a k) := fun k hk => by rw [ha]; exact (bd_tn (hh k hk).2.2.2.2.1 (by omega)).1
  have hal : ∀ k, k < n → a k ≤ 99 := fun k hk => by rw [ha]; exact (bd_tn (hh k hk).2.2.2.2.1 (by omega)).2
  have hT := smN_le (m := 99) hal
  obtain ⟨I', e1, f1, f2⟩ := x144 (scr := scr) (d := d + 1) (L := L) (a := a) o10 r10_8 o4 (by omega) hH hf
  have hH' : RH n (I 145) I' rt := RH_cg hH (fun k _ => rfl) (by rw [f1 _ (by omega)]) (f1 _ (by omega)) (f1 _ (by omega)) (f1 _ (by omega)) (f1 _ (by omega))
  have hsum : fo (gLen (I 145)) n 0 = nI (smN a n) := fo_sm (g := fun k => I 145 (10 + k)) hf
  obtain ⟨e2, hb⟩ := x147_loop (scr := scr) (d := d + 2) (L := L) (I := I') o10 hn8 hal f2
  have w1 := Wt_le (a := a) (n := n) (m := fo (gDv a n) (2 ^ n - 1) 0) hal
  refine ⟨fo (gDv a n) (2 ^ n - 1) 0, dvN (smN a n) (Wt a n (fo (gDv a n) (2 ^ n - 1) 0)), I', ?_, by omega, f1, ?_, fun J hJ e => ⟨?_, ?_⟩⟩
  · rw [e147, b147_0 o10, e1]
    simp only [Option.bind_some, Option.toList_some, Option.toList_none, List.append_nil, List.cons_append, List.nil_append, ↓reduceIte, true_or, or_true, Nat.reduceAdd, Nat.add_assoc, b147_4 o10 r10_8 o4, x86 o1 hH', hsum, b147_15]
    exact e2
  · rw [hsum, f2 _ hb, ml2, (ab_dv (by omega) (by omega)).1]
  · exact m329 o11 (by rw [hJ]; exact hc0) hn8 (fun k hk => by rw [hJ]; exact hf k hk) hal
  · exact m330 o11 (by rw [hJ]; exact hc0) hn8 (fun k hk => by rw [hJ]; exact hf k hk) hal (by omega)
theorem ca46 : CA46 scr hs_S0 Rel 99 := by
  intro I L R hP
  obtain ⟨rt, st, pt, qt, n, np, nr, nl, nb, nq, hA⟩ := hP; obtain ⟨hE, ⟨⟨hn8, hc0, hx0, hh⟩, ⟨hp5, hc1, hx1, hpp⟩, ⟨hr6, hc2, hx2, hrr, hru⟩, ⟨hl6, hc3, hx3, hll⟩, ⟨hb6, hq10, hc4, hx4, hc5, hx5, hqq⟩, hD, hN, hG⟩, hT, hTx, hM, hK⟩ := id hA; have o10 := k10_2 hE.1; have o11 := k11_140 hE.1; have o4 := Env_4 hE; have o1 : ok1 hs_S0 R (rt + 5) := o4.2.2.2.2.2.1; have r10_8 := hE.2.1; have hrt := hE.2.2.2.2.2.1; have hpt := hE.2.2.2.2.2.2
  obtain ⟨b, z, I', e1, hb, f1, -, e2⟩ := halves (scr := scr) (d := 96) hA
  refine CK_17 hA (nI b) 0 f1 ?_ ?_
  · simp (disch := omega) only [Option.bind_some, Option.toList_some, Option.toList_none, List.append_nil, List.cons_append, List.nil_append, ↓reduceIte, true_or, or_true, Nat.reduceAdd, Nat.add_assoc, f_ge, t_le, t_lt, f_lt, f_l0, t_0l, t_pl, t_eq, f_eq, f_e0, i10, i01, ib_nI, nI_clamp, nI_add, ad10, ad18, ad26, ad34, ad42, ad47, ad52, ad59, ad107, ad117, ml8, mr8, ml5, ml10, hu_same, hu_row, hu_at, hu_hu, e146, b146_0 o10, b146_5 o10, b146_8, e68, b68_0 o10, e1]
  · have hJ : hs_u (hs_u (hs_u I' 2 16 0) 140 1 0) 140 0 0 145 = I 145 := by simp (disch := omega) only [hu_same, hu_row, hu_at, hu_hu, f1]
    rw [e328, b328_0 o11, (e2 _ hJ 95).1]
    simp only [Option.bind_some, Option.toList_some, Option.toList_none, List.append_nil, List.cons_append, List.nil_append, ↓reduceIte, true_or, or_true, Nat.reduceAdd, Nat.add_assoc, b328_14]
theorem ca47 : CA47 scr hs_S0 Rel 99 := by
  intro I L R hP
  obtain ⟨rt, st, pt, qt, n, np, nr, nl, nb, nq, hA⟩ := hP; obtain ⟨hE, ⟨⟨hn8, hc0, hx0, hh⟩, ⟨hp5, hc1, hx1, hpp⟩, ⟨hr6, hc2, hx2, hrr, hru⟩, ⟨hl6, hc3, hx3, hll⟩, ⟨hb6, hq10, hc4, hx4, hc5, hx5, hqq⟩, hD, hN, hG⟩, hT, hTx, hM, hK⟩ := id hA; have o10 := k10_2 hE.1; have o11 := k11_140 hE.1; have o4 := Env_4 hE; have o1 : ok1 hs_S0 R (rt + 5) := o4.2.2.2.2.2.1; have r10_8 := hE.2.1; have hrt := hE.2.2.2.2.2.1; have hpt := hE.2.2.2.2.2.2
  obtain ⟨b, z, I', e1, hb, f1, hz, e2⟩ := halves (scr := scr) (d := 96) hA
  have hH' : RH n (I 145) I' rt := RH_cg hA.2.1.1 (fun k _ => rfl) (by rw [f1 _ (by omega)]) (f1 _ (by omega)) (f1 _ (by omega)) (f1 _ (by omega)) (f1 _ (by omega))
  refine CK_17 hA (nI z) 0 f1 ?_ ?_
  · rw [e148, b148_0 o10, e1]
    simp (disch := omega) only [Option.bind_some, Option.toList_some, Option.toList_none, List.append_nil, List.cons_append, List.nil_append, ↓reduceIte, true_or, or_true, Nat.reduceAdd, Nat.add_assoc, f_ge, t_le, t_lt, f_lt, f_l0, t_0l, t_pl, t_eq, f_eq, f_e0, i10, i01, ib_nI, nI_clamp, nI_add, ad10, ad18, ad26, ad34, ad42, ad47, ad52, ad59, ad107, ad117, ml8, mr8, ml5, ml10, hu_same, hu_row, hu_at, hu_hu, b148_4 o10 r10_8 o4, x86 o1 hH', b148_16 (o_t0 := o10) (o_u0 := o10), ab_if, hz, e68, b68_0 o10, b148_31]
  · have hJ : hs_u (hs_u (hs_u I' 2 16 0) 140 1 0) 140 0 0 145 = I 145 := by simp (disch := omega) only [hu_same, hu_row, hu_at, hu_hu, f1]
    rw [e331, b331_0 o11, (e2 _ hJ 95).1]
    simp only [Option.bind_some, Option.toList_some, Option.toList_none, List.append_nil, List.cons_append, List.nil_append, ↓reduceIte, true_or, or_true, Nat.reduceAdd, Nat.add_assoc, b331_15 (o_u0 := o11), (e2 _ hJ 96).2, b331_18]
/-- the barbers that a set of pairs has -/
def mkP (c : Nat → Int32) (p : Nat) : Int32 := ((1 : Int32) <<< (c (107 + p) &&& 31)) ||| ((1 : Int32) <<< (c (117 + p) &&& 31))
def Wm (c : Nat → Int32) (q m : Nat) : Int32 := fo (fun p s => s ||| (if m.testBit p = true then mkP c p else 0)) q 0
theorem Wm_lo {c : Nat → Int32} {h m : Nat} (hm : m < 2 ^ h) : Wm c (h + 1) m = Wm c h m := by
  show Wm c h m ||| (if m.testBit h = true then mkP c h else 0) = _
  rw [Nat.testBit_lt_two_pow hm, if_neg (by decide), Int32.or_zero]
theorem Wm_hi {c : Nat → Int32} {h m : Nat} (hm : m < 2 ^ h) : Wm c (h + 1) (2 ^ h + m) = Wm c h m ||| mkP c h := by
  show Wm c h (2 ^ h + m) ||| (if (2 ^ h + m).testBit h = true then mkP c h else 0) = _
  rw [Nat.testBit_two_pow_add_eq, Nat.testBit_lt_two_pow hm, if_pos (show (!false) = true from rfl)]
  congr 1
  unfold Wm
  exact fo_cg (fun k s hk => by rw [Nat.testBit_two_pow_add_gt hk])
theorem x153_in {h : Nat} {x1 x2 : Int32} (o10 : ok10 hs_S0 R 2) (hh : h < 10) (h0 : ∀ m, m < 2 ^ h → I 17 m = Wm c h m) : ∃ I', hs_R scr d 153 75 [some (.ref 2), some (.int x1), some (.int x2), some (.int (nI h)), some (.int (nI (2 ^ h))), some (.int (mkP c h)), some (.int (nI 0))] [] (hs_S0, I, L, R) = hs_R scr d 153 31 [some (.ref 2), some (.int x1), some (.int x2), some (.int (nI (h + 1))), some (.int (nI (2 ^ h))), some (.int (mkP c h)), some (.int (nI (2 ^ h)))] [] (hs_S0, I', L, R) ∧ (∀ k, k ≠ 17 → I' k = I k) ∧ (∀ m, m < 2 ^ (h + 1) → I' 17 m = Wm c (h + 1) m) := by
  have hb : 2 ^ h ≤ 512 := Nat.pow_le_pow_right (i := h) (j := 9) (by omega) (by omega)
  have hp : 2 ^ (h + 1) = 2 ^ h + 2 ^ h := by rw [Nat.pow_succ]; omega
  have hu := fo_up (n := 2 ^ h) (g := fun i I => hs_u I 17 (2 ^ h + i) (Wm c h i ||| mkP c h)) (head := fun i I => hs_R scr d 153 75 [some (.ref 2), some (.int x1), some (.int x2), some (.int (nI h)), some (.int (nI (2 ^ h))), some (.int (mkP c h)), some (.int (nI i))] [] (hs_S0, I, L, R)) (P := fun i I' => (∀ k, k ≠ 17 → I' k = I k) ∧ (∀ m, m < 2 ^ h + i → I' 17 m = Wm c (h + 1) m)) (fun i J hi hP => by
    obtain ⟨p1, p2⟩ := hP
    refine ⟨?_, fun k hk => by rw [hu_row _ _ hk, p1 k hk], fun m hm => ?_⟩
    · show hs_R scr d 153 75 _ _ _ = hs_R scr d 153 75 _ _ _
      have e2 : J 17 i = Wm c h i := by rw [p2 i (by omega), Wm_lo hi]
      rw [b153_75 o10]
      simp (disch := omega) only [Option.bind_some, Option.toList_some, Option.toList_none, List.append_nil, List.cons_append, List.nil_append, ↓reduceIte, true_or, or_true, Nat.reduceAdd, Nat.add_assoc, f_ge, t_le, t_lt, f_lt, f_l0, t_0l, t_pl, t_eq, f_eq, f_e0, i10, i01, ib_nI, nI_clamp, nI_add, ad10, ad18, ad26, ad34, ad42, ad47, ad52, ad59, ad107, ad117, ml8, mr8, ml5, ml10, e2, nI_1]
    · by_cases q : m = 2 ^ h + i
      · subst q; rw [hu_same, Wm_hi hi]
      · rw [hu_ne _ _ q]; exact p2 m (by omega)) (s := I) ⟨fun _ _ => rfl, fun m hm => by rw [h0 m hm, Wm_lo hm]⟩ (2 ^ h) (Nat.le_refl _)
  refine ⟨_, hu.1.trans ?_, hu.2.1, fun m hm => hu.2.2 m (by omega)⟩
  show hs_R scr d 153 75 _ _ _ = _
  rw [b153_75 o10, if_pos (nI_le (Nat.le_refl _) (by omega)), nI_1]
def enc : Option Nat → Int32
  | none => -1
  | some m => nI m
def gPr (c : Nat → Int32) (nq : Nat) (al : Int32) (i : Nat) (b : Option Nat) : Option Nat := if Wm c nq i = al then (match b with | none => some i | some m => if szN m ≤ szN i then some m else some i) else b
theorem x153 (o10 : ok10 hs_S0 R 2) (r10_8 : R 2 8 = rt) (o4 : ok4 hs_S0 R rt) (hrt : rt = 18 ∨ rt = 34) (hB : RB nb nq c I rt) : ∃ I', hs_C scr (d + 1) 153 [.ref 2] (hs_S0, I, L, R) = some (some (.int (enc (fo (gPr c nq (nI (2 ^ nb) - 1)) (2 ^ nq) none))), (hs_S0, I', L, R)) ∧ (∀ k, k ≠ 17 → I' k = I k) := by
  obtain ⟨hb6, hq10, -, hx4, -, hx5, hqq⟩ := id hB
  have hN : 2 ^ nq ≤ 1024 := Nat.pow_le_pow_right (i := nq) (j := 10) (by omega) (by omega)
  have main : ∀ h, h ≤ nq → ∃ I' q1 q2 q3, hs_R scr (d + 1) 153 31 [some (.ref 2), some (.int (nI (2 ^ nb) - 1)), some (.int (nI (2 ^ nq))), some (.int (nI 0)), none, none, none] [] (hs_S0, hs_u I 17 0 0, L, R) = hs_R scr (d + 1) 153 31 [some (.ref 2), some (.int (nI (2 ^ nb) - 1)), some (.int (nI (2 ^ nq))), some (.int (nI h)), q1, q2, q3] [] (hs_S0, I', L, R) ∧ (∀ k, k ≠ 17 → I' k = I k) ∧ (∀ m, m < 2 ^ h → I' 17 m = Wm c h m) := by
    intro h
    induction h with
    | zero => exact fun _ => ⟨_, none, none, none, rfl, fun k hk => hu_row _ _ hk, fun m hm => by
        obtain rfl : m = 0 := by omega
        rw [hu_same]; rfl⟩
    | succ h ih =>
      intro hle
      obtain ⟨I1, q1, q2, q3, e1, f1, f2⟩ := ih (by omega)
      obtain ⟨I2, e2, g1, g2⟩ := x153_in (scr := scr) (d := d + 1) (I := I1) (L := L) (c := c) (h := h) (x1 := nI (2 ^ nb) - 1) (x2 := nI (2 ^ nq)) o10 (by omega) f2
      refine ⟨I2, some (.int (nI (2 ^ h))), some (.int (mkP c h)), some (.int (nI (2 ^ h))), e1.trans ?_, fun k hk => by rw [g1 k hk, f1 k hk], g2⟩
      have hx : I1 rt 12 = nI nq := by rw [f1 _ (by omega)]; exact hx5
      have hy := hqq h (by omega)
      have y1 : I1 (rt + 14) h = c (107 + h) := by rw [f1 _ (by omega)]; exact hy.1
      have y2 : I1 (rt + 15) h = c (117 + h) := by rw [f1 _ (by omega)]; exact hy.2.1
      rw [b153_31 o10 r10_8 o4]
      simp (disch := omega) only [Option.bind_some, Option.toList_some, Option.toList_none, List.append_nil, List.cons_append, List.nil_append, ↓reduceIte, true_or, or_true, Nat.reduceAdd, Nat.add_assoc, f_ge, t_le, t_lt, f_lt, f_l0, t_0l, t_pl, t_eq, f_eq, f_e0, i10, i01, ib_nI, nI_clamp, nI_add, ad10, ad18, ad26, ad34, ad42, ad47, ad52, ad59, ad107, ad117, ml8, mr8, ml5, ml10, hx, y1, y2, sh1]
      exact e2
  obtain ⟨I', q1, q2, q3, e1, f1, f2⟩ := main nq (Nat.le_refl _)
  have hx : I' rt 12 = nI nq := by rw [f1 _ (by omega)]; exact hx5
  have hu := fo_up (n := 2 ^ nq) (g := gPr c nq (nI (2 ^ nb) - 1)) (head := fun i b => hs_R scr (d + 1) 153 119 [some (.ref 2), some (.int (nI (2 ^ nb) - 1)), some (.int (nI (2 ^ nq))), some (.int (enc b)), some (.int (nI i)), q2, q3] [] (hs_S0, I', L, R)) (P := fun _ b => ∀ m, b = some m → m < 1024) (fun i b hi hb => by
    refine ⟨?_, ?_⟩
    · show hs_R scr (d + 1) 153 119 _ _ _ = hs_R scr (d + 1) 153 119 _ _ _
      rw [b153_119 o10, if_neg (nI_ge hi (by omega))]
      simp (disch := omega) only [Option.bind_some, Option.toList_some, Option.toList_none, List.append_nil, List.cons_append, List.nil_append, ↓reduceIte, true_or, or_true, Nat.reduceAdd, Nat.add_assoc, f_ge, t_le, t_lt, f_lt, f_l0, t_0l, t_pl, t_eq, f_eq, f_e0, i10, i01, ib_nI, nI_clamp, nI_add, ad10, ad18, ad26, ad34, ad42, ad47, ad52, ad59, ad107, ad117, ml8, mr8, ml5, ml10, f2 i hi, b153_152, b153_155, nI_1]
      by_cases q : Wm c nq i = nI (2 ^ nb) - 1
      · rw [if_pos q]
        cases b with
        | none =>
          rw [show gPr c nq (nI (2 ^ nb) - 1) i none = some i from if_pos q]
          rw [show enc none = -1 from rfl, if_pos (by decide)]; rfl
        | some m =>
          have hm := hb m rfl
          have z1 := szN_le i
          have z2 := szN_le m
          rw [show gPr c nq (nI (2 ^ nb) - 1) i (some m) = (if szN m ≤ szN i then some m else some i) from if_pos q]
          rw [show enc (some m) = nI m from rfl, if_neg (nI_pos (by omega)), x139, p_eq (by omega)]
          simp only [Option.bind_some, Option.toList_some, Option.toList_none, List.append_nil, List.cons_append, List.nil_append, ↓reduceIte, true_or, or_true, Nat.reduceAdd, Nat.add_assoc, b153_145, x139]
          rw [p_eq (by omega)]
          simp only [Option.bind_some, Option.toList_some, Option.toList_none, List.append_nil, List.cons_append, List.nil_append, ↓reduceIte, true_or, or_true, Nat.reduceAdd, Nat.add_assoc, b153_149]
          by_cases q2 : szN m ≤ szN i
          · rw [if_pos q2, if_pos (show nI (cn (q321 (nI m)) 10) ≤ nI (cn (q321 (nI i)) 10) from nI_le q2 (by have : cn (q321 (nI i)) 10 ≤ 10 := z1; omega)), b153_155, nI_1]; rfl
          · rw [if_neg q2, if_neg (show ¬ nI (cn (q321 (nI m)) 10) ≤ nI (cn (q321 (nI i)) 10) from nI_ge (by have : ¬ cn (q321 (nI m)) 10 ≤ cn (q321 (nI i)) 10 := q2; omega) (by have : cn (q321 (nI m)) 10 ≤ 10 := z2; omega)), b153_152, b153_155, nI_1]; rfl
      · rw [if_neg q, show gPr c nq (nI (2 ^ nb) - 1) i b = b from if_neg q]
    · intro m hm
      unfold gPr at hm
      split at hm
      · cases b with
        | none => cases hm; omega
        | some m' =>
          simp only at hm
          split at hm
          · cases hm; exact hb _ rfl
          · cases hm; omega
      · exact hb m hm) (s := none) (fun m hm => by cases hm) (2 ^ nq) (Nat.le_refl _)
  refine ⟨I', ?_, f1⟩
  rw [e153, b153_0 o10 r10_8 o4, hx4, hx5, sh1 nb (by omega), sh1 nq (by omega)]
  refine e1.trans ?_
  rw [b153_31 o10 r10_8 o4, hx, if_pos (nI_le (Nat.le_refl _) (by omega))]
  refine hu.1.trans ?_
  show hs_R scr (d + 1) 153 119 _ _ _ = _
  rw [b153_119 o10, if_pos (nI_le (Nat.le_refl _) (by omega))]
theorem m336_in {i : Nat} {x1 x2 : Int32} (o11 : ok11 hs_S0 R 140) (hc5 : I 145 5 = nI nq) (hq : nq ≤ 10) (hi : i < 1024) : hs_R scr (d + 1) 336 33 [some (.ref 140), some (.int x1), some (.int x2), some (.int (nI i)), some (.int 0), some (.int 0)] [] (hs_S0, I, L, R) = hs_R scr (d + 1) 336 33 [some (.ref 140), some (.int x1), some (.int x2), some (.int (nI i)), some (.int (Wm (I 145) nq i)), some (.int (nI nq))] [] (hs_S0, I, L, R) := by
  have hl := fo_upT (n := nq) (g := fun p s => s ||| (if i.testBit p = true then mkP (I 145) p else 0)) (head := fun p s => hs_R scr (d + 1) 336 33 [some (.ref 140), some (.int x1), some (.int x2), some (.int (nI i)), some (.int s), some (.int (nI p))] [] (hs_S0, I, L, R)) (fun p s hp => by
    show hs_R scr (d + 1) 336 33 _ _ _ = hs_R scr (d + 1) 336 33 _ _ _
    rw [b336_33 o11]
    simp (disch := omega) only [Option.bind_some, Option.toList_some, Option.toList_none, List.append_nil, List.cons_append, List.nil_append, ↓reduceIte, true_or, or_true, Nat.reduceAdd, Nat.add_assoc, f_ge, t_le, t_lt, f_lt, f_l0, t_0l, t_pl, t_eq, f_eq, f_e0, i10, i01, ib_nI, nI_clamp, nI_add, ad10, ad18, ad26, ad34, ad42, ad47, ad52, ad59, ad107, ad117, ml8, mr8, ml5, ml10, hu_same, hu_row, hu_at, hu_hu, hc5, nI_1, m219, q_tb hi (show p < 10 by omega), b336_52 o11, b336_84]
    by_cases g : i.testBit p = true
    · simp only [g, ↓reduceIte, i10]; rfl
    · simp only [g, ↓reduceIte, Bool.false_eq_true]) 0
  rw [nI_0] at hl
  exact hl
theorem m336 (o11 : ok11 hs_S0 R 140) (hc4 : I 145 4 = nI nb) (hc5 : I 145 5 = nI nq) (hb : nb ≤ 6) (hq : nq ≤ 10) : hs_C scr (d + 2) 336 [.ref 140] (hs_S0, I, L, R) = some (some (.int (enc (fo (gPr (I 145) nq (nI (2 ^ nb) - 1)) (2 ^ nq) none))), (hs_S0, I, L, R)) := by
  have hN : 2 ^ nq ≤ 1024 := Nat.pow_le_pow_right (i := nq) (j := 10) (by omega) (by omega)
  have hc4' : I (140 + 5) 4 = nI nb := hc4
  have hc5' : I (140 + 5) 5 = nI nq := hc5
  obtain ⟨⟨qq, hl⟩, -⟩ := fo_upP (n := 2 ^ nq) (g := gPr (I 145) nq (nI (2 ^ nb) - 1)) (P := fun b => ∀ m, b = some m → m < 1024) (head := fun i b (q : Option Value × Option Value) => hs_R scr (d + 2) 336 15 [some (.ref 140), some (.int (nI (2 ^ nb) - 1)), some (.int (enc b)), some (.int (nI i)), q.1, q.2] [] (hs_S0, I, L, R)) (fun i b q hi hb => by
    refine ⟨⟨(some (.int (Wm (I 145) nq i)), some (.int (nI nq))), ?_⟩, ?_⟩
    · show hs_R scr (d + 2) 336 15 _ _ _ = hs_R scr (d + 2) 336 15 _ _ _
      rw [b336_15 o11, hc5', sh1 nq (by omega), if_neg (nI_ge hi (by omega)), m336_in o11 hc5 hq (by omega), b336_33 o11, hc5', if_pos (nI_le (Nat.le_refl _) (by omega))]
      by_cases q : Wm (I 145) nq i = nI (2 ^ nb) - 1
      · rw [if_pos q]
        cases b with
        | none =>
          rw [show gPr (I 145) nq (nI (2 ^ nb) - 1) i none = some i from if_pos q]
          rw [show enc none = -1 from rfl, if_pos (by decide), b336_114, b336_116, nI_1]; rfl
        | some m =>
          have hm := hb m rfl
          have z1 := szN_le i
          have z2 := szN_le m
          rw [show gPr (I 145) nq (nI (2 ^ nb) - 1) i (some m) = (if szN m ≤ szN i then some m else some i) from if_pos q]
          rw [show enc (some m) = nI m from rfl, if_neg (nI_pos (by omega)), m321]
          simp only [Option.bind_some, Option.toList_some, Option.toList_none, List.append_nil, List.cons_append, List.nil_append, ↓reduceIte, true_or, or_true, Nat.reduceAdd, Nat.add_assoc, b336_107, m321, b336_111]
          by_cases q2 : szN m ≤ szN i
          · rw [if_pos q2, if_pos (show nI (cn (q321 (nI m)) 10) ≤ nI (cn (q321 (nI i)) 10) from nI_le q2 (by have : cn (q321 (nI i)) 10 ≤ 10 := z1; omega)), b336_116, nI_1]; rfl
          · rw [if_neg q2, if_neg (show ¬ nI (cn (q321 (nI m)) 10) ≤ nI (cn (q321 (nI i)) 10) from nI_ge (by have : ¬ cn (q321 (nI m)) 10 ≤ cn (q321 (nI i)) 10 := q2; omega) (by have : cn (q321 (nI m)) 10 ≤ 10 := z2; omega)), b336_114, b336_116, nI_1]; rfl
      · rw [if_neg q, show gPr (I 145) nq (nI (2 ^ nb) - 1) i b = b from if_neg q, b336_116, nI_1]
    · intro m hm
      unfold gPr at hm
      split at hm
      · cases b with
        | none => cases hm; omega
        | some m' =>
          simp only at hm
          split at hm
          · cases hm; exact hb _ rfl
          · cases hm; omega
      · exact hb m hm) none (none, none) (fun m hm => by cases hm) (2 ^ nq) (Nat.le_refl _)
  rw [e336, b336_0 o11, hc4', sh1 nb (by omega)]
  refine hl.trans ?_
  rw [b336_15 o11, hc5', sh1 nq (by omega), if_pos (nI_le (Nat.le_refl _) (by omega))]
theorem pr_lt {al : Int32} {N : Nat} (hN : N ≤ 1024) : ∀ m, fo (gPr c nq al) N none = some m → m < 1024 := by
  have := (fo_up (n := N) (g := gPr c nq al) (head := fun (_ : Nat) (_ : Option Nat) => ()) (P := fun _ b => ∀ m, b = some m → m < 1024) (fun i b hi hb => ⟨rfl, by
    intro m hm
    unfold gPr at hm
    split at hm
    · cases b with
      | none => cases hm; omega
      | some m' =>
        simp only at hm
        split at hm
        · cases hm; exact hb _ rfl
        · cases hm; omega
    · exact hb m hm⟩) (s := none) (fun m hm => by cases hm) N (Nat.le_refl _)).2
  exact this
theorem ca49 : CA49 scr hs_S0 Rel 99 := by
  intro I L R hP
  obtain ⟨rt, st, pt, qt, n, np, nr, nl, nb, nq, hA⟩ := hP; obtain ⟨hE, ⟨⟨hn8, hc0, hx0, hh⟩, ⟨hp5, hc1, hx1, hpp⟩, ⟨hr6, hc2, hx2, hrr, hru⟩, ⟨hl6, hc3, hx3, hll⟩, ⟨hb6, hq10, hc4, hx4, hc5, hx5, hqq⟩, hD, hN, hG⟩, hT, hTx, hM, hK⟩ := id hA; have o10 := k10_2 hE.1; have o11 := k11_140 hE.1; have o4 := Env_4 hE; have o1 : ok1 hs_S0 R (rt + 5) := o4.2.2.2.2.2.1; have r10_8 := hE.2.1; have hrt := hE.2.2.2.2.2.1; have hpt := hE.2.2.2.2.2.2
  have hN : 2 ^ nq ≤ 1024 := Nat.pow_le_pow_right (i := nq) (j := 10) (by omega) (by omega)
  obtain ⟨I', e1, f1⟩ := x153 (scr := scr) (d := 97) (L := L) o10 r10_8 o4 (by omega) hA.2.1.2.2.2.2.1
  have hm := fun (J : Nat → Nat → Int32) (hJ : J 145 = I 145) => m336 (scr := scr) (d := 96) (L := L) (R := R) (I := J) (nb := nb) (nq := nq) o11 (by rw [hJ]; exact hc4) (by rw [hJ]; exact hc5) hb6 hq10
  cases hf : fo (gPr (I 145) nq (nI (2 ^ nb) - 1)) (2 ^ nq) none with
  | none =>
    rw [hf] at e1
    have hJ : hs_u (hs_u (hs_u I' 2 16 8) 140 1 0) 140 0 0 145 = I 145 := by simp (disch := omega) only [hu_same, hu_row, hu_at, hu_hu, f1]
    have hm' := hm _ hJ
    rw [hJ, hf] at hm'
    refine CK_17 hA (-1) 8 f1 ?_ ?_
    · simp (disch := omega) only [Option.bind_some, Option.toList_some, Option.toList_none, List.append_nil, List.cons_append, List.nil_append, ↓reduceIte, true_or, or_true, Nat.reduceAdd, Nat.add_assoc, f_ge, t_le, t_lt, f_lt, f_l0, t_0l, t_pl, t_eq, f_eq, f_e0, i10, i01, ib_nI, nI_clamp, nI_add, ad10, ad18, ad26, ad34, ad42, ad47, ad52, ad59, ad107, ad117, ml8, mr8, ml5, ml10, hu_same, hu_row, hu_at, hu_hu, e152, b152_0 o10, b152_4 o10, b152_15, b152_23 o10, b152_26, e28, b28_0 o10, e1, show enc none = -1 from rfl, f0m]
    · simp (disch := omega) only [Option.bind_some, Option.toList_some, Option.toList_none, List.append_nil, List.cons_append, List.nil_append, ↓reduceIte, true_or, or_true, Nat.reduceAdd, Nat.add_assoc, f_ge, t_le, t_lt, f_lt, f_l0, t_0l, t_pl, t_eq, f_eq, f_e0, i10, i01, ib_nI, nI_clamp, nI_add, ad10, ad18, ad26, ad34, ad42, ad47, ad52, ad59, ad107, ad117, ml8, mr8, ml5, ml10, hu_same, hu_row, hu_at, hu_hu, e335, b335_0 o11, b335_14 o11, b335_25, b335_32, e265, b265_0 o11, hm', show enc none = -1 from rfl, f0m]
  | some b =>
    have hb := pr_lt hN b hf
    rw [hf] at e1
    have hJ : hs_u (hs_u (hs_u I' 2 16 0) 140 1 0) 140 0 0 145 = I 145 := by simp (disch := omega) only [hu_same, hu_row, hu_at, hu_hu, f1]
    have hm' := hm _ hJ
    rw [hJ, hf] at hm'
    refine CK_17 hA (nI (cn (q321 (nI b)) 10)) 0 f1 ?_ ?_
    · simp (disch := omega) only [Option.bind_some, Option.toList_some, Option.toList_none, List.append_nil, List.cons_append, List.nil_append, ↓reduceIte, true_or, or_true, Nat.reduceAdd, Nat.add_assoc, f_ge, t_le, t_lt, f_lt, f_l0, t_0l, t_pl, t_eq, f_eq, f_e0, i10, i01, ib_nI, nI_clamp, nI_add, ad10, ad18, ad26, ad34, ad42, ad47, ad52, ad59, ad107, ad117, ml8, mr8, ml5, ml10, hu_same, hu_row, hu_at, hu_hu, e152, b152_0 o10, b152_4 o10, b152_15, b152_23 o10, b152_26, e68, b68_0 o10, e1, show enc (some b) = nI b from rfl, x139, p_eq]
    · simp (disch := omega) only [Option.bind_some, Option.toList_some, Option.toList_none, List.append_nil, List.cons_append, List.nil_append, ↓reduceIte, true_or, or_true, Nat.reduceAdd, Nat.add_assoc, f_ge, t_le, t_lt, f_lt, f_l0, t_0l, t_pl, t_eq, f_eq, f_e0, i10, i01, ib_nI, nI_clamp, nI_add, ad10, ad18, ad26, ad34, ad42, ad47, ad52, ad59, ad107, ad117, ml8, mr8, ml5, ml10, hu_same, hu_row, hu_at, hu_hu, e335, b335_0 o11, b335_14 o11, b335_25, b335_32, hm', show enc (some b) = nI b from rfl, m321]
theorem ca50 : CA50 scr hs_S0 Rel 99 := by
  intro I L R hP
  obtain ⟨rt, st, pt, qt, n, np, nr, nl, nb, nq, hA⟩ := hP; obtain ⟨hE, ⟨⟨hn8, hc0, hx0, hh⟩, ⟨hp5, hc1, hx1, hpp⟩, ⟨hr6, hc2, hx2, hrr, hru⟩, ⟨hl6, hc3, hx3, hll⟩, ⟨hb6, hq10, hc4, hx4, hc5, hx5, hqq⟩, hD, hN, hG⟩, hT, hTx, hM, hK⟩ := id hA; have o10 := k10_2 hE.1; have o11 := k11_140 hE.1; have o4 := Env_4 hE; have o1 : ok1 hs_S0 R (rt + 5) := o4.2.2.2.2.2.1; have r10_8 := hE.2.1; have hrt := hE.2.2.2.2.2.1; have hpt := hE.2.2.2.2.2.2
  have hN : 2 ^ nq ≤ 1024 := Nat.pow_le_pow_right (i := nq) (j := 10) (by omega) (by omega)
  obtain ⟨I', e1, f1⟩ := x153 (scr := scr) (d := 97) (L := L) o10 r10_8 o4 (by omega) hA.2.1.2.2.2.2.1
  have hm := fun (J : Nat → Nat → Int32) (hJ : J 145 = I 145) => m336 (scr := scr) (d := 96) (L := L) (R := R) (I := J) (nb := nb) (nq := nq) o11 (by rw [hJ]; exact hc4) (by rw [hJ]; exact hc5) hb6 hq10
  cases hf : fo (gPr (I 145) nq (nI (2 ^ nb) - 1)) (2 ^ nq) none with
  | none =>
    rw [hf] at e1
    have hJ : hs_u (hs_u (hs_u I' 2 16 8) 140 1 0) 140 0 0 145 = I 145 := by simp (disch := omega) only [hu_same, hu_row, hu_at, hu_hu, f1]
    have hm' := hm _ hJ
    rw [hJ, hf] at hm'
    refine CK_17 hA (-1) 8 f1 ?_ ?_
    · simp (disch := omega) only [Option.bind_some, Option.toList_some, Option.toList_none, List.append_nil, List.cons_append, List.nil_append, ↓reduceIte, true_or, or_true, Nat.reduceAdd, Nat.add_assoc, f_ge, t_le, t_lt, f_lt, f_l0, t_0l, t_pl, t_eq, f_eq, f_e0, i10, i01, ib_nI, nI_clamp, nI_add, ad10, ad18, ad26, ad34, ad42, ad47, ad52, ad59, ad107, ad117, ml8, mr8, ml5, ml10, hu_same, hu_row, hu_at, hu_hu, e154, b154_0 o10, b154_4 o10, b154_15, b154_23, e28, b28_0 o10, e1, show enc none = -1 from rfl, f0m]
    · simp (disch := omega) only [Option.bind_some, Option.toList_some, Option.toList_none, List.append_nil, List.cons_append, List.nil_append, ↓reduceIte, true_or, or_true, Nat.reduceAdd, Nat.add_assoc, f_ge, t_le, t_lt, f_lt, f_l0, t_0l, t_pl, t_eq, f_eq, f_e0, i10, i01, ib_nI, nI_clamp, nI_add, ad10, ad18, ad26, ad34, ad42, ad47, ad52, ad59, ad107, ad117, ml8, mr8, ml5, ml10, hu_same, hu_row, hu_at, hu_hu, e337, b337_0 o11, b337_14 o11, b337_25, b337_29, e265, b265_0 o11, hm', show enc none = -1 from rfl, f0m]
  | some b =>
    have hb := pr_lt hN b hf
    rw [hf] at e1
    have hJ : hs_u (hs_u (hs_u I' 2 16 0) 140 1 0) 140 0 0 145 = I 145 := by simp (disch := omega) only [hu_same, hu_row, hu_at, hu_hu, f1]
    have hm' := hm _ hJ
    rw [hJ, hf] at hm'
    refine CK_17 hA (nI b) 0 f1 ?_ ?_
    · simp (disch := omega) only [Option.bind_some, Option.toList_some, Option.toList_none, List.append_nil, List.cons_append, List.nil_append, ↓reduceIte, true_or, or_true, Nat.reduceAdd, Nat.add_assoc, f_ge, t_le, t_lt, f_lt, f_l0, t_0l, t_pl, t_eq, f_eq, f_e0, i10, i01, ib_nI, nI_clamp, nI_add, ad10, ad18, ad26, ad34, ad42, ad47, ad52, ad59, ad107, ad117, ml8, mr8, ml5, ml10, hu_same, hu_row, hu_at, hu_hu, e154, b154_0 o10, b154_4 o10, b154_15, b154_23, e68, b68_0 o10, e1, show enc (some b) = nI b from rfl]
    · simp (disch := omega) only [Option.bind_some, Option.toList_some, Option.toList_none, List.append_nil, List.cons_append, List.nil_append, ↓reduceIte, true_or, or_true, Nat.reduceAdd, Nat.add_assoc, f_ge, t_le, t_lt, f_lt, f_l0, t_0l, t_pl, t_eq, f_eq, f_e0, i10, i01, ib_nI, nI_clamp, nI_add, ad10, ad18, ad26, ad34, ad42, ad47, ad52, ad59, ad107, ad117, ml8, mr8, ml5, ml10, hu_same, hu_row, hu_at, hu_hu, e337, b337_0 o11, b337_14 o11, b337_25, b337_29, hm', show enc (some b) = nI b from rfl]
end PR
