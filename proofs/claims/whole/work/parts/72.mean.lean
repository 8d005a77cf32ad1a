/-! mean -/
section MN
variable {scr : List Int32} {d dx D n np nr nl nb nq t p u sz c T s rt st pt qt i y m : Nat} {r z : Nat → Int32} {ww : Nat → Int64} {w6 : Option Value} {I J0 : Nat → Nat → Int32} {L L2 : Nat → Nat → Int64} {R R2 : Nat → Nat → Nat}
def rst (r r' : Nat → Int32) (j : Nat) : Nat → Int32 := fun i => if i < j then r i else r' i
theorem rst_s {r r' : Nat → Int32} {j : Nat} : up (rst r r' j) j (r j) = rst r r' (j + 1) := by
  funext i
  unfold up rst
  by_cases g : i = j
  · subst g; rw [if_pos rfl, if_pos (by omega)]
  · rw [if_neg g]
    by_cases h : i < j
    · rw [if_pos h, if_pos (by omega)]
    · rw [if_neg h, if_neg (by omega)]
theorem m357r (o11 : ok11 hs_S0 R2 140) {r r' : Nat → Int32} (hb : ∀ b, b < 127 → J0 147 b = r b) (h127 : ∀ i, 127 ≤ i → r' i = r i) {x1 x2 x5 : Int32} {y3 : Int64} : ∀ k j, j + k = 127 → hs_R scr d 357 123 [some (.ref 140), some (.int x1), some (.int x2), some (.long y3), none, some (.int x5), some (.int (nI j))] [] (hs_S0, mkM J0 (rst r r' j) z, L2, R2) = hs_R scr d 357 123 [some (.ref 140), some (.int x1), some (.int x2), some (.long y3), none, some (.int x5), some (.int (nI 127))] [] (hs_S0, mkM J0 r z, L2, R2)
  | 0, j, e => by
    have : j = 127 := by omega
    subst this
    have : rst r r' 127 = r := by
      funext i; unfold rst
      by_cases g : i < 127
      · rw [if_pos g]
      · rw [if_neg g, h127 i (by omega)]
    rw [this]
  | k + 1, j, e => by
    have h147 : mkM J0 (rst r r' j) z 147 = J0 147 := mk_row (by omega) (by omega)
    rw [b357_123 o11]
    simp (disch := omega) only [Option.bind_some, Option.toList_some, Option.toList_none, List.append_nil, List.cons_append, List.nil_append, ↓reduceIte, true_or, or_true, Nat.reduceAdd, Nat.add_assoc, f_ge, t_le, t_lt, f_lt, f_l0, t_0l, t_pl, t_eq, f_eq, f_e0, i10, i01, ib_nI, nI_clamp, nI_add, ad10, ad18, ad26, ad34, ad42, ad47, ad52, ad59, ad107, ad117, ml8, mr8, ml5, ml10, f127, h147, hb, mk_145, mk_u, mk_33, mk_34, mk_35, mk_36, mk_37, mk_38, mk_32, mk_39, mk_u33, mk_u34, mk_u35, mk_u36, mk_u37, mk_u38, mk_u32, mk_u39, rst_s, nI_1]
    exact m357r o11 hb h127 k (j + 1) (by omega)
theorem mean_it (o11 : ok11 hs_S0 R2 140) (hE : Env R rt st pt qt) (hX : RX n np nr nl nb nq r ww I L rt pt) (h1 : r 127 = 1) (hs : s + i < 65536) (hb : ∀ b, b < 127 → J0 147 b = r b) (hi : i < m) (hm : m ≤ 20) : ∃ I' L' z' a, a ≤ 792 ∧ hs_R scr 99 184 54 [some (.ref 2), some (.int (nI s)), some (.int (nI m)), some (.long (lN y)), none, some (.int (nI i))] [] (hs_S0, I, L, R) = hs_R scr 99 184 54 [some (.ref 2), some (.int (nI s)), some (.int (nI m)), some (.long (lN (y + a))), none, some (.int (nI (i + 1)))] [] (hs_S0, I', L', hs_u (hs_u R 64 7 pt) 64 8 st) ∧ hs_R scr 99 357 91 [some (.ref 140), some (.int (nI s)), some (.int (nI m)), some (.long (lN y)), none, some (.int (nI i)), w6] [] (hs_S0, mkM J0 r z, L2, R2) = hs_R scr 99 357 91 [some (.ref 140), some (.int (nI s)), some (.int (nI m)), some (.long (lN (y + a))), none, some (.int (nI (i + 1))), some (.int (nI 127))] [] (hs_S0, mkM J0 r z', L2, R2) ∧ (∀ j, (j < st ∨ st + 16 ≤ j) → j ≠ 64 → j ≠ 65 → I' j = I j) ∧ (∀ j, j ≠ st + 2 → L' j = L j) := by
  have o10 := k10_2 hE.1
  have hrt := hE.2.2.2.2.2.1
  have hpt := hE.2.2.2.2.2.2
  have r8 : R 2 8 = rt := hE.2.1
  have r9 : R 2 9 = st := hE.2.2.1
  have r10 : R 2 10 = pt := hE.2.2.2.1
  have o4 := Env_4 hE
  have o4s := Env_4s hE
  have o5 := Env_5 hE
  have h16 : I rt 16 = 0 ∨ I rt 16 = 1 := by
    have := hX.2.2.2.2.2.1.2.2.2
    rw [this.1]; exact this.2
  obtain ⟨I1, L1, e185', a1, a2, a3, a4⟩ := x185 (scr := scr) (d := 97) (I := I) (L := L) o4s o4 (by omega) h16
  have hX1 : RX n np nr nl nb nq r ww I1 L1 st pt := RX_cb hX (fun k hk => rfl) (fun k hk => rfl) a4 a3 (fun o b hh => by rw [a1 _ (by omega)])
  have hE1 : Env (hs_u R 64 7 pt) rt st pt qt := Env_u hE (by omega) (by decide)
  have hE2 : Env (hs_u (hs_u R 64 7 pt) 64 8 st) rt st pt qt := Env_u hE1 (by omega) (by decide)
  have hLE : LE (hs_u (hs_u R 64 7 pt) 64 8 st) 64 st pt := ⟨k2_64 hE2.1, by rw [hu_at _ _ (by omega), hu_same], hu_same _ _ _ _, Env_4s hE2, Env_5 hE2, by omega, by omega, Or.inr rfl⟩
  obtain ⟨I2, r2, z2, eX, eM, hX2, hZ2, hF2, h127, -⟩ := runs (scr := scr) (dx := 93) (D := 98) (J0 := J0) (z := z) (L2 := L2) (s := s + i) o11 (k2_64 hE.1) (k2_64 hE1.1) o5 (Env_4s hE1) hLE hX1 h1 hs (by omega)
  have o10' := k10_2 hE2.1
  have r9' : hs_u (hs_u R 64 7 pt) 64 8 st 2 9 = st := hE2.2.2.1
  have o4s' := Env_4s hE2
  have hh := hX2.1.2.2.2
  have hn8 := hX2.1.1
  have hf : ∀ k, k < n → r2 (10 + k) = nI (r2 (10 + k)).toNatClampNeg := fun k hk => (bd_tn (hh k hk).2.2.2.2.1 (by omega)).1
  have hle : ∀ k, k < n → (r2 (10 + k)).toNatClampNeg ≤ 99 := fun k hk => (bd_tn (hh k hk).2.2.2.2.1 (by omega)).2
  have hsum : fo (gLen r2) n 0 = nI (smN (fun k => (r2 (10 + k)).toNatClampNeg) n) := fo_sm (g := fun k => r2 (10 + k)) hf
  have b1 := smN_le (m := 99) hle
  obtain ⟨a, ha⟩ : ∃ a, a = smN (fun k => (r2 (10 + k)).toNatClampNeg) n := ⟨_, rfl⟩
  rw [← ha] at hsum b1
  have x86' := x86 (scr := scr) (d := 98) (L := L1) (R := hs_u (hs_u R 64 7 pt) 64 8 st) (show ok1 hs_S0 _ (st + 5) from o4s'.2.2.2.2.2.1) hX2.1
  rw [hsum] at x86'
  refine ⟨I2, L1, z2, a, by omega, ?_, ?_, fun j h1 h2 h3 => (hF2 j h1 h2 (by omega)).trans (a1 j h1), a2⟩
  · rw [b184_54 o10 r9 o4s r8 o4, if_neg (nI_ge hi (by omega)), e185']
    simp only [Option.bind_some, Option.toList_some, Option.toList_none, List.append_nil, List.cons_append, List.nil_append, ↓reduceIte, true_or, or_true, Nat.reduceAdd, Nat.add_assoc]
    rw [b184_71 o10 r10 o5 r9 o4s, nI_add, show (2 + 62 : Nat) = 64 from rfl, eX]
    simp only [Option.bind_some, Option.toList_some, Option.toList_none, List.append_nil, List.cons_append, List.nil_append, ↓reduceIte, true_or, or_true, Nat.reduceAdd, Nat.add_assoc]
    rw [b184_90 o10' r9' o4s', x86']
    simp only [Option.bind_some, Option.toList_some, Option.toList_none, List.append_nil, List.cons_append, List.nil_append, ↓reduceIte, true_or, or_true, Nat.reduceAdd, Nat.add_assoc]
    rw [b184_101, nI_l (by omega), lN_add, nI_1]
  · have h269 := m269 (scr := scr) (d := 98) (I := mkM J0 r2 z2) (L := L2) (R := R2) (n := n) o11 (by rw [mk_145]; exact hX2.1.2.1) hn8
    rw [mk_145, hsum] at h269
    have h0 : mkM J0 r2 z2 (140 + 5) 0 = nI n := by show mkM J0 r2 z2 145 0 = _; rw [mk_145]; exact hX2.1.2.1
    rw [b357_91 o11, if_neg (nI_ge hi (by omega)), nI_add, eM]
    simp only [Option.bind_some, Option.toList_some, Option.toList_none, List.append_nil, List.cons_append, List.nil_append, ↓reduceIte, true_or, or_true, Nat.reduceAdd, Nat.add_assoc]
    rw [b357_105 o11, h0, h269]
    simp only [Option.bind_some, Option.toList_some, Option.toList_none, List.append_nil, List.cons_append, List.nil_append, ↓reduceIte, true_or, or_true, Nat.reduceAdd, Nat.add_assoc]
    rw [b357_117, nI_l (by omega), lN_add]
    have hr := m357r (scr := scr) (d := 99) (z := z2) (L2 := L2) (x1 := nI s) (x2 := nI m) (x5 := nI i) (y3 := lN (y + a)) o11 hb h127 127 0 rfl
    have hr0 : rst r r2 0 = r2 := by funext i; unfold rst; rw [if_neg (by omega)]
    rw [hr0, nI_0] at hr
    rw [hr, b357_123 o11, if_pos (show (127 : Int32) ≤ nI 127 by decide), nI_1]
theorem mean_lp (o11 : ok11 hs_S0 R2 140) (hs : s + 20 < 65536) (hm : m ≤ 20) (h1 : r 127 = 1) (hb : ∀ b, b < 127 → J0 147 b = r b) : ∀ k i {y : Nat} {w6 : Option Value} {z : Nat → Int32} {I : Nat → Nat → Int32} {L : Nat → Nat → Int64} {R : Nat → Nat → Nat}, i + k = m → y ≤ 792 * i → Env R rt st pt qt → RX n np nr nl nb nq r ww I L rt pt → ∃ I' L' R' z' y' w', y' ≤ 792 * m ∧ hs_R scr 99 184 54 [some (.ref 2), some (.int (nI s)), some (.int (nI m)), some (.long (lN y)), none, some (.int (nI i))] [] (hs_S0, I, L, R) = hs_R scr 99 184 54 [some (.ref 2), some (.int (nI s)), some (.int (nI m)), some (.long (lN y')), none, some (.int (nI m))] [] (hs_S0, I', L', R') ∧ hs_R scr 99 357 91 [some (.ref 140), some (.int (nI s)), some (.int (nI m)), some (.long (lN y)), none, some (.int (nI i)), w6] [] (hs_S0, mkM J0 r z, L2, R2) = hs_R scr 99 357 91 [some (.ref 140), some (.int (nI s)), some (.int (nI m)), some (.long (lN y')), none, some (.int (nI m)), w'] [] (hs_S0, mkM J0 r z', L2, R2) ∧ (∀ j, (j < st ∨ st + 16 ≤ j) → j ≠ 64 → j ≠ 65 → I' j = I j) ∧ (∀ j, j ≠ st + 2 → L' j = L j) ∧ Env R' rt st pt qt
  | 0, i, y, w6, z, I, L, R, e, hy, hE, hX => by
    have : i = m := by omega
    subst this
    exact ⟨I, L, R, z, y, w6, hy, rfl, rfl, fun _ _ _ _ => rfl, fun _ _ => rfl, hE⟩
  | k + 1, i, y, w6, z, I, L, R, e, hy, hE, hX => by
    obtain ⟨I1, L1, z1, a, ha, eX, eM, hF, hFL⟩ := mean_it (scr := scr) (L2 := L2) (z := z) (w6 := w6) (y := y) o11 hE hX h1 (show s + i < 65536 by omega) hb (show i < m by omega) hm
    have hrt := hE.2.2.2.2.2.1
    have hpt := hE.2.2.2.2.2.2
    have hE2 : Env (hs_u (hs_u R 64 7 pt) 64 8 st) rt st pt qt := Env_u (Env_u hE (by omega) (by decide)) (by omega) (by decide)
    have hX1 : RX n np nr nl nb nq r ww I1 L1 rt pt := RX_cg hX (fun k hk => rfl) (fun k hk => rfl) (fun o ho => hF _ (by omega) (by omega) (by omega)) (hFL _ (by omega)) (fun o ho => hF _ (by omega) (by omega) (by omega))
    obtain ⟨I', L', R', z', y', w', b1, b2, b3, b4, b5, b6⟩ := mean_lp o11 hs hm h1 hb k (i + 1) (y := y + a) (w6 := some (.int (nI 127))) (z := z1) (by omega) (by omega) hE2 hX1
    exact ⟨I', L', R', z', y', w', b1, eX.trans b2, eM.trans b3, fun j h1 h2 h3 => (b4 j h1 h2 h3).trans (hF j h1 h2 h3), fun j h1 => (b5 j h1).trans (hFL j h1), b6⟩
theorem m357s (o11 : ok11 hs_S0 R2 140) {x1 x2 : Int32} {J : Nat → Nat → Int32} : ∀ k j, j + k = 127 → hs_R scr d 357 62 [some (.ref 140), some (.int x1), some (.int x2), some (.int (nI j)), none, none, none] [] (hs_S0, wr J 147 0 j (J 145), L2, R2) = hs_R scr d 357 62 [some (.ref 140), some (.int x1), some (.int x2), some (.int (nI 127)), none, none, none] [] (hs_S0, wr J 147 0 127 (J 145), L2, R2)
  | 0, j, e => by
    have : j = 127 := by omega
    subst this; rfl
  | k + 1, j, e => by
    have h145 : wr J 147 0 j (J 145) 145 = J 145 := wr_row _ _ (by omega)
    have hw := wr_s J 147 0 j (J 145)
    rw [Nat.zero_add] at hw
    rw [b357_62 o11]
    simp (disch := omega) only [Option.bind_some, Option.toList_some, Option.toList_none, List.append_nil, List.cons_append, List.nil_append, ↓reduceIte, true_or, or_true, Nat.reduceAdd, Nat.add_assoc, f_ge, t_le, t_lt, f_lt, f_l0, t_0l, t_pl, t_eq, f_eq, f_e0, i10, i01, ib_nI, nI_clamp, nI_add, ad10, ad18, ad26, ad34, ad42, ad47, ad52, ad59, ad107, ad117, ml8, mr8, ml5, ml10, f127, h145, hw, nI_1]
    exact m357s o11 k (j + 1) (by omega)
theorem ca58 : CA58 scr hs_S0 Rel 99 := by
  intro x y I L R hP
  obtain ⟨rt, st, pt, qt, n, np, nr, nl, nb, nq, hA⟩ := hP; obtain ⟨hE, ⟨⟨hn8, hc0, hx0, hh⟩, ⟨hp5, hc1, hx1, hpp⟩, ⟨hr6, hc2, hx2, hrr, hru⟩, ⟨hl6, hc3, hx3, hll⟩, ⟨hb6, hq10, hc4, hx4, hc5, hx5, hqq⟩, hD, hN, hG⟩, hT, hTx, hM, hK⟩ := id hA; have o10 := k10_2 hE.1; have o11 := k11_140 hE.1; have o4 := Env_4 hE; have o1 : ok1 hs_S0 R (rt + 5) := o4.2.2.2.2.2.1; have r10_8 := hE.2.1; have hrt := hE.2.2.2.2.2.1; have hpt := hE.2.2.2.2.2.2
  have o5 := Env_5 hE
  have r10_10 : R 2 10 = pt := hE.2.2.2.1
  have hp7 : I pt 7 = I 145 127 := hG.1
  have h127 : I 145 127 = 0 ∨ I 145 127 = 1 := by
    rcases hG.2 with h | h
    · exact Or.inl h
    · exact Or.inr h.1
  have hbad : (y < 1 ∨ 20 < y) ∨ (¬ y < 1 ∧ ¬ 20 < y ∧ y ≤ 20 ∧ (x < 0 ∨ ((9999 : Int32) - (y - 1)) < x)) → ∃ (v : Int32) (I1 : Nat → Nat → Int32) (L1 : Nat → Nat → Int64) (R1 : Nat → Nat → Nat) (I2 : Nat → Nat → Int32) (L2 : Nat → Nat → Int64) (R2 : Nat → Nat → Nat), hs_C scr 99 184 (.ref 2 :: [.int x, .int y]) (hs_S0, I, L, R) = some (some (.int v), (hs_S0, I1, L1, R1)) ∧ ok11 hs_S0 R1 140 ∧ hs_C scr 99 357 (.ref 140 :: [.int x, .int y]) (hs_S0, I1, L1, R1) = some (some (.int v), (hs_S0, I2, L2, R2)) ∧ Rel I2 L2 R2 := by
    intro hb
    have e26 : ∀ J, hs_R scr 99 184 26 [some (.ref 2), some (.int x), some (.int y), none, none, none] [] (hs_S0, J, L, R) = some (some (.int 0), (hs_S0, hs_u J 2 16 5, L, R)) := fun J => by
      simp only [Option.bind_some, Option.toList_some, Option.toList_none, List.append_nil, List.cons_append, List.nil_append, ↓reduceIte, true_or, or_true, Nat.reduceAdd, Nat.add_assoc, b184_26 o10, e18, b18_0 o10, b184_31]
    have e37 : ∀ J, hs_R scr 99 357 37 [some (.ref 140), some (.int x), some (.int y), none, none, none, none] [] (hs_S0, J, L, R) = some (some (.int 0), (hs_S0, hs_u J 140 0 5, L, R)) := fun J => by
      simp only [Option.bind_some, Option.toList_some, Option.toList_none, List.append_nil, List.cons_append, List.nil_append, ↓reduceIte, true_or, or_true, Nat.reduceAdd, Nat.add_assoc, b357_37 o11, e197, b197_0 o11, b357_42]
    have hxy : (10000 : Int32) - y = (9999 : Int32) - (y - 1) := by
      apply Int32.toBitVec_inj.mp
      rw [Int32.toBitVec_sub, Int32.toBitVec_sub, Int32.toBitVec_sub]
      generalize y.toBitVec = v
      show (10000#32) - v = 9999#32 - (v - 1#32)
      bv_omega
    refine CK_st hA 0 5 ?_ ?_
    · rw [e184, b184_0 o10 r10_10 o5]
      rcases hb with (h | h) | ⟨h1, h2, h3, h4⟩
      · simp only [h, ↓reduceIte, e26, ite_self]
      · simp only [h, ↓reduceIte, e26, ite_self]
      · rcases h4 with h4 | h4
        · simp only [h4, ↓reduceIte, e26]
        · simp only [h1, h2, fun q => (i32_nlt _ _).mpr q h4, (show ¬ x ≤ (9999 : Int32) - (y - 1) from fun q => (i32_nlt _ _).mpr q h4), ↓reduceIte, e26, ite_self]
    · rw [e357, b357_0 o11, s223 1 20 1 20 rfl rfl]
      rcases hb with (h | h) | ⟨h1, h2, h3, h4⟩
      · simp only [Option.bind_some, Option.toList_some, Option.toList_none, List.append_nil, List.cons_append, List.nil_append, ↓reduceIte, true_or, or_true, Nat.reduceAdd, Nat.add_assoc, h, b357_19, e37, hu_same, hu_row, hu_at, hu_hu]
      · simp only [Option.bind_some, Option.toList_some, Option.toList_none, List.append_nil, List.cons_append, List.nil_append, ↓reduceIte, true_or, or_true, Nat.reduceAdd, Nat.add_assoc, (show ¬ y ≤ 20 from fun q => (i32_nlt _ _).mpr q h), b357_19, ite_self, e37, hu_same, hu_row, hu_at, hu_hu]
      · simp only [Option.bind_some, Option.toList_some, Option.toList_none, List.append_nil, List.cons_append, List.nil_append, ↓reduceIte, true_or, or_true, Nat.reduceAdd, Nat.add_assoc, h1, h3, b357_19, i10, s223p, hxy]
        rcases h4 with h4 | h4
        · simp only [Option.bind_some, Option.toList_some, Option.toList_none, List.append_nil, List.cons_append, List.nil_append, ↓reduceIte, true_or, or_true, Nat.reduceAdd, Nat.add_assoc, h4, b357_34 o11, e37, hu_same, hu_row, hu_at, hu_hu]
        · simp only [Option.bind_some, Option.toList_some, Option.toList_none, List.append_nil, List.cons_append, List.nil_append, ↓reduceIte, true_or, or_true, Nat.reduceAdd, Nat.add_assoc, (show ¬ x ≤ (9999 : Int32) - (y - 1) from fun q => (i32_nlt _ _).mpr q h4), b357_34 o11, ite_self, e37, hu_same, hu_row, hu_at, hu_hu]
  rcases rg y 1 20 with hy | ⟨h1, h2, h3⟩
  · exact hbad (Or.inl hy)
  · rcases rg x 0 ((9999 : Int32) - (y - 1)) with hx | ⟨g1, g2, g3⟩
    · exact hbad (Or.inr ⟨h1, h3, h2, hx⟩)
    · obtain ⟨m, hm, rfl⟩ := rg_nat 20 rfl (by decide) h1 h2
      have hm0 : 1 ≤ m := by
        apply Nat.pos_of_ne_zero; rintro rfl; exact h1 (by decide)
      have ey : (9999 : Int32) - (nI m - 1) = nI (10000 - m) := by
        rw [show nI m - 1 = nI (m - 1) from pk_sub (a := m) (b := 1) hm0, show (9999 : Int32) - nI (m - 1) = nI (9999 - (m - 1)) from pk_sub (a := 9999) (b := m - 1) (by omega)]
        rw [show 9999 - (m - 1) = 10000 - m by omega]
      have ey2 : (10000 : Int32) - nI m = nI (10000 - m) := pk_sub (a := 10000) (b := m) (by omega)
      rw [ey] at g2 g3
      obtain ⟨s, hs, rfl⟩ := rg_nat (10000 - m) (nI_toInt (by omega)) (by decide) g1 g2
      rcases h127 with h0 | h0
      · refine CK_st hA 0 8 ?_ ?_
        · simp (disch := omega) only [Option.bind_some, Option.toList_some, Option.toList_none, List.append_nil, List.cons_append, List.nil_append, ↓reduceIte, true_or, or_true, Nat.reduceAdd, Nat.add_assoc, f_ge, t_le, t_lt, f_lt, f_l0, t_0l, t_pl, t_eq, f_eq, f_e0, i10, i01, ib_nI, nI_clamp, nI_add, ad10, ad18, ad26, ad34, ad42, ad47, ad52, ad59, ad107, ad117, ml8, mr8, ml5, ml10, hu_same, hu_row, hu_at, hu_hu, b184_0 o10 r10_10 o5, e184, h1, h3, g1, ey, hp7, h0, e18, b18_0 o10, b184_48]
        · simp (disch := omega) only [Option.bind_some, Option.toList_some, Option.toList_none, List.append_nil, List.cons_append, List.nil_append, ↓reduceIte, true_or, or_true, Nat.reduceAdd, Nat.add_assoc, f_ge, t_le, t_lt, f_lt, f_l0, t_0l, t_pl, t_eq, f_eq, f_e0, i10, i01, ib_nI, nI_clamp, nI_add, ad10, ad18, ad26, ad34, ad42, ad47, ad52, ad59, ad107, ad117, ml8, mr8, ml5, ml10, hu_same, hu_row, hu_at, hu_hu, e357, b357_0 o11, s223 1 20 1 20 rfl rfl, h1, h2, b357_19, ey2, s223p, g1, b357_34 o11, h0, e197, b197_0 o11, b357_59]
      · have fin : ∀ {I1 : Nat → Nat → Int32} {L1 : Nat → Nat → Int64} {R1 : Nat → Nat → Nat} {y1 : Nat}, y1 ≤ 792 * m → Env R1 rt st pt qt → hs_R scr 99 184 54 [some (.ref 2), some (.int (nI s)), some (.int (nI m)), some (.long (lN y1)), none, some (.int (nI m))] [] (hs_S0, I1, L1, R1) = some (some (.int 1), (hs_S0, hs_u I1 2 16 0, hs_u (hs_u L1 2 17 (lN y1 / lN (Nat.gcd y1 m))) 2 18 (lN m / lN (Nat.gcd y1 m)), R1)) := by
          intro I1 L1 R1 y1 hy1 hE1
          rw [b184_54 (k10_2 hE1.1) hE1.2.2.1 (Env_4s hE1) hE1.2.1 (Env_4 hE1), if_pos (nI_le (Nat.le_refl _) (by omega)), nI_l (by omega), x168 (d := 97) (k10_2 hE1.1) (show y1 < 2 ^ 63 by omega) (show m < 2 ^ 63 by omega) hm0]
          simp only [Option.bind_some, Option.toList_some, Option.toList_none, List.append_nil, List.cons_append, List.nil_append, ↓reduceIte, true_or, or_true, Nat.reduceAdd, Nat.add_assoc, b184_117]
        obtain ⟨I0, L0, R0, -, y0, -, hy0, eX0, -, hF0, hFL0, hE0⟩ := mean_lp (scr := scr) (L2 := L) (J0 := hs_z I 147 (I 145)) (m := m) (s := s) (R2 := R) o11 (by omega) hm h0 (fun b hb => by rw [hz_s]) m 0 (y := 0) (w6 := none) (z := zO I) (by omega) (by omega) hE hA.2.1
        rw [fin hy0 hE0] at eX0
        obtain ⟨IF, hIF⟩ : ∃ IF, IF = hs_u I0 2 16 0 := ⟨_, rfl⟩
        obtain ⟨LF, hLF⟩ : ∃ LF, LF = hs_u (hs_u L0 2 17 (lN y0 / lN (Nat.gcd y0 m))) 2 18 (lN m / lN (Nat.gcd y0 m)) := ⟨_, rfl⟩
        rw [← hIF, ← hLF] at eX0
        obtain ⟨J1, hJ1⟩ : ∃ J1, J1 = hs_u (hs_u IF 140 1 0) 140 0 0 := ⟨_, rfl⟩
        obtain ⟨J0, hJ0⟩ : ∃ J0, J0 = wr J1 147 0 127 (J1 145) := ⟨_, rfl⟩
        have jI : ∀ k, k ≠ 140 → k ≠ 2 → (k < st ∨ st + 16 ≤ k) → k ≠ 64 → k ≠ 65 → J1 k = I k := fun k h1 h2 h3 h4 h5 => by
          rw [hJ1, hIF]; simp (disch := omega) only [hu_row]; exact hF0 k h3 h4 h5
        have jI0 : ∀ k, k ≠ 140 → k ≠ 2 → k ≠ 147 → (k < st ∨ st + 16 ≤ k) → k ≠ 64 → k ≠ 65 → J0 k = I k := fun k h1 h2 h6 h3 h4 h5 => by
          rw [hJ0, wr_row _ _ h6]; exact jI k h1 h2 h3 h4 h5
        have j145 : J1 145 = I 145 := jI 145 (by omega) (by omega) (by omega) (by omega) (by omega)
        have j0145 : J0 145 = I 145 := jI0 145 (by omega) (by omega) (by omega) (by omega) (by omega) (by omega)
        have oF := k11_140 hE0.1
        obtain ⟨I', L', R', z', y', w', hy', eX, eM, -, -, hE'⟩ := mean_lp (scr := scr) (L2 := LF) (J0 := J0) (m := m) (s := s) (R2 := R0) oF (by omega) hm h0 (fun b hb => by rw [hJ0, wr_in _ _ (by omega), j145]; rfl) m 0 (y := 0) (w6 := none) (z := zO J0) (by omega) (by omega) hE hA.2.1
        rw [fin hy' hE'] at eX
        have hh := eX0.symm.trans eX
        simp only [Option.some.injEq, Prod.mk.injEq, true_and] at hh
        obtain ⟨q1, q2, q3⟩ := hh
        have lF : ∀ k, k ≠ 2 → k ≠ st + 2 → LF k = L k := fun k h1 h2 => by
          rw [hLF]; simp (disch := omega) only [hu_row]; exact hFL0 k h2
        refine ⟨1, IF, LF, R0, mkM J0 (I 145) z', hs_u (hs_u LF 140 2 (lN y' / lN (Nat.gcd y' m))) 140 3 (lN m / lN (Nat.gcd y' m)), R0, ?_, oF, ?_, ⟨rt, st, pt, qt, n, np, nr, nl, nb, nq, Rel_fr hA hE0 (fun k hk => ?_) (fun k hk => ?_) (fun k hk => ?_) (fun k hk => ?_) ?_ ?_ ?_ ?_ ?_ ?_ ?_ ?_ ?_ ?_ ?_ ?_ ?_⟩⟩
        · rw [lN0, nI_0] at eX0
          rw [e184, b184_0 o10 r10_10 o5, if_neg g1, if_neg h1, if_neg h3, ey, if_pos g2, hp7, h0, if_neg (by decide)]
          exact eX0
        · have hs' := m357s (scr := scr) (d := 99) (x1 := nI s) (x2 := nI m) (L2 := LF) (J := J1) oF 127 0 rfl
          rw [wr_0, nI_0, ← hJ0] at hs'
          have hs2 : hs_R scr 99 357 62 [some (.ref 140), some (.int (nI s)), some (.int (nI m)), some (.int (nI 127)), none, none, none] [] (hs_S0, J0, LF, R0) = hs_R scr 99 357 91 [some (.ref 140), some (.int (nI s)), some (.int (nI m)), some (.long 0), none, some (.int 0), none] [] (hs_S0, J0, LF, R0) := by
            rw [b357_62 oF, if_pos (show (127 : Int32) ≤ nI 127 by decide)]
          rw [← j0145, mk_id, j0145, lN0, nI_0] at eM
          have h127' : J1 (140 + 5) 127 = 1 := by show J1 145 127 = 1; rw [j145]; exact h0
          have hg1 : ¬ nI m < 1 := h1
          rw [e357, b357_0 oF, s223 1 20 1 20 rfl rfl, ← hJ1]
          simp only [Option.bind_some, Option.toList_some, Option.toList_none, List.append_nil, List.cons_append, List.nil_append, ↓reduceIte, true_or, or_true, Nat.reduceAdd, Nat.add_assoc, h1, h2, b357_19, i10, ey2, s223p, g1, g2]
          rw [b357_34 oF, if_neg (by decide), h127', if_neg (by decide)]
          refine hs'.trans (hs2.trans (eM.trans ?_))
          rw [b357_91 oF, if_pos (nI_le (Nat.le_refl _) (by omega)), nI_l (by omega), m344 oF (show y' < 2 ^ 63 by omega) (show m < 2 ^ 63 by omega) hm0]
          simp only [Option.bind_some, Option.toList_some, Option.toList_none, List.append_nil, List.cons_append, List.nil_append, ↓reduceIte, true_or, or_true, Nat.reduceAdd, Nat.add_assoc, b357_163]
        · rw [mk_row (by omega) (by omega)]; exact jI0 k (by omega) (by omega) (by omega) (by omega) (by omega) (by omega)
        · rw [hu_row _ _ (by omega), hu_row _ _ (by omega)]; exact lF k (by omega) (by omega)
        · rw [mk_145]
        · rw [hu_row _ _ (by omega), hu_row _ _ (by omega), lF 148 (by omega) (by omega)]
        · rw [mk_row (by omega) (by omega), jI0 4 (by omega) (by omega) (by omega) (by omega) (by omega) (by omega)]
        · rw [mk_o (by omega), hJ0, wr_row _ _ (by omega), hJ1, hu_at _ _ (by omega), hu_at _ _ (by omega), hIF, hu_row _ _ (by omega), hF0 140 (by omega) (by omega) (by omega)]
        · rw [mk_row (by omega) (by omega), jI0 4 (by omega) (by omega) (by omega) (by omega) (by omega) (by omega)]
        · rw [mk_o (by omega), hJ0, wr_row _ _ (by omega), hJ1, hu_at _ _ (by omega), hu_at _ _ (by omega), hIF, hu_row _ _ (by omega), hF0 140 (by omega) (by omega) (by omega)]
        · rw [mk_row (by omega) (by omega), jI0 4 (by omega) (by omega) (by omega) (by omega) (by omega) (by omega)]
        · rw [mk_o (by omega), hJ0, wr_row _ _ (by omega), hJ1, hu_at _ _ (by omega), hu_at _ _ (by omega), hIF, hu_row _ _ (by omega), hF0 140 (by omega) (by omega) (by omega)]
        · rw [mk_row (by omega) (by omega), mk_o (by omega), hJ0, wr_row _ _ (by omega), wr_row _ _ (by omega), hJ1, hu_same, hu_row _ _ (by omega), hu_row _ _ (by omega), hIF, hu_same]
        · simp (disch := omega) only [hu_row, hu_at, hu_same]
          rw [q2]; simp (disch := omega) only [hu_row, hu_at, hu_same]
        · simp (disch := omega) only [hu_row, hu_at, hu_same]
          rw [q2]; simp (disch := omega) only [hu_row, hu_at, hu_same]
        · rw [mk_row (by omega) (by omega), hJ0, wr_row _ _ (by omega), hJ1, hu_row _ _ (by omega), hu_row _ _ (by omega), hIF, hu_at _ _ (by omega), hF0 2 (by omega) (by omega) (by omega)]
        · rw [mk_o (by omega), hJ0, wr_row _ _ (by omega), hJ1, hu_at _ _ (by omega), hu_at _ _ (by omega), hIF, hu_row _ _ (by omega), hF0 140 (by omega) (by omega) (by omega)]
        · rw [mk_row (by omega) (by omega), hJ0, wr_row _ _ (by omega), hJ1, hu_row _ _ (by omega), hu_row _ _ (by omega), hIF, hu_at _ _ (by omega), hF0 2 (by omega) (by omega) (by omega)]
        · rw [mk_o (by omega), hJ0, wr_row _ _ (by omega), hJ1, hu_at _ _ (by omega), hu_at _ _ (by omega), hIF, hu_row _ _ (by omega), hF0 140 (by omega) (by omega) (by omega)]
end MN
