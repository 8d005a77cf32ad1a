/-! fractions; share -/
theorem lgc_0 {v : Int64} : (lg_cmp v 0 = 0) ↔ v = 0 := by
  unfold lg_cmp
  by_cases h1 : v > 0
  · rw [if_pos h1]
    exact ⟨fun h => absurd h (by decide), fun h => by rw [h] at h1; exact absurd h1 (by decide)⟩
  · rw [if_neg h1]
    by_cases h2 : v = 0
    · rw [if_pos h2]; exact ⟨fun _ => h2, fun _ => rfl⟩
    · rw [if_neg h2]; exact ⟨fun h => absurd h (by decide), fun h => absurd h h2⟩
theorem lN0 : lN 0 = 0 := rfl
theorem lN_ne {a : Nat} (h : 0 < a) (ha : a < 2 ^ 63) : ¬ lN a = 0 := fun q => by
  have := (pk_lEQ (a := a) (b := 0) ha (by omega)).mp q; omega
theorem gcd_st {a b : Nat} : Nat.gcd b (a % b) = Nat.gcd a b := by
  rw [Nat.gcd_comm b, ← Nat.gcd_rec, Nat.gcd_comm]
section FR
variable {scr : List Int32} {d t rt st pt qt n np nr nl nb nq lp : Nat} {c : Nat → Int32} {I I' J : Nat → Nat → Int32} {L L' : Nat → Nat → Int64} {R : Nat → Nat → Nat} {S : List hs_S}
theorem x169_end {y0 y2 : Int64} {a i : Nat} {w : Option Value} : hs_R scr d 169 9 [some (.long y0), none, some (.long y2), none, some (.long (lN a)), none, some (.long (lN 0)), none, some (.int (nI i)), w, none] [] (S, I, L, R) = some (some (.long (lN a)), (S, I, L, R)) := by
  rw [b169_9]
  split
  · rw [b169_45]
  · rw [if_pos (lgc_0.mpr (show lN 0 = 0 from rfl)), b169_45]
theorem x169_step {y0 y2 : Int64} {a b i : Nat} {w : Option Value} (ha : a < 2 ^ 63) (hb : b < 2 ^ 63) (hb0 : 0 < b) (hi : i < 200) : ∃ w', hs_R scr d 169 9 [some (.long y0), none, some (.long y2), none, some (.long (lN a)), none, some (.long (lN b)), none, some (.int (nI i)), w, none] [] (S, I, L, R) = hs_R scr d 169 9 [some (.long y0), none, some (.long y2), none, some (.long (lN b)), none, some (.long (lN (a % b))), none, some (.int (nI (i + 1))), w', none] [] (S, I, L, R) := by
  refine ⟨some (.long (lN (a % b))), ?_⟩
  rw [b169_9, if_neg (show ¬ (200 : Int32) ≤ nI i from nI_ge (b := 200) hi (by omega)), if_neg (fun q => lN_ne hb0 hb (lgc_0.mp q)), if_neg (lN_ne hb0 hb), pk_lRem ha hb0 hb, nI_1]
theorem x169_loop {y0 y2 : Int64} : ∀ k a b i w, a < 2 ^ 63 → b < 2 ^ 63 → b < 2 ^ k → i + 2 * k ≤ 199 → hs_R scr d 169 9 [some (.long y0), none, some (.long y2), none, some (.long (lN a)), none, some (.long (lN b)), none, some (.int (nI i)), w, none] [] (S, I, L, R) = some (some (.long (lN (Nat.gcd a b))), (S, I, L, R))
  | 0, a, b, i, w, ha, hb, hk, hi => by
    obtain rfl : b = 0 := by omega
    rw [x169_end, Nat.gcd_zero_right]
  | k + 1, a, b, i, w, ha, hb, hk, hi => by
    by_cases hb0 : b = 0
    · subst hb0; rw [x169_end, Nat.gcd_zero_right]
    · obtain ⟨w1, h1⟩ := x169_step (scr := scr) (d := d) (S := S) (I := I) (L := L) (R := R) (y0 := y0) (y2 := y2) (w := w) (i := i) ha hb (by omega) (by omega)
      have hr : a % b < b := Nat.mod_lt _ (by omega)
      rw [h1]
      by_cases hr0 : a % b = 0
      · rw [hr0, x169_end, ← gcd_st, hr0, Nat.gcd_zero_right]
      · obtain ⟨w2, h2⟩ := x169_step (scr := scr) (d := d) (S := S) (I := I) (L := L) (R := R) (y0 := y0) (y2 := y2) (w := w1) (i := i + 1) hb (show a % b < 2 ^ 63 by omega) (by omega) (by omega)
        rw [h2]
        have hs : b % (a % b) < 2 ^ k := by
          have hp : 2 ^ (k + 1) = 2 * 2 ^ k := by rw [Nat.pow_succ, Nat.mul_comm]
          by_cases q : 2 * (a % b) ≤ b
          · have := Nat.mod_lt b (show 0 < a % b by omega); omega
          · rw [Nat.mod_eq_sub_mod (by omega), Nat.mod_eq_of_lt (by omega)]; omega
        rw [x169_loop k (a % b) (b % (a % b)) (i + 1 + 1) w2 (by omega) (by have := Nat.mod_lt b (show 0 < a % b by omega); omega) hs (by omega), gcd_st, gcd_st]
theorem x169 {a b : Nat} (ha : a < 2 ^ 63) (hb : b < 2 ^ 63) : hs_C scr d 169 [.long (lN a), .long (lN b)] (S, I, L, R) = some (some (.long (lN (Nat.gcd a b))), (S, I, L, R)) := by
  rw [e169, b169_0, ← nI_0]
  exact x169_loop 63 a b 0 none ha hb hb (by omega)
theorem m344_loop {y1 y3 : Int64} (o11 : ok11 S R 140) : ∀ b a w, a < 2 ^ 63 → b < 2 ^ 63 → 0 < Nat.gcd a b → hs_R scr d 344 9 [some (.ref 140), some (.long y1), none, some (.long y3), none, some (.long (lN a)), none, some (.long (lN b)), none, w, none] [] (S, I, L, R) = some (some (.int 1), (S, I, hs_u (hs_u L 140 2 (y1 / lN (Nat.gcd a b))) 140 3 (y3 / lN (Nat.gcd a b)), R)) := by
  intro b
  induction b using Nat.strongRecOn with
  | ind b ih =>
    intro a w ha hb hg
    rw [b344_9 o11]
    by_cases hb0 : b = 0
    · subst hb0
      rw [Nat.gcd_zero_right] at hg ⊢
      rw [if_pos (lgc_0.mpr (show lN 0 = 0 from rfl)), if_neg (lN_ne hg ha), if_neg (lN_ne hg ha)]
    · rw [if_neg (fun q => lN_ne (by omega) hb (lgc_0.mp q)), if_neg (lN_ne (by omega) hb), pk_lRem ha (by omega) hb]
      have hr : a % b < b := Nat.mod_lt _ (by omega)
      rw [ih (a % b) hr b _ hb (by omega) (by rw [gcd_st]; exact hg), gcd_st]
theorem m344 {a b : Nat} (o11 : ok11 S R 140) (ha : a < 2 ^ 63) (hb : b < 2 ^ 63) (hb0 : 0 < b) : hs_C scr d 344 [.ref 140, .long (lN a), .long (lN b)] (S, I, L, R) = some (some (.int 1), (S, I, hs_u (hs_u L 140 2 (lN a / lN (Nat.gcd a b))) 140 3 (lN b / lN (Nat.gcd a b)), R)) := by
  have e : (if 0 < lN a then lN a else -lN a) = lN a := by
    by_cases q : a = 0
    · subst q; decide
    · exact if_pos ((pk_lLT (a := 0) (b := a) (by omega) ha).mpr (by omega))
  rw [e344, b344_0, e]
  exact m344_loop o11 b a none ha hb (Nat.gcd_pos_of_pos_right _ hb0)
theorem x168 {a b : Nat} (o10 : ok10 hs_S0 R 2) (ha : a < 2 ^ 63) (hb : b < 2 ^ 63) (hb0 : 0 < b) : hs_C scr (d + 1) 168 [.ref 2, .long (lN a), .long (lN b)] (hs_S0, I, L, R) = some (some (.int 1), (hs_S0, hs_u I 2 16 0, hs_u (hs_u L 2 17 (lN a / lN (Nat.gcd a b))) 2 18 (lN b / lN (Nat.gcd a b)), R)) := by
  have hg : 0 < Nat.gcd a b := Nat.gcd_pos_of_pos_right _ hb0
  have hg2 : Nat.gcd a b < 2 ^ 63 := Nat.lt_of_le_of_lt (Nat.gcd_le_right _ hb0) hb
  have hc : ¬ lg_cmp (lN (Nat.gcd a b)) 0 ≤ 0 := by
    intro q
    have := (i32_nlt 0 (lg_cmp (lN (Nat.gcd a b)) 0)).mpr q
    exact this ((lgc_gt _ _).mpr ((pk_lLT (a := 0) (by omega) hg2).mpr hg))
  rw [e168, b168_0, x169 ha hb]
  simp only [Option.bind_some, Option.toList_some, Option.toList_none, List.append_nil, List.cons_append, List.nil_append, ↓reduceIte, true_or, or_true, Nat.reduceAdd, Nat.add_assoc]
  rw [b168_5 o10, if_neg hc, if_neg (lN_ne hg hg2), if_neg (lN_ne hg hg2), b168_30 o10]
  simp only [Option.bind_some, Option.toList_some, Option.toList_none, List.append_nil, List.cons_append, List.nil_append, ↓reduceIte, true_or, or_true, Nat.reduceAdd, Nat.add_assoc, e20, b20_0 o10, b168_34]
theorem Rel_fq (h : RelA rt st pt qt n np nr nl nb nq I L R) (hI : ∀ k, k ≠ 2 → k ≠ 140 → k ≠ 146 → k ≠ 147 → k ≠ 149 → k ≠ 17 → k ≠ 15 → k ≠ 16 → I' k = I k) (hL : ∀ k, k ≠ 2 → k ≠ 140 → k ≠ 150 → L' k = L k) (h2 : ∀ f, f ≠ 16 → I' 2 f = I 2 f) (h3 : ∀ f, f ≠ 0 → f ≠ 1 → f ≠ 28 → I' 140 f = I 140 f) (hs : I' 2 16 = I' 140 0) (hq1 : L' 2 17 = L' 140 2) (hq2 : L' 2 18 = L' 140 3) : Rel I' L' R := by
  have he := h.1.2.2.2.2.2
  exact ⟨rt, st, pt, qt, n, np, nr, nl, nb, nq, Rel_fr h h.1 (fun k hk => hI k (by omega) (by omega) (by omega) (by omega) (by omega) (by omega) (by omega) (by omega)) (fun k hk => hL k (by omega) (by omega) (by omega)) (fun k _ => by rw [hI 145 (by omega) (by omega) (by omega) (by omega) (by omega) (by omega) (by omega) (by omega)]) (fun k _ => by rw [hL 148 (by omega) (by omega) (by omega)]) (by rw [hI 4 (by omega) (by omega) (by omega) (by omega) (by omega) (by omega) (by omega) (by omega)]) (h3 8 (by omega) (by omega) (by omega)) (by rw [hI 4 (by omega) (by omega) (by omega) (by omega) (by omega) (by omega) (by omega) (by omega)]) (h3 10 (by omega) (by omega) (by omega)) (by rw [hI 4 (by omega) (by omega) (by omega) (by omega) (by omega) (by omega) (by omega) (by omega)]) (h3 11 (by omega) (by omega) (by omega)) hs hq1 hq2 (h2 14 (by omega)) (h3 31 (by omega) (by omega) (by omega)) (h2 15 (by omega)) (h3 24 (by omega) (by omega) (by omega))⟩
def smN (f : Nat → Nat) : Nat → Nat
  | 0 => 0
  | n + 1 => smN f n + f n
theorem fo_sm {g : Nat → Int32} {f : Nat → Nat} : ∀ {n}, (∀ k, k < n → g k = nI (f k)) → fo (fun k s => s + g k) n 0 = nI (smN f n)
  | 0, _ => rfl
  | n + 1, h => by
    show fo (fun k s => s + g k) n 0 + g n = _
    rw [fo_sm (fun k hk => h k (by omega)), h n (by omega), nI_add]; rfl
theorem smN_le {f : Nat → Nat} {m : Nat} : ∀ {n}, (∀ k, k < n → f k ≤ m) → smN f n ≤ m * n
  | 0, _ => by rw [smN]; omega
  | n + 1, h => by
    have h1 := smN_le (f := f) (m := m) (n := n) (fun k hk => h k (by omega))
    have h2 := h n (by omega)
    rw [smN, Nat.mul_succ]; omega
theorem smN_ge {f : Nat → Nat} {j : Nat} : ∀ {n}, j < n → f j ≤ smN f n
  | 0, h => by omega
  | n + 1, h => by
    rw [smN]
    by_cases q : j = n
    · subst q; omega
    · have := smN_ge (f := f) (j := j) (n := n) (by omega); omega
theorem ca55 : CA55 scr hs_S0 Rel 99 := by
  intro x I L R hP
  obtain ⟨rt, st, pt, qt, n, np, nr, nl, nb, nq, hA⟩ := hP; obtain ⟨hE, ⟨⟨hn8, hc0, hx0, hh⟩, ⟨hp5, hc1, hx1, hpp⟩, ⟨hr6, hc2, hx2, hrr, hru⟩, ⟨hl6, hc3, hx3, hll⟩, ⟨hb6, hq10, hc4, hx4, hc5, hx5, hqq⟩, hD, hN, hG⟩, hT, hTx, hM, hK⟩ := id hA; have o10 := k10_2 hE.1; have o11 := k11_140 hE.1; have o4 := Env_4 hE; have o1 : ok1 hs_S0 R (rt + 5) := o4.2.2.2.2.2.1; have r10_8 := hE.2.1; have hrt := hE.2.2.2.2.2.1; have hpt := hE.2.2.2.2.2.2
  rcases ix x (n := np) (by omega) with hx | ⟨k, hk, rfl⟩
  · refine CK_st hA 0 2 ?_ ?_
    · simp (disch := omega) only [Option.bind_some, Option.toList_some, Option.toList_none, List.append_nil, List.cons_append, List.nil_append, ↓reduceIte, true_or, or_true, Nat.reduceAdd, Nat.add_assoc, f_ge, t_le, t_lt, f_lt, f_l0, t_0l, t_pl, t_eq, f_eq, f_e0, i10, i01, ib_nI, nI_clamp, nI_add, ad10, ad18, ad26, ad34, ad42, ad47, ad52, ad59, ad107, ad117, ml8, mr8, ml5, ml10, hu_same, hu_row, hu_at, hu_hu, e170, b170_0 o10, b170_5 o10 r10_8 o4, b170_13, b170_32 o10, b170_36, e18, b18_0 o10, s91n o10 r10_8 o4 hx1 hx]
    · simp (disch := first | omega | (simp (disch := omega) only [hu_same, hu_row, hu_at, hu_hu, hc0, hc1, hc2, hc3, hc4, hc5]; done)) only [Option.bind_some, Option.toList_some, Option.toList_none, List.append_nil, List.cons_append, List.nil_append, ↓reduceIte, true_or, or_true, Nat.reduceAdd, Nat.add_assoc, f_ge, t_le, t_lt, f_lt, f_l0, t_0l, t_pl, t_eq, f_eq, f_e0, i10, i01, ib_nI, nI_clamp, nI_add, ad10, ad18, ad26, ad34, ad42, ad47, ad52, ad59, ad107, ad117, ml8, mr8, ml5, ml10, hu_same, hu_row, hu_at, hu_hu, e345, b345_0 o11, b345_15 o11, b345_33 o11, b345_37, b345_45, e197, b197_0 o11, s274n o11 (n := np) (hx := hx) (hn := by omega)]
  · have hk' := hpp k hk
    have hf : ∀ j, j < np → I 145 (42 + j) = nI (I 145 (42 + j)).toNatClampNeg := fun j hj => (bd_tn (hpp j hj).2.2.1 (by omega)).1
    have hle : ∀ j, j < np → (I 145 (42 + j)).toNatClampNeg ≤ 99 := fun j hj => (bd_tn (hpp j hj).2.2.1 (by omega)).2
    have hsum : fo (gSeat (I 145)) np 0 = nI (smN (fun j => (I 145 (42 + j)).toNatClampNeg) np) := fo_sm (g := fun j => I 145 (42 + j)) hf
    have b1 := smN_le (m := 99) hle
    have b2 := smN_ge (f := fun j => (I 145 (42 + j)).toNatClampNeg) hk
    have b3 : 0 < (I 145 (42 + k)).toNatClampNeg := by
      apply Nat.pos_of_ne_zero
      intro q
      apply hk'.2.2.2.1
      rw [hf k hk, q]; rfl
    have b4 := hle k hk
    obtain ⟨A, hA1⟩ : ∃ A, A = (I 145 (42 + k)).toNatClampNeg := ⟨_, rfl⟩
    obtain ⟨B, hB1⟩ : ∃ B, B = smN (fun j => (I 145 (42 + j)).toNatClampNeg) np := ⟨_, rfl⟩
    have b2' : A ≤ B := by rw [hA1, hB1]; exact b2
    rw [← hB1] at b1 hsum
    rw [← hA1] at b3 b4
    have eA : I 145 (42 + k) = nI A := by rw [hA1]; exact hf k hk
    have hnp : 99 * np ≤ 495 := by omega
    refine ⟨1, hs_u I 2 16 0, hs_u (hs_u L 2 17 (lN A / lN (Nat.gcd A B))) 2 18 (lN B / lN (Nat.gcd A B)), R, hs_u (hs_u (hs_u I 2 16 0) 140 1 0) 140 0 0, hs_u (hs_u (hs_u (hs_u L 2 17 (lN A / lN (Nat.gcd A B))) 2 18 (lN B / lN (Nat.gcd A B))) 140 2 (lN A / lN (Nat.gcd A B))) 140 3 (lN B / lN (Nat.gcd A B)), R, ?_, o11, ?_, ?_⟩
    · simp (disch := omega) only [Option.bind_some, Option.toList_some, Option.toList_none, List.append_nil, List.cons_append, List.nil_append, ↓reduceIte, true_or, or_true, Nat.reduceAdd, Nat.add_assoc, f_ge, t_le, t_lt, f_lt, f_l0, t_0l, t_pl, t_eq, f_eq, f_e0, i10, i01, ib_nI, nI_clamp, nI_add, ad10, ad18, ad26, ad34, ad42, ad47, ad52, ad59, ad107, ad117, ml8, mr8, ml5, ml10, hu_same, hu_row, hu_at, hu_hu, e170, b170_0 o10, b170_5 o10 r10_8 o4, b170_13, b170_32 o10, b170_36, s91y o10 r10_8 o4 hx1 hk (by omega), x87 o4 hA.2.1.2.1, hk'.1, eA, hsum, nI_l, x168 o10 (show A < 2 ^ 63 by omega) (show B < 2 ^ 63 by omega) (show 0 < B by omega)]
    · simp (disch := first | omega | (simp (disch := omega) only [hu_same, hu_row, hu_at, hu_hu, hc0, hc1, hc2, hc3, hc4, hc5]; done)) only [Option.bind_some, Option.toList_some, Option.toList_none, List.append_nil, List.cons_append, List.nil_append, ↓reduceIte, true_or, or_true, Nat.reduceAdd, Nat.add_assoc, f_ge, t_le, t_lt, f_lt, f_l0, t_0l, t_pl, t_eq, f_eq, f_e0, i10, i01, ib_nI, nI_clamp, nI_add, ad10, ad18, ad26, ad34, ad42, ad47, ad52, ad59, ad107, ad117, ml8, mr8, ml5, ml10, hu_same, hu_row, hu_at, hu_hu, e345, b345_0 o11, b345_15 o11, b345_33 o11, b345_37, b345_45, s274y o11 (n := np) (hk := hk) (hn := by omega), m270 o11 (n := np) (hn := hp5), eA, hsum, nI_l, m344 (S := hs_S0) (R := R) o11 (show A < 2 ^ 63 by omega) (show B < 2 ^ 63 by omega) (show 0 < B by omega)]
    · exact Rel_fq hA (fun k h1 h2 h3 h4 h5 h6 h7 h8 => by simp (disch := omega) only [hu_row]) (fun k h1 h2 h3 => by simp (disch := omega) only [hu_row]) (fun f hf => by simp (disch := omega) only [hu_at, hu_row]) (fun f h1 h2 h3 => by simp (disch := omega) only [hu_at]) (by simp (disch := omega) only [hu_at, hu_same]) (by simp (disch := omega) only [hu_at, hu_same]) (by simp (disch := omega) only [hu_at, hu_same])
end FR
