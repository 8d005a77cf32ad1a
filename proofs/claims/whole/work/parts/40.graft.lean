/-! graft -/
def colf (J : Nat → Nat → Int32) (k i : Nat) : Nat → Nat → Int32 := fun a b => if a = 145 ∧ 59 ≤ b ∧ b < 59 + 8 * i ∧ (b - 59) % 8 = k then 3 else J a b
theorem colf_0 (J : Nat → Nat → Int32) (k : Nat) : colf J k 0 = J := by
  funext a b; unfold colf; rw [if_neg (by omega)]
theorem colf_s (J : Nat → Nat → Int32) {k : Nat} (i : Nat) (hk : k < 8) : hs_u (colf J k i) 145 (59 + 8 * i + k) 3 = colf J k (i + 1) := by
  funext a b
  simp only [hs_u, colf]
  by_cases h1 : a = 145 ∧ b = 59 + 8 * i + k
  · rw [if_pos h1, if_pos (by omega)]
  · rw [if_neg h1]
    by_cases h2 : a = 145 ∧ 59 ≤ b ∧ b < 59 + 8 * i ∧ (b - 59) % 8 = k
    · rw [if_pos h2, if_pos (by omega)]
    · rw [if_neg h2, if_neg (by omega)]
theorem colf_row (J : Nat → Nat → Int32) {k i a : Nat} (h : a ≠ 145) : colf J k i a = J a := by
  funext b; unfold colf; rw [if_neg (by omega)]
theorem colf_at (J : Nat → Nat → Int32) {k i b : Nat} (h : ¬ (59 ≤ b ∧ b < 59 + 8 * i ∧ (b - 59) % 8 = k)) (a : Nat) : colf J k i a b = J a b := by
  unfold colf; rw [if_neg (by omega)]
theorem colf_in (J : Nat → Nat → Int32) {k i b : Nat} (h : 59 ≤ b ∧ b < 59 + 8 * i ∧ (b - 59) % 8 = k) : colf J k i 145 b = 3 := by
  unfold colf; rw [if_pos (by omega)]
theorem f6l {l : Nat} (h : l < 6) : (6 ≤ nI l) = False := eq_false (nI_ge (b := 6) h (by omega))
theorem f8l {l : Nat} (h : l < 8) : (8 ≤ nI l) = False := eq_false (nI_ge (b := 8) h (by omega))
theorem t8l {l : Nat} (h : l < 8) : (nI l < 8) = True := eq_true (nI_lt (b := 8) h (by omega))
theorem f8e {l : Nat} (h : l < 8) : (nI l = 8) = False := eq_false (fun q => by have := (nI_eq (a := l) (b := 8) (by omega) (by omega)).mp q; omega)
theorem sl5_0 {a b c d e : Nat} : sl5 a b c d e 0 = a := rfl
theorem sl5_1 {a b c d e : Nat} : sl5 a b c d e 1 = b := rfl
theorem sl5_2 {a b c d e : Nat} : sl5 a b c d e 2 = c := rfl
theorem sl5_3 {a b c d e : Nat} : sl5 a b c d e 3 = d := rfl
theorem sl5_4 {a b c d e : Nat} : sl5 a b c d e 4 = e := rfl
theorem nf_0 : nf 0 = 0 := rfl
theorem nf_1 : nf 1 = 8 := rfl
theorem nf_2 : nf 2 = 13 := rfl
theorem nf_3 : nf 3 = 19 := rfl
theorem nf_4 : nf 4 = 25 := rfl
section GR
variable {scr : List Int32} {d : Nat} {J : Nat → Nat → Int32} {L : Nat → Nat → Int64} {R : Nat → Nat → Nat}
theorem m299_loop (o11 : ok11 hs_S0 R 140) {k : Nat} {x y : Int32} (hk : k < 8) : ∀ m i, i + m = 6 → hs_R scr d 299 103 [some (.ref 140), some (.int x), some (.int y), some (.int (nI k)), some (.int (nI i))] [] (hs_S0, colf J k i, L, R) = some (some (.int (nI k)), (hs_S0, hs_u (colf J k 6) 145 0 (J 145 0 + 1), hs_u L 148 k 0, R))
  | 0, i, h => by
    obtain rfl : i = 6 := by omega
    rw [b299_103 o11, if_pos (show (6 : Int32) ≤ nI 6 by decide)]
    simp (disch := omega) only [Option.bind_some, Option.toList_some, Option.toList_none, List.append_nil, List.cons_append, List.nil_append, ↓reduceIte, true_or, or_true, Nat.reduceAdd, Nat.add_assoc, f_ge, t_le, t_lt, f_lt, f_l0, t_0l, t_pl, t_eq, f_eq, f_e0, i10, i01, ib_nI, nI_clamp, nI_add, ad10, ad18, ad26, ad34, ad42, ad47, ad52, ad59, ad107, ad117, ml8, mr8, ml5, ml10, hu_same, hu_row, hu_at, hu_hu, colf_at]
  | m + 1, i, h => by
    rw [b299_103 o11]
    simp (disch := omega) only [Option.bind_some, Option.toList_some, Option.toList_none, List.append_nil, List.cons_append, List.nil_append, ↓reduceIte, true_or, or_true, Nat.reduceAdd, Nat.add_assoc, f_ge, t_le, t_lt, f_lt, f_l0, t_0l, t_pl, t_eq, f_eq, f_e0, i10, i01, ib_nI, nI_clamp, nI_add, ad10, ad18, ad26, ad34, ad42, ad47, ad52, ad59, ad107, ad117, ml8, mr8, ml5, ml10, hu_same, hu_row, hu_at, hu_hu, f6l, nI_1]
    rw [show 59 + (8 * i + k) = 59 + 8 * i + k from (Nat.add_assoc _ _ _).symm, colf_s J i hk]
    exact m299_loop o11 hk m (i + 1) (by omega)
theorem ca29 : CA29 scr hs_S0 Rel 99 := by
  intro x y I L R hP
  obtain ⟨rt, st, pt, qt, n, np, nr, nl, nb, nq, hA⟩ := hP; obtain ⟨hE, ⟨⟨hn8, hc0, hx0, hh⟩, ⟨hp5, hc1, hx1, hpp⟩, ⟨hr6, hc2, hx2, hrr, hru⟩, ⟨hl6, hc3, hx3, hll⟩, ⟨hb6, hq10, hc4, hx4, hc5, hx5, hqq⟩, hD, hN, hG⟩, hT, hTx, hM, hK⟩ := id hA; have o10 := k10_2 hE.1; have o11 := k11_140 hE.1; have o4 := Env_4 hE; have o1 : ok1 hs_S0 R (rt + 5) := o4.2.2.2.2.2.1; have r10_8 := hE.2.1; have hrt := hE.2.2.2.2.2.1; have hpt := hE.2.2.2.2.2.2
  rcases rg x 0 99 with hx | ⟨hx1', hx2', hx3'⟩
  · refine CK_st hA (-1) 5 ?_ ?_
    · simp (disch := omega) only [Option.bind_some, Option.toList_some, Option.toList_none, List.append_nil, List.cons_append, List.nil_append, ↓reduceIte, true_or, or_true, Nat.reduceAdd, Nat.add_assoc, f_ge, t_le, t_lt, f_lt, f_l0, t_0l, t_pl, t_eq, f_eq, f_e0, i10, i01, ib_nI, nI_clamp, nI_add, ad10, ad18, ad26, ad34, ad42, ad47, ad52, ad59, ad107, ad117, ml8, mr8, ml5, ml10, hu_same, hu_row, hu_at, hu_hu, e119, b119_0 o10 r10_8 o4, b119_20 o10, b119_25, b119_47, b119_61 o10 r10_8 o4, b119_77, e28, b28_0 o10, out_h hx]
    · simp (disch := first | omega | (simp (disch := omega) only [hu_same, hu_row, hu_at, hu_hu, hc0, hc1, hc2, hc3, hc4, hc5]; done)) only [Option.bind_some, Option.toList_some, Option.toList_none, List.append_nil, List.cons_append, List.nil_append, ↓reduceIte, true_or, or_true, Nat.reduceAdd, Nat.add_assoc, f_ge, t_le, t_lt, f_lt, f_l0, t_0l, t_pl, t_eq, f_eq, f_e0, i10, i01, ib_nI, nI_clamp, nI_add, ad10, ad18, ad26, ad34, ad42, ad47, ad52, ad59, ad107, ad117, ml8, mr8, ml5, ml10, hu_same, hu_row, hu_at, hu_hu, e299, b299_0 o11, b299_26, b299_38 o11, b299_41 o11, b299_46, b299_59, e265, b265_0 o11, s223 0 99 0 99 rfl rfl, out_g hx]
  · rcases rg y 0 9 with hy | ⟨hy1, hy2, hy3⟩
    · refine CK_st hA (-1) 5 ?_ ?_
      · simp (disch := omega) only [Option.bind_some, Option.toList_some, Option.toList_none, List.append_nil, List.cons_append, List.nil_append, ↓reduceIte, true_or, or_true, Nat.reduceAdd, Nat.add_assoc, f_ge, t_le, t_lt, f_lt, f_l0, t_0l, t_pl, t_eq, f_eq, f_e0, i10, i01, ib_nI, nI_clamp, nI_add, ad10, ad18, ad26, ad34, ad42, ad47, ad52, ad59, ad107, ad117, ml8, mr8, ml5, ml10, hu_same, hu_row, hu_at, hu_hu, e119, b119_0 o10 r10_8 o4, b119_20 o10, b119_25, b119_47, b119_61 o10 r10_8 o4, b119_77, e28, b28_0 o10, hx1', hx3', out_g hy]
      · simp (disch := first | omega | (simp (disch := omega) only [hu_same, hu_row, hu_at, hu_hu, hc0, hc1, hc2, hc3, hc4, hc5]; done)) only [Option.bind_some, Option.toList_some, Option.toList_none, List.append_nil, List.cons_append, List.nil_append, ↓reduceIte, true_or, or_true, Nat.reduceAdd, Nat.add_assoc, f_ge, t_le, t_lt, f_lt, f_l0, t_0l, t_pl, t_eq, f_eq, f_e0, i10, i01, ib_nI, nI_clamp, nI_add, ad10, ad18, ad26, ad34, ad42, ad47, ad52, ad59, ad107, ad117, ml8, mr8, ml5, ml10, hu_same, hu_row, hu_at, hu_hu, e299, b299_0 o11, b299_26, b299_38 o11, b299_41 o11, b299_46, b299_59, e265, b265_0 o11, s223 0 99 0 99 rfl rfl, hx1', hx2', s223 0 9 0 9 rfl rfl, out_g hy]
    · by_cases h8 : n = 8
      · subst h8
        refine CK_st hA (-1) 7 ?_ ?_
        · simp (disch := omega) only [Option.bind_some, Option.toList_some, Option.toList_none, List.append_nil, List.cons_append, List.nil_append, ↓reduceIte, true_or, or_true, Nat.reduceAdd, Nat.add_assoc, f_ge, t_le, t_lt, f_lt, f_l0, t_0l, t_pl, t_eq, f_eq, f_e0, i10, i01, ib_nI, nI_clamp, nI_add, ad10, ad18, ad26, ad34, ad42, ad47, ad52, ad59, ad107, ad117, ml8, mr8, ml5, ml10, hu_same, hu_row, hu_at, hu_hu, e119, b119_0 o10 r10_8 o4, b119_20 o10, b119_25, b119_47, b119_61 o10 r10_8 o4, b119_77, e28, b28_0 o10, hx1', hx3', hy1, hy2, hx0, show ¬ nI 8 < 8 by decide]
        · simp (disch := first | omega | (simp (disch := omega) only [hu_same, hu_row, hu_at, hu_hu, hc0, hc1, hc2, hc3, hc4, hc5]; done)) only [Option.bind_some, Option.toList_some, Option.toList_none, List.append_nil, List.cons_append, List.nil_append, ↓reduceIte, true_or, or_true, Nat.reduceAdd, Nat.add_assoc, f_ge, t_le, t_lt, f_lt, f_l0, t_0l, t_pl, t_eq, f_eq, f_e0, i10, i01, ib_nI, nI_clamp, nI_add, ad10, ad18, ad26, ad34, ad42, ad47, ad52, ad59, ad107, ad117, ml8, mr8, ml5, ml10, hu_same, hu_row, hu_at, hu_hu, e299, b299_0 o11, b299_26, b299_38 o11, b299_41 o11, b299_46, b299_59, e265, b265_0 o11, s223 0 99 0 99 rfl rfl, hx1', hx2', s223 0 9 0 9 rfl rfl, hy1, hy2, hc0, show nI 8 = 8 from rfl]
      · have hn : n < 8 := by omega
        have hl := fun (J : Nat → Nat → Int32) => m299_loop (scr := scr) (d := 99) (J := J) (L := L) o11 (x := x) (y := y) hn 6 0 rfl
        simp only [colf_0, nI_0] at hl
        refine ⟨nI n, hs_u (hs_u (hs_u (hs_u (hs_u (hs_u I (rt + 6) n x) (rt + 7) n y) (rt + 8) n 1) (rt + 9) n 0) (rt + 5) 4 (nI (n + 1))) 2 16 0, L, R, hs_u (colf (hs_u (hs_u (hs_u (hs_u (hs_u (hs_u (hs_u (hs_u (hs_u (hs_u (hs_u (hs_u I (rt + 6) n x) (rt + 7) n y) (rt + 8) n 1) (rt + 9) n 0) (rt + 5) 4 (nI (n + 1))) 2 16 0) 140 1 0) 140 0 0) 145 (10 + n) x) 145 (18 + n) y) 145 (26 + n) 1) 145 (34 + n) 0) n 6) 145 0 (nI (n + 1)), hs_u L 148 n 0, R, ?_, o11, ?_, ?_⟩
        · simp (disch := omega) only [Option.bind_some, Option.toList_some, Option.toList_none, List.append_nil, List.cons_append, List.nil_append, ↓reduceIte, true_or, or_true, Nat.reduceAdd, Nat.add_assoc, f_ge, t_le, t_lt, f_lt, f_l0, t_0l, t_pl, t_eq, f_eq, f_e0, i10, i01, ib_nI, nI_clamp, nI_add, ad10, ad18, ad26, ad34, ad42, ad47, ad52, ad59, ad107, ad117, ml8, mr8, ml5, ml10, hu_same, hu_row, hu_at, hu_hu, e119, b119_0 o10 r10_8 o4, b119_20 o10, b119_25, b119_47, b119_61 o10 r10_8 o4, b119_77, e58, b58_0 o1, b58_59, e68, b68_0 o10, hx1', hx3', hy1, hy2, hx0, t8l, f8l, nI_1, nI_pred]
        · simp (disch := first | omega | (simp (disch := omega) only [hu_same, hu_row, hu_at, hu_hu, hc0, hc1, hc2, hc3, hc4, hc5]; done)) only [Option.bind_some, Option.toList_some, Option.toList_none, List.append_nil, List.cons_append, List.nil_append, ↓reduceIte, true_or, or_true, Nat.reduceAdd, Nat.add_assoc, f_ge, t_le, t_lt, f_lt, f_l0, t_0l, t_pl, t_eq, f_eq, f_e0, i10, i01, ib_nI, nI_clamp, nI_add, ad10, ad18, ad26, ad34, ad42, ad47, ad52, ad59, ad107, ad117, ml8, mr8, ml5, ml10, hu_same, hu_row, hu_at, hu_hu, e299, b299_0 o11, b299_26, b299_38 o11, b299_41 o11, b299_46, b299_59, e265, b265_0 o11, s223 0 99 0 99 rfl rfl, hx1', hx2', s223 0 9 0 9 rfl rfl, hy1, hy2, hc0, f8e, hl, nI_1]
        · refine Rel_rx (n' := n + 1) (np' := np) (nr' := nr) (nl' := nl) (nb' := nb) (nq' := nq) hA ⟨?_, RP_cg hA.2.1.2.1 (fun k hk => by simp (disch := omega) only [hu_same, hu_row, hu_at, hu_hu, colf_row, colf_at]) (by simp (disch := omega) only [hu_same, hu_row, hu_at, hu_hu, colf_row, colf_at]) (by simp (disch := omega) only [hu_same, hu_row, hu_at, hu_hu, colf_row, colf_at]) (by simp (disch := omega) only [hu_same, hu_row, hu_at, hu_hu, colf_row, colf_at]), RU_cg hA.2.1.2.2.1 (fun k hk => by simp (disch := omega) only [hu_same, hu_row, hu_at, hu_hu, colf_row, colf_at]) (by simp (disch := omega) only [hu_same, hu_row, hu_at, hu_hu, colf_row, colf_at]) (by simp (disch := omega) only [hu_same, hu_row, hu_at, hu_hu, colf_row, colf_at]) (by simp (disch := omega) only [hu_same, hu_row, hu_at, hu_hu, colf_row, colf_at]), ?_, RB_cg hA.2.1.2.2.2.2.1 (fun k hk => by simp (disch := omega) only [hu_same, hu_row, hu_at, hu_hu, colf_row, colf_at]) (by simp (disch := omega) only [hu_same, hu_row, hu_at, hu_hu, colf_row, colf_at]) (by simp (disch := omega) only [hu_same, hu_row, hu_at, hu_hu, colf_row, colf_at]) (by simp (disch := omega) only [hu_same, hu_row, hu_at, hu_hu, colf_row, colf_at]) (by simp (disch := omega) only [hu_same, hu_row, hu_at, hu_hu, colf_row, colf_at]), RD_cg hA.2.1.2.2.2.2.2.1 (fun k hk => by simp (disch := omega) only [hu_same, hu_row, hu_at, hu_hu, colf_row, colf_at]) (by simp (disch := omega) only [hu_same, hu_row, hu_at, hu_hu, colf_row, colf_at]) (by simp (disch := omega) only [hu_same, hu_row, hu_at, hu_hu, colf_row, colf_at]) (by simp (disch := omega) only [hu_same, hu_row, hu_at, hu_hu, colf_row, colf_at]) (by simp (disch := omega) only [hu_same, hu_row, hu_at, hu_hu, colf_row, colf_at]), ?_, RG_n (RG_cg hA.2.1.2.2.2.2.2.2.2 (fun k h1 h2 => by simp (disch := omega) only [hu_same, hu_row, hu_at, hu_hu, colf_row, colf_at]) (by simp (disch := omega) only [hu_same, hu_row, hu_at, hu_hu, colf_row, colf_at]) (by simp (disch := omega) only [hu_same, hu_row, hu_at, hu_hu, colf_row, colf_at]) (by simp (disch := omega) only [hu_same, hu_row, hu_at, hu_hu, colf_row, colf_at]) (by simp (disch := omega) only [hu_same, hu_row, hu_at, hu_hu, colf_row, colf_at]) (by simp (disch := omega) only [hu_same, hu_row, hu_at, hu_hu, colf_row, colf_at]) (by simp (disch := omega) only [hu_same, hu_row, hu_at, hu_hu, colf_row, colf_at])) (by omega)⟩ (fun k h1 h2 h3 h4 h5 => by simp (disch := omega) only [hu_same, hu_row, hu_at, hu_hu, colf_row, colf_at]) (fun k h1 h2 => by simp (disch := omega) only [hu_same, hu_row, hu_at, hu_hu]) (fun f hf => by simp (disch := omega) only [hu_same, hu_row, hu_at, hu_hu, colf_row, colf_at]) (fun f h1 h2 => by simp (disch := omega) only [hu_same, hu_row, hu_at, hu_hu, colf_row, colf_at]) (fun k hk => by simp (disch := omega) only [hu_same, hu_row, hu_at, hu_hu, colf_row, colf_at]) (fun k hk => by simp (disch := omega) only [hu_same, hu_row, hu_at, hu_hu]) (by simp (disch := omega) only [hu_same, hu_row, hu_at, hu_hu, colf_row, colf_at])
          · refine ⟨by omega, by simp (disch := omega) only [hu_same, hu_row, hu_at, hu_hu], by simp (disch := omega) only [hu_same, hu_row, hu_at, hu_hu, colf_row], fun j hj => ?_⟩
            by_cases hjn : j = n
            · subst hjn
              simp (disch := omega) only [hu_same, hu_row, hu_at, hu_hu, colf_row, colf_at]
              exact ⟨trivial, trivial, trivial, trivial, rg_nat 99 rfl (by decide) hx1' hx2', rg_nat 9 rfl (by decide) hy1 hy2, ⟨1, by omega, rfl⟩, ⟨0, by omega, rfl⟩⟩
            · simp (disch := omega) only [hu_same, hu_row, hu_at, hu_hu, colf_row, colf_at]
              exact hh j (by omega)
          · refine ⟨hl6, by simp (disch := omega) only [hu_same, hu_row, hu_at, hu_hu, colf_at, hc3], by simp (disch := omega) only [hu_same, hu_row, hu_at, hu_hu, colf_row, hx3], fun l k hl' hk => ?_⟩
            have h1 := hll l k hl' hk
            by_cases hkn : k = n
            · subst hkn
              simp (disch := omega) only [hu_same, hu_row, hu_at, hu_hu, colf_row, colf_in]
              exact ⟨fun _ => ⟨h1.2 (Nat.le_refl _), ⟨3, by omega, rfl⟩⟩, fun q => absurd q (by omega)⟩
            · simp (disch := omega) only [hu_same, hu_row, hu_at, hu_hu, colf_row, colf_at]
              exact ⟨fun q => h1.1 (by omega), fun q => h1.2 (by omega)⟩
          · unfold RN at hN ⊢
            simp (disch := omega) only [hu_same, hu_row, hu_at, hu_hu, colf_row]
            obtain ⟨m, hm, hmv, g1, g2, g3⟩ := hN
            refine ⟨m, hm, hmv, fun i hi => ?_, fun s k hs hk hw => ?_, g3⟩
            · obtain ⟨s, k, hs, hk, g⟩ := g1 i hi
              have e : hs_u L 148 n 0 148 (nf s + k) = L 148 (nf s + k) ∧ k < sl5 (n + 1) np nr nl nb s := by
                rcases (show s = 0 ∨ s = 1 ∨ s = 2 ∨ s = 3 ∨ s = 4 by omega) with rfl | rfl | rfl | rfl | rfl
                all_goals simp only [sl5_0, sl5_1, sl5_2, sl5_3, sl5_4, nf_0, nf_1, nf_2, nf_3, nf_4] at hk ⊢
                all_goals simp (disch := omega) only [hu_same, hu_row, hu_at, hu_hu, true_and]
                all_goals omega
              refine ⟨s, k, hs, e.2, ?_⟩
              simp only [rs, e.1]; exact g
            · have e : (s = 0 ∧ k = n) ∨ (hs_u L 148 n 0 148 (nf s + k) = L 148 (nf s + k) ∧ k < sl5 n np nr nl nb s) := by
                rcases (show s = 0 ∨ s = 1 ∨ s = 2 ∨ s = 3 ∨ s = 4 by omega) with rfl | rfl | rfl | rfl | rfl
                all_goals simp only [sl5_0, sl5_1, sl5_2, sl5_3, sl5_4, nf_0, nf_1, nf_2, nf_3, nf_4] at hk ⊢
                · by_cases hkn : k = n
                  · exact Or.inl ⟨trivial, hkn⟩
                  · right
                    simp (disch := omega) only [hu_same, hu_row, hu_at, hu_hu, true_and]
                    omega
                all_goals right
                all_goals simp (disch := omega) only [hu_same, hu_row, hu_at, hu_hu, true_and]
                all_goals omega
              rcases e with ⟨rfl, rfl⟩ | ⟨e1, e2⟩
              · exfalso; apply hw
                show (if 0 + k < 31 then hs_u L 148 k 0 148 (0 + k) else 0) = 0
                rw [Nat.zero_add, hu_same]; split <;> rfl
              · simp only [rs, e1] at hw ⊢
                exact g2 s k hs e2 hw
end GR
