/-! reigns as a text, the call -/
section R6
variable {scr : List Int32} {rt st pt qt n np nr nl nb nq c a : Nat}
theorem RX_cnb {c : Nat → Int32} {w : Nat → Int64} {I : Nat → Nat → Int32} {L : Nat → Nat → Int64} {t p : Nat} (h : RX n np nr nl nb nq c w I L t p) : cnb (sl5 n np nr nl nb) ∧ ∀ s, s < 5 → c s = nI (sl5 n np nr nl nb s) := by
  obtain ⟨a1, a2, a3, a4, a5, -⟩ := h
  refine ⟨⟨a1.1, a2.1, a3.1, a4.1, a5.1⟩, fun s hs => ?_⟩
  rcases (show s = 0 ∨ s = 1 ∨ s = 2 ∨ s = 3 ∨ s = 4 by omega) with rfl | rfl | rfl | rfl | rfl
  · rw [sl5_0]; exact a1.2.1
  · rw [sl5_1]; exact a2.2.1
  · rw [sl5_2]; exact a3.2.1
  · rw [sl5_3]; exact a4.2.1
  · rw [sl5_4]; exact a5.2.2.1
theorem ca9 : CA9 scr hs_S0 Rel 99 := by
  intro x I L R hP
  obtain ⟨rt, st, pt, qt, n, np, nr, nl, nb, nq, hA⟩ := hP; obtain ⟨hE, ⟨⟨hn8, hc0, hx0, hh⟩, ⟨hp5, hc1, hx1, hpp⟩, ⟨hr6, hc2, hx2, hrr, hru⟩, ⟨hl6, hc3, hx3, hll⟩, ⟨hb6, hq10, hc4, hx4, hc5, hx5, hqq⟩, hD, hN, hG⟩, hT, hTx, hM, hK⟩ := id hA; have o10 := k10_2 hE.1; have o11 := k11_140 hE.1; have o4 := Env_4 hE; have o1 : ok1 hs_S0 R (rt + 5) := o4.2.2.2.2.2.1; have r10_8 := hE.2.1; have hrt := hE.2.2.2.2.2.1; have hpt := hE.2.2.2.2.2.2
  have hT' := hT
  have hK' := hK
  clear hT hK
  have o8 : ok8 hs_S0 R 4 := k8_4 hE.1
  obtain ⟨⟨ts, hts, hx5', hm8, hb⟩, hf1, hf2, hw⟩ := id hTx
  by_cases hout : x < 0 ∨ nI ts < x ∨ ¬ x ≤ 300
  · refine CK_st hA (-1) 5 ?_ ?_
    · have e22 : hs_R scr 99 69 22 [some (.ref 2), some (.int x), none] [] (hs_S0, I, L, R) = some (some (.int (-1)), (hs_S0, hs_u I 2 16 5, L, R)) := by
        rw [b69_22 o10, e28, b28_0 o10]
        simp only [Option.bind_some, Option.toList_some, Option.toList_none, List.append_nil, List.cons_append, List.nil_append, ↓reduceIte, true_or, or_true, Nat.reduceAdd, Nat.add_assoc, b69_27]
      rw [e69, b69_0 o10, show (2 + 2 : Nat) = 4 from rfl, hx5', e22]
      by_cases g1 : x < 0
      · rw [if_pos g1]
      · by_cases g2 : nI ts < x
        · rw [if_neg g1, if_pos g2]
        · rw [if_neg g1, if_neg g2, if_neg (by rcases hout with h | h | h; exact absurd h g1; exact absurd h g2; exact h)]
    · have h17 : ∀ J, hs_R scr 98 208 17 [some (.ref 140), some (.int x), some (.int 300)] [] (hs_S0, J, L, R) = some (some (.int 0), (hs_S0, hs_u J 140 0 5, L, R)) := fun J => by
        simp only [Option.bind_some, Option.toList_some, Option.toList_none, List.append_nil, List.cons_append, List.nil_append, ↓reduceIte, true_or, or_true, Nat.reduceAdd, Nat.add_assoc, b208_17 o11, e197, b197_0 o11, b208_22]
      have e8 : hs_u (hs_u (hs_u I 2 16 5) 140 1 0) 140 0 0 140 8 = nI ts := by simp (disch := omega) only [hu_same, hu_row, hu_at, hu_hu]; exact hm8
      rw [e260, b260_0 o11, e208, b208_0 o11, h17, e8]
      by_cases g1 : x < 0
      · rw [if_pos g1]
        simp only [Option.bind_some, Option.toList_some, Option.toList_none, List.append_nil, List.cons_append, List.nil_append, ↓reduceIte, true_or, or_true, Nat.reduceAdd, Nat.add_assoc, b260_18 o11, hu_same, hu_row, hu_at, hu_hu]
      · by_cases g2 : nI ts < x
        · rw [if_neg g1, if_pos g2]
          simp only [Option.bind_some, Option.toList_some, Option.toList_none, List.append_nil, List.cons_append, List.nil_append, ↓reduceIte, true_or, or_true, Nat.reduceAdd, Nat.add_assoc, b260_18 o11, hu_same, hu_row, hu_at, hu_hu]
        · rw [if_neg g1, if_neg g2, if_neg (by rcases hout with h | h | h; exact absurd h g1; exact absurd h g2; exact h)]
          simp only [Option.bind_some, Option.toList_some, Option.toList_none, List.append_nil, List.cons_append, List.nil_append, ↓reduceIte, true_or, or_true, Nat.reduceAdd, Nat.add_assoc, b260_18 o11, hu_same, hu_row, hu_at, hu_hu]
  · have hx0 : ¬ x < 0 := fun h => hout (Or.inl h)
    have hx1' : ¬ nI ts < x := fun h => hout (Or.inr (Or.inl h))
    have hx3 : x ≤ 300 := by
      by_cases h : x ≤ 300
      · exact h
      · exact absurd (Or.inr (Or.inr h)) hout
    obtain ⟨E, hEts, hE3, rfl⟩ : ∃ E, E ≤ ts ∧ E ≤ 300 ∧ x = nI E := by
      rcases ix x (n := 301) (by omega) with (h | h) | ⟨E, hE, rfl⟩
      · exact absurd h hx0
      · exfalso
        rw [Int32.le_iff_toInt_le] at h hx3
        rw [nI_toInt (by omega)] at h
        have : (300 : Int32).toInt = 300 := by decide
        omega
      · refine ⟨E, ?_, by omega, rfl⟩
        by_cases g : E ≤ ts
        · exact g
        · exact absurd (nI_lt (show ts < E by omega) (by omega)) hx1'
    obtain ⟨B, hBd⟩ : ∃ B : Nat → Nat, B = fun i => (I 144 i &&& 255).toNatClampNeg := ⟨_, rfl⟩
    have hBX : ∀ i, i < ts → BX (B i) (I 144 i) := fun i hi => by rw [hBd]; exact BX_ex (hb i hi).2
    have hJB : JB E B I := fun i hi => (hBX i (by omega)).2.1
    obtain ⟨I1, L1, N, K, A, V, H, e1, hTF, a5, a7, a11, a12, aI, aL⟩ := x35 (scr := scr) (d := 95) (E := E) (B := B) o8 hx5' hts (by omega) (fun i hi => by rw [(hb i (by omega)).1]; exact hBX i (by omega)) hw
    have hK : TKS E N B K A V H := TKS_of (by omega) (fun i hi => (hBX i (by omega)).1) hTF
    have hT : TC N K A V 0 I1 L1 := ⟨hTF.1.1, a7, fun i hi => ⟨(hTF.1.2.2 i hi).1, (hTF.1.2.2 i hi).2.1, (hTF.1.2.2 i hi).2.2.1⟩, a11, a12⟩
    have hN0 : 0 < N := hTF.2.1
    have hH0 : H 0 = 0 := hTF.1.2.1
    have hrt' : rt = 18 ∨ rt = 34 := by omega
    have hqt' : qt = 50 ∨ qt = 56 := by omega
    obtain ⟨hcn, hcnt⟩ := RX_cnb hA.2.1
    have hE1a : Env (hs_u R 11 0 4) rt st pt qt := Env_u hE (by omega) (by decide)
    have hE1b : Env (hs_u (hs_u R 11 0 4) 11 2 qt) rt st pt qt := Env_u hE1a (by omega) (by decide)
    obtain ⟨R1, hR1⟩ : ∃ R1, R1 = hs_u (hs_u (hs_u R 11 0 4) 11 2 qt) 11 3 (rt + 1) := ⟨_, rfl⟩
    have hE1 : Env R1 rt st pt qt := by rw [hR1]; exact Env_u hE1b (by omega) (by decide)
    have o6' : ok6 hs_S0 R1 11 := k6_11 hE1.1
    have rX0 : R1 11 0 = 4 := by rw [hR1, hu_at _ _ (by omega), hu_at _ _ (by omega), hu_same]
    have rX2 : R1 11 2 = qt := by rw [hR1, hu_at _ _ (by omega), hu_same]
    have rX3 : R1 11 3 = rt + 1 := by rw [hR1, hu_same]
    have o3' : ∀ {R2 : Nat → Nat → Nat}, Rc R2 → ok3 hs_S0 R2 (rt + 1) := fun h => by
      rcases hrt' with q | q <;> rw [q]
      · exact k3_19 h
      · exact k3_35 h
    have hX0 : hs_C scr 99 69 [.ref 2, .int (nI E)] (hs_S0, I, L, R) = ((hs_R scr 98 70 15 [some (.ref 11), some (.ref 4), some (.ref qt), some (.ref (rt + 1)), none] [] (hs_S0, I1, L1, R1)).bind fun o => hs_R scr 99 69 58 [some (.ref 2), some (.int (nI E)), none] (o.1.toList ++ []) o.2) := by
      rw [e69, b69_0 o10, if_neg hx0, show (2 + 2 : Nat) = 4 from rfl, hx5', if_neg hx1', if_pos hx3, e1]
      simp only [Option.bind_some, Option.toList_some, Option.toList_none, List.append_nil, List.cons_append, List.nil_append]
      rw [b69_36 o10 hE.2.2.2.2.1 (Env_5s hE) hE.2.1 (Env_4 hE), show (2 + 9 : Nat) = 11 from rfl, show (2 + 2 : Nat) = 4 from rfl, e70, b70_0 (k6_11 hE.1) o8, b70_5 (k6_11 hE1a.1) (Env_5s hE1a), b70_10 (k6_11 hE1b.1) (o3' hE1b.1), hR1]
      simp only [List.append_nil]
    have hRN1 : RN (sl5 n np nr nl nb) (fun k => L 148 k) I1 L1 rt := RN_cg hA.2.1.2.2.2.2.2.2.1 (fun _ _ => rfl) (by rw [aI _ (by omega)]) (aI _ (by omega)) (aI _ (by omega)) (aL _ (by omega))
    obtain ⟨I', L', Ja, qa, la, f1, -, -, -, -, -, -, -, hor⟩ := rgBoth (scr := scr) (X := I) (LX := L) (R := R) o11 o6' rX0 rX2 rX3 (k8_4 hE1.1) (Env_5s hE1) (o3' hE1.1) hrt' hqt' hK hcn hN0 hH0 hJB hm8 hts hEts hE3 hT hRN1 hcnt
    have rI : ∀ k, k ≠ 4 → k ≠ 7 → k ≠ 8 → k ≠ 11 → k ≠ 12 → (k < qt ∨ qt + 6 ≤ k) → I' k = I k := fun k h1 h2 h3 h4 h5 h6 => by
      rw [f1.1 k h1 h4 h5 h6, aI k ⟨h1, h2, h3⟩]
    have rL : ∀ k, k ≠ 4 → k ≠ 9 → L' k = L k := fun k h1 h2 => by rw [f1.2.1 k h1, aL k h2]
    have r45 : I' 4 5 = 0 := f1.2.2.trans a5
    rcases hor with ⟨eX, -, b11, b12, ns', sz', -, -, -, -, k6, -, -⟩ | ⟨c, a, eX, bC, -⟩
    · obtain ⟨IF, hIF⟩ : ∃ IF, IF = hs_u I' 2 16 0 := ⟨_, rfl⟩
      obtain ⟨R2, hR2⟩ : ∃ R2, R2 = hs_u (hs_u R1 2 10 qt) 2 11 pt := ⟨_, rfl⟩
      have hRca : Rc (hs_u R1 2 10 qt) := Rc_u hE1.1 (by decide)
      have hRc2 : Rc R2 := by rw [hR2]; exact Rc_u hRca (by decide)
      have hE2 : Env R2 rt st qt pt := ⟨hRc2, by rw [hR2, hu_at _ _ (by omega), hu_at _ _ (by omega)]; exact hE1.2.1, by rw [hR2, hu_at _ _ (by omega), hu_at _ _ (by omega)]; exact hE1.2.2.1, by rw [hR2, hu_at _ _ (by omega), hu_same], by rw [hR2, hu_same], hE1.2.2.2.2.2.1, by omega⟩
      have oF10 := k10_2 hE2.1
      have oF11 := k11_140 hE2.1
      have iF : ∀ k, k ≠ 2 → IF k = I' k := fun k h1 => by rw [hIF, hu_row _ _ h1]
      have iFI : ∀ k, k ≠ 2 → k ≠ 4 → k ≠ 7 → k ≠ 8 → k ≠ 11 → k ≠ 12 → (k < qt ∨ qt + 6 ≤ k) → IF k = I k := fun k h0 h1 h2 h3 h4 h5 h6 => (iF k h0).trans (rI k h1 h2 h3 h4 h5 h6)
      have o5p : ok5 hs_S0 (hs_u R1 2 10 qt) pt := by
        rcases (show pt = 50 ∨ pt = 56 by omega) with q | q <;> rw [q]
        · exact k5_50 hRca
        · exact k5_56 hRca
      have hX : hs_C scr 99 69 [.ref 2, .int (nI E)] (hs_S0, I, L, R) = some (some (.int (nI ns')), (hs_S0, IF, L', R2)) := by
        rw [hX0, eX]
        simp only [Option.bind_some, Option.toList_some, Option.toList_none, List.append_nil, List.cons_append, List.nil_append]
        rw [b69_58 (k10_2 hE1.1) hE1.2.2.2.1 (Env_5 hE1) hE1.2.2.2.2.1 (Env_5s hE1), if_neg (by decide), b69_81 (k10_2 hRca) o5p, ← hR2, b69_86 oF10 hE2.2.2.2.1 (Env_5 hE2), e68, b68_0 oF10]
        simp only [Option.bind_some, Option.toList_some, Option.toList_none, List.append_nil, List.cons_append, List.nil_append]
        rw [b69_97, k6, hIF]
      obtain ⟨I2', L2', J', q', l', f1', g1, g2, g5, g6, g7, g8, g9, hor2⟩ := rgBoth (scr := scr) (X := IF) (LX := L') (R := R2) oF11 o6' rX0 rX2 rX3 (k8_4 hE1.1) (Env_5s hE1) (o3' hE1.1) hrt' hqt' hK hcn hN0 hH0 (show JB E B IF from fun i hi => by rw [iFI 144 (by omega) (by omega) (by omega) (by omega) (by omega) (by omega) (by omega)]; exact hJB i hi) (show IF 140 8 = nI ts by rw [iFI 140 (by omega) (by omega) (by omega) (by omega) (by omega) (by omega) (by omega)]; exact hm8) hts hEts hE3 hT (show RN (sl5 n np nr nl nb) (fun k => L' 148 k) I1 L1 rt by rw [rL 148 (by omega) (by omega)]; exact hRN1) (fun s hs => by rw [iFI 145 (by omega) (by omega) (by omega) (by omega) (by omega) (by omega) (by omega)]; exact hcnt s hs)
      rcases hor2 with ⟨eX2, q12, -, -, ns, sz, hns, hsz, h26, h5, h6, h7, ff, hSg⟩ | ⟨c, a, eX2, -, -⟩
      · have hh := eX.symm.trans eX2
        simp only [Option.some.injEq, Prod.mk.injEq, true_and, and_true] at hh
        obtain ⟨hh1, hh2⟩ := hh
        rw [← hh1] at h5 h6 h7 hSg
        have hmn : nI ns' = nI ns := k6.symm.trans h6
        obtain ⟨Y, hY⟩ : ∃ Y, Y = hs_u (hs_u (hs_z J' 140 (up (up q' 10 0) 11 (-1))) 145 127 1) 145 128 (nI ns) := ⟨_, rfl⟩
        have y140 : Y 140 = up (up q' 10 0) 11 (-1) := by rw [hY, hu_row _ _ (by omega), hu_row _ _ (by omega), hz_s]
        have y26 : Y 140 26 = nI ns := by rw [y140, up_n _ _ (by omega), up_n _ _ (by omega)]; exact h26
        have hl := m260_l (scr := scr) (d := 99) (x1 := nI E) (LX := hs_z L' 140 l') (R := R2) oF11 y26 hns (9 * ns) 0 (by omega)
        rw [wr_0, nI_0] at hl
        obtain ⟨I2, hI2⟩ : ∃ I2, I2 = wr Y 145 129 (9 * ns) (fun k => Y 145 (1725 + k)) := ⟨_, rfl⟩
        obtain ⟨L2, hL2⟩ : ∃ L2, L2 = hs_z L' 140 l' := ⟨_, rfl⟩
        rw [← hI2, ← hL2] at hl
        have yh : ∀ k, k ≠ 127 → k ≠ 128 → Y 145 k = J' 145 k := fun k h1 h2 => by rw [hY, hu_at _ _ (by omega), hu_at _ _ (by omega), hz_row _ _ (by omega)]
        have i145lo : ∀ k, k < 127 → I2 145 k = I 145 k := fun k hk => by
          rw [hI2, wr_out _ _ (by omega), yh k (by omega) (by omega), g2 k (by omega), iFI 145 (by omega) (by omega) (by omega) (by omega) (by omega) (by omega) (by omega)]
        have i127 : I2 145 127 = 1 := by rw [hI2, wr_out _ _ (by omega), hY, hu_at _ _ (by omega), hu_same]
        have i128 : I2 145 128 = nI ns := by rw [hI2, wr_out _ _ (by omega), hY, hu_same]
        have i129 : ∀ k, k < 9 * ns → I2 145 (129 + k) = J' 145 (1725 + k) := fun k hk => by
          rw [hI2, wr_in _ _ (by omega), show 129 + k - 129 = k by omega, yh _ (by omega) (by omega)]
        have i145h : ∀ k, 399 ≤ k → k < 1596 → I2 145 k = I 145 k := fun k h1 h2 => by
          rw [hI2, wr_out _ _ (by omega), yh k (by omega) (by omega), g2 k (by omega), iFI 145 (by omega) (by omega) (by omega) (by omega) (by omega) (by omega) (by omega)]
        have i140 : I2 140 = up (up q' 10 0) 11 (-1) := by rw [hI2, wr_row _ _ (by omega), y140]
        have iR : ∀ k, k ≠ 145 → k ≠ 140 → I2 k = IF k := fun k h1 h2 => by rw [hI2, wr_row _ _ h1, hY, hu_row _ _ h1, hu_row _ _ h1, hz_row _ _ h2]; exact g1 k h1
        have lR : ∀ k, k ≠ 140 → L2 k = L' k := fun k h2 => by rw [hL2, hz_row _ _ h2]
        have l140 : ∀ f, f ≠ 19 → L2 140 f = L 140 f := fun f hf => by rw [hL2, hz_s, g8 f hf, rL 140 (by omega) (by omega)]
        have lL : ∀ k, k ≠ 140 → k ≠ 4 → k ≠ 9 → L2 k = L k := fun k h2 h3 h4 => (lR k h2).trans (rL k h3 h4)
        have iI : ∀ k, k ≠ 145 → k ≠ 140 → k ≠ 2 → k ≠ 4 → k ≠ 7 → k ≠ 8 → k ≠ 11 → k ≠ 12 → (k < qt ∨ qt + 6 ≤ k) → I2 k = I k := fun k h1 h2 h3 h4 h5 h6 h7 h8 h9 => (iR k h1 h2).trans (iFI k h3 h4 h5 h6 h7 h8 h9)
        have i2 : ∀ f, f ≠ 16 → I2 2 f = I 2 f := fun f hf => by
          rw [iR 2 (by omega) (by omega), hIF, hu_at _ _ (by omega), rI 2 (by omega) (by omega) (by omega) (by omega) (by omega) (by omega)]
        have iQ : ∀ oo', oo' < 6 → I2 (qt + oo') = I' (qt + oo') := fun oo' ho => by rw [iR _ (by omega) (by omega), iF _ (by omega)]
        have iT : ∀ oo', oo' < 16 → I2 (rt + oo') = I (rt + oo') := fun oo' ho => iI _ (by omega) (by omega) (by omega) (by omega) (by omega) (by omega) (by omega) (by omega) (by omega)
        have iT0 : ∀ f, I2 rt f = I rt f := fun f => by rw [show I2 rt = I rt from iT 0 (by omega)]
        have q140 : ∀ f, f ≠ 0 → f ≠ 1 → f ≠ 8 → f ≠ 9 → f ≠ 10 → f ≠ 11 → f < 12 ∨ (18 < f ∧ f ≠ 26) → I2 140 f = I 140 f := fun f h0 h1 h2 h3 h4 h5 h6 => by
          rw [i140, up_n _ _ h5, up_n _ _ h4, g5 f h0 h1 h2 h3 h6, iFI 140 (by omega) (by omega) (by omega) (by omega) (by omega) (by omega) (by omega)]
        obtain ⟨z1, z2, z3, z4, z5, z6, z7, z8⟩ := hA.2.1
        refine ⟨nI ns', IF, L', R2, I2, L2, R2, hX, oF11, ?_, ⟨rt, st, qt, pt, n, np, nr, nl, nb, nq, hE2, ⟨?_, ?_, ?_, ?_, ?_, ?_, ?_, ?_⟩, ?_, ?_, ?_, ?_⟩⟩
        · rw [g9, b260_50 oF11, m258g (d := 97) oF11 q12]
          simp only [Option.bind_some, Option.toList_some, Option.toList_none, List.append_nil, List.cons_append, List.nil_append]
          rw [b260_54 oF11, if_neg (by decide), show (140 + 5 : Nat) = 145 from rfl, hu_row (a := 140) _ _ (by omega), hz_s, up_n _ _ (by omega), up_n _ _ (by omega), h26, ← hY, ← hL2, hl, hmn]
        · exact RH_cg z1 (fun k hk => i145lo k (by omega)) (by rw [iT 5 (by omega)]) (iT 6 (by omega)) (iT 7 (by omega)) (iT 8 (by omega)) (iT 9 (by omega))
        · exact RP_cg z2 (fun k hk => i145lo k (by omega)) (iT0 _) (iT 10 (by omega)) (iT 11 (by omega))
        · exact RU_cg z3 (fun k hk => i145lo k (by omega)) (iT0 _) (iT0 _) (iT 12 (by omega))
        · exact RLk_cg z4 (fun k hk => i145lo k (by omega)) (iT0 _) (iT 13 (by omega))
        · exact RB_cg z5 (fun k hk => i145lo k (by omega)) (iT0 _) (iT0 _) (iT 14 (by omega)) (iT 15 (by omega))
        · exact RD_cg z6 (fun k hk => i145lo k (by omega)) (iT0 _) (iT0 _) (iT0 _) (iT0 _)
        · exact RN_cg z7 (fun k hk => by rw [lL 148 (by omega) (by omega) (by omega)]) (by rw [iT 1 (by omega)]) (iT 3 (by omega)) (iT 4 (by omega)) (lL _ (by omega) (by omega) (by omega))
        · have hS2 : SgJ n nl qt I2 J' ff 0 ns 0 sz := by
            have q1 := iQ 1 (by omega)
            have q2 := iQ 2 (by omega)
            have q3 := iQ 3 (by omega)
            have q4 := iQ 4 (by omega)
            have q5 := iQ 5 (by omega)
            unfold SgJ at hSg ⊢
            rw [q1, q2, q3, q4, q5]; exact hSg
          have q0 : I2 qt = I' qt := iQ 0 (by omega)
          exact RG_of i129 i127 i128 hns hsz (by rw [q0]; exact h5) (by rw [q0]; exact h6) (by rw [q0]; exact h7) hS2
        · exact Tr_cg hT' (fun j hj => iI _ (by omega) (by omega) (by omega) (by omega) (by omega) (by omega) (by omega) (by omega) (by omega)) (fun j hj => lL _ (by omega) (by omega) (by omega)) (iI _ (by omega) (by omega) (by omega) (by omega) (by omega) (by omega) (by omega) (by omega) (by omega)) (iI _ (by omega) (by omega) (by omega) (by omega) (by omega) (by omega) (by omega) (by omega) (by omega)) (lL _ (by omega) (by omega) (by omega))
        · have i4 : I2 4 = I' 4 := by rw [iR 4 (by omega) (by omega), iF 4 (by omega)]
          refine ⟨⟨0, by omega, by rw [i4]; exact r45, by rw [i140]; exact g6, fun i hi => by omega⟩, ?_, ?_, fun j hj => by rw [lL 6 (by omega) (by omega) (by omega)]; exact hw j hj⟩
          · rw [i4, i140, b11]; rfl
          · rw [i4, i140, b12]; rfl
        · obtain ⟨v1, v2, v3, v4, v5⟩ := hM
          refine ⟨?_, ?_, ?_, ?_, ?_⟩
          · rw [iR 2 (by omega) (by omega), hIF, hu_same, i140, up_n _ _ (by omega), up_n _ _ (by omega), g7]
          · rw [lL 2 (by omega) (by omega) (by omega), l140 2 (by omega)]; exact v2
          · rw [lL 2 (by omega) (by omega) (by omega), l140 3 (by omega)]; exact v3
          · rw [i2 14 (by omega), q140 31 (by omega) (by omega) (by omega) (by omega) (by omega) (by omega) (by omega)]; exact v4
          · rw [q140 31 (by omega) (by omega) (by omega) (by omega) (by omega) (by omega) (by omega), iI 62 (by omega) (by omega) (by omega) (by omega) (by omega) (by omega) (by omega) (by omega) (by omega), iI 151 (by omega) (by omega) (by omega) (by omega) (by omega) (by omega) (by omega) (by omega) (by omega)]; exact v5
        · exact Mk_cg hK' (i2 15 (by omega)) (q140 24 (by omega) (by omega) (by omega) (by omega) (by omega) (by omega) (by omega)) (fun k h1 h2 => iI _ (by omega) (by omega) (by omega) (by omega) (by omega) (by omega) (by omega) (by omega) (by omega)) (fun k h1 h2 => lL _ (by omega) (by omega) (by omega)) (fun k h1 h2 => i145h k h1 h2) (fun k h1 h2 => by rw [lL 148 (by omega) (by omega) (by omega)])
      · have hh := eX.symm.trans eX2
        simp only [Option.some.injEq, Prod.mk.injEq, Value.int.injEq] at hh
        exact absurd hh.1 (by decide)
    · obtain ⟨IF, hIF⟩ : ∃ IF, IF = hs_u I' 2 16 10 := ⟨_, rfl⟩
      have oF10 := k10_2 hE1.1
      have oF11 := k11_140 hE1.1
      have iF : ∀ k, k ≠ 2 → IF k = I' k := fun k h1 => by rw [hIF, hu_row _ _ h1]
      have iFI : ∀ k, k ≠ 2 → k ≠ 4 → k ≠ 7 → k ≠ 8 → k ≠ 11 → k ≠ 12 → (k < qt ∨ qt + 6 ≤ k) → IF k = I k := fun k h0 h1 h2 h3 h4 h5 h6 => (iF k h0).trans (rI k h1 h2 h3 h4 h5 h6)
      have hX : hs_C scr 99 69 [.ref 2, .int (nI E)] (hs_S0, I, L, R) = some (some (.int (-1)), (hs_S0, IF, L', R1)) := by
        rw [hX0, eX]
        simp only [Option.bind_some, Option.toList_some, Option.toList_none, List.append_nil, List.cons_append, List.nil_append]
        rw [b69_58 (k10_2 hE1.1) hE1.2.2.2.1 (Env_5 hE1) hE1.2.2.2.2.1 (Env_5s hE1), if_pos rfl, e28, b28_0 oF10]
        simp only [Option.bind_some, Option.toList_some, Option.toList_none, List.append_nil, List.cons_append, List.nil_append]
        rw [b69_67, hIF]
      obtain ⟨I2', L2', J', q', l', f1', g1, g2, g5, g6, g7, g8, g9, hor2⟩ := rgBoth (scr := scr) (X := IF) (LX := L') (R := R1) oF11 o6' rX0 rX2 rX3 (k8_4 hE1.1) (Env_5s hE1) (o3' hE1.1) hrt' hqt' hK hcn hN0 hH0 (show JB E B IF from fun i hi => by rw [iFI 144 (by omega) (by omega) (by omega) (by omega) (by omega) (by omega) (by omega)]; exact hJB i hi) (show IF 140 8 = nI ts by rw [iFI 140 (by omega) (by omega) (by omega) (by omega) (by omega) (by omega) (by omega)]; exact hm8) hts hEts hE3 hT (show RN (sl5 n np nr nl nb) (fun k => L' 148 k) I1 L1 rt by rw [rL 148 (by omega) (by omega)]; exact hRN1) (fun s hs => by rw [iFI 145 (by omega) (by omega) (by omega) (by omega) (by omega) (by omega) (by omega)]; exact hcnt s hs)
      rcases hor2 with ⟨eX2, _⟩ | ⟨c2, a2, eX2, bC2, bM2⟩
      · have hh := eX.symm.trans eX2
        simp only [Option.some.injEq, Prod.mk.injEq, Value.int.injEq] at hh
        exact absurd hh.1 (by decide)
      · have hh := eX.symm.trans eX2
        simp only [Option.some.injEq, Prod.mk.injEq, true_and, and_true] at hh
        obtain ⟨hh1, hh2⟩ := hh
        rw [← hh1] at bC2
        obtain ⟨I2, hI2⟩ : ∃ I2, I2 = hs_z J' 140 (up (up (up q' 10 (nI c2)) 11 (nI a2)) 0 10) := ⟨_, rfl⟩
        obtain ⟨L2, hL2⟩ : ∃ L2, L2 = hs_z L' 140 l' := ⟨_, rfl⟩
        have i145 : ∀ k, k < 1596 → I2 145 k = I 145 k := fun k hk => by rw [hI2, hz_row _ _ (by omega), g2 k (by omega), iFI 145 (by omega) (by omega) (by omega) (by omega) (by omega) (by omega) (by omega)]
        have i140 : I2 140 = up (up (up q' 10 (nI c2)) 11 (nI a2)) 0 10 := by rw [hI2, hz_s]
        have iR : ∀ k, k ≠ 145 → k ≠ 140 → I2 k = IF k := fun k h1 h2 => by rw [hI2, hz_row _ _ h2]; exact g1 k h1
        have lR : ∀ k, k ≠ 140 → L2 k = L' k := fun k h2 => by rw [hL2, hz_row _ _ h2]
        have l140 : ∀ f, f ≠ 19 → L2 140 f = L 140 f := fun f hf => by rw [hL2, hz_s, g8 f hf, rL 140 (by omega) (by omega)]
        have lL : ∀ k, k ≠ 140 → k ≠ 4 → k ≠ 9 → L2 k = L k := fun k h2 h3 h4 => (lR k h2).trans (rL k h3 h4)
        have iI : ∀ k, k ≠ 145 → k ≠ 140 → k ≠ 2 → k ≠ 4 → k ≠ 7 → k ≠ 8 → k ≠ 11 → k ≠ 12 → (k < qt ∨ qt + 6 ≤ k) → I2 k = I k := fun k h1 h2 h3 h4 h5 h6 h7 h8 h9 => (iR k h1 h2).trans (iFI k h3 h4 h5 h6 h7 h8 h9)
        have i2 : ∀ f, f ≠ 16 → I2 2 f = I 2 f := fun f hf => by
          rw [iR 2 (by omega) (by omega), hIF, hu_at _ _ (by omega), rI 2 (by omega) (by omega) (by omega) (by omega) (by omega) (by omega)]
        have q140 : ∀ f, f ≠ 0 → f ≠ 1 → f ≠ 8 → f ≠ 9 → f ≠ 10 → f ≠ 11 → f < 12 ∨ (18 < f ∧ f ≠ 26) → I2 140 f = I 140 f := fun f h0 h1 h2 h3 h4 h5 h6 => by
          rw [i140, up_n _ _ h0, up_n _ _ h5, up_n _ _ h4, g5 f h0 h1 h2 h3 h6, iFI 140 (by omega) (by omega) (by omega) (by omega) (by omega) (by omega) (by omega)]
        refine ⟨-1, IF, L', R1, I2, L2, R1, hX, oF11, ?_, ⟨rt, st, pt, qt, n, np, nr, nl, nb, nq, hE1, ?_, ?_, ?_, ?_, ?_⟩⟩
        · rw [g9, b260_50 oF11, m258b (d := 97) oF11 bM2]
          simp only [Option.bind_some, Option.toList_some, Option.toList_none, List.append_nil, List.cons_append, List.nil_append]
          rw [b260_54 oF11, if_pos rfl, hI2, hL2]
        · exact RX_cg hA.2.1 (fun k hk => i145 k (by omega)) (fun k hk => by rw [lL 148 (by omega) (by omega) (by omega)]) (fun o ho => iI _ (by omega) (by omega) (by omega) (by omega) (by omega) (by omega) (by omega) (by omega) (by omega)) (lL _ (by omega) (by omega) (by omega)) (fun o ho => iI _ (by omega) (by omega) (by omega) (by omega) (by omega) (by omega) (by omega) (by omega) (by omega))
        · exact Tr_cg hT' (fun j hj => iI _ (by omega) (by omega) (by omega) (by omega) (by omega) (by omega) (by omega) (by omega) (by omega)) (fun j hj => lL _ (by omega) (by omega) (by omega)) (iI _ (by omega) (by omega) (by omega) (by omega) (by omega) (by omega) (by omega) (by omega) (by omega)) (iI _ (by omega) (by omega) (by omega) (by omega) (by omega) (by omega) (by omega) (by omega) (by omega)) (lL _ (by omega) (by omega) (by omega))
        · have i4 : I2 4 = I' 4 := by rw [iR 4 (by omega) (by omega), iF 4 (by omega)]
          refine ⟨⟨0, by omega, by rw [i4]; exact r45, by rw [i140]; exact g6, fun i hi => by omega⟩, ?_, ?_, fun j hj => by rw [lL 6 (by omega) (by omega) (by omega)]; exact hw j hj⟩
          · rw [i4, i140, bC2.1]; rfl
          · rw [i4, i140, bC2.2]; rfl
        · obtain ⟨v1, v2, v3, v4, v5⟩ := hM
          refine ⟨?_, ?_, ?_, ?_, ?_⟩
          · rw [iR 2 (by omega) (by omega), hIF, hu_same, i140, up_s]
          · rw [lL 2 (by omega) (by omega) (by omega), l140 2 (by omega)]; exact v2
          · rw [lL 2 (by omega) (by omega) (by omega), l140 3 (by omega)]; exact v3
          · rw [i2 14 (by omega), q140 31 (by omega) (by omega) (by omega) (by omega) (by omega) (by omega) (by omega)]; exact v4
          · rw [q140 31 (by omega) (by omega) (by omega) (by omega) (by omega) (by omega) (by omega), iI 62 (by omega) (by omega) (by omega) (by omega) (by omega) (by omega) (by omega) (by omega) (by omega), iI 151 (by omega) (by omega) (by omega) (by omega) (by omega) (by omega) (by omega) (by omega) (by omega)]; exact v5
        · exact Mk_cg hK' (i2 15 (by omega)) (q140 24 (by omega) (by omega) (by omega) (by omega) (by omega) (by omega) (by omega)) (fun k h1 h2 => iI _ (by omega) (by omega) (by omega) (by omega) (by omega) (by omega) (by omega) (by omega) (by omega)) (fun k h1 h2 => lL _ (by omega) (by omega) (by omega)) (fun k h1 h2 => i145 k h2) (fun k h1 h2 => by rw [lL 148 (by omega) (by omega) (by omega)])
end R6
