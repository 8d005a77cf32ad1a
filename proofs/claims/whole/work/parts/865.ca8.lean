/-! state, the call -/
section S3
variable {scr : List Int32} {rt st pt qt n np nr nl nb nq c a : Nat} {o g : Bool} {J' X : Nat → Nat → Int32} {q' : Nat → Int32} {M' LX : Nat → Nat → Int64} {l' : Nat → Int64}
theorem ca8 : CA8 scr hs_S0 Rel 99 := by
  intro x I L R hP
  obtain ⟨rt, st, pt, qt, n, np, nr, nl, nb, nq, hA⟩ := hP; obtain ⟨hE, ⟨⟨hn8, hc0, hx0, hh⟩, ⟨hp5, hc1, hx1, hpp⟩, ⟨hr6, hc2, hx2, hrr, hru⟩, ⟨hl6, hc3, hx3, hll⟩, ⟨hb6, hq10, hc4, hx4, hc5, hx5, hqq⟩, hD, hN, hG⟩, hT, hTx, hM, hK⟩ := id hA; have o10 := k10_2 hE.1; have o11 := k11_140 hE.1; have o4 := Env_4 hE; have o1 : ok1 hs_S0 R (rt + 5) := o4.2.2.2.2.2.1; have r10_8 := hE.2.1; have hrt := hE.2.2.2.2.2.1; have hpt := hE.2.2.2.2.2.2
  have hT' := hT
  have hK' := hK
  clear hT hK
  have o8 : ok8 hs_S0 R 4 := k8_4 hE.1
  obtain ⟨⟨ts, hts, hx5', hm8, hb⟩, hf1, hf2, hw⟩ := id hTx
  have hts1 : nI (ts + 1) - 1 = nI ts := pk_sub (a := ts + 1) (b := 1) (by omega)
  rcases ix x (n := ts + 1) (by omega) with hx | ⟨E, hEk, rfl⟩
  · refine CK_st hA (-1) 5 ?_ ?_
    · rw [e34, b34_0 o10, show (2 + 2 : Nat) = 4 from rfl, hx5', out_n (m := nI ts) hx hts1.symm (by omega), b34_15 o10, e28, b28_0 o10]
      simp only [Option.bind_some, Option.toList_some, Option.toList_none, List.append_nil, List.cons_append, List.nil_append, ↓reduceIte, true_or, or_true, Nat.reduceAdd, Nat.add_assoc, b34_20]
    · have h17 : ∀ J, hs_R scr 98 208 17 [some (.ref 140), some (.int x), some (.int 900)] [] (hs_S0, J, L, R) = some (some (.int 0), (hs_S0, hs_u J 140 0 5, L, R)) := fun J => by
        simp only [Option.bind_some, Option.toList_some, Option.toList_none, List.append_nil, List.cons_append, List.nil_append, ↓reduceIte, true_or, or_true, Nat.reduceAdd, Nat.add_assoc, b208_17 o11, e197, b197_0 o11, b208_22]
      rw [e207, b207_0 o11, e208, b208_0 o11, h17]
      have e8 : hs_u (hs_u (hs_u I 2 16 5) 140 1 0) 140 0 0 140 8 = nI ts := by simp (disch := omega) only [hu_same, hu_row, hu_at, hu_hu]; exact hm8
      rw [e8]
      by_cases g1 : x < 0
      · simp only [g1, ↓reduceIte, Option.bind_some, Option.toList_some, Option.toList_none, List.append_nil, List.cons_append, List.nil_append, ↓reduceIte, true_or, or_true, Nat.reduceAdd, Nat.add_assoc, b207_18 o11, hu_same, hu_row, hu_at, hu_hu]
      · have g2 : nI ts < x := by
          rcases hx with q | q
          · exact absurd q g1
          · rw [Int32.lt_iff_toInt_lt]
            rw [Int32.le_iff_toInt_le] at q
            rw [nI_toInt (by omega)] at q ⊢
            omega
        simp only [g1, g2, ↓reduceIte, Option.bind_some, Option.toList_some, Option.toList_none, List.append_nil, List.cons_append, List.nil_append, ↓reduceIte, true_or, or_true, Nat.reduceAdd, Nat.add_assoc, b207_18 o11, hu_same, hu_row, hu_at, hu_hu]
  · obtain ⟨B, hBd⟩ : ∃ B : Nat → Nat, B = fun i => (I 144 i &&& 255).toNatClampNeg := ⟨_, rfl⟩
    have hBX : ∀ i, i < ts → BX (B i) (I 144 i) := fun i hi => by rw [hBd]; exact BX_ex (hb i hi).2
    have hJB : JB E B I := fun i hi => (hBX i (by omega)).2.1
    obtain ⟨I1, L1, N, K, A, V, H, e1, hTF, a5, a7, a11, a12, aI, aL⟩ := x35 (scr := scr) (d := 95) (E := E) (B := B) o8 hx5' hts (by omega) (fun i hi => by rw [(hb i (by omega)).1]; exact hBX i (by omega)) hw
    have hK : TKS E N B K A V H := TKS_of (by omega) (fun i hi => (hBX i (by omega)).1) hTF
    have hT : TC N K A V 0 I1 L1 := ⟨hTF.1.1, a7, fun i hi => ⟨(hTF.1.2.2 i hi).1, (hTF.1.2.2 i hi).2.1, (hTF.1.2.2 i hi).2.2.1⟩, a11, a12⟩
    have hN0 : 0 < N := hTF.2.1
    have hH0 : H 0 = 0 := hTF.1.2.1
    have hst : st = 18 ∨ st = 34 := by omega
    have hE1a : Env (hs_u R 10 0 4) rt st pt qt := Env_u hE (by omega) (by decide)
    have hE1 : Env (hs_u (hs_u R 10 0 4) 10 1 st) rt st pt qt := Env_u hE1a (by omega) (by decide)
    have oX7 : ok7 hs_S0 (hs_u (hs_u R 10 0 4) 10 1 st) 10 := k7_10 hE1.1
    have rX0 : hs_u (hs_u R 10 0 4) 10 1 st 10 0 = 4 := by rw [hu_at _ _ (by omega), hu_same]
    have rX1 : hs_u (hs_u R 10 0 4) 10 1 st 10 1 = st := hu_same _ _ _ _
    have hX0 : hs_C scr 99 34 [.ref 2, .int (nI E)] (hs_S0, I, L, R) = ((hs_R scr 98 43 10 [some (.ref 10), some (.ref 4), some (.ref st), none] [] (hs_S0, I1, L1, hs_u (hs_u R 10 0 4) 10 1 st)).bind fun o => hs_R scr 99 34 44 [some (.ref 2), some (.int (nI E)), none] (o.1.toList ++ []) o.2) := by
      rw [e34, b34_0 o10, if_neg (nI_pos (by omega)), show (2 + 2 : Nat) = 4 from rfl, hx5', if_pos (nI_le (by omega) (by omega)), e1]
      simp only [Option.bind_some, Option.toList_some, Option.toList_none, List.append_nil, List.cons_append, List.nil_append]
      rw [b34_29 o10 hE.2.2.1 (Env_4s hE), show (2 + 8 : Nat) = 10 from rfl, show (2 + 2 : Nat) = 4 from rfl, e43, b43_0 (k7_10 hE.1) o8, b43_5 (k7_10 hE1a.1) (Env_4s hE1a)]
      simp only [List.append_nil]
    obtain ⟨I', L', Ja, qa, Ma, la, f1, -, -, -, -, -, -, -, -, -, hor⟩ := stBoth (scr := scr) (X := I) (LX := L) (R := R) o11 oX7 rX0 rX1 (k8_4 hE1.1) (Env_4s hE1) hst hK hN0 hH0 hJB hm8 hts (by omega) hT
    have rI : ∀ k, k ≠ 4 → k ≠ 7 → k ≠ 8 → k ≠ 10 → (k < st ∨ st + 16 ≤ k) → I' k = I k := fun k h1 h2 h3 h4 h5 => by
      rw [f1.1 k h1 h4 h5]
      simp (disch := omega) only [hu_row, wr_row]
      exact aI k ⟨h1, h2, h3⟩
    have rL : ∀ k, k ≠ 4 → k ≠ 9 → k ≠ st + 2 → L' k = L k := fun k h1 h2 h3 => by rw [f1.2.1 k h1 h3, aL k h2]
    have r45 : I' 4 5 = 0 := by
      rw [f1.2.2]
      simp (disch := omega) only [hu_row, wr_row]
      exact a5
    rcases hor with ⟨eX, -, b11, b12, n', np', nr', nl', nb', nq', o', g', hSPa, -⟩ | ⟨c, a, eX, bC, -⟩
    · obtain ⟨IF, hIF⟩ : ∃ IF, IF = hs_u (hs_u (hs_u (hs_u I' pt 5 0) pt 6 0) pt 7 0) 2 16 0 := ⟨_, rfl⟩
      have hE2a : Env (hs_u (hs_u R 10 0 4) 10 1 st) rt st pt qt := hE1
      have hRc2a : Rc (hs_u (hs_u (hs_u R 10 0 4) 10 1 st) 2 8 st) := Rc_u hE1.1 (by decide)
      have hRc2 : Rc (hs_u (hs_u (hs_u (hs_u R 10 0 4) 10 1 st) 2 8 st) 2 9 rt) := Rc_u hRc2a (by decide)
      have hE2 : Env (hs_u (hs_u (hs_u (hs_u R 10 0 4) 10 1 st) 2 8 st) 2 9 rt) st rt pt qt := ⟨hRc2, by rw [hu_at _ _ (by omega), hu_same], hu_same _ _ _ _, by rw [hu_at _ _ (by omega), hu_at _ _ (by omega)]; exact hE1.2.2.2.1, by rw [hu_at _ _ (by omega), hu_at _ _ (by omega)]; exact hE1.2.2.2.2.1, by omega, hE1.2.2.2.2.2.2⟩
      have oF10 := k10_2 hE2.1
      have oF11 := k11_140 hE2.1
      have iF : ∀ k, k ≠ 2 → k ≠ pt → IF k = I' k := fun k h1 h2 => by rw [hIF]; simp (disch := omega) only [hu_row]
      have iFI : ∀ k, k ≠ 2 → k ≠ pt → k ≠ 4 → k ≠ 7 → k ≠ 8 → k ≠ 10 → (k < st ∨ st + 16 ≤ k) → IF k = I k := fun k h1 h2 h3 h4 h5 h6 h7 => (iF k h1 h2).trans (rI k h3 h4 h5 h6 h7)
      have nn := hSPa.1.2.2.1
      have hX : hs_C scr 99 34 [.ref 2, .int (nI E)] (hs_S0, I, L, R) = some (some (.int (nI n')), (hs_S0, IF, L', hs_u (hs_u (hs_u (hs_u R 10 0 4) 10 1 st) 2 8 st) 2 9 rt)) := by
        rw [hX0, eX]
        simp only [Option.bind_some, Option.toList_some, Option.toList_none, List.append_nil, List.cons_append, List.nil_append]
        rw [b34_44 (k10_2 hE1.1) hE1.2.1 (Env_4 hE1) hE1.2.2.1 (Env_4s hE1), if_neg (by decide), b34_67 (k10_2 hRc2a) (show ok4 hs_S0 _ rt from by rcases (show rt = 18 ∨ rt = 34 by omega) with q | q <;> rw [q]; exact k4_18 hRc2a; exact k4_34 hRc2a), b34_72 oF10 hE2.2.2.2.1 (Env_5 hE2), e67, b67_0 (Env_5 hE2)]
        simp only [Option.bind_some, Option.toList_some, Option.toList_none, List.append_nil, List.cons_append, List.nil_append]
        rw [b34_79 oF10 hE2.2.1 (Env_4 hE2), e68, b68_0 oF10]
        simp only [Option.bind_some, Option.toList_some, Option.toList_none, List.append_nil, List.cons_append, List.nil_append]
        rw [b34_93, hIF]
        simp (disch := omega) only [hu_row, nn]
      obtain ⟨I2', L2', J', q', M', l', f1', g1, g2, g3, g4, g5, g6, g7, g8, g9, hor2⟩ := stBoth (scr := scr) (X := IF) (LX := L') (R := hs_u (hs_u (hs_u (hs_u R 10 0 4) 10 1 st) 2 8 st) 2 9 rt) oF11 oX7 rX0 rX1 (k8_4 hE1.1) (Env_4s hE1) hst hK hN0 hH0 (show JB E B IF from fun i hi => by rw [iFI 144 (by omega) (by omega) (by omega) (by omega) (by omega) (by omega) (by omega)]; exact hJB i hi) (show IF 140 8 = nI ts by rw [iFI 140 (by omega) (by omega) (by omega) (by omega) (by omega) (by omega) (by omega)]; exact hm8) hts (by omega) hT
      rcases hor2 with ⟨eX2, q12, -, -, m, mp, mr, ml, mb, mq, oo, gg, hSP, h17⟩ | ⟨c, a, eX2, -, -⟩
      · have hh := eX.symm.trans eX2
        simp only [Option.some.injEq, Prod.mk.injEq, true_and, and_true] at hh
        obtain ⟨hh1, hh2⟩ := hh
        rw [← hh1, ← hh2] at hSP
        rw [← hh1] at h17
        have hmn : nI n' = nI m := nn.symm.trans hSP.1.2.2.1
        have h259 := m259 (scr := scr) (d := 98) (J := hs_z J' 140 (up (up q' 10 0) 11 (-1))) (L := hs_z M' 140 l') (a := 4) (b := 0) oF11 (by omega) (by omega) (by omega)
        obtain ⟨I2, hI2⟩ : ∃ I2, I2 = wr (hs_z J' 140 (up (up q' 10 0) 11 (-1))) 145 (399 * 0) 399 (fun k => hs_z J' 140 (up (up q' 10 0) 11 (-1)) 145 (399 * 4 + k)) := ⟨_, rfl⟩
        obtain ⟨L2, hL2⟩ : ∃ L2, L2 = wr (hs_z M' 140 l') 148 (31 * 0) 31 (fun k => hs_z M' 140 l' 148 (31 * 4 + k)) := ⟨_, rfl⟩
        rw [← hI2, ← hL2] at h259
        have i145 : ∀ k, k < 399 → I2 145 k = J' 145 (1596 + k) := fun k hk => by
          rw [hI2, wr_in _ _ (by omega), hz_row _ _ (by omega)]; simp only [Nat.mul_zero, Nat.sub_zero, Nat.reduceMul]
        have i145h : ∀ k, 399 ≤ k → I2 145 k = J' 145 k := fun k hk => by rw [hI2, wr_out _ _ (by omega), hz_row _ _ (by omega)]
        have i140 : I2 140 = up (up q' 10 0) 11 (-1) := by rw [hI2, wr_row _ _ (by omega), hz_s]
        have iR : ∀ k, k ≠ 145 → k ≠ 140 → I2 k = IF k := fun k h1 h2 => by rw [hI2, wr_row _ _ h1, hz_row _ _ h2]; exact g1 k h1
        have l148 : ∀ k, k < 31 → L2 148 k = M' 148 (124 + k) := fun k hk => by
          rw [hL2, wr_in _ _ (by omega), hz_row _ _ (by omega)]; simp only [Nat.mul_zero, Nat.sub_zero, Nat.reduceMul]
        have l148h : ∀ k, 31 ≤ k → k < 124 → L2 148 k = L' 148 k := fun k h1 h2 => by rw [hL2, wr_out _ _ (by omega), hz_row _ _ (by omega)]; exact g4 k h2
        have lR : ∀ k, k ≠ 148 → k ≠ 140 → L2 k = L' k := fun k h1 h2 => by rw [hL2, wr_row _ _ h1, hz_row _ _ h2]; exact g3 k h1
        have l140 : ∀ f, f ≠ 19 → L2 140 f = L 140 f := fun f hf => by rw [hL2, wr_row _ _ (by omega), hz_s, g8 f hf, rL 140 (by omega) (by omega) (by omega)]
        have lL : ∀ k, k ≠ 148 → k ≠ 140 → k ≠ 4 → k ≠ 9 → k ≠ st + 2 → L2 k = L k := fun k h1 h2 h3 h4 h5 => (lR k h1 h2).trans (rL k h3 h4 h5)
        have iI : ∀ k, k ≠ 145 → k ≠ 140 → k ≠ 2 → k ≠ pt → k ≠ 4 → k ≠ 7 → k ≠ 8 → k ≠ 10 → (k < st ∨ st + 16 ≤ k) → I2 k = I k := fun k h1 h2 h3 h4 h5 h6 h7 h8 h9 => (iR k h1 h2).trans (iFI k h3 h4 h5 h6 h7 h8 h9)
        have i2 : ∀ f, f ≠ 16 → I2 2 f = I 2 f := fun f hf => by
          rw [iR 2 (by omega) (by omega), hIF, hu_at _ _ (by omega)]
          simp (disch := omega) only [hu_row]
          rw [rI 2 (by omega) (by omega) (by omega) (by omega) (by omega)]
        have iS : ∀ oo', oo' < 16 → I2 (st + oo') = I' (st + oo') := fun oo' ho => by rw [iR _ (by omega) (by omega), iF _ (by omega) (by omega)]
        have q140 : ∀ f, f ≠ 0 → f ≠ 1 → f ≠ 8 → f ≠ 9 → f ≠ 10 → f ≠ 11 → f < 12 ∨ (18 < f ∧ f ≠ 25) → I2 140 f = I 140 f := fun f h0 h1 h2 h3 h4 h5 h6 => by
          rw [i140, up_n _ _ h5, up_n _ _ h4, g5 f h0 h1 h2 h3 h6, iFI 140 (by omega) (by omega) (by omega) (by omega) (by omega) (by omega) (by omega)]
        refine ⟨nI n', IF, L', _, I2, L2, _, hX, oF11, ?_, ⟨st, rt, pt, qt, m, mp, mr, ml, mb, mq, hE2, ⟨?_, ?_, ?_, ?_, ?_, ?_, ?_, ?_⟩, ?_, ?_, ?_, ?_⟩⟩
        · rw [g9, b207_64 oF11, m258g (d := 97) oF11 q12]
          simp only [Option.bind_some, Option.toList_some, Option.toList_none, List.append_nil, List.cons_append, List.nil_append]
          rw [b207_68 oF11, if_neg (by decide)]
          refine (congrArg (fun z => Option.bind z _) h259).trans ?_
          simp only [Option.bind_some, Option.toList_some, Option.toList_none, List.append_nil, List.cons_append, List.nil_append]
          rw [b207_79 oF11, show (140 + 5 : Nat) = 145 from rfl, i145 0 (by omega), hmn]
          have : J' 145 1596 = nI m := hSP.1.2.1
          rw [Nat.add_zero, this]
        · exact RH_cg hSP.1 (fun k hk => i145 k (by omega)) (by rw [iS 5 (by omega)]) (iS 6 (by omega)) (iS 7 (by omega)) (iS 8 (by omega)) (iS 9 (by omega))
        · exact RP_cg hSP.2.1 (fun k hk => i145 k (by omega)) (by rw [show I2 st = I' st from iS 0 (by omega)]) (iS 10 (by omega)) (iS 11 (by omega))
        · obtain ⟨u1, u2, u3, u4⟩ := hSP.2.2.1
          refine ⟨u1, (i145 2 (by omega)).trans u2, by rw [show I2 st = I' st from iS 0 (by omega)]; exact u3, fun k hk => by rw [iS 12 (by omega), i145 _ (by omega)]; exact u4 k hk, 0, (i145 58 (by omega)).trans hSP.2.2.2.2.2.2.2.1.1, ?_⟩
          rw [show I2 st = I' st from iS 0 (by omega), h17]
          by_cases g0 : mr = 0
          · rw [if_pos g0]; exact Or.inl ⟨g0, rfl, rfl⟩
          · rw [if_neg g0]; exact Or.inr ⟨by omega, rfl⟩
        · exact RLk_cg hSP.2.2.2.1 (fun k hk => i145 k (by omega)) (by rw [show I2 st = I' st from iS 0 (by omega)]) (iS 13 (by omega))
        · exact RB_cg hSP.2.2.2.2.1 (fun k hk => i145 k (by omega)) (by rw [show I2 st = I' st from iS 0 (by omega)]) (by rw [show I2 st = I' st from iS 0 (by omega)]) (iS 14 (by omega)) (iS 15 (by omega))
        · exact RD_cg hSP.2.2.2.2.2.1 (fun k hk => i145 k (by omega)) (by rw [show I2 st = I' st from iS 0 (by omega)]) (by rw [show I2 st = I' st from iS 0 (by omega)]) (by rw [show I2 st = I' st from iS 0 (by omega)]) (by rw [show I2 st = I' st from iS 0 (by omega)])
        · exact RN_cg hSP.2.2.2.2.2.2.1 (fun k hk => l148 k hk) (by rw [iS 1 (by omega)]) (iS 3 (by omega)) (iS 4 (by omega)) (lR _ (by omega) (by omega))
        · have c127 : I2 145 127 = 0 := (i145 127 (by omega)).trans hSP.2.2.2.2.2.2.2.1.2.1
          refine ⟨?_, Or.inl c127⟩
          show I2 pt 7 = I2 145 127
          rw [c127, iR pt (by omega) (by omega), hIF, hu_row _ _ (by omega), hu_same]
        · exact Tr_cg hT' (fun j hj => iI _ (by omega) (by omega) (by omega) (by omega) (by omega) (by omega) (by omega) (by omega) (by omega)) (fun j hj => lL _ (by omega) (by omega) (by omega) (by omega) (by omega)) (iI _ (by omega) (by omega) (by omega) (by omega) (by omega) (by omega) (by omega) (by omega) (by omega)) (iI _ (by omega) (by omega) (by omega) (by omega) (by omega) (by omega) (by omega) (by omega) (by omega)) (lL _ (by omega) (by omega) (by omega) (by omega) (by omega))
        · have i4 : I2 4 = I' 4 := by rw [iR 4 (by omega) (by omega), iF 4 (by omega) (by omega)]
          refine ⟨⟨0, by omega, by rw [i4]; exact r45, by rw [i140]; exact g6, fun i hi => by omega⟩, ?_, ?_, fun j hj => by rw [lL 6 (by omega) (by omega) (by omega) (by omega) (by omega)]; exact hw j hj⟩
          · rw [i4, i140, b11]; rfl
          · rw [i4, i140, b12]; rfl
        · obtain ⟨v1, v2, v3, v4, v5⟩ := hM
          refine ⟨?_, ?_, ?_, ?_, ?_⟩
          · rw [iR 2 (by omega) (by omega), hIF, hu_same, i140, up_n _ _ (by omega), up_n _ _ (by omega), g7]
          · rw [lL 2 (by omega) (by omega) (by omega) (by omega) (by omega), l140 2 (by omega)]; exact v2
          · rw [lL 2 (by omega) (by omega) (by omega) (by omega) (by omega), l140 3 (by omega)]; exact v3
          · rw [i2 14 (by omega), q140 31 (by omega) (by omega) (by omega) (by omega) (by omega) (by omega) (by omega)]; exact v4
          · rw [q140 31 (by omega) (by omega) (by omega) (by omega) (by omega) (by omega) (by omega), iI 62 (by omega) (by omega) (by omega) (by omega) (by omega) (by omega) (by omega) (by omega) (by omega), iI 151 (by omega) (by omega) (by omega) (by omega) (by omega) (by omega) (by omega) (by omega) (by omega)]; exact v5
        · exact Mk_cg hK' (i2 15 (by omega)) (q140 24 (by omega) (by omega) (by omega) (by omega) (by omega) (by omega) (by omega)) (fun k h1 h2 => iI _ (by omega) (by omega) (by omega) (by omega) (by omega) (by omega) (by omega) (by omega) (by omega)) (fun k h1 h2 => lL _ (by omega) (by omega) (by omega) (by omega) (by omega)) (fun k h1 h2 => by rw [i145h k h1, g2 k h2, iFI 145 (by omega) (by omega) (by omega) (by omega) (by omega) (by omega) (by omega)]) (fun k h1 h2 => by rw [l148h k h1 h2, rL 148 (by omega) (by omega) (by omega)])
      · have hh := eX.symm.trans eX2
        simp only [Option.some.injEq, Prod.mk.injEq, Value.int.injEq] at hh
        exact absurd hh.1 (by decide)
    · obtain ⟨IF, hIF⟩ : ∃ IF, IF = hs_u I' 2 16 10 := ⟨_, rfl⟩
      have oF10 := k10_2 hE1.1
      have oF11 := k11_140 hE1.1
      have iF : ∀ k, k ≠ 2 → IF k = I' k := fun k h1 => by rw [hIF]; simp (disch := omega) only [hu_row]
      have iFI : ∀ k, k ≠ 2 → k ≠ 4 → k ≠ 7 → k ≠ 8 → k ≠ 10 → (k < st ∨ st + 16 ≤ k) → IF k = I k := fun k h1 h3 h4 h5 h6 h7 => (iF k h1).trans (rI k h3 h4 h5 h6 h7)
      have hX : hs_C scr 99 34 [.ref 2, .int (nI E)] (hs_S0, I, L, R) = some (some (.int (-1)), (hs_S0, IF, L', hs_u (hs_u R 10 0 4) 10 1 st)) := by
        rw [hX0, eX]
        simp only [Option.bind_some, Option.toList_some, Option.toList_none, List.append_nil, List.cons_append, List.nil_append]
        rw [b34_44 (k10_2 hE1.1) hE1.2.1 (Env_4 hE1) hE1.2.2.1 (Env_4s hE1), if_pos rfl, e28, b28_0 oF10]
        simp only [Option.bind_some, Option.toList_some, Option.toList_none, List.append_nil, List.cons_append, List.nil_append]
        rw [b34_53, hIF]
      obtain ⟨I2', L2', J', q', M', l', f1', g1, g2, g3, g4, g5, g6, g7, g8, g9, hor2⟩ := stBoth (scr := scr) (X := IF) (LX := L') (R := hs_u (hs_u R 10 0 4) 10 1 st) oF11 oX7 rX0 rX1 (k8_4 hE1.1) (Env_4s hE1) hst hK hN0 hH0 (show JB E B IF from fun i hi => by rw [iFI 144 (by omega) (by omega) (by omega) (by omega) (by omega) (by omega)]; exact hJB i hi) (show IF 140 8 = nI ts by rw [iFI 140 (by omega) (by omega) (by omega) (by omega) (by omega) (by omega)]; exact hm8) hts (by omega) hT
      rcases hor2 with ⟨eX2, _⟩ | ⟨c2, a2, eX2, bC2, bM2⟩
      · have hh := eX.symm.trans eX2
        simp only [Option.some.injEq, Prod.mk.injEq, Value.int.injEq] at hh
        exact absurd hh.1 (by decide)
      · have hh := eX.symm.trans eX2
        simp only [Option.some.injEq, Prod.mk.injEq, true_and, and_true] at hh
        obtain ⟨hh1, hh2⟩ := hh
        rw [← hh1] at bC2
        obtain ⟨I2, hI2⟩ : ∃ I2, I2 = hs_z J' 140 (up (up (up q' 10 (nI c2)) 11 (nI a2)) 0 10) := ⟨_, rfl⟩
        obtain ⟨L2, hL2⟩ : ∃ L2, L2 = hs_z M' 140 l' := ⟨_, rfl⟩
        have i145 : ∀ k, k < 1596 → I2 145 k = I 145 k := fun k hk => by rw [hI2, hz_row _ _ (by omega), g2 k hk, iFI 145 (by omega) (by omega) (by omega) (by omega) (by omega) (by omega)]
        have i140 : I2 140 = up (up (up q' 10 (nI c2)) 11 (nI a2)) 0 10 := by rw [hI2, hz_s]
        have iR : ∀ k, k ≠ 145 → k ≠ 140 → I2 k = IF k := fun k h1 h2 => by rw [hI2, hz_row _ _ h2]; exact g1 k h1
        have l148 : ∀ k, k < 124 → L2 148 k = L 148 k := fun k hk => by rw [hL2, hz_row _ _ (by omega), g4 k hk, rL 148 (by omega) (by omega) (by omega)]
        have lR : ∀ k, k ≠ 148 → k ≠ 140 → L2 k = L' k := fun k h1 h2 => by rw [hL2, hz_row _ _ h2]; exact g3 k h1
        have l140 : ∀ f, f ≠ 19 → L2 140 f = L 140 f := fun f hf => by rw [hL2, hz_s, g8 f hf, rL 140 (by omega) (by omega) (by omega)]
        have lL : ∀ k, k ≠ 148 → k ≠ 140 → k ≠ 4 → k ≠ 9 → k ≠ st + 2 → L2 k = L k := fun k h1 h2 h3 h4 h5 => (lR k h1 h2).trans (rL k h3 h4 h5)
        have iI : ∀ k, k ≠ 145 → k ≠ 140 → k ≠ 2 → k ≠ 4 → k ≠ 7 → k ≠ 8 → k ≠ 10 → (k < st ∨ st + 16 ≤ k) → I2 k = I k := fun k h1 h2 h3 h5 h6 h7 h8 h9 => (iR k h1 h2).trans (iFI k h3 h5 h6 h7 h8 h9)
        have i2 : ∀ f, f ≠ 16 → I2 2 f = I 2 f := fun f hf => by
          rw [iR 2 (by omega) (by omega), hIF, hu_at _ _ (by omega), rI 2 (by omega) (by omega) (by omega) (by omega) (by omega)]
        have q140 : ∀ f, f ≠ 0 → f ≠ 1 → f ≠ 8 → f ≠ 9 → f ≠ 10 → f ≠ 11 → f < 12 ∨ (18 < f ∧ f ≠ 25) → I2 140 f = I 140 f := fun f h0 h1 h2 h3 h4 h5 h6 => by
          rw [i140, up_n _ _ h0, up_n _ _ h5, up_n _ _ h4, g5 f h0 h1 h2 h3 h6, iFI 140 (by omega) (by omega) (by omega) (by omega) (by omega) (by omega)]
        refine ⟨-1, IF, L', _, I2, L2, _, hX, oF11, ?_, ⟨rt, st, pt, qt, n, np, nr, nl, nb, nq, hE1, ?_, ?_, ?_, ?_, ?_⟩⟩
        · rw [g9, b207_64 oF11, m258b (d := 97) oF11 bM2]
          simp only [Option.bind_some, Option.toList_some, Option.toList_none, List.append_nil, List.cons_append, List.nil_append]
          rw [b207_68 oF11, if_pos rfl, hI2, hL2]
        · exact RX_cg hA.2.1 (fun k hk => i145 k (by omega)) (fun k hk => l148 k (by omega)) (fun o ho => iI _ (by omega) (by omega) (by omega) (by omega) (by omega) (by omega) (by omega) (by omega)) (lL _ (by omega) (by omega) (by omega) (by omega) (by omega)) (fun o ho => iI _ (by omega) (by omega) (by omega) (by omega) (by omega) (by omega) (by omega) (by omega))
        · exact Tr_cg hT' (fun j hj => iI _ (by omega) (by omega) (by omega) (by omega) (by omega) (by omega) (by omega) (by omega)) (fun j hj => lL _ (by omega) (by omega) (by omega) (by omega) (by omega)) (iI _ (by omega) (by omega) (by omega) (by omega) (by omega) (by omega) (by omega) (by omega)) (iI _ (by omega) (by omega) (by omega) (by omega) (by omega) (by omega) (by omega) (by omega)) (lL _ (by omega) (by omega) (by omega) (by omega) (by omega))
        · have i4 : I2 4 = I' 4 := by rw [iR 4 (by omega) (by omega), iF 4 (by omega)]
          refine ⟨⟨0, by omega, by rw [i4]; exact r45, by rw [i140]; exact g6, fun i hi => by omega⟩, ?_, ?_, fun j hj => by rw [lL 6 (by omega) (by omega) (by omega) (by omega) (by omega)]; exact hw j hj⟩
          · rw [i4, i140, bC2.1]; rfl
          · rw [i4, i140, bC2.2]; rfl
        · obtain ⟨v1, v2, v3, v4, v5⟩ := hM
          refine ⟨?_, ?_, ?_, ?_, ?_⟩
          · rw [iR 2 (by omega) (by omega), hIF, hu_same, i140, up_s]
          · rw [lL 2 (by omega) (by omega) (by omega) (by omega) (by omega), l140 2 (by omega)]; exact v2
          · rw [lL 2 (by omega) (by omega) (by omega) (by omega) (by omega), l140 3 (by omega)]; exact v3
          · rw [i2 14 (by omega), q140 31 (by omega) (by omega) (by omega) (by omega) (by omega) (by omega) (by omega)]; exact v4
          · rw [q140 31 (by omega) (by omega) (by omega) (by omega) (by omega) (by omega) (by omega), iI 62 (by omega) (by omega) (by omega) (by omega) (by omega) (by omega) (by omega) (by omega), iI 151 (by omega) (by omega) (by omega) (by omega) (by omega) (by omega) (by omega) (by omega)]; exact v5
        · exact Mk_cg hK' (i2 15 (by omega)) (q140 24 (by omega) (by omega) (by omega) (by omega) (by omega) (by omega) (by omega)) (fun k h1 h2 => iI _ (by omega) (by omega) (by omega) (by omega) (by omega) (by omega) (by omega) (by omega)) (fun k h1 h2 => lL _ (by omega) (by omega) (by omega) (by omega) (by omega)) (fun k h1 h2 => i145 k h2) (fun k h1 h2 => l148 k h2)
end S3
