/-! reigns as a text: rows -/
def FB (p : Nat) (I : Nat → Nat → Int32) (L : Nat → Nat → Int64) (I' : Nat → Nat → Int32) (L' : Nat → Nat → Int64) : Prop := (∀ k, k ≠ 4 → k ≠ 11 → k ≠ 12 → (k < p ∨ p + 6 ≤ k) → I' k = I k) ∧ (∀ k, k ≠ 4 → L' k = L k) ∧ I' 4 5 = I 4 5
def FR (p sz ns dp dp' : Nat) (I I' : Nat → Nat → Int32) : Prop := I' (p + 5) = I (p + 5) ∧ (∀ i b, 1 ≤ i → i ≤ 4 → b ≠ sz → I' (p + i) b = I (p + i) b) ∧ I' p 5 = nI (sz + 1) ∧ I' p 6 = nI (ns + 1) ∧ I' p 7 = I p 7 ∧ I' 11 4 = nI dp' ∧ (∀ b, b < dp → I' 12 b = I 12 b) ∧ (dp < dp' → I' 12 dp = nI sz)
def RowRes (scr : List Int32) (dX dM E N : Nat) (B K A V H : Nat → Nat) (R R' : Nat → Nat → Nat) (n nl p j sz ns dp dp' : Nat) (I : Nat → Nat → Int32) (L : Nat → Nat → Int64) (J : Nat → Nat → Int32) (q : Nat → Int32) (M : Nat → Nat → Int64) (l : Nat → Int64) : Prop := ∃ (I' : Nat → Nat → Int32) (L' : Nat → Nat → Int64) (J' : Nat → Nat → Int32) (q' : Nat → Int32) (l' : Nat → Int64), FB p I L I' L' ∧ (∀ k, k ≠ 145 → J' k = J k) ∧ (∀ f, ¬ (1725 + 9 * ns < f ∧ f < 1725 + 9 * ns + 8) → J' 145 f = J 145 f) ∧ T140 q l q' l' ∧ hs_C scr dM 262 [.ref 140, .int (nI (1725 + 9 * ns))] (hs_S0, hs_z J 140 q, hs_z M 140 l, R) = some (none, (hs_S0, hs_z J' 140 q', hs_z M 140 l', R)) ∧ ((∃ p1, j < p1 ∧ p1 < N ∧ MC E K A V H p1 q' l' ∧ hs_C scr dX 71 [.ref 11] (hs_S0, I, L, R') = some (some (.int (if K p1 = 33 then 1 else 0)), (hs_S0, I', L', R')) ∧ (K p1 = 33 → TC N K A V (p1 + 1) I' L' ∧ FR p sz ns dp dp' I I' ∧ stOK n nl (fun k => J' 145 (1723 + k)) (I' (p + 1)) (I' (p + 2)) (I' (p + 3)) (I' (p + 4)) (2 + 9 * ns) sz (kj (K j))) ∧ (K p1 ≠ 33 → BC (fk (K p1) 2) (A p1) I')) ∨ (∃ c a, hs_C scr dX 71 [.ref 11] (hs_S0, I, L, R') = some (some (.int 0), (hs_S0, I', L', R')) ∧ BC c a I' ∧ BM c a q'))
/-- what a row is read from: the class has stepped on token j, the reference beyond it -/
def RwH (E N : Nat) (B K A V H : Nat → Nat) (R R' : Nat → Nat → Nat) (cn : Nat → Nat) (p t j sz ns dp : Nat) (I : Nat → Nat → Int32) (L : Nat → Nat → Int64) (J : Nat → Nat → Int32) (q : Nat → Int32) (M : Nat → Nat → Int64) (l : Nat → Int64) : Prop := ok11 hs_S0 R 140 ∧ ok6 hs_S0 R' 11 ∧ R' 11 0 = 4 ∧ R' 11 2 = p ∧ R' 11 3 = t + 1 ∧ ok8 hs_S0 R' 4 ∧ ok5 hs_S0 R' p ∧ ok3 hs_S0 R' (t + 1) ∧ (t = 18 ∨ t = 34) ∧ (p = 50 ∨ p = 56) ∧ TKS E N B K A V H ∧ JB E B J ∧ j + 1 < N ∧ TC N K A V (j + 1) I L ∧ CU K A V j I L ∧ MC E K A V H (j + 1) q l ∧ I p 5 = nI sz ∧ I p 6 = nI ns ∧ I 11 4 = nI dp ∧ ns < 30 ∧ sz + dp ≤ 2 * ns ∧ dp ≤ 3 ∧ cnb cn ∧ RN cn (fun k => M 148 k) I L t ∧ (∀ s, s < 5 → J 145 s = nI (cn s)) ∧ J 145 (1725 + 9 * ns) = nI (kj (K j))
section R2
variable {scr : List Int32} {d dm E N j p t n nl sz ns dp s : Nat} {B K A V H cn : Nat → Nat} {q : Nat → Int32} {l : Nat → Int64} {I J : Nat → Nat → Int32} {L M : Nat → Nat → Int64} {R R' : Nat → Nat → Nat}
theorem x73 {k : Nat} {S : List hs_S} (hk : k ≤ 38) : hs_C scr d 73 [.int (nI k)] (S, I, L, R) = some (some (.int (if (17 ≤ k ∧ k ≤ 25) ∨ k = 27 ∨ k = 29 then 1 else 0)), (S, I, L, R)) := by
  rw [e73, b73_0, show (17 : Int32) = nI 17 from rfl, show (25 : Int32) = nI 25 from rfl]
  by_cases g1 : 17 ≤ k ∧ k ≤ 25
  · rw [if_neg (nI_nlt g1.1 (by omega)), if_pos (nI_le g1.2 (by omega)), b73_24, b73_29, if_pos (show (17 ≤ k ∧ k ≤ 25) ∨ k = 27 ∨ k = 29 from Or.inl g1)]; rfl
  · have e12 : (if nI k < nI 17 then hs_R scr d 73 12 [some (.int (nI k))] [] (S, I, L, R) else if nI k ≤ nI 25 then hs_R scr d 73 24 [some (.int (nI k))] [] (S, I, L, R) else hs_R scr d 73 12 [some (.int (nI k))] [] (S, I, L, R)) = hs_R scr d 73 12 [some (.int (nI k))] [] (S, I, L, R) := by
      by_cases g2 : k < 17
      · rw [if_pos (nI_lt g2 (by omega))]
      · rw [if_neg (nI_nlt (by omega) (by omega)), if_neg (nI_ge (by omega) (by omega))]
    rw [e12, b73_12, show (27 : Int32) = nI 27 from rfl, show (29 : Int32) = nI 29 from rfl]
    by_cases g3 : k = 27
    · rw [if_pos (by rw [g3]), b73_24, b73_29, if_pos (show (17 ≤ k ∧ k ≤ 25) ∨ k = 27 ∨ k = 29 from Or.inr (Or.inl g3))]; rfl
    · rw [if_neg (fun q => g3 ((nI_eq (by omega) (by omega)).mp q))]
      by_cases g4 : k = 29
      · rw [if_pos (by rw [g4]), b73_24, b73_29, if_pos (show (17 ≤ k ∧ k ≤ 25) ∨ k = 27 ∨ k = 29 from Or.inr (Or.inr g4))]; rfl
      · rw [if_neg (fun q => g4 ((nI_eq (by omega) (by omega)).mp q)), b73_29, if_neg (show ¬ ((17 ≤ k ∧ k ≤ 25) ∨ k = 27 ∨ k = 29) by omega)]; rfl
/-- the row's word -/
theorem x71h (o6 : ok6 hs_S0 R' 11) (r0 : R' 11 0 = 4) (r2 : R' 11 2 = p) (o8 : ok8 hs_S0 R' 4) (o5 : ok5 hs_S0 R' p) (hp : p = 50 ∨ p = 56) (h8 : I 4 8 = nI (K j)) (hk : K j ≤ 38) (hsw : (17 ≤ K j ∧ K j ≤ 25) ∨ K j = 27 ∨ K j = 29) (h5 : I p 5 = nI sz) (h6 : I p 6 = nI ns) (hns : ns < 30) (hsz : sz < 60) : hs_C scr (d + 1) 71 [.ref 11] (hs_S0, I, L, R') = hs_R scr (d + 1) 71 (hs_swt (nI (K j)) 17 27 [188, 326, 326, 217, 217, 217, 326, 326, 255, 326, 289] 326) [some (.ref 11), some (.int (nI sz))] [] (hs_S0, hs_u (hs_u (hs_u I (p + 1) sz (nI (K j))) p 6 (nI (ns + 1))) p 5 (nI (sz + 1)), L, R') := by
  rw [e71, b71_0 o6 r0 o8, h8, if_neg (show ¬ nI (K j) = 28 from fun q => by have := (nI_eq (b := 28) (by omega) (by omega)).mp q; omega), x73 hk, if_pos hsw]
  simp only [Option.bind_some, Option.toList_some, Option.toList_none, List.append_nil, List.cons_append, List.nil_append]
  rw [b71_27 o6 r2 o5 r0 o8, if_neg (by decide), h6, if_neg (show ¬ (30 : Int32) ≤ nI ns from nI_ge (b := 30) hns (by omega)), h5, if_pos (show nI sz < (60 : Int32) from nI_lt (b := 60) hsz (by omega)), if_pos (ib_nI hsz (by omega)), nI_clamp (by omega), h8]
  simp (disch := omega) only [hu_same, hu_row, hu_at, hu_hu, h5, h6, h8, nI_1]
theorem rowS (hP : RwH E N B K A V H R R' cn p t j sz ns dp I L J q M l) (hk : K j = 18 ∨ K j = 19 ∨ K j = 23 ∨ K j = 24 ∨ K j = 29) : RowRes scr (d + 8) (dm + 9) E N B K A V H R R' (cn 0) (cn 3) p j sz ns dp dp I L J q M l := by
  obtain ⟨o11, o6, r0, r2, r3, o8, o5, o3, ht, hp, hK, hJ, hj, hT, hC, hM, h5, h6, h11, hns, hszd, hdp, hcn, hRN, hcnt, hJw⟩ := hP; have hkj := (hK.2.2.2.2.2 j (by omega)).1; have hsz : sz < 60 := by omega
  have hsw : (17 ≤ K j ∧ K j ≤ 25) ∨ K j = 27 ∨ K j = 29 := by omega
  have hkf := kj_f (K j) hkj hsw
  have hsws : hs_swt (nI (K j)) 17 27 [188, 326, 326, 217, 217, 217, 326, 326, 255, 326, 289] 326 = 326 := by
    rcases hk with h | h | h | h | h <;> rw [h] <;> decide
  have hT1 : TC N K A V (j + 1) (hs_u (hs_u (hs_u I (p + 1) sz (nI (K j))) p 6 (nI (ns + 1))) p 5 (nI (sz + 1))) L := TC_r hT (fun k hk => by simp (disch := omega) only [hu_same, hu_row, hu_at, hu_hu]) rfl
  obtain ⟨I2, L2, z1, z2, z3, z4, z5⟩ := x49 (scr := scr) (d := d + 6) (W := 33) (R := R') o8 hK hT1 hj (by omega)
  have hkk : kj (K j) = 1 ∨ kj (K j) = 2 ∨ kj (K j) = 6 ∨ kj (K j) = 7 ∨ kj (K j) = 10 := by
    rcases hk with h | h | h | h | h <;> rw [h] <;> decide
  refine ⟨I2, L2, J, q, l, ⟨fun k a b c d => by rw [z2.1 k a]; simp (disch := omega) only [hu_same, hu_row, hu_at, hu_hu], z2.2.1, by rw [z2.2.2]; simp (disch := omega) only [hu_same, hu_row, hu_at, hu_hu]⟩, fun _ _ => rfl, fun _ _ => rfl, T140_rf, ?_, Or.inl ⟨j + 1, by omega, hj, hM, ?_, fun h => ⟨z3 h, ⟨?_, fun i b h1 h2 h3 => ?_, ?_, ?_, ?_, ?_, fun b hb => ?_, fun q => by omega⟩, ?_⟩, z5⟩⟩
  · rw [e262, b262_0 o11, if_pos (ib_nI (by omega) (by omega)), nI_clamp (by omega), show (140 + 5 : Nat) = 145 from rfl, hz_row _ _ (by omega), hJw]
    rcases hkk with h | h | h | h | h
    · rw [h, if_neg (by decide), if_neg (by decide), if_neg (by decide), if_pos (by decide), b262_106]
    · rw [h, if_neg (by decide), if_neg (by decide), if_neg (by decide), if_pos (by decide), b262_106]
    · rw [h, if_neg (by decide), if_neg (by decide), if_neg (by decide), if_neg (by decide), if_pos (by decide), b262_106]
    · rw [h, if_neg (by decide), if_neg (by decide), if_neg (by decide), if_neg (by decide), if_pos (by decide), b262_106]
    · rw [h, if_neg (by decide), if_neg (by decide), if_neg (by decide), if_neg (by decide), if_pos (by decide), b262_106]
  · rw [x71h (d := d + 7) o6 r0 r2 o8 o5 hp hC.1 hkj hsw h5 h6 hns hsz, hsws, b71_326 o6 r0 o8, show (33 : Int32) = nI 33 from rfl, z1]
    simp only [Option.bind_some, Option.toList_some, Option.toList_none, List.append_nil, List.cons_append, List.nil_append]
    rw [b71_335, ib01]
  · simp (disch := omega) only [z2.1, hu_same, hu_row, hu_at, hu_hu]
  · simp (disch := omega) only [z2.1, hu_same, hu_row, hu_at, hu_hu]
  · simp (disch := omega) only [z2.1, hu_same, hu_row, hu_at, hu_hu]
  · simp (disch := omega) only [z2.1, hu_same, hu_row, hu_at, hu_hu]
  · simp (disch := omega) only [z2.1, hu_same, hu_row, hu_at, hu_hu]
  · simp (disch := omega) only [z2.1, hu_same, hu_row, hu_at, hu_hu]; exact h11
  · simp (disch := omega) only [z2.1, hu_same, hu_row, hu_at, hu_hu]
  · refine ⟨hkf.2.2, ?_, ?_, fun q => by omega, fun q => by omega, fun q => by omega, fun q => by omega⟩
    · show J 145 (1723 + (2 + 9 * ns)) = _
      rw [show 1723 + (2 + 9 * ns) = 1725 + 9 * ns by omega]; exact hJw
    · simp (disch := omega) only [z2.1, hu_same, hu_row, hu_at, hu_hu]; exact hkf.1.symm
theorem ad1725 (k : Nat) : (1725 : Int32) + nI k = nI (1725 + k) := nI_add 1725 k
theorem rowDay (hP : RwH E N B K A V H R R' cn p t j sz ns dp I L J q M l) (hk : K j = 17) : RowRes scr (d + 8) (dm + 9) E N B K A V H R R' (cn 0) (cn 3) p j sz ns dp dp I L J q M l := by
  obtain ⟨o11, o6, r0, r2, r3, o8, o5, o3, ht, hp, hK, hJ, hj, hT, hC, hM, h5, h6, h11, hns, hszd, hdp, hcn, hRN, hcnt, hJw⟩ := hP; have hkj := (hK.2.2.2.2.2 j (by omega)).1; have hsz : sz < 60 := by omega
  have hsw : (17 ≤ K j ∧ K j ≤ 25) ∨ K j = 27 ∨ K j = 29 := by omega
  have hk0 : kj (K j) = 0 := by rw [hk]; rfl
  have hT1 : TC N K A V (j + 1) (hs_u (hs_u (hs_u I (p + 1) sz (nI (K j))) p 6 (nI (ns + 1))) p 5 (nI (sz + 1))) L := TC_r hT (fun k hk => by simp (disch := omega) only [hu_same, hu_row, hu_at, hu_hu]) rfl
  obtain ⟨I1, L1, y1, y2, y3⟩ := x74 (scr := scr) (d := d + 4) (lo := 1) (hi := 20) o6 r0 r2 o8 o5 hp hK hT1 hj hsz (by omega) (by omega)
  obtain ⟨q1, l1, m1, m2, m3, m4⟩ := m221 (scr := scr) (d := dm + 6) (M := M) (lo := 1) (hi := 20) o11 hK hJ hj hM (by omega) (by omega)
  have eX : hs_C scr (d + 8) 71 [.ref 11] (hs_S0, I, L, R') = ((hs_C scr (d + 7) 74 [.ref 11, .int (nI sz), .int (nI 1), .int (nI 20)] (hs_S0, (hs_u (hs_u (hs_u I (p + 1) sz (nI (K j))) p 6 (nI (ns + 1))) p 5 (nI (sz + 1))), L, R')).bind fun o => hs_R scr (d + 8) 71 196 [some (.ref 11), some (.int (nI sz))] (o.1.toList ++ []) o.2) := by
    rw [x71h (d := d + 7) o6 r0 r2 o8 o5 hp hC.1 hkj hsw h5 h6 hns hsz, hk, show hs_swt (nI 17) 17 27 [188, 326, 326, 217, 217, 217, 326, 326, 255, 326, 289] 326 = 188 by decide, b71_188 o6]; rfl
  have eM : hs_C scr (dm + 9) 262 [.ref 140, .int (nI (1725 + 9 * ns))] (hs_S0, hs_z J 140 q, hs_z M 140 l, R) = some (none, (hs_S0, hs_z (hs_u J 145 (1725 + 9 * ns + 1) (if okN K V (j + 1) 1 20 then nI (V (j + 1)) else 0)) 140 q1, hs_z M 140 l1, R)) := by
    rw [e262, b262_0 o11, if_pos (ib_nI (by omega) (by omega)), nI_clamp (by omega), show (140 + 5 : Nat) = 145 from rfl, hz_row _ _ (by omega), hJw, hk0, if_pos (by decide)]
    refine (congrArg (fun z => Option.bind z _) m1).trans ?_
    simp only [Option.bind_some, Option.toList_some, Option.toList_none, List.append_nil, List.cons_append, List.nil_append]
    rw [b262_25 (S := hs_S0) (u0 := 145) (n_u0 := 1995) (a_u0 := rfl), nI_1, if_pos (ib_nI (by omega) (by omega)), nI_clamp (by omega), hz_cm _ _ _ (by omega), b262_106]
  by_cases g : okN K V (j + 1) 1 20
  · obtain ⟨u1, u2⟩ := y2 g
    have hj2 : j + 2 < N := hK.2.2.2.2.1 (j + 1) hj (by have := g.1; omega)
    obtain ⟨I2, L2, z1, z2, z3, z4, z5⟩ := x49 (scr := scr) (d := d + 6) (W := 33) (R := R') o8 hK u2 hj2 (by omega)
    have zz : ∀ k, k ≠ 4 → I2 k = hs_u I1 (p + 4) sz (nI (V (j + 1))) k := z2.1
    have yy : ∀ k, k ≠ 4 → I1 k = (hs_u (hs_u (hs_u I (p + 1) sz (nI (K j))) p 6 (nI (ns + 1))) p 5 (nI (sz + 1))) k := y1.1
    rw [if_pos g] at eM
    refine ⟨I2, L2, hs_u J 145 (1725 + 9 * ns + 1) (nI (V (j + 1))), q1, l1, ⟨fun k a b c d => by simp (disch := omega) only [zz, hu_same, hu_row, hu_at, hu_hu, yy], fun k hk => by rw [z2.2.1 k hk, y1.2.1 k hk], by rw [z2.2.2, hu_row _ _ (by omega), y1.2.2]; simp (disch := omega) only [hu_same, hu_row, hu_at, hu_hu]⟩, fun k hk => hu_row _ _ hk, fun f hf => hu_at _ _ (by omega), m2, eM, Or.inl ⟨j + 2, by omega, hj2, m3 g, ?_, fun h => ⟨z3 h, ⟨?_, fun i b h1 h2 h3 => ?_, ?_, ?_, ?_, ?_, fun b hb => ?_, fun q => by omega⟩, ?_⟩, z5⟩⟩
    · rw [eX, u1]
      simp only [Option.bind_some, Option.toList_some, Option.toList_none, List.append_nil, List.cons_append, List.nil_append]
      rw [b71_196 o6 r0 o8, if_neg (by decide), show (33 : Int32) = nI 33 from rfl, z1]
      simp only [Option.bind_some, Option.toList_some, Option.toList_none, List.append_nil, List.cons_append, List.nil_append]
      rw [b71_208]
      by_cases g33 : K (j + 2) = 33
      · rw [if_pos g33, if_neg (by decide), b71_216]; rfl
      · rw [if_neg g33, if_pos rfl, b71_215, b71_216]; rfl
    · simp (disch := omega) only [zz, hu_same, hu_row, hu_at, hu_hu, yy]
    · simp (disch := omega) only [zz, hu_same, hu_row, hu_at, hu_hu, yy]
    · simp (disch := omega) only [zz, hu_same, hu_row, hu_at, hu_hu, yy]
    · simp (disch := omega) only [zz, hu_same, hu_row, hu_at, hu_hu, yy]
    · simp (disch := omega) only [zz, hu_same, hu_row, hu_at, hu_hu, yy]
    · simp (disch := omega) only [zz, hu_same, hu_row, hu_at, hu_hu, yy]; exact h11
    · simp (disch := omega) only [zz, hu_same, hu_row, hu_at, hu_hu, yy]
    · rw [hk0]
      refine ⟨by omega, ?_, ?_, fun _ => ⟨?_, V (j + 1), g.2.1, g.2.2, ?_⟩, fun q => by omega, fun q => by omega, fun q => by omega⟩
      · show hs_u J 145 (1725 + 9 * ns + 1) (nI (V (j + 1))) 145 (1723 + (2 + 9 * ns)) = _
        rw [hu_at _ _ (by omega), show 1723 + (2 + 9 * ns) = 1725 + 9 * ns by omega, hJw, hk0]
      · simp (disch := omega) only [zz, hu_same, hu_row, hu_at, hu_hu, yy]; rw [hk]; rfl
      · show I2 (p + 4) sz = hs_u J 145 (1725 + 9 * ns + 1) (nI (V (j + 1))) 145 (1723 + (2 + 9 * ns + 1))
        rw [show 1723 + (2 + 9 * ns + 1) = 1725 + 9 * ns + 1 by omega, hu_same]
        simp (disch := omega) only [zz, hu_same, hu_row, hu_at, hu_hu]
      · show hs_u J 145 (1725 + 9 * ns + 1) (nI (V (j + 1))) 145 (1723 + (2 + 9 * ns + 1)) = _
        rw [show 1723 + (2 + 9 * ns + 1) = 1725 + 9 * ns + 1 by omega, hu_same]
  · obtain ⟨u1, u2⟩ := y3 g
    refine ⟨I1, L1, _, q1, l1, ⟨fun k a b c d => by rw [y1.1 k a]; simp (disch := omega) only [hu_same, hu_row, hu_at, hu_hu], y1.2.1, by rw [y1.2.2]; simp (disch := omega) only [hu_same, hu_row, hu_at, hu_hu]⟩, fun k hk => hu_row _ _ hk, fun f hf => hu_at _ _ (by omega), m2, eM, Or.inr ⟨_, _, ?_, u2, m4 g⟩⟩
    rw [eX, u1]
    simp only [Option.bind_some, Option.toList_some, Option.toList_none, List.append_nil, List.cons_append, List.nil_append]
    rw [b71_196 o6 r0 o8, if_pos rfl, b71_215, b71_216]; rfl
theorem rowLoop (hP : RwH E N B K A V H R R' cn p t j sz ns dp I L J q M l) (hk : K j = 27) (hd3 : dp < 3) : RowRes scr (d + 8) (dm + 9) E N B K A V H R R' (cn 0) (cn 3) p j sz ns dp (dp + 1) I L J q M l := by
  obtain ⟨o11, o6, r0, r2, r3, o8, o5, o3, ht, hp, hK, hJ, hj, hT, hC, hM, h5, h6, h11, hns, hszd, hdp, hcn, hRN, hcnt, hJw⟩ := hP; have hkj := (hK.2.2.2.2.2 j (by omega)).1; have hsz : sz < 60 := by omega
  have hsw : (17 ≤ K j ∧ K j ≤ 25) ∨ K j = 27 ∨ K j = 29 := by omega
  have hk0 : kj (K j) = 9 := by rw [hk]; rfl
  have hT1 : TC N K A V (j + 1) (hs_u (hs_u (hs_u (hs_u (hs_u I (p + 1) sz (nI (K j))) p 6 (nI (ns + 1))) p 5 (nI (sz + 1))) 12 dp (nI sz)) 11 4 (nI (dp + 1))) L := TC_r hT (fun k hk => by simp (disch := omega) only [hu_same, hu_row, hu_at, hu_hu]) rfl
  obtain ⟨I1, L1, y1, y2, y3⟩ := x74 (scr := scr) (d := d + 4) (lo := 1) (hi := 99) o6 r0 r2 o8 o5 hp hK hT1 hj hsz (by omega) (by omega)
  obtain ⟨q1, l1, m1, m2, m3, m4⟩ := m221 (scr := scr) (d := dm + 6) (M := M) (lo := 1) (hi := 99) o11 hK hJ hj hM (by omega) (by omega)
  have eX : hs_C scr (d + 8) 71 [.ref 11] (hs_S0, I, L, R') = ((hs_C scr (d + 7) 74 [.ref 11, .int (nI sz), .int (nI 1), .int (nI 99)] (hs_S0, hs_u (hs_u (hs_u (hs_u (hs_u I (p + 1) sz (nI (K j))) p 6 (nI (ns + 1))) p 5 (nI (sz + 1))) 12 dp (nI sz)) 11 4 (nI (dp + 1)), L, R')).bind fun o => hs_R scr (d + 8) 71 305 [some (.ref 11), some (.int (nI sz))] (o.1.toList ++ []) o.2) := by
    rw [x71h (d := d + 7) o6 r0 r2 o8 o5 hp hC.1 hkj hsw h5 h6 hns hsz, hk, show hs_swt (nI 27) 17 27 [188, 326, 326, 217, 217, 217, 326, 326, 255, 326, 289] 326 = 289 by decide, b71_289 o6, e76, b76_0 o6 r0 o8]
    simp (disch := omega) only [hu_same, hu_row, hu_at, hu_hu, h11, nI_1, show (nI dp < (3 : Int32)) = True from eq_true (nI_lt (b := 3) hd3 (by omega)), ib_nI, nI_clamp, ↓reduceIte, Nat.reduceAdd]
    simp only [Option.bind_some, Option.toList_some, Option.toList_none, List.append_nil, List.cons_append, List.nil_append]
    rw [b71_294 o6, if_neg (by decide)]
    simp only [List.append_nil]; rfl
  have eM : hs_C scr (dm + 9) 262 [.ref 140, .int (nI (1725 + 9 * ns))] (hs_S0, hs_z J 140 q, hs_z M 140 l, R) = some (none, (hs_S0, hs_z (hs_u J 145 (1725 + 9 * ns + 1) (if okN K V (j + 1) 1 99 then nI (V (j + 1)) else 0)) 140 q1, hs_z M 140 l1, R)) := by
    rw [e262, b262_0 o11, if_pos (ib_nI (by omega) (by omega)), nI_clamp (by omega), show (140 + 5 : Nat) = 145 from rfl, hz_row _ _ (by omega), hJw, hk0, if_neg (by decide), if_pos (by decide)]
    refine (congrArg (fun z => Option.bind z _) m1).trans ?_
    simp only [Option.bind_some, Option.toList_some, Option.toList_none, List.append_nil, List.cons_append, List.nil_append]
    rw [b262_49 (S := hs_S0) (u0 := 145) (n_u0 := 1995) (a_u0 := rfl), nI_1, if_pos (ib_nI (by omega) (by omega)), nI_clamp (by omega), hz_cm _ _ _ (by omega), b262_106]
  by_cases g : okN K V (j + 1) 1 99
  · obtain ⟨u1, u2⟩ := y2 g
    have hj2 : j + 2 < N := hK.2.2.2.2.1 (j + 1) hj (by have := g.1; omega)
    obtain ⟨I2, L2, z1, z2, z3, z4, z5⟩ := x49 (scr := scr) (d := d + 6) (W := 33) (R := R') o8 hK u2 hj2 (by omega)
    have zz : ∀ k, k ≠ 4 → I2 k = hs_u I1 (p + 4) sz (nI (V (j + 1))) k := z2.1
    have yy : ∀ k, k ≠ 4 → I1 k = hs_u (hs_u (hs_u (hs_u (hs_u I (p + 1) sz (nI (K j))) p 6 (nI (ns + 1))) p 5 (nI (sz + 1))) 12 dp (nI sz)) 11 4 (nI (dp + 1)) k := y1.1
    rw [if_pos g] at eM
    refine ⟨I2, L2, hs_u J 145 (1725 + 9 * ns + 1) (nI (V (j + 1))), q1, l1, ⟨fun k a b c d => by simp (disch := omega) only [zz, hu_same, hu_row, hu_at, hu_hu, yy], fun k hk => by rw [z2.2.1 k hk, y1.2.1 k hk], by rw [z2.2.2, hu_row _ _ (by omega), y1.2.2]; simp (disch := omega) only [hu_same, hu_row, hu_at, hu_hu]⟩, fun k hk => hu_row _ _ hk, fun f hf => hu_at _ _ (by omega), m2, eM, Or.inl ⟨j + 2, by omega, hj2, m3 g, ?_, fun h => ⟨z3 h, ⟨?_, fun i b h1 h2 h3 => ?_, ?_, ?_, ?_, ?_, fun b hb => ?_, fun _ => ?_⟩, ?_⟩, z5⟩⟩
    · rw [eX, u1]
      simp only [Option.bind_some, Option.toList_some, Option.toList_none, List.append_nil, List.cons_append, List.nil_append]
      rw [b71_305 o6 r0 o8, if_neg (by decide), show (33 : Int32) = nI 33 from rfl, z1]
      simp only [Option.bind_some, Option.toList_some, Option.toList_none, List.append_nil, List.cons_append, List.nil_append]
      rw [b71_317]
      by_cases g33 : K (j + 2) = 33
      · rw [if_pos g33, if_neg (by decide), b71_325]; rfl
      · rw [if_neg g33, if_pos rfl, b71_324, b71_325]; rfl
    · simp (disch := omega) only [zz, hu_same, hu_row, hu_at, hu_hu, yy]
    · simp (disch := omega) only [zz, hu_same, hu_row, hu_at, hu_hu, yy]
    · simp (disch := omega) only [zz, hu_same, hu_row, hu_at, hu_hu, yy]
    · simp (disch := omega) only [zz, hu_same, hu_row, hu_at, hu_hu, yy]
    · simp (disch := omega) only [zz, hu_same, hu_row, hu_at, hu_hu, yy]
    · simp (disch := omega) only [zz, hu_same, hu_row, hu_at, hu_hu, yy]
    · simp (disch := omega) only [zz, hu_same, hu_row, hu_at, hu_hu, yy]
    · simp (disch := omega) only [zz, hu_same, hu_row, hu_at, hu_hu, yy]
    · rw [hk0]
      refine ⟨by omega, ?_, ?_, fun q => by omega, fun q => by omega, fun _ => ⟨?_, V (j + 1), g.2.1, g.2.2, ?_⟩, fun q => by omega⟩
      · show hs_u J 145 (1725 + 9 * ns + 1) (nI (V (j + 1))) 145 (1723 + (2 + 9 * ns)) = _
        rw [hu_at _ _ (by omega), show 1723 + (2 + 9 * ns) = 1725 + 9 * ns by omega, hJw, hk0]
      · simp (disch := omega) only [zz, hu_same, hu_row, hu_at, hu_hu, yy]; rw [hk]; rfl
      · show I2 (p + 4) sz = hs_u J 145 (1725 + 9 * ns + 1) (nI (V (j + 1))) 145 (1723 + (2 + 9 * ns + 1))
        rw [show 1723 + (2 + 9 * ns + 1) = 1725 + 9 * ns + 1 by omega, hu_same]
        simp (disch := omega) only [zz, hu_same, hu_row, hu_at, hu_hu]
      · show hs_u J 145 (1725 + 9 * ns + 1) (nI (V (j + 1))) 145 (1723 + (2 + 9 * ns + 1)) = _
        rw [show 1723 + (2 + 9 * ns + 1) = 1725 + 9 * ns + 1 by omega, hu_same]
  · obtain ⟨u1, u2⟩ := y3 g
    refine ⟨I1, L1, _, q1, l1, ⟨fun k a b c d => by rw [y1.1 k a]; simp (disch := omega) only [hu_same, hu_row, hu_at, hu_hu], y1.2.1, by rw [y1.2.2]; simp (disch := omega) only [hu_same, hu_row, hu_at, hu_hu]⟩, fun k hk => hu_row _ _ hk, fun f hf => hu_at _ _ (by omega), m2, eM, Or.inr ⟨_, _, ?_, u2, m4 g⟩⟩
    rw [eX, u1]
    simp only [Option.bind_some, Option.toList_some, Option.toList_none, List.append_nil, List.cons_append, List.nil_append]
    rw [b71_305 o6 r0 o8, if_pos rfl, b71_324, b71_325]; rfl
theorem rowThing (hP : RwH E N B K A V H R R' cn p t j sz ns dp I L J q M l) (hk : K j = 20 ∨ K j = 21 ∨ K j = 22) : RowRes scr (d + 8) (dm + 9) E N B K A V H R R' (cn 0) (cn 3) p j sz ns dp dp I L J q M l := by
  obtain ⟨o11, o6, r0, r2, r3, o8, o5, o3, ht, hp, hK, hJ, hj, hT, hC, hM, h5, h6, h11, hns, hszd, hdp, hcn, hRN, hcnt, hJw⟩ := hP; have hkj := (hK.2.2.2.2.2 j (by omega)).1; have hsz : sz < 60 := by omega
  have hsw : (17 ≤ K j ∧ K j ≤ 25) ∨ K j = 27 ∨ K j = 29 := by omega
  have hkf := kj_f (K j) hkj hsw
  have hk0 : kj (K j) = 3 ∨ kj (K j) = 4 ∨ kj (K j) = 5 := by
    rcases hk with h | h | h <;> rw [h] <;> decide
  have hsws : hs_swt (nI (K j)) 17 27 [188, 326, 326, 217, 217, 217, 326, 326, 255, 326, 289] 326 = 217 := by
    rcases hk with h | h | h <;> rw [h] <;> decide
  have hT1 : TC N K A V (j + 1) (hs_u (hs_u (hs_u I (p + 1) sz (nI (K j))) p 6 (nI (ns + 1))) p 5 (nI (sz + 1))) L := TC_r hT (fun k hk => by simp (disch := omega) only [hu_same, hu_row, hu_at, hu_hu]) rfl
  have hRN1 : RN cn (fun k => M 148 k) (hs_u (hs_u (hs_u I (p + 1) sz (nI (K j))) p 6 (nI (ns + 1))) p 5 (nI (sz + 1))) L t := RN_cg hRN (fun k hk => rfl) (by simp (disch := omega) only [hu_same, hu_row, hu_at, hu_hu]) (by simp (disch := omega) only [hu_same, hu_row, hu_at, hu_hu]) (by simp (disch := omega) only [hu_same, hu_row, hu_at, hu_hu]) rfl
  obtain ⟨I1, L1, y1, hor⟩ := jTh (scr := scr) (d := d + 3) (dm := dm + 2) (s := 0) (row := sz) (R := R) (R' := R') o11 o6 r0 r2 r3 o8 o5 o3 ht hp hK hJ hT1 hM hj hsz (by omega) hcn (hcnt 0 (by omega)) hRN1
  have yy : ∀ k, k ≠ 4 → I1 k = (hs_u (hs_u (hs_u I (p + 1) sz (nI (K j))) p 6 (nI (ns + 1))) p 5 (nI (sz + 1))) k := y1.1
  have eX : hs_C scr (d + 8) 71 [.ref 11] (hs_S0, I, L, R') = ((hs_C scr (d + 7) 75 [.ref 11, .int (nI sz), .int (kd 0)] (hs_S0, (hs_u (hs_u (hs_u I (p + 1) sz (nI (K j))) p 6 (nI (ns + 1))) p 5 (nI (sz + 1))), L, R')).bind fun o => hs_R scr (d + 8) 71 223 [some (.ref 11), some (.int (nI sz))] (o.1.toList ++ []) o.2) := by
    rw [x71h (d := d + 7) o6 r0 r2 o8 o5 hp hC.1 hkj hsw h5 h6 hns hsz, hsws, b71_217 o6]; rfl
  have eM : hs_C scr (dm + 9) 262 [.ref 140, .int (nI (1725 + 9 * ns))] (hs_S0, hs_z J 140 q, hs_z M 140 l, R) = ((hs_C scr (dm + 8) 255 [.ref 140, .int 0, .int (nI 0)] (hs_S0, hs_z J 140 q, hs_z M 140 l, R)).bind fun o => hs_R scr (dm + 9) 262 90 [some (.ref 140), some (.int (nI (1725 + 9 * ns))), some (.int (nI (kj (K j))))] (o.1.toList ++ [.int (nI (1725 + 9 * ns + 1)), .ref 145]) o.2) := by
    rw [e262, b262_0 o11, if_pos (ib_nI (by omega) (by omega)), nI_clamp (by omega), show (140 + 5 : Nat) = 145 from rfl, hz_row _ _ (by omega), hJw, nI_1]
    rcases hk0 with h | h | h
    · rw [h, if_neg (by decide), if_neg (by decide), if_neg (by decide), if_neg (by decide), if_neg (by decide)]; rfl
    · rw [h, if_neg (by decide), if_neg (by decide), if_neg (by decide), if_neg (by decide), if_neg (by decide)]; rfl
    · rw [h, if_neg (by decide), if_neg (by decide), if_neg (by decide), if_neg (by decide), if_neg (by decide)]; rfl
  rcases hor with ⟨k, q1, l1, a1, a2, a3, a4, a5, a6, a7⟩ | ⟨c, a, q1, a1, a2, a3, a4, a5⟩
  · obtain ⟨I2, L2, y2, u1, u2⟩ := x74 (scr := scr) (d := d + 4) (lo := 0) (hi := 99) o6 r0 r2 o8 o5 hp hK a4 a2 hsz (by omega) (by omega)
    obtain ⟨q2, l2, m1, m2, m3, m4⟩ := m221 (scr := scr) (d := dm + 6) (J := hs_u J 145 (1725 + 9 * ns + 1) (nI k)) (M := M) (lo := 0) (hi := 99) o11 hK (fun i hi => by rw [hu_row _ _ (by omega)]; exact hJ i hi) a2 a6 (by omega) (by omega)
    have y22 : ∀ k', k' ≠ 4 → I2 k' = hs_u I1 (p + 3) sz (nI k) k' := y2.1
    have eM2 : hs_C scr (dm + 9) 262 [.ref 140, .int (nI (1725 + 9 * ns))] (hs_S0, hs_z J 140 q, hs_z M 140 l, R) = some (none, (hs_S0, hs_z (hs_u (hs_u J 145 (1725 + 9 * ns + 1) (nI k)) 145 (1725 + 9 * ns + 2) (if okN K V (j + 2) 0 99 then nI (V (j + 2)) else 0)) 140 q2, hs_z M 140 l2, R)) := by
      rw [eM, a5]
      simp only [Option.bind_some, Option.toList_some, Option.toList_none, List.append_nil, List.cons_append, List.nil_append]
      rw [b262_90 (S := hs_S0) (u0 := 145) (n_u0 := 1995) (a_u0 := rfl) (o_t0 := o11), if_pos (ib_nI (by omega) (by omega)), nI_clamp (by omega), hz_cm _ _ _ (by omega)]
      refine (congrArg (fun z => Option.bind z _) m1).trans ?_
      simp only [Option.bind_some, Option.toList_some, Option.toList_none, List.append_nil, List.cons_append, List.nil_append]
      rw [show (140 + 5 : Nat) = 145 from rfl, b262_105 (S := hs_S0) (u0 := 145) (n_u0 := 1995) (a_u0 := rfl), adw2, if_pos (ib_nI (by omega) (by omega)), nI_clamp (by omega), hz_cm _ _ _ (by omega), b262_106]
    have eX2 : hs_C scr (d + 8) 71 [.ref 11] (hs_S0, I, L, R') = ((hs_C scr (d + 7) 74 [.ref 11, .int (nI sz), .int (nI 0), .int (nI 99)] (hs_S0, hs_u I1 (p + 3) sz (nI k), L1, R')).bind fun o => hs_R scr (d + 8) 71 234 [some (.ref 11), some (.int (nI sz))] (o.1.toList ++ []) o.2) := by
      rw [eX, a3]
      simp only [Option.bind_some, Option.toList_some, Option.toList_none, List.append_nil, List.cons_append, List.nil_append]
      rw [b71_223 o6, if_neg (by decide)]
      simp only [List.append_nil]; rfl
    by_cases g : okN K V (j + 2) 0 99
    · obtain ⟨v1, v2⟩ := u1 g
      have hj3 : j + 3 < N := hK.2.2.2.2.1 (j + 2) a2 (by have := g.1; omega)
      obtain ⟨I3, L3, z1, z2, z3, z4, z5⟩ := x49 (scr := scr) (d := d + 6) (W := 33) (R := R') o8 hK v2 hj3 (by omega)
      have zz : ∀ k', k' ≠ 4 → I3 k' = hs_u I2 (p + 4) sz (nI (V (j + 2))) k' := z2.1
      rw [if_pos g] at eM2
      refine ⟨I3, L3, hs_u (hs_u J 145 (1725 + 9 * ns + 1) (nI k)) 145 (1725 + 9 * ns + 2) (nI (V (j + 2))), q2, l2, ⟨fun k a b c d => by simp (disch := omega) only [zz, hu_same, hu_row, hu_at, hu_hu, y22, yy], fun k hk => by rw [z2.2.1 k hk, y2.2.1 k hk, y1.2.1 k hk], by rw [z2.2.2, hu_row _ _ (by omega), y2.2.2, hu_row _ _ (by omega), y1.2.2]; simp (disch := omega) only [hu_same, hu_row, hu_at, hu_hu]⟩, fun k hk => by simp (disch := omega) only [hu_row], fun f hf => by simp (disch := omega) only [hu_at], T140_tr a7 m2, eM2, Or.inl ⟨j + 3, by omega, hj3, m3 g, ?_, fun h => ⟨z3 h, ⟨?_, fun i b h1 h2 h3 => ?_, ?_, ?_, ?_, ?_, fun b hb => ?_, fun q => by omega⟩, ?_⟩, z5⟩⟩
      · rw [eX2, v1]
        simp only [Option.bind_some, Option.toList_some, Option.toList_none, List.append_nil, List.cons_append, List.nil_append]
        rw [b71_234 o6 r0 o8, if_neg (by decide), show (33 : Int32) = nI 33 from rfl, z1]
        simp only [Option.bind_some, Option.toList_some, Option.toList_none, List.append_nil, List.cons_append, List.nil_append]
        rw [b71_246]
        by_cases g33 : K (j + 3) = 33
        · rw [if_pos g33, if_neg (by decide), b71_254]; rfl
        · rw [if_neg g33, if_pos rfl, b71_253, b71_254]; rfl
      · simp (disch := omega) only [zz, hu_same, hu_row, hu_at, hu_hu, y22, yy]
      · simp (disch := omega) only [zz, hu_same, hu_row, hu_at, hu_hu, y22, yy]
      · simp (disch := omega) only [zz, hu_same, hu_row, hu_at, hu_hu, y22, yy]
      · simp (disch := omega) only [zz, hu_same, hu_row, hu_at, hu_hu, y22, yy]
      · simp (disch := omega) only [zz, hu_same, hu_row, hu_at, hu_hu, y22, yy]
      · simp (disch := omega) only [zz, hu_same, hu_row, hu_at, hu_hu, y22, yy]; exact h11
      · simp (disch := omega) only [zz, hu_same, hu_row, hu_at, hu_hu, y22, yy]
      · have w0 : hs_u (hs_u J 145 (1725 + 9 * ns + 1) (nI k)) 145 (1725 + 9 * ns + 2) (nI (V (j + 2))) 145 (1723 + (2 + 9 * ns)) = nI (kj (K j)) := by
          rw [hu_at _ _ (by omega), hu_at _ _ (by omega), show 1723 + (2 + 9 * ns) = 1725 + 9 * ns by omega, hJw]
        have w1 : hs_u (hs_u J 145 (1725 + 9 * ns + 1) (nI k)) 145 (1725 + 9 * ns + 2) (nI (V (j + 2))) 145 (1723 + (2 + 9 * ns + 1)) = nI k := by
          rw [hu_at _ _ (by omega), show 1723 + (2 + 9 * ns + 1) = 1725 + 9 * ns + 1 by omega, hu_same]
        have w2 : hs_u (hs_u J 145 (1725 + 9 * ns + 1) (nI k)) 145 (1725 + 9 * ns + 2) (nI (V (j + 2))) 145 (1723 + (2 + 9 * ns + 2)) = nI (V (j + 2)) := by
          rw [show 1723 + (2 + 9 * ns + 2) = 1725 + 9 * ns + 2 by omega, hu_same]
        refine ⟨hkf.2.2, w0, ?_, fun q => by omega, fun _ => ⟨Eq.trans ?_ w1.symm, ⟨k, a1, w1⟩, Eq.trans ?_ w2.symm, ⟨_, g.2.2, w2⟩⟩, fun q => by omega, fun q => by omega⟩
        · simp (disch := omega) only [zz, hu_same, hu_row, hu_at, hu_hu, y22, yy]; exact hkf.1.symm
        · simp (disch := omega) only [zz, hu_same, hu_row, hu_at, hu_hu, y22, yy]
        · simp (disch := omega) only [zz, hu_same, hu_row, hu_at, hu_hu, y22, yy]
    · obtain ⟨v1, v2⟩ := u2 g
      refine ⟨I2, L2, _, q2, l2, ⟨fun k a b c d => by simp (disch := omega) only [y22, hu_same, hu_row, hu_at, hu_hu, yy], fun k hk => by rw [y2.2.1 k hk, y1.2.1 k hk], by rw [y2.2.2, hu_row _ _ (by omega), y1.2.2]; simp (disch := omega) only [hu_same, hu_row, hu_at, hu_hu]⟩, fun k hk => by simp (disch := omega) only [hu_row], fun f hf => by simp (disch := omega) only [hu_at], T140_tr a7 m2, eM2, Or.inr ⟨_, _, ?_, v2, m4 g⟩⟩
      rw [eX2, v1]
      simp only [Option.bind_some, Option.toList_some, Option.toList_none, List.append_nil, List.cons_append, List.nil_append]
      rw [b71_234 o6 r0 o8, if_pos rfl, b71_253, b71_254]; rfl
  · refine ⟨hs_u I1 (p + 3) sz (-1), L1, hs_u (hs_u J 145 (1725 + 9 * ns + 1) 0) 145 (1725 + 9 * ns + 2) 0, q1, l, ⟨fun k a b c d => by simp (disch := omega) only [hu_same, hu_row, hu_at, hu_hu, yy], y1.2.1, by rw [hu_row _ _ (by omega), y1.2.2]; simp (disch := omega) only [hu_same, hu_row, hu_at, hu_hu]⟩, fun k hk => by simp (disch := omega) only [hu_row], fun f hf => by simp (disch := omega) only [hu_at], a5, ?_, Or.inr ⟨c, a, ?_, ?_, a4⟩⟩
    · rw [eM, a3]
      simp only [Option.bind_some, Option.toList_some, Option.toList_none, List.append_nil, List.cons_append, List.nil_append]
      rw [b262_90 (S := hs_S0) (u0 := 145) (n_u0 := 1995) (a_u0 := rfl) (o_t0 := o11), if_pos (ib_nI (by omega) (by omega)), nI_clamp (by omega), hz_cm _ _ _ (by omega), m221b (d := dm + 7) o11 a4]
      simp only [Option.bind_some, Option.toList_some, Option.toList_none, List.append_nil, List.cons_append, List.nil_append]
      rw [show (140 + 5 : Nat) = 145 from rfl, b262_105 (S := hs_S0) (u0 := 145) (n_u0 := 1995) (a_u0 := rfl), adw2, if_pos (ib_nI (by omega) (by omega)), nI_clamp (by omega), hz_cm _ _ _ (by omega), b262_106]
    · rw [eX, a1]
      simp only [Option.bind_some, Option.toList_some, Option.toList_none, List.append_nil, List.cons_append, List.nil_append]
      rw [b71_223 o6, if_pos rfl, b71_253, b71_254]; rfl
    · unfold BC; rw [hu_row _ _ (by omega)]; exact a2
end R2
