/-! parts of a state's text: hair -/
section P5
variable {scr : List Int32} {dX dM d E N j j1 c a k v t s p p1 most n np nr nl nb nq l0 len gr sd i : Nat} {o g : Bool} {B K A V H cn : Nat → Nat} {q q' : Nat → Int32} {l l' : Nat → Int64} {w : Nat → Int64} {y : Int64} {I J I' J' : Nat → Nat → Int32} {L M L' M' : Nat → Nat → Int64} {R R' : Nat → Nat → Nat}
def lk3 (J : Nat → Nat → Int32) (n : Nat) : Nat → Nat → Nat → Int32
  | 0 => J
  | i + 1 => hs_u (lk3 J n i) 145 (1655 + (8 * i + n)) 3
theorem lk3_o {f : Nat} : ∀ {i : Nat}, (∀ x, x < i → f ≠ 1655 + (8 * x + n)) → lk3 J n i 145 f = J 145 f
  | 0, _ => rfl
  | i + 1, h => by rw [lk3, hu_at _ _ (by have := h i (by omega); omega)]; exact lk3_o (fun x hx => h x (by omega))
theorem lk3_r {f : Nat} (hf : f ≠ 145) : ∀ {i : Nat}, lk3 J n i f = J f
  | 0 => rfl
  | i + 1 => by rw [lk3, hu_row _ _ hf]; exact lk3_r hf
theorem lk3_i (hn : n < 8) : ∀ {i x : Nat}, x < i → lk3 J n i 145 (1655 + (8 * x + n)) = 3
  | 0, x, h => by omega
  | i + 1, x, h => by
    rw [lk3]
    by_cases g : x = i
    · subst g; exact hu_same _ _ _ _
    · rw [hu_at _ _ (by omega)]; exact lk3_i hn (by omega)
theorem ad1606 (k : Nat) : (1606 : Int32) + nI k = nI (1606 + k) := nI_add 1606 k
theorem ad1614 (k : Nat) : (1614 : Int32) + nI k = nI (1614 + k) := nI_add 1614 k
theorem ad1622 (k : Nat) : (1622 : Int32) + nI k = nI (1622 + k) := nI_add 1622 k
theorem m226l (o11 : ok11 hs_S0 R 140) (hn : n < 8) (hJ : J 145 1596 = nI n) {x2 x3 x4 : Int32} : ∀ m i, i + m = 6 → hs_R scr d 226 146 [some (.ref 140), some (.int (nI n)), some (.int x2), some (.int x3), some (.int x4), some (.int (nI i))] [] (hs_S0, hs_z (lk3 J n i) 140 q, hs_z M 140 l, R) = some (none, (hs_S0, hs_z (hs_u (lk3 J n 6) 145 1596 (nI (n + 1))) 140 q, hs_z M 140 l, R))
  | 0, i, e => by
    have : i = 6 := by omega
    subst this
    rw [b226_146 o11, if_pos (show (6 : Int32) ≤ nI 6 by decide), show (140 + 5 : Nat) = 145 from rfl, hz_row _ _ (by omega), lk3_o (fun x hx => by omega), hJ, nI_1, hz_cm _ _ _ (by omega)]
  | m + 1, i, e => by
    rw [b226_146 o11, if_neg (show ¬ (6 : Int32) ≤ nI i from nI_ge (b := 6) (by omega) (by omega)), ml8, ad1655, nI_add, if_pos (ib_nI (by omega) (by omega)), nI_clamp (by omega), show (140 + 5 : Nat) = 145 from rfl, hz_cm _ _ _ (by omega), nI_1, Nat.add_assoc]
    exact m226l o11 hn hJ m (i + 1) (by omega)
def hJ' (J : Nat → Nat → Int32) (n len gr sd : Nat) : Nat → Nat → Int32 := hs_u (lk3 (hs_u (hs_u (hs_u J 145 (1606 + n) (nI len)) 145 (1614 + n) (nI gr)) 145 (1622 + n) (nI sd)) n 6) 145 1596 (nI (n + 1))
theorem m226w (o11 : ok11 hs_S0 R 140) (hn : n < 8) (hJ : J 145 1596 = nI n) (hq : q 12 = 0) {x4 : Int32} (h4 : (¬ 0 ≤ x4 ∧ sd = 1) ∨ (0 ≤ x4 ∧ x4 = nI sd)) : hs_R scr d 226 92 [some (.ref 140), some (.int (nI n)), some (.int (nI len)), some (.int (nI gr)), some (.int x4), none] [] (hs_S0, hs_z J 140 q, hs_z M 140 l, R) = some (none, (hs_S0, hs_z (hJ' J n len gr sd) 140 q, hs_z M 140 l, R)) := by
  have hfin : hs_R scr d 226 142 [some (.ref 140), some (.int (nI n)), some (.int (nI len)), some (.int (nI gr)), some (.int x4), none] [.int (nI sd), .int (nI (1622 + n)), .ref 145] (hs_S0, hs_z (hs_u (hs_u J 145 (1606 + n) (nI len)) 145 (1614 + n) (nI gr)) 140 q, hs_z M 140 l, R) = some (none, (hs_S0, hs_z (hJ' J n len gr sd) 140 q, hs_z M 140 l, R)) := by
    rw [b226_142 (S := hs_S0) (u0 := 145) (n_u0 := 1995) (a_u0 := rfl), if_pos (ib_nI (by omega) (by omega)), nI_clamp (by omega), hz_cm _ _ _ (by omega)]
    have := m226l (scr := scr) (d := d) (J := hs_u (hs_u (hs_u J 145 (1606 + n) (nI len)) 145 (1614 + n) (nI gr)) 145 (1622 + n) (nI sd)) (M := M) (q := q) (l := l) (R := R) (x2 := nI len) (x3 := nI gr) (x4 := x4) o11 hn (by rw [hu_at _ _ (by omega), hu_at _ _ (by omega), hu_at _ _ (by omega)]; exact hJ) 6 0 rfl
    rw [nI_0] at this
    exact this
  rw [b226_92 o11, hz_s, hq, if_pos (by decide), ad1606, ad1614, ad1622, if_pos (ib_nI (by omega) (by omega)), if_pos (ib_nI (by omega) (by omega)), nI_clamp (by omega), nI_clamp (by omega), show (140 + 5 : Nat) = 145 from rfl, hz_cm _ _ _ (by omega), hz_cm _ _ _ (by omega)]
  rcases h4 with ⟨h1, h2⟩ | ⟨h1, h2⟩
  · rw [if_neg h1, show (1 : Int32) = nI sd by rw [h2]; rfl]; exact hfin
  · rw [if_pos h1]
    rw [h2] at hfin ⊢
    exact hfin
theorem x58 (o1 : ok1 hs_S0 R (t + 5)) (hn : n < 8) (h5 : I (t + 5) 4 = nI n) {a b c : Int32} : hs_C scr d 58 [.ref (t + 5), .int a, .int b, .int c] (hs_S0, I, L, R) = some (none, (hs_S0, hs_u (hs_u (hs_u (hs_u (hs_u I (t + 6) n a) (t + 7) n b) (t + 8) n c) (t + 9) n 0) (t + 5) 4 (nI (n + 1)), L, R)) := by
  rw [e58, b58_0 o1, show t + 5 + 1 = t + 6 from rfl, show t + 5 + 2 = t + 7 from rfl, show t + 5 + 3 = t + 8 from rfl, show t + 5 + 4 = t + 9 from rfl]
  simp (disch := omega) only [Option.bind_some, Option.toList_some, Option.toList_none, List.append_nil, List.cons_append, List.nil_append, ↓reduceIte, true_or, or_true, Nat.reduceAdd, Nat.add_assoc, hu_same, hu_row, hu_at, hu_hu, h5, f8l, ib_nI, nI_clamp, nI_1, b58_59]
theorem hairT (o11 : ok11 hs_S0 R 140) (o7 : ok7 hs_S0 R' 10) (r0 : R' 10 0 = 4) (o8 : ok8 hs_S0 R' 4) (o4 : ok4 hs_S0 R' t) (ht : 11 ≤ t) (hK : TKS E N B K A V H) (hJ : JB E B J) (hn : n < 8) (h5 : I (t + 5) 4 = nI n) (hJ5 : J 145 1596 = nI n) (hp : p1 < N) (hT : TC N K A V (p1 + 1) I L) (hC : CU K A V p1 I L) (hM : MC E K A V H p1 q l) : ∃ (I1 : Nat → Nat → Int32) (L1 : Nat → Nat → Int64) (I2 : Nat → Nat → Int32) (q' : Nat → Int32) (l' : Nat → Int64) (p2 sd : Nat), sd ≤ 2 ∧ p1 ≤ p2 ∧ p2 < N ∧ MC E K A V H p2 q' l' ∧ T140 q l q' l' ∧ T4 I L I1 L1 ∧ T4 (hs_u (hs_u (hs_u (hs_u (hs_u I1 (t + 6) n (nI len)) (t + 7) n (nI gr)) (t + 8) n (nI sd)) (t + 9) n 0) (t + 5) 4 (nI (n + 1))) L1 I2 L1 ∧ hs_R scr (d + 8) 52 110 [some (.ref 10), some (.ref (t + 5)), some (.int (nI len)), some (.int (nI gr)), none] [] (hs_S0, I, L, R') = some (some (.int (if K p2 = 33 then 1 else 0)), (hs_S0, I2, L1, R')) ∧ (K p2 = 33 → TC N K A V (p2 + 1) I2 L1) ∧ (K p2 ≠ 33 → BC (fk (K p2) 2) (A p2) I2) ∧ hs_R scr (d + 9) 226 42 [some (.ref 140), some (.int (nI n)), some (.int (nI len)), none, none, none] [.int (nI gr)] (hs_S0, hs_z J 140 q, hs_z M 140 l, R) = some (none, (hs_S0, hs_z (hJ' J n len gr sd) 140 q', hs_z M 140 l', R)) := by
  have o1 : ok1 hs_S0 R' (t + 5) := o4.2.2.2.2.2.1
  have hkp := (hK.2.2.2.2.2 p1 hp).1
  have m239' := m239 (scr := scr) (d := d + 7) (J := J) (M := M) o11 hM.2.2.2.1
  -- the end in the class
  have fin : ∀ {I1 : Nat → Nat → Int32} {L1 : Nat → Nat → Int64} {p2 sd : Nat}, T4 I L I1 L1 → p2 < N → TC N K A V (p2 + 1) I1 L1 → CU K A V p2 I1 L1 → ∃ I2, T4 (hs_u (hs_u (hs_u (hs_u (hs_u I1 (t + 6) n (nI len)) (t + 7) n (nI gr)) (t + 8) n (nI sd)) (t + 9) n 0) (t + 5) 4 (nI (n + 1))) L1 I2 L1 ∧ hs_R scr (d + 8) 52 155 [some (.ref 10), some (.ref (t + 5)), some (.int (nI len)), some (.int (nI gr)), some (.int (nI sd))] [] (hs_S0, I1, L1, R') = some (some (.int (if K p2 = 33 then 1 else 0)), (hs_S0, I2, L1, R')) ∧ (K p2 = 33 → TC N K A V (p2 + 1) I2 L1) ∧ (K p2 ≠ 33 → BC (fk (K p2) 2) (A p2) I2) := by
    intro I1 L1 p2 sd hf hp2 hT2 hC2
    have hk2 := (hK.2.2.2.2.2 p2 hp2).1
    have hT3 : TC N K A V (p2 + 1) (hs_u (hs_u (hs_u (hs_u (hs_u I1 (t + 6) n (nI len)) (t + 7) n (nI gr)) (t + 8) n (nI sd)) (t + 9) n 0) (t + 5) 4 (nI (n + 1))) L1 := TC_r hT2 (fun x hx => by simp (disch := omega) only [hu_same, hu_row, hu_at, hu_hu]) rfl
    have hC3 : CU K A V p2 (hs_u (hs_u (hs_u (hs_u (hs_u I1 (t + 6) n (nI len)) (t + 7) n (nI gr)) (t + 8) n (nI sd)) (t + 9) n 0) (t + 5) 4 (nI (n + 1))) L1 := by
      unfold CU; simp (disch := omega) only [hu_same, hu_row, hu_at, hu_hu]; exact hC2
    have e155 : hs_R scr (d + 8) 52 155 [some (.ref 10), some (.ref (t + 5)), some (.int (nI len)), some (.int (nI gr)), some (.int (nI sd))] [] (hs_S0, I1, L1, R') = hs_R scr (d + 8) 52 163 [some (.ref 10), some (.ref (t + 5)), some (.int (nI len)), some (.int (nI gr)), some (.int (nI sd))] [] (hs_S0, hs_u (hs_u (hs_u (hs_u (hs_u I1 (t + 6) n (nI len)) (t + 7) n (nI gr)) (t + 8) n (nI sd)) (t + 9) n 0) (t + 5) 4 (nI (n + 1)), L1, R') := by
      rw [b52_155 o1, x58 (n := n) o1 hn (by rw [hf.1 _ (by omega)]; exact h5)]; rfl
    by_cases g33 : K p2 = 33
    · refine ⟨_, T4_rf, ?_, fun _ => hT3, fun q => absurd g33 q⟩
      rw [e155, b52_163 o7 r0 o8, hC3.1, if_pos (show nI (K p2) = 33 by rw [g33]; rfl), b52_186, b52_191, if_pos g33]; rfl
    · obtain ⟨I2, z1, z2, z3, z4⟩ := x47 (scr := scr) (d := d + 7) (c := 2) (R := R') o8 hC3 hk2
      refine ⟨I2, z3, ?_, fun q => absurd q g33, fun _ => z2⟩
      rw [e155, b52_163 o7 r0 o8, hC3.1, if_neg (show ¬ nI (K p2) = 33 from fun q => g33 ((nI_eq (b := 33) (by omega) (by omega)).mp q)), show (2 : Int32) = nI 2 from rfl, z1]
      simp only [Option.bind_some, Option.toList_some, Option.toList_none, List.append_nil, List.cons_append, List.nil_append]
      rw [b52_183, if_pos rfl, b52_191, if_neg g33]; rfl
  by_cases g57 : K p1 = 5 ∨ K p1 = 7
  · have hp2 : p1 + 1 < N := hK.2.2.2.2.1 p1 hp (by omega)
    obtain ⟨I1, L1, e1, t1, c1, f1⟩ := x44 (scr := scr) (d := d + 7) (R := R') o8 hK.2.1 hT hp2
    obtain ⟨sd, hsd, esd⟩ : ∃ sd, sd ≤ 2 ∧ swv (K p1) = nI sd := by
      rcases g57 with q | q
      · exact ⟨2, by omega, by rw [q]; rfl⟩
      · exact ⟨0, by omega, by rw [q]; rfl⟩
    obtain ⟨I2, z1, z2, z3, z4⟩ := fin (sd := sd) f1 hp2 t1 c1
    obtain ⟨q1, l1, e2, m2, f2⟩ := m209a (scr := scr) (d := d + 7) (M := M) o11 hK hJ hp2 hM
    have hs5 : ¬ swv (K p1) < 0 ∧ ¬ swv (K p1) = 1 ∧ ¬ swv (K p1) = 3 := by
      rcases g57 with q | q
      · rw [q]; decide
      · rw [q]; decide
    refine ⟨I1, L1, I2, q1, l1, p1 + 1, sd, hsd, by omega, hp2, m2, f2, f1, z1, ?_, z3, z4, ?_⟩
    · have e136 : hs_R scr (d + 8) 52 136 [some (.ref 10), some (.ref (t + 5)), some (.int (nI len)), some (.int (nI gr)), some (.int 1)] [] (hs_S0, I, L, R') = hs_R scr (d + 8) 52 155 [some (.ref 10), some (.ref (t + 5)), some (.int (nI len)), some (.int (nI gr)), some (.int (nI sd))] [] (hs_S0, I1, L1, R') := by
        rw [b52_136 o7 r0 o8, hC.1, x57 hkp, esd]
        simp only [Option.bind_some, Option.toList_some, Option.toList_none, List.append_nil, List.cons_append, List.nil_append]
        rw [b52_146 o7 r0 o8, e1]; rfl
      rw [b52_110 o7 r0 o8, hC.1, e136]
      by_cases q5 : K p1 = 5
      · rw [if_pos (show nI (K p1) = 5 by rw [q5]; rfl)]; exact z2
      · rw [if_neg (show ¬ nI (K p1) = 5 from fun q => q5 ((nI_eq (b := 5) (by omega) (by omega)).mp q)), if_pos (show nI (K p1) = 7 by rw [show K p1 = 7 by omega]; rfl)]; exact z2
    · rw [b226_42 o11, hz_s, hM.2.2.2.2, if_pos rfl, m239']
      simp only [Option.bind_some, Option.toList_some, Option.toList_none, List.append_nil, List.cons_append, List.nil_append]
      rw [b226_54 o11, if_neg hs5.1, m239']
      simp only [Option.bind_some, Option.toList_some, Option.toList_none, List.append_nil, List.cons_append, List.nil_append]
      rw [b226_61 o11, if_neg hs5.2.1, m239']
      simp only [Option.bind_some, Option.toList_some, Option.toList_none, List.append_nil, List.cons_append, List.nil_append]
      rw [b226_69 o11, if_neg hs5.2.2, m239']
      simp only [Option.bind_some, Option.toList_some, Option.toList_none, List.append_nil, List.cons_append, List.nil_append]
      rw [b226_77, b226_81 o11, if_neg hs5.1, e2]
      simp only [Option.bind_some, Option.toList_some, Option.toList_none, List.append_nil, List.cons_append, List.nil_append]
      exact m226w o11 hn hJ5 m2.2.2.2.2 (Or.inr ⟨(i32_nlt _ _).mp hs5.1, esd⟩)
  · obtain ⟨I2, z1, z2, z3, z4⟩ := fin (sd := 1) (p2 := p1) T4_rf hp hT hC
    refine ⟨I, L, I2, q, l, p1, 1, by omega, Nat.le_refl _, hp, hM, T140_rf, T4_rf, z1, ?_, z3, z4, ?_⟩
    · rw [b52_110 o7 r0 o8, hC.1, if_neg (show ¬ nI (K p1) = 5 from fun q => by have := (nI_eq (b := 5) (by omega) (by omega)).mp q; omega), if_neg (show ¬ nI (K p1) = 7 from fun q => by have := (nI_eq (b := 7) (by omega) (by omega)).mp q; omega)]
      exact z2
    · have e80 : hs_R scr (d + 9) 226 80 [some (.ref 140), some (.int (nI n)), some (.int (nI len)), some (.int (nI gr)), none, none] [] (hs_S0, hs_z J 140 q, hs_z M 140 l, R) = some (none, (hs_S0, hs_z (hJ' J n len gr 1) 140 q, hs_z M 140 l, R)) := by
        rw [b226_80, b226_81 o11, if_pos (by decide)]
        exact m226w o11 hn hJ5 hM.2.2.2.2 (Or.inl ⟨by decide, rfl⟩)
      rw [b226_42 o11, hz_s, hM.2.2.2.2, if_pos rfl, m239']
      simp only [Option.bind_some, Option.toList_some, Option.toList_none, List.append_nil, List.cons_append, List.nil_append]
      rw [b226_54 o11]
      by_cases gs : 5 ≤ K p1 ∧ K p1 ≤ 8
      · rw [if_neg (fun q => (swv_0 _ hkp).mp q gs), m239']
        simp only [Option.bind_some, Option.toList_some, Option.toList_none, List.append_nil, List.cons_append, List.nil_append]
        rw [b226_61 o11]
        by_cases g6 : K p1 = 6
        · rw [if_pos (show swv (K p1) = 1 by rw [g6]; rfl)]; exact e80
        · have e8 : K p1 = 8 := by omega
          rw [if_neg (show ¬ swv (K p1) = 1 by rw [e8]; decide), m239']
          simp only [Option.bind_some, Option.toList_some, Option.toList_none, List.append_nil, List.cons_append, List.nil_append]
          rw [b226_69 o11, if_pos (show swv (K p1) = 3 by rw [e8]; rfl)]; exact e80
      · rw [if_pos ((swv_0 _ hkp).mpr gs)]; exact e80
theorem rdHair (hP : PH E N B K A V H R R' t j I L J q M l n np nr nl nb nq o g) (hk : K j ≠ 38) : PRes scr (d + 8) (d + 9) E N B K A V H R R' t j 52 226 [] I L J q M l := by
  obtain ⟨o11, o7, r0, r1, o8, o4, ht, hK, hJ, hj, hT, hC, hM, hS⟩ := hP; obtain ⟨hcn, hcnt⟩ := SP_cnb hS; have hkj := (hK.2.2.2.2.2 j (by omega)).1; obtain ⟨sH, sP, sU, sL, sB, sD, sN, sZ, so, sg, sq⟩ := id hS
  have hnr := sH.1
  have eI : I (t + 5) 4 = nI n := sH.2.2.1
  have eJ : J 145 1596 = nI n := sH.2.1
  have eM : hs_C scr (d + 9) 226 [.ref 140] (hs_S0, hs_z J 140 q, hs_z M 140 l, R) = ((hs_C scr (d + 8) 227 [.ref 140, .int (nI 0), .int (nI 8)] (hs_S0, hs_z J 140 q, hs_z M 140 l, R)).bind fun o => hs_R scr (d + 9) 226 7 [some (.ref 140), none, none, none, none, none] (o.1.toList ++ []) o.2) := by
    rw [e226, b226_0 o11]; rfl
  have eMb3 : ∀ {q1 : Nat → Int32} {l1 : Nat → Int64} {M1 : Nat → Nat → Int64} {x y z : Int32} {c a : Nat}, BM c a q1 → hs_R scr (d + 9) 226 42 [some (.ref 140), some (.int x), some (.int y), none, none, none] [.int z] (hs_S0, hs_z J 140 q1, hs_z M1 140 l1, R) = some (none, (hs_S0, hs_z J 140 q1, hs_z M1 140 l1, R)) := by
    intro q1 l1 M1 x y z c a hb
    rw [b226_42 o11, hz_s, if_neg (BM_n hb).2.1, b226_80, b226_81 o11, if_pos (by decide), b226_92 o11, hz_s, if_neg (BM_n hb).1]
  have eMb2 : ∀ {q1 : Nat → Int32} {l1 : Nat → Int64} {M1 : Nat → Nat → Int64} {x y : Int32} {c a : Nat}, BM c a q1 → hs_R scr (d + 9) 226 19 [some (.ref 140), some (.int x), none, none, none, none] [.int y] (hs_S0, hs_z J 140 q1, hs_z M1 140 l1, R) = some (none, (hs_S0, hs_z J 140 q1, hs_z M1 140 l1, R)) := by
    intro q1 l1 M1 x y c a hb
    obtain ⟨b, h1, h2⟩ := m230g (scr := scr) (d := d + 7) (q := q1) (l := l1) (J := J) (M := M1) o11
    rw [b226_19 o11, h1]
    simp only [Option.bind_some, Option.toList_some, Option.toList_none, List.append_nil, List.cons_append, List.nil_append]
    rw [b226_25 o11, e249, b249_0 o11, hz_s, if_pos (BM_n hb).2.2, b249_11]
    simp only [Option.bind_some, Option.toList_some, Option.toList_none, List.append_nil, List.cons_append, List.nil_append]
    rw [b226_28 o11, if_pos rfl]
    exact eMb3 hb
  have eMb : ∀ {q1 : Nat → Int32} {l1 : Nat → Int64} {M1 : Nat → Nat → Int64} {x : Int32} {c a : Nat}, BM c a q1 → hs_R scr (d + 9) 226 7 [some (.ref 140), none, none, none, none, none] [.int x] (hs_S0, hs_z J 140 q1, hs_z M1 140 l1, R) = some (none, (hs_S0, hs_z J 140 q1, hs_z M1 140 l1, R)) := by
    intro q1 l1 M1 x c a hb
    obtain ⟨b, h1, h2⟩ := m242g (scr := scr) (d := d + 7) (q := q1) (l := l1) (J := J) (M := M1) o11
    rw [b226_7 o11, h1]
    simp only [Option.bind_some, Option.toList_some, Option.toList_none, List.append_nil, List.cons_append, List.nil_append]
    rw [b226_13 o11, m247b (d := d + 6) o11 hb]
    simp only [Option.bind_some, Option.toList_some, Option.toList_none, List.append_nil, List.cons_append, List.nil_append]
    exact eMb2 hb
  by_cases g6 : n < 8
  · have e4 : sl5 n np nr nl nb 0 = n := sl5_0
    have hcn' : cnb (up (sl5 n np nr nl nb) 0 (sl5 n np nr nl nb 0 + 1)) := by
      obtain ⟨b0, b1, b2, b3, b4⟩ := hcn
      exact ⟨by rw [up_s, e4]; omega, b1, b2, b3, b4⟩
    obtain ⟨I1, L1, q1, l1, M1, f1, f2, f3, f4, f5, f6, hor⟩ := jNew (scr := scr) (d := d + 4) (dm := d + 2) (s := 0) (most := 8) o11 o7 r0 r1 o8 o4 (by omega) (by omega) hK hJ hj hT hM (by omega) hcn hcn' hcnt sN (by rw [e4]; exact g6) (by omega)
    rw [e4] at hor
    have eX : hs_C scr (d + 8) 52 [.ref 10] (hs_S0, I, L, R') = ((hs_C scr (d + 7) 53 [.ref 10, .int (kd 0), .int (nI n)] (hs_S0, I, L, R')).bind fun o => hs_R scr (d + 8) 52 36 [some (.ref 10), some (.ref (t + 5)), none, none, none] (o.1.toList ++ []) o.2) := by
      rw [e52, b52_0 o7 r1 o4 r0 o8, eI, if_pos (show nI n < (8 : Int32) from nI_lt (b := 8) g6 (by omega))]; rfl
    have hF1 : FX t I L I1 L1 := ⟨fun k a b c => f1 k a (by omega) (by omega) (by omega), fun k a b => f2 k a b, f3⟩
    rcases hor with ⟨a1, a2, a3, a4, a5, a6⟩ | ⟨c, a, a1, a2, a3, a4⟩
    · obtain ⟨I2, L2, x1, y1, w1, v1⟩ := x56 (scr := scr) (d := d + 4) (W := 3) (lo := 0) (hi := 99) o7 r0 o8 hK a4 a3 (by omega) (by omega) (by omega)
      obtain ⟨q2, l2, m1, m2, m3, m4⟩ := m247 (scr := scr) (d := d + 5) (M := M1) (W := 3) (lo := 0) (hi := 99) o11 hK hJ a3 a5 (by omega) (by omega) (by omega)
      have e242 := m242 (scr := scr) (d := d + 7) (J := J) (M := M1) o11 a5.2.2.2.1
      have eM2 : hs_C scr (d + 9) 226 [.ref 140] (hs_S0, hs_z J 140 q, hs_z M 140 l, R) = hs_R scr (d + 9) 226 19 [some (.ref 140), some (.int (nI n)), none, none, none, none] [.int (if okW K V (j + 2) 3 0 99 then nI (V (j + 2 + 1)) else 0)] (hs_S0, hs_z J 140 q2, hs_z M1 140 l2, R) := by
        rw [eM, a2]
        simp only [Option.bind_some, Option.toList_some, Option.toList_none, List.append_nil, List.cons_append, List.nil_append]
        rw [b226_7 o11, e242]
        simp only [Option.bind_some, Option.toList_some, Option.toList_none, List.append_nil, List.cons_append, List.nil_append]
        rw [b226_13 o11]
        exact (congrArg (fun z => Option.bind z _) m1).trans rfl
      have eX2 : hs_C scr (d + 8) 52 [.ref 10] (hs_S0, I, L, R') = hs_R scr (d + 8) 52 47 [some (.ref 10), some (.ref (t + 5)), none, none, none] [.int (if okW K V (j + 2) 3 0 99 then 1 else 0)] (hs_S0, I2, L2, R') := by
        rw [eX, a1]
        simp only [Option.bind_some, Option.toList_some, Option.toList_none, List.append_nil, List.cons_append, List.nil_append]
        rw [b52_36 o7, if_neg (by decide)]
        exact (congrArg (fun z => Option.bind z _) x1).trans rfl
      by_cases gw : okW K V (j + 2) 3 0 99
      · obtain ⟨tC, cU⟩ := w1 gw
        have hm2 := m3 gw
        have hj4 : j + 4 < N := hK.2.2.2.2.1 (j + 3) (hK.2.2.2.2.1 (j + 2) a3 (by have := gw.1; omega)) (by have : K (j + 3) = 32 := gw.2.1; omega)
        have hv : V (j + 3) ≤ 99 := gw.2.2.2
        have hk4 := (hK.2.2.2.2.2 (j + 4) hj4).1
        obtain ⟨I3, L3, e3, t3, c3, f3'⟩ := x44 (scr := scr) (d := d + 7) (R := R') o8 hK.2.1 tC hj4
        have eX3 : hs_C scr (d + 8) 52 [.ref 10] (hs_S0, I, L, R') = hs_R scr (d + 8) 52 69 [some (.ref 10), some (.ref (t + 5)), some (.int (nI (V (j + 3)))), some (.int 1), none] [] (hs_S0, I3, L3, R') := by
          rw [eX2, if_pos gw, b52_47 o7 r0 o8, if_neg (by decide), x50 o8 cU]
          simp only [Option.bind_some, Option.toList_some, Option.toList_none, List.append_nil, List.cons_append, List.nil_append]
          rw [b52_59 o7 r0 o8, e3]; rfl
        have e230 := m230 (scr := scr) (d := d + 7) (J := J) (M := M1) o11 hm2.2.2.2.1
        have eM3 : hs_C scr (d + 9) 226 [.ref 140] (hs_S0, hs_z J 140 q, hs_z M 140 l, R) = ((hs_C scr (d + 8) 249 [.ref 140, .int (if K (j + 4) = 4 then 1 else 0)] (hs_S0, hs_z J 140 q2, hs_z M1 140 l2, R)).bind fun o => hs_R scr (d + 9) 226 28 [some (.ref 140), some (.int (nI n)), some (.int (nI (V (j + 3)))), none, none, none] (o.1.toList ++ []) o.2) := by
          rw [eM2, if_pos gw, b226_19 o11, e230]
          simp only [Option.bind_some, Option.toList_some, Option.toList_none, List.append_nil, List.cons_append, List.nil_append]
          rw [b226_25 o11]
          simp only [List.append_nil]
        -- what is left, when it is known how it grows
        have rest : ∀ {I4 : Nat → Nat → Int32} {L4 : Nat → Nat → Int64} {q4 : Nat → Int32} {l4 : Nat → Int64} {p1 gr : Nat}, gr ≤ 9 → j + 4 ≤ p1 → p1 < N → T4 I1 L1 I4 L4 → T140 q l q4 l4 → TC N K A V (p1 + 1) I4 L4 → CU K A V p1 I4 L4 → MC E K A V H p1 q4 l4 → hs_C scr (d + 8) 52 [.ref 10] (hs_S0, I, L, R') = hs_R scr (d + 8) 52 110 [some (.ref 10), some (.ref (t + 5)), some (.int (nI (V (j + 3)))), some (.int (nI gr)), none] [] (hs_S0, I4, L4, R') → hs_C scr (d + 9) 226 [.ref 140] (hs_S0, hs_z J 140 q, hs_z M 140 l, R) = hs_R scr (d + 9) 226 42 [some (.ref 140), some (.int (nI n)), some (.int (nI (V (j + 3)))), none, none, none] [.int (nI gr)] (hs_S0, hs_z J 140 q4, hs_z M1 140 l4, R) → PRes scr (d + 8) (d + 9) E N B K A V H R R' t j 52 226 [] I L J q M l := by
          intro I4 L4 q4 l4 p1 gr hgr hp1 hp1N h14 hq4 hT4 hC4 hM4 eX4 eM4
          obtain ⟨I5, L5, I6, q6, l6, p2, sd, b1, b2, b3, b4, b5, b6, b7, b8, b9, b10, b11⟩ := hairT (scr := scr) (d := d) (M := M1) (len := V (j + 3)) (gr := gr) (R := R) (R' := R') o11 o7 r0 o8 o4 (by omega) hK hJ g6 (by rw [h14.1 _ (by omega), f1 _ (by omega) (by omega) (by omega) (by omega)]; exact eI) eJ hp1N hT4 hC4 hM4
          have hJo : ∀ f, f ≠ 1596 → f ≠ 1606 + n → f ≠ 1614 + n → f ≠ 1622 + n → (∀ x, x < 6 → f ≠ 1655 + (8 * x + n)) → hJ' J n (V (j + 3)) gr sd 145 f = J 145 f := fun f h1 h2 h3 h4 h5 => by
            unfold hJ'
            rw [hu_at _ _ (by omega), lk3_o h5, hu_at _ _ (by omega), hu_at _ _ (by omega), hu_at _ _ (by omega)]
          have hJv : hJ' J n (V (j + 3)) gr sd 145 (1606 + n) = nI (V (j + 3)) ∧ hJ' J n (V (j + 3)) gr sd 145 (1614 + n) = nI gr ∧ hJ' J n (V (j + 3)) gr sd 145 (1622 + n) = nI sd ∧ ∀ x, x < 6 → hJ' J n (V (j + 3)) gr sd 145 (1655 + (8 * x + n)) = 3 := by
            unfold hJ'
            refine ⟨?_, ?_, ?_, fun x hx => ?_⟩
            · rw [hu_at _ _ (by omega), lk3_o (fun x hx => by omega), hu_at _ _ (by omega), hu_at _ _ (by omega), hu_same]
            · rw [hu_at _ _ (by omega), lk3_o (fun x hx => by omega), hu_at _ _ (by omega), hu_same]
            · rw [hu_at _ _ (by omega), lk3_o (fun x hx => by omega), hu_same]
            · rw [hu_at _ _ (by omega)]; exact lk3_i g6 hx
          have hJr : ∀ x, x ≠ 145 → hJ' J n (V (j + 3)) gr sd x = J x := fun x hx => by
            unfold hJ'
            rw [hu_row _ _ hx, lk3_r hx, hu_row _ _ hx, hu_row _ _ hx, hu_row _ _ hx]
          have i6 : ∀ x, x ≠ 4 → I6 x = hs_u (hs_u (hs_u (hs_u (hs_u I5 (t + 6) n (nI (V (j + 3)))) (t + 7) n (nI gr)) (t + 8) n (nI sd)) (t + 9) n 0) (t + 5) 4 (nI (n + 1)) x := fun x hx => b7.1 x hx
          have i5 : ∀ x, x ≠ 4 → x ≠ t + 1 → x ≠ t + 3 → x ≠ t + 4 → I5 x = I x := fun x h1 h2 h3 h4 => by rw [b6.1 x h1, h14.1 x h1, f1 x h1 h2 h3 h4]
          refine ⟨I6, L5, hJ' J n (V (j + 3)) gr sd, q6, M1, l6, ⟨fun x h1 h2 h3 => by rw [i6 x h1]; simp (disch := omega) only [hu_row]; exact i5 x h1 (by omega) (by omega) (by omega), fun x h1 h2 => by rw [b6.2.1 x h1, h14.2.1 x h1, f2 x h1 h2], by rw [b7.2.2]; simp (disch := omega) only [hu_row]; rw [b6.2.2, h14.2.2, f3]⟩, ⟨hJr, fun f hf => hJo f (by omega) (by omega) (by omega) (by omega) (fun x hx => by omega), f5, f6, fun f hf => by rw [b5.1 f (by omega), hq4.1 f (by omega)], fun f hf => by rw [b5.2 f hf, hq4.2 f hf]⟩, eM4.trans b11, Or.inl ⟨p2, by omega, b3, b4, eX4.trans b8, fun q => ⟨b9 q, n + 1, np, nr, nl, nb, nq, o, g, ?_⟩, b10⟩⟩
          have hq25 : q6 25 = tld o g := (b5.1 25 (by omega)).trans ((hq4.1 25 (by omega)).trans sq)
          have hcc : ∀ s, s < 5 → sl5 (n + 1) np nr nl nb s = up (sl5 n np nr nl nb) 0 (n + 1) s := by intro s hs; rcases (show s = 0 ∨ s = 1 ∨ s = 2 ∨ s = 3 ∨ s = 4 by omega) with rfl | rfl | rfl | rfl | rfl <;> first | rfl | (rw [up_s]; rfl)
          refine ⟨⟨by omega, ?_, ?_, fun k hk => ?_⟩, RP_cg sP (fun k hk => hJo _ (by omega) (by omega) (by omega) (by omega) (fun x hx => by omega)) (by simp (disch := omega) only [i6, hu_same, hu_row, hu_at, hu_hu, i5]) (by simp (disch := omega) only [i6, hu_same, hu_row, hu_at, hu_hu, i5]) (by simp (disch := omega) only [i6, hu_same, hu_row, hu_at, hu_hu, i5]), RU0_cg sU (fun k hk => hJo _ (by omega) (by omega) (by omega) (by omega) (fun x hx => by omega)) (by simp (disch := omega) only [i6, hu_same, hu_row, hu_at, hu_hu, i5]) (by simp (disch := omega) only [i6, hu_same, hu_row, hu_at, hu_hu, i5]), ⟨sL.1, (hJo (1596 + 3) (by omega) (by omega) (by omega) (by omega) (fun x hx => by omega)).trans sL.2.1, by simp (disch := omega) only [i6, hu_same, hu_row, hu_at, hu_hu, i5]; exact sL.2.2.1, fun x y hx hy => ?_⟩, RB_cg sB (fun k hk => hJo _ (by omega) (by omega) (by omega) (by omega) (fun x hx => by omega)) (by simp (disch := omega) only [i6, hu_same, hu_row, hu_at, hu_hu, i5]) (by simp (disch := omega) only [i6, hu_same, hu_row, hu_at, hu_hu, i5]) (by simp (disch := omega) only [i6, hu_same, hu_row, hu_at, hu_hu, i5]) (by simp (disch := omega) only [i6, hu_same, hu_row, hu_at, hu_hu, i5]), RD_cg sD (fun k hk => hJo _ (by omega) (by omega) (by omega) (by omega) (fun x hx => by omega)) (by simp (disch := omega) only [i6, hu_same, hu_row, hu_at, hu_hu, i5]) (by simp (disch := omega) only [i6, hu_same, hu_row, hu_at, hu_hu, i5]) (by simp (disch := omega) only [i6, hu_same, hu_row, hu_at, hu_hu, i5]) (by simp (disch := omega) only [i6, hu_same, hu_row, hu_at, hu_hu, i5]), RN_cg (RN_cn a6 hcc) (fun k hk => rfl) (by simp (disch := omega) only [i6, hu_same, hu_row, hu_at, hu_hu, b6.1, h14.1]) (by simp (disch := omega) only [i6, hu_same, hu_row, hu_at, hu_hu, b6.1, h14.1]) (by simp (disch := omega) only [i6, hu_same, hu_row, hu_at, hu_hu, b6.1, h14.1]) (by rw [b6.2.1 _ (by omega), h14.2.1 _ (by omega)]), Z0_cg sZ (fun k hk => hJo _ (by omega) (by omega) (by omega) (by omega) (fun x hx => by omega)), by simp (disch := omega) only [i6, hu_same, hu_row, hu_at, hu_hu, i5]; exact so, by simp (disch := omega) only [i6, hu_same, hu_row, hu_at, hu_hu, i5]; exact sg, hq25⟩
          · exact hu_same _ _ _ _
          · rw [i6 _ (by omega), hu_same]
          · show I6 (t + 6) k = hJ' J n (V (j + 3)) gr sd 145 (1596 + (10 + k)) ∧ I6 (t + 7) k = hJ' J n (V (j + 3)) gr sd 145 (1596 + (18 + k)) ∧ I6 (t + 8) k = hJ' J n (V (j + 3)) gr sd 145 (1596 + (26 + k)) ∧ I6 (t + 9) k = hJ' J n (V (j + 3)) gr sd 145 (1596 + (34 + k)) ∧ bd (hJ' J n (V (j + 3)) gr sd 145 (1596 + (10 + k))) 99 ∧ bd (hJ' J n (V (j + 3)) gr sd 145 (1596 + (18 + k))) 9 ∧ bd (hJ' J n (V (j + 3)) gr sd 145 (1596 + (26 + k))) 2 ∧ bd (hJ' J n (V (j + 3)) gr sd 145 (1596 + (34 + k))) 99
            have hz : hJ' J n (V (j + 3)) gr sd 145 (1596 + (34 + k)) = J 145 (1596 + (34 + k)) := hJo _ (by omega) (by omega) (by omega) (by omega) (fun x hx => by omega)
            by_cases gk : k = n
            · subst gk
              have hz0 : J 145 (1596 + (34 + k)) = 0 := sZ.2.2 k (by omega)
              rw [hz, hz0, show 1596 + (10 + k) = 1606 + k by omega, show 1596 + (18 + k) = 1614 + k by omega, show 1596 + (26 + k) = 1622 + k by omega, hJv.1, hJv.2.1, hJv.2.2.1]
              simp (disch := omega) only [i6, hu_same, hu_row, hu_at, hu_hu]
              exact ⟨trivial, trivial, trivial, trivial, ⟨_, hv, rfl⟩, ⟨_, hgr, rfl⟩, ⟨_, b1, rfl⟩, ⟨0, by omega, rfl⟩⟩
            · rw [hz, hJo (1596 + (10 + k)) (by omega) (by omega) (by omega) (by omega) (fun x hx => by omega), hJo (1596 + (18 + k)) (by omega) (by omega) (by omega) (by omega) (fun x hx => by omega), hJo (1596 + (26 + k)) (by omega) (by omega) (by omega) (by omega) (fun x hx => by omega)]
              simp (disch := omega) only [i6, hu_same, hu_row, hu_at, hu_hu, i5]
              exact sH.2.2.2 k (by omega)
          · have e13 : I6 (t + 13) = I (t + 13) := by simp (disch := omega) only [i6, hu_same, hu_row, hu_at, hu_hu, i5]
            show (y < n + 1 → I6 (t + 13) (x * 8 + y) = hJ' J n (V (j + 3)) gr sd 145 (1596 + (59 + 8 * x + y)) ∧ bd (hJ' J n (V (j + 3)) gr sd 145 (1596 + (59 + 8 * x + y))) 3) ∧ (n + 1 ≤ y → I6 (t + 13) (x * 8 + y) = 3)
            rw [e13]
            refine ⟨fun hy2 => ?_, fun hy2 => (sL.2.2.2 x y hx hy).2 (by omega)⟩
            by_cases gy : y = n
            · subst gy
              rw [show 1596 + (59 + 8 * x + y) = 1655 + (8 * x + y) by omega, hJv.2.2.2 x hx]
              exact ⟨(sL.2.2.2 x y hx hy).2 (Nat.le_refl _), 3, by omega, rfl⟩
            · rw [hJo _ (by omega) (by omega) (by omega) (by omega) (fun z hz => by omega)]
              exact (sL.2.2.2 x y hx hy).1 (by omega)
        by_cases g4 : K (j + 4) = 4
        · have hj5 : j + 5 < N := hK.2.2.2.2.1 (j + 4) hj4 (by omega)
          obtain ⟨I4, L4, u1, u2, u3, u4, u5⟩ := x48 (scr := scr) (d := d + 5) (lo := 0) (hi := 9) (R := R') o8 hK t3 hj5 (by omega) (by omega)
          obtain ⟨q3, l3, w2, w3, w4⟩ := m209a (scr := scr) (d := d + 6) (M := M1) o11 hK hJ hj5 hm2
          obtain ⟨q4, l4, v2, v3, v4, v5⟩ := m221 (scr := scr) (d := d + 6) (M := M1) (lo := 0) (hi := 9) o11 hK hJ hj5 w3 (by omega) (by omega)
          have eX4 : hs_C scr (d + 8) 52 [.ref 10] (hs_S0, I, L, R') = hs_R scr (d + 8) 52 90 [some (.ref 10), some (.ref (t + 5)), some (.int (nI (V (j + 3)))), some (.int 1), none] [.int (if okN K V (j + 5) 0 9 then 1 else 0)] (hs_S0, I4, L4, R') := by
            rw [eX3, b52_69 o7 r0 o8, c3.1, if_pos (show nI (K (j + 4)) = 4 by rw [g4]; rfl)]
            exact (congrArg (fun z => Option.bind z _) u1).trans rfl
          have eM4 : hs_C scr (d + 9) 226 [.ref 140] (hs_S0, hs_z J 140 q, hs_z M 140 l, R) = hs_R scr (d + 9) 226 42 [some (.ref 140), some (.int (nI n)), some (.int (nI (V (j + 3)))), none, none, none] [.int (if okN K V (j + 5) 0 9 then nI (V (j + 5)) else 0)] (hs_S0, hs_z J 140 q4, hs_z M1 140 l4, R) := by
            rw [eM3, if_pos g4, e249, b249_0 o11, hz_s, hm2.2.2.2.2, if_neg (by decide), if_neg (by decide), w2]
            simp only [Option.bind_some, Option.toList_some, Option.toList_none, List.append_nil, List.cons_append, List.nil_append]
            rw [b249_17]
            simp only [Option.bind_some, Option.toList_some, Option.toList_none, List.append_nil, List.cons_append, List.nil_append]
            rw [b226_28 o11, if_neg (by decide)]
            refine (congrArg (fun z => Option.bind z _) v2).trans ?_
            simp only [Option.bind_some, Option.toList_some, Option.toList_none, List.append_nil, List.cons_append, List.nil_append]
            rw [b226_38]
          have h14 : T4 I1 L1 I4 L4 := T4_tr y1 (T4_tr f3' u2)
          have hq4 : T140 q l q4 l4 := T140_tr f4 (T140_tr m2 (T140_tr w4 v3))
          by_cases gn : okN K V (j + 5) 0 9
          · rw [if_pos gn] at eX4 eM4
            have hj6 : j + 6 < N := hK.2.2.2.2.1 (j + 5) hj5 (by have := gn.1; omega)
            obtain ⟨I5, L5, s1, s2, s3, s4⟩ := x44 (scr := scr) (d := d + 7) (R := R') o8 hK.2.1 (u3 gn) hj6
            refine rest (gr := V (j + 5)) gn.2.2 (by omega) hj6 (T4_tr h14 s4) hq4 s2 s3 (v4 gn) ?_ eM4
            rw [eX4, b52_90 o7 r0 o8, if_neg (by decide), x50 o8 u4]
            simp only [Option.bind_some, Option.toList_some, Option.toList_none, List.append_nil, List.cons_append, List.nil_append]
            rw [b52_102 o7 r0 o8, s1]; rfl
          · rw [if_neg gn] at eX4 eM4
            refine ⟨I4, L4, J, q4, M1, l4, FX_tr hF1 (FX_4 h14), FM_tr (FM_q hq4) (FM_M f5 f6), ?_, Or.inr ⟨_, _, ?_, u5 gn, v5 gn⟩⟩
            · rw [eM4]; exact eMb3 (v5 gn)
            · rw [eX4, b52_90 o7 r0 o8, if_pos rfl]
        · refine rest (gr := 1) (by omega) (Nat.le_refl _) hj4 (T4_tr y1 f3') (T140_tr f4 m2) t3 c3 hm2 ?_ ?_
          · rw [eX3, b52_69 o7 r0 o8, c3.1, if_neg (show ¬ nI (K (j + 4)) = 4 from fun q => g4 ((nI_eq (b := 4) (by omega) (by omega)).mp q))]; rfl
          · rw [eM3, if_neg g4, e249, b249_0 o11, hz_s, hm2.2.2.2.2, if_neg (by decide), if_pos rfl, b249_11]
            simp only [Option.bind_some, Option.toList_some, Option.toList_none, List.append_nil, List.cons_append, List.nil_append]
            rw [b226_28 o11, if_pos rfl]; rfl
      · refine ⟨I2, L2, J, q2, M1, l2, FX_tr hF1 (FX_4 y1), FM_tr (FM_q (T140_tr f4 m2)) (FM_M f5 f6), ?_, Or.inr ⟨_, _, ?_, v1 gw, m4 gw⟩⟩
        · rw [eM2]; exact eMb2 (m4 gw)
        · rw [eX2, if_neg gw, b52_47 o7 r0 o8, if_pos rfl, b52_50]
    · refine ⟨I1, L1, J, q1, M1, l1, hF1, FM_tr (FM_q f4) (FM_M f5 f6), ?_, Or.inr ⟨c, a, ?_, a2, a4⟩⟩
      · rw [eM, a3]
        simp only [Option.bind_some, Option.toList_some, Option.toList_none, List.append_nil, List.cons_append, List.nil_append]
        exact eMb a4
      · rw [eX, a1]
        simp only [Option.bind_some, Option.toList_some, Option.toList_none, List.append_nil, List.cons_append, List.nil_append]
        rw [b52_36 o7, if_pos rfl, b52_50]
  · have e6 : n = 8 := by omega
    obtain ⟨q1, a1, a2, a3⟩ := m227f (scr := scr) (d := d + 6) (s := 0) (most := 8) (J := J) (M := M) o11 hM (by omega) (by rw [hcnt 0 (by omega), sl5_0, e6])
    obtain ⟨I1, z1, z2, z3, z4⟩ := x47 (scr := scr) (d := d + 7) (c := 6) (R := R') o8 hC hkj
    rw [fk_n hk] at z2
    refine ⟨I1, L, J, q1, M, l, FX_4 z3, FM_q a3, ?_, Or.inr ⟨6, A j, ?_, z2, a2⟩⟩
    · rw [eM, a1]
      simp only [Option.bind_some, Option.toList_some, Option.toList_none, List.append_nil, List.cons_append, List.nil_append]
      exact eMb a2
    · rw [e52, b52_0 o7 r1 o4 r0 o8, eI, if_neg (show ¬ nI n < (8 : Int32) from nI_nlt (a := n) (b := 8) (by omega) (by omega)), show (6 : Int32) = nI 6 from rfl, z1]
      simp only [Option.bind_some, Option.toList_some, Option.toList_none, List.append_nil, List.cons_append, List.nil_append]
      rw [b52_26]; rfl
end P5
