/-! reigns as a text: tests, when -/
section R3
variable {scr : List Int32} {d dm E N j p t n nl sz ns dp s : Nat} {B K A V H cn : Nat → Nat} {q : Nat → Int32} {l : Nat → Int64} {I J : Nat → Nat → Int32} {L M : Nat → Nat → Int64} {R R' : Nat → Nat → Nat}
theorem lw3 : hs_lsw (nI 3) [(3, 74), (18, 64), (26, 66)] 108 = 74 := by decide
theorem lw18' : hs_lsw (nI 18) [(3, 74), (18, 64), (26, 66)] 108 = 64 := by decide
theorem lw26' : hs_lsw (nI 26) [(3, 74), (18, 64), (26, 66)] 108 = 66 := by decide
theorem lwe : ∀ k, k ≤ 38 → (k = 3 ∨ k = 18 ∨ k = 26 ∨ hs_lsw (nI k) [(3, 74), (18, 64), (26, 66)] 108 = 108) := by decide
theorem tsve : ∀ k, k ≤ 38 → (k = 3 ∨ k = 18 ∨ k = 26 ∨ tsv k = -1) := by decide
theorem TokR_s (k v : Nat) (ht : TokR k v q l) : (k = 34 → q 14 = 3 ∧ q 17 = 60) ∧ (k = 35 → q 14 = 3 ∧ q 17 = 62) ∧ (k = 36 → q 14 = 3 ∧ q 17 = 61) := by
  rcases ht with ⟨a, b⟩ | ⟨a, b⟩ | ⟨a, b, _⟩ | ⟨a, b, c⟩ | ⟨a, b, c⟩ | ⟨a, b, c⟩ | ⟨a, b, c⟩ | ⟨a, b, _⟩ | ⟨a, b, _⟩ | ⟨a, b, _⟩
  · exact ⟨fun q => by omega, fun q => by omega, fun q => by omega⟩
  · exact ⟨fun q => by omega, fun q => by omega, fun q => by omega⟩
  · exact ⟨fun q => by omega, fun q => by omega, fun q => by omega⟩
  · exact ⟨fun q => by omega, fun q => by omega, fun q => by omega⟩
  · exact ⟨fun _ => ⟨b, c⟩, fun q => by omega, fun q => by omega⟩
  · exact ⟨fun q => by omega, fun _ => ⟨b, c⟩, fun q => by omega⟩
  · exact ⟨fun q => by omega, fun q => by omega, fun _ => ⟨b, c⟩⟩
  · exact ⟨fun q => by omega, fun q => by omega, fun q => by omega⟩
  · exact ⟨fun q => by omega, fun q => by omega, fun q => by omega⟩
  · exact ⟨fun q => by omega, fun q => by omega, fun q => by omega⟩
def tsR (n nl : Nat) (a6 a1 a2 a7 P2 P3 P4 : Int32) : Prop := (a6 = 2 ∧ P2 = 18) ∨ (a6 = 0 ∧ P2 = 26 ∧ P3 = a1 ∧ ∃ l, l < nl ∧ a1 = nI l) ∨ (a6 = 1 ∧ P3 = a1 ∧ (∃ h, h < n ∧ a1 = nI h) ∧ P4 = a2 ∧ bd a2 99 ∧ ((a7 = 60 ∧ P2 = 34) ∨ (a7 = 62 ∧ P2 = 35) ∨ (a7 = 61 ∧ P2 = 36)))
set_option maxHeartbeats 16000000 in
theorem rowTest (o11 : ok11 hs_S0 R 140) (o6 : ok6 hs_S0 R' 11) (r0 : R' 11 0 = 4) (r2 : R' 11 2 = p) (r3 : R' 11 3 = t + 1) (o8 : ok8 hs_S0 R' 4) (o5 : ok5 hs_S0 R' p) (o3 : ok3 hs_S0 R' (t + 1)) (ht : t = 18 ∨ t = 34) (hp : p = 50 ∨ p = 56) (hK : TKS E N B K A V H) (hJ : JB E B J) (hj : j < N) (hT : TC N K A V j I L) (hM : MC E K A V H j q l) (hsz : sz < 60) (hns : ns < 30) (hcn : cnb cn) (hRN : RN cn (fun k => M 148 k) I L t) (hcnt : ∀ s, s < 5 → J 145 s = nI (cn s)) : ∃ (I' : Nat → Nat → Int32) (L' : Nat → Nat → Int64) (J' : Nat → Nat → Int32) (q' : Nat → Int32) (l' : Nat → Int64), (∀ k, k ≠ 4 → k ≠ p + 2 → k ≠ p + 3 → k ≠ p + 4 → I' k = I k) ∧ (∀ i b, 2 ≤ i → i ≤ 4 → b ≠ sz → I' (p + i) b = I (p + i) b) ∧ (∀ k, k ≠ 4 → L' k = L k) ∧ I' 4 5 = I 4 5 ∧ (∀ k, k ≠ 145 → J' k = J k) ∧ (∀ f, ¬ (1725 + 9 * ns < f ∧ f < 1725 + 9 * ns + 8) → J' 145 f = J 145 f) ∧ T140 q l q' l' ∧ hs_C scr (dm + 8) 263 [.ref 140, .int (nI (1725 + 9 * ns))] (hs_S0, hs_z J 140 q, hs_z M 140 l, R) = some (none, (hs_S0, hs_z J' 140 q', hs_z M 140 l', R)) ∧ ((∃ p1, j < p1 ∧ p1 < N ∧ MC E K A V H p1 q' l' ∧ TC N K A V p1 I' L' ∧ hs_C scr (d + 7) 77 [.ref 11, .int (nI sz)] (hs_S0, I, L, R') = some (some (.int 1), (hs_S0, I', L', R')) ∧ tsR (cn 0) (cn 3) (J' 145 (1725 + 9 * ns + 6)) (J' 145 (1725 + 9 * ns + 1)) (J' 145 (1725 + 9 * ns + 2)) (J' 145 (1725 + 9 * ns + 7)) (I' (p + 2) sz) (I' (p + 3) sz) (I' (p + 4) sz)) ∨ (∃ c a, hs_C scr (d + 7) 77 [.ref 11, .int (nI sz)] (hs_S0, I, L, R') = some (some (.int 0), (hs_S0, I', L', R')) ∧ BC c a I' ∧ BM c a q')) := by
  have hkj := (hK.2.2.2.2.2 j hj).1
  obtain ⟨I1, L1, e1, t1, c1, f1⟩ := x44 (scr := scr) (d := d + 6) (R := R') o8 hK.2.1 hT hj
  have g1 : ∀ k, k ≠ 4 → I1 k = I k := f1.1
  have eX : hs_C scr (d + 7) 77 [.ref 11, .int (nI sz)] (hs_S0, I, L, R') = hs_R scr (d + 7) 77 (hs_lsw (nI (K j)) [(3, 74), (18, 64), (26, 66)] 108) [some (.ref 11), some (.int (nI sz))] [] (hs_S0, hs_u I1 (p + 2) sz (nI (K j)), L1, R') := by
    rw [e77, b77_0 o6 r0 o8, e1]
    simp only [Option.bind_some, Option.toList_some, Option.toList_none, List.append_nil, List.cons_append, List.nil_append]
    rw [b77_7 o6 r2 o5 r0 o8, if_pos (ib_nI (by omega) (by omega)), nI_clamp (by omega), c1.1, hu_row _ _ (by omega), c1.1]
  have m241' := m241 (scr := scr) (d := dm + 5) (J := J) (M := M) o11 hM.2.2.2.1
  have hC1 : CU K A V j (hs_u I1 (p + 2) sz (nI (K j))) L1 := by unfold CU; simp (disch := omega) only [hu_row]; exact c1
  have hTa : TC N K A V (j + 1) (hs_u I1 (p + 2) sz (nI (K j))) L1 := TC_r t1 (fun k hk => hu_row _ _ (by omega)) rfl
  have hRa : RN cn (fun k => M 148 k) (hs_u I1 (p + 2) sz (nI (K j))) L1 t := RN_cg hRN (fun k hk => rfl) (by simp (disch := omega) only [hu_row, g1]) (by simp (disch := omega) only [hu_row, g1]) (by simp (disch := omega) only [hu_row, g1]) (f1.2.1 _ (by omega))
  -- the reference, when the word is one of them
  have eMg : ∀ {x : Int32} {q1 : Nat → Int32} {l1 : Nat → Int64}, tsv (K j) = x → ¬ x < 0 → hs_C scr (dm + 7) 248 [.ref 140, .int 1] (hs_S0, hs_z J 140 q, hs_z M 140 l, R) = some (none, (hs_S0, hs_z J 140 q1, hs_z M 140 l1, R)) → hs_C scr (dm + 8) 263 [.ref 140, .int (nI (1725 + 9 * ns))] (hs_S0, hs_z J 140 q, hs_z M 140 l, R) = hs_R scr (dm + 8) 263 18 [some (.ref 140), some (.int (nI (1725 + 9 * ns))), some (.int x)] [] (hs_S0, hs_z J 140 q1, hs_z M 140 l1, R) := by
    intro x q1 l1 hx hx0 hm
    rw [e263, b263_0 o11, m241', hx]
    simp only [Option.bind_some, Option.toList_some, Option.toList_none, List.append_nil, List.cons_append, List.nil_append]
    rw [b263_4, if_neg hx0, b263_15 o11, hm]; rfl
  by_cases g18 : K j = 18
  · have hj1 : j + 1 < N := hK.2.2.2.2.1 j hj (by omega)
    obtain ⟨q1, l1, m1, m2, m3⟩ := m248t (scr := scr) (d := dm + 5) (M := M) o11 hK hJ hj1 hM
    have ht2 : tsv (K j) = 2 := by rw [g18]; rfl
    refine ⟨hs_u I1 (p + 2) sz (nI (K j)), L1, hs_u J 145 (1725 + 9 * ns + 6) 2, q1, l1, fun k a b _ _ => by rw [hu_row _ _ b, g1 k a], fun i b h1 h2 h3 => by rw [hu_at _ _ (by omega), g1 _ (by omega)], f1.2.1, by rw [hu_row _ _ (by omega)]; exact f1.2.2, fun k hk => hu_row _ _ hk, fun f hf => hu_at _ _ (by omega), m3, ?_, Or.inl ⟨j + 1, by omega, hj1, m2, hTa, ?_, Or.inl ⟨hu_same _ _ _ _, by rw [hu_same, g18]; rfl⟩⟩⟩
    · rw [eMg ht2 (by decide) m1, b263_18 o11, adw6, if_pos (ib_nI (by omega) (by omega)), nI_clamp (by omega), show (140 + 5 : Nat) = 145 from rfl, hz_cm _ _ _ (by omega), hz_s, m2.2.2.2.2, if_neg (by decide), if_pos rfl, b263_40]
    · rw [eX, g18, lw18', b77_64]
  · by_cases g26 : K j = 26
    · have hj1 : j + 1 < N := hK.2.2.2.2.1 j hj (by omega)
      obtain ⟨q1, l1, m1, m2, m3⟩ := m248t (scr := scr) (d := dm + 5) (M := M) o11 hK hJ hj1 hM
      have ht0 : tsv (K j) = 0 := by rw [g26]; rfl
      obtain ⟨I2, L2, y1, hor⟩ := jTh (scr := scr) (d := d + 2) (dm := dm + 1) (s := 3) (row := sz) (J := hs_u J 145 (1725 + 9 * ns + 6) 0) (R := R) (R' := R') o11 o6 r0 r2 r3 o8 o5 o3 ht hp hK (fun i hi => by rw [hu_row _ _ (by omega)]; exact hJ i hi) hTa m2 hj1 hsz (by omega) hcn (by rw [hu_at _ _ (by omega)]; exact hcnt 3 (by omega)) hRa
      have yy : ∀ k, k ≠ 4 → I2 k = hs_u I1 (p + 2) sz (nI (K j)) k := y1.1
      have eM : hs_C scr (dm + 8) 263 [.ref 140, .int (nI (1725 + 9 * ns))] (hs_S0, hs_z J 140 q, hs_z M 140 l, R) = ((hs_C scr (dm + 7) 255 [.ref 140, .int 0, .int (nI 3)] (hs_S0, hs_z (hs_u J 145 (1725 + 9 * ns + 6) 0) 140 q1, hs_z M 140 l1, R)).bind fun o => hs_R scr (dm + 8) 263 62 [some (.ref 140), some (.int (nI (1725 + 9 * ns))), some (.int 0)] (o.1.toList ++ [.int (nI (1725 + 9 * ns + 1)), .ref 145]) o.2) := by
        rw [eMg ht0 (by decide) m1, b263_18 o11, adw6, if_pos (ib_nI (by omega) (by omega)), nI_clamp (by omega), show (140 + 5 : Nat) = 145 from rfl, hz_cm _ _ _ (by omega), hz_s, m2.2.2.2.2, if_neg (by decide), if_neg (by decide), if_pos rfl, b263_59 o11, nI_1]; rfl
      have eX2 : hs_C scr (d + 7) 77 [.ref 11, .int (nI sz)] (hs_S0, I, L, R') = ((hs_C scr (d + 6) 75 [.ref 11, .int (nI sz), .int (kd 3)] (hs_S0, hs_u I1 (p + 2) sz (nI (K j)), L1, R')).bind fun o => hs_R scr (d + 7) 77 73 [some (.ref 11), some (.int (nI sz))] (o.1.toList ++ []) o.2) := by
        rw [eX, g26, lw26', b77_66 o6]; rfl
      rcases hor with ⟨k, q2, l2, a1, a2, a3, a4, a5, a6, a7⟩ | ⟨c, a, q2, a1, a2, a3, a4, a5⟩
      · refine ⟨hs_u I2 (p + 3) sz (nI k), L2, hs_u (hs_u J 145 (1725 + 9 * ns + 6) 0) 145 (1725 + 9 * ns + 1) (nI k), q2, l2, fun k a b c _ => by simp (disch := omega) only [hu_row, yy, g1], fun i b h1 h2 h3 => by simp (disch := omega) only [hu_at, yy, g1], fun k hk => by rw [y1.2.1 k hk, f1.2.1 k hk], by rw [hu_row _ _ (by omega), y1.2.2, hu_row _ _ (by omega)]; exact f1.2.2, fun k hk => by simp (disch := omega) only [hu_row], fun f hf => by simp (disch := omega) only [hu_at], T140_tr m3 a7, ?_, Or.inl ⟨j + 2, by omega, a2, a6, a4, ?_, Or.inr (Or.inl ⟨?_, ?_, ?_, k, a1, hu_same _ _ _ _⟩)⟩⟩
        · rw [eM, a5]
          simp only [Option.bind_some, Option.toList_some, Option.toList_none, List.append_nil, List.cons_append, List.nil_append]
          rw [b263_62 (S := hs_S0) (u0 := 145) (n_u0 := 1995) (a_u0 := rfl) (o_t0 := o11), if_pos (ib_nI (by omega) (by omega)), nI_clamp (by omega), hz_cm _ _ _ (by omega), hz_s, a6.2.2.2.2, if_neg (by decide), if_pos rfl, b263_74]
        · rw [eX2, a3]
          simp only [Option.bind_some, Option.toList_some, Option.toList_none, List.append_nil, List.cons_append, List.nil_append]
          rw [b77_73]; rfl
        · rw [hu_at _ _ (by omega), hu_same]
        · rw [hu_row _ _ (by omega), yy _ (by omega), hu_same, g26]; rfl
        · rw [hu_same, hu_same]
      · refine ⟨hs_u I2 (p + 3) sz (-1), L2, hs_u (hs_u J 145 (1725 + 9 * ns + 6) 0) 145 (1725 + 9 * ns + 1) 0, q2, l1, fun k a b c _ => by simp (disch := omega) only [hu_row, yy, g1], fun i b h1 h2 h3 => by simp (disch := omega) only [hu_at, yy, g1], fun k hk => by rw [y1.2.1 k hk, f1.2.1 k hk], by rw [hu_row _ _ (by omega), y1.2.2, hu_row _ _ (by omega)]; exact f1.2.2, fun k hk => by simp (disch := omega) only [hu_row], fun f hf => by simp (disch := omega) only [hu_at], T140_tr m3 a5, ?_, Or.inr ⟨c, a, ?_, ?_, a4⟩⟩
        · rw [eM, a3]
          simp only [Option.bind_some, Option.toList_some, Option.toList_none, List.append_nil, List.cons_append, List.nil_append]
          rw [b263_62 (S := hs_S0) (u0 := 145) (n_u0 := 1995) (a_u0 := rfl) (o_t0 := o11), if_pos (ib_nI (by omega) (by omega)), nI_clamp (by omega), hz_cm _ _ _ (by omega), hz_s, if_pos (BM_n a4).2.2, b263_74]
        · rw [eX2, a1]
          simp only [Option.bind_some, Option.toList_some, Option.toList_none, List.append_nil, List.cons_append, List.nil_append]
          rw [b77_73]; rfl
        · unfold BC; rw [hu_row _ _ (by omega)]; exact a2
    · by_cases g3 : K j = 3
      · have hj1 : j + 1 < N := hK.2.2.2.2.1 j hj (by omega)
        obtain ⟨q1, l1, m1, m2, m3⟩ := m248t (scr := scr) (d := dm + 5) (M := M) o11 hK hJ hj1 hM
        have ht1 : tsv (K j) = 1 := by rw [g3]; rfl
        obtain ⟨I2, L2, y1, hor⟩ := jTh (scr := scr) (d := d + 2) (dm := dm + 1) (s := 0) (row := sz) (J := hs_u J 145 (1725 + 9 * ns + 6) 1) (R := R) (R' := R') o11 o6 r0 r2 r3 o8 o5 o3 ht hp hK (fun i hi => by rw [hu_row _ _ (by omega)]; exact hJ i hi) hTa m2 hj1 hsz (by omega) hcn (by rw [hu_at _ _ (by omega)]; exact hcnt 0 (by omega)) hRa
        have yy : ∀ k, k ≠ 4 → I2 k = hs_u I1 (p + 2) sz (nI (K j)) k := y1.1
        have eM : hs_C scr (dm + 8) 263 [.ref 140, .int (nI (1725 + 9 * ns))] (hs_S0, hs_z J 140 q, hs_z M 140 l, R) = ((hs_C scr (dm + 7) 255 [.ref 140, .int 0, .int (nI 0)] (hs_S0, hs_z (hs_u J 145 (1725 + 9 * ns + 6) 1) 140 q1, hs_z M 140 l1, R)).bind fun o => hs_R scr (dm + 8) 263 62 [some (.ref 140), some (.int (nI (1725 + 9 * ns))), some (.int 1)] (o.1.toList ++ [.int (nI (1725 + 9 * ns + 1)), .ref 145]) o.2) := by
          rw [eMg ht1 (by decide) m1, b263_18 o11, adw6, if_pos (ib_nI (by omega) (by omega)), nI_clamp (by omega), show (140 + 5 : Nat) = 145 from rfl, hz_cm _ _ _ (by omega), hz_s, m2.2.2.2.2, if_neg (by decide), if_neg (by decide), if_neg (by decide), b263_59 o11, nI_1]; rfl
        have eX2 : hs_C scr (d + 7) 77 [.ref 11, .int (nI sz)] (hs_S0, I, L, R') = ((hs_C scr (d + 6) 75 [.ref 11, .int (nI sz), .int (kd 0)] (hs_S0, hs_u I1 (p + 2) sz (nI (K j)), L1, R')).bind fun o => hs_R scr (d + 7) 77 80 [some (.ref 11), some (.int (nI sz))] (o.1.toList ++ []) o.2) := by
          rw [eX, g3, lw3, b77_74 o6]; rfl
        rcases hor with ⟨k, q2, l2, a1, a2, a3, a4, a5, a6, a7⟩ | ⟨c, a, q2, a1, a2, a3, a4, a5⟩
        · -- the sign
          have hk2 := (hK.2.2.2.2.2 (j + 2) a2).1
          obtain ⟨I3, L3, e3, t3, c3, f3⟩ := x44 (scr := scr) (d := d + 5) (R := R') o8 hK.2.1 a4 a2
          have zz : ∀ k', k' ≠ 4 → I3 k' = hs_u I2 (p + 3) sz (nI k) k' := f3.1
          have hTs := TokR_s _ _ a6.2.2.2.1
          obtain ⟨x7, hx7⟩ : ∃ x7 : Int32, x7 = if q2 14 = 3 then q2 17 else 0 := ⟨_, rfl⟩
          have hJ3 : JB E B (hs_u (hs_u (hs_u J 145 (1725 + 9 * ns + 6) 1) 145 (1725 + 9 * ns + 1) (nI k)) 145 (1725 + 9 * ns + 7) x7) := fun i hi => by simp (disch := omega) only [hu_row]; exact hJ i hi
          have eM2 : hs_C scr (dm + 8) 263 [.ref 140, .int (nI (1725 + 9 * ns))] (hs_S0, hs_z J 140 q, hs_z M 140 l, R) = hs_R scr (dm + 8) 263 133 [some (.ref 140), some (.int (nI (1725 + 9 * ns))), some (.int 1)] [.int (if K (j + 2) = 34 ∨ K (j + 2) = 35 ∨ K (j + 2) = 36 then 1 else 0), .ref 140] (hs_S0, hs_z (hs_u (hs_u (hs_u J 145 (1725 + 9 * ns + 6) 1) 145 (1725 + 9 * ns + 1) (nI k)) 145 (1725 + 9 * ns + 7) x7) 140 q2, hs_z M 140 l2, R) := by
            have e99 : hs_C scr (dm + 8) 263 [.ref 140, .int (nI (1725 + 9 * ns))] (hs_S0, hs_z J 140 q, hs_z M 140 l, R) = hs_R scr (dm + 8) 263 99 [some (.ref 140), some (.int (nI (1725 + 9 * ns))), some (.int 1)] [.int x7, .int (nI (1725 + 9 * ns + 7)), .ref 145] (hs_S0, hs_z (hs_u (hs_u J 145 (1725 + 9 * ns + 6) 1) 145 (1725 + 9 * ns + 1) (nI k)) 140 q2, hs_z M 140 l2, R) := by
              rw [eM, a5]
              simp only [Option.bind_some, Option.toList_some, Option.toList_none, List.append_nil, List.cons_append, List.nil_append]
              rw [b263_62 (S := hs_S0) (u0 := 145) (n_u0 := 1995) (a_u0 := rfl) (o_t0 := o11), if_pos (ib_nI (by omega) (by omega)), nI_clamp (by omega), hz_cm _ _ _ (by omega), hz_s, a6.2.2.2.2, if_neg (by decide), if_neg (by decide), adw7, hx7]
              by_cases gq : q2 14 = 3
              · rw [if_pos gq, if_pos gq]
              · rw [if_neg gq, if_neg gq]
            rw [e99, b263_99 (S := hs_S0) (u0 := 145) (n_u0 := 1995) (a_u0 := rfl) (o_t0 := o11), if_pos (ib_nI (by omega) (by omega)), nI_clamp (by omega), hz_cm _ _ _ (by omega), m257_60 o11 a6.2.2.2.1]
            simp only [Option.bind_some, Option.toList_some, Option.toList_none, List.append_nil, List.cons_append, List.nil_append]
            rw [b263_107 o11]
            by_cases h34 : K (j + 2) = 34
            · rw [if_pos h34, if_neg (by decide), b263_128, if_pos (Or.inl h34)]
            · rw [if_neg h34, if_pos rfl, m257_62 o11 a6.2.2.2.1]
              simp only [Option.bind_some, Option.toList_some, Option.toList_none, List.append_nil, List.cons_append, List.nil_append]
              rw [b263_116 o11]
              by_cases h35 : K (j + 2) = 35
              · rw [if_pos h35, if_neg (by decide), b263_128, if_pos (Or.inr (Or.inl h35))]
              · rw [if_neg h35, if_pos rfl, m257_61 o11 a6.2.2.2.1]
                simp only [Option.bind_some, Option.toList_some, Option.toList_none, List.append_nil, List.cons_append, List.nil_append]
                rw [b263_125]
                by_cases h36 : K (j + 2) = 36
                · rw [if_pos h36, if_neg (by decide), b263_128, if_pos (Or.inr (Or.inr h36))]
                · rw [if_neg h36, if_pos rfl, if_neg (show ¬ (K (j + 2) = 34 ∨ K (j + 2) = 35 ∨ K (j + 2) = 36) by omega)]
          have hT3 : TC N K A V (j + 3) (hs_u I3 (p + 2) sz (nI (K (j + 2)))) L3 := TC_r t3 (fun k hk => hu_row _ _ (by omega)) rfl
          have hC3 : CU K A V (j + 2) (hs_u I3 (p + 2) sz (nI (K (j + 2)))) L3 := by unfold CU; simp (disch := omega) only [hu_row]; exact c3
          have eX3 : hs_C scr (d + 7) 77 [.ref 11, .int (nI sz)] (hs_S0, I, L, R') = ((hs_R scr (d + 6) 78 7 [some (.ref 11), some (.int (nI sz))] [] (hs_S0, I3, L3, R')).bind fun o => hs_R scr (d + 7) 77 88 [some (.ref 11), some (.int (nI sz))] (o.1.toList ++ []) o.2) := by
            rw [eX2, a3]
            simp only [Option.bind_some, Option.toList_some, Option.toList_none, List.append_nil, List.cons_append, List.nil_append]
            rw [b77_80 o6, if_neg (by decide), e78, b78_0 o6 r0 o8, e3]
            simp only [Option.bind_some, Option.toList_some, Option.toList_none, List.append_nil, List.cons_append, List.nil_append]
          by_cases gs : K (j + 2) = 34 ∨ K (j + 2) = 35 ∨ K (j + 2) = 36
          · have hj3 : j + 3 < N := hK.2.2.2.2.1 (j + 2) a2 (by omega)
            obtain ⟨q3, l3, n1, n2, n3⟩ := m248t (scr := scr) (d := dm + 5) (M := M) o11 hK hJ3 hj3 a6
            obtain ⟨q4, l4, v1, v2, v3, v4⟩ := m221 (scr := scr) (d := dm + 5) (M := M) (lo := 0) (hi := 99) o11 hK hJ3 hj3 n2 (by omega) (by omega)
            obtain ⟨I4, L4, y4, u1, u2⟩ := x74 (scr := scr) (d := d + 3) (lo := 0) (hi := 99) o6 r0 r2 o8 o5 hp hK hT3 hj3 hsz (by omega) (by omega)
            have y44 : ∀ k', k' ≠ 4 → I4 k' = hs_u I3 (p + 2) sz (nI (K (j + 2))) k' := y4.1
            have e78' : hs_R scr (d + 6) 78 7 [some (.ref 11), some (.int (nI sz))] [] (hs_S0, I3, L3, R') = some (some (.int 1), (hs_S0, hs_u I3 (p + 2) sz (nI (K (j + 2))), L3, R')) := by
              rw [b78_7 o6 r2 o5 r0 o8, if_pos (ib_nI (by omega) (by omega)), nI_clamp (by omega), c3.1, hu_row _ _ (by omega), c3.1]
              rcases gs with h | h | h
              · rw [h, if_pos (by decide), b78_70, b78_75]; rfl
              · rw [h, if_neg (by decide), if_pos (by decide), b78_70, b78_75]; rfl
              · rw [h, if_neg (by decide), if_neg (by decide), if_pos (by decide), b78_70, b78_75]; rfl
            have eM3 : hs_C scr (dm + 8) 263 [.ref 140, .int (nI (1725 + 9 * ns))] (hs_S0, hs_z J 140 q, hs_z M 140 l, R) = some (none, (hs_S0, hs_z (hs_u (hs_u (hs_u (hs_u J 145 (1725 + 9 * ns + 6) 1) 145 (1725 + 9 * ns + 1) (nI k)) 145 (1725 + 9 * ns + 7) x7) 145 (1725 + 9 * ns + 2) (if okN K V (j + 3) 0 99 then nI (V (j + 3)) else 0)) 140 q4, hs_z M 140 l4, R)) := by
              rw [eM2, if_pos gs, b263_133 o11, n1]
              simp only [Option.bind_some, Option.toList_some, Option.toList_none, List.append_nil, List.cons_append, List.nil_append]
              rw [b263_136 o11]
              refine (congrArg (fun z => Option.bind z _) v1).trans ?_
              simp only [Option.bind_some, Option.toList_some, Option.toList_none, List.append_nil, List.cons_append, List.nil_append]
              rw [show (140 + 5 : Nat) = 145 from rfl, b263_150 (S := hs_S0) (u0 := 145) (n_u0 := 1995) (a_u0 := rfl), adw2, if_pos (ib_nI (by omega) (by omega)), nI_clamp (by omega), hz_cm _ _ _ (by omega)]
            have eX4 : hs_C scr (d + 7) 77 [.ref 11, .int (nI sz)] (hs_S0, I, L, R') = ((hs_C scr (d + 6) 74 [.ref 11, .int (nI sz), .int (nI 0), .int (nI 99)] (hs_S0, hs_u I3 (p + 2) sz (nI (K (j + 2))), L3, R')).bind fun o => hs_R scr (d + 7) 77 99 [some (.ref 11), some (.int (nI sz))] (o.1.toList ++ []) o.2) := by
              rw [eX3, e78']
              simp only [Option.bind_some, Option.toList_some, Option.toList_none, List.append_nil, List.cons_append, List.nil_append]
              rw [b77_88 o6, if_neg (by decide)]
              simp only [List.append_nil]; rfl
            by_cases gn : okN K V (j + 3) 0 99
            · obtain ⟨w1, w2⟩ := u1 gn
              have hj4 : j + 4 < N := hK.2.2.2.2.1 (j + 3) hj3 (by have := gn.1; omega)
              rw [if_pos gn] at eM3
              refine ⟨hs_u I4 (p + 4) sz (nI (V (j + 3))), L4, hs_u (hs_u (hs_u (hs_u J 145 (1725 + 9 * ns + 6) 1) 145 (1725 + 9 * ns + 1) (nI k)) 145 (1725 + 9 * ns + 7) x7) 145 (1725 + 9 * ns + 2) (nI (V (j + 3))), q4, l4, fun k a b c d => by simp (disch := omega) only [hu_row, y44, zz, yy, g1], fun i b h1 h2 h3 => by simp (disch := omega) only [hu_at, y44, zz, yy, g1], fun k hk => by rw [y4.2.1 k hk, f3.2.1 k hk, y1.2.1 k hk, f1.2.1 k hk], by rw [hu_row _ _ (by omega), y4.2.2, hu_row _ _ (by omega), f3.2.2, hu_row _ _ (by omega), y1.2.2, hu_row _ _ (by omega)]; exact f1.2.2, fun k hk => by simp (disch := omega) only [hu_row], fun f hf => by simp (disch := omega) only [hu_at], T140_tr m3 (T140_tr a7 (T140_tr n3 v2)), eM3, Or.inl ⟨j + 4, by omega, hj4, v3 gn, w2, ?_, Or.inr (Or.inr ⟨?_, ?_, ⟨k, a1, ?_⟩, ?_, ⟨_, gn.2.2, hu_same _ _ _ _⟩, ?_⟩)⟩⟩
              · rw [eX4, w1]
                simp only [Option.bind_some, Option.toList_some, Option.toList_none, List.append_nil, List.cons_append, List.nil_append]
                rw [b77_99, if_neg (by decide), b77_107]; rfl
              · simp (disch := omega) only [hu_same, hu_row, hu_at, hu_hu]
              · simp (disch := omega) only [hu_same, hu_row, hu_at, hu_hu, y44, zz, yy]
              · simp (disch := omega) only [hu_same, hu_row, hu_at, hu_hu]
              · simp (disch := omega) only [hu_same, hu_row, hu_at, hu_hu]
              · have e7 : hs_u (hs_u (hs_u (hs_u J 145 (1725 + 9 * ns + 6) 1) 145 (1725 + 9 * ns + 1) (nI k)) 145 (1725 + 9 * ns + 7) x7) 145 (1725 + 9 * ns + 2) (nI (V (j + 3))) 145 (1725 + 9 * ns + 7) = x7 := by simp (disch := omega) only [hu_same, hu_row, hu_at, hu_hu]
                have e2' : hs_u I4 (p + 4) sz (nI (V (j + 3))) (p + 2) sz = nI (K (j + 2)) := by simp (disch := omega) only [hu_same, hu_row, hu_at, hu_hu, y44]
                rw [e7, e2', hx7]
                rcases gs with h | h | h
                · have := hTs.1 h; rw [if_pos this.1, this.2, h]; exact Or.inl ⟨rfl, rfl⟩
                · have := hTs.2.1 h; rw [if_pos this.1, this.2, h]; exact Or.inr (Or.inl ⟨rfl, rfl⟩)
                · have := hTs.2.2 h; rw [if_pos this.1, this.2, h]; exact Or.inr (Or.inr ⟨rfl, rfl⟩)
            · obtain ⟨w1, w2⟩ := u2 gn
              refine ⟨I4, L4, _, q4, l4, fun k a b c d => by simp (disch := omega) only [hu_row, y44, zz, yy, g1], fun i b h1 h2 h3 => by simp (disch := omega) only [hu_at, y44, zz, yy, g1], fun k hk => by rw [y4.2.1 k hk, f3.2.1 k hk, y1.2.1 k hk, f1.2.1 k hk], by rw [y4.2.2, hu_row _ _ (by omega), f3.2.2, hu_row _ _ (by omega), y1.2.2, hu_row _ _ (by omega)]; exact f1.2.2, fun k hk => by simp (disch := omega) only [hu_row], fun f hf => by simp (disch := omega) only [hu_at], T140_tr m3 (T140_tr a7 (T140_tr n3 v2)), eM3, Or.inr ⟨_, _, ?_, w2, v4 gn⟩⟩
              rw [eX4, w1]
              simp only [Option.bind_some, Option.toList_some, Option.toList_none, List.append_nil, List.cons_append, List.nil_append]
              rw [b77_99, if_pos rfl, b77_106, b77_107]; rfl
          · obtain ⟨I4, z1, z2, z3, z4⟩ := x47 (scr := scr) (d := d + 5) (c := 2) (R := R') o8 hC3 hk2
            obtain ⟨q3, n1, n2, n3⟩ := m248f (scr := scr) (d := dm + 5) (M := M) (J := hs_u (hs_u (hs_u J 145 (1725 + 9 * ns + 6) 1) 145 (1725 + 9 * ns + 1) (nI k)) 145 (1725 + 9 * ns + 7) x7) (R := R) o11 a6
            have y44 : ∀ k', k' ≠ 4 → I4 k' = hs_u I3 (p + 2) sz (nI (K (j + 2))) k' := z3.1
            refine ⟨I4, L3, hs_u (hs_u (hs_u (hs_u J 145 (1725 + 9 * ns + 6) 1) 145 (1725 + 9 * ns + 1) (nI k)) 145 (1725 + 9 * ns + 7) x7) 145 (1725 + 9 * ns + 2) 0, q3, l2, fun k a b c d => by simp (disch := omega) only [hu_row, y44, zz, yy, g1], fun i b h1 h2 h3 => by simp (disch := omega) only [hu_at, y44, zz, yy, g1], fun k hk => by rw [f3.2.1 k hk, y1.2.1 k hk, f1.2.1 k hk], by rw [z3.2.2, hu_row _ _ (by omega), f3.2.2, hu_row _ _ (by omega), y1.2.2, hu_row _ _ (by omega)]; exact f1.2.2, fun k hk => by simp (disch := omega) only [hu_row], fun f hf => by simp (disch := omega) only [hu_at], T140_tr m3 (T140_tr a7 n3), ?_, Or.inr ⟨_, _, ?_, z2, n2⟩⟩
            · rw [eM2, if_neg gs, b263_133 o11, n1]
              simp only [Option.bind_some, Option.toList_some, Option.toList_none, List.append_nil, List.cons_append, List.nil_append]
              rw [b263_136 o11, m221b (d := dm + 6) o11 n2]
              simp only [Option.bind_some, Option.toList_some, Option.toList_none, List.append_nil, List.cons_append, List.nil_append]
              rw [show (140 + 5 : Nat) = 145 from rfl, b263_150 (S := hs_S0) (u0 := 145) (n_u0 := 1995) (a_u0 := rfl), adw2, if_pos (ib_nI (by omega) (by omega)), nI_clamp (by omega), hz_cm _ _ _ (by omega)]
            · rw [eX3, b78_7 o6 r2 o5 r0 o8, if_pos (ib_nI (by omega) (by omega)), nI_clamp (by omega), c3.1, hu_row _ _ (by omega), c3.1, if_neg (show ¬ nI (K (j + 2)) = 34 from fun q => by have := (nI_eq (b := 34) (by omega) (by omega)).mp q; omega), if_neg (show ¬ nI (K (j + 2)) = 35 from fun q => by have := (nI_eq (b := 35) (by omega) (by omega)).mp q; omega), if_neg (show ¬ nI (K (j + 2)) = 36 from fun q => by have := (nI_eq (b := 36) (by omega) (by omega)).mp q; omega), show (2 : Int32) = nI 2 from rfl, z1]
              simp only [Option.bind_some, Option.toList_some, Option.toList_none, List.append_nil, List.cons_append, List.nil_append]
              rw [b78_67, if_pos rfl, b78_75, if_pos (Or.inl rfl)]
              simp only [Option.bind_some, Option.toList_some, Option.toList_none, List.append_nil, List.cons_append, List.nil_append]
              rw [b77_88 o6, if_pos rfl, b77_106, b77_107]; rfl
        · refine ⟨hs_u I2 (p + 3) sz (-1), L2, hs_u (hs_u J 145 (1725 + 9 * ns + 6) 1) 145 (1725 + 9 * ns + 1) 0, q2, l1, fun k a b c _ => by simp (disch := omega) only [hu_row, yy, g1], fun i b h1 h2 h3 => by simp (disch := omega) only [hu_at, yy, g1], fun k hk => by rw [y1.2.1 k hk, f1.2.1 k hk], by rw [hu_row _ _ (by omega), y1.2.2, hu_row _ _ (by omega)]; exact f1.2.2, fun k hk => by simp (disch := omega) only [hu_row], fun f hf => by simp (disch := omega) only [hu_at], T140_tr m3 a5, ?_, Or.inr ⟨c, a, ?_, ?_, a4⟩⟩
          · rw [eM, a3]
            simp only [Option.bind_some, Option.toList_some, Option.toList_none, List.append_nil, List.cons_append, List.nil_append]
            rw [b263_62 (S := hs_S0) (u0 := 145) (n_u0 := 1995) (a_u0 := rfl) (o_t0 := o11), if_pos (ib_nI (by omega) (by omega)), nI_clamp (by omega), hz_cm _ _ _ (by omega), hz_s, if_pos (BM_n a4).2.2, b263_74]
          · rw [eX2, a1]
            simp only [Option.bind_some, Option.toList_some, Option.toList_none, List.append_nil, List.cons_append, List.nil_append]
            rw [b77_80 o6, if_pos rfl, b77_106, b77_107]; rfl
          · unfold BC; rw [hu_row _ _ (by omega)]; exact a2
      · have hl : hs_lsw (nI (K j)) [(3, 74), (18, 64), (26, 66)] 108 = 108 := (((lwe _ hkj).resolve_left g3).resolve_left g18).resolve_left g26
        have hts : tsv (K j) = -1 := (((tsve _ hkj).resolve_left g3).resolve_left g18).resolve_left g26
        obtain ⟨I2, z1, z2, z3, z4⟩ := x47 (scr := scr) (d := d + 6) (c := 2) (R := R') o8 hC1 hkj
        obtain ⟨q1, n1, n2, n3⟩ := m248f (scr := scr) (d := dm + 5) (M := M) (J := J) (R := R) o11 hM
        have yy : ∀ k, k ≠ 4 → I2 k = hs_u I1 (p + 2) sz (nI (K j)) k := z3.1
        refine ⟨I2, L1, hs_u J 145 (1725 + 9 * ns + 6) (-1), q1, l, fun k a b _ _ => by simp (disch := omega) only [yy, hu_row, g1], fun i b h1 h2 h3 => by simp (disch := omega) only [yy, hu_at, g1], f1.2.1, by rw [z3.2.2, hu_row _ _ (by omega)]; exact f1.2.2, fun k hk => hu_row _ _ hk, fun f hf => hu_at _ _ (by omega), n3, ?_, Or.inr ⟨_, _, ?_, z2, n2⟩⟩
        · rw [e263, b263_0 o11, m241', hts]
          simp only [Option.bind_some, Option.toList_some, Option.toList_none, List.append_nil, List.cons_append, List.nil_append]
          rw [b263_4, if_pos (by decide), b263_15 o11, n1]
          simp only [Option.bind_some, Option.toList_some, Option.toList_none, List.append_nil, List.cons_append, List.nil_append]
          rw [b263_18 o11, adw6, if_pos (ib_nI (by omega) (by omega)), nI_clamp (by omega), show (140 + 5 : Nat) = 145 from rfl, hz_cm _ _ _ (by omega), hz_s, if_pos (BM_n n2).2.2, b263_40]
        · rw [eX, hl, b77_108 o6 r0 o8, show (2 : Int32) = nI 2 from rfl, z1]
          simp only [Option.bind_some, Option.toList_some, Option.toList_none, List.append_nil, List.cons_append, List.nil_append]
          rw [b77_116]; rfl
theorem rowWhen (hP : RwH E N B K A V H R R' cn p t j sz ns dp I L J q M l) (hk : K j = 25) (hd3 : dp < 3) : RowRes scr (d + 8) (dm + 9) E N B K A V H R R' (cn 0) (cn 3) p j sz ns dp (dp + 1) I L J q M l := by
  obtain ⟨o11, o6, r0, r2, r3, o8, o5, o3, ht, hp, hK, hJ, hj, hT, hC, hM, h5, h6, h11, hns, hszd, hdp, hcn, hRN, hcnt, hJw⟩ := hP; have hkj := (hK.2.2.2.2.2 j (by omega)).1; have hsz : sz < 60 := by omega
  have hsw : (17 ≤ K j ∧ K j ≤ 25) ∨ K j = 27 ∨ K j = 29 := by omega
  have hk0 : kj (K j) = 8 := by rw [hk]; rfl
  have hT1 : TC N K A V (j + 1) (hs_u (hs_u (hs_u (hs_u (hs_u I (p + 1) sz (nI (K j))) p 6 (nI (ns + 1))) p 5 (nI (sz + 1))) 12 dp (nI sz)) 11 4 (nI (dp + 1))) L := TC_r hT (fun k hk => by simp (disch := omega) only [hu_same, hu_row, hu_at, hu_hu]) rfl
  have hRN1 : RN cn (fun k => M 148 k) (hs_u (hs_u (hs_u (hs_u (hs_u I (p + 1) sz (nI (K j))) p 6 (nI (ns + 1))) p 5 (nI (sz + 1))) 12 dp (nI sz)) 11 4 (nI (dp + 1))) L t := RN_cg hRN (fun k hk => rfl) (by simp (disch := omega) only [hu_same, hu_row, hu_at, hu_hu]) (by simp (disch := omega) only [hu_same, hu_row, hu_at, hu_hu]) (by simp (disch := omega) only [hu_same, hu_row, hu_at, hu_hu]) rfl
  obtain ⟨I1, L1, J1, q1, l1, y1, y2, y3, y4, y5, y6, y7, y8, hor⟩ := rowTest (scr := scr) (d := d) (dm := dm) (ns := ns) (R := R) (R' := R') o11 o6 r0 r2 r3 o8 o5 o3 ht hp hK hJ hj hT1 hM hsz hns hcn hRN1 hcnt
  have eX : hs_C scr (d + 8) 71 [.ref 11] (hs_S0, I, L, R') = ((hs_C scr (d + 7) 77 [.ref 11, .int (nI sz)] (hs_S0, hs_u (hs_u (hs_u (hs_u (hs_u I (p + 1) sz (nI (K j))) p 6 (nI (ns + 1))) p 5 (nI (sz + 1))) 12 dp (nI sz)) 11 4 (nI (dp + 1)), L, R')).bind fun o => hs_R scr (d + 8) 71 268 [some (.ref 11), some (.int (nI sz))] (o.1.toList ++ []) o.2) := by
    rw [x71h (d := d + 7) o6 r0 r2 o8 o5 hp hC.1 hkj hsw h5 h6 hns hsz, hk, show hs_swt (nI 25) 17 27 [188, 326, 326, 217, 217, 217, 326, 326, 255, 326, 289] 326 = 255 by decide, b71_255 o6, e76, b76_0 o6 r0 o8]
    simp (disch := omega) only [hu_same, hu_row, hu_at, hu_hu, h11, nI_1, show (nI dp < (3 : Int32)) = True from eq_true (nI_lt (b := 3) hd3 (by omega)), ib_nI, nI_clamp, ↓reduceIte, Nat.reduceAdd]
    simp only [Option.bind_some, Option.toList_some, Option.toList_none, List.append_nil, List.cons_append, List.nil_append]
    rw [b71_260 o6, if_neg (by decide)]
    simp only [List.append_nil]
  have eM : hs_C scr (dm + 9) 262 [.ref 140, .int (nI (1725 + 9 * ns))] (hs_S0, hs_z J 140 q, hs_z M 140 l, R) = some (none, (hs_S0, hs_z J1 140 q1, hs_z M 140 l1, R)) := by
    rw [e262, b262_0 o11, if_pos (ib_nI (by omega) (by omega)), nI_clamp (by omega), show (140 + 5 : Nat) = 145 from rfl, hz_row _ _ (by omega), hJw, hk0, if_neg (by decide), if_neg (by decide), if_pos (by decide), y8]
    simp only [Option.bind_some, Option.toList_some, Option.toList_none, List.append_nil, List.cons_append, List.nil_append]
    rw [b262_64, b262_106]
  have yy : ∀ k, k ≠ 4 → k ≠ p + 2 → k ≠ p + 3 → k ≠ p + 4 → I1 k = hs_u (hs_u (hs_u (hs_u (hs_u I (p + 1) sz (nI (K j))) p 6 (nI (ns + 1))) p 5 (nI (sz + 1))) 12 dp (nI sz)) 11 4 (nI (dp + 1)) k := y1
  have yr : ∀ i b, 2 ≤ i → i ≤ 4 → b ≠ sz → I1 (p + i) b = hs_u (hs_u (hs_u (hs_u (hs_u I (p + 1) sz (nI (K j))) p 6 (nI (ns + 1))) p 5 (nI (sz + 1))) 12 dp (nI sz)) 11 4 (nI (dp + 1)) (p + i) b := y2
  have y45 : I1 4 5 = I 4 5 := by rw [y4]; simp (disch := omega) only [hu_same, hu_row, hu_at, hu_hu]
  rcases hor with ⟨p1, a1, a2, a3, a4, a5, a6⟩ | ⟨c, a, a1, a2, a3⟩
  · obtain ⟨I2, L2, z1, z2, z3, z4, z5⟩ := x49 (scr := scr) (d := d + 6) (W := 33) (R := R') o8 hK a4 a2 (by omega)
    have zz : ∀ k, k ≠ 4 → I2 k = I1 k := z2.1
    refine ⟨I2, L2, J1, q1, l1, ⟨fun k a b c d => by simp (disch := omega) only [zz, yy, hu_same, hu_row, hu_at, hu_hu], fun k hk => by rw [z2.2.1 k hk, y3 k hk], by rw [z2.2.2]; exact y45⟩, y5, y6, y7, eM, Or.inl ⟨p1, by omega, a2, a3, ?_, fun h => ⟨z3 h, ⟨?_, fun i b h1 h2 h3 => ?_, ?_, ?_, ?_, ?_, fun b hb => ?_, fun _ => ?_⟩, ?_⟩, z5⟩⟩
    · rw [eX, a5]
      simp only [Option.bind_some, Option.toList_some, Option.toList_none, List.append_nil, List.cons_append, List.nil_append]
      rw [b71_268 o6 r0 o8, if_neg (by decide), show (33 : Int32) = nI 33 from rfl, z1]
      simp only [Option.bind_some, Option.toList_some, Option.toList_none, List.append_nil, List.cons_append, List.nil_append]
      rw [b71_280]
      by_cases g33 : K p1 = 33
      · rw [if_pos g33, if_neg (by decide), b71_288]; rfl
      · rw [if_neg g33, if_pos rfl, b71_287, b71_288]; rfl
    · simp (disch := omega) only [zz, yy, hu_same, hu_row, hu_at, hu_hu]
    · by_cases gi : i = 1
      · subst gi; simp (disch := omega) only [zz, yy, hu_same, hu_row, hu_at, hu_hu]
      · rw [zz _ (by omega), yr i b (by omega) h2 h3]; simp (disch := omega) only [hu_same, hu_row, hu_at, hu_hu]
    · simp (disch := omega) only [zz, yy, hu_same, hu_row, hu_at, hu_hu]
    · simp (disch := omega) only [zz, yy, hu_same, hu_row, hu_at, hu_hu]
    · simp (disch := omega) only [zz, yy, hu_same, hu_row, hu_at, hu_hu]
    · simp (disch := omega) only [zz, yy, hu_same, hu_row, hu_at, hu_hu]
    · simp (disch := omega) only [zz, yy, hu_same, hu_row, hu_at, hu_hu]
    · simp (disch := omega) only [zz, yy, hu_same, hu_row, hu_at, hu_hu]
    · rw [hk0, zz _ (by omega), zz _ (by omega), zz _ (by omega), zz _ (by omega)]
      refine ⟨by omega, ?_, ?_, fun q => by omega, fun q => by omega, fun q => by omega, fun _ => ?_⟩
      · show J1 145 (1723 + (2 + 9 * ns)) = _
        rw [show 1723 + (2 + 9 * ns) = 1725 + 9 * ns by omega, y6 _ (by omega), hJw, hk0]
      · simp (disch := omega) only [yy, hu_same, hu_row, hu_at, hu_hu]; rw [hk]; rfl
      · have e1 : 1723 + (2 + 9 * ns + 1) = 1725 + 9 * ns + 1 := by omega
        have e2 : 1723 + (2 + 9 * ns + 2) = 1725 + 9 * ns + 2 := by omega
        have e6 : 1723 + (2 + 9 * ns + 6) = 1725 + 9 * ns + 6 := by omega
        have e7 : 1723 + (2 + 9 * ns + 7) = 1725 + 9 * ns + 7 := by omega
        simp only [e1, e2, e6, e7]
        exact a6
  · refine ⟨I1, L1, J1, q1, l1, ⟨fun k a b c d => by simp (disch := omega) only [yy, hu_same, hu_row, hu_at, hu_hu], y3, y45⟩, y5, y6, y7, eM, Or.inr ⟨c, a, ?_, a2, a3⟩⟩
    rw [eX, a1]
    simp only [Option.bind_some, Option.toList_some, Option.toList_none, List.append_nil, List.cons_append, List.nil_append]
    rw [b71_268 o6 r0 o8, if_pos rfl, b71_287, b71_288]; rfl
end R3
