/-! parts of a state's text: ruler, party -/
section P2
variable {scr : List Int32} {dX dM d E N j j1 c a k v t s most n np nr nl nb nq : Nat} {o g : Bool} {B K A V H cn : Nat → Nat} {q q' : Nat → Int32} {l l' : Nat → Int64} {w : Nat → Int64} {y : Int64} {I J I' J' : Nat → Nat → Int32} {L M L' M' : Nat → Nat → Int64} {R R' : Nat → Nat → Nat}
theorem ad1638 (k : Nat) : (1638 : Int32) + nI k = nI (1638 + k) := nI_add 1638 k
theorem ad1643 (k : Nat) : (1643 : Int32) + nI k = nI (1643 + k) := nI_add 1643 k
theorem ad1648 (k : Nat) : (1648 : Int32) + nI k = nI (1648 + k) := nI_add 1648 k
theorem rdRuler (hP : PH E N B K A V H R R' t j I L J q M l n np nr nl nb nq o g) (hk : K j ≠ 38) : PRes scr (d + 8) (d + 9) E N B K A V H R R' t j 60 251 [] I L J q M l := by
  obtain ⟨o11, o7, r0, r1, o8, o4, ht, hK, hJ, hj, hT, hC, hM, hS⟩ := hP; obtain ⟨hcn, hcnt⟩ := SP_cnb hS; have hkj := (hK.2.2.2.2.2 j (by omega)).1; obtain ⟨sH, sP, sU, sL, sB, sD, sN, sZ, so, sg, sq⟩ := id hS
  have hnr := sU.1
  have eI : I t 9 = nI nr := sU.2.2.1
  have eM : hs_C scr (d + 9) 251 [.ref 140] (hs_S0, hs_z J 140 q, hs_z M 140 l, R) = ((hs_C scr (d + 8) 227 [.ref 140, .int (nI 2), .int (nI 6)] (hs_S0, hs_z J 140 q, hs_z M 140 l, R)).bind fun o => hs_R scr (d + 9) 251 7 [some (.ref 140), none, none] (o.1.toList ++ []) o.2) := by
    rw [e251, b251_0 o11]; rfl
  have eMb : ∀ {q1 : Nat → Int32} {l1 : Nat → Int64} {M1 : Nat → Nat → Int64} {x : Int32} {c a : Nat}, BM c a q1 → hs_R scr (d + 9) 251 7 [some (.ref 140), none, none] [.int x] (hs_S0, hs_z J 140 q1, hs_z M1 140 l1, R) = some (none, (hs_S0, hs_z J 140 q1, hs_z M1 140 l1, R)) := by
    intro q1 l1 M1 x c a hb
    obtain ⟨b, h1, h2⟩ := m235g (scr := scr) (d := d + 7) (q := q1) (l := l1) (J := J) (M := M1) o11
    rw [b251_7 o11, h1]
    simp only [Option.bind_some, Option.toList_some, Option.toList_none, List.append_nil, List.cons_append, List.nil_append, ↓reduceIte, true_or, or_true, Nat.reduceAdd, Nat.add_assoc]
    rw [b251_13 o11, m247b (d := d + 6) o11 hb]
    simp only [Option.bind_some, Option.toList_some, Option.toList_none, List.append_nil, List.cons_append, List.nil_append, ↓reduceIte, true_or, or_true, Nat.reduceAdd, Nat.add_assoc]
    rw [b251_19 o11, hz_s, if_neg (BM_n hb).1]
  by_cases g6 : nr < 6
  · have e4 : sl5 n np nr nl nb 2 = nr := sl5_2
    have hcn' : cnb (up (sl5 n np nr nl nb) 2 (sl5 n np nr nl nb 2 + 1)) := by
      obtain ⟨b0, b1, b2, b3, b4⟩ := hcn
      exact ⟨b0, b1, by rw [up_s, e4]; omega, b3, b4⟩
    obtain ⟨I1, L1, q1, l1, M1, f1, f2, f3, f4, f5, f6, hor⟩ := jNew (scr := scr) (d := d + 4) (dm := d + 2) (s := 2) (most := 6) o11 o7 r0 r1 o8 o4 (by omega) (by omega) hK hJ hj hT hM (by omega) hcn hcn' hcnt sN (by rw [e4]; exact g6) (by omega)
    rw [e4] at hor
    have eX : hs_C scr (d + 8) 60 [.ref 10] (hs_S0, I, L, R') = ((hs_C scr (d + 7) 53 [.ref 10, .int (kd 2), .int (nI nr)] (hs_S0, I, L, R')).bind fun o => hs_R scr (d + 8) 60 31 [some (.ref 10), some (.int (nI nr))] (o.1.toList ++ []) o.2) := by
      rw [e60, b60_0 o7 r1 o4 r0 o8, eI, if_pos (show nI nr < (6 : Int32) from nI_lt (b := 6) g6 (by omega))]; rfl
    have hF1 : FX t I L I1 L1 := ⟨fun k a b c => f1 k a (by omega) (by omega) (by omega), fun k a b => f2 k a b, f3⟩
    rcases hor with ⟨a1, a2, a3, a4, a5, a6⟩ | ⟨c, a, a1, a2, a3, a4⟩
    · obtain ⟨I2, L2, x1, y1, w1, v1⟩ := x56 (scr := scr) (d := d + 4) (W := 13) (lo := 0) (hi := 9) o7 r0 o8 hK a4 a3 (by omega) (by omega) (by omega)
      obtain ⟨q2, l2, m1, m2, m3, m4⟩ := m247 (scr := scr) (d := d + 5) (M := M1) (W := 13) (lo := 0) (hi := 9) o11 hK hJ a3 a5 (by omega) (by omega) (by omega)
      have e235 := m235 (scr := scr) (d := d + 7) (J := J) (M := M1) o11 a5.2.2.2.1
      have eM2 : hs_C scr (d + 9) 251 [.ref 140] (hs_S0, hs_z J 140 q, hs_z M 140 l, R) = hs_R scr (d + 9) 251 19 [some (.ref 140), some (.int (nI nr)), none] [.int (if okW K V (j + 2) 13 0 9 then nI (V (j + 2 + 1)) else 0)] (hs_S0, hs_z J 140 q2, hs_z M1 140 l2, R) := by
        rw [eM, a2]
        simp only [Option.bind_some, Option.toList_some, List.append_nil]
        rw [b251_7 o11, e235]
        simp only [Option.bind_some, Option.toList_some, List.cons_append, List.nil_append]
        rw [b251_13 o11]
        exact (congrArg (fun z => Option.bind z _) m1).trans rfl
      have eX2 : hs_C scr (d + 8) 60 [.ref 10] (hs_S0, I, L, R') = hs_R scr (d + 8) 60 43 [some (.ref 10), some (.int (nI nr))] [.int (if okW K V (j + 2) 13 0 9 then 1 else 0)] (hs_S0, I2, L2, R') := by
        rw [eX, a1]
        simp only [Option.bind_some, Option.toList_some, List.append_nil]
        rw [b60_31 o7, if_neg (by decide), show (13 : Int32) = nI 13 from rfl, show (0 : Int32) = nI 0 from rfl, show (9 : Int32) = nI 9 from rfl, x1]; rfl
      by_cases gw : okW K V (j + 2) 13 0 9
      · obtain ⟨tC, cU⟩ := w1 gw
        have hm2 := m3 gw
        have hj4 : j + 4 < N := hK.2.2.2.2.1 (j + 3) (hK.2.2.2.2.1 (j + 2) a3 (by have := gw.1; omega)) (by have : K (j + 3) = 32 := gw.2.1; omega)
        have hv : V (j + 3) ≤ 9 := gw.2.2.2
        have hT2 : TC N K A V (j + 4) (hs_u (hs_u I2 (t + 12) nr (nI (V (j + 3)))) t 9 (nI (nr + 1))) L2 := TC_r tC (fun k hk => by simp (disch := omega) only [hu_same, hu_row, hu_at, hu_hu]) rfl
        obtain ⟨I3, L3, z1, z2, z3, z4, z5⟩ := x49 (scr := scr) (d := d + 6) (W := 33) (R := R') o8 hK hT2 hj4 (by omega)
        have eI2 : I2 t 9 = nI nr := by simp (disch := omega) only [y1.1, f1]; exact eI
        have eJ : J 145 1598 = nI nr := sU.2.1
        have hq25 : q2 25 = tld o g := (m2.1 25 (by omega)).trans ((f4.1 25 (by omega)).trans sq)
        have hcc : ∀ s, s < 5 → sl5 n np (nr + 1) nl nb s = up (sl5 n np nr nl nb) 2 (nr + 1) s := by intro s hs; rcases (show s = 0 ∨ s = 1 ∨ s = 2 ∨ s = 3 ∨ s = 4 by omega) with rfl | rfl | rfl | rfl | rfl <;> first | rfl | (rw [up_s]; rfl)
        have hSP : SP n np (nr + 1) nl nb nq o g t (hs_u (hs_u I2 (t + 12) nr (nI (V (j + 3)))) t 9 (nI (nr + 1))) L2 (hs_u (hs_u J 145 (1648 + nr) (nI (V (j + 3)))) 145 1598 (nI (nr + 1))) M1 q2 := by
          refine ⟨RH_cg sH (fun k hk => by simp (disch := omega) only [hu_same, hu_row, hu_at, hu_hu]) (by simp (disch := omega) only [hu_same, hu_row, hu_at, hu_hu, y1.1, f1]) (by simp (disch := omega) only [hu_same, hu_row, hu_at, hu_hu, y1.1, f1]) (by simp (disch := omega) only [hu_same, hu_row, hu_at, hu_hu, y1.1, f1]) (by simp (disch := omega) only [hu_same, hu_row, hu_at, hu_hu, y1.1, f1]) (by simp (disch := omega) only [hu_same, hu_row, hu_at, hu_hu, y1.1, f1]), RP_cg sP (fun k hk => by simp (disch := omega) only [hu_same, hu_row, hu_at, hu_hu]) (by simp (disch := omega) only [hu_same, hu_row, hu_at, hu_hu, y1.1, f1]) (by simp (disch := omega) only [hu_same, hu_row, hu_at, hu_hu, y1.1, f1]) (by simp (disch := omega) only [hu_same, hu_row, hu_at, hu_hu, y1.1, f1]), ?_, RLk_cg sL (fun k hk => by simp (disch := omega) only [hu_same, hu_row, hu_at, hu_hu]) (by simp (disch := omega) only [hu_same, hu_row, hu_at, hu_hu, y1.1, f1]) (by simp (disch := omega) only [hu_same, hu_row, hu_at, hu_hu, y1.1, f1]), RB_cg sB (fun k hk => by simp (disch := omega) only [hu_same, hu_row, hu_at, hu_hu]) (by simp (disch := omega) only [hu_same, hu_row, hu_at, hu_hu, y1.1, f1]) (by simp (disch := omega) only [hu_same, hu_row, hu_at, hu_hu, y1.1, f1]) (by simp (disch := omega) only [hu_same, hu_row, hu_at, hu_hu, y1.1, f1]) (by simp (disch := omega) only [hu_same, hu_row, hu_at, hu_hu, y1.1, f1]), RD_cg sD (fun k hk => by simp (disch := omega) only [hu_same, hu_row, hu_at, hu_hu]) (by simp (disch := omega) only [hu_same, hu_row, hu_at, hu_hu, y1.1, f1]) (by simp (disch := omega) only [hu_same, hu_row, hu_at, hu_hu, y1.1, f1]) (by simp (disch := omega) only [hu_same, hu_row, hu_at, hu_hu, y1.1, f1]) (by simp (disch := omega) only [hu_same, hu_row, hu_at, hu_hu, y1.1, f1]), RN_cg (RN_cn a6 hcc) (fun k hk => rfl) (by simp (disch := omega) only [hu_same, hu_row, hu_at, hu_hu, y1.1, f1]) (by simp (disch := omega) only [hu_same, hu_row, hu_at, hu_hu, y1.1, f1]) (by simp (disch := omega) only [hu_same, hu_row, hu_at, hu_hu, y1.1, f1]) (by simp (disch := omega) only [y1.2.1]), Z0_cg sZ (fun k hk => by simp (disch := omega) only [hu_same, hu_row, hu_at, hu_hu]), by simp (disch := omega) only [hu_same, hu_row, hu_at, hu_hu, y1.1, f1]; exact so, by simp (disch := omega) only [hu_same, hu_row, hu_at, hu_hu, y1.1, f1]; exact sg, hq25⟩
          obtain ⟨b1, b2, b3, b4⟩ := sU
          refine ⟨by omega, hu_same _ _ _ _, hu_same _ _ _ _, fun k hk => ?_⟩
          show hs_u (hs_u I2 (t + 12) nr (nI (V (j + 3)))) t 9 (nI (nr + 1)) (t + 12) k = hs_u (hs_u J 145 (1648 + nr) (nI (V (j + 3)))) 145 1598 (nI (nr + 1)) 145 (1596 + (52 + k)) ∧ bd (hs_u (hs_u J 145 (1648 + nr) (nI (V (j + 3)))) 145 1598 (nI (nr + 1)) 145 (1596 + (52 + k))) 9
          by_cases gk : k = nr
          · subst gk
            rw [show 1596 + (52 + k) = 1648 + k by omega]
            simp (disch := omega) only [hu_same, hu_row, hu_at, hu_hu]
            exact ⟨trivial, _, hv, rfl⟩
          · simp (disch := omega) only [hu_same, hu_row, hu_at, hu_hu, y1.1, f1]
            exact b4 k (by omega)
        refine ⟨I3, L3, hs_u (hs_u J 145 (1648 + nr) (nI (V (j + 3)))) 145 1598 (nI (nr + 1)), q2, M1, l2, FX_tr hF1 (FX_tr (FX_4 y1) (FX_tr ⟨fun k a b c => by simp (disch := omega) only [hu_same, hu_row, hu_at, hu_hu], fun _ _ _ => rfl, by simp (disch := omega) only [hu_same, hu_row, hu_at, hu_hu]⟩ (FX_4 z2))), FM_tr (FM_q (T140_tr f4 m2)) (FM_tr (FM_M f5 f6) (FM_tr (FM_J (by omega)) (FM_J (by omega)))), ?_, Or.inl ⟨j + 4, by omega, hj4, hm2, ?_, fun q => ⟨z3 q, n, np, nr + 1, nl, nb, nq, o, g, SP_4 (by omega) hSP z2 rfl⟩, z5⟩⟩
        · rw [eM2, if_pos gw, b251_19 o11, hz_s, hm2.2.2.2.2, if_pos (by decide), ad1648, if_pos (ib_nI (by omega) (by omega)), nI_clamp (by omega), show (140 + 5 : Nat) = 145 from rfl, hz_cm _ _ _ (by omega), hz_cm _ _ _ (by omega), hz_row _ _ (by omega), hu_at _ _ (by omega), eJ, nI_1]
        · rw [eX2, if_pos gw, b60_43 o7 r1 o4 r0 o8, if_neg (by decide), x50 o8 cU]
          simp only [Option.bind_some, Option.toList_some, List.cons_append, List.nil_append]
          rw [b60_63 (S := hs_S0) (u0 := t + 12) (n_u0 := 6) (a_u0 := o4.2.2.2.2.2.2.2.2.2.2.2.1) (o_t0 := o7) (e_t0_1 := r1) (o_t0_1 := o4) (e_t0_0 := r0) (o_t0_0 := o8), if_pos (ib_nI (by omega) (by omega)), nI_clamp (by omega), hu_row _ _ (by omega), eI2, nI_1, show (33 : Int32) = nI 33 from rfl, z1]
          simp only [Option.bind_some, Option.toList_some, Option.toList_none, List.append_nil, List.cons_append, List.nil_append, ↓reduceIte, true_or, or_true, Nat.reduceAdd, Nat.add_assoc]
          rw [b60_86, ib01]
      · refine ⟨I2, L2, J, q2, M1, l2, FX_tr hF1 (FX_4 y1), FM_tr (FM_q (T140_tr f4 m2)) (FM_M f5 f6), ?_, Or.inr ⟨_, _, ?_, v1 gw, m4 gw⟩⟩
        · rw [eM2, if_neg gw, b251_19 o11, hz_s, if_neg (BM_n (m4 gw)).1]
        · rw [eX2, if_neg gw, b60_43 o7 r1 o4 r0 o8, if_pos rfl, b60_46]
    · refine ⟨I1, L1, J, q1, M1, l1, hF1, FM_tr (FM_q f4) (FM_M f5 f6), ?_, Or.inr ⟨c, a, ?_, a2, a4⟩⟩
      · rw [eM, a3]
        simp only [Option.bind_some, Option.toList_some, List.append_nil]
        exact eMb a4
      · rw [eX, a1]
        simp only [Option.bind_some, Option.toList_some, Option.toList_none, List.append_nil, List.cons_append, List.nil_append, ↓reduceIte, true_or, or_true, Nat.reduceAdd, Nat.add_assoc]
        rw [b60_31 o7, if_pos rfl, b60_46]
  · have e6 : nr = 6 := by omega
    obtain ⟨q1, a1, a2, a3⟩ := m227f (scr := scr) (d := d + 6) (s := 2) (most := 6) (J := J) (M := M) o11 hM (by omega) (by rw [hcnt 2 (by omega), sl5_2, e6])
    obtain ⟨I1, z1, z2, z3, z4⟩ := x47 (scr := scr) (d := d + 7) (c := 6) (R := R') o8 hC hkj
    rw [fk_n hk] at z2
    refine ⟨I1, L, J, q1, M, l, FX_4 z3, FM_q a3, ?_, Or.inr ⟨6, A j, ?_, z2, a2⟩⟩
    · rw [eM, a1]
      simp only [Option.bind_some, Option.toList_some, List.append_nil]
      exact eMb a2
    · rw [e60, b60_0 o7 r1 o4 r0 o8, eI, if_neg (show ¬ nI nr < (6 : Int32) from nI_nlt (a := nr) (b := 6) (by omega) (by omega)), show (6 : Int32) = nI 6 from rfl, z1]
      simp only [Option.bind_some, Option.toList_some, Option.toList_none, List.append_nil, List.cons_append, List.nil_append, ↓reduceIte, true_or, or_true, Nat.reduceAdd, Nat.add_assoc]
      rw [b60_23]; rfl
theorem rdParty (hP : PH E N B K A V H R R' t j I L J q M l n np nr nl nb nq o g) (hk : K j ≠ 38) : PRes scr (d + 8) (d + 9) E N B K A V H R R' t j 59 250 [] I L J q M l := by
  obtain ⟨o11, o7, r0, r1, o8, o4, ht, hK, hJ, hj, hT, hC, hM, hS⟩ := hP; obtain ⟨hcn, hcnt⟩ := SP_cnb hS; have hkj := (hK.2.2.2.2.2 j (by omega)).1; obtain ⟨sH, sP, sU, sL, sB, sD, sN, sZ, so, sg, sq⟩ := id hS
  have hnr := sP.1
  have eI : I t 8 = nI np := sP.2.2.1
  have eM : hs_C scr (d + 9) 250 [.ref 140] (hs_S0, hs_z J 140 q, hs_z M 140 l, R) = ((hs_C scr (d + 8) 227 [.ref 140, .int (nI 1), .int (nI 5)] (hs_S0, hs_z J 140 q, hs_z M 140 l, R)).bind fun o => hs_R scr (d + 9) 250 6 [some (.ref 140), none, none, none] (o.1.toList ++ []) o.2) := by
    rw [e250, b250_0 o11]; rfl
  have eMb2 : ∀ {q1 : Nat → Int32} {l1 : Nat → Int64} {M1 : Nat → Nat → Int64} {x y : Int32} {c a : Nat}, BM c a q1 → hs_R scr (d + 9) 250 18 [some (.ref 140), some (.int x), none, none] [.int y] (hs_S0, hs_z J 140 q1, hs_z M1 140 l1, R) = some (none, (hs_S0, hs_z J 140 q1, hs_z M1 140 l1, R)) := by
    intro q1 l1 M1 x y c a hb
    obtain ⟨b, h1, h2⟩ := m233g (scr := scr) (d := d + 7) (q := q1) (l := l1) (J := J) (M := M1) o11
    rw [b250_18 o11, h1]
    simp only [Option.bind_some, Option.toList_some, Option.toList_none, List.append_nil, List.cons_append, List.nil_append, ↓reduceIte, true_or, or_true, Nat.reduceAdd, Nat.add_assoc]
    rw [b250_24 o11, m247b (d := d + 6) o11 hb]
    simp only [Option.bind_some, Option.toList_some, Option.toList_none, List.append_nil, List.cons_append, List.nil_append, ↓reduceIte, true_or, or_true, Nat.reduceAdd, Nat.add_assoc]
    rw [b250_30 o11, hz_s, if_neg (BM_n hb).1]
  have eMb : ∀ {q1 : Nat → Int32} {l1 : Nat → Int64} {M1 : Nat → Nat → Int64} {x : Int32} {c a : Nat}, BM c a q1 → hs_R scr (d + 9) 250 6 [some (.ref 140), none, none, none] [.int x] (hs_S0, hs_z J 140 q1, hs_z M1 140 l1, R) = some (none, (hs_S0, hs_z J 140 q1, hs_z M1 140 l1, R)) := by
    intro q1 l1 M1 x c a hb
    obtain ⟨b, h1, h2⟩ := m232g (scr := scr) (d := d + 7) (q := q1) (l := l1) (J := J) (M := M1) o11
    rw [b250_6 o11, h1]
    simp only [Option.bind_some, Option.toList_some, Option.toList_none, List.append_nil, List.cons_append, List.nil_append, ↓reduceIte, true_or, or_true, Nat.reduceAdd, Nat.add_assoc]
    rw [b250_12 o11, m247b (d := d + 6) o11 hb]
    simp only [Option.bind_some, Option.toList_some, Option.toList_none, List.append_nil, List.cons_append, List.nil_append, ↓reduceIte, true_or, or_true, Nat.reduceAdd, Nat.add_assoc]
    exact eMb2 hb
  by_cases g6 : np < 5
  · have e4 : sl5 n np nr nl nb 1 = np := sl5_1
    have hcn' : cnb (up (sl5 n np nr nl nb) 1 (sl5 n np nr nl nb 1 + 1)) := by
      obtain ⟨b0, b1, b2, b3, b4⟩ := hcn
      exact ⟨b0, by rw [up_s, e4]; omega, b2, b3, b4⟩
    obtain ⟨I1, L1, q1, l1, M1, f1, f2, f3, f4, f5, f6, hor⟩ := jNew (scr := scr) (d := d + 4) (dm := d + 2) (s := 1) (most := 5) o11 o7 r0 r1 o8 o4 (by omega) (by omega) hK hJ hj hT hM (by omega) hcn hcn' hcnt sN (by rw [e4]; exact g6) (by omega)
    rw [e4] at hor
    have eX : hs_C scr (d + 8) 59 [.ref 10] (hs_S0, I, L, R') = ((hs_C scr (d + 7) 53 [.ref 10, .int (kd 1), .int (nI np)] (hs_S0, I, L, R')).bind fun o => hs_R scr (d + 8) 59 30 [some (.ref 10), some (.int (nI np))] (o.1.toList ++ []) o.2) := by
      rw [e59, b59_0 o7 r1 o4 r0 o8, eI, if_pos (show nI np < (5 : Int32) from nI_lt (b := 5) g6 (by omega))]; rfl
    have hF1 : FX t I L I1 L1 := ⟨fun k a b c => f1 k a (by omega) (by omega) (by omega), fun k a b => f2 k a b, f3⟩
    rcases hor with ⟨a1, a2, a3, a4, a5, a6⟩ | ⟨c, a, a1, a2, a3, a4⟩
    · obtain ⟨I2, L2, x1, y1, w1, v1⟩ := x56 (scr := scr) (d := d + 4) (W := 10) (lo := 1) (hi := 99) o7 r0 o8 hK a4 a3 (by omega) (by omega) (by omega)
      obtain ⟨q2, l2, m1, m2, m3, m4⟩ := m247 (scr := scr) (d := d + 5) (M := M1) (W := 10) (lo := 1) (hi := 99) o11 hK hJ a3 a5 (by omega) (by omega) (by omega)
      have e232 := m232 (scr := scr) (d := d + 7) (J := J) (M := M1) o11 a5.2.2.2.1
      have eM2 : hs_C scr (d + 9) 250 [.ref 140] (hs_S0, hs_z J 140 q, hs_z M 140 l, R) = hs_R scr (d + 9) 250 18 [some (.ref 140), some (.int (nI np)), none, none] [.int (if okW K V (j + 2) 10 1 99 then nI (V (j + 2 + 1)) else 0)] (hs_S0, hs_z J 140 q2, hs_z M1 140 l2, R) := by
        rw [eM, a2]
        simp only [Option.bind_some, Option.toList_some, List.append_nil]
        rw [b250_6 o11, e232]
        simp only [Option.bind_some, Option.toList_some, List.cons_append, List.nil_append]
        rw [b250_12 o11]
        exact (congrArg (fun z => Option.bind z _) m1).trans rfl
      have eX2 : hs_C scr (d + 8) 59 [.ref 10] (hs_S0, I, L, R') = hs_R scr (d + 8) 59 42 [some (.ref 10), some (.int (nI np))] [.int (if okW K V (j + 2) 10 1 99 then 1 else 0)] (hs_S0, I2, L2, R') := by
        rw [eX, a1]
        simp only [Option.bind_some, Option.toList_some, List.append_nil]
        rw [b59_30 o7, if_neg (by decide)]
        exact (congrArg (fun z => Option.bind z _) x1).trans rfl
      by_cases gw : okW K V (j + 2) 10 1 99
      · obtain ⟨tC, cU⟩ := w1 gw
        have hm2 := m3 gw
        have hj4 : j + 4 < N := hK.2.2.2.2.1 (j + 3) (hK.2.2.2.2.1 (j + 2) a3 (by have := gw.1; omega)) (by have : K (j + 3) = 32 := gw.2.1; omega)
        have hv : 1 ≤ V (j + 3) ∧ V (j + 3) ≤ 99 := gw.2.2
        have hT2 : TC N K A V (j + 4) (hs_u I2 (t + 10) np (nI (V (j + 3)))) L2 := TC_r tC (fun k hk => by simp (disch := omega) only [hu_same, hu_row, hu_at, hu_hu]) rfl
        obtain ⟨I3, L3, x2, y2, w2, v2⟩ := x56 (scr := scr) (d := d + 4) (W := 11) (lo := 0) (hi := 99) o7 r0 o8 hK hT2 hj4 (by omega) (by omega) (by omega)
        obtain ⟨q3, l3, n1, n2, n3, n4⟩ := m247 (scr := scr) (d := d + 5) (M := M1) (W := 11) (lo := 0) (hi := 99) o11 hK hJ hj4 hm2 (by omega) (by omega) (by omega)
        have e233 := m233 (scr := scr) (d := d + 7) (J := J) (M := M1) o11 hm2.2.2.2.1
        have eM3 : hs_C scr (d + 9) 250 [.ref 140] (hs_S0, hs_z J 140 q, hs_z M 140 l, R) = hs_R scr (d + 9) 250 30 [some (.ref 140), some (.int (nI np)), some (.int (nI (V (j + 3)))), none] [.int (if okW K V (j + 4) 11 0 99 then nI (V (j + 4 + 1)) else 0)] (hs_S0, hs_z J 140 q3, hs_z M1 140 l3, R) := by
          rw [eM2, if_pos gw, b250_18 o11, e233]
          simp only [Option.bind_some, Option.toList_some, List.cons_append, List.nil_append]
          rw [b250_24 o11]
          exact (congrArg (fun z => Option.bind z _) n1).trans rfl
        have eX3 : hs_C scr (d + 8) 59 [.ref 10] (hs_S0, I, L, R') = hs_R scr (d + 8) 59 72 [some (.ref 10), some (.int (nI np))] [.int (if okW K V (j + 4) 11 0 99 then 1 else 0)] (hs_S0, I3, L3, R') := by
          rw [eX2, if_pos gw, b59_42 o7 r1 o4 r0 o8, if_neg (by decide), x50 o8 cU]
          simp only [Option.bind_some, Option.toList_some, List.cons_append, List.nil_append]
          rw [b59_62 (S := hs_S0) (u0 := t + 10) (n_u0 := 5) (a_u0 := o4.2.2.2.2.2.2.2.1) (o_t0 := o7), if_pos (ib_nI (by omega) (by omega)), nI_clamp (by omega)]
          exact (congrArg (fun z => Option.bind z _) x2).trans rfl
        have hF2 : FX t I L I3 L3 := FX_tr hF1 (FX_tr (FX_4 y1) (FX_tr ⟨fun k a b c => by simp (disch := omega) only [hu_same, hu_row, hu_at, hu_hu], fun _ _ _ => rfl, by simp (disch := omega) only [hu_same, hu_row, hu_at, hu_hu]⟩ (FX_4 y2)))
        have hT14 := T140_tr f4 (T140_tr m2 n2)
        by_cases gx : okW K V (j + 4) 11 0 99
        · obtain ⟨tC2, cU2⟩ := w2 gx
          have hm3 := n3 gx
          have hj6 : j + 6 < N := hK.2.2.2.2.1 (j + 5) (hK.2.2.2.2.1 (j + 4) hj4 (by have := gx.1; omega)) (by have : K (j + 5) = 32 := gx.2.1; omega)
          have hv2 : V (j + 5) ≤ 99 := gx.2.2.2
          have hT3 : TC N K A V (j + 6) (hs_u (hs_u I3 (t + 11) np (nI (V (j + 5)))) t 8 (nI (np + 1))) L3 := TC_r tC2 (fun k hk => by simp (disch := omega) only [hu_same, hu_row, hu_at, hu_hu]) rfl
          obtain ⟨I4, L4, z1, z2, z3, z4, z5⟩ := x49 (scr := scr) (d := d + 6) (W := 33) (R := R') o8 hK hT3 hj6 (by omega)
          have eI3 : I3 t 8 = nI np := by simp (disch := omega) only [y2.1, hu_same, hu_row, hu_at, hu_hu, y1.1, f1]; exact eI
          have eJ : J 145 1597 = nI np := sP.2.1
          have hq25 : q3 25 = tld o g := (hT14.1 25 (by omega)).trans sq
          have hcc : ∀ s, s < 5 → sl5 n (np + 1) nr nl nb s = up (sl5 n np nr nl nb) 1 (np + 1) s := by intro s hs; rcases (show s = 0 ∨ s = 1 ∨ s = 2 ∨ s = 3 ∨ s = 4 by omega) with rfl | rfl | rfl | rfl | rfl <;> first | rfl | (rw [up_s]; rfl)
          have hSP : SP n (np + 1) nr nl nb nq o g t (hs_u (hs_u I3 (t + 11) np (nI (V (j + 5)))) t 8 (nI (np + 1))) L3 (hs_u (hs_u (hs_u J 145 (1638 + np) (nI (V (j + 3)))) 145 (1643 + np) (nI (V (j + 5)))) 145 1597 (nI (np + 1))) M1 q3 := by
            refine ⟨RH_cg sH (fun k hk => by simp (disch := omega) only [hu_same, hu_row, hu_at, hu_hu]) (by simp (disch := omega) only [hu_same, hu_row, hu_at, hu_hu, y2.1, y1.1, f1]) (by simp (disch := omega) only [hu_same, hu_row, hu_at, hu_hu, y2.1, y1.1, f1]) (by simp (disch := omega) only [hu_same, hu_row, hu_at, hu_hu, y2.1, y1.1, f1]) (by simp (disch := omega) only [hu_same, hu_row, hu_at, hu_hu, y2.1, y1.1, f1]) (by simp (disch := omega) only [hu_same, hu_row, hu_at, hu_hu, y2.1, y1.1, f1]), ?_, RU0_cg sU (fun k hk => by simp (disch := omega) only [hu_same, hu_row, hu_at, hu_hu]) (by simp (disch := omega) only [hu_same, hu_row, hu_at, hu_hu, y2.1, y1.1, f1]) (by simp (disch := omega) only [hu_same, hu_row, hu_at, hu_hu, y2.1, y1.1, f1]), RLk_cg sL (fun k hk => by simp (disch := omega) only [hu_same, hu_row, hu_at, hu_hu]) (by simp (disch := omega) only [hu_same, hu_row, hu_at, hu_hu, y2.1, y1.1, f1]) (by simp (disch := omega) only [hu_same, hu_row, hu_at, hu_hu, y2.1, y1.1, f1]), RB_cg sB (fun k hk => by simp (disch := omega) only [hu_same, hu_row, hu_at, hu_hu]) (by simp (disch := omega) only [hu_same, hu_row, hu_at, hu_hu, y2.1, y1.1, f1]) (by simp (disch := omega) only [hu_same, hu_row, hu_at, hu_hu, y2.1, y1.1, f1]) (by simp (disch := omega) only [hu_same, hu_row, hu_at, hu_hu, y2.1, y1.1, f1]) (by simp (disch := omega) only [hu_same, hu_row, hu_at, hu_hu, y2.1, y1.1, f1]), RD_cg sD (fun k hk => by simp (disch := omega) only [hu_same, hu_row, hu_at, hu_hu]) (by simp (disch := omega) only [hu_same, hu_row, hu_at, hu_hu, y2.1, y1.1, f1]) (by simp (disch := omega) only [hu_same, hu_row, hu_at, hu_hu, y2.1, y1.1, f1]) (by simp (disch := omega) only [hu_same, hu_row, hu_at, hu_hu, y2.1, y1.1, f1]) (by simp (disch := omega) only [hu_same, hu_row, hu_at, hu_hu, y2.1, y1.1, f1]), RN_cg (RN_cn a6 hcc) (fun k hk => rfl) (by simp (disch := omega) only [hu_same, hu_row, hu_at, hu_hu, y2.1, y1.1, f1]) (by simp (disch := omega) only [hu_same, hu_row, hu_at, hu_hu, y2.1, y1.1, f1]) (by simp (disch := omega) only [hu_same, hu_row, hu_at, hu_hu, y2.1, y1.1, f1]) (by simp (disch := omega) only [y2.2.1, y1.2.1]), Z0_cg sZ (fun k hk => by simp (disch := omega) only [hu_same, hu_row, hu_at, hu_hu]), by simp (disch := omega) only [hu_same, hu_row, hu_at, hu_hu, y2.1, y1.1, f1]; exact so, by simp (disch := omega) only [hu_same, hu_row, hu_at, hu_hu, y2.1, y1.1, f1]; exact sg, hq25⟩
            obtain ⟨b1, b2, b3, b4⟩ := sP
            refine ⟨by omega, hu_same _ _ _ _, hu_same _ _ _ _, fun k hk => ?_⟩
            show hs_u (hs_u I3 (t + 11) np (nI (V (j + 5)))) t 8 (nI (np + 1)) (t + 10) k = hs_u (hs_u (hs_u J 145 (1638 + np) (nI (V (j + 3)))) 145 (1643 + np) (nI (V (j + 5)))) 145 1597 (nI (np + 1)) 145 (1596 + (42 + k)) ∧ hs_u (hs_u I3 (t + 11) np (nI (V (j + 5)))) t 8 (nI (np + 1)) (t + 11) k = hs_u (hs_u (hs_u J 145 (1638 + np) (nI (V (j + 3)))) 145 (1643 + np) (nI (V (j + 5)))) 145 1597 (nI (np + 1)) 145 (1596 + (47 + k)) ∧ bd (hs_u (hs_u (hs_u J 145 (1638 + np) (nI (V (j + 3)))) 145 (1643 + np) (nI (V (j + 5)))) 145 1597 (nI (np + 1)) 145 (1596 + (42 + k))) 99 ∧ hs_u (hs_u (hs_u J 145 (1638 + np) (nI (V (j + 3)))) 145 (1643 + np) (nI (V (j + 5)))) 145 1597 (nI (np + 1)) 145 (1596 + (42 + k)) ≠ 0 ∧ bd (hs_u (hs_u (hs_u J 145 (1638 + np) (nI (V (j + 3)))) 145 (1643 + np) (nI (V (j + 5)))) 145 1597 (nI (np + 1)) 145 (1596 + (47 + k))) 99
            by_cases gk : k = np
            · subst gk
              rw [show 1596 + (42 + k) = 1638 + k by omega, show 1596 + (47 + k) = 1643 + k by omega]
              simp (disch := omega) only [hu_same, hu_row, hu_at, hu_hu, y2.1]
              exact ⟨trivial, trivial, ⟨_, hv.2, rfl⟩, nI_ne0 (by omega) (by omega), _, hv2, rfl⟩
            · simp (disch := omega) only [hu_same, hu_row, hu_at, hu_hu, y2.1, y1.1, f1]
              exact b4 k (by omega)
          refine ⟨I4, L4, hs_u (hs_u (hs_u J 145 (1638 + np) (nI (V (j + 3)))) 145 (1643 + np) (nI (V (j + 5)))) 145 1597 (nI (np + 1)), q3, M1, l3, FX_tr hF2 (FX_tr ⟨fun k a b c => by simp (disch := omega) only [hu_same, hu_row, hu_at, hu_hu], fun _ _ _ => rfl, by simp (disch := omega) only [hu_same, hu_row, hu_at, hu_hu]⟩ (FX_4 z2)), FM_tr (FM_q hT14) (FM_tr (FM_M f5 f6) (FM_tr (FM_J (by omega)) (FM_tr (FM_J (by omega)) (FM_J (by omega))))), ?_, Or.inl ⟨j + 6, by omega, hj6, hm3, ?_, fun q => ⟨z3 q, n, np + 1, nr, nl, nb, nq, o, g, SP_4 (by omega) hSP z2 rfl⟩, z5⟩⟩
          · rw [eM3, if_pos gx, b250_30 o11, hz_s, hm3.2.2.2.2, if_pos (by decide), ad1638, ad1643, if_pos (ib_nI (by omega) (by omega)), if_pos (ib_nI (by omega) (by omega)), nI_clamp (by omega), nI_clamp (by omega), show (140 + 5 : Nat) = 145 from rfl, hz_cm _ _ _ (by omega), hz_cm _ _ _ (by omega), hz_cm _ _ _ (by omega), hz_row _ _ (by omega), hu_at _ _ (by omega), hu_at _ _ (by omega), eJ, nI_1]
          · rw [eX3, if_pos gx, b59_72 o7 r1 o4 r0 o8, if_neg (by decide), x50 o8 cU2]
            simp only [Option.bind_some, Option.toList_some, List.cons_append, List.nil_append]
            rw [b59_92 (S := hs_S0) (u0 := t + 11) (n_u0 := 5) (a_u0 := o4.2.2.2.2.2.2.2.2.2.1) (o_t0 := o7) (e_t0_1 := r1) (o_t0_1 := o4) (e_t0_0 := r0) (o_t0_0 := o8), if_pos (ib_nI (by omega) (by omega)), nI_clamp (by omega), hu_row _ _ (by omega), eI3, nI_1, show (33 : Int32) = nI 33 from rfl, z1]
            simp only [Option.bind_some, Option.toList_some, Option.toList_none, List.append_nil, List.cons_append, List.nil_append, ↓reduceIte, true_or, or_true, Nat.reduceAdd, Nat.add_assoc]
            rw [b59_115, ib01]
        · refine ⟨I3, L3, J, q3, M1, l3, hF2, FM_tr (FM_q hT14) (FM_M f5 f6), ?_, Or.inr ⟨_, _, ?_, v2 gx, n4 gx⟩⟩
          · rw [eM3, if_neg gx, b250_30 o11, hz_s, if_neg (BM_n (n4 gx)).1]
          · rw [eX3, if_neg gx, b59_72 o7 r1 o4 r0 o8, if_pos rfl]
      · refine ⟨I2, L2, J, q2, M1, l2, FX_tr hF1 (FX_4 y1), FM_tr (FM_q (T140_tr f4 m2)) (FM_M f5 f6), ?_, Or.inr ⟨_, _, ?_, v1 gw, m4 gw⟩⟩
        · rw [eM2]; exact eMb2 (m4 gw)
        · rw [eX2, if_neg gw, b59_42 o7 r1 o4 r0 o8, if_pos rfl, b59_45]
    · refine ⟨I1, L1, J, q1, M1, l1, hF1, FM_tr (FM_q f4) (FM_M f5 f6), ?_, Or.inr ⟨c, a, ?_, a2, a4⟩⟩
      · rw [eM, a3]
        simp only [Option.bind_some, Option.toList_some, List.append_nil]
        exact eMb a4
      · rw [eX, a1]
        simp only [Option.bind_some, Option.toList_some, Option.toList_none, List.append_nil, List.cons_append, List.nil_append, ↓reduceIte, true_or, or_true, Nat.reduceAdd, Nat.add_assoc]
        rw [b59_30 o7, if_pos rfl, b59_45]
  · have e6 : np = 5 := by omega
    obtain ⟨q1, a1, a2, a3⟩ := m227f (scr := scr) (d := d + 6) (s := 1) (most := 5) (J := J) (M := M) o11 hM (by omega) (by rw [hcnt 1 (by omega), sl5_1, e6])
    obtain ⟨I1, z1, z2, z3, z4⟩ := x47 (scr := scr) (d := d + 7) (c := 6) (R := R') o8 hC hkj
    rw [fk_n hk] at z2
    refine ⟨I1, L, J, q1, M, l, FX_4 z3, FM_q a3, ?_, Or.inr ⟨6, A j, ?_, z2, a2⟩⟩
    · rw [eM, a1]
      simp only [Option.bind_some, Option.toList_some, List.append_nil]
      exact eMb a2
    · rw [e59, b59_0 o7 r1 o4 r0 o8, eI, if_neg (show ¬ nI np < (5 : Int32) from nI_nlt (a := np) (b := 5) (by omega) (by omega)), show (6 : Int32) = nI 6 from rfl, z1]
      simp only [Option.bind_some, Option.toList_some, Option.toList_none, List.append_nil, List.cons_append, List.nil_append, ↓reduceIte, true_or, or_true, Nat.reduceAdd, Nat.add_assoc]
      rw [b59_22]; rfl
end P2
