/-! parts of a state's text: odds, greys, pair -/
section P3
variable {scr : List Int32} {dX dM d E N j j1 c a k v t s most n np nr nl nb nq : Nat} {o g : Bool} {B K A V H cn : Nat → Nat} {q q' : Nat → Int32} {l l' : Nat → Int64} {w : Nat → Int64} {y : Int64} {I J I' J' : Nat → Nat → Int32} {L M L' M' : Nat → Nat → Int64} {R R' : Nat → Nat → Nat}
theorem ad1703 (k : Nat) : (1703 : Int32) + nI k = nI (1703 + k) := nI_add 1703 k
theorem ad1713 (k : Nat) : (1713 : Int32) + nI k = nI (1713 + k) := nI_add 1713 k
theorem MC_25 {x : Int32} (h : MC E K A V H j q l) : MC E K A V H j (up q 25 x) l := h
theorem rdOdds (hP : PH E N B K A V H R R' t j I L J q M l n np nr nl nb nq o g) (hk : K j ≠ 38) : PRes scr (d + 8) (d + 9) E N B K A V H R R' t j 46 218 [.int 6, .int 0, .int 16] I L J q M l := by
  obtain ⟨o11, o7, r0, r1, o8, o4, ht, hK, hJ, hj, hT, hC, hM, hS⟩ := hP; obtain ⟨hcn, hcnt⟩ := SP_cnb hS; have hkj := (hK.2.2.2.2.2 j (by omega)).1; obtain ⟨sH, sP, sU, sL, sB, sD, sN, sZ, so, sg, sq⟩ := id hS
  have eM : hs_C scr (d + 9) 218 [.ref 140, .int 6, .int 0, .int 16] (hs_S0, hs_z J 140 q, hs_z M 140 l, R) = hs_R scr (d + 9) 218 8 [some (.ref 140), some (.int 6), some (.int 0), some (.int 16)] [.int (if o = true then 1 else 0)] (hs_S0, hs_z J 140 q, hs_z M 140 l, R) := by
    rw [e218, b218_0 o11, hz_s, sq, e219, b219_0]
    cases o <;> cases g
    · rw [if_neg (by decide), b219_14]; rfl
    · rw [if_neg (by decide), b219_14]; rfl
    · rw [if_pos (by decide), b219_14]; rfl
    · rw [if_pos (by decide), b219_14]; rfl
  cases ho : o with
  | true =>
    rw [ho] at eM so
    obtain ⟨I1, z1, z2, z3, z4⟩ := x47 (scr := scr) (d := d + 7) (c := 5) (R := R') o8 hC hkj
    rw [fk_n hk] at z2
    refine ⟨I1, L, J, up (up q 12 (nI 5)) 13 (nI (A j)), M, l, FX_4 z3, FM_q ⟨fun f hf => by rw [up_n _ _ (by omega), up_n _ _ (by omega)], fun _ _ => rfl⟩, ?_, Or.inr ⟨5, A j, ?_, z2, ⟨rfl, rfl, by omega, by omega⟩⟩⟩
    · rw [eM, b218_8 o11, if_neg (by decide), hz_s, hM.2.1, show (5 : Int32) = nI 5 from rfl, m220 o11 hM.2.2.2.2]
      simp only [Option.bind_some, Option.toList_some, Option.toList_none, List.append_nil, List.cons_append, List.nil_append, ↓reduceIte, true_or, or_true, Nat.reduceAdd, Nat.add_assoc]
      rw [b218_20 o11, hz_s, if_neg (show ¬ up (up q 12 (nI 5)) 13 (nI (A j)) 12 ≤ 0 by show ¬ nI 5 ≤ 0; decide)]
    · rw [e46, b46_0 o7 r0 o8, so, if_neg (by decide), show (5 : Int32) = nI 5 from rfl, z1]
      simp only [Option.bind_some, Option.toList_some, Option.toList_none, List.append_nil, List.cons_append, List.nil_append, ↓reduceIte, true_or, or_true, Nat.reduceAdd, Nat.add_assoc]
      rw [b46_15]; rfl
  | false =>
    rw [ho] at eM so sq
    have hT1 : TC N K A V (j + 1) (hs_u I 10 2 1) L := TC_r hT (fun k hk => hu_row _ _ (by omega)) rfl
    obtain ⟨I1, L1, x1, x2, x3, x4, x5⟩ := x48 (scr := scr) (d := d + 5) (lo := 0) (hi := 16) (R := R') o8 hK hT1 hj (by omega) (by omega)
    obtain ⟨q1, l1, e1, m1, f1⟩ := m209a (scr := scr) (d := d + 7) (M := M) o11 hK hJ hj (MC_25 (x := tld true g) hM)
    obtain ⟨q2, l2, e2, f2, m2, m3⟩ := m221 (scr := scr) (d := d + 6) (M := M) (lo := 0) (hi := 16) o11 hK hJ hj m1 (by omega) (by omega)
    have hf : FM J q M l J q2 M l2 := ⟨fun _ _ => rfl, fun _ _ => rfl, fun _ _ => rfl, fun _ _ => rfl, fun f hf => by rw [f2.1 f (by omega), f1.1 f (by omega), up_n _ _ (by omega)], fun f hf => by rw [f2.2 f hf, f1.2 f hf]⟩
    have hq25 : q2 25 = tld true g := by rw [f2.1 25 (by omega), f1.1 25 (by omega)]; rfl
    have hbit : tld false g ||| ((1 : Int32) <<< ((6 : Int32) &&& 31)) = tld true g := by
      cases g <;> decide
    have eM2 : hs_C scr (d + 9) 218 [.ref 140, .int 6, .int 0, .int 16] (hs_S0, hs_z J 140 q, hs_z M 140 l, R) = some (none, (hs_S0, hs_z (hs_u J 145 1602 (if okN K V (j + 1) 0 16 then nI (V (j + 1)) else 0)) 140 q2, hs_z M 140 l2, R)) := by
      rw [eM, b218_8 o11, if_pos (by decide), b218_20 o11, hz_s, hM.2.2.2.2, if_pos (by decide), sq, hz_u, hbit, e1]
      simp only [Option.bind_some, Option.toList_some, Option.toList_none, List.append_nil, List.cons_append, List.nil_append, ↓reduceIte, true_or, or_true, Nat.reduceAdd, Nat.add_assoc]
      rw [b218_44 o11]
      refine (congrArg (fun z => Option.bind z _) e2).trans ?_
      simp only [Option.bind_some, Option.toList_some, List.cons_append, List.nil_append]
      rw [b218_59 (S := hs_S0) (u0 := 145) (n_u0 := 1995) (a_u0 := rfl), if_pos (by decide), hz_cm _ _ _ (by omega)]; rfl
    have eX : hs_C scr (d + 8) 46 [.ref 10] (hs_S0, I, L, R') = hs_R scr (d + 8) 46 31 [some (.ref 10)] [.int (if okN K V (j + 1) 0 16 then 1 else 0)] (hs_S0, I1, L1, R') := by
      rw [e46, b46_0 o7 r0 o8, so, if_pos (by decide)]
      exact (congrArg (fun z => Option.bind z _) x1).trans rfl
    have hF1 : FX t I L I1 L1 := FX_tr ⟨fun k a b c => hu_row _ _ (by omega), fun _ _ _ => rfl, hu_at _ _ (by omega)⟩ (FX_4 x2)
    by_cases gk : okN K V (j + 1) 0 16
    · rw [if_pos gk] at eM2 eX
      have hj2 : j + 2 < N := hK.2.2.2.2.1 (j + 1) hj (by have := gk.1; omega)
      have hv : 0 ≤ V (j + 1) ∧ V (j + 1) ≤ 16 := gk.2
      have hT2 : TC N K A V (j + 2) (hs_u I1 t 13 (nI (V (j + 1)))) L1 := TC_r (x3 gk) (fun k hk => hu_row _ _ (by omega)) rfl
      obtain ⟨I2, L2, z1, z2, z3, z4, z5⟩ := x49 (scr := scr) (d := d + 6) (W := 33) (R := R') o8 hK hT2 hj2 (by omega)
      have hSP : SP n np nr nl nb nq true g t (hs_u I1 t 13 (nI (V (j + 1)))) L1 (hs_u J 145 1602 (nI (V (j + 1)))) M q2 := by
        refine ⟨RH_cg sH (fun k hk => by simp (disch := omega) only [hu_same, hu_row, hu_at, hu_hu]) (by simp (disch := omega) only [hu_same, hu_row, hu_at, hu_hu, x2.1]) (by simp (disch := omega) only [hu_same, hu_row, hu_at, hu_hu, x2.1]) (by simp (disch := omega) only [hu_same, hu_row, hu_at, hu_hu, x2.1]) (by simp (disch := omega) only [hu_same, hu_row, hu_at, hu_hu, x2.1]) (by simp (disch := omega) only [hu_same, hu_row, hu_at, hu_hu, x2.1]), RP_cg sP (fun k hk => by simp (disch := omega) only [hu_same, hu_row, hu_at, hu_hu]) (by simp (disch := omega) only [hu_same, hu_row, hu_at, hu_hu, x2.1]) (by simp (disch := omega) only [hu_same, hu_row, hu_at, hu_hu, x2.1]) (by simp (disch := omega) only [hu_same, hu_row, hu_at, hu_hu, x2.1]), RU0_cg sU (fun k hk => by simp (disch := omega) only [hu_same, hu_row, hu_at, hu_hu]) (by simp (disch := omega) only [hu_same, hu_row, hu_at, hu_hu, x2.1]) (by simp (disch := omega) only [hu_same, hu_row, hu_at, hu_hu, x2.1]), RLk_cg sL (fun k hk => by simp (disch := omega) only [hu_same, hu_row, hu_at, hu_hu]) (by simp (disch := omega) only [hu_same, hu_row, hu_at, hu_hu, x2.1]) (by simp (disch := omega) only [hu_same, hu_row, hu_at, hu_hu, x2.1]), RB_cg sB (fun k hk => by simp (disch := omega) only [hu_same, hu_row, hu_at, hu_hu]) (by simp (disch := omega) only [hu_same, hu_row, hu_at, hu_hu, x2.1]) (by simp (disch := omega) only [hu_same, hu_row, hu_at, hu_hu, x2.1]) (by simp (disch := omega) only [hu_same, hu_row, hu_at, hu_hu, x2.1]) (by simp (disch := omega) only [hu_same, hu_row, hu_at, hu_hu, x2.1]), ?_, RN_cg sN (fun k hk => rfl) (by simp (disch := omega) only [hu_same, hu_row, hu_at, hu_hu, x2.1]) (by simp (disch := omega) only [hu_same, hu_row, hu_at, hu_hu, x2.1]) (by simp (disch := omega) only [hu_same, hu_row, hu_at, hu_hu, x2.1]) (by simp (disch := omega) only [x2.2.1]), Z0_cg sZ (fun k hk => by simp (disch := omega) only [hu_same, hu_row, hu_at, hu_hu]), ?_, ?_, hq25⟩
        · obtain ⟨b1, b2, b3, b4⟩ := sD
          unfold RD
          simp (disch := omega) only [hu_same, hu_row, hu_at, hu_hu, x2.1]
          exact ⟨⟨trivial, _, hv.2, rfl⟩, b2, b3, b4⟩
        · simp (disch := omega) only [hu_same, hu_row, hu_at, hu_hu, x2.1]; rfl
        · simp (disch := omega) only [hu_same, hu_row, hu_at, hu_hu, x2.1]; exact sg
      refine ⟨I2, L2, hs_u J 145 1602 (nI (V (j + 1))), q2, M, l2, FX_tr hF1 (FX_tr ⟨fun k a b c => hu_row _ _ (by omega), fun _ _ _ => rfl, hu_at _ _ (by omega)⟩ (FX_4 z2)), FM_tr hf (FM_J (by omega)), eM2, Or.inl ⟨j + 2, by omega, hj2, m2 gk, ?_, fun q => ⟨z3 q, n, np, nr, nl, nb, nq, true, g, SP_4 (by omega) hSP z2 rfl⟩, z5⟩⟩
      rw [eX, b46_31 o7 r1 o4 r0 o8, if_neg (by decide), x50 o8 x4]
      simp only [Option.bind_some, Option.toList_some, List.cons_append, List.nil_append]
      rw [b46_47 (o_u0 := o4) (o_t0 := o7) (e_t0_0 := r0) (o_t0_0 := o8), show (33 : Int32) = nI 33 from rfl, z1]
      simp only [Option.bind_some, Option.toList_some, Option.toList_none, List.append_nil, List.cons_append, List.nil_append, ↓reduceIte, true_or, or_true, Nat.reduceAdd, Nat.add_assoc]
      rw [b46_59, ib01]
    · rw [if_neg gk] at eM2 eX
      refine ⟨I1, L1, hs_u J 145 1602 0, q2, M, l2, hF1, FM_tr hf (FM_J (by omega)), eM2, Or.inr ⟨_, _, ?_, x5 gk, m3 gk⟩⟩
      rw [eX, b46_31 o7 r1 o4 r0 o8, if_pos rfl]
theorem rdGreys (hP : PH E N B K A V H R R' t j I L J q M l n np nr nl nb nq o g) (hk : K j ≠ 38) : PRes scr (d + 8) (d + 9) E N B K A V H R R' t j 51 218 [.int 7, .int 1, .int 99] I L J q M l := by
  obtain ⟨o11, o7, r0, r1, o8, o4, ht, hK, hJ, hj, hT, hC, hM, hS⟩ := hP; obtain ⟨hcn, hcnt⟩ := SP_cnb hS; have hkj := (hK.2.2.2.2.2 j (by omega)).1; obtain ⟨sH, sP, sU, sL, sB, sD, sN, sZ, so, sg, sq⟩ := id hS
  have eM : hs_C scr (d + 9) 218 [.ref 140, .int 7, .int 1, .int 99] (hs_S0, hs_z J 140 q, hs_z M 140 l, R) = hs_R scr (d + 9) 218 8 [some (.ref 140), some (.int 7), some (.int 1), some (.int 99)] [.int (if g = true then 1 else 0)] (hs_S0, hs_z J 140 q, hs_z M 140 l, R) := by
    rw [e218, b218_0 o11, hz_s, sq, e219, b219_0]
    cases o <;> cases g
    · rw [if_neg (by decide), b219_14]; rfl
    · rw [if_pos (by decide), b219_14]; rfl
    · rw [if_neg (by decide), b219_14]; rfl
    · rw [if_pos (by decide), b219_14]; rfl
  cases hg : g with
  | true =>
    rw [hg] at eM sg
    obtain ⟨I1, z1, z2, z3, z4⟩ := x47 (scr := scr) (d := d + 7) (c := 5) (R := R') o8 hC hkj
    rw [fk_n hk] at z2
    refine ⟨I1, L, J, up (up q 12 (nI 5)) 13 (nI (A j)), M, l, FX_4 z3, FM_q ⟨fun f hf => by rw [up_n _ _ (by omega), up_n _ _ (by omega)], fun _ _ => rfl⟩, ?_, Or.inr ⟨5, A j, ?_, z2, ⟨rfl, rfl, by omega, by omega⟩⟩⟩
    · rw [eM, b218_8 o11, if_neg (by decide), hz_s, hM.2.1, show (5 : Int32) = nI 5 from rfl, m220 o11 hM.2.2.2.2]
      simp only [Option.bind_some, Option.toList_some, Option.toList_none, List.append_nil, List.cons_append, List.nil_append, ↓reduceIte, true_or, or_true, Nat.reduceAdd, Nat.add_assoc]
      rw [b218_20 o11, hz_s, if_neg (show ¬ up (up q 12 (nI 5)) 13 (nI (A j)) 12 ≤ 0 by show ¬ nI 5 ≤ 0; decide)]
    · rw [e51, b51_0 o7 r0 o8, sg, if_neg (by decide), show (5 : Int32) = nI 5 from rfl, z1]
      simp only [Option.bind_some, Option.toList_some, Option.toList_none, List.append_nil, List.cons_append, List.nil_append, ↓reduceIte, true_or, or_true, Nat.reduceAdd, Nat.add_assoc]
      rw [b51_15]; rfl
  | false =>
    rw [hg] at eM sg sq
    have hT1 : TC N K A V (j + 1) (hs_u I 10 3 1) L := TC_r hT (fun k hk => hu_row _ _ (by omega)) rfl
    obtain ⟨I1, L1, x1, x2, x3, x4, x5⟩ := x48 (scr := scr) (d := d + 5) (lo := 1) (hi := 99) (R := R') o8 hK hT1 hj (by omega) (by omega)
    obtain ⟨q1, l1, e1, m1, f1⟩ := m209a (scr := scr) (d := d + 7) (M := M) o11 hK hJ hj (MC_25 (x := tld o true) hM)
    obtain ⟨q2, l2, e2, f2, m2, m3⟩ := m221 (scr := scr) (d := d + 6) (M := M) (lo := 1) (hi := 99) o11 hK hJ hj m1 (by omega) (by omega)
    have hf : FM J q M l J q2 M l2 := ⟨fun _ _ => rfl, fun _ _ => rfl, fun _ _ => rfl, fun _ _ => rfl, fun f hf => by rw [f2.1 f (by omega), f1.1 f (by omega), up_n _ _ (by omega)], fun f hf => by rw [f2.2 f hf, f1.2 f hf]⟩
    have hq25 : q2 25 = tld o true := by rw [f2.1 25 (by omega), f1.1 25 (by omega)]; rfl
    have hbit : tld o false ||| ((1 : Int32) <<< ((7 : Int32) &&& 31)) = tld o true := by
      cases o <;> decide
    have eM2 : hs_C scr (d + 9) 218 [.ref 140, .int 7, .int 1, .int 99] (hs_S0, hs_z J 140 q, hs_z M 140 l, R) = some (none, (hs_S0, hs_z (hs_u J 145 1603 (if okN K V (j + 1) 1 99 then nI (V (j + 1)) else 0)) 140 q2, hs_z M 140 l2, R)) := by
      rw [eM, b218_8 o11, if_pos (by decide), b218_20 o11, hz_s, hM.2.2.2.2, if_pos (by decide), sq, hz_u, hbit, e1]
      simp only [Option.bind_some, Option.toList_some, Option.toList_none, List.append_nil, List.cons_append, List.nil_append, ↓reduceIte, true_or, or_true, Nat.reduceAdd, Nat.add_assoc]
      rw [b218_44 o11]
      refine (congrArg (fun z => Option.bind z _) e2).trans ?_
      simp only [Option.bind_some, Option.toList_some, List.cons_append, List.nil_append]
      rw [b218_59 (S := hs_S0) (u0 := 145) (n_u0 := 1995) (a_u0 := rfl), if_pos (by decide), hz_cm _ _ _ (by omega)]; rfl
    have eX : hs_C scr (d + 8) 51 [.ref 10] (hs_S0, I, L, R') = hs_R scr (d + 8) 51 31 [some (.ref 10)] [.int (if okN K V (j + 1) 1 99 then 1 else 0)] (hs_S0, I1, L1, R') := by
      rw [e51, b51_0 o7 r0 o8, sg, if_pos (by decide)]
      exact (congrArg (fun z => Option.bind z _) x1).trans rfl
    have hF1 : FX t I L I1 L1 := FX_tr ⟨fun k a b c => hu_row _ _ (by omega), fun _ _ _ => rfl, hu_at _ _ (by omega)⟩ (FX_4 x2)
    by_cases gk : okN K V (j + 1) 1 99
    · rw [if_pos gk] at eM2 eX
      have hj2 : j + 2 < N := hK.2.2.2.2.1 (j + 1) hj (by have := gk.1; omega)
      have hv : 1 ≤ V (j + 1) ∧ V (j + 1) ≤ 99 := gk.2
      have hT2 : TC N K A V (j + 2) (hs_u I1 t 14 (nI (V (j + 1)))) L1 := TC_r (x3 gk) (fun k hk => hu_row _ _ (by omega)) rfl
      obtain ⟨I2, L2, z1, z2, z3, z4, z5⟩ := x49 (scr := scr) (d := d + 6) (W := 33) (R := R') o8 hK hT2 hj2 (by omega)
      have hSP : SP n np nr nl nb nq o true t (hs_u I1 t 14 (nI (V (j + 1)))) L1 (hs_u J 145 1603 (nI (V (j + 1)))) M q2 := by
        refine ⟨RH_cg sH (fun k hk => by simp (disch := omega) only [hu_same, hu_row, hu_at, hu_hu]) (by simp (disch := omega) only [hu_same, hu_row, hu_at, hu_hu, x2.1]) (by simp (disch := omega) only [hu_same, hu_row, hu_at, hu_hu, x2.1]) (by simp (disch := omega) only [hu_same, hu_row, hu_at, hu_hu, x2.1]) (by simp (disch := omega) only [hu_same, hu_row, hu_at, hu_hu, x2.1]) (by simp (disch := omega) only [hu_same, hu_row, hu_at, hu_hu, x2.1]), RP_cg sP (fun k hk => by simp (disch := omega) only [hu_same, hu_row, hu_at, hu_hu]) (by simp (disch := omega) only [hu_same, hu_row, hu_at, hu_hu, x2.1]) (by simp (disch := omega) only [hu_same, hu_row, hu_at, hu_hu, x2.1]) (by simp (disch := omega) only [hu_same, hu_row, hu_at, hu_hu, x2.1]), RU0_cg sU (fun k hk => by simp (disch := omega) only [hu_same, hu_row, hu_at, hu_hu]) (by simp (disch := omega) only [hu_same, hu_row, hu_at, hu_hu, x2.1]) (by simp (disch := omega) only [hu_same, hu_row, hu_at, hu_hu, x2.1]), RLk_cg sL (fun k hk => by simp (disch := omega) only [hu_same, hu_row, hu_at, hu_hu]) (by simp (disch := omega) only [hu_same, hu_row, hu_at, hu_hu, x2.1]) (by simp (disch := omega) only [hu_same, hu_row, hu_at, hu_hu, x2.1]), RB_cg sB (fun k hk => by simp (disch := omega) only [hu_same, hu_row, hu_at, hu_hu]) (by simp (disch := omega) only [hu_same, hu_row, hu_at, hu_hu, x2.1]) (by simp (disch := omega) only [hu_same, hu_row, hu_at, hu_hu, x2.1]) (by simp (disch := omega) only [hu_same, hu_row, hu_at, hu_hu, x2.1]) (by simp (disch := omega) only [hu_same, hu_row, hu_at, hu_hu, x2.1]), ?_, RN_cg sN (fun k hk => rfl) (by simp (disch := omega) only [hu_same, hu_row, hu_at, hu_hu, x2.1]) (by simp (disch := omega) only [hu_same, hu_row, hu_at, hu_hu, x2.1]) (by simp (disch := omega) only [hu_same, hu_row, hu_at, hu_hu, x2.1]) (by simp (disch := omega) only [x2.2.1]), Z0_cg sZ (fun k hk => by simp (disch := omega) only [hu_same, hu_row, hu_at, hu_hu]), ?_, ?_, hq25⟩
        · obtain ⟨b1, b2, b3, b4⟩ := sD
          unfold RD
          simp (disch := omega) only [hu_same, hu_row, hu_at, hu_hu, x2.1]
          exact ⟨b1, ⟨trivial, _, hv.1, hv.2, rfl⟩, b3, b4⟩
        · simp (disch := omega) only [hu_same, hu_row, hu_at, hu_hu, x2.1]; exact so
        · simp (disch := omega) only [hu_same, hu_row, hu_at, hu_hu, x2.1]; rfl
      refine ⟨I2, L2, hs_u J 145 1603 (nI (V (j + 1))), q2, M, l2, FX_tr hF1 (FX_tr ⟨fun k a b c => hu_row _ _ (by omega), fun _ _ _ => rfl, hu_at _ _ (by omega)⟩ (FX_4 z2)), FM_tr hf (FM_J (by omega)), eM2, Or.inl ⟨j + 2, by omega, hj2, m2 gk, ?_, fun q => ⟨z3 q, n, np, nr, nl, nb, nq, o, true, SP_4 (by omega) hSP z2 rfl⟩, z5⟩⟩
      rw [eX, b51_31 o7 r1 o4 r0 o8, if_neg (by decide), x50 o8 x4]
      simp only [Option.bind_some, Option.toList_some, List.cons_append, List.nil_append]
      rw [b51_47 (o_u0 := o4) (o_t0 := o7) (e_t0_0 := r0) (o_t0_0 := o8), show (33 : Int32) = nI 33 from rfl, z1]
      simp only [Option.bind_some, Option.toList_some, Option.toList_none, List.append_nil, List.cons_append, List.nil_append, ↓reduceIte, true_or, or_true, Nat.reduceAdd, Nat.add_assoc]
      rw [b51_59, ib01]
    · rw [if_neg gk] at eM2 eX
      refine ⟨I1, L1, hs_u J 145 1603 0, q2, M, l2, hF1, FM_tr hf (FM_J (by omega)), eM2, Or.inr ⟨_, _, ?_, x5 gk, m3 gk⟩⟩
      rw [eX, b51_31 o7 r1 o4 r0 o8, if_pos rfl]
theorem m255 (o11 : ok11 hs_S0 R 140) (hK : TKS E N B K A V H) (hJ : JB E B J) (hj : j + 1 < N) (h : MC E K A V H j q l) {x y z : Int32} (h256 : hs_C scr (d + 2) 256 [.ref 140, .int x, .int y] (hs_S0, hs_z J 140 q, hs_z M 140 l, R) = some (some (.int z), (hs_S0, hs_z J 140 q, hs_z M 140 l, R))) : ∃ q' l', hs_C scr (d + 3) 255 [.ref 140, .int x, .int y] (hs_S0, hs_z J 140 q, hs_z M 140 l, R) = some (some (.int z), (hs_S0, hs_z J 140 q', hs_z M 140 l', R)) ∧ MC E K A V H (j + 1) q' l' ∧ T140 q l q' l' := by
  obtain ⟨q', l', a1, a2, a3⟩ := m248t (scr := scr) (d := d) (M := M) o11 hK hJ hj h
  refine ⟨q', l', ?_, a2, a3⟩
  rw [e255, b255_0 o11, h256]
  simp only [Option.bind_some, Option.toList_some, Option.toList_none, List.append_nil, List.cons_append, List.nil_append, ↓reduceIte, true_or, or_true, Nat.reduceAdd, Nat.add_assoc]
  rw [b255_6 o11, a1]
  simp only [Option.bind_some, Option.toList_some, Option.toList_none, List.append_nil, List.cons_append, List.nil_append, ↓reduceIte, true_or, or_true, Nat.reduceAdd, Nat.add_assoc, b255_12]
theorem m255f (o11 : ok11 hs_S0 R 140) {x y z : Int32} {q1 : Nat → Int32} (h256 : hs_C scr (d + 2) 256 [.ref 140, .int x, .int y] (hs_S0, hs_z J 140 q, hs_z M 140 l, R) = some (some (.int z), (hs_S0, hs_z J 140 q1, hs_z M 140 l, R))) (hb : BM c a q1) : hs_C scr (d + 3) 255 [.ref 140, .int x, .int y] (hs_S0, hs_z J 140 q, hs_z M 140 l, R) = some (some (.int z), (hs_S0, hs_z J 140 q1, hs_z M 140 l, R)) := by
  rw [e255, b255_0 o11, h256]
  simp only [Option.bind_some, Option.toList_some, Option.toList_none, List.append_nil, List.cons_append, List.nil_append, ↓reduceIte, true_or, or_true, Nat.reduceAdd, Nat.add_assoc]
  rw [b255_6 o11, m248b (d := d + 1) o11 hb]
  simp only [Option.bind_some, Option.toList_some, Option.toList_none, List.append_nil, List.cons_append, List.nil_append, ↓reduceIte, true_or, or_true, Nat.reduceAdd, Nat.add_assoc, b255_12]
theorem rdPair (hP : PH E N B K A V H R R' t j I L J q M l n np nr nl nb nq o g) (hk : K j ≠ 38) : PRes scr (d + 8) (d + 9) E N B K A V H R R' t j 64 254 [] I L J q M l := by
  obtain ⟨o11, o7, r0, r1, o8, o4, ht, hK, hJ, hj, hT, hC, hM, hS⟩ := hP; obtain ⟨hcn, hcnt⟩ := SP_cnb hS; have hkj := (hK.2.2.2.2.2 j (by omega)).1; obtain ⟨sH, sP, sU, sL, sB, sD, sN, sZ, so, sg, sq⟩ := id hS
  have o3 : ok3 hs_S0 R' (t + 1) := o4.2.2.2.1
  have hnq := sB.2.1
  have hnb6 := sB.1
  have eI : I t 12 = nI nq := sB.2.2.2.2.2.1
  have eJ : J 145 1601 = nI nq := sB.2.2.2.2.1
  have hcb : sl5 n np nr nl nb 4 = nb := sl5_4
  have eMb : ∀ {q1 : Nat → Int32} {l1 : Nat → Int64} {x y : Int32} {c a : Nat}, BM c a q1 → hs_R scr (d + 9) 254 72 [some (.ref 140), some (.int (nI nq)), some (.int x), some (.int y)] [] (hs_S0, hs_z J 140 q1, hs_z M 140 l1, R) = some (none, (hs_S0, hs_z J 140 q1, hs_z M 140 l1, R)) := by
    intro q1 l1 x y c a hb
    rw [b254_72 o11, m248b (d := d + 7) o11 hb]
    simp only [Option.bind_some, Option.toList_some, Option.toList_none, List.append_nil, List.cons_append, List.nil_append, ↓reduceIte, true_or, or_true, Nat.reduceAdd, Nat.add_assoc]
    rw [b254_77 o11, hz_s, if_neg (BM_n hb).1]
  by_cases g6 : nq < 10
  · obtain ⟨q1, l1, e1, m1, f1⟩ := m209a (scr := scr) (d := d + 7) (M := M) o11 hK hJ hj hM
    obtain ⟨I1, L1, y1, c1, hor⟩ := jNm (scr := scr) (d := d + 4) (dm := d + 2) (bl := 4) (s := 4) (R := R) (R' := R') o11 o8 o3 (by omega) hK hJ hj hT m1 (by omega) (by omega) hcn (hcnt 4 (by omega)) sN
    have eM0 : hs_C scr (d + 9) 254 [.ref 140] (hs_S0, hs_z J 140 q, hs_z M 140 l, R) = ((hs_C scr (d + 8) 255 [.ref 140, .int (nI 4), .int (nI 4)] (hs_S0, hs_z J 140 q1, hs_z M 140 l1, R)).bind fun o => hs_R scr (d + 9) 254 43 [some (.ref 140), some (.int (nI nq)), none, none] (o.1.toList ++ []) o.2) := by
      rw [e254, b254_0 o11, show (140 + 5 : Nat) = 145 from rfl, hz_row _ _ (by omega), eJ, if_neg (show ¬ nI nq = (10 : Int32) from fun q => by have := (nI_eq (b := 10) (by omega) (by omega)).mp q; omega), b254_25 o11, hz_s, hM.2.2.2.2, if_pos (by decide), e1]
      simp only [Option.bind_some, Option.toList_some, Option.toList_none, List.append_nil, List.cons_append, List.nil_append, ↓reduceIte, true_or, or_true, Nat.reduceAdd, Nat.add_assoc]
      rw [b254_37 o11]
      simp only [List.append_nil]; rfl
    have eX0 : hs_C scr (d + 8) 64 [.ref 10] (hs_S0, I, L, R') = ((hs_C scr (d + 7) 65 [.ref 4, .int (kd 4), .ref (t + 1)] (hs_S0, I, L, R')).bind fun o => hs_R scr (d + 8) 64 40 [some (.ref 10), some (.int (nI nq)), none, none] (o.1.toList ++ []) o.2) := by
      rw [e64, b64_0 o7 r1 o4 r0 o8, eI, if_pos (show nI nq < (10 : Int32) from nI_lt (b := 10) g6 (by omega))]; rfl
    rcases hor with ⟨k1, k2, k3, t1, k4, k5⟩ | ⟨c, a, q2, k1, k2, k3, k4, k5⟩
    · rw [hcb] at k2
      have hj2 : j + 2 < N := hK.2.2.2.2.1 (j + 1) hj (by omega)
      obtain ⟨q2, l2, e2, m2, f2⟩ := m255 (scr := scr) (d := d + 5) (M := M) o11 hK hJ hj2 m1 k5
      obtain ⟨I2, L2, y2, c2, hor2⟩ := jNm (scr := scr) (d := d + 4) (dm := d + 3) (bl := 4) (s := 4) (R := R) (R' := R') o11 o8 o3 (by omega) hK hJ hj2 t1 m2 (by omega) (by omega) hcn (hcnt 4 (by omega)) (RN_cg sN (fun k hk => rfl) (by rw [y1.1 _ (by omega)]) (y1.1 _ (by omega)) (y1.1 _ (by omega)) (y1.2.1 _ (by omega)))
      have eM1 : hs_C scr (d + 9) 254 [.ref 140] (hs_S0, hs_z J 140 q, hs_z M 140 l, R) = ((hs_C scr (d + 8) 256 [.ref 140, .int (nI 4), .int (nI 4)] (hs_S0, hs_z J 140 q2, hs_z M 140 l2, R)).bind fun o => hs_R scr (d + 9) 254 50 [some (.ref 140), some (.int (nI nq)), some (.int (nI k1)), none] (o.1.toList ++ []) o.2) := by
        rw [eM0, e2]
        simp only [Option.bind_some, Option.toList_some, Option.toList_none, List.append_nil, List.cons_append, List.nil_append, ↓reduceIte, true_or, or_true, Nat.reduceAdd, Nat.add_assoc]
        rw [b254_43 o11]
        simp only [List.append_nil]; rfl
      have eX1 : hs_C scr (d + 8) 64 [.ref 10] (hs_S0, I, L, R') = ((hs_C scr (d + 7) 65 [.ref 4, .int (kd 4), .ref (t + 1)] (hs_S0, I1, L1, R')).bind fun o => hs_R scr (d + 8) 64 63 [some (.ref 10), some (.int (nI nq)), some (.int (nI k1)), none] (o.1.toList ++ []) o.2) := by
        rw [eX0, k4]
        simp only [Option.bind_some, Option.toList_some, Option.toList_none, List.append_nil, List.cons_append, List.nil_append, ↓reduceIte, true_or, or_true, Nat.reduceAdd, Nat.add_assoc]
        rw [b64_40 o7 r0 o8 r1 o4, if_pos (nI_pos' (by omega))]
        simp only [List.append_nil]; rfl
      have hF2 := T4_tr y1 y2
      have hT2 := T140_tr f1 f2
      rcases hor2 with ⟨u1, u2, u3, t2, u4, u5⟩ | ⟨c, a, q3, u1, u2, u3, u4, u5⟩
      · rw [hcb] at u2
        have hj3 : j + 3 < N := hK.2.2.2.2.1 (j + 2) hj2 (by omega)
        by_cases ge : k1 = u1
        · subst ge
          obtain ⟨I3, z1, z2, z3, z4⟩ := x47 (scr := scr) (d := d + 7) (c := 5) (R := R') o8 c2 (hK.2.2.2.2.2 (j + 2) hj2).1
          rw [fk_n (show K (j + 2) ≠ 38 by omega)] at z2
          refine ⟨I3, L2, J, up (up q2 12 (nI 5)) 13 (nI (A (j + 2))), M, l2, FX_4 (T4_tr hF2 z3), FM_q (T140_tr hT2 ⟨fun f hf => by rw [up_n _ _ (by omega), up_n _ _ (by omega)], fun _ _ => rfl⟩), ?_, Or.inr ⟨5, A (j + 2), ?_, z2, ⟨rfl, rfl, by omega, by omega⟩⟩⟩
          · rw [eM1, u5]
            simp only [Option.bind_some, Option.toList_some, Option.toList_none, List.append_nil, List.cons_append, List.nil_append, ↓reduceIte, true_or, or_true, Nat.reduceAdd, Nat.add_assoc]
            rw [b254_50 o11, hz_s, m2.2.2.2.2, if_pos rfl, if_pos rfl, m2.2.1, show (5 : Int32) = nI 5 from rfl, m220 o11 m2.2.2.2.2]
            simp only [Option.bind_some, Option.toList_some, Option.toList_none, List.append_nil, List.cons_append, List.nil_append, ↓reduceIte, true_or, or_true, Nat.reduceAdd, Nat.add_assoc]
            exact eMb (c := 5) (a := A (j + 2)) ⟨rfl, rfl, by omega, by omega⟩
          · rw [eX1, u4]
            simp only [Option.bind_some, Option.toList_some, Option.toList_none, List.append_nil, List.cons_append, List.nil_append, ↓reduceIte, true_or, or_true, Nat.reduceAdd, Nat.add_assoc]
            rw [b64_63 o7 r1 o4 r0 o8, if_pos (nI_pos' (by omega)), if_pos rfl, show (5 : Int32) = nI 5 from rfl, z1]
            simp only [Option.bind_some, Option.toList_some, Option.toList_none, List.append_nil, List.cons_append, List.nil_append, ↓reduceIte, true_or, or_true, Nat.reduceAdd, Nat.add_assoc]
            rw [b64_83]; rfl
        · have hT3 : TC N K A V (j + 3) (hs_u (hs_u (hs_u I2 (t + 14) nq (nI k1)) (t + 15) nq (nI u1)) t 12 (nI (nq + 1))) L2 := TC_r t2 (fun k hk => by simp (disch := omega) only [hu_same, hu_row, hu_at, hu_hu]) rfl
          obtain ⟨I4, L4, z1, z2, z3, z4, z5⟩ := x49 (scr := scr) (d := d + 6) (W := 33) (R := R') o8 hK hT3 hj3 (by omega)
          obtain ⟨q4, l4, e4, m4, f4⟩ := m248t (scr := scr) (d := d + 6) (M := M) o11 hK hJ hj3 m2
          have eI2 : I2 t 12 = nI nq := by rw [hF2.1 _ (by omega)]; exact eI
          have hq25 : q4 25 = tld o g := (f4.1 25 (by omega)).trans ((hT2.1 25 (by omega)).trans sq)
          have hSP : SP n np nr nl nb (nq + 1) o g t (hs_u (hs_u (hs_u I2 (t + 14) nq (nI k1)) (t + 15) nq (nI u1)) t 12 (nI (nq + 1))) L2 (hs_u (hs_u (hs_u J 145 (1703 + nq) (nI k1)) 145 (1713 + nq) (nI u1)) 145 1601 (nI (nq + 1))) M q4 := by
            refine ⟨RH_cg sH (fun k hk => by simp (disch := omega) only [hu_same, hu_row, hu_at, hu_hu]) (by simp (disch := omega) only [hu_same, hu_row, hu_at, hu_hu, hF2.1]) (by simp (disch := omega) only [hu_same, hu_row, hu_at, hu_hu, hF2.1]) (by simp (disch := omega) only [hu_same, hu_row, hu_at, hu_hu, hF2.1]) (by simp (disch := omega) only [hu_same, hu_row, hu_at, hu_hu, hF2.1]) (by simp (disch := omega) only [hu_same, hu_row, hu_at, hu_hu, hF2.1]), RP_cg sP (fun k hk => by simp (disch := omega) only [hu_same, hu_row, hu_at, hu_hu]) (by simp (disch := omega) only [hu_same, hu_row, hu_at, hu_hu, hF2.1]) (by simp (disch := omega) only [hu_same, hu_row, hu_at, hu_hu, hF2.1]) (by simp (disch := omega) only [hu_same, hu_row, hu_at, hu_hu, hF2.1]), RU0_cg sU (fun k hk => by simp (disch := omega) only [hu_same, hu_row, hu_at, hu_hu]) (by simp (disch := omega) only [hu_same, hu_row, hu_at, hu_hu, hF2.1]) (by simp (disch := omega) only [hu_same, hu_row, hu_at, hu_hu, hF2.1]), RLk_cg sL (fun k hk => by simp (disch := omega) only [hu_same, hu_row, hu_at, hu_hu]) (by simp (disch := omega) only [hu_same, hu_row, hu_at, hu_hu, hF2.1]) (by simp (disch := omega) only [hu_same, hu_row, hu_at, hu_hu, hF2.1]), ?_, RD_cg sD (fun k hk => by simp (disch := omega) only [hu_same, hu_row, hu_at, hu_hu]) (by simp (disch := omega) only [hu_same, hu_row, hu_at, hu_hu, hF2.1]) (by simp (disch := omega) only [hu_same, hu_row, hu_at, hu_hu, hF2.1]) (by simp (disch := omega) only [hu_same, hu_row, hu_at, hu_hu, hF2.1]) (by simp (disch := omega) only [hu_same, hu_row, hu_at, hu_hu, hF2.1]), RN_cg sN (fun k hk => rfl) (by simp (disch := omega) only [hu_same, hu_row, hu_at, hu_hu, hF2.1]) (by simp (disch := omega) only [hu_same, hu_row, hu_at, hu_hu, hF2.1]) (by simp (disch := omega) only [hu_same, hu_row, hu_at, hu_hu, hF2.1]) (by simp (disch := omega) only [hF2.2.1]), Z0_cg sZ (fun k hk => by simp (disch := omega) only [hu_same, hu_row, hu_at, hu_hu]), by simp (disch := omega) only [hu_same, hu_row, hu_at, hu_hu, hF2.1]; exact so, by simp (disch := omega) only [hu_same, hu_row, hu_at, hu_hu, hF2.1]; exact sg, hq25⟩
            obtain ⟨b1, b2, b3, b4, b5, b6, b7⟩ := sB
            refine ⟨b1, by omega, ?_, ?_, hu_same _ _ _ _, hu_same _ _ _ _, fun k hk => ?_⟩
            · simp (disch := omega) only [hu_same, hu_row, hu_at, hu_hu]; exact b3
            · simp (disch := omega) only [hu_same, hu_row, hu_at, hu_hu, hF2.1]; exact b4
            show hs_u (hs_u (hs_u I2 (t + 14) nq (nI k1)) (t + 15) nq (nI u1)) t 12 (nI (nq + 1)) (t + 14) k = hs_u (hs_u (hs_u J 145 (1703 + nq) (nI k1)) 145 (1713 + nq) (nI u1)) 145 1601 (nI (nq + 1)) 145 (1596 + (107 + k)) ∧ hs_u (hs_u (hs_u I2 (t + 14) nq (nI k1)) (t + 15) nq (nI u1)) t 12 (nI (nq + 1)) (t + 15) k = hs_u (hs_u (hs_u J 145 (1703 + nq) (nI k1)) 145 (1713 + nq) (nI u1)) 145 1601 (nI (nq + 1)) 145 (1596 + (117 + k)) ∧ (∃ j, j < nb ∧ hs_u (hs_u (hs_u J 145 (1703 + nq) (nI k1)) 145 (1713 + nq) (nI u1)) 145 1601 (nI (nq + 1)) 145 (1596 + (107 + k)) = nI j) ∧ (∃ j, j < nb ∧ hs_u (hs_u (hs_u J 145 (1703 + nq) (nI k1)) 145 (1713 + nq) (nI u1)) 145 1601 (nI (nq + 1)) 145 (1596 + (117 + k)) = nI j)
            by_cases gk : k = nq
            · subst gk
              rw [show 1596 + (107 + k) = 1703 + k by omega, show 1596 + (117 + k) = 1713 + k by omega]
              simp (disch := omega) only [hu_same, hu_row, hu_at, hu_hu]
              exact ⟨trivial, trivial, ⟨k1, k2, rfl⟩, ⟨u1, u2, rfl⟩⟩
            · simp (disch := omega) only [hu_same, hu_row, hu_at, hu_hu, hF2.1]
              exact b7 k (by omega)
          refine ⟨I4, L4, hs_u (hs_u (hs_u J 145 (1703 + nq) (nI k1)) 145 (1713 + nq) (nI u1)) 145 1601 (nI (nq + 1)), q4, M, l4, FX_tr (FX_4 hF2) (FX_tr ⟨fun k a b c => by simp (disch := omega) only [hu_same, hu_row, hu_at, hu_hu], fun _ _ _ => rfl, by simp (disch := omega) only [hu_same, hu_row, hu_at, hu_hu]⟩ (FX_4 z2)), FM_tr (FM_q (T140_tr hT2 f4)) (FM_tr (FM_J (by omega)) (FM_tr (FM_J (by omega)) (FM_J (by omega)))), ?_, Or.inl ⟨j + 3, by omega, hj3, m4, ?_, fun q => ⟨z3 q, n, np, nr, nl, nb, nq + 1, o, g, SP_4 (by omega) hSP z2 rfl⟩, z5⟩⟩
          · rw [eM1, u5]
            simp only [Option.bind_some, Option.toList_some, Option.toList_none, List.append_nil, List.cons_append, List.nil_append, ↓reduceIte, true_or, or_true, Nat.reduceAdd, Nat.add_assoc]
            rw [b254_50 o11, hz_s, m2.2.2.2.2, if_pos rfl, if_neg (fun q => ge ((nI_eq (by omega) (by omega)).mp q)), b254_72 o11, e4]
            simp only [Option.bind_some, Option.toList_some, Option.toList_none, List.append_nil, List.cons_append, List.nil_append, ↓reduceIte, true_or, or_true, Nat.reduceAdd, Nat.add_assoc]
            rw [b254_77 o11, hz_s, m4.2.2.2.2, if_pos (by decide), ad1703, ad1713, if_pos (ib_nI (by omega) (by omega)), if_pos (ib_nI (by omega) (by omega)), nI_clamp (by omega), nI_clamp (by omega), show (140 + 5 : Nat) = 145 from rfl, hz_cm _ _ _ (by omega), hz_cm _ _ _ (by omega), hz_cm _ _ _ (by omega), hz_row _ _ (by omega), hu_at _ _ (by omega), hu_at _ _ (by omega), eJ, nI_1]
          · rw [eX1, u4]
            simp only [Option.bind_some, Option.toList_some, Option.toList_none, List.append_nil, List.cons_append, List.nil_append, ↓reduceIte, true_or, or_true, Nat.reduceAdd, Nat.add_assoc]
            rw [b64_63 o7 r1 o4 r0 o8, if_pos (nI_pos' (by omega)), if_neg (fun q => ge ((nI_eq (by omega) (by omega)).mp q.symm)), if_pos (ib_nI (by omega) (by omega)), if_pos (ib_nI (by omega) (by omega)), nI_clamp (by omega), hu_row _ _ (by omega), hu_row _ _ (by omega), eI2, nI_1, show (33 : Int32) = nI 33 from rfl, z1]
            simp only [Option.bind_some, Option.toList_some, Option.toList_none, List.append_nil, List.cons_append, List.nil_append, ↓reduceIte, true_or, or_true, Nat.reduceAdd, Nat.add_assoc]
            rw [b64_126, ib01]
      · refine ⟨I2, L2, J, q3, M, l2, FX_4 hF2, FM_q (T140_tr hT2 u5), ?_, Or.inr ⟨c, a, ?_, u2, u4⟩⟩
        · rw [eM1, u3]
          simp only [Option.bind_some, Option.toList_some, Option.toList_none, List.append_nil, List.cons_append, List.nil_append, ↓reduceIte, true_or, or_true, Nat.reduceAdd, Nat.add_assoc]
          rw [b254_50 o11, hz_s, if_neg (BM_n u4).2.1]
          exact eMb u4
        · rw [eX1, u1]
          simp only [Option.bind_some, Option.toList_some, Option.toList_none, List.append_nil, List.cons_append, List.nil_append, ↓reduceIte, true_or, or_true, Nat.reduceAdd, Nat.add_assoc]
          rw [b64_63 o7 r1 o4 r0 o8, if_neg (by decide)]
    · refine ⟨I1, L1, J, q2, M, l1, FX_4 y1, FM_q (T140_tr f1 k5), ?_, Or.inr ⟨c, a, ?_, k2, k4⟩⟩
      · rw [eM0, m255f (d := d + 5) o11 k3 k4]
        simp only [Option.bind_some, Option.toList_some, Option.toList_none, List.append_nil, List.cons_append, List.nil_append, ↓reduceIte, true_or, or_true, Nat.reduceAdd, Nat.add_assoc]
        rw [b254_43 o11, m256b (d := d + 7) o11 k4]
        simp only [Option.bind_some, Option.toList_some, Option.toList_none, List.append_nil, List.cons_append, List.nil_append, ↓reduceIte, true_or, or_true, Nat.reduceAdd, Nat.add_assoc]
        rw [b254_50 o11, hz_s, if_neg (BM_n k4).2.1]
        exact eMb k4
      · rw [eX0, k1]
        simp only [Option.bind_some, Option.toList_some, Option.toList_none, List.append_nil, List.cons_append, List.nil_append, ↓reduceIte, true_or, or_true, Nat.reduceAdd, Nat.add_assoc]
        rw [b64_40 o7 r0 o8 r1 o4, if_neg (by decide)]
  · have e6 : nq = 10 := by omega
    obtain ⟨I1, z1, z2, z3, z4⟩ := x47 (scr := scr) (d := d + 7) (c := 6) (R := R') o8 hC hkj
    rw [fk_n hk] at z2
    refine ⟨I1, L, J, up (up q 12 (nI 6)) 13 (nI (A j)), M, l, FX_4 z3, FM_q ⟨fun f hf => by rw [up_n _ _ (by omega), up_n _ _ (by omega)], fun _ _ => rfl⟩, ?_, Or.inr ⟨6, A j, ?_, z2, ⟨rfl, rfl, by omega, by omega⟩⟩⟩
    · rw [e254, b254_0 o11, show (140 + 5 : Nat) = 145 from rfl, hz_row _ _ (by omega), eJ, if_pos (by rw [e6]; rfl), hz_s, hM.2.1, show (6 : Int32) = nI 6 from rfl, m220 o11 hM.2.2.2.2]
      simp only [Option.bind_some, Option.toList_some, Option.toList_none, List.append_nil, List.cons_append, List.nil_append, ↓reduceIte, true_or, or_true, Nat.reduceAdd, Nat.add_assoc]
      rw [b254_25 o11, hz_s, if_neg (show ¬ up (up q 12 (nI 6)) 13 (nI (A j)) 12 ≤ 0 by show ¬ nI 6 ≤ 0; decide)]
    · rw [e64, b64_0 o7 r1 o4 r0 o8, eI, if_neg (show ¬ nI nq < (10 : Int32) from nI_nlt (a := nq) (b := 10) (by omega) (by omega)), show (6 : Int32) = nI 6 from rfl, z1]
      simp only [Option.bind_some, Option.toList_some, Option.toList_none, List.append_nil, List.cons_append, List.nil_append, ↓reduceIte, true_or, or_true, Nat.reduceAdd, Nat.add_assoc]
      rw [b64_23]; rfl
end P3
