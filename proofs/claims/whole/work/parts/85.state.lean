/-! a state's text: a part, all parts -/
section ST
variable {scr : List Int32} {d E N j r c a k v t s n np nr nl nb nq : Nat} {o g : Bool} {B K A V H cn : Nat → Nat} {q q' : Nat → Int32} {l l' : Nat → Int64} {x1 : Int32} {I J I' J' : Nat → Nat → Int32} {L M L' M' : Nat → Nat → Int64} {R R' : Nat → Nat → Nat}
theorem PR_up {jx jm : Nat} {as : List Value} (h : PRes scr (d + 8) (d + 9) E N B K A V H R R' t j jx jm as I L J q M l) (hX : ∀ (x : Int32) (Hh : hs_H), (x = 0 ∨ x = 1) → hs_C scr (d + 8) jx [.ref 10] (hs_S0, I, L, R') = some (some (.int x), Hh) → hs_C scr (d + 9) 45 [.ref 10] (hs_S0, I, L, R') = some (some (.int x), Hh)) (hM : ∀ Hh : hs_H, hs_C scr (d + 9) jm (.ref 140 :: as) (hs_S0, hs_z J 140 q, hs_z M 140 l, R) = some (none, Hh) → hs_C scr (d + 10) 214 [.ref 140] (hs_S0, hs_z J 140 q, hs_z M 140 l, R) = some (none, Hh)) : PRes scr (d + 9) (d + 10) E N B K A V H R R' t j 45 214 [] I L J q M l := by
  obtain ⟨I1, L1, J1, q1, M1, l1, h1, h2, h3, h4⟩ := h
  refine ⟨I1, L1, J1, q1, M1, l1, h1, h2, hM _ h3, ?_⟩
  rcases h4 with ⟨j1, a1, a2, a3, a4, a5, a6⟩ | ⟨c, a, a1, a2, a3⟩
  · refine Or.inl ⟨j1, a1, a2, a3, hX _ _ ?_ a4, a5, a6⟩
    by_cases q : K j1 = 33
    · rw [if_pos q]; exact Or.inr rfl
    · rw [if_neg q]; exact Or.inl rfl
  · exact Or.inr ⟨c, a, hX _ _ (Or.inl rfl) a1, a2, a3⟩
theorem rdPart (hP : PH E N B K A V H R R' t j I L J q M l n np nr nl nb nq o g) (h37 : K j ≠ 37) : PRes scr (d + 9) (d + 10) E N B K A V H R R' t j 45 214 [] I L J q M l := by
  obtain ⟨o11, o7, r0, r1, o8, o4, ht, hK, hJ, hj, hT, hC, hM, hS⟩ := id hP
  have hkj := (hK.2.2.2.2.2 j (by omega)).1
  have htk := hM.2.2.2.1
  by_cases g0 : K j = 0
  · refine PR_up (rdOdds (d := d) hP (by omega)) (fun x Hh hx h => ?_) (fun Hh h => ?_)
    · rw [e45, b45_0 o7 r0 o8, hC.1, g0, show hs_swt (nI 0) 0 16 [88, 93, 98, 128, 128, 128, 128, 128, 128, 103, 128, 128, 108, 128, 113, 118, 123] 128 = 88 by decide, b45_88 o7, h]
      obtain ⟨S1, I1, L1, R1⟩ := Hh
      simp only [Option.bind_some, Option.toList_some, Option.toList_none, List.append_nil, List.cons_append, List.nil_append]
      rw [b45_92, if_pos hx]
    · rw [e214, b214_0 o11, m215 (d := d + 8) o11 htk]
      simp only [Option.bind_some, Option.toList_some, Option.toList_none, List.append_nil, List.cons_append, List.nil_append]
      rw [b214_4 o11, if_pos (show K j = 0 by omega), if_neg (by decide), h]
      obtain ⟨S1, I1, L1, R1⟩ := Hh
      simp only [Option.bind_some, Option.toList_some, Option.toList_none, List.append_nil, List.cons_append, List.nil_append]
      rw [b214_16, b214_126]
  by_cases g1 : K j = 1
  · refine PR_up (rdGreys (d := d) hP (by omega)) (fun x Hh hx h => ?_) (fun Hh h => ?_)
    · rw [e45, b45_0 o7 r0 o8, hC.1, g1, show hs_swt (nI 1) 0 16 [88, 93, 98, 128, 128, 128, 128, 128, 128, 103, 128, 128, 108, 128, 113, 118, 123] 128 = 93 by decide, b45_93 o7, h]
      obtain ⟨S1, I1, L1, R1⟩ := Hh
      simp only [Option.bind_some, Option.toList_some, Option.toList_none, List.append_nil, List.cons_append, List.nil_append]
      rw [b45_97, if_pos hx]
    · rw [e214, b214_0 o11, m215 (d := d + 8) o11 htk]
      simp only [Option.bind_some, Option.toList_some, Option.toList_none, List.append_nil, List.cons_append, List.nil_append]
      rw [b214_4 o11, if_neg (show ¬ K j = 0 by omega), if_pos rfl, m224 (d := d + 8) o11 htk]
      simp only [Option.bind_some, Option.toList_some, Option.toList_none, List.append_nil, List.cons_append, List.nil_append]
      rw [b214_23 o11, if_pos (show K j = 1 by omega), if_neg (by decide), h]
      obtain ⟨S1, I1, L1, R1⟩ := Hh
      simp only [Option.bind_some, Option.toList_some, Option.toList_none, List.append_nil, List.cons_append, List.nil_append]
      rw [b214_35, b214_126]
  by_cases g2 : K j = 2
  · refine PR_up (rdHair (d := d) hP (by omega)) (fun x Hh hx h => ?_) (fun Hh h => ?_)
    · rw [e45, b45_0 o7 r0 o8, hC.1, g2, show hs_swt (nI 2) 0 16 [88, 93, 98, 128, 128, 128, 128, 128, 128, 103, 128, 128, 108, 128, 113, 118, 123] 128 = 98 by decide, b45_98 o7, h]
      obtain ⟨S1, I1, L1, R1⟩ := Hh
      simp only [Option.bind_some, Option.toList_some, Option.toList_none, List.append_nil, List.cons_append, List.nil_append]
      rw [b45_102, if_pos hx]
    · rw [e214, b214_0 o11, m215 (d := d + 8) o11 htk]
      simp only [Option.bind_some, Option.toList_some, Option.toList_none, List.append_nil, List.cons_append, List.nil_append]
      rw [b214_4 o11, if_neg (show ¬ K j = 0 by omega), if_pos rfl, m224 (d := d + 8) o11 htk]
      simp only [Option.bind_some, Option.toList_some, Option.toList_none, List.append_nil, List.cons_append, List.nil_append]
      rw [b214_23 o11, if_neg (show ¬ K j = 1 by omega), if_pos rfl, m225 (d := d + 8) o11 htk]
      simp only [Option.bind_some, Option.toList_some, Option.toList_none, List.append_nil, List.cons_append, List.nil_append]
      rw [b214_42 o11, if_pos (show K j = 2 by omega), if_neg (by decide), h]
      obtain ⟨S1, I1, L1, R1⟩ := Hh
      simp only [Option.bind_some, Option.toList_some, Option.toList_none, List.append_nil, List.cons_append, List.nil_append]
      rw [b214_49, b214_126]
  by_cases g9 : K j = 9
  · refine PR_up (rdParty (d := d) hP (by omega)) (fun x Hh hx h => ?_) (fun Hh h => ?_)
    · rw [e45, b45_0 o7 r0 o8, hC.1, g9, show hs_swt (nI 9) 0 16 [88, 93, 98, 128, 128, 128, 128, 128, 128, 103, 128, 128, 108, 128, 113, 118, 123] 128 = 103 by decide, b45_103 o7, h]
      obtain ⟨S1, I1, L1, R1⟩ := Hh
      simp only [Option.bind_some, Option.toList_some, Option.toList_none, List.append_nil, List.cons_append, List.nil_append]
      rw [b45_107, if_pos hx]
    · rw [e214, b214_0 o11, m215 (d := d + 8) o11 htk]
      simp only [Option.bind_some, Option.toList_some, Option.toList_none, List.append_nil, List.cons_append, List.nil_append]
      rw [b214_4 o11, if_neg (show ¬ K j = 0 by omega), if_pos rfl, m224 (d := d + 8) o11 htk]
      simp only [Option.bind_some, Option.toList_some, Option.toList_none, List.append_nil, List.cons_append, List.nil_append]
      rw [b214_23 o11, if_neg (show ¬ K j = 1 by omega), if_pos rfl, m225 (d := d + 8) o11 htk]
      simp only [Option.bind_some, Option.toList_some, Option.toList_none, List.append_nil, List.cons_append, List.nil_append]
      rw [b214_42 o11, if_neg (show ¬ K j = 2 by omega), if_pos rfl, m231 (d := d + 8) o11 htk]
      simp only [Option.bind_some, Option.toList_some, Option.toList_none, List.append_nil, List.cons_append, List.nil_append]
      rw [b214_56 o11, if_pos (show K j = 9 by omega), if_neg (by decide), h]
      obtain ⟨S1, I1, L1, R1⟩ := Hh
      simp only [Option.bind_some, Option.toList_some, Option.toList_none, List.append_nil, List.cons_append, List.nil_append]
      rw [b214_63, b214_126]
  by_cases g12 : K j = 12
  · refine PR_up (rdRuler (d := d) hP (by omega)) (fun x Hh hx h => ?_) (fun Hh h => ?_)
    · rw [e45, b45_0 o7 r0 o8, hC.1, g12, show hs_swt (nI 12) 0 16 [88, 93, 98, 128, 128, 128, 128, 128, 128, 103, 128, 128, 108, 128, 113, 118, 123] 128 = 108 by decide, b45_108 o7, h]
      obtain ⟨S1, I1, L1, R1⟩ := Hh
      simp only [Option.bind_some, Option.toList_some, Option.toList_none, List.append_nil, List.cons_append, List.nil_append]
      rw [b45_112, if_pos hx]
    · rw [e214, b214_0 o11, m215 (d := d + 8) o11 htk]
      simp only [Option.bind_some, Option.toList_some, Option.toList_none, List.append_nil, List.cons_append, List.nil_append]
      rw [b214_4 o11, if_neg (show ¬ K j = 0 by omega), if_pos rfl, m224 (d := d + 8) o11 htk]
      simp only [Option.bind_some, Option.toList_some, Option.toList_none, List.append_nil, List.cons_append, List.nil_append]
      rw [b214_23 o11, if_neg (show ¬ K j = 1 by omega), if_pos rfl, m225 (d := d + 8) o11 htk]
      simp only [Option.bind_some, Option.toList_some, Option.toList_none, List.append_nil, List.cons_append, List.nil_append]
      rw [b214_42 o11, if_neg (show ¬ K j = 2 by omega), if_pos rfl, m231 (d := d + 8) o11 htk]
      simp only [Option.bind_some, Option.toList_some, Option.toList_none, List.append_nil, List.cons_append, List.nil_append]
      rw [b214_56 o11, if_neg (show ¬ K j = 9 by omega), if_pos rfl, m234 (d := d + 8) o11 htk]
      simp only [Option.bind_some, Option.toList_some, Option.toList_none, List.append_nil, List.cons_append, List.nil_append]
      rw [b214_70 o11, if_pos (show K j = 12 by omega), if_neg (by decide), h]
      obtain ⟨S1, I1, L1, R1⟩ := Hh
      simp only [Option.bind_some, Option.toList_some, Option.toList_none, List.append_nil, List.cons_append, List.nil_append]
      rw [b214_77, b214_126]
  by_cases g14 : K j = 14
  · refine PR_up (rdLook (d := d) hP (by omega)) (fun x Hh hx h => ?_) (fun Hh h => ?_)
    · rw [e45, b45_0 o7 r0 o8, hC.1, g14, show hs_swt (nI 14) 0 16 [88, 93, 98, 128, 128, 128, 128, 128, 128, 103, 128, 128, 108, 128, 113, 118, 123] 128 = 113 by decide, b45_113 o7, h]
      obtain ⟨S1, I1, L1, R1⟩ := Hh
      simp only [Option.bind_some, Option.toList_some, Option.toList_none, List.append_nil, List.cons_append, List.nil_append]
      rw [b45_117, if_pos hx]
    · rw [e214, b214_0 o11, m215 (d := d + 8) o11 htk]
      simp only [Option.bind_some, Option.toList_some, Option.toList_none, List.append_nil, List.cons_append, List.nil_append]
      rw [b214_4 o11, if_neg (show ¬ K j = 0 by omega), if_pos rfl, m224 (d := d + 8) o11 htk]
      simp only [Option.bind_some, Option.toList_some, Option.toList_none, List.append_nil, List.cons_append, List.nil_append]
      rw [b214_23 o11, if_neg (show ¬ K j = 1 by omega), if_pos rfl, m225 (d := d + 8) o11 htk]
      simp only [Option.bind_some, Option.toList_some, Option.toList_none, List.append_nil, List.cons_append, List.nil_append]
      rw [b214_42 o11, if_neg (show ¬ K j = 2 by omega), if_pos rfl, m231 (d := d + 8) o11 htk]
      simp only [Option.bind_some, Option.toList_some, Option.toList_none, List.append_nil, List.cons_append, List.nil_append]
      rw [b214_56 o11, if_neg (show ¬ K j = 9 by omega), if_pos rfl, m234 (d := d + 8) o11 htk]
      simp only [Option.bind_some, Option.toList_some, Option.toList_none, List.append_nil, List.cons_append, List.nil_append]
      rw [b214_70 o11, if_neg (show ¬ K j = 12 by omega), if_pos rfl, m236 (d := d + 8) o11 htk]
      simp only [Option.bind_some, Option.toList_some, Option.toList_none, List.append_nil, List.cons_append, List.nil_append]
      rw [b214_84 o11, if_pos (show K j = 14 by omega), if_neg (by decide), h]
      obtain ⟨S1, I1, L1, R1⟩ := Hh
      simp only [Option.bind_some, Option.toList_some, Option.toList_none, List.append_nil, List.cons_append, List.nil_append]
      rw [b214_91, b214_126]
  by_cases g15 : K j = 15
  · refine PR_up (rdBarber (d := d) hP (by omega)) (fun x Hh hx h => ?_) (fun Hh h => ?_)
    · rw [e45, b45_0 o7 r0 o8, hC.1, g15, show hs_swt (nI 15) 0 16 [88, 93, 98, 128, 128, 128, 128, 128, 128, 103, 128, 128, 108, 128, 113, 118, 123] 128 = 118 by decide, b45_118 o7, h]
      obtain ⟨S1, I1, L1, R1⟩ := Hh
      simp only [Option.bind_some, Option.toList_some, Option.toList_none, List.append_nil, List.cons_append, List.nil_append]
      rw [b45_122, if_pos hx]
    · rw [e214, b214_0 o11, m215 (d := d + 8) o11 htk]
      simp only [Option.bind_some, Option.toList_some, Option.toList_none, List.append_nil, List.cons_append, List.nil_append]
      rw [b214_4 o11, if_neg (show ¬ K j = 0 by omega), if_pos rfl, m224 (d := d + 8) o11 htk]
      simp only [Option.bind_some, Option.toList_some, Option.toList_none, List.append_nil, List.cons_append, List.nil_append]
      rw [b214_23 o11, if_neg (show ¬ K j = 1 by omega), if_pos rfl, m225 (d := d + 8) o11 htk]
      simp only [Option.bind_some, Option.toList_some, Option.toList_none, List.append_nil, List.cons_append, List.nil_append]
      rw [b214_42 o11, if_neg (show ¬ K j = 2 by omega), if_pos rfl, m231 (d := d + 8) o11 htk]
      simp only [Option.bind_some, Option.toList_some, Option.toList_none, List.append_nil, List.cons_append, List.nil_append]
      rw [b214_56 o11, if_neg (show ¬ K j = 9 by omega), if_pos rfl, m234 (d := d + 8) o11 htk]
      simp only [Option.bind_some, Option.toList_some, Option.toList_none, List.append_nil, List.cons_append, List.nil_append]
      rw [b214_70 o11, if_neg (show ¬ K j = 12 by omega), if_pos rfl, m236 (d := d + 8) o11 htk]
      simp only [Option.bind_some, Option.toList_some, Option.toList_none, List.append_nil, List.cons_append, List.nil_append]
      rw [b214_84 o11, if_neg (show ¬ K j = 14 by omega), if_pos rfl, m237 (d := d + 8) o11 htk]
      simp only [Option.bind_some, Option.toList_some, Option.toList_none, List.append_nil, List.cons_append, List.nil_append]
      rw [b214_98 o11, if_pos (show K j = 15 by omega), if_neg (by decide), h]
      obtain ⟨S1, I1, L1, R1⟩ := Hh
      simp only [Option.bind_some, Option.toList_some, Option.toList_none, List.append_nil, List.cons_append, List.nil_append]
      rw [b214_105, b214_126]
  by_cases g16 : K j = 16
  · refine PR_up (rdPair (d := d) hP (by omega)) (fun x Hh hx h => ?_) (fun Hh h => ?_)
    · rw [e45, b45_0 o7 r0 o8, hC.1, g16, show hs_swt (nI 16) 0 16 [88, 93, 98, 128, 128, 128, 128, 128, 128, 103, 128, 128, 108, 128, 113, 118, 123] 128 = 123 by decide, b45_123 o7, h]
      obtain ⟨S1, I1, L1, R1⟩ := Hh
      simp only [Option.bind_some, Option.toList_some, Option.toList_none, List.append_nil, List.cons_append, List.nil_append]
      rw [b45_127, if_pos hx]
    · rw [e214, b214_0 o11, m215 (d := d + 8) o11 htk]
      simp only [Option.bind_some, Option.toList_some, Option.toList_none, List.append_nil, List.cons_append, List.nil_append]
      rw [b214_4 o11, if_neg (show ¬ K j = 0 by omega), if_pos rfl, m224 (d := d + 8) o11 htk]
      simp only [Option.bind_some, Option.toList_some, Option.toList_none, List.append_nil, List.cons_append, List.nil_append]
      rw [b214_23 o11, if_neg (show ¬ K j = 1 by omega), if_pos rfl, m225 (d := d + 8) o11 htk]
      simp only [Option.bind_some, Option.toList_some, Option.toList_none, List.append_nil, List.cons_append, List.nil_append]
      rw [b214_42 o11, if_neg (show ¬ K j = 2 by omega), if_pos rfl, m231 (d := d + 8) o11 htk]
      simp only [Option.bind_some, Option.toList_some, Option.toList_none, List.append_nil, List.cons_append, List.nil_append]
      rw [b214_56 o11, if_neg (show ¬ K j = 9 by omega), if_pos rfl, m234 (d := d + 8) o11 htk]
      simp only [Option.bind_some, Option.toList_some, Option.toList_none, List.append_nil, List.cons_append, List.nil_append]
      rw [b214_70 o11, if_neg (show ¬ K j = 12 by omega), if_pos rfl, m236 (d := d + 8) o11 htk]
      simp only [Option.bind_some, Option.toList_some, Option.toList_none, List.append_nil, List.cons_append, List.nil_append]
      rw [b214_84 o11, if_neg (show ¬ K j = 14 by omega), if_pos rfl, m237 (d := d + 8) o11 htk]
      simp only [Option.bind_some, Option.toList_some, Option.toList_none, List.append_nil, List.cons_append, List.nil_append]
      rw [b214_98 o11, if_neg (show ¬ K j = 15 by omega), if_pos rfl, m238 (d := d + 8) o11 htk]
      simp only [Option.bind_some, Option.toList_some, Option.toList_none, List.append_nil, List.cons_append, List.nil_append]
      rw [b214_112 o11, if_pos (show K j = 16 by omega), if_neg (by decide), h]
      obtain ⟨S1, I1, L1, R1⟩ := Hh
      simp only [Option.bind_some, Option.toList_some, Option.toList_none, List.append_nil, List.cons_append, List.nil_append]
      rw [b214_119, b214_126]
  obtain ⟨I1, z1, z2, z3, z4⟩ := x47 (scr := scr) (d := d + 8) (c := 2) (R := R') o8 hC hkj
  obtain ⟨q', a1, a2, a3, a4⟩ := m222 (scr := scr) (d := d + 8) (M := M) (J := J) (R := R) o11 hM
  refine ⟨I1, L, J, q', M, l, FX_4 z3, FM_q a3, ?_, Or.inr ⟨fk (K j) 2, A j, ?_, z2, a2⟩⟩
  · rw [e214, b214_0 o11, m215 (d := d + 8) o11 htk]
    simp only [Option.bind_some, Option.toList_some, Option.toList_none, List.append_nil, List.cons_append, List.nil_append]
    rw [b214_4 o11, if_neg g0, if_pos rfl, m224 (d := d + 8) o11 htk]
    simp only [Option.bind_some, Option.toList_some, Option.toList_none, List.append_nil, List.cons_append, List.nil_append]
    rw [b214_23 o11, if_neg g1, if_pos rfl, m225 (d := d + 8) o11 htk]
    simp only [Option.bind_some, Option.toList_some, Option.toList_none, List.append_nil, List.cons_append, List.nil_append]
    rw [b214_42 o11, if_neg g2, if_pos rfl, m231 (d := d + 8) o11 htk]
    simp only [Option.bind_some, Option.toList_some, Option.toList_none, List.append_nil, List.cons_append, List.nil_append]
    rw [b214_56 o11, if_neg g9, if_pos rfl, m234 (d := d + 8) o11 htk]
    simp only [Option.bind_some, Option.toList_some, Option.toList_none, List.append_nil, List.cons_append, List.nil_append]
    rw [b214_70 o11, if_neg g12, if_pos rfl, m236 (d := d + 8) o11 htk]
    simp only [Option.bind_some, Option.toList_some, Option.toList_none, List.append_nil, List.cons_append, List.nil_append]
    rw [b214_84 o11, if_neg g14, if_pos rfl, m237 (d := d + 8) o11 htk]
    simp only [Option.bind_some, Option.toList_some, Option.toList_none, List.append_nil, List.cons_append, List.nil_append]
    rw [b214_98 o11, if_neg g15, if_pos rfl, m238 (d := d + 8) o11 htk]
    simp only [Option.bind_some, Option.toList_some, Option.toList_none, List.append_nil, List.cons_append, List.nil_append]
    rw [b214_112 o11, if_neg g16, if_pos rfl, a1]
    simp only [Option.bind_some, Option.toList_some, Option.toList_none, List.append_nil, List.cons_append, List.nil_append]
    rw [b214_126]
  · have hsw : hs_swt (nI (K j)) 0 16 [88, 93, 98, 128, 128, 128, 128, 128, 128, 103, 128, 128, 108, 128, 113, 118, 123] 128 = 128 := by
      have : ∀ k, k ≤ 38 → (k = 0 ∨ k = 1 ∨ k = 2 ∨ k = 9 ∨ k = 12 ∨ k = 14 ∨ k = 15 ∨ k = 16 ∨ hs_swt (nI k) 0 16 [88, 93, 98, 128, 128, 128, 128, 128, 128, 103, 128, 128, 108, 128, 113, 118, 123] 128 = 128) := by decide
      exact ((((((((this _ hkj).resolve_left g0).resolve_left g1).resolve_left g2).resolve_left g9).resolve_left g12).resolve_left g14).resolve_left g15).resolve_left g16
    rw [e45, b45_0 o7 r0 o8, hC.1, hsw, b45_128 o7 r0 o8, show (2 : Int32) = nI 2 from rfl, z1]
    simp only [Option.bind_some, Option.toList_some, Option.toList_none, List.append_nil, List.cons_append, List.nil_append]
    rw [b45_136]; rfl
/-- all parts -/
theorem stLoop (o11 : ok11 hs_S0 R 140) (o7 : ok7 hs_S0 R' 10) (r0 : R' 10 0 = 4) (r1 : R' 10 1 = t) (o8 : ok8 hs_S0 R' 4) (o4 : ok4 hs_S0 R' t) (ht : t = 18 ∨ t = 34) (hK : TKS E N B K A V H) : ∀ (m : Nat) {j r : Nat} {I : Nat → Nat → Int32} {L : Nat → Nat → Int64} {J : Nat → Nat → Int32} {q : Nat → Int32} {M : Nat → Nat → Int64} {l : Nat → Int64} {n np nr nl nb nq : Nat} {o g : Bool}, N ≤ j + m → j < N → r ≤ j → JB E B J → TC N K A V j I L → MC E K A V H j q l → SP n np nr nl nb nq o g t I L J M q → ∃ (I' : Nat → Nat → Int32) (L' : Nat → Nat → Int64) (J' : Nat → Nat → Int32) (q' : Nat → Int32) (M' : Nat → Nat → Int64) (l' : Nat → Int64), FX t I L I' L' ∧ FM J q M l J' q' M' l' ∧ hs_R scr (d + 11) 207 33 [some (.ref 140), some (.int x1)] [] (hs_S0, hs_z J 140 q, hs_z M 140 l, R) = hs_R scr (d + 11) 207 64 [some (.ref 140), some (.int x1)] [] (hs_S0, hs_z J' 140 q', hs_z M' 140 l', R) ∧ ((hs_R scr (d + 10) 43 29 [some (.ref 10), some (.ref 4), some (.ref t), some (.int (nI r))] [] (hs_S0, I, L, R') = some (some (.int 1), (hs_S0, I', L', R')) ∧ q' 12 = 0 ∧ I' 4 11 = 0 ∧ I' 4 12 = -1 ∧ ∃ n np nr nl nb nq o g, SP n np nr nl nb nq o g t I' L' J' M' q' ∧ I' t 17 = (if nr = 0 then -1 else 0)) ∨ (∃ c a, hs_R scr (d + 10) 43 29 [some (.ref 10), some (.ref 4), some (.ref t), some (.int (nI r))] [] (hs_S0, I, L, R') = some (some (.int 0), (hs_S0, I', L', R')) ∧ BC c a I' ∧ BM c a q')) := by
  intro m
  induction m with
  | zero => intro j r I L J q M l n np nr nl nb nq o g h1 h2; omega
  | succ m ih =>
    intro j r I L J q M l n np nr nl nb nq o g hm hj hr hJ hT hM hS
    have hkj := (hK.2.2.2.2.2 j hj).1
    have hN := hK.2.1
    have h12 := hM.2.2.2.2
    obtain ⟨I1, L1, e1, t1, c1, f1⟩ := x44 (scr := scr) (d := d + 9) (R := R') o8 hK.2.1 hT hj
    have hS1 : SP n np nr nl nb nq o g t I1 L1 J M q := SP_4 (by omega) hS f1 rfl
    have eX : hs_R scr (d + 10) 43 29 [some (.ref 10), some (.ref 4), some (.ref t), some (.int (nI r))] [] (hs_S0, I, L, R') = hs_R scr (d + 10) 43 43 [some (.ref 10), some (.ref 4), some (.ref t), some (.int (nI r))] [] (hs_S0, I1, L1, R') := by
      rw [b43_29 o7 r0 o8, if_neg (show ¬ (900 : Int32) < nI r from nI_nlt (a := 900) (b := r) (by omega) (by omega)), e1]; rfl
    by_cases g37 : K j = 37
    · have hU := hS1.2.2.1
      refine ⟨hs_u I1 t 17 (if nr = 0 then -1 else 0), L1, J, q, M, l, FX_tr (FX_4 f1) ⟨fun k a b c => hu_row _ _ (by omega), fun _ _ _ => rfl, hu_at _ _ (by omega)⟩, FM_rf, ?_, Or.inl ⟨?_, h12, ?_, ?_, n, np, nr, nl, nb, nq, o, g, ?_, hu_same _ _ _ _⟩⟩
      · rw [b207_33 o11, hz_s, h12, if_pos rfl, if_pos ((TokR_0 hM.2.2.2.1).mpr g37)]
      · rw [eX, b43_43 o7 r0 o8 r1 o4, c1.1, if_pos (show nI (K j) = 37 by rw [g37]; rfl), hU.2.2.1]
        by_cases g0 : nr = 0
        · rw [if_pos (by rw [g0]; decide), if_pos g0, b43_74 o4]
        · rw [if_neg (show ¬ nI nr ≤ 0 from nI_ge (a := 0) (by omega) (by have := hU.1; omega)), if_neg g0, b43_74 o4]
      · rw [hu_row _ _ (by omega)]; exact t1.2.2.2.1
      · rw [hu_row _ _ (by omega)]; exact t1.2.2.2.2
      · obtain ⟨b1, b2, b3, b4, b5, b6, b7, b8, b9, b10, b11⟩ := hS1
        exact ⟨RH_cg b1 (fun _ _ => rfl) (by simp (disch := omega) only [hu_same, hu_row, hu_at, hu_hu]) (by simp (disch := omega) only [hu_same, hu_row, hu_at, hu_hu]) (by simp (disch := omega) only [hu_same, hu_row, hu_at, hu_hu]) (by simp (disch := omega) only [hu_same, hu_row, hu_at, hu_hu]) (by simp (disch := omega) only [hu_same, hu_row, hu_at, hu_hu]), RP_cg b2 (fun _ _ => rfl) (by simp (disch := omega) only [hu_same, hu_row, hu_at, hu_hu]) (by simp (disch := omega) only [hu_same, hu_row, hu_at, hu_hu]) (by simp (disch := omega) only [hu_same, hu_row, hu_at, hu_hu]), RU0_cg b3 (fun _ _ => rfl) (by simp (disch := omega) only [hu_same, hu_row, hu_at, hu_hu]) (by simp (disch := omega) only [hu_same, hu_row, hu_at, hu_hu]), RLk_cg b4 (fun _ _ => rfl) (by simp (disch := omega) only [hu_same, hu_row, hu_at, hu_hu]) (by simp (disch := omega) only [hu_same, hu_row, hu_at, hu_hu]), RB_cg b5 (fun _ _ => rfl) (by simp (disch := omega) only [hu_same, hu_row, hu_at, hu_hu]) (by simp (disch := omega) only [hu_same, hu_row, hu_at, hu_hu]) (by simp (disch := omega) only [hu_same, hu_row, hu_at, hu_hu]) (by simp (disch := omega) only [hu_same, hu_row, hu_at, hu_hu]), RD_cg b6 (fun _ _ => rfl) (by simp (disch := omega) only [hu_same, hu_row, hu_at, hu_hu]) (by simp (disch := omega) only [hu_same, hu_row, hu_at, hu_hu]) (by simp (disch := omega) only [hu_same, hu_row, hu_at, hu_hu]) (by simp (disch := omega) only [hu_same, hu_row, hu_at, hu_hu]), RN_cg b7 (fun _ _ => rfl) (by simp (disch := omega) only [hu_same, hu_row, hu_at, hu_hu]) (by simp (disch := omega) only [hu_same, hu_row, hu_at, hu_hu]) (by simp (disch := omega) only [hu_same, hu_row, hu_at, hu_hu]) rfl, b8, by rw [hu_row _ _ (by omega)]; exact b9, by rw [hu_row _ _ (by omega)]; exact b10, b11⟩
    · have hj1 : j + 1 < N := hK.2.2.2.2.1 j hj g37
      obtain ⟨I2, L2, J2, q2, M2, l2, p1, p2, p3, p4⟩ := rdPart (scr := scr) (d := d) (R := R) (R' := R') (show PH E N B K A V H R R' t j I1 L1 J q M l n np nr nl nb nq o g from ⟨o11, o7, r0, r1, o8, o4, ht, hK, hJ, hj1, t1, c1, hM, hS1⟩) g37
      have hJ2 : JB E B J2 := fun i hi => by rw [p2.1 144 (by omega)]; exact hJ i hi
      have eM : hs_R scr (d + 11) 207 33 [some (.ref 140), some (.int x1)] [] (hs_S0, hs_z J 140 q, hs_z M 140 l, R) = hs_R scr (d + 11) 207 51 [some (.ref 140), some (.int x1)] [] (hs_S0, hs_z J2 140 q2, hs_z M2 140 l2, R) := by
        rw [b207_33 o11, hz_s, h12, if_pos rfl, if_neg (fun q => g37 ((TokR_0 hM.2.2.2.1).mp q)), p3]; rfl
      have eX2 : hs_R scr (d + 10) 43 29 [some (.ref 10), some (.ref 4), some (.ref t), some (.int (nI r))] [] (hs_S0, I, L, R') = ((hs_C scr (d + 9) 45 [.ref 10] (hs_S0, I1, L1, R')).bind fun o => hs_R scr (d + 10) 43 83 [some (.ref 10), some (.ref 4), some (.ref t), some (.int (nI r))] (o.1.toList ++ []) o.2) := by
        rw [eX, b43_43 o7 r0 o8 r1 o4, c1.1, if_neg (show ¬ nI (K j) = 37 from fun q => g37 ((nI_eq (b := 37) (by omega) (by omega)).mp q))]
      have hF2 : FX t I L I2 L2 := FX_tr (FX_4 f1) p1
      have eMbad : ∀ {q3 : Nat → Int32} {l3 : Nat → Int64} {c a : Nat}, BM c a q3 → hs_R scr (d + 11) 207 33 [some (.ref 140), some (.int x1)] [] (hs_S0, hs_z J2 140 q3, hs_z M2 140 l3, R) = hs_R scr (d + 11) 207 64 [some (.ref 140), some (.int x1)] [] (hs_S0, hs_z J2 140 q3, hs_z M2 140 l3, R) := by
        intro q3 l3 c a hb
        rw [b207_33 o11, hz_s, if_neg (BM_n hb).2.1]
      rcases p4 with ⟨j1, a1, a2, a3, a4, a5, a6⟩ | ⟨c, a, a1, a2, a3⟩
      · obtain ⟨q3, l3, b1, b2, b3, b4⟩ := m248w (scr := scr) (d := d + 8) (M := M2) (W := 33) o11 hK hJ2 a2 a3 (by omega)
        have eM2 : hs_R scr (d + 11) 207 33 [some (.ref 140), some (.int x1)] [] (hs_S0, hs_z J 140 q, hs_z M 140 l, R) = hs_R scr (d + 11) 207 33 [some (.ref 140), some (.int x1)] [] (hs_S0, hs_z J2 140 q3, hs_z M2 140 l3, R) := by
          rw [eM, b207_51 o11, m257_59 o11 a3.2.2.2.1]
          simp only [Option.bind_some, Option.toList_some, Option.toList_none, List.append_nil, List.cons_append, List.nil_append]
          rw [b207_58 o11, b1]
          simp only [Option.bind_some, Option.toList_some, Option.toList_none, List.append_nil, List.cons_append, List.nil_append]
          rw [b207_61]
        by_cases g33 : K j1 = 33
        · obtain ⟨c1', n', np', nr', nl', nb', nq', o', g', c2'⟩ := a5 g33
          have hj2 : j1 + 1 < N := hK.2.2.2.2.1 j1 a2 (by omega)
          obtain ⟨I4, L4, J4, q4, M4, l4, u1, u2, u3, u4⟩ := ih (j := j1 + 1) (r := r + 1) (by omega) hj2 (by omega) hJ2 c1' (b3 g33) (SP_4 (by omega) c2' T4_rf (b2.1 25 (by omega)))
          refine ⟨I4, L4, J4, q4, M4, l4, FX_tr hF2 u1, FM_tr p2 (FM_tr (FM_q b2) u2), eM2.trans u3, ?_⟩
          have eX3 : hs_R scr (d + 10) 43 29 [some (.ref 10), some (.ref 4), some (.ref t), some (.int (nI r))] [] (hs_S0, I, L, R') = hs_R scr (d + 10) 43 29 [some (.ref 10), some (.ref 4), some (.ref t), some (.int (nI (r + 1)))] [] (hs_S0, I2, L2, R') := by
            rw [eX2, a4, if_pos g33]
            simp only [Option.bind_some, Option.toList_some, Option.toList_none, List.append_nil, List.cons_append, List.nil_append]
            rw [b43_83, if_neg (by decide), nI_1]
          rw [eX3]; exact u4
        · refine ⟨I2, L2, J2, q3, M2, l3, hF2, FM_tr p2 (FM_q b2), eM2.trans (eMbad (b4 g33)), Or.inr ⟨_, _, ?_, a6 g33, b4 g33⟩⟩
          rw [eX2, a4, if_neg g33]
          simp only [Option.bind_some, Option.toList_some, Option.toList_none, List.append_nil, List.cons_append, List.nil_append]
          rw [b43_83, if_pos rfl]
      · obtain ⟨b, h1, h2⟩ := m257g (scr := scr) (d := d + 10) (x := 59) (q := q2) (l := l2) (J := J2) (M := M2) o11
        refine ⟨I2, L2, J2, q2, M2, l2, hF2, p2, ?_, Or.inr ⟨c, a, ?_, a2, a3⟩⟩
        · rw [eM, b207_51 o11, h1]
          simp only [Option.bind_some, Option.toList_some, Option.toList_none, List.append_nil, List.cons_append, List.nil_append]
          rw [b207_58 o11, m248b (d := d + 9) o11 a3]
          simp only [Option.bind_some, Option.toList_some, Option.toList_none, List.append_nil, List.cons_append, List.nil_append]
          rw [b207_61]
          exact eMbad a3
        · rw [eX2, a1]
          simp only [Option.bind_some, Option.toList_some, Option.toList_none, List.append_nil, List.cons_append, List.nil_append]
          rw [b43_83, if_pos rfl]
end ST
