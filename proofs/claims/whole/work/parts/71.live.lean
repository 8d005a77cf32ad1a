/-! live -/
def zO (J : Nat → Nat → Int32) : Nat → Int32 := fun i => if i = 0 then J 140 33 else if i = 1 then J 140 34 else if i = 2 then J 140 35 else if i = 3 then J 140 36 else if i = 4 then J 140 37 else if i = 5 then J 140 38 else if i = 6 then J 140 32 else J 140 39
theorem zr_zO (J : Nat → Nat → Int32) : zr J (zO J) = J 140 := by
  funext f
  unfold zr
  by_cases h0 : f = 33
  · subst h0; rfl
  rw [if_neg h0]
  by_cases h1 : f = 34
  · subst h1; rfl
  rw [if_neg h1]
  by_cases h2 : f = 35
  · subst h2; rfl
  rw [if_neg h2]
  by_cases h3 : f = 36
  · subst h3; rfl
  rw [if_neg h3]
  by_cases h4 : f = 37
  · subst h4; rfl
  rw [if_neg h4]
  by_cases h5 : f = 38
  · subst h5; rfl
  rw [if_neg h5]
  by_cases h6 : f = 32
  · subst h6; rfl
  rw [if_neg h6]
  by_cases h7 : f = 39
  · subst h7; rfl
  rw [if_neg h7]
theorem mk_id (J : Nat → Nat → Int32) : mkM J (J 145) (zO J) = J := by
  unfold mkM
  rw [zr_zO, hz_id J 140]
  exact hz_id J 145
theorem mk_o {J0 : Nat → Nat → Int32} {r z : Nat → Int32} {f : Nat} (h : f < 32) : mkM J0 r z 140 f = J0 140 f := by
  rw [mk_140]; unfold zr
  rw [if_neg (by omega), if_neg (by omega), if_neg (by omega), if_neg (by omega), if_neg (by omega), if_neg (by omega), if_neg (by omega), if_neg (by omega)]
section LV
variable {scr : List Int32} {d dx D n np nr nl nb nq t p u sz c T s rt st pt qt x : Nat} {r z g P1 P2 P3 P4 P5 : Nat → Int32} {ww : Nat → Int64} {sd x1 x3 x' : Int32} {I J0 : Nat → Nat → Int32} {L L2 : Nat → Nat → Int64} {R R2 : Nat → Nat → Nat}
theorem exX (hL : LE R u t p) (hS : (LSt n np nr nl nb nq t p u sz g P1 P2 P3 P4 P5 ww L) I r z c) (hT : T < 10000) (hsz : sz ≤ 60) (h : x' = nI sz ∨ z 7 = 1) : hX scr dx u p t sd L R x' T I = some (none, (hs_S0, I, L, R)) := by
  obtain ⟨o2, r7, r8, o4, o5, ht, hp, hu⟩ := hL
  obtain ⟨hR, ⟨z0, z1, z2, z3, z4, z5, z6⟩, hz, e1, hc3, ⟨ep5, hPP⟩, hg⟩ := hS
  unfold hX
  rw [b172_51 o2 r7 o5]
  rcases h with rfl | h
  · simp (disch := omega) only [Option.bind_some, Option.toList_some, Option.toList_none, List.append_nil, List.cons_append, List.nil_append, ↓reduceIte, true_or, or_true, Nat.reduceAdd, Nat.add_assoc, f_ge, t_le, t_lt, f_lt, f_l0, t_0l, t_pl, t_eq, f_eq, f_e0, i10, i01, ib_nI, nI_clamp, nI_add, ad10, ad18, ad26, ad34, ad42, ad47, ad52, ad59, ad107, ad117, ml8, mr8, ml5, ml10, f10000, ep5, b172_170]
  · have e5 : I u 5 = 1 := z5.trans h
    simp (disch := omega) only [Option.bind_some, Option.toList_some, Option.toList_none, List.append_nil, List.cons_append, List.nil_append, ↓reduceIte, true_or, or_true, Nat.reduceAdd, Nat.add_assoc, f10000, e5, i10, b172_170, ite_self]
theorem runs (o11 : ok11 hs_S0 R2 140) (o2 : ok2 hs_S0 R u) (o2' : ok2 hs_S0 (hs_u R u 7 p) u) (o5 : ok5 hs_S0 R p) (o4 : ok4 hs_S0 (hs_u R u 7 p) t) (hL : LE (hs_u (hs_u R u 7 p) u 8 t) u t p) (hX : RX n np nr nl nb nq r ww I L t p) (h1 : r 127 = 1) (hs : s < 65536) (hD : 70 ≤ D) : ∃ I' r' z', hs_C scr (dx + 5) 172 [.ref u, .ref p, .ref t, .int (nI s)] (hs_S0, I, L, R) = some (none, (hs_S0, I', L, hs_u (hs_u R u 7 p) u 8 t)) ∧ hs_C scr D 347 [.ref 140, .int (nI s)] (hs_S0, mkM J0 r z, L2, R2) = some (none, (hs_S0, mkM J0 r' z', L2, R2)) ∧ RX n np nr nl nb nq r' ww I' L t p ∧ XZ I' u z' ∧ (∀ j, (j < t ∨ t + 16 ≤ j) → j ≠ u → j ≠ u + 1 → I' j = I j) ∧ (∀ i, 127 ≤ i → r' i = r i) ∧ (z' 7 = 0 ∨ z' 7 = 1) := by
  obtain ⟨q2, r7, r8, q4, q5, ht, hp, hu⟩ := id hL
  have hG := hX.2.2.2.2.2.2.2
  unfold RG RG0 at hG
  obtain ⟨_, h0 | ⟨_, ns, sz, hns, hsz, e1, e6, e5, hSg⟩⟩ := hG
  · have : r 127 = 0 := h0
    rw [h1] at this; exact absurd this (by decide)
  · have e128 : r 128 = nI ns := e1
    have hrow : ∀ j, j ≠ u → hs_u (hs_u (hs_u (hs_u (hs_u (hs_u (hs_u I u 6 (nI s)) u 0 0) u 1 0) u 2 0) u 3 0) u 4 0) u 5 0 j = I j := fun j hj => by simp (disch := omega) only [hu_row]
    have hS : LSt n np nr nl nb nq t p u sz (rs 0 272 (fun k => r (127 + k))) (rs 0 60 (I (p + 1))) (rs 0 60 (I (p + 2))) (rs 0 60 (I (p + 3))) (rs 0 60 (I (p + 4))) (rs 0 60 (I (p + 5))) ww L (hs_u (hs_u (hs_u (hs_u (hs_u (hs_u (hs_u I u 6 (nI s)) u 0 0) u 1 0) u 2 0) u 3 0) u 4 0) u 5 0) r (up (up (up (up (up (up (up (up z 0 (nI s)) 1 0) 2 0) 3 0) 4 0) 5 0) 7 0) 6 0) 0 := by
      refine ⟨RX_cg hX (fun k hk => rfl) (fun k hk => rfl) (fun o ho => hrow _ (by omega)) rfl (fun o ho => hrow _ (by omega)), ?_, ⟨s, hs, rfl⟩, rfl, by omega, ⟨?_, fun j hj => ?_⟩, fun k hk => ?_⟩
      · unfold XZ
        simp (disch := omega) only [hu_same, hu_row, hu_at, hu_hu, up_n, up_s, and_self]
      · rw [hrow _ (by omega)]; exact e5
      · unfold rs
        rw [hrow _ (by omega), hrow _ (by omega), hrow _ (by omega), hrow _ (by omega), hrow _ (by omega), if_pos hj, if_pos hj, if_pos hj, if_pos hj, if_pos hj]
        exact ⟨rfl, rfl, rfl, rfl, rfl⟩
      · unfold rs; rw [if_pos hk]
    obtain ⟨D0, rfl⟩ : ∃ D0, D = D0 + 1 := ⟨D - 1, by omega⟩
    obtain ⟨I', r', z', c', T', x', eM, eX, hS', hF, h127, hc, hor⟩ := sim (scr := scr) (dx := dx) (sd := nI s) (J0 := J0) (L2 := L2) (R2 := R2) o11 hL hsz 31 (D := D0) (T := 0) (x1 := 0) hSg hns (Nat.le_refl _) (by omega) hS rfl rfl (by unfold pot; omega)
    have hpot : pot (31 + 1) 0 = 9600 := rfl
    have hz7 : z' 7 = 0 ∨ z' 7 = 1 := by
      rcases hor with ⟨_, b, _⟩ | ⟨_, b | b, _⟩
      · exact Or.inl b
      · exact Or.inr b
      · exact Or.inl b.1
    have hex : x' = nI sz ∨ z' 7 = 1 := by
      rcases hor with ⟨_, _, b, _⟩ | ⟨_, b | b, _⟩
      · exact Or.inl b
      · exact Or.inr b
      · exact Or.inl b.2
    have hT' : T' < 10000 := by
      rcases hor with ⟨_, _, _, b, _⟩ | ⟨_, _, b⟩
      · omega
      · omega
    refine ⟨I', r', z', ?_, ?_, hS'.1, hS'.2.1, fun j h1 h2 h3 => (hF.1 j h1 h2 h3).trans (hrow j h2), h127, hz7⟩
    · rw [e172, b172_0 o2 o5, b172_5 o2' o4, b172_10 q2]
      rw [nI_0] at eX
      exact eX.trans (exX hL hS' hT' hsz hex)
    · rw [nI_0] at eM
      rw [e347, b347_0 o11]
      simp (disch := omega) only [Option.bind_some, Option.toList_some, Option.toList_none, List.append_nil, List.cons_append, List.nil_append, ↓reduceIte, true_or, or_true, Nat.reduceAdd, Nat.add_assoc, mk_145, mk_u, mk_33, mk_34, mk_35, mk_36, mk_37, mk_38, mk_32, mk_39, mk_u33, mk_u34, mk_u35, mk_u36, mk_u37, mk_u38, mk_u32, mk_u39, e128, e348, b348_0, eM, b347_53]
theorem Env_u {a b : Nat} (h : Env R rt st pt qt) (h2 : a ≠ 2) (hk : (hs_Rc.all fun e => !(Nat.beq e.1 a && Nat.beq e.2.1 b)) = true) : Env (hs_u R a b x) rt st pt qt := by
  obtain ⟨a1, a2, a3, a4, a5, a6, a7⟩ := h
  exact ⟨Rc_u a1 hk, by rw [hu_row _ _ (fun q => h2 q.symm)]; exact a2, by rw [hu_row _ _ (fun q => h2 q.symm)]; exact a3, by rw [hu_row _ _ (fun q => h2 q.symm)]; exact a4, by rw [hu_row _ _ (fun q => h2 q.symm)]; exact a5, a6, a7⟩
theorem ca56 : CA56 scr hs_S0 Rel 99 := by
  intro x I L R hP
  obtain ⟨rt, st, pt, qt, n, np, nr, nl, nb, nq, hA⟩ := hP; obtain ⟨hE, ⟨⟨hn8, hc0, hx0, hh⟩, ⟨hp5, hc1, hx1, hpp⟩, ⟨hr6, hc2, hx2, hrr, hru⟩, ⟨hl6, hc3, hx3, hll⟩, ⟨hb6, hq10, hc4, hx4, hc5, hx5, hqq⟩, hD, hN, hG⟩, hT, hTx, hM, hK⟩ := id hA; have o10 := k10_2 hE.1; have o11 := k11_140 hE.1; have o4 := Env_4 hE; have o1 : ok1 hs_S0 R (rt + 5) := o4.2.2.2.2.2.1; have r10_8 := hE.2.1; have hrt := hE.2.2.2.2.2.1; have hpt := hE.2.2.2.2.2.2
  have o5 := Env_5 hE
  have r10_10 : R 2 10 = pt := hE.2.2.2.1
  have hp7 : I pt 7 = I 145 127 := hG.1
  have h127 : I 145 127 = 0 ∨ I 145 127 = 1 := by
    rcases hG.2 with h | h
    · exact Or.inl h
    · exact Or.inr h.1
  rcases rg x 0 9999 with hx | ⟨h1, h2, h3⟩
  · refine CK_st hA (-1) 5 ?_ ?_
    · simp (disch := omega) only [Option.bind_some, Option.toList_some, Option.toList_none, List.append_nil, List.cons_append, List.nil_append, ↓reduceIte, true_or, or_true, Nat.reduceAdd, Nat.add_assoc, f_ge, t_le, t_lt, f_lt, f_l0, t_0l, t_pl, t_eq, f_eq, f_e0, i10, i01, ib_nI, nI_clamp, nI_add, ad10, ad18, ad26, ad34, ad42, ad47, ad52, ad59, ad107, ad117, ml8, mr8, ml5, ml10, hu_same, hu_row, hu_at, hu_hu, e171, b171_0 o10 r10_10 o5 r10_8 o4, b171_11 o10, b171_16, b171_33, b171_50 o10, b171_66, e28, b28_0 o10, out_g hx]
    · simp (disch := first | omega | (simp (disch := omega) only [hu_same, hu_row, hu_at, hu_hu, hc0, hc1, hc2, hc3, hc4, hc5]; done)) only [Option.bind_some, Option.toList_some, Option.toList_none, List.append_nil, List.cons_append, List.nil_append, ↓reduceIte, true_or, or_true, Nat.reduceAdd, Nat.add_assoc, f_ge, t_le, t_lt, f_lt, f_l0, t_0l, t_pl, t_eq, f_eq, f_e0, i10, i01, ib_nI, nI_clamp, nI_add, ad10, ad18, ad26, ad34, ad42, ad47, ad52, ad59, ad107, ad117, ml8, mr8, ml5, ml10, hu_same, hu_row, hu_at, hu_hu, e346, b346_0 o11, b346_19 o11, b346_27, b346_44, e265, b265_0 o11, s223 0 9999 0 9999 rfl rfl, out_g hx]
  · obtain ⟨s, hs, rfl⟩ := rg_nat 9999 rfl (by decide) h1 h2
    rcases h127 with h0 | h0
    · refine CK_st hA (-1) 8 ?_ ?_
      · simp (disch := omega) only [Option.bind_some, Option.toList_some, Option.toList_none, List.append_nil, List.cons_append, List.nil_append, ↓reduceIte, true_or, or_true, Nat.reduceAdd, Nat.add_assoc, f_ge, t_le, t_lt, f_lt, f_l0, t_0l, t_pl, t_eq, f_eq, f_e0, i10, i01, ib_nI, nI_clamp, nI_add, ad10, ad18, ad26, ad34, ad42, ad47, ad52, ad59, ad107, ad117, ml8, mr8, ml5, ml10, hu_same, hu_row, hu_at, hu_hu, e171, b171_0 o10 r10_10 o5 r10_8 o4, b171_11 o10, b171_16, b171_33, b171_50 o10, b171_66, e28, b28_0 o10, h1, h2, hp7, h0]
      · simp (disch := first | omega | (simp (disch := omega) only [hu_same, hu_row, hu_at, hu_hu, hc0, hc1, hc2, hc3, hc4, hc5]; done)) only [Option.bind_some, Option.toList_some, Option.toList_none, List.append_nil, List.cons_append, List.nil_append, ↓reduceIte, true_or, or_true, Nat.reduceAdd, Nat.add_assoc, f_ge, t_le, t_lt, f_lt, f_l0, t_0l, t_pl, t_eq, f_eq, f_e0, i10, i01, ib_nI, nI_clamp, nI_add, ad10, ad18, ad26, ad34, ad42, ad47, ad52, ad59, ad107, ad117, ml8, mr8, ml5, ml10, hu_same, hu_row, hu_at, hu_hu, e346, b346_0 o11, b346_19 o11, b346_27, b346_44, e265, b265_0 o11, s223 0 9999 0 9999 rfl rfl, h1, h2, h0]
    · have hE1 : Env (hs_u R 62 7 pt) rt st pt qt := Env_u hE (by omega) (by decide)
      have hE2 : Env (hs_u (hs_u R 62 7 pt) 62 8 rt) rt st pt qt := Env_u hE1 (by omega) (by decide)
      have hLE : LE (hs_u (hs_u R 62 7 pt) 62 8 rt) 62 rt pt := ⟨k2_62 hE2.1, by rw [hu_at _ _ (by omega), hu_same], hu_same _ _ _ _, Env_4 hE2, Env_5 hE2, by omega, by omega, Or.inl rfl⟩
      have o11' := k11_140 hE2.1
      have o10' := k10_2 hE2.1
      obtain ⟨I0, r0, z0, eX0, -, -, -, hF0, -⟩ := runs (scr := scr) (dx := 93) (D := 98) (J0 := I) (z := zO I) (L2 := L) (s := s) o11' (k2_62 hE.1) (k2_62 hE1.1) o5 (Env_4 hE1) hLE hA.2.1 h0 (by omega) (by omega)
      obtain ⟨J, hJ⟩ : ∃ J, J = hs_u (hs_u (hs_u (hs_u I0 2 14 1) 2 16 0) 140 1 0) 140 0 0 := ⟨_, rfl⟩
      have hJ145 : J 145 = I 145 := by rw [hJ]; simp (disch := omega) only [hu_row]; exact hF0 145 (by omega) (by omega) (by omega)
      obtain ⟨I', r', z', eX, eM, hX', hZ', hF, h127', hz7⟩ := runs (scr := scr) (dx := 93) (D := 98) (J0 := J) (z := zO J) (L2 := L) (s := s) o11' (k2_62 hE.1) (k2_62 hE1.1) o5 (Env_4 hE1) hLE hA.2.1 h0 (by omega) (by omega)
      have hII : I' = I0 := by
        have := eX0.symm.trans eX
        simp only [Option.some.injEq, Prod.mk.injEq, true_and, and_true] at this
        exact this.symm
      subst hII
      rw [← hJ145, mk_id] at eM
      obtain ⟨z0', z1', z2', z3', z4', z5', z6'⟩ := id hZ'
      have hJr : ∀ k, k ≠ 2 → k ≠ 140 → J k = I' k := fun k h1 h2 => by rw [hJ]; simp (disch := omega) only [hu_row]
      obtain ⟨K, hK2⟩ : ∃ K, K = hs_u (hs_u (hs_u (hs_u (hs_u (hs_u (mkM J r' z') 151 0 (z' 2)) 151 1 (z' 3)) 151 2 (z' 4)) 151 3 (z' 5)) 151 4 (z' 7)) 140 31 1 := ⟨_, rfl⟩
      have k145 : K 145 = r' := by rw [hK2]; simp (disch := omega) only [hu_row, mk_145]
      have kI : ∀ k, k ≠ 2 → k ≠ 140 → k ≠ 145 → k ≠ 151 → K k = I' k := fun k h1 h2 h3 h4 => by
        rw [hK2]; simp (disch := omega) only [hu_row, mk_row]; exact hJr k h1 h2
      have kI2 : ∀ k, k ≠ 2 → k ≠ 140 → k ≠ 145 → k ≠ 151 → (k < rt ∨ rt + 16 ≤ k) → k ≠ 62 → k ≠ 63 → K k = I k := fun k h1 h2 h3 h4 h5 h6 h7 => (kI k h1 h2 h3 h4).trans (hF k h5 h6 (by omega))
      have k2 : ∀ f, f ≠ 14 → f ≠ 16 → K 2 f = I 2 f := fun f h1 h2 => by
        rw [hK2]; simp (disch := omega) only [hu_row, mk_row]
        rw [hJ]; simp (disch := omega) only [hu_row, hu_at]
        rw [hF 2 (by omega) (by omega) (by omega)]
      have k140 : ∀ f, f < 31 → f ≠ 0 → f ≠ 1 → K 140 f = I 140 f := fun f h1 h2 h3 => by
        rw [hK2, hu_at _ _ (by omega)]; simp (disch := omega) only [hu_row]
        rw [mk_o (by omega), hJ]; simp (disch := omega) only [hu_row, hu_at]
        rw [hF 140 (by omega) (by omega) (by omega)]
      refine ⟨z' 1, hs_u (hs_u I' 2 14 1) 2 16 0, L, hs_u (hs_u R 62 7 pt) 62 8 rt, K, L, hs_u (hs_u R 62 7 pt) 62 8 rt, ?_, o11', ?_, ⟨rt, st, pt, qt, n, np, nr, nl, nb, nq, hE2, ?_, ?_, ?_, ?_, ?_⟩⟩
      · rw [e171, b171_0 o10 r10_10 o5 r10_8 o4, if_neg h1, if_pos h2, hp7, h0, if_neg (by decide), show (2 + 60 : Nat) = 62 from rfl, eX]
        simp only [Option.bind_some, Option.toList_some, Option.toList_none, List.append_nil, List.cons_append, List.nil_append, ↓reduceIte, true_or, or_true, Nat.reduceAdd, Nat.add_assoc]
        rw [b171_50 o10']
        simp (disch := omega) only [Option.bind_some, Option.toList_some, Option.toList_none, List.append_nil, List.cons_append, List.nil_append, ↓reduceIte, true_or, or_true, Nat.reduceAdd, Nat.add_assoc, hu_same, hu_row, hu_at, hu_hu, e68, b68_0 o10', b171_66, z0']
      · rw [e346, b346_0 o11', s223 0 9999 0 9999 rfl rfl]
        simp only [Option.bind_some, Option.toList_some, Option.toList_none, List.append_nil, List.cons_append, List.nil_append, ↓reduceIte, true_or, or_true, Nat.reduceAdd, Nat.add_assoc, h1, h2]
        rw [b346_19 o11', ← hJ]
        rw [if_neg (by decide), if_neg (show ¬ J (140 + 5) 127 = 0 by show ¬ J 145 127 = 0; rw [hJ145, h0]; decide), eM]
        simp only [Option.bind_some, Option.toList_some, Option.toList_none, List.append_nil, List.cons_append, List.nil_append, ↓reduceIte, true_or, or_true, Nat.reduceAdd, Nat.add_assoc]
        rw [b346_50 o11', hK2]
        simp (disch := omega) only [Option.bind_some, Option.toList_some, Option.toList_none, List.append_nil, List.cons_append, List.nil_append, ↓reduceIte, true_or, or_true, Nat.reduceAdd, Nat.add_assoc, hu_row, hu_at, mk_145, mk_u, mk_33, mk_34, mk_35, mk_36, mk_37, mk_38, mk_32, mk_39, mk_u33, mk_u34, mk_u35, mk_u36, mk_u37, mk_u38, mk_u32, mk_u39]
      · rw [k145]
        exact RX_cg hX' (fun k hk => rfl) (fun k hk => rfl) (fun o ho => kI _ (by omega) (by omega) (by omega) (by omega)) rfl (fun o ho => kI _ (by omega) (by omega) (by omega) (by omega))
      · exact Tr_cg hT (fun j hj => kI2 _ (by omega) (by omega) (by omega) (by omega) (by omega) (by omega) (by omega)) (fun j hj => rfl) (kI2 _ (by omega) (by omega) (by omega) (by omega) (by omega) (by omega) (by omega)) (kI2 _ (by omega) (by omega) (by omega) (by omega) (by omega) (by omega) (by omega)) rfl
      · have k4 := kI2 4 (by omega) (by omega) (by omega) (by omega) (by omega) (by omega) (by omega)
        exact Tx_cg hTx (by rw [k4]) (k140 _ (by omega) (by omega) (by omega)) (kI2 5 (by omega) (by omega) (by omega) (by omega) (by omega) (by omega) (by omega)) (kI2 144 (by omega) (by omega) (by omega) (by omega) (by omega) (by omega) (by omega)) (by rw [k4]) (k140 _ (by omega) (by omega) (by omega)) (by rw [k4]) (k140 _ (by omega) (by omega) (by omega)) rfl
      · have k62 := kI 62 (by omega) (by omega) (by omega) (by omega)
        have q14 : K 2 14 = 1 := by
          rw [hK2]; simp (disch := omega) only [hu_row, mk_row]
          rw [hJ]; simp (disch := omega) only [hu_row, hu_at, hu_same]
        have q16 : K 2 16 = 0 := by
          rw [hK2]; simp (disch := omega) only [hu_row, mk_row]
          rw [hJ]; simp (disch := omega) only [hu_row, hu_at, hu_same]
        have q0 : K 140 0 = 0 := by
          rw [hK2, hu_at _ _ (by omega)]; simp (disch := omega) only [hu_row]
          rw [mk_o (by omega), hJ]; simp (disch := omega) only [hu_row, hu_at, hu_same]
        have q31 : K 140 31 = 1 := by rw [hK2]; exact hu_same _ _ _ _
        have q151 : K 151 0 = z' 2 ∧ K 151 1 = z' 3 ∧ K 151 2 = z' 4 ∧ K 151 3 = z' 5 ∧ K 151 4 = z' 7 := by
          rw [hK2]; simp (disch := omega) only [hu_row, hu_at, hu_same, and_self]
        refine ⟨q16.trans q0.symm, hM.2.1, hM.2.2.1, q14.trans q31.symm, Or.inr ⟨q31, ?_⟩⟩
        rw [k62, q151.1, q151.2.1, q151.2.2.1, q151.2.2.2.1, q151.2.2.2.2]
        exact ⟨z1', z2', z3', z4', z5', hz7⟩
      · exact Mk_cg hK (k2 _ (by omega) (by omega)) (k140 _ (by omega) (by omega) (by omega)) (fun k h1 h2 => kI2 _ (by omega) (by omega) (by omega) (by omega) (by omega) (by omega) (by omega)) (fun k h1 h2 => rfl) (fun k h1 h2 => by rw [k145]; exact h127' k (by omega)) (fun k h1 h2 => rfl)
end LV
