/-! reigns lived: a step, rounds, all -/
section XS
variable {scr : List Int32} {d dx D f n np nr nl nb nq k a b w t p u sz ro q c m v T s e : Nat} {r z g P1 P2 P3 P4 P5 : Nat → Int32} {ww : Nat → Int64} {sd x1 x3 : Int32} {I J0 : Nat → Nat → Int32} {L L2 : Nat → Nat → Int64} {R R2 : Nat → Nat → Nat}
theorem stp_ab (hst : stOK n nl g P1 P2 P3 P4 (2 + 9 * s) ro k) : ∃ a b, b ≤ 99 ∧ (k = 0 → g (2 + 9 * s + 1) = nI a ∧ P4 ro = nI a ∧ a ≤ 20) ∧ (3 ≤ k ∧ k ≤ 5 → g (2 + 9 * s + 1) = nI a ∧ P3 ro = nI a ∧ a < n ∧ g (2 + 9 * s + 2) = nI b ∧ P4 ro = nI b ∧ b ≤ 99) := by
  obtain ⟨hk10, eg, ep1, h0, h3, h9, h8⟩ := hst
  by_cases q0 : k = 0
  · obtain ⟨e1, v, v1, v2, e2⟩ := h0 q0
    exact ⟨v, 0, by omega, fun _ => ⟨e2, e1.trans e2, v2⟩, fun q => absurd q (by omega)⟩
  · by_cases q3 : 3 ≤ k ∧ k ≤ 5
    · obtain ⟨e1, ⟨h, hh, e2⟩, e3, j, hj, e4⟩ := h3 q3
      exact ⟨h, j, hj, fun q => absurd q q0, fun _ => ⟨e2, e1.trans e2, hh, e4, e3.trans e4, hj⟩⟩
    · exact ⟨0, 0, by omega, fun q => absurd q q0, fun q => absurd q q3⟩
theorem gw (hg : ∀ k, k < 272 → r (127 + k) = g k) (hs : s < 30) (j : Nat) (hj : j < 9) : r (129 + 9 * s + j) = g (2 + 9 * s + j) := by
  rw [← hg (2 + 9 * s + j) (by omega)]; congr 1; omega
theorem XZ_st (hZ : XZ I u z) (x : Int32) : XZ (hs_u I u 0 x) u (up z 1 x) := by
  obtain ⟨z0, z1, z2, z3, z4, z5, z6⟩ := hZ
  unfold XZ
  simp (disch := omega) only [hu_same, hu_row, hu_at, hu_hu, up_n, up_s]
  exact ⟨trivial, z1, z2, z3, z4, z5, z6⟩
theorem LSt_0 (hL : LE R u t p) (hS : (LSt n np nr nl nb nq t p u sz g P1 P2 P3 P4 P5 ww L) I r z c) (hc : c < 300) : (LSt n np nr nl nb nq t p u sz g P1 P2 P3 P4 P5 ww L) (hs_u I u 0 (nI (c + 1))) r (up z 1 (nI (c + 1))) (c + 1) := by
  obtain ⟨o2, r7, r8, o4, o5, ht, hp, hu⟩ := hL
  obtain ⟨hR, hZ, hz, e1, hc3, hP, hg⟩ := hS
  exact ⟨RX_fu hR (by omega), XZ_st hZ _, hz, up_s _ _ _, hc, PRw_cg hP (fun o ho => hu_row _ _ (by omega)), hg⟩
theorem one7 (o11 : ok11 hs_S0 R2 140) (hL : LE R u t p) (hS : (LSt n np nr nl nb nq t p u sz g P1 P2 P3 P4 P5 ww L) I r z c) (h6 : z 6 = 0) (h7 : z 7 = 0) (hc : c < 300) (hs : s < 30) (hr : ro < sz) (hsz : sz ≤ 60) (hT : T < 10000) (hst : stOK n nl g P1 P2 P3 P4 (2 + 9 * s) ro k) (hk : k ≤ 7) : ∃ I' r' z', hs_C scr (D + 3) 349 [.ref 140, .int (nI s)] (hs_S0, mkM J0 r z, L2, R2) = some (none, (hs_S0, mkM J0 r' z', L2, R2)) ∧ hX scr dx u p t sd L R (nI ro) T I = hX scr dx u p t sd L R (nI (ro + 1)) (T + 1) I' ∧ (LSt n np nr nl nb nq t p u sz g P1 P2 P3 P4 P5 ww L) I' r' z' (c + 1) ∧ Fr t u ro (ro + 1) I I' ∧ (∀ i, 127 ≤ i → r' i = r i) ∧ z' 6 = 0 ∧ z' 7 = 0 := by
  obtain ⟨a, b, hb, ha0, ha3⟩ := stp_ab hst
  have p1 : P1 ro = kw k := hst.2.2.1
  have hS1 := LSt_0 hL hS hc
  have e1 : z 1 = nI c := hS.2.2.2.1
  obtain ⟨hR1, hZ1, hz1, e11, hc1, hP1, hg⟩ := id hS1
  have hPr := hP1.2 ro (by omega)
  obtain ⟨o2, r7, r8, o4, o5, ht, hp, hu⟩ := id hL
  have ew : r (129 + 9 * s) = nI k := (gw hg hs 0 (by omega)).trans hst.2.1
  obtain ⟨I2, e174', hX2, hZ2, hF2⟩ := x174 (scr := scr) (d := dx) (a := a) (b := b) hL hR1 hZ1 hz1 (show ro < 60 by omega) hk (hPr.1.trans p1) (fun q => ⟨hPr.2.2.2.1.trans (ha0 q).2.1, (ha0 q).2.2⟩) (fun q => ⟨hPr.2.2.1.trans (ha3 q).2.1, (ha3 q).2.2.1, hPr.2.2.2.1.trans (ha3 q).2.2.2.2.1, hb⟩)
  have hm := m350 (scr := scr) (d := D) (J0 := J0) (z := up z 1 (nI (c + 1))) (L := L2) (R := R2) (a := a) (b := b) (w := 129 + 9 * s) o11 (RW_of hR1) hz1 (by omega) hk ew (fun q => ⟨(gw hg hs 1 (by omega)).trans (ha0 q).1, (ha0 q).2.2⟩) (fun q => ⟨(gw hg hs 1 (by omega)).trans (ha3 q).1, (ha3 q).2.2.1, (gw hg hs 2 (by omega)).trans (ha3 q).2.2.2.1, hb⟩)
  have hP2 : I2 (p + 1) ro = kw k := by rw [hF2 _ (by omega) (by omega)]; exact hPr.1.trans p1
  have hPRw : PRw p sz P1 P2 P3 P4 P5 I2 := PRw_cg hP1 (fun o ho => hF2 _ (by omega) (by omega))
  have hz61 : up z 1 (nI (c + 1)) 6 = 0 := h6
  have hz71 : up z 1 (nI (c + 1)) 7 = 0 := h7
  have eR : hs_C scr (D + 3) 349 [.ref 140, .int (nI s)] (hs_S0, mkM J0 r z, L2, R2) = ((hs_C scr (D + 2) 350 [.ref 140, .int (nI (129 + 9 * s))] (hs_S0, mkM J0 r (up z 1 (nI (c + 1))), L2, R2)).bind fun o => hs_R scr (D + 3) 349 63 [some (.ref 140), some (.int (nI s)), some (.int (nI (129 + 9 * s))), some (.int (nI k)), none] (o.1.toList ++ [.int (z 2), .ref 140]) o.2) := by
    rw [e349, b349_0 o11]
    simp (disch := omega) only [Option.bind_some, Option.toList_some, Option.toList_none, List.append_nil, List.cons_append, List.nil_append, ↓reduceIte, true_or, or_true, Nat.reduceAdd, Nat.add_assoc, f_ge, t_le, t_lt, f_lt, f_l0, t_0l, t_pl, t_eq, f_eq, f_e0, i10, i01, ib_nI, nI_clamp, nI_add, ad10, ad18, ad26, ad34, ad42, ad47, ad52, ad59, ad107, ad117, ml8, mr8, ml5, ml10, mk_145, mk_u, mk_33, mk_34, mk_35, mk_36, mk_37, mk_38, mk_32, mk_39, mk_u33, mk_u34, mk_u35, mk_u36, mk_u37, mk_u38, mk_u32, mk_u39, e1, f300 hc, ml9, ad129, ew, f8l, nI_1, up_n]
  rw [hm] at eR
  by_cases hok : okA np k a b n r = true
  · rw [hok] at e174' hX2 hZ2 eR
    simp only [↓reduceIte] at e174' hX2 hZ2 eR
    obtain ⟨hA1, hA2, hA3, hA4, hA5, hA6, hA7, hA8⟩ := RW_A (z := up z 1 (nI (c + 1))) (RW_of hR1) hk hok (fun h1 h2 => (ha3 ⟨h1, h2⟩).2.2.1) hb hz1
    refine ⟨I2, rA k a b n r (up z 1 (nI (c + 1))), up (zA k a b n r (up z 1 (nI (c + 1)))) 2 (z 2 + 0), ?_, ?_, ⟨hX2, ?_, hA2, ?_, hc1, hPRw, fun j hj => (hA3 _ (by omega)).trans (hg j hj)⟩, ⟨fun j h1 h2 h3 => (hF2 j h1 h2).trans (hu_row _ _ h2), fun j _ => by rw [hF2 _ (by omega) (by omega), hu_row _ _ (by omega)]⟩, hA3, ?_, ?_⟩
    · rw [eR]
      simp only [Option.bind_some, Option.toList_some, Option.toList_none, List.append_nil, List.cons_append, List.nil_append, ↓reduceIte, true_or, or_true, Nat.reduceAdd, Nat.add_assoc, b349_63, i10, b349_71 (o_u0 := o11), mk_145, mk_u, mk_33, mk_34, mk_35, mk_36, mk_37, mk_38, mk_32, mk_39, mk_u33, mk_u34, mk_u35, mk_u36, mk_u37, mk_u38, mk_u32, mk_u39, b349_176]
    · rw [tkS hL hS h7 hc hr hsz hT (by omega) p1, e174']
      simp only [Option.bind_some, Option.toList_some, Option.toList_none, List.append_nil, List.cons_append, List.nil_append, ↓reduceIte, true_or, or_true, Nat.reduceAdd, Nat.add_assoc, b172_143 o2, i10, b172_156 o2, x180a (scr := scr) (d := dx + 4) (L := L) hL (show ro < 60 by omega) hk hP2, b172_162, b172_164, nI_1]
      rfl
    · obtain ⟨y0, y1, y2, y3, y4, y5, y6⟩ := hZ2
      refine ⟨y0, ?_, y2, y3, y4, y5, y6⟩
      rw [up_s, y1, hA6, Int32.add_zero]; rfl
    · rw [up_n _ _ (by omega), hA5]; exact e11
    · rw [up_n _ _ (by omega), hA7]; exact h6
    · rw [up_n _ _ (by omega), hA8]; exact h7
  · rw [Bool.not_eq_true] at hok
    rw [hok] at e174' hX2 hZ2 eR
    simp only [↓reduceIte, Bool.false_eq_true] at e174' hX2 hZ2 eR
    have hu1 : ∀ j, j ≠ u → hs_u I2 u 1 (z 2 + 1) j = I2 j := fun j hj => hu_row _ _ hj
    obtain ⟨y0, y1, y2, y3, y4, y5, y6⟩ := id hZ2
    refine ⟨hs_u I2 u 1 (z 2 + 1), r, up (up z 1 (nI (c + 1))) 2 (z 2 + 1), ?_, ?_, ⟨RX_fu hX2 (by omega), ?_, hz1, e11, hc1, PRw_cg hPRw (fun o ho => hu_row _ _ (by omega)), hg⟩, ⟨fun j h1 h2 h3 => (hu1 j h2).trans ((hF2 j h1 h2).trans (hu_row _ _ h2)), fun j _ => by rw [hu1 _ (by omega), hF2 _ (by omega) (by omega), hu_row _ _ (by omega)]⟩, fun _ _ => rfl, h6, h7⟩
    · rw [eR]
      simp only [Option.bind_some, Option.toList_some, Option.toList_none, List.append_nil, List.cons_append, List.nil_append, ↓reduceIte, true_or, or_true, Nat.reduceAdd, Nat.add_assoc, b349_63, b349_71 (o_u0 := o11), mk_145, mk_u, mk_33, mk_34, mk_35, mk_36, mk_37, mk_38, mk_32, mk_39, mk_u33, mk_u34, mk_u35, mk_u36, mk_u37, mk_u38, mk_u32, mk_u39, b349_176]
    · have y1' : I2 u 1 = z 2 := y1
      rw [tkS hL hS h7 hc hr hsz hT (by omega) p1, e174']
      simp only [Option.bind_some, Option.toList_some, Option.toList_none, List.append_nil, List.cons_append, List.nil_append, ↓reduceIte, true_or, or_true, Nat.reduceAdd, Nat.add_assoc, b172_143 o2, y1', b172_156 o2, x180a (scr := scr) (d := dx + 4) (L := L) hL (show ro < 60 by omega) hk (show hs_u I2 u 1 (z 2 + 1) (p + 1) ro = kw k by rw [hu1 _ (by omega)]; exact hP2), b172_162, b172_164, nI_1]
      rfl
    · unfold XZ
      simp (disch := omega) only [hu_same, hu_row, hu_at, hu_hu, up_n, up_s]
      exact ⟨y0, trivial, y2, y3, y4, y5, y6⟩
theorem ex120 (o11 : ok11 hs_S0 R2 140) {i : Nat} (hv : r (129 + (9 * s + 1)) = nI v) (hs : s < 30) (hvl : v ≤ 99) (hi : i ≤ 99) (h : z 6 = 1 ∨ v ≤ i) : hs_R scr (D + 1) 349 120 [some (.ref 140), some (.int (nI s)), some (.int (nI (129 + 9 * s))), some (.int x3), some (.int (nI i))] [] (hs_S0, mkM J0 r z, L2, R2) = some (none, (hs_S0, mkM J0 r z, L2, R2)) := by
  rw [b349_120 o11]
  by_cases g : v ≤ i
  · simp (disch := omega) only [Option.bind_some, Option.toList_some, Option.toList_none, List.append_nil, List.cons_append, List.nil_append, ↓reduceIte, true_or, or_true, Nat.reduceAdd, Nat.add_assoc, f_ge, t_le, t_lt, f_lt, f_l0, t_0l, t_pl, t_eq, f_eq, f_e0, i10, i01, ib_nI, nI_clamp, nI_add, ad10, ad18, ad26, ad34, ad42, ad47, ad52, ad59, ad107, ad117, ml8, mr8, ml5, ml10, mk_145, mk_u, mk_33, mk_34, mk_35, mk_36, mk_37, mk_38, mk_32, mk_39, mk_u33, mk_u34, mk_u35, mk_u36, mk_u37, mk_u38, mk_u32, mk_u39, nI_1, hv, b349_162, b349_176]
  · have h6 : z 6 = 1 := by
      rcases h with h | h
      · exact h
      · exact absurd h g
    simp (disch := omega) only [Option.bind_some, Option.toList_some, Option.toList_none, List.append_nil, List.cons_append, List.nil_append, ↓reduceIte, true_or, or_true, Nat.reduceAdd, Nat.add_assoc, f_ge, t_le, t_lt, f_lt, f_l0, t_0l, t_pl, t_eq, f_eq, f_e0, i10, i01, ib_nI, nI_clamp, nI_add, ad10, ad18, ad26, ad34, ad42, ad47, ad52, ad59, ad107, ad117, ml8, mr8, ml5, ml10, mk_145, mk_u, mk_33, mk_34, mk_35, mk_36, mk_37, mk_38, mk_32, mk_39, mk_u33, mk_u34, mk_u35, mk_u36, mk_u37, mk_u38, mk_u32, mk_u39, nI_1, hv, h6, b349_162, b349_176]
theorem st120 (o11 : ok11 hs_S0 R2 140) {i : Nat} {r' z' : Nat → Int32} (hv : r (129 + (9 * s + 1)) = nI v) (h8 : r (129 + (9 * s + 8)) = nI e) (hs : s < 30) (hvl : v ≤ 99) (hi : i < v) (h6 : z 6 = 0) (eM : hs_R scr D 348 2 [some (.ref 140), some (.int (nI (s + 1))), some (.int (nI e)), some (.int (nI (s + 1)))] [] (hs_S0, mkM J0 r z, L2, R2) = some (none, (hs_S0, mkM J0 r' z', L2, R2))) : hs_R scr (D + 1) 349 120 [some (.ref 140), some (.int (nI s)), some (.int (nI (129 + 9 * s))), some (.int x3), some (.int (nI i))] [] (hs_S0, mkM J0 r z, L2, R2) = hs_R scr (D + 1) 349 120 [some (.ref 140), some (.int (nI s)), some (.int (nI (129 + 9 * s))), some (.int x3), some (.int (nI (i + 1)))] [] (hs_S0, mkM J0 r' z', L2, R2) := by
  rw [b349_120 o11]
  simp (disch := omega) only [Option.bind_some, Option.toList_some, Option.toList_none, List.append_nil, List.cons_append, List.nil_append, ↓reduceIte, true_or, or_true, Nat.reduceAdd, Nat.add_assoc, f_ge, t_le, t_lt, f_lt, f_l0, t_0l, t_pl, t_eq, f_eq, f_e0, i10, i01, ib_nI, nI_clamp, nI_add, ad10, ad18, ad26, ad34, ad42, ad47, ad52, ad59, ad107, ad117, ml8, mr8, ml5, ml10, mk_145, mk_u, mk_33, mk_34, mk_35, mk_36, mk_37, mk_38, mk_32, mk_39, mk_u33, mk_u34, mk_u35, mk_u36, mk_u37, mk_u38, mk_u32, mk_u39, nI_1, adw8, hv, h8, h6, e348, b348_0, eM, b349_156]
theorem rounds (ih : (∀ {s e ro q D T c : Nat} {x1 : Int32} {I : Nat → Nat → Int32} {r z : Nat → Int32}, Sg n nl g P1 P2 P3 P4 P5 f s e ro q → e ≤ 30 → q ≤ sz → 2 * f + 5 ≤ D → (LSt n np nr nl nb nq t p u sz g P1 P2 P3 P4 P5 ww L) I r z c → z 6 = 0 → z 7 = 0 → T + pot (f + 1) c ≤ 9990 → ∃ (I' : Nat → Nat → Int32) (r' z' : Nat → Int32) (c' T' : Nat) (x' : Int32), hs_R scr D 348 2 [some (.ref 140), some (.int x1), some (.int (nI e)), some (.int (nI s))] [] (hs_S0, mkM J0 r z, L2, R2) = some (none, (hs_S0, mkM J0 r' z', L2, R2)) ∧ hX scr dx u p t sd L R (nI ro) T I = hX scr dx u p t sd L R x' T' I' ∧ (LSt n np nr nl nb nq t p u sz g P1 P2 P3 P4 P5 ww L) I' r' z' c' ∧ Fr t u ro q I I' ∧ (∀ i, 127 ≤ i → r' i = r i) ∧ c ≤ c' ∧ ((z' 6 = 0 ∧ z' 7 = 0 ∧ x' = nI q ∧ T' + pot (f + 1) c' ≤ T + pot (f + 1) c ∧ (s < e → c < c')) ∨ (z' 6 = 1 ∧ (z' 7 = 1 ∨ (z' 7 = 0 ∧ x' = nI sz)) ∧ T' + pot (f + 1) c' ≤ T + pot (f + 1) c + 1)))) (o11 : ok11 hs_S0 R2 140) (hL : LE R u t p) (hsz : sz ≤ 60) (hs : s < 30) {e' q' : Nat} (hG : Sg n nl g P1 P2 P3 P4 P5 f (s + 1) e' (ro + 1) q') (hne : s + 1 < e') (he : e' ≤ 30) (hq : q' < sz) (hro : ro < q') (p1q : P1 q' = 28) (p5q : P5 q' = nI ro) (pk : P1 ro = kw 9) (g1 : g (2 + 9 * s + 1) = nI v) (g8 : g (2 + 9 * s + 8) = nI e') (hv : v ≤ 99) (hD : 2 * f + 5 ≤ D) : ∀ (m i : Nat) {T c : Nat} {I : Nat → Nat → Int32} {r z : Nat → Int32}, i + (m + 1) = v → (LSt n np nr nl nb nq t p u sz g P1 P2 P3 P4 P5 ww L) I r z c → z 6 = 0 → z 7 = 0 → I (u + 1) ro = nI (m + 1) → T + pot (f + 1 + 1) c ≤ 9990 → ∃ (I' : Nat → Nat → Int32) (r' z' : Nat → Int32) (c' T' : Nat) (x' : Int32), hs_R scr (D + 1) 349 120 [some (.ref 140), some (.int (nI s)), some (.int (nI (129 + 9 * s))), some (.int x3), some (.int (nI i))] [] (hs_S0, mkM J0 r z, L2, R2) = some (none, (hs_S0, mkM J0 r' z', L2, R2)) ∧ hX scr dx u p t sd L R (nI (ro + 1)) T I = hX scr dx u p t sd L R x' T' I' ∧ (LSt n np nr nl nb nq t p u sz g P1 P2 P3 P4 P5 ww L) I' r' z' c' ∧ Fr t u ro (q' + 1) I I' ∧ (∀ i, 127 ≤ i → r' i = r i) ∧ c ≤ c' ∧ ((z' 6 = 0 ∧ z' 7 = 0 ∧ x' = nI (q' + 1) ∧ T' + pot (f + 1 + 1) c' ≤ T + pot (f + 1 + 1) c) ∨ (z' 6 = 1 ∧ (z' 7 = 1 ∨ (z' 7 = 0 ∧ x' = nI sz)) ∧ T' + pot (f + 1 + 1) c' ≤ T + pot (f + 1 + 1) c + 1)) := by
  intro m
  induction m with
  | zero =>
    intro i T c I r z hi hS h6 h7 hm hT
    have k1 := pot_K (K := f + 1) (c := c)
    obtain ⟨Ib, rb, zb, cb, Tb, xb, eM, eX, hSb, hFb, h127, hcb, hor⟩ := ih (x1 := nI (s + 1)) hG he (Nat.le_of_lt hq) hD hS h6 h7 (show T + pot (f + 1) c ≤ 9990 by omega)
    have k2 := pot_K (K := f + 1) (c := cb)
    have hc3 := hSb.2.2.2.2.1
    have ev : r (129 + (9 * s + 1)) = nI v := (gw hS.2.2.2.2.2.2 hs 1 (by omega)).trans g1
    have ev' : rb (129 + (9 * s + 1)) = nI v := (h127 _ (by omega)).trans ev
    have e8 : r (129 + (9 * s + 8)) = nI e' := (gw hS.2.2.2.2.2.2 hs 8 (by omega)).trans g8
    have eR := st120 (x3 := x3) (scr := scr) (D := D) (J0 := J0) (L2 := L2) o11 ev e8 hs hv (show i < v by omega) h6 eM
    rw [ex120 o11 ev' hs hv (by omega) (Or.inr (by omega))] at eR
    rcases hor with ⟨b6, b7, bx, bT, bc⟩ | ⟨b6, b7, bT⟩
    · have em : Ib (u + 1) ro = nI (0 + 1) := (hFb.2 ro (by omega)).trans hm
      have eE := tkL (scr := scr) (dx := dx) (sd := sd) (T := Tb) (m := 0) hL hSb b7 hq hsz (by omega) (by omega) p1q p5q pk (by omega) em
      simp only [↓reduceIte] at eE
      refine ⟨hs_u Ib (u + 1) ro (nI 0), rb, zb, cb, Tb + 1, nI (q' + 1), eR, by rw [eX, bx, eE], LSt_u1 hL hSb, Fr_tr (hi2 := q' + 1) (lo2 := ro) hFb (show Fr t u ro (ro + 1) Ib _ from ⟨fun j h1 h2 h3 => hu_row _ _ h3, fun j hj => hu_at _ _ (by omega)⟩) (by omega), h127, hcb, Or.inl ⟨b6, b7, rfl, ?_⟩⟩
      have := bc hne
      omega
    · exact ⟨Ib, rb, zb, cb, Tb, xb, eR, eX, hSb, Fr_tr (hi2 := q' + 1) (lo2 := ro) hFb Fr_rf (lo' := ro) (hi' := ro) (by omega), h127, hcb, Or.inr ⟨b6, b7, by omega⟩⟩
  | succ m IHm =>
    intro i T c I r z hi hS h6 h7 hm hT
    have k1 := pot_K (K := f + 1) (c := c)
    obtain ⟨Ib, rb, zb, cb, Tb, xb, eM, eX, hSb, hFb, h127, hcb, hor⟩ := ih (x1 := nI (s + 1)) hG he (Nat.le_of_lt hq) hD hS h6 h7 (show T + pot (f + 1) c ≤ 9990 by omega)
    have k2 := pot_K (K := f + 1) (c := cb)
    have hc3 := hSb.2.2.2.2.1
    have ev : r (129 + (9 * s + 1)) = nI v := (gw hS.2.2.2.2.2.2 hs 1 (by omega)).trans g1
    have ev' : rb (129 + (9 * s + 1)) = nI v := (h127 _ (by omega)).trans ev
    have e8 : r (129 + (9 * s + 8)) = nI e' := (gw hS.2.2.2.2.2.2 hs 8 (by omega)).trans g8
    have eR := st120 (x3 := x3) (scr := scr) (D := D) (J0 := J0) (L2 := L2) o11 ev e8 hs hv (show i < v by omega) h6 eM
    rcases hor with ⟨b6, b7, bx, bT, bc⟩ | ⟨b6, b7, bT⟩
    · have em : Ib (u + 1) ro = nI ((m + 1) + 1) := (hFb.2 ro (by omega)).trans hm
      have eE := tkL (scr := scr) (dx := dx) (sd := sd) (T := Tb) (m := m + 1) hL hSb b7 hq hsz (by omega) (by omega) p1q p5q pk (by omega) em
      rw [if_neg (by omega)] at eE
      have := bc hne
      obtain ⟨I', r', z', c', T', x', a1, a2, a3, a4, a5, a6, a7⟩ := IHm (i + 1) (T := Tb + 1) (by omega) (LSt_u1 (f := ro) (x := nI (m + 1)) hL hSb) b6 b7 (hu_same _ _ _ _) (by omega)
      refine ⟨I', r', z', c', T', x', by rw [eR, a1], by rw [eX, bx, eE, a2], a3, Fr_tr (hi2 := q' + 1) (lo2 := ro) (Fr_tr (hi2 := q' + 1) (lo2 := ro) hFb (show Fr t u ro (ro + 1) Ib _ from ⟨fun j h1 h2 h3 => hu_row _ _ h3, fun j hj => hu_at _ _ (by omega)⟩) (by omega)) a4 (by omega), fun i hi => (a5 i hi).trans (h127 i hi), by omega, ?_⟩
      rcases a7 with ⟨c1, c2, c3, c4⟩ | ⟨c1, c2, c3⟩
      · exact Or.inl ⟨c1, c2, c3, by omega⟩
      · exact Or.inr ⟨c1, c2, by omega⟩
    · rw [ex120 o11 ev' hs hv (by omega) (Or.inl b6)] at eR
      exact ⟨Ib, rb, zb, cb, Tb, xb, eR, eX, hSb, Fr_tr (hi2 := q' + 1) (lo2 := ro) hFb Fr_rf (lo' := ro) (hi' := ro) (by omega), h127, hcb, Or.inr ⟨b6, b7, by omega⟩⟩
end XS
