/-! reigns lived: one step of any kind; all steps -/
section XT
variable {scr : List Int32} {d dx D f n np nr nl nb nq k a b w t p u sz ro q c m v T s e : Nat} {r z g P1 P2 P3 P4 P5 : Nat → Int32} {ww : Nat → Int64} {sd x1 x3 : Int32} {I J0 : Nat → Nat → Int32} {L L2 : Nat → Nat → Int64} {R R2 : Nat → Nat → Nat}
theorem Sg_ne : ∀ {f s e ro q : Nat}, Sg n nl g P1 P2 P3 P4 P5 f s e ro q → ro ≠ q → s < e
  | 0, _, _, _, _, h, hn => absurd h.2 hn
  | f + 1, _, _, _, _, h, hn => by
    rcases h with h | h
    · exact absurd h.2 hn
    · exact h.1
theorem Sg_eq : ∀ {f s e ro : Nat}, Sg n nl g P1 P2 P3 P4 P5 f s e ro ro → s = e
  | 0, _, _, _, h => h.1
  | f + 1, _, _, _, h => by
    rcases h with h | h
    · exact h.1
    · exact absurd h.2.1 (Nat.lt_irrefl _)
theorem ex348 (o11 : ok11 hs_S0 R2 140) (h : e ≤ s ∨ z 6 = 1) (he : e ≤ 30) (hs : s ≤ 30) : hs_R scr (D + 1) 348 2 [some (.ref 140), some (.int x1), some (.int (nI e)), some (.int (nI s))] [] (hs_S0, mkM J0 r z, L2, R2) = some (none, (hs_S0, mkM J0 r z, L2, R2)) := by
  rw [b348_2 o11]
  by_cases g : e ≤ s
  · simp (disch := omega) only [Option.bind_some, Option.toList_some, Option.toList_none, List.append_nil, List.cons_append, List.nil_append, ↓reduceIte, true_or, or_true, Nat.reduceAdd, Nat.add_assoc, f_ge, t_le, t_lt, f_lt, f_l0, t_0l, t_pl, t_eq, f_eq, f_e0, i10, i01, ib_nI, nI_clamp, nI_add, ad10, ad18, ad26, ad34, ad42, ad47, ad52, ad59, ad107, ad117, ml8, mr8, ml5, ml10, b348_39]
  · have h6 : z 6 = 1 := by
      rcases h with h | h
      · exact absurd h g
      · exact h
    simp (disch := omega) only [Option.bind_some, Option.toList_some, Option.toList_none, List.append_nil, List.cons_append, List.nil_append, ↓reduceIte, true_or, or_true, Nat.reduceAdd, Nat.add_assoc, f_ge, t_le, t_lt, f_lt, f_l0, t_0l, t_pl, t_eq, f_eq, f_e0, i10, i01, ib_nI, nI_clamp, nI_add, ad10, ad18, ad26, ad34, ad42, ad47, ad52, ad59, ad107, ad117, ml8, mr8, ml5, ml10, mk_145, mk_u, mk_33, mk_34, mk_35, mk_36, mk_37, mk_38, mk_32, mk_39, mk_u33, mk_u34, mk_u35, mk_u36, mk_u37, mk_u38, mk_u32, mk_u39, h6, b348_39]
theorem noop (o11 : ok11 hs_S0 R2 140) (hv : r (129 + (9 * s + 1)) = nI v) (h8 : r (129 + (9 * s + 8)) = nI (s + 1)) (hs : s < 30) (hvl : v ≤ 99) (h6 : z 6 = 0) : ∀ m i, i + m = v → hs_R scr (D + 2) 349 120 [some (.ref 140), some (.int (nI s)), some (.int (nI (129 + 9 * s))), some (.int x3), some (.int (nI i))] [] (hs_S0, mkM J0 r z, L2, R2) = some (none, (hs_S0, mkM J0 r z, L2, R2))
  | 0, i, e => ex120 (D := D + 1) o11 hv hs hvl (by omega) (Or.inr (by omega))
  | m + 1, i, e => by
    rw [st120 (D := D + 1) o11 hv h8 hs hvl (by omega) h6 (ex348 o11 (Or.inl (Nat.le_refl _)) (by omega) (by omega))]
    exact noop o11 hv h8 hs hvl h6 m (i + 1) (by omega)
theorem LSt_6 {x : Int32} (h : (LSt n np nr nl nb nq t p u sz g P1 P2 P3 P4 P5 ww L) I r z c) : (LSt n np nr nl nb nq t p u sz g P1 P2 P3 P4 P5 ww L) I r (up z 6 x) c := ⟨h.1, h.2.1, h.2.2.1, h.2.2.2.1, h.2.2.2.2⟩
theorem n8_8 : ((8 : Int32) ≤ nI 8) = True := eq_true (by decide)
theorem n8_9 : ((8 : Int32) ≤ nI 9) = True := eq_true (by decide)
theorem n8_10 : ((8 : Int32) ≤ nI 10) = True := eq_true (by decide)
theorem e8_8 : (nI 8 = (8 : Int32)) = True := eq_true (by decide)
theorem e9_8 : (nI 9 = (8 : Int32)) = False := eq_false (by decide)
theorem e10_8 : (nI 10 = (8 : Int32)) = False := eq_false (by decide)
theorem e8_9 : (nI 8 = (9 : Int32)) = False := eq_false (by decide)
theorem e9_9 : (nI 9 = (9 : Int32)) = True := eq_true (by decide)
theorem e10_9 : (nI 10 = (9 : Int32)) = False := eq_false (by decide)
theorem l8_9 : (nI 8 ≤ (9 : Int32)) = True := eq_true (by decide)
theorem l10_9 : (nI 10 ≤ (9 : Int32)) = False := eq_false (by decide)
theorem one (ih : (∀ {s e ro q D T c : Nat} {x1 : Int32} {I : Nat → Nat → Int32} {r z : Nat → Int32}, Sg n nl g P1 P2 P3 P4 P5 f s e ro q → e ≤ 30 → q ≤ sz → 2 * f + 5 ≤ D → (LSt n np nr nl nb nq t p u sz g P1 P2 P3 P4 P5 ww L) I r z c → z 6 = 0 → z 7 = 0 → T + pot (f + 1) c ≤ 9990 → ∃ (I' : Nat → Nat → Int32) (r' z' : Nat → Int32) (c' T' : Nat) (x' : Int32), hs_R scr D 348 2 [some (.ref 140), some (.int x1), some (.int (nI e)), some (.int (nI s))] [] (hs_S0, mkM J0 r z, L2, R2) = some (none, (hs_S0, mkM J0 r' z', L2, R2)) ∧ hX scr dx u p t sd L R (nI ro) T I = hX scr dx u p t sd L R x' T' I' ∧ (LSt n np nr nl nb nq t p u sz g P1 P2 P3 P4 P5 ww L) I' r' z' c' ∧ Fr t u ro q I I' ∧ (∀ i, 127 ≤ i → r' i = r i) ∧ c ≤ c' ∧ ((z' 6 = 0 ∧ z' 7 = 0 ∧ x' = nI q ∧ T' + pot (f + 1) c' ≤ T + pot (f + 1) c ∧ (s < e → c < c')) ∨ (z' 6 = 1 ∧ (z' 7 = 1 ∨ (z' 7 = 0 ∧ x' = nI sz)) ∧ T' + pot (f + 1) c' ≤ T + pot (f + 1) c + 1)))) (o11 : ok11 hs_S0 R2 140) (hL : LE R u t p) (hsz : sz ≤ 60) (hS : (LSt n np nr nl nb nq t p u sz g P1 P2 P3 P4 P5 ww L) I r z c) (h6 : z 6 = 0) (h7 : z 7 = 0) (hse : s < e) (he : e ≤ 30) (hrq : ro < q) (hq : q ≤ sz) (hD : 2 * f + 5 ≤ D) (hT : T + pot (f + 1 + 1) c ≤ 9990) (hst : stOK n nl g P1 P2 P3 P4 (2 + 9 * s) ro k) (hrest : (k ≠ 8 ∧ k ≠ 9 ∧ g (2 + 9 * s + 8) = nI (s + 1) ∧ Sg n nl g P1 P2 P3 P4 P5 f (s + 1) e (ro + 1) q) ∨ ((k = 8 ∨ k = 9) ∧ ∃ e' q', g (2 + 9 * s + 8) = nI e' ∧ s < e' ∧ e' ≤ e ∧ ro < q' ∧ q' < q ∧ Sg n nl g P1 P2 P3 P4 P5 f (s + 1) e' (ro + 1) q' ∧ P1 q' = 28 ∧ P5 q' = nI ro ∧ P5 ro = nI q' ∧ Sg n nl g P1 P2 P3 P4 P5 f e' e (q' + 1) q)) : ∃ s1 r1, s < s1 ∧ s1 ≤ e ∧ ro < r1 ∧ r1 ≤ q ∧ g (2 + 9 * s + 8) = nI s1 ∧ Sg n nl g P1 P2 P3 P4 P5 f s1 e r1 q ∧ (∃ (I' : Nat → Nat → Int32) (r' z' : Nat → Int32) (c' T' : Nat) (x' : Int32), hs_C scr (D + 1) 349 [.ref 140, .int (nI s)] (hs_S0, mkM J0 r z, L2, R2) = some (none, (hs_S0, mkM J0 r' z', L2, R2)) ∧ hX scr dx u p t sd L R (nI ro) T I = hX scr dx u p t sd L R x' T' I' ∧ (LSt n np nr nl nb nq t p u sz g P1 P2 P3 P4 P5 ww L) I' r' z' c' ∧ Fr t u ro r1 I I' ∧ (∀ i, 127 ≤ i → r' i = r i) ∧ c ≤ c' ∧ ((z' 6 = 0 ∧ z' 7 = 0 ∧ x' = nI r1 ∧ T' + pot (f + 1 + 1) c' ≤ T + pot (f + 1 + 1) c ∧ c < c') ∨ (z' 6 = 1 ∧ (z' 7 = 1 ∨ (z' 7 = 0 ∧ x' = nI sz)) ∧ T' + pot (f + 1 + 1) c' ≤ T + pot (f + 1 + 1) c + 1))) := by
  have hk10 := hst.1
  have p1 : P1 ro = kw k := hst.2.2.1
  have hs30 : s < 30 := by omega
  have hg := hS.2.2.2.2.2.2
  have e1 : z 1 = nI c := hS.2.2.2.1
  have hc3 := hS.2.2.2.2.1
  have ew : r (129 + 9 * s) = nI k := (gw hg hs30 0 (by omega)).trans hst.2.1
  obtain ⟨D0, rfl⟩ : ∃ D0, D = D0 + 5 := ⟨D - 5, by omega⟩
  obtain ⟨o2, r7, r8, o4, o5, ht, hp, hu⟩ := id hL
  by_cases hc : c = 300
  · subst hc
    have hnx : ∃ s1 r1, s < s1 ∧ s1 ≤ e ∧ ro < r1 ∧ r1 ≤ q ∧ g (2 + 9 * s + 8) = nI s1 ∧ Sg n nl g P1 P2 P3 P4 P5 f s1 e r1 q := by
      rcases hrest with ⟨k8, k9, g8, hG1⟩ | ⟨hk89, e', q', g8, h1, h2, h3, h4, hGb, p1q, p5q, p5r, hG1⟩
      · exact ⟨s + 1, ro + 1, by omega, by omega, by omega, by omega, g8, hG1⟩
      · exact ⟨e', q' + 1, by omega, by omega, by omega, by omega, g8, hG1⟩
    obtain ⟨s1, r1, q1, q2, q3, q4, q5, q6⟩ := hnx
    obtain ⟨hR, ⟨z0, z1, z2, z3, z4, z5, z6⟩, hz, _, _, hP, _⟩ := id hS
    refine ⟨s1, r1, q1, q2, q3, q4, q5, q6, hs_u I u 5 1, r, up (up z 6 1) 7 1, 300, T + 1, nI ro, ?_, tk0 hL hS h7 (by omega) hsz (by omega) hk10 p1, ⟨RX_fu hR (by omega), ?_, hz, e1, hc3, PRw_cg hP (fun o ho => hu_row _ _ (by omega)), hg⟩, ⟨fun j h1 h2 h3 => hu_row _ _ h2, fun j hj => by rw [hu_row _ _ (by omega)]⟩, fun _ _ => rfl, Nat.le_refl _, Or.inr ⟨rfl, Or.inl rfl, by omega⟩⟩
    · rw [e349, b349_0 o11]
      simp (disch := omega) only [Option.bind_some, Option.toList_some, Option.toList_none, List.append_nil, List.cons_append, List.nil_append, ↓reduceIte, true_or, or_true, Nat.reduceAdd, Nat.add_assoc, mk_145, mk_u, mk_33, mk_34, mk_35, mk_36, mk_37, mk_38, mk_32, mk_39, mk_u33, mk_u34, mk_u35, mk_u36, mk_u37, mk_u38, mk_u32, mk_u39, e1, show (nI 300 = (300 : Int32)) = True from eq_true (by decide)]
    · unfold XZ
      simp (disch := omega) only [hu_same, hu_row, hu_at, hu_hu, up_n, up_s]
      exact ⟨z0, z1, z2, z3, z4, trivial, z6⟩
  · have hc' : c < 300 := by omega
    have hps := pot_s (K := f + 1 + 1) hc'
    have k1 := pot_K (K := f + 1) (c := c + 1)
    have hS1 := LSt_0 hL hS hc'
    have hPr := hS1.2.2.2.2.2.1.2 ro (by omega)
    have p1' := hPr.1.trans p1
    rcases hrest with ⟨k8, k9, g8, hG1⟩ | ⟨hk89, e', q', g8, h1, h2, h3, h4, hGb, p1q, p5q, p5r, hG1⟩
    · by_cases hk7 : k ≤ 7
      · obtain ⟨I', r', z', eR, eX, hS', hF, h127, h6', h7'⟩ := one7 (scr := scr) (dx := dx) (D := D0 + 3) (J0 := J0) (L2 := L2) (sd := sd) (T := T) o11 hL hS h6 h7 hc' hs30 (show ro < sz by omega) hsz (by omega) hst hk7
        exact ⟨s + 1, ro + 1, by omega, by omega, by omega, by omega, g8, hG1, I', r', z', c + 1, T + 1, nI (ro + 1), eR, eX, hS', hF, h127, by omega, Or.inl ⟨h6', h7', rfl, by omega, by omega⟩⟩
      · have : k = 10 := by omega
        subst this
        refine ⟨s + 1, ro + 1, by omega, by omega, by omega, by omega, g8, hG1, hs_u I u 0 (nI (c + 1)), r, up (up z 1 (nI (c + 1))) 6 1, c + 1, T + 1, nI sz, ?_, ?_, LSt_6 hS1, ⟨fun j h1 h2 h3 => hu_row _ _ h2, fun j hj => by rw [hu_row _ _ (by omega)]⟩, fun _ _ => rfl, by omega, Or.inr ⟨rfl, Or.inr ⟨h7, rfl⟩, by omega⟩⟩
        · rw [e349, b349_0 o11]
          simp (disch := omega) only [Option.bind_some, Option.toList_some, Option.toList_none, List.append_nil, List.cons_append, List.nil_append, ↓reduceIte, true_or, or_true, Nat.reduceAdd, Nat.add_assoc, f_ge, t_le, t_lt, f_lt, f_l0, t_0l, t_pl, t_eq, f_eq, f_e0, i10, i01, ib_nI, nI_clamp, nI_add, ad10, ad18, ad26, ad34, ad42, ad47, ad52, ad59, ad107, ad117, ml8, mr8, ml5, ml10, mk_145, mk_u, mk_33, mk_34, mk_35, mk_36, mk_37, mk_38, mk_32, mk_39, mk_u33, mk_u34, mk_u35, mk_u36, mk_u37, mk_u38, mk_u32, mk_u39, e1, f300 hc', ml9, ad129, ew, nI_1, n8_8, n8_9, n8_10, e8_8, e9_8, e10_8, e8_9, e9_9, e10_9, l8_9, l10_9, b349_111 o11, b349_176]
        · rw [tkS hL hS h7 hc' (show ro < sz by omega) hsz (by omega) (by omega) p1, x174b hL (by omega) (Or.inr (Or.inr rfl)) p1']
          simp only [Option.bind_some, Option.toList_some, Option.toList_none, List.append_nil, List.cons_append, List.nil_append, ↓reduceIte, true_or, or_true, Nat.reduceAdd, Nat.add_assoc, b172_143 o2, i10, b172_156 o2, x180s (scr := scr) (d := dx + 4) (L := L) hL (show ro < 60 by omega) p1', b172_162, b172_164, nI_1]
          rw [hS1.2.2.2.2.2.1.1]; rfl
    · have hPq := hS1.2.2.2.2.2.1.2 q' (by omega)
      have e8r : r (129 + (9 * s + 8)) = nI e' := (gw hg hs30 8 (by omega)).trans g8
      have Fr1 : Fr t u ro ro I (hs_u I u 0 (nI (c + 1))) := ⟨fun j h1 h2 h3 => hu_row _ _ h2, fun j hj => by rw [hu_row _ _ (by omega)]⟩
      rcases hk89 with rfl | rfl
      · have H8 : (r (129 + 9 * s + 6) = 2 ∧ hs_u I u 0 (nI (c + 1)) (p + 2) ro = 18) ∨ (r (129 + 9 * s + 6) = 0 ∧ hs_u I u 0 (nI (c + 1)) (p + 2) ro = 26 ∧ ∃ l, l < nl ∧ r (129 + 9 * s + 1) = nI l ∧ hs_u I u 0 (nI (c + 1)) (p + 3) ro = nI l) ∨ (r (129 + 9 * s + 6) = 1 ∧ ∃ j, j < n ∧ r (129 + 9 * s + 1) = nI j ∧ hs_u I u 0 (nI (c + 1)) (p + 3) ro = nI j ∧ hs_u I u 0 (nI (c + 1)) (p + 4) ro = r (129 + 9 * s + 2) ∧ ((r (129 + 9 * s + 7) = 60 ∧ hs_u I u 0 (nI (c + 1)) (p + 2) ro = 34) ∨ (r (129 + 9 * s + 7) = 62 ∧ hs_u I u 0 (nI (c + 1)) (p + 2) ro = 35) ∨ (r (129 + 9 * s + 7) = 61 ∧ hs_u I u 0 (nI (c + 1)) (p + 2) ro = 36))) := by
          rcases hst.2.2.2.2.2.2 rfl with ⟨a1, a2⟩ | ⟨a1, a2, a3, l, hl, a4⟩ | ⟨a1, a2, ⟨h, hh, a3⟩, a4, a5, a6⟩
          · exact Or.inl ⟨(gw hg hs30 6 (by omega)).trans a1, hPr.2.1.trans a2⟩
          · exact Or.inr (Or.inl ⟨(gw hg hs30 6 (by omega)).trans a1, hPr.2.1.trans a2, l, hl, (gw hg hs30 1 (by omega)).trans a4, hPr.2.2.1.trans (a3.trans a4)⟩)
          · refine Or.inr (Or.inr ⟨(gw hg hs30 6 (by omega)).trans a1, h, hh, (gw hg hs30 1 (by omega)).trans a3, hPr.2.2.1.trans (a2.trans a3), hPr.2.2.2.1.trans (a4.trans (gw hg hs30 2 (by omega)).symm), ?_⟩)
            rcases a6 with ⟨b1, b2⟩ | ⟨b1, b2⟩ | ⟨b1, b2⟩
            · exact Or.inl ⟨(gw hg hs30 7 (by omega)).trans b1, hPr.2.1.trans b2⟩
            · exact Or.inr (Or.inl ⟨(gw hg hs30 7 (by omega)).trans b1, hPr.2.1.trans b2⟩)
            · exact Or.inr (Or.inr ⟨(gw hg hs30 7 (by omega)).trans b1, hPr.2.1.trans b2⟩)
        have M8 : (r (129 + 9 * s + 6) = 2) ∨ (r (129 + 9 * s + 6) = 0 ∧ ∃ l, l < nl ∧ r (129 + 9 * s + 1) = nI l) ∨ (r (129 + 9 * s + 6) = 1 ∧ (∃ j, j < n ∧ r (129 + 9 * s + 1) = nI j) ∧ (r (129 + 9 * s + 7) = 60 ∨ r (129 + 9 * s + 7) = 62 ∨ r (129 + 9 * s + 7) = 61)) := by
          rcases H8 with ⟨a1, a2⟩ | ⟨a1, a2, l, hl, a4, _⟩ | ⟨a1, h, hh, a3, _, _, a6⟩
          · exact Or.inl a1
          · exact Or.inr (Or.inl ⟨a1, l, hl, a4⟩)
          · refine Or.inr (Or.inr ⟨a1, ⟨h, hh, a3⟩, ?_⟩)
            rcases a6 with b | b | b
            · exact Or.inl b.1
            · exact Or.inr (Or.inl b.1)
            · exact Or.inr (Or.inr b.1)
        have hm : hs_C scr (D0 + 5) 355 [.ref 140, .int (nI (129 + 9 * s))] (hs_S0, mkM J0 r (up z 1 (nI (c + 1))), L2, R2) = _ := m355 (scr := scr) (d := D0 + 2) (J0 := J0) (L := L2) (R := R2) (z := up z 1 (nI (c + 1))) o11 (RW_of hS.1) (by omega) M8
        have hx181 : hs_C scr (dx + 3) 181 [.ref u, .int (nI ro)] (hs_S0, hs_u I u 0 (nI (c + 1)), L, R) = _ := x181 (scr := scr) (d := dx + 1) (w := 129 + 9 * s) hL hS1.1 (show ro < 60 by omega) H8
        have hx180 := x180w (scr := scr) (d := dx + 3) (q := q') hL (show ro < 60 by omega) p1' (hPr.2.2.2.2.trans p5r) (by omega) hx181
        have eX1 : hX scr dx u p t sd L R (nI ro) T I = hX scr dx u p t sd L R (nI (if soA n r (129 + 9 * s) = true then ro + 1 else q' + 1)) (T + 1) (hs_u I u 0 (nI (c + 1))) := by
          rw [tkS hL hS h7 hc' (show ro < sz by omega) hsz (by omega) (by omega) p1, x174b hL (by omega) (Or.inl rfl) p1']
          simp only [Option.bind_some, Option.toList_some, Option.toList_none, List.append_nil, List.cons_append, List.nil_append, ↓reduceIte, true_or, or_true, Nat.reduceAdd, Nat.add_assoc, b172_143 o2, i10, b172_156 o2, hx180, b172_162, b172_164, nI_1]
          rfl
        have eR1 : hs_C scr (D0 + 5 + 1) 349 [.ref 140, .int (nI s)] (hs_S0, mkM J0 r z, L2, R2) = hs_R scr (D0 + 5 + 1) 349 89 [some (.ref 140), some (.int (nI s)), some (.int (nI (129 + 9 * s))), some (.int (nI 8)), none] [.int (if soA n r (129 + 9 * s) = true then 1 else 0)] (hs_S0, mkM J0 r (up z 1 (nI (c + 1))), L2, R2) := by
          rw [e349, b349_0 o11]
          simp (disch := omega) only [Option.bind_some, Option.toList_some, Option.toList_none, List.append_nil, List.cons_append, List.nil_append, ↓reduceIte, Nat.reduceAdd, f_ge, t_le, t_lt, f_lt, f_l0, t_0l, t_pl, t_eq, f_eq, f_e0, i10, i01, ib_nI, nI_clamp, nI_add, ad10, ad18, ad26, ad34, ad42, ad47, ad52, ad59, ad107, ad117, ml8, mr8, ml5, ml10, mk_145, mk_u, mk_33, mk_34, mk_35, mk_36, mk_37, mk_38, mk_32, mk_39, mk_u33, mk_u34, mk_u35, mk_u36, mk_u37, mk_u38, mk_u32, mk_u39, e1, f300 hc', ml9, ad129, ew, nI_1, n8_8, n8_9, n8_10, e8_8, e9_8, e10_8, e8_9, e9_9, e10_9, l8_9, l10_9]
          rw [hm]; rfl
        cases hso : soA n r (129 + 9 * s) with
        | false =>
          rw [hso] at eX1 eR1
          simp only [Bool.false_eq_true, ↓reduceIte] at eX1 eR1
          refine ⟨e', q' + 1, by omega, by omega, by omega, by omega, g8, hG1, _, r, _, c + 1, T + 1, nI (q' + 1), ?_, eX1, hS1, Fr_tr (lo2 := ro) (hi2 := q' + 1) Fr1 Fr_rf (lo' := ro) (hi' := ro) (by omega), fun _ _ => rfl, by omega, Or.inl ⟨h6, h7, rfl, by omega, by omega⟩⟩
          rw [eR1, b349_89 o11]
          simp (disch := omega) only [Option.bind_some, Option.toList_some, Option.toList_none, List.append_nil, List.cons_append, List.nil_append, ↓reduceIte, true_or, or_true, Nat.reduceAdd, Nat.add_assoc, b349_111 o11, n8_8, n8_9, n8_10, e8_8, e9_8, e10_8, e8_9, e9_9, e10_9, l8_9, l10_9, b349_176]
        | true =>
          rw [hso] at eX1 eR1
          simp only [↓reduceIte] at eX1 eR1
          obtain ⟨Ib, rb, zb, cb, Tb, xb, eM, eX, hSb, hFb, h127, hcb, hor⟩ := ih (T := T + 1) (x1 := nI (s + 1)) hGb (by omega) (by omega) hD hS1 h6 h7 (by omega)
          have k2 := pot_K (K := f + 1) (c := cb)
          have hcb3 := hSb.2.2.2.2.1
          have eR : hs_C scr (D0 + 5 + 1) 349 [.ref 140, .int (nI s)] (hs_S0, mkM J0 r z, L2, R2) = some (none, (hs_S0, mkM J0 rb zb, L2, R2)) := by
            rw [eR1, b349_89 o11]
            simp (disch := omega) only [Option.bind_some, Option.toList_some, Option.toList_none, List.append_nil, List.cons_append, List.nil_append, ↓reduceIte, Nat.reduceAdd, i10, f_ge, t_le, t_lt, f_lt, f_l0, t_0l, t_pl, t_eq, f_eq, f_e0, i10, i01, ib_nI, nI_clamp, nI_add, ad10, ad18, ad26, ad34, ad42, ad47, ad52, ad59, ad107, ad117, ml8, mr8, ml5, ml10, mk_145, mk_u, mk_33, mk_34, mk_35, mk_36, mk_37, mk_38, mk_32, mk_39, mk_u33, mk_u34, mk_u35, mk_u36, mk_u37, mk_u38, mk_u32, mk_u39, adw8, nI_1]
            rw [gw hg hs30 8 (by omega), g8, e348, b348_0, eM]
            simp only [Option.bind_some, Option.toList_some, Option.toList_none, List.append_nil, List.cons_append, List.nil_append, ↓reduceIte, true_or, or_true, Nat.reduceAdd, Nat.add_assoc, b349_108, b349_176]
          rcases hor with ⟨b6, b7, bx, bT, bc⟩ | ⟨b6, b7, bT⟩
          · have eE := tkE (scr := scr) (dx := dx) (sd := sd) (T := Tb) (k := 8) hL hSb b7 (show q' < sz by omega) hsz (by omega) (show ro < 60 by omega) (by omega) (by omega) p1q p5q p1
            exact ⟨e', q' + 1, by omega, by omega, by omega, by omega, g8, hG1, Ib, rb, zb, cb, Tb + 1, nI (q' + 1), eR, by rw [eX1, eX, bx, eE], hSb, Fr_tr (lo2 := ro) (hi2 := q' + 1) Fr1 hFb (by omega), h127, by omega, Or.inl ⟨b6, b7, rfl, by omega, by omega⟩⟩
          · exact ⟨e', q' + 1, by omega, by omega, by omega, by omega, g8, hG1, Ib, rb, zb, cb, Tb, xb, eR, by rw [eX1, eX], hSb, Fr_tr (lo2 := ro) (hi2 := q' + 1) Fr1 hFb (by omega), h127, by omega, Or.inr ⟨b6, b7, by omega⟩⟩
      · obtain ⟨e4, v, v1, v2, ev⟩ := hst.2.2.2.2.2.1 rfl
        have evr : r (129 + (9 * s + 1)) = nI v := (gw hg hs30 1 (by omega)).trans ev
        have hx180 := x180l (scr := scr) (d := dx + 4) (L := L) (q := q') (v := v) hL (show ro < 60 by omega) p1' (hPr.2.2.2.2.trans p5r) (by omega) (hPr.2.2.2.1.trans (e4.trans ev))
        have eX1 : hX scr dx u p t sd L R (nI ro) T I = hX scr dx u p t sd L R (nI (ro + 1)) (T + 1) (hs_u (hs_u I u 0 (nI (c + 1))) (u + 1) ro (nI (if q' = ro + 1 then 1 else v))) := by
          rw [tkS hL hS h7 hc' (show ro < sz by omega) hsz (by omega) (by omega) p1, x174b hL (by omega) (Or.inr (Or.inl rfl)) p1']
          simp only [Option.bind_some, Option.toList_some, Option.toList_none, List.append_nil, List.cons_append, List.nil_append, ↓reduceIte, true_or, or_true, Nat.reduceAdd, Nat.add_assoc, b172_143 o2, i10, b172_156 o2, hx180, b172_162, b172_164, nI_1]
          rfl
        have eR1 : hs_C scr (D0 + 5 + 1) 349 [.ref 140, .int (nI s)] (hs_S0, mkM J0 r z, L2, R2) = hs_R scr (D0 + 5 + 1) 349 120 [some (.ref 140), some (.int (nI s)), some (.int (nI (129 + 9 * s))), some (.int (nI 9)), some (.int (nI 0))] [] (hs_S0, mkM J0 r (up z 1 (nI (c + 1))), L2, R2) := by
          rw [e349, b349_0 o11]
          simp (disch := omega) only [Option.bind_some, Option.toList_some, Option.toList_none, List.append_nil, List.cons_append, List.nil_append, ↓reduceIte, true_or, or_true, Nat.reduceAdd, Nat.add_assoc, f_ge, t_le, t_lt, f_lt, f_l0, t_0l, t_pl, t_eq, f_eq, f_e0, i10, i01, ib_nI, nI_clamp, nI_add, ad10, ad18, ad26, ad34, ad42, ad47, ad52, ad59, ad107, ad117, ml8, mr8, ml5, ml10, mk_145, mk_u, mk_33, mk_34, mk_35, mk_36, mk_37, mk_38, mk_32, mk_39, mk_u33, mk_u34, mk_u35, mk_u36, mk_u37, mk_u38, mk_u32, mk_u39, e1, f300 hc', ml9, ad129, ew, nI_1, n8_8, n8_9, n8_10, e8_8, e9_8, e10_8, e8_9, e9_9, e10_9, l8_9, l10_9, b349_111 o11, nI_0]
        have hS2 : (LSt n np nr nl nb nq t p u sz g P1 P2 P3 P4 P5 ww L) (hs_u (hs_u I u 0 (nI (c + 1))) (u + 1) ro (nI (if q' = ro + 1 then 1 else v))) r (up z 1 (nI (c + 1))) (c + 1) := LSt_u1 hL hS1
        have Fr2 : Fr t u ro (ro + 1) I (hs_u (hs_u I u 0 (nI (c + 1))) (u + 1) ro (nI (if q' = ro + 1 then 1 else v))) := Fr_tr Fr1 (show Fr t u ro (ro + 1) _ _ from ⟨fun j h1 h2 h3 => hu_row _ _ h3, fun j hj => hu_at _ _ (by omega)⟩) (by omega)
        by_cases hqe : q' = ro + 1
        · subst hqe
          have he' := Sg_eq hGb
          subst he'
          rw [if_pos rfl] at eX1 hS2 Fr2
          have eE := tkL (scr := scr) (dx := dx) (sd := sd) (T := T + 1) (m := 0) hL hS2 h7 (show ro + 1 < sz by omega) hsz (by omega) (show ro < 60 by omega) p1q p5q p1 (by omega) (hu_same _ _ _ _)
          simp only [↓reduceIte] at eE
          refine ⟨s + 1, ro + 1 + 1, by omega, by omega, by omega, by omega, g8, hG1, _, r, _, c + 1, T + 1 + 1, nI (ro + 1 + 1), ?_, by rw [eX1, eE], LSt_u1 hL hS2, Fr_tr (lo2 := ro) (hi2 := ro + 1 + 1) Fr2 (show Fr t u ro (ro + 1) _ _ from ⟨fun j h1 h2 h3 => hu_row _ _ h3, fun j hj => hu_at _ _ (by omega)⟩) (by omega), fun _ _ => rfl, by omega, Or.inl ⟨h6, h7, rfl, by omega, by omega⟩⟩
          rw [eR1]
          exact noop (D := D0 + 4) (z := up z 1 (nI (c + 1))) o11 evr e8r hs30 v2 h6 v 0 (by omega)
        · have hne := Sg_ne hGb (fun q => hqe q.symm)
          rw [if_neg hqe] at eX1 hS2 Fr2
          obtain ⟨v', rfl⟩ : ∃ v', v = v' + 1 := ⟨v - 1, by omega⟩
          obtain ⟨Ib, rb, zb, cb, Tb, xb, eM, eX, hSb, hFb, h127, hcb, hor⟩ := rounds (x3 := nI 9) (J0 := J0) (L2 := L2) ih o11 hL hsz hs30 hGb hne (by omega) (show q' < sz by omega) h3 p1q p5q p1 ev g8 v2 hD v' 0 (T := T + 1) (by omega) hS2 h6 h7 (hu_same _ _ _ _) (by omega)
          have hcb3 := hSb.2.2.2.2.1
          refine ⟨e', q' + 1, by omega, by omega, by omega, by omega, g8, hG1, Ib, rb, zb, cb, Tb, xb, eR1.trans eM, by rw [eX1, eX], hSb, Fr_tr (lo2 := ro) (hi2 := q' + 1) Fr2 hFb (by omega), h127, by omega, ?_⟩
          rcases hor with ⟨b6, b7, bx, bT⟩ | ⟨b6, b7, bT⟩
          · exact Or.inl ⟨b6, b7, bx, by omega, by omega⟩
          · exact Or.inr ⟨b6, b7, by omega⟩
theorem sim (o11 : ok11 hs_S0 R2 140) (hL : LE R u t p) (hsz : sz ≤ 60) : ∀ (f : Nat), (∀ {s e ro q D T c : Nat} {x1 : Int32} {I : Nat → Nat → Int32} {r z : Nat → Int32}, Sg n nl g P1 P2 P3 P4 P5 f s e ro q → e ≤ 30 → q ≤ sz → 2 * f + 5 ≤ D → (LSt n np nr nl nb nq t p u sz g P1 P2 P3 P4 P5 ww L) I r z c → z 6 = 0 → z 7 = 0 → T + pot (f + 1) c ≤ 9990 → ∃ (I' : Nat → Nat → Int32) (r' z' : Nat → Int32) (c' T' : Nat) (x' : Int32), hs_R scr D 348 2 [some (.ref 140), some (.int x1), some (.int (nI e)), some (.int (nI s))] [] (hs_S0, mkM J0 r z, L2, R2) = some (none, (hs_S0, mkM J0 r' z', L2, R2)) ∧ hX scr dx u p t sd L R (nI ro) T I = hX scr dx u p t sd L R x' T' I' ∧ (LSt n np nr nl nb nq t p u sz g P1 P2 P3 P4 P5 ww L) I' r' z' c' ∧ Fr t u ro q I I' ∧ (∀ i, 127 ≤ i → r' i = r i) ∧ c ≤ c' ∧ ((z' 6 = 0 ∧ z' 7 = 0 ∧ x' = nI q ∧ T' + pot (f + 1) c' ≤ T + pot (f + 1) c ∧ (s < e → c < c')) ∨ (z' 6 = 1 ∧ (z' 7 = 1 ∨ (z' 7 = 0 ∧ x' = nI sz)) ∧ T' + pot (f + 1) c' ≤ T + pot (f + 1) c + 1))) := by
  intro f
  induction f with
  | zero =>
    intro s e ro q D T c x1 I r z hG he hq hD hS h6 h7 hT
    obtain ⟨h1, h2⟩ := hG
    subst h1; subst h2
    obtain ⟨D0, rfl⟩ : ∃ D0, D = D0 + 1 := ⟨D - 1, by omega⟩
    exact ⟨I, r, z, c, T, nI ro, ex348 o11 (Or.inl (Nat.le_refl _)) he he, rfl, hS, Fr_rf, fun _ _ => rfl, Nat.le_refl _, Or.inl ⟨h6, h7, rfl, Nat.le_refl _, fun q => absurd q (Nat.lt_irrefl _)⟩⟩
  | succ f ih =>
    intro s e ro q D T c x1 I r z hG he hq hD hS h6 h7 hT
    rcases hG with ⟨h1, h2⟩ | ⟨hse, hrq, k, hst, hrest⟩
    · subst h1; subst h2
      obtain ⟨D0, rfl⟩ : ∃ D0, D = D0 + 1 := ⟨D - 1, by omega⟩
      exact ⟨I, r, z, c, T, nI ro, ex348 o11 (Or.inl (Nat.le_refl _)) he he, rfl, hS, Fr_rf, fun _ _ => rfl, Nat.le_refl _, Or.inl ⟨h6, h7, rfl, Nat.le_refl _, fun q => absurd q (Nat.lt_irrefl _)⟩⟩
    · obtain ⟨D0, rfl⟩ : ∃ D0, D = D0 + 2 := ⟨D - 2, by omega⟩
      obtain ⟨s1, r1, a1, a2, a3, a4, a5, a6, I1, w1, y1, c1, T1, v1, eR, eX, hS1, hF1, h127, hc1, hor⟩ := one (scr := scr) (dx := dx) (sd := sd) (J0 := J0) (L2 := L2) (D := D0) ih o11 hL hsz hS h6 h7 hse he hrq hq (by omega) hT hst hrest
      have hc3 := hS1.2.2.2.2.1
      have k1 := pot_K (K := f + 1) (c := c)
      have k2 := pot_K (K := f + 1) (c := c1)
      have e8 : w1 (129 + (9 * s + 8)) = nI s1 := (gw hS1.2.2.2.2.2.2 (show s < 30 by omega) 8 (by omega)).trans a5
      have eH : hs_R scr (D0 + 2) 348 2 [some (.ref 140), some (.int x1), some (.int (nI e)), some (.int (nI s))] [] (hs_S0, mkM J0 r z, L2, R2) = hs_R scr (D0 + 2) 348 2 [some (.ref 140), some (.int x1), some (.int (nI e)), some (.int (nI s1))] [] (hs_S0, mkM J0 w1 y1, L2, R2) := by
        rw [b348_2 o11]
        simp (disch := omega) only [Option.bind_some, Option.toList_some, Option.toList_none, List.append_nil, List.cons_append, List.nil_append, ↓reduceIte, true_or, or_true, Nat.reduceAdd, Nat.add_assoc, f_ge, t_le, t_lt, f_lt, f_l0, t_0l, t_pl, t_eq, f_eq, f_e0, i10, i01, ib_nI, nI_clamp, nI_add, ad10, ad18, ad26, ad34, ad42, ad47, ad52, ad59, ad107, ad117, ml8, mr8, ml5, ml10, mk_145, mk_u, mk_33, mk_34, mk_35, mk_36, mk_37, mk_38, mk_32, mk_39, mk_u33, mk_u34, mk_u35, mk_u36, mk_u37, mk_u38, mk_u32, mk_u39, h6]
        rw [eR]
        simp (disch := omega) only [Option.bind_some, Option.toList_some, Option.toList_none, List.append_nil, List.cons_append, List.nil_append, ↓reduceIte, true_or, or_true, Nat.reduceAdd, Nat.add_assoc, b348_19 o11, ml9, ad129, f_ge, t_le, t_lt, f_lt, f_l0, t_0l, t_pl, t_eq, f_eq, f_e0, i10, i01, ib_nI, nI_clamp, nI_add, ad10, ad18, ad26, ad34, ad42, ad47, ad52, ad59, ad107, ad117, ml8, mr8, ml5, ml10, adw8, mk_145, mk_u, mk_33, mk_34, mk_35, mk_36, mk_37, mk_38, mk_32, mk_39, mk_u33, mk_u34, mk_u35, mk_u36, mk_u37, mk_u38, mk_u32, mk_u39, e8]
      rcases hor with ⟨b6, b7, bx, bT, bc⟩ | ⟨b6, b7, bT⟩
      · obtain ⟨I', r', z', c', T', x', m1, m2, m3, m4, m5, m6, m7⟩ := ih (D := D0 + 2) (T := T1) (x1 := x1) a6 he hq (by omega) hS1 b6 b7 (by omega)
        have hc4 := m3.2.2.2.2.1
        have k3 := pot_K (K := f + 1) (c := c')
        refine ⟨I', r', z', c', T', x', eH.trans m1, by rw [eX, bx, m2], m3, Fr_tr (lo2 := ro) (hi2 := q) hF1 m4 (by omega), fun i hi => (m5 i hi).trans (h127 i hi), by omega, ?_⟩
        rcases m7 with ⟨c1, c2, c3, c4, c5⟩ | ⟨c1, c2, c3⟩
        · exact Or.inl ⟨c1, c2, c3, by omega, fun _ => by omega⟩
        · exact Or.inr ⟨c1, c2, by omega⟩
      · refine ⟨I1, w1, y1, c1, T1, v1, eH.trans (ex348 (D := D0 + 1) o11 (Or.inr b6) he (by omega)), eX, hS1, Fr_tr (lo2 := ro) (hi2 := q) hF1 Fr_rf (lo' := ro) (hi' := ro) (by omega), h127, hc1, Or.inr ⟨b6, b7, bT⟩⟩
end XT
