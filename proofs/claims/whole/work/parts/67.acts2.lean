/-! reigns: what a step does in the class -/
def XZ (I : Nat → Nat → Int32) (u : Nat) (z : Nat → Int32) : Prop := I u 0 = z 1 ∧ I u 1 = z 2 ∧ I u 2 = z 3 ∧ I u 3 = z 4 ∧ I u 4 = z 5 ∧ I u 5 = z 7 ∧ I u 6 = z 0
def LE (R : Nat → Nat → Nat) (u t p : Nat) : Prop := ok2 hs_S0 R u ∧ R u 7 = p ∧ R u 8 = t ∧ ok4 hs_S0 R t ∧ ok5 hs_S0 R p ∧ (t = 18 ∨ t = 34) ∧ (p = 50 ∨ p = 56) ∧ (u = 62 ∨ u = 64)
theorem sw174_0 : hs_swt (kw 0) 17 24 [76, 82, 91, 100, 115, 122, 129, 137] 142 = 76 := by decide
theorem sw180_0 : hs_swt (kw 0) 25 29 [52, 116, 78, 116, 44] 116 = 116 := by decide
theorem sw174_1 : hs_swt (kw 1) 17 24 [76, 82, 91, 100, 115, 122, 129, 137] 142 = 82 := by decide
theorem sw180_1 : hs_swt (kw 1) 25 29 [52, 116, 78, 116, 44] 116 = 116 := by decide
theorem sw174_2 : hs_swt (kw 2) 17 24 [76, 82, 91, 100, 115, 122, 129, 137] 142 = 91 := by decide
theorem sw180_2 : hs_swt (kw 2) 25 29 [52, 116, 78, 116, 44] 116 = 116 := by decide
theorem sw174_3 : hs_swt (kw 3) 17 24 [76, 82, 91, 100, 115, 122, 129, 137] 142 = 100 := by decide
theorem sw180_3 : hs_swt (kw 3) 25 29 [52, 116, 78, 116, 44] 116 = 116 := by decide
theorem sw174_4 : hs_swt (kw 4) 17 24 [76, 82, 91, 100, 115, 122, 129, 137] 142 = 115 := by decide
theorem sw180_4 : hs_swt (kw 4) 25 29 [52, 116, 78, 116, 44] 116 = 116 := by decide
theorem sw174_5 : hs_swt (kw 5) 17 24 [76, 82, 91, 100, 115, 122, 129, 137] 142 = 122 := by decide
theorem sw180_5 : hs_swt (kw 5) 25 29 [52, 116, 78, 116, 44] 116 = 116 := by decide
theorem sw174_6 : hs_swt (kw 6) 17 24 [76, 82, 91, 100, 115, 122, 129, 137] 142 = 129 := by decide
theorem sw180_6 : hs_swt (kw 6) 25 29 [52, 116, 78, 116, 44] 116 = 116 := by decide
theorem sw174_7 : hs_swt (kw 7) 17 24 [76, 82, 91, 100, 115, 122, 129, 137] 142 = 137 := by decide
theorem sw180_7 : hs_swt (kw 7) 25 29 [52, 116, 78, 116, 44] 116 = 116 := by decide
theorem sw174_8 : hs_swt (kw 8) 17 24 [76, 82, 91, 100, 115, 122, 129, 137] 142 = 142 := by decide
theorem sw180_8 : hs_swt (kw 8) 25 29 [52, 116, 78, 116, 44] 116 = 52 := by decide
theorem sw174_9 : hs_swt (kw 9) 17 24 [76, 82, 91, 100, 115, 122, 129, 137] 142 = 142 := by decide
theorem sw180_9 : hs_swt (kw 9) 25 29 [52, 116, 78, 116, 44] 116 = 78 := by decide
theorem sw174_10 : hs_swt (kw 10) 17 24 [76, 82, 91, 100, 115, 122, 129, 137] 142 = 142 := by decide
theorem sw180_10 : hs_swt (kw 10) 25 29 [52, 116, 78, 116, 44] 116 = 44 := by decide
section XA
variable {scr : List Int32} {d n np nr nl nb nq k a b w t p u row : Nat} {r z : Nat → Int32} {ww : Nat → Int64} {I : Nat → Nat → Int32} {L : Nat → Nat → Int64} {R : Nat → Nat → Nat}
theorem lpc_f (h : RU nr r I t) : lpc nr (lpf r) r := by
  obtain ⟨h1, h2, h3, h4, ru, h5, h6 | h6⟩ := h
  · have : r 2 = 0 := by rw [h2, h6.1]; rfl
    unfold lpf lpc; rw [if_pos this]; exact ⟨by omega, Or.inl ⟨h6.1, rfl⟩⟩
  · have : ¬ r 2 = 0 := by rw [h2]; exact nI_ne0 (by omega) (by omega)
    have hb := bd_tn (h4 ru h6.1).2 (by omega)
    unfold lpf lpc; rw [if_neg this, h5, nI_clamp (by omega)]
    exact ⟨hb.2, Or.inr ⟨ru, h6.1, rfl, hb.1⟩⟩
theorem RW_of (h : RX n np nr nl nb nq r ww I L t p) : RW n np nr nl r := by
  obtain ⟨⟨a1, a2, a3, a4⟩, ⟨b1, b2, b3, b4⟩, ⟨c1, c2, c3, c4, ru, c5, c6⟩, ⟨d1, d2, d3, d4⟩, -, hD, -, -⟩ := h
  refine ⟨a1, a2, fun k hk => ?_, b1, b2, c1, c2, fun k hk => (c4 k hk).2, ⟨ru, c5, ?_⟩, d1, hD.2.2.1.2, hD.2.2.2.2⟩
  · have := a4 k hk; exact ⟨this.2.2.2.2.1, this.2.2.2.2.2.1, this.2.2.2.2.2.2.1, this.2.2.2.2.2.2.2⟩
  · rcases c6 with c6 | c6
    · exact Or.inl ⟨c6.1, c6.2.1⟩
    · exact Or.inr c6.1
theorem RX_fu {f : Nat} {v : Int32} (hX : RX n np nr nl nb nq r ww I L t p) (hu : (u < t ∨ t + 16 ≤ u) ∧ (u < p ∨ p + 6 ≤ u)) : RX n np nr nl nb nq r ww (hs_u I u f v) L t p :=
  RX_cg hX (fun k hk => rfl) (fun k hk => rfl) (fun o ho => hu_row _ _ (by omega)) rfl (fun o ho => hu_row _ _ (by omega))
theorem XZ_i (hZ : XZ I u z) (I' : Nat → Nat → Int32) (h : I' u = I u) : XZ I' u z := by
  unfold XZ at hZ ⊢; rw [h]; exact hZ
theorem x174 (hL : LE R u t p) (hX : RX n np nr nl nb nq r ww I L t p) (hZ : XZ I u z) (hz : ∃ x, x < 65536 ∧ z 0 = nI x) (hr : row < 60) (hk : k ≤ 7) (p1 : I (p + 1) row = kw k) (h0 : k = 0 → I (p + 4) row = nI a ∧ a ≤ 20) (h3 : 3 ≤ k ∧ k ≤ 5 → I (p + 3) row = nI a ∧ a < n ∧ I (p + 4) row = nI b ∧ b ≤ 99) : ∃ I', hs_C scr (d + 4) 174 [.ref u, .int (nI row)] (hs_S0, I, L, R) = some (some (.int (if okA np k a b n r = true then 1 else 0)), (hs_S0, I', L, R)) ∧ RX n np nr nl nb nq (if okA np k a b n r = true then rA k a b n r z else r) ww I' L t p ∧ XZ I' u (if okA np k a b n r = true then zA k a b n r z else z) ∧ (∀ j, (j < t ∨ t + 16 ≤ j) → j ≠ u → I' j = I j) := by
  obtain ⟨o2, r7, r8, o4, o5, ht, hp, hu⟩ := hL
  have hW := RW_of hX
  have hn := hW.1
  have hh := hX.1.2.2.2
  have hx0 := hX.1.2.2.1
  have hD := hX.2.2.2.2.2.1
  obtain ⟨z0, z1, z2, z3, z4, z5, z6⟩ := id hZ
  rw [e174, b174_0 o2 r7 o5]
  simp (disch := omega) only [Option.bind_some, Option.toList_some, Option.toList_none, List.append_nil, List.cons_append, List.nil_append, ↓reduceIte, true_or, or_true, Nat.reduceAdd, Nat.add_assoc, f_ge, t_le, t_lt, f_lt, f_l0, t_0l, t_pl, t_eq, f_eq, f_e0, i10, i01, ib_nI, nI_clamp, nI_add, ad10, ad18, ad26, ad34, ad42, ad47, ad52, ad59, ad107, ad117, ml8, mr8, ml5, ml10, p1]
  rcases (show k = 0 ∨ k = 1 ∨ k = 2 ∨ k = 3 ∨ k = 4 ∨ k = 5 ∨ k = 6 ∨ k = 7 by omega) with rfl | rfl | rfl | rfl | rfl | rfl | rfl | rfl
  · obtain ⟨ea, ha⟩ := h0 rfl
    rw [sw174_0, b174_76 o2, ea]
    have hl := lpc_f hX.2.2.1
    have hHB := HB_of hX.1 hX.2.2.1 hD hl
    obtain ⟨dy, hdy, edy⟩ := hD.2.2.1.2
    have e8 : (r 8).toNatClampNeg = dy := by rw [edy, nI_clamp (by omega)]
    by_cases g : dy + a ≤ 9999
    · have hok : okA np 0 a b n r = true := by show decide ((r 8).toNatClampNeg + a ≤ 9999) = true; rw [e8]; simpa using g
      rw [hok]
      simp only [↓reduceIte]
      refine ⟨hs_u (hs_u (ldp I t r (lpf r) a n) t 15 (nI (dy + a))) u 2 (z 3 + nI a), ?_, ?_, ?_, ?_⟩
      · simp (disch := omega) only [Option.bind_some, Option.toList_some, Option.toList_none, List.append_nil, List.cons_append, List.nil_append, ↓reduceIte, true_or, or_true, Nat.reduceAdd, Nat.add_assoc, hu_same, hu_row, hu_at, hu_hu, e175, b175_0 o2 r8 o4, x100 (scr := scr) (d := d) (L := L) (e := a) o4 hX.1 hX.2.2.1 hD hl edy (by omega), b175_8 o2, i10, ldp_r, z2, b174_81]
      · refine RX_fu ⟨?_, ?_, ?_, ?_, ?_, ?_, ?_, ?_⟩ (by omega)
        · show RH n (cd r n (lpf r) a) _ t
          refine ⟨hn, by rw [cd_o (by omega)]; exact hX.1.2.1, ?_, fun k hk => ?_⟩
          · simp (disch := omega) only [hu_same, hu_row, hu_at, hu_hu, ldp_r, hx0]
          · have h1 := hh k hk
            have h2 := (HB_cd (d := a) hHB).2.2.1 k hk
            refine ⟨?_, ?_, ?_, ?_, h2.1, h2.2.1, h2.2.2.1, h2.2.2.2⟩
            · rw [cd_10 hn hk, hu_row _ _ (by omega), ldp_i6 hk]
            · rw [cd_o (by omega), hu_row _ _ (by omega), ldp_r (by omega)]; exact h1.2.1
            · rw [cd_26 hn hk, hu_row _ _ (by omega), ldp_i8 hk]
            · rw [cd_34 hn hk, hu_row _ _ (by omega), ldp_i9 hk]
        · exact RP_cg hX.2.1 (fun k hk => cd_o (by omega)) (by simp (disch := omega) only [hu_same, hu_row, hu_at, hu_hu, ldp_r]) (by simp (disch := omega) only [hu_same, hu_row, hu_at, hu_hu, ldp_r]) (by simp (disch := omega) only [hu_same, hu_row, hu_at, hu_hu, ldp_r])
        · exact RU_cg hX.2.2.1 (fun k hk => cd_o (by omega)) (by simp (disch := omega) only [hu_same, hu_row, hu_at, hu_hu, ldp_r]) (by simp (disch := omega) only [hu_same, hu_row, hu_at, hu_hu, ldp_r]) (by simp (disch := omega) only [hu_same, hu_row, hu_at, hu_hu, ldp_r])
        · exact RLk_cg hX.2.2.2.1 (fun k hk => cd_o (by omega)) (by simp (disch := omega) only [hu_same, hu_row, hu_at, hu_hu, ldp_r]) (by simp (disch := omega) only [hu_same, hu_row, hu_at, hu_hu, ldp_r])
        · exact RB_cg hX.2.2.2.2.1 (fun k hk => cd_o (by omega)) (by simp (disch := omega) only [hu_same, hu_row, hu_at, hu_hu, ldp_r]) (by simp (disch := omega) only [hu_same, hu_row, hu_at, hu_hu, ldp_r]) (by simp (disch := omega) only [hu_same, hu_row, hu_at, hu_hu, ldp_r]) (by simp (disch := omega) only [hu_same, hu_row, hu_at, hu_hu, ldp_r])
        · show RD (cd r n (lpf r) a) _ t
          unfold RD
          rw [cd_o (by omega), cd_o (by omega), cd_8 hn, cd_o (by omega), edy, nI_add]
          simp (disch := omega) only [hu_same, hu_row, hu_at, hu_hu, ldp_r]
          exact ⟨hD.1, hD.2.1, ⟨trivial, _, g, rfl⟩, hD.2.2.2⟩
        · exact RN_cg hX.2.2.2.2.2.2.1 (fun k hk => rfl) (by simp (disch := omega) only [hu_same, hu_row, hu_at, hu_hu, ldp_r]) (by simp (disch := omega) only [hu_same, hu_row, hu_at, hu_hu, ldp_r]) (by simp (disch := omega) only [hu_same, hu_row, hu_at, hu_hu, ldp_r]) rfl
        · exact RG_cg hX.2.2.2.2.2.2.2 (fun k h1 h2 => cd_o (by omega)) (by simp (disch := omega) only [hu_same, hu_row, hu_at, hu_hu, ldp_r]) (by simp (disch := omega) only [hu_same, hu_row, hu_at, hu_hu, ldp_r]) (by simp (disch := omega) only [hu_same, hu_row, hu_at, hu_hu, ldp_r]) (by simp (disch := omega) only [hu_same, hu_row, hu_at, hu_hu, ldp_r]) (by simp (disch := omega) only [hu_same, hu_row, hu_at, hu_hu, ldp_r]) (by simp (disch := omega) only [hu_same, hu_row, hu_at, hu_hu, ldp_r])
      · show XZ _ u (up z 3 (z 3 + nI a))
        unfold XZ
        simp (disch := omega) only [hu_same, hu_row, hu_at, hu_hu, ldp_r, up_n, up_s]
        exact ⟨z0, z1, trivial, z3, z4, z5, z6⟩
      · intro j h1 h2
        simp (disch := omega) only [hu_same, hu_row, hu_at, hu_hu, ldp_r]
    · have hok : okA np 0 a b n r = false := by show decide ((r 8).toNatClampNeg + a ≤ 9999) = false; rw [e8]; simpa using g
      rw [hok]
      simp only [↓reduceIte, Bool.false_eq_true]
      refine ⟨I, ?_, hX, hZ, fun j _ _ => rfl⟩
      simp (disch := omega) only [Option.bind_some, Option.toList_some, Option.toList_none, List.append_nil, List.cons_append, List.nil_append, ↓reduceIte, true_or, or_true, Nat.reduceAdd, Nat.add_assoc, e175, b175_0 o2 r8 o4, x100n (scr := scr) (d := d) (L := L) (e := a) o4 hD edy hdy (by omega) (by omega), b175_8 o2, b174_81]
  · rw [sw174_1, b174_82 o2 r8 o4]
    have e16 := hD.2.2.2.1
    have hok : (okA np 1 a b n r = true) = ¬ r 9 = 1 := by apply propext; show decide (¬ r 9 = 1) = true ↔ _; rw [decide_eq_true_eq]
    by_cases g : r 9 = 1
    · simp only [hok, g, not_true_eq_false, ↓reduceIte]
      refine ⟨I, ?_, hX, hZ, fun j _ _ => rfl⟩
      simp (disch := omega) only [Option.bind_some, Option.toList_some, Option.toList_none, List.append_nil, List.cons_append, List.nil_append, ↓reduceIte, true_or, or_true, Nat.reduceAdd, Nat.add_assoc, e105, b105_0 o4, b105_13 o4, e16, g, b174_90, hu_self _ (e16.trans g)]
    · simp only [hok, g, not_false_eq_true, ↓reduceIte]
      refine ⟨hs_u I t 16 1, ?_, ⟨RH_cg hX.1 (fun k hk => up_n _ _ (by omega)) (by simp (disch := omega) only [hu_same, hu_row, hu_at, hu_hu]) (by simp (disch := omega) only [hu_same, hu_row, hu_at, hu_hu]) (by simp (disch := omega) only [hu_same, hu_row, hu_at, hu_hu]) (by simp (disch := omega) only [hu_same, hu_row, hu_at, hu_hu]) (by simp (disch := omega) only [hu_same, hu_row, hu_at, hu_hu]), RP_cg hX.2.1 (fun k hk => up_n _ _ (by omega)) (by simp (disch := omega) only [hu_same, hu_row, hu_at, hu_hu]) (by simp (disch := omega) only [hu_same, hu_row, hu_at, hu_hu]) (by simp (disch := omega) only [hu_same, hu_row, hu_at, hu_hu]), RU_cg hX.2.2.1 (fun k hk => up_n _ _ (by omega)) (by simp (disch := omega) only [hu_same, hu_row, hu_at, hu_hu]) (by simp (disch := omega) only [hu_same, hu_row, hu_at, hu_hu]) (by simp (disch := omega) only [hu_same, hu_row, hu_at, hu_hu]), RLk_cg hX.2.2.2.1 (fun k hk => up_n _ _ (by omega)) (by simp (disch := omega) only [hu_same, hu_row, hu_at, hu_hu]) (by simp (disch := omega) only [hu_same, hu_row, hu_at, hu_hu]), RB_cg hX.2.2.2.2.1 (fun k hk => up_n _ _ (by omega)) (by simp (disch := omega) only [hu_same, hu_row, hu_at, hu_hu]) (by simp (disch := omega) only [hu_same, hu_row, hu_at, hu_hu]) (by simp (disch := omega) only [hu_same, hu_row, hu_at, hu_hu]) (by simp (disch := omega) only [hu_same, hu_row, hu_at, hu_hu]), ?_, RN_cg hX.2.2.2.2.2.2.1 (fun k hk => rfl) (by simp (disch := omega) only [hu_same, hu_row, hu_at, hu_hu]) (by simp (disch := omega) only [hu_same, hu_row, hu_at, hu_hu]) (by simp (disch := omega) only [hu_same, hu_row, hu_at, hu_hu]) rfl, RG_cg hX.2.2.2.2.2.2.2 (fun k h1 h2 => up_n _ _ (by omega)) (by simp (disch := omega) only [hu_same, hu_row, hu_at, hu_hu]) (by simp (disch := omega) only [hu_same, hu_row, hu_at, hu_hu]) (by simp (disch := omega) only [hu_same, hu_row, hu_at, hu_hu]) (by simp (disch := omega) only [hu_same, hu_row, hu_at, hu_hu]) (by simp (disch := omega) only [hu_same, hu_row, hu_at, hu_hu]) (by simp (disch := omega) only [hu_same, hu_row, hu_at, hu_hu])⟩, XZ_i hZ _ (hu_row _ _ (by omega)), fun j h1 h2 => hu_row _ _ (by omega)⟩
      · simp (disch := omega) only [Option.bind_some, Option.toList_some, Option.toList_none, List.append_nil, List.cons_append, List.nil_append, ↓reduceIte, true_or, or_true, Nat.reduceAdd, Nat.add_assoc, e105, b105_0 o4, b105_13 o4, e16, g, b174_90]
      · show RD (up r 9 1) _ t
        unfold RD
        simp (disch := omega) only [hu_same, hu_row, hu_at, hu_hu, up_n, up_s]
        exact ⟨hD.1, hD.2.1, hD.2.2.1, trivial, Or.inr trivial⟩
  · rw [sw174_2, b174_91 o2 r8 o4]
    have e16 := hD.2.2.2.1
    have hok : (okA np 2 a b n r = true) = ¬ r 9 = 0 := by apply propext; show decide (¬ r 9 = 0) = true ↔ _; rw [decide_eq_true_eq]
    by_cases g : r 9 = 0
    · simp only [hok, g, not_true_eq_false, ↓reduceIte]
      refine ⟨I, ?_, hX, hZ, fun j _ _ => rfl⟩
      simp (disch := omega) only [Option.bind_some, Option.toList_some, Option.toList_none, List.append_nil, List.cons_append, List.nil_append, ↓reduceIte, true_or, or_true, Nat.reduceAdd, Nat.add_assoc, e105, b105_0 o4, b105_13 o4, e16, g, b174_99, hu_self _ (e16.trans g)]
    · simp only [hok, g, not_false_eq_true, ↓reduceIte]
      refine ⟨hs_u I t 16 0, ?_, ⟨RH_cg hX.1 (fun k hk => up_n _ _ (by omega)) (by simp (disch := omega) only [hu_same, hu_row, hu_at, hu_hu]) (by simp (disch := omega) only [hu_same, hu_row, hu_at, hu_hu]) (by simp (disch := omega) only [hu_same, hu_row, hu_at, hu_hu]) (by simp (disch := omega) only [hu_same, hu_row, hu_at, hu_hu]) (by simp (disch := omega) only [hu_same, hu_row, hu_at, hu_hu]), RP_cg hX.2.1 (fun k hk => up_n _ _ (by omega)) (by simp (disch := omega) only [hu_same, hu_row, hu_at, hu_hu]) (by simp (disch := omega) only [hu_same, hu_row, hu_at, hu_hu]) (by simp (disch := omega) only [hu_same, hu_row, hu_at, hu_hu]), RU_cg hX.2.2.1 (fun k hk => up_n _ _ (by omega)) (by simp (disch := omega) only [hu_same, hu_row, hu_at, hu_hu]) (by simp (disch := omega) only [hu_same, hu_row, hu_at, hu_hu]) (by simp (disch := omega) only [hu_same, hu_row, hu_at, hu_hu]), RLk_cg hX.2.2.2.1 (fun k hk => up_n _ _ (by omega)) (by simp (disch := omega) only [hu_same, hu_row, hu_at, hu_hu]) (by simp (disch := omega) only [hu_same, hu_row, hu_at, hu_hu]), RB_cg hX.2.2.2.2.1 (fun k hk => up_n _ _ (by omega)) (by simp (disch := omega) only [hu_same, hu_row, hu_at, hu_hu]) (by simp (disch := omega) only [hu_same, hu_row, hu_at, hu_hu]) (by simp (disch := omega) only [hu_same, hu_row, hu_at, hu_hu]) (by simp (disch := omega) only [hu_same, hu_row, hu_at, hu_hu]), ?_, RN_cg hX.2.2.2.2.2.2.1 (fun k hk => rfl) (by simp (disch := omega) only [hu_same, hu_row, hu_at, hu_hu]) (by simp (disch := omega) only [hu_same, hu_row, hu_at, hu_hu]) (by simp (disch := omega) only [hu_same, hu_row, hu_at, hu_hu]) rfl, RG_cg hX.2.2.2.2.2.2.2 (fun k h1 h2 => up_n _ _ (by omega)) (by simp (disch := omega) only [hu_same, hu_row, hu_at, hu_hu]) (by simp (disch := omega) only [hu_same, hu_row, hu_at, hu_hu]) (by simp (disch := omega) only [hu_same, hu_row, hu_at, hu_hu]) (by simp (disch := omega) only [hu_same, hu_row, hu_at, hu_hu]) (by simp (disch := omega) only [hu_same, hu_row, hu_at, hu_hu]) (by simp (disch := omega) only [hu_same, hu_row, hu_at, hu_hu])⟩, XZ_i hZ _ (hu_row _ _ (by omega)), fun j h1 h2 => hu_row _ _ (by omega)⟩
      · simp (disch := omega) only [Option.bind_some, Option.toList_some, Option.toList_none, List.append_nil, List.cons_append, List.nil_append, ↓reduceIte, true_or, or_true, Nat.reduceAdd, Nat.add_assoc, e105, b105_0 o4, b105_13 o4, e16, g, b174_99]
      · show RD (up r 9 0) _ t
        unfold RD
        simp (disch := omega) only [hu_same, hu_row, hu_at, hu_hu, up_n, up_s]
        exact ⟨hD.1, hD.2.1, hD.2.2.1, trivial, Or.inl trivial⟩
  · obtain ⟨ea, ha, eb, hb⟩ := h3 (by omega)
    rw [sw174_3, b174_100 o2 r8 o4, ea, eb]
    have hok : okA np 3 a b n r = true := rfl
    rw [hok]
    simp only [↓reduceIte]
    refine ⟨hs_u I (t + 9) a (nI b), ?_, ⟨RH_u9 hX.1 ha ⟨b, hb, rfl⟩ (fun a b h1 h2 => by simp (disch := omega) only [hu_same, hu_row, hu_at, hu_hu]) (by simp (disch := omega) only [hu_same, hu_row, hu_at, hu_hu]) (fun j h1 h2 => up_n _ _ (by omega)) (up_s _ _ _), RP_cg hX.2.1 (fun k hk => up_n _ _ (by omega)) (by simp (disch := omega) only [hu_same, hu_row, hu_at, hu_hu]) (by simp (disch := omega) only [hu_same, hu_row, hu_at, hu_hu]) (by simp (disch := omega) only [hu_same, hu_row, hu_at, hu_hu]), RU_cg hX.2.2.1 (fun k hk => up_n _ _ (by omega)) (by simp (disch := omega) only [hu_same, hu_row, hu_at, hu_hu]) (by simp (disch := omega) only [hu_same, hu_row, hu_at, hu_hu]) (by simp (disch := omega) only [hu_same, hu_row, hu_at, hu_hu]), RLk_cg hX.2.2.2.1 (fun k hk => up_n _ _ (by omega)) (by simp (disch := omega) only [hu_same, hu_row, hu_at, hu_hu]) (by simp (disch := omega) only [hu_same, hu_row, hu_at, hu_hu]), RB_cg hX.2.2.2.2.1 (fun k hk => up_n _ _ (by omega)) (by simp (disch := omega) only [hu_same, hu_row, hu_at, hu_hu]) (by simp (disch := omega) only [hu_same, hu_row, hu_at, hu_hu]) (by simp (disch := omega) only [hu_same, hu_row, hu_at, hu_hu]) (by simp (disch := omega) only [hu_same, hu_row, hu_at, hu_hu]), RD_cg hX.2.2.2.2.2.1 (fun k hk => up_n _ _ (by omega)) (by simp (disch := omega) only [hu_same, hu_row, hu_at, hu_hu]) (by simp (disch := omega) only [hu_same, hu_row, hu_at, hu_hu]) (by simp (disch := omega) only [hu_same, hu_row, hu_at, hu_hu]) (by simp (disch := omega) only [hu_same, hu_row, hu_at, hu_hu]), RN_cg hX.2.2.2.2.2.2.1 (fun k hk => rfl) (by simp (disch := omega) only [hu_same, hu_row, hu_at, hu_hu]) (by simp (disch := omega) only [hu_same, hu_row, hu_at, hu_hu]) (by simp (disch := omega) only [hu_same, hu_row, hu_at, hu_hu]) rfl, RG_cg hX.2.2.2.2.2.2.2 (fun k h1 h2 => up_n _ _ (by omega)) (by simp (disch := omega) only [hu_same, hu_row, hu_at, hu_hu]) (by simp (disch := omega) only [hu_same, hu_row, hu_at, hu_hu]) (by simp (disch := omega) only [hu_same, hu_row, hu_at, hu_hu]) (by simp (disch := omega) only [hu_same, hu_row, hu_at, hu_hu]) (by simp (disch := omega) only [hu_same, hu_row, hu_at, hu_hu]) (by simp (disch := omega) only [hu_same, hu_row, hu_at, hu_hu])⟩, XZ_i hZ _ (hu_row _ _ (by omega)), fun j h1 h2 => hu_row _ _ (by omega)⟩
    simp (disch := omega) only [Option.bind_some, Option.toList_some, Option.toList_none, List.append_nil, List.cons_append, List.nil_append, ↓reduceIte, true_or, or_true, Nat.reduceAdd, Nat.add_assoc, f_ge, t_le, t_lt, f_lt, f_l0, t_0l, t_pl, t_eq, f_eq, f_e0, i10, i01, ib_nI, nI_clamp, nI_add, ad10, ad18, ad26, ad34, ad42, ad47, ad52, ad59, ad107, ad117, ml8, mr8, ml5, ml10]
  · obtain ⟨ea, ha, eb, hb⟩ := h3 (by omega)
    rw [sw174_4, b174_115 o2, ea, eb]
    obtain ⟨y, hy, ey⟩ := (hh a ha).2.2.2.2.1
    have e10 : (r (10 + a)).toNatClampNeg = y := by rw [ey, nI_clamp (by omega)]
    have e6 := (hh a ha).1
    by_cases g : b < y
    · have hok : okA np 4 a b n r = true := by show decide (b < (r (10 + a)).toNatClampNeg) = true; rw [e10]; simpa using g
      rw [hok]
      simp only [↓reduceIte]
      refine ⟨hs_u (hs_u I (t + 6) a (nI b)) u 3 (z 4 + (r (10 + a) - nI b)), ?_, RX_fu ⟨RH_u6 hX.1 ha ⟨b, hb, rfl⟩ (fun a b h1 h2 => by simp (disch := omega) only [hu_same, hu_row, hu_at, hu_hu]) (by simp (disch := omega) only [hu_same, hu_row, hu_at, hu_hu]) (fun j h1 h2 => up_n _ _ (by omega)) (up_s _ _ _), RP_cg hX.2.1 (fun k hk => up_n _ _ (by omega)) (by simp (disch := omega) only [hu_same, hu_row, hu_at, hu_hu]) (by simp (disch := omega) only [hu_same, hu_row, hu_at, hu_hu]) (by simp (disch := omega) only [hu_same, hu_row, hu_at, hu_hu]), RU_cg hX.2.2.1 (fun k hk => up_n _ _ (by omega)) (by simp (disch := omega) only [hu_same, hu_row, hu_at, hu_hu]) (by simp (disch := omega) only [hu_same, hu_row, hu_at, hu_hu]) (by simp (disch := omega) only [hu_same, hu_row, hu_at, hu_hu]), RLk_cg hX.2.2.2.1 (fun k hk => up_n _ _ (by omega)) (by simp (disch := omega) only [hu_same, hu_row, hu_at, hu_hu]) (by simp (disch := omega) only [hu_same, hu_row, hu_at, hu_hu]), RB_cg hX.2.2.2.2.1 (fun k hk => up_n _ _ (by omega)) (by simp (disch := omega) only [hu_same, hu_row, hu_at, hu_hu]) (by simp (disch := omega) only [hu_same, hu_row, hu_at, hu_hu]) (by simp (disch := omega) only [hu_same, hu_row, hu_at, hu_hu]) (by simp (disch := omega) only [hu_same, hu_row, hu_at, hu_hu]), RD_cg hX.2.2.2.2.2.1 (fun k hk => up_n _ _ (by omega)) (by simp (disch := omega) only [hu_same, hu_row, hu_at, hu_hu]) (by simp (disch := omega) only [hu_same, hu_row, hu_at, hu_hu]) (by simp (disch := omega) only [hu_same, hu_row, hu_at, hu_hu]) (by simp (disch := omega) only [hu_same, hu_row, hu_at, hu_hu]), RN_cg hX.2.2.2.2.2.2.1 (fun k hk => rfl) (by simp (disch := omega) only [hu_same, hu_row, hu_at, hu_hu]) (by simp (disch := omega) only [hu_same, hu_row, hu_at, hu_hu]) (by simp (disch := omega) only [hu_same, hu_row, hu_at, hu_hu]) rfl, RG_cg hX.2.2.2.2.2.2.2 (fun k h1 h2 => up_n _ _ (by omega)) (by simp (disch := omega) only [hu_same, hu_row, hu_at, hu_hu]) (by simp (disch := omega) only [hu_same, hu_row, hu_at, hu_hu]) (by simp (disch := omega) only [hu_same, hu_row, hu_at, hu_hu]) (by simp (disch := omega) only [hu_same, hu_row, hu_at, hu_hu]) (by simp (disch := omega) only [hu_same, hu_row, hu_at, hu_hu]) (by simp (disch := omega) only [hu_same, hu_row, hu_at, hu_hu])⟩ (by omega), ?_, ?_⟩
      · simp (disch := omega) only [Option.bind_some, Option.toList_some, Option.toList_none, List.append_nil, List.cons_append, List.nil_append, ↓reduceIte, true_or, or_true, Nat.reduceAdd, Nat.add_assoc, f_ge, t_le, t_lt, f_lt, f_l0, t_0l, t_pl, t_eq, f_eq, f_e0, i10, i01, ib_nI, nI_clamp, nI_add, ad10, ad18, ad26, ad34, ad42, ad47, ad52, ad59, ad107, ad117, ml8, mr8, ml5, ml10, hu_same, hu_row, hu_at, hu_hu, e176, b176_0 o2 r8 o4, e6, ey, e110, b110_0 (show ok1 hs_S0 R (t + 5) from o4.2.2.2.2.2.1), b176_35 (o_u0 := o2), z3, b174_121]
      · show XZ _ u (up z 4 (z 4 + (r (10 + a) - nI b)))
        unfold XZ
        simp (disch := omega) only [hu_same, hu_row, hu_at, hu_hu, up_n, up_s]
        exact ⟨z0, z1, z2, trivial, z4, z5, z6⟩
      · intro j h1 h2
        simp (disch := omega) only [hu_same, hu_row, hu_at, hu_hu]
    · have hok : okA np 4 a b n r = false := by show decide (b < (r (10 + a)).toNatClampNeg) = false; rw [e10]; simpa using g
      rw [hok]
      simp only [↓reduceIte, Bool.false_eq_true]
      refine ⟨I, ?_, hX, hZ, fun j _ _ => rfl⟩
      simp (disch := omega) only [Option.bind_some, Option.toList_some, Option.toList_none, List.append_nil, List.cons_append, List.nil_append, ↓reduceIte, true_or, or_true, Nat.reduceAdd, Nat.add_assoc, f_ge, t_le, t_lt, f_lt, f_l0, t_0l, t_pl, t_eq, f_eq, f_e0, i10, i01, ib_nI, nI_clamp, nI_add, ad10, ad18, ad26, ad34, ad42, ad47, ad52, ad59, ad107, ad117, ml8, mr8, ml5, ml10, e176, b176_0 o2 r8 o4, e6, ey, b174_121]
  · obtain ⟨ea, ha, eb, hb⟩ := h3 (by omega)
    rw [sw174_5, b174_122 o2, ea, eb]
    obtain ⟨y, hy, ey⟩ := (hh a ha).2.2.2.2.1
    have e10 : (r (10 + a)).toNatClampNeg = y := by rw [ey, nI_clamp (by omega)]
    have e6 := (hh a ha).1
    have e1 := x112 (scr := scr) (d := d + 2) (L := L) (y := nI b) o4 hX.1 hX.2.1 ha
    rw [ey] at e1
    have hok : (okA np 5 a b n r = true) = (b < y ∧ 0 < fo (gPoll r (nI y) (nI b)) np 0) := by
      apply propext; show decide (b < (r (10 + a)).toNatClampNeg ∧ 0 < fo (gPoll r (r (10 + a)) (nI b)) np 0) = true ↔ _; rw [e10, ey, decide_eq_true_eq]
    by_cases g0 : 0 < fo (gPoll r (nI y) (nI b)) np 0
    · have g0' : ¬ fo (gPoll r (nI y) (nI b)) np 0 ≤ 0 := fun q => (i32_nlt _ _).mpr q g0
      by_cases g : b < y
      · simp only [hok, g, g0, and_self, ↓reduceIte]
        refine ⟨hs_u (hs_u (hs_u I (t + 6) a (nI b)) u 3 (z 4 + (r (10 + a) - nI b))) u 4 (z 5 + 1), ?_, RX_fu (RX_fu ⟨RH_u6 hX.1 ha ⟨b, hb, rfl⟩ (fun a b h1 h2 => by simp (disch := omega) only [hu_same, hu_row, hu_at, hu_hu]) (by simp (disch := omega) only [hu_same, hu_row, hu_at, hu_hu]) (fun j h1 h2 => up_n _ _ (by omega)) (up_s _ _ _), RP_cg hX.2.1 (fun k hk => up_n _ _ (by omega)) (by simp (disch := omega) only [hu_same, hu_row, hu_at, hu_hu]) (by simp (disch := omega) only [hu_same, hu_row, hu_at, hu_hu]) (by simp (disch := omega) only [hu_same, hu_row, hu_at, hu_hu]), RU_cg hX.2.2.1 (fun k hk => up_n _ _ (by omega)) (by simp (disch := omega) only [hu_same, hu_row, hu_at, hu_hu]) (by simp (disch := omega) only [hu_same, hu_row, hu_at, hu_hu]) (by simp (disch := omega) only [hu_same, hu_row, hu_at, hu_hu]), RLk_cg hX.2.2.2.1 (fun k hk => up_n _ _ (by omega)) (by simp (disch := omega) only [hu_same, hu_row, hu_at, hu_hu]) (by simp (disch := omega) only [hu_same, hu_row, hu_at, hu_hu]), RB_cg hX.2.2.2.2.1 (fun k hk => up_n _ _ (by omega)) (by simp (disch := omega) only [hu_same, hu_row, hu_at, hu_hu]) (by simp (disch := omega) only [hu_same, hu_row, hu_at, hu_hu]) (by simp (disch := omega) only [hu_same, hu_row, hu_at, hu_hu]) (by simp (disch := omega) only [hu_same, hu_row, hu_at, hu_hu]), RD_cg hX.2.2.2.2.2.1 (fun k hk => up_n _ _ (by omega)) (by simp (disch := omega) only [hu_same, hu_row, hu_at, hu_hu]) (by simp (disch := omega) only [hu_same, hu_row, hu_at, hu_hu]) (by simp (disch := omega) only [hu_same, hu_row, hu_at, hu_hu]) (by simp (disch := omega) only [hu_same, hu_row, hu_at, hu_hu]), RN_cg hX.2.2.2.2.2.2.1 (fun k hk => rfl) (by simp (disch := omega) only [hu_same, hu_row, hu_at, hu_hu]) (by simp (disch := omega) only [hu_same, hu_row, hu_at, hu_hu]) (by simp (disch := omega) only [hu_same, hu_row, hu_at, hu_hu]) rfl, RG_cg hX.2.2.2.2.2.2.2 (fun k h1 h2 => up_n _ _ (by omega)) (by simp (disch := omega) only [hu_same, hu_row, hu_at, hu_hu]) (by simp (disch := omega) only [hu_same, hu_row, hu_at, hu_hu]) (by simp (disch := omega) only [hu_same, hu_row, hu_at, hu_hu]) (by simp (disch := omega) only [hu_same, hu_row, hu_at, hu_hu]) (by simp (disch := omega) only [hu_same, hu_row, hu_at, hu_hu]) (by simp (disch := omega) only [hu_same, hu_row, hu_at, hu_hu])⟩ (by omega)) (by omega), ?_, ?_⟩
        · simp (disch := omega) only [Option.bind_some, Option.toList_some, Option.toList_none, List.append_nil, List.cons_append, List.nil_append, ↓reduceIte, true_or, or_true, Nat.reduceAdd, Nat.add_assoc, f_ge, t_le, t_lt, f_lt, f_l0, t_0l, t_pl, t_eq, f_eq, f_e0, i10, i01, ib_nI, nI_clamp, nI_add, ad10, ad18, ad26, ad34, ad42, ad47, ad52, ad59, ad107, ad117, ml8, mr8, ml5, ml10, hu_same, hu_row, hu_at, hu_hu, e177, b177_0 o2 r8 o4, e1, b177_9 o2, g0', e176, b176_0 o2 r8 o4, e6, ey, e110, b110_0 (show ok1 hs_S0 R (t + 5) from o4.2.2.2.2.2.1), b176_35 (o_u0 := o2), z3, b177_18 o2, z4, b174_128]
        · show XZ _ u (up (up z 4 (z 4 + (r (10 + a) - nI b))) 5 (z 5 + 1))
          unfold XZ
          simp (disch := omega) only [hu_same, hu_row, hu_at, hu_hu, up_n, up_s]
          exact ⟨z0, z1, z2, trivial, trivial, z5, z6⟩
        · intro j h1 h2
          simp (disch := omega) only [hu_same, hu_row, hu_at, hu_hu]
      · simp only [hok, g, false_and, ↓reduceIte]
        refine ⟨I, ?_, hX, hZ, fun j _ _ => rfl⟩
        simp (disch := omega) only [Option.bind_some, Option.toList_some, Option.toList_none, List.append_nil, List.cons_append, List.nil_append, ↓reduceIte, true_or, or_true, Nat.reduceAdd, Nat.add_assoc, f_ge, t_le, t_lt, f_lt, f_l0, t_0l, t_pl, t_eq, f_eq, f_e0, i10, i01, ib_nI, nI_clamp, nI_add, ad10, ad18, ad26, ad34, ad42, ad47, ad52, ad59, ad107, ad117, ml8, mr8, ml5, ml10, e177, b177_0 o2 r8 o4, e1, b177_9 o2, g0', e176, b176_0 o2 r8 o4, e6, ey, b177_18 o2, b177_21, b174_128]
    · have g0' : fo (gPoll r (nI y) (nI b)) np 0 ≤ 0 := (i32_nlt _ _).mp g0
      simp only [hok, g0, and_false, ↓reduceIte]
      refine ⟨I, ?_, hX, hZ, fun j _ _ => rfl⟩
      simp (disch := omega) only [Option.bind_some, Option.toList_some, Option.toList_none, List.append_nil, List.cons_append, List.nil_append, ↓reduceIte, true_or, or_true, Nat.reduceAdd, Nat.add_assoc, f_ge, t_le, t_lt, f_lt, f_l0, t_0l, t_pl, t_eq, f_eq, f_e0, i10, i01, ib_nI, nI_clamp, nI_add, ad10, ad18, ad26, ad34, ad42, ad47, ad52, ad59, ad107, ad117, ml8, mr8, ml5, ml10, e177, b177_0 o2 r8 o4, e1, b177_9 o2, g0', b177_21, b174_128]
  · rw [sw174_6, b174_129 o2 r8 o4]
    obtain ⟨hr6, hc2, hx2, hrr, ru, hru1, hru⟩ := id hX.2.2.1
    have hok : (okA np 6 a b n r = true) = (r 58 + 1 < r 2) := by apply propext; show decide (r 58 + 1 < r 2) = true ↔ _; rw [decide_eq_true_eq]
    rcases hru with ⟨rfl, rfl, hru2⟩ | ⟨hru2, hru3⟩
    · have g : ¬ r 58 + 1 < r 2 := by rw [hru1, hc2]; decide
      simp only [hok, g, ↓reduceIte]
      refine ⟨I, ?_, hX, hZ, fun j _ _ => rfl⟩
      simp (disch := omega) only [Option.bind_some, Option.toList_some, Option.toList_none, List.append_nil, List.cons_append, List.nil_append, ↓reduceIte, true_or, or_true, Nat.reduceAdd, Nat.add_assoc, f_ge, t_le, t_lt, f_lt, f_l0, t_0l, t_pl, t_eq, f_eq, f_e0, i10, i01, ib_nI, nI_clamp, nI_add, ad10, ad18, ad26, ad34, ad42, ad47, ad52, ad59, ad107, ad117, ml8, mr8, ml5, ml10, e114, b114_0 o4, hru2, hx2, show ¬ (-1 + 1 : Int32) < nI 0 by decide, b174_136]
    · by_cases g : r 58 + 1 < r 2
      · simp only [hok, g, ↓reduceIte]
        rw [hru1, hc2, nI_1] at g
        have g' : ru + 1 < nr := (nI_ltI (by omega) (by omega)).mp g
        refine ⟨hs_u I t 17 (nI (ru + 1)), ?_, ⟨RH_cg hX.1 (fun k hk => up_n _ _ (by omega)) (by simp (disch := omega) only [hu_same, hu_row, hu_at, hu_hu]) (by simp (disch := omega) only [hu_same, hu_row, hu_at, hu_hu]) (by simp (disch := omega) only [hu_same, hu_row, hu_at, hu_hu]) (by simp (disch := omega) only [hu_same, hu_row, hu_at, hu_hu]) (by simp (disch := omega) only [hu_same, hu_row, hu_at, hu_hu]), RP_cg hX.2.1 (fun k hk => up_n _ _ (by omega)) (by simp (disch := omega) only [hu_same, hu_row, hu_at, hu_hu]) (by simp (disch := omega) only [hu_same, hu_row, hu_at, hu_hu]) (by simp (disch := omega) only [hu_same, hu_row, hu_at, hu_hu]), ?_, RLk_cg hX.2.2.2.1 (fun k hk => up_n _ _ (by omega)) (by simp (disch := omega) only [hu_same, hu_row, hu_at, hu_hu]) (by simp (disch := omega) only [hu_same, hu_row, hu_at, hu_hu]), RB_cg hX.2.2.2.2.1 (fun k hk => up_n _ _ (by omega)) (by simp (disch := omega) only [hu_same, hu_row, hu_at, hu_hu]) (by simp (disch := omega) only [hu_same, hu_row, hu_at, hu_hu]) (by simp (disch := omega) only [hu_same, hu_row, hu_at, hu_hu]) (by simp (disch := omega) only [hu_same, hu_row, hu_at, hu_hu]), RD_cg hX.2.2.2.2.2.1 (fun k hk => up_n _ _ (by omega)) (by simp (disch := omega) only [hu_same, hu_row, hu_at, hu_hu]) (by simp (disch := omega) only [hu_same, hu_row, hu_at, hu_hu]) (by simp (disch := omega) only [hu_same, hu_row, hu_at, hu_hu]) (by simp (disch := omega) only [hu_same, hu_row, hu_at, hu_hu]), RN_cg hX.2.2.2.2.2.2.1 (fun k hk => rfl) (by simp (disch := omega) only [hu_same, hu_row, hu_at, hu_hu]) (by simp (disch := omega) only [hu_same, hu_row, hu_at, hu_hu]) (by simp (disch := omega) only [hu_same, hu_row, hu_at, hu_hu]) rfl, RG_cg hX.2.2.2.2.2.2.2 (fun k h1 h2 => up_n _ _ (by omega)) (by simp (disch := omega) only [hu_same, hu_row, hu_at, hu_hu]) (by simp (disch := omega) only [hu_same, hu_row, hu_at, hu_hu]) (by simp (disch := omega) only [hu_same, hu_row, hu_at, hu_hu]) (by simp (disch := omega) only [hu_same, hu_row, hu_at, hu_hu]) (by simp (disch := omega) only [hu_same, hu_row, hu_at, hu_hu]) (by simp (disch := omega) only [hu_same, hu_row, hu_at, hu_hu])⟩, XZ_i hZ _ (hu_row _ _ (by omega)), fun j h1 h2 => hu_row _ _ (by omega)⟩
        · simp (disch := omega) only [Option.bind_some, Option.toList_some, Option.toList_none, List.append_nil, List.cons_append, List.nil_append, ↓reduceIte, true_or, or_true, Nat.reduceAdd, Nat.add_assoc, f_ge, t_le, t_lt, f_lt, f_l0, t_0l, t_pl, t_eq, f_eq, f_e0, i10, i01, ib_nI, nI_clamp, nI_add, ad10, ad18, ad26, ad34, ad42, ad47, ad52, ad59, ad107, ad117, ml8, mr8, ml5, ml10, e114, b114_0 o4, hru3, hx2, nI_1, b174_136]
        · show RU nr (up r 58 (r 58 + 1)) _ t
          refine ⟨hr6, ?_, ?_, fun k hk => ?_, ru + 1, ?_, Or.inr ⟨g', ?_⟩⟩
          all_goals simp (disch := omega) only [hu_same, hu_row, hu_at, hu_hu, up_n, up_s]
          · exact hc2
          · exact hx2
          · exact hrr k hk
          · rw [hru1, nI_1]
      · simp only [hok, g, ↓reduceIte]
        rw [hru1, hc2, nI_1] at g
        refine ⟨I, ?_, hX, hZ, fun j _ _ => rfl⟩
        simp (disch := omega) only [Option.bind_some, Option.toList_some, Option.toList_none, List.append_nil, List.cons_append, List.nil_append, ↓reduceIte, true_or, or_true, Nat.reduceAdd, Nat.add_assoc, e114, b114_0 o4, hru3, hx2, nI_1, g, b174_136]
  · rw [sw174_7, b174_137 o2]
    obtain ⟨x, hx, ex⟩ := hz
    obtain ⟨y1, h1, e1⟩ := nxD_n hx
    obtain ⟨y2, h2, e2⟩ := nxD_n h1
    have hok : (okA np 7 a b n r = true) = (n ≠ 0) := by apply propext; show decide (n ≠ 0) = true ↔ _; rw [decide_eq_true_eq]
    have h179 : ∀ (m : Int32) (J : Nat → Nat → Int32), 0 < m → ¬ m = 0 → hs_C scr (d + 2) 179 [.ref u, .int m] (hs_S0, J, L, R) = some (some (.int (drD (nxD (J u 6)) m)), (hs_S0, hs_u J u 6 (nxD (J u 6)), L, R)) := by
      intro m J hm hm0
      rw [e179, b179_0 o2, if_neg (fun q => (i32_nlt _ _).mpr q hm), if_neg hm0, b179_36]
      simp (disch := omega) only [hu_same, hu_row, hu_at, hu_hu]; rfl
    by_cases g : n = 0
    · subst g
      simp only [hok, ne_eq, not_true_eq_false, ↓reduceIte]
      refine ⟨I, ?_, hX, hZ, fun j _ _ => rfl⟩
      simp (disch := omega) only [Option.bind_some, Option.toList_some, Option.toList_none, List.append_nil, List.cons_append, List.nil_append, ↓reduceIte, true_or, or_true, Nat.reduceAdd, Nat.add_assoc, f_ge, t_le, t_lt, f_lt, f_l0, t_0l, t_pl, t_eq, f_eq, f_e0, i10, i01, ib_nI, nI_clamp, nI_add, ad10, ad18, ad26, ad34, ad42, ad47, ad52, ad59, ad107, ad117, ml8, mr8, ml5, ml10, e178, b178_0 o2 r8 o4, hx0, nI_0, show ¬ (0 : Int32) < 0 by decide, b174_141]
    · have hlt := Nat.mod_lt (y1 / 8) (show 0 < n by omega)
      have hd : drD (nxD (z 0)) (nI n) = nI (y1 / 8 % n) := by rw [ex, e1, drD_n h1 (by omega) (by omega)]
      have hrA : rA 7 a b n r z = up r (26 + y1 / 8 % n) (drD (nxD (nxD (z 0))) 3) := by
        show up r (26 + (drD (nxD (z 0)) (nI n)).toNatClampNeg) _ = _
        rw [hd, nI_clamp (by omega)]
      have hv : drD (nxD (nxD (z 0))) 3 = nI (y2 / 8 % 3) := by
        rw [ex, e1, e2]; exact drD_n (m := 3) h2 (by omega) (by omega)
      have hzA : zA 7 a b n r z = up z 0 (nxD (nxD (z 0))) := rfl
      simp only [hok, g, ne_eq, not_false_eq_true, ↓reduceIte]
      rw [hrA, hzA, hv]
      refine ⟨hs_u (hs_u I u 6 (nxD (nxD (z 0)))) (t + 8) (y1 / 8 % n) (nI (y2 / 8 % 3)), ?_, ⟨RH_u8 hX.1 hlt ⟨_, by omega, rfl⟩ (fun a b h1 h2 => by simp (disch := omega) only [hu_same, hu_row, hu_at, hu_hu]) (by simp (disch := omega) only [hu_same, hu_row, hu_at, hu_hu]) (fun j h1 h2 => up_n _ _ (by omega)) (up_s _ _ _), RP_cg hX.2.1 (fun k hk => up_n _ _ (by omega)) (by simp (disch := omega) only [hu_same, hu_row, hu_at, hu_hu]) (by simp (disch := omega) only [hu_same, hu_row, hu_at, hu_hu]) (by simp (disch := omega) only [hu_same, hu_row, hu_at, hu_hu]), RU_cg hX.2.2.1 (fun k hk => up_n _ _ (by omega)) (by simp (disch := omega) only [hu_same, hu_row, hu_at, hu_hu]) (by simp (disch := omega) only [hu_same, hu_row, hu_at, hu_hu]) (by simp (disch := omega) only [hu_same, hu_row, hu_at, hu_hu]), RLk_cg hX.2.2.2.1 (fun k hk => up_n _ _ (by omega)) (by simp (disch := omega) only [hu_same, hu_row, hu_at, hu_hu]) (by simp (disch := omega) only [hu_same, hu_row, hu_at, hu_hu]), RB_cg hX.2.2.2.2.1 (fun k hk => up_n _ _ (by omega)) (by simp (disch := omega) only [hu_same, hu_row, hu_at, hu_hu]) (by simp (disch := omega) only [hu_same, hu_row, hu_at, hu_hu]) (by simp (disch := omega) only [hu_same, hu_row, hu_at, hu_hu]) (by simp (disch := omega) only [hu_same, hu_row, hu_at, hu_hu]), RD_cg hX.2.2.2.2.2.1 (fun k hk => up_n _ _ (by omega)) (by simp (disch := omega) only [hu_same, hu_row, hu_at, hu_hu]) (by simp (disch := omega) only [hu_same, hu_row, hu_at, hu_hu]) (by simp (disch := omega) only [hu_same, hu_row, hu_at, hu_hu]) (by simp (disch := omega) only [hu_same, hu_row, hu_at, hu_hu]), RN_cg hX.2.2.2.2.2.2.1 (fun k hk => rfl) (by simp (disch := omega) only [hu_same, hu_row, hu_at, hu_hu]) (by simp (disch := omega) only [hu_same, hu_row, hu_at, hu_hu]) (by simp (disch := omega) only [hu_same, hu_row, hu_at, hu_hu]) rfl, RG_cg hX.2.2.2.2.2.2.2 (fun k h1 h2 => up_n _ _ (by omega)) (by simp (disch := omega) only [hu_same, hu_row, hu_at, hu_hu]) (by simp (disch := omega) only [hu_same, hu_row, hu_at, hu_hu]) (by simp (disch := omega) only [hu_same, hu_row, hu_at, hu_hu]) (by simp (disch := omega) only [hu_same, hu_row, hu_at, hu_hu]) (by simp (disch := omega) only [hu_same, hu_row, hu_at, hu_hu]) (by simp (disch := omega) only [hu_same, hu_row, hu_at, hu_hu])⟩, ?_, ?_⟩
      · simp (disch := omega) only [Option.bind_some, Option.toList_some, Option.toList_none, List.append_nil, List.cons_append, List.nil_append, ↓reduceIte, true_or, or_true, Nat.reduceAdd, Nat.add_assoc, f_ge, t_le, t_lt, f_lt, f_l0, t_0l, t_pl, t_eq, f_eq, f_e0, i10, i01, ib_nI, nI_clamp, nI_add, ad10, ad18, ad26, ad34, ad42, ad47, ad52, ad59, ad107, ad117, ml8, mr8, ml5, ml10, e178, b178_0 o2 r8 o4, hx0, t_0lt, h179 (nI n) _ (nI_lt (a := 0) (by omega) (by omega)) (nI_ne0 (by omega) (by omega)), z6, b178_22 o2 r8 o4, hd, h179 3 _ (by decide) (by decide), hu_same, hu_row, hu_at, hu_hu]
        rw [b178_39 (S := hs_S0) (u0 := t + 8) (n_u0 := 8) (a_u0 := o4.2.2.2.2.2.1.2.2.2.2.2.2.2.1)]
        simp (disch := omega) only [Option.bind_some, Option.toList_some, Option.toList_none, List.append_nil, List.cons_append, List.nil_append, ↓reduceIte, true_or, or_true, Nat.reduceAdd, Nat.add_assoc, f_ge, t_le, t_lt, f_lt, f_l0, t_0l, t_pl, t_eq, f_eq, f_e0, i10, i01, ib_nI, nI_clamp, nI_add, ad10, ad18, ad26, ad34, ad42, ad47, ad52, ad59, ad107, ad117, ml8, mr8, ml5, ml10, hv, b174_141]
      · unfold XZ
        simp (disch := omega) only [hu_same, hu_row, hu_at, hu_hu, up_n, up_s]
        exact ⟨z0, z1, z2, z3, z4, z5, trivial⟩
      · intro j h1 h2
        simp (disch := omega) only [hu_same, hu_row, hu_at, hu_hu]
end XA
