/-! day; looking ahead -/
theorem cn_cg {q q' : Nat → Bool} : ∀ {n}, (∀ a, a < n → q a = q' a) → cn q n = cn q' n
  | 0, _ => rfl
  | n + 1, h => by rw [cn, cn, cn_cg (fun a ha => h a (by omega)), h n (by omega)]
theorem f127 {l : Nat} (h : l < 127) : (127 ≤ nI l) = False := eq_false (nI_ge (b := 127) h (by omega))
theorem f200 {l : Nat} (h : l ≤ 200) : ((200 : Int32) < nI l) = False := eq_false (nI_nlt (a := 200) h (by omega))
section AH
variable {scr : List Int32} {d t rt st pt qt n np nr nl nb nq lp : Nat} {c r : Nat → Int32} {I I' J : Nat → Nat → Int32} {L L' : Nat → Nat → Int64} {R : Nat → Nat → Nat}
theorem Rel_sc (h : RelA rt st pt qt n np nr nl nb nq I L R) (hI : ∀ k, k ≠ 2 → k ≠ 140 → k ≠ 146 → k ≠ 147 → k ≠ 149 → k ≠ 17 → k ≠ 15 → k ≠ 16 → I' k = I k) (hL : ∀ k, k ≠ 150 → L' k = L k) (h2 : ∀ f, f ≠ 16 → I' 2 f = I 2 f) (h3 : ∀ f, f ≠ 0 → f ≠ 1 → f ≠ 28 → I' 140 f = I 140 f) (hs : I' 2 16 = I' 140 0) : Rel I' L' R := by
  have hm := h.2.2.2.2.1
  have he := h.1.2.2.2.2.2
  exact ⟨rt, st, pt, qt, n, np, nr, nl, nb, nq, Rel_fr h h.1 (fun k hk => hI k (by omega) (by omega) (by omega) (by omega) (by omega) (by omega) (by omega) (by omega)) (fun k hk => hL k (by omega)) (fun k _ => by rw [hI 145 (by omega) (by omega) (by omega) (by omega) (by omega) (by omega) (by omega) (by omega)]) (fun k _ => by rw [hL 148 (by omega)]) (by rw [hI 4 (by omega) (by omega) (by omega) (by omega) (by omega) (by omega) (by omega) (by omega)]) (h3 8 (by omega) (by omega) (by omega)) (by rw [hI 4 (by omega) (by omega) (by omega) (by omega) (by omega) (by omega) (by omega) (by omega)]) (h3 10 (by omega) (by omega) (by omega)) (by rw [hI 4 (by omega) (by omega) (by omega) (by omega) (by omega) (by omega) (by omega) (by omega)]) (h3 11 (by omega) (by omega) (by omega)) hs (by rw [hL 2 (by omega), hL 140 (by omega)]; exact hm.2.1) (by rw [hL 2 (by omega), hL 140 (by omega)]; exact hm.2.2.1) (h2 14 (by omega)) (h3 31 (by omega) (by omega) (by omega)) (h2 15 (by omega)) (h3 24 (by omega) (by omega) (by omega))⟩
theorem m306_loop (o11 : ok11 hs_S0 R 140) : ∀ p i, i + p = 127 → hs_R scr d 306 2 [some (.ref 140), some (.int (nI i))] [] (hs_S0, wr J 146 0 i (J 145), L, R) = some (none, (hs_S0, wr J 146 0 127 (J 145), L, R))
  | 0, i, h => by
    obtain rfl : i = 127 := by omega
    rw [b306_2 o11]; exact if_pos (by decide)
  | p + 1, i, h => by
    have hw := wr_s J 146 0 i (J 145)
    rw [Nat.zero_add] at hw
    rw [b306_2 o11]
    simp (disch := omega) only [Option.bind_some, Option.toList_some, Option.toList_none, List.append_nil, List.cons_append, List.nil_append, ↓reduceIte, true_or, or_true, Nat.reduceAdd, Nat.add_assoc, f_ge, t_le, t_lt, f_lt, f_l0, t_0l, t_pl, t_eq, f_eq, f_e0, i10, i01, ib_nI, nI_clamp, nI_add, ad10, ad18, ad26, ad34, ad42, ad47, ad52, ad59, ad107, ad117, ml8, mr8, ml5, ml10, f127, nI_1, wr_row, hw]
    exact m306_loop o11 p (i + 1) (by omega)
theorem m306 (o11 : ok11 hs_S0 R 140) : hs_C scr d 306 [.ref 140] (hs_S0, J, L, R) = some (none, (hs_S0, wr J 146 0 127 (J 145), L, R)) := by
  have := m306_loop (scr := scr) (d := d) (J := J) (L := L) o11 127 0 rfl
  rw [wr_0] at this
  rw [e306, b306_0]; exact this
theorem m307_loop (o11 : ok11 hs_S0 R 140) : ∀ p i, i + p = 127 → hs_R scr d 307 2 [some (.ref 140), some (.int (nI i))] [] (hs_S0, wr J 145 0 i (J 146), L, R) = some (none, (hs_S0, wr J 145 0 127 (J 146), L, R))
  | 0, i, h => by
    obtain rfl : i = 127 := by omega
    rw [b307_2 o11]; exact if_pos (by decide)
  | p + 1, i, h => by
    have hw := wr_s J 145 0 i (J 146)
    rw [Nat.zero_add] at hw
    rw [b307_2 o11]
    simp (disch := omega) only [Option.bind_some, Option.toList_some, Option.toList_none, List.append_nil, List.cons_append, List.nil_append, ↓reduceIte, true_or, or_true, Nat.reduceAdd, Nat.add_assoc, f_ge, t_le, t_lt, f_lt, f_l0, t_0l, t_pl, t_eq, f_eq, f_e0, i10, i01, ib_nI, nI_clamp, nI_add, ad10, ad18, ad26, ad34, ad42, ad47, ad52, ad59, ad107, ad117, ml8, mr8, ml5, ml10, f127, nI_1, wr_row, hw]
    exact m307_loop o11 p (i + 1) (by omega)
/-- the row c set aside -/
def sas (J : Nat → Nat → Int32) : Nat → Nat → Int32 := wr J 146 0 127 (J 145)
theorem sas_r {a : Nat} (h : a ≠ 146) : sas J a = J a := wr_row _ _ h
theorem sas_z : hs_z (sas J) 145 (J 145) = sas J := by
  have := hz_id (sas J) 145
  rwa [sas_r (by omega)] at this
theorem m307 (o11 : ok11 hs_S0 R 140) (hr : ∀ k, 127 ≤ k → r k = J 145 k) : hs_C scr d 307 [.ref 140] (hs_S0, hs_z (sas J) 145 r, L, R) = some (none, (hs_S0, sas J, L, R)) := by
  have := m307_loop (scr := scr) (d := d) (J := hs_z (sas J) 145 r) (L := L) o11 127 0 rfl
  rw [wr_0] at this
  rw [e307, b307_0]
  refine this.trans ?_
  have e : wr (hs_z (sas J) 145 r) 145 0 127 (hs_z (sas J) 145 r 146) = sas J := by
    rw [hz_row _ _ (by omega)]
    funext a b
    unfold wr
    split
    · rename_i q
      rw [q.1, sas_r (a := 145) (by omega)]
      show wr J 146 0 127 (J 145) 146 (b - 0) = J 145 b
      rw [Nat.sub_zero, wr_in _ _ (by omega), Nat.sub_zero]
    · rename_i q
      by_cases qa : a = 145
      · subst qa; rw [hz_s, hr b (by omega), sas_r (by omega)]
      · rw [hz_row _ _ qa]
  rw [e]
theorem cd_hi {e k : Nat} (hn : n ≤ 8) (h : 127 ≤ k) : cd c n lp e k = c k := cd_o (by omega)
theorem ca19 : CA19 scr hs_S0 Rel 99 := by
  intro x I L R hP
  obtain ⟨rt, st, pt, qt, n, np, nr, nl, nb, nq, hA⟩ := hP; obtain ⟨hE, ⟨⟨hn8, hc0, hx0, hh⟩, ⟨hp5, hc1, hx1, hpp⟩, ⟨hr6, hc2, hx2, hrr, hru⟩, ⟨hl6, hc3, hx3, hll⟩, ⟨hb6, hq10, hc4, hx4, hc5, hx5, hqq⟩, hD, hN, hG⟩, hT, hTx, hM, hK⟩ := id hA; have o10 := k10_2 hE.1; have o11 := k11_140 hE.1; have o4 := Env_4 hE; have o1 : ok1 hs_S0 R (rt + 5) := o4.2.2.2.2.2.1; have r10_8 := hE.2.1; have hrt := hE.2.2.2.2.2.1; have hpt := hE.2.2.2.2.2.2
  obtain ⟨lp, hlp⟩ := lpc_ex hA.2.1.2.2.1
  have hHB := HB_of hA.2.1.1 hA.2.1.2.2.1 hD hlp
  obtain ⟨dy, hdy, edy⟩ := hD.2.2.1.2
  rcases rg x 1 99 with hx | ⟨hx1', hx2', -⟩
  · refine CK_st hA (-1) 5 ?_ ?_
    · simp (disch := omega) only [Option.bind_some, Option.toList_some, Option.toList_none, List.append_nil, List.cons_append, List.nil_append, ↓reduceIte, true_or, or_true, Nat.reduceAdd, Nat.add_assoc, f_ge, t_le, t_lt, f_lt, f_l0, t_0l, t_pl, t_eq, f_eq, f_e0, i10, i01, ib_nI, nI_clamp, nI_add, ad10, ad18, ad26, ad34, ad42, ad47, ad52, ad59, ad107, ad117, ml8, mr8, ml5, ml10, hu_same, hu_row, hu_at, hu_hu, e99, b99_0 o10 r10_8 o4, b99_11 o10, b99_16, b99_25 o10 r10_8 o4, b99_34, b99_46 o10, b99_49, e28, b28_0 o10, out_g hx]
    · simp (disch := first | omega | (simp (disch := omega) only [hu_same, hu_row, hu_at, hu_hu, hc0, hc1, hc2, hc3, hc4, hc5]; done)) only [Option.bind_some, Option.toList_some, Option.toList_none, List.append_nil, List.cons_append, List.nil_append, ↓reduceIte, true_or, or_true, Nat.reduceAdd, Nat.add_assoc, f_ge, t_le, t_lt, f_lt, f_l0, t_0l, t_pl, t_eq, f_eq, f_e0, i10, i01, ib_nI, nI_clamp, nI_add, ad10, ad18, ad26, ad34, ad42, ad47, ad52, ad59, ad107, ad117, ml8, mr8, ml5, ml10, hu_same, hu_row, hu_at, hu_hu, e283, b283_0 o11, b283_19 o11, b283_27, b283_49, b283_61, b283_78, e265, b265_0 o11, s223 1 99 1 99 rfl rfl, out_g hx]
  · obtain ⟨e, he, rfl⟩ := rg_nat 99 rfl (by decide) hx1' hx2'
    by_cases hfit : e + dy ≤ 9999
    · have e2 : nI dy + nI e ≤ 9999 := by
        rw [nI_add, show (9999 : Int32) = nI 9999 from rfl]; exact nI_le (by omega) (by omega)
      have hX := x100 (scr := scr) (d := 96) (L := L) o4 hA.2.1.1 hA.2.1.2.2.1 hD hlp edy hfit
      have hH2 : RH n (cd (I 145) n lp e) (hs_u (ldp I rt (I 145) lp e n) rt 15 (nI (dy + e))) rt := by
        refine ⟨hn8, by rw [cd_o (by omega)]; exact hc0, ?_, fun k hk => ?_⟩
        · simp (disch := omega) only [hu_same, hu_row, hu_at, hu_hu, ldp_r, hx0]
        · have h1 := hh k hk
          have h2 := (HB_cd (d := e) hHB).2.2.1 k hk
          refine ⟨?_, ?_, ?_, ?_, h2.1, h2.2.1, h2.2.2.1, h2.2.2.2⟩
          · rw [cd_10 hn8 hk, hu_row _ _ (by omega), ldp_i6 hk]
          · rw [cd_o (by omega), hu_row _ _ (by omega), ldp_r (by omega)]; exact h1.2.1
          · rw [cd_26 hn8 hk, hu_row _ _ (by omega), ldp_i8 hk]
          · rw [cd_34 hn8 hk, hu_row _ _ (by omega), ldp_i9 hk]
      have hM := fo_upT (n := e) (g := fun i (_ : Unit) => ()) (head := fun i (_ : Unit) => hs_R scr 99 283 52 [some (.ref 140), some (.int (nI e)), some (.int (nI i))] [] (hs_S0, hs_z (hs_u (hs_u (hs_u (hs_u (ldp I rt (I 145) lp e n) rt 15 (nI (dy + e))) 2 16 0) 140 1 0) 140 0 0) 145 (cd (I 145) n lp i), L, R)) (fun i s hi => by
        show hs_R scr 99 283 52 _ _ _ = hs_R scr 99 283 52 _ _ _
        rw [b283_52 o11, if_neg (nI_ge hi (by omega)), m284d o11 hHB]
        simp (disch := omega) only [Option.bind_some, Option.toList_some, Option.toList_none, List.append_nil, List.cons_append, List.nil_append, ↓reduceIte, true_or, or_true, Nat.reduceAdd, Nat.add_assoc, b283_61, nI_1]) ()
      have hz0 : hs_z (hs_u (hs_u (hs_u (hs_u (ldp I rt (I 145) lp e n) rt 15 (nI (dy + e))) 2 16 0) 140 1 0) 140 0 0) 145 (cd (I 145) n lp 0) = hs_u (hs_u (hs_u (hs_u (ldp I rt (I 145) lp e n) rt 15 (nI (dy + e))) 2 16 0) 140 1 0) 140 0 0 := by
        rw [cd_0 hHB]
        have := hz_id (hs_u (hs_u (hs_u (hs_u (ldp I rt (I 145) lp e n) rt 15 (nI (dy + e))) 2 16 0) 140 1 0) 140 0 0) 145
        simp (disch := omega) only [hu_same, hu_row, hu_at, hu_hu, ldp_r] at this
        exact this
      simp only [hz0, nI_0] at hM
      refine ⟨fo (gLen (cd (I 145) n lp e)) n 0, hs_u (hs_u (ldp I rt (I 145) lp e n) rt 15 (nI (dy + e))) 2 16 0, L, R, hs_z (hs_u (hs_u (hs_u (hs_u (ldp I rt (I 145) lp e n) rt 15 (nI (dy + e))) 2 16 0) 140 1 0) 140 0 0) 145 (cd (I 145) n lp e), L, R, ?_, o11, ?_, ?_⟩
      · simp (disch := omega) only [Option.bind_some, Option.toList_some, Option.toList_none, List.append_nil, List.cons_append, List.nil_append, ↓reduceIte, true_or, or_true, Nat.reduceAdd, Nat.add_assoc, f_ge, t_le, t_lt, f_lt, f_l0, t_0l, t_pl, t_eq, f_eq, f_e0, i10, i01, ib_nI, nI_clamp, nI_add, ad10, ad18, ad26, ad34, ad42, ad47, ad52, ad59, ad107, ad117, ml8, mr8, ml5, ml10, hu_same, hu_row, hu_at, hu_hu, e99, b99_0 o10 r10_8 o4, b99_11 o10, b99_16, b99_25 o10 r10_8 o4, b99_34, b99_46 o10, b99_49, e68, b68_0 o10, hx1', hx2', hX, x86 o1 hH2]
      · rw [e283, b283_0 o11, s223 1 99 1 99 rfl rfl]
        simp (disch := omega) only [Option.bind_some, Option.toList_some, Option.toList_none, List.append_nil, List.cons_append, List.nil_append, ↓reduceIte, true_or, or_true, Nat.reduceAdd, Nat.add_assoc, hu_same, hu_row, hu_at, hu_hu, ldp_r, hx1', hx2', b283_19 o11, edy, e2, i10]
        refine hM.trans ?_
        show hs_R scr 99 283 52 _ _ _ = _
        rw [b283_52 o11, if_pos (nI_le (Nat.le_refl _) (by omega))]
        have h0 : cd (I 145) n lp e 0 = nI n := by rw [cd_o (by omega)]; exact hc0
        simp only [Option.bind_some, Option.toList_some, Option.toList_none, List.append_nil, List.cons_append, List.nil_append, ↓reduceIte, true_or, or_true, Nat.reduceAdd, Nat.add_assoc, hz_s, h0]
        rw [m269 o11 (by rw [hz_s]; exact h0) hn8]
        simp only [Option.bind_some, Option.toList_some, Option.toList_none, List.append_nil, List.cons_append, List.nil_append, ↓reduceIte, true_or, or_true, Nat.reduceAdd, Nat.add_assoc, b283_78, hz_s]
      · have cc : ∀ k, ¬ (10 ≤ k ∧ k < 42) → k ≠ 8 → cd (I 145) n lp e k = I 145 k := fun k h1 h2 => cd_o (by omega)
        refine Rel_rx (n' := n) (np' := np) (nr' := nr) (nl' := nl) (nb' := nb) (nq' := nq) hA ⟨?_, RP_cg hA.2.1.2.1 (fun k hk => by rw [hz_s]; exact cc k (by omega) (by omega)) (by simp (disch := omega) only [hu_same, hu_row, hu_at, hu_hu, hz_row, ldp_r]) (by simp (disch := omega) only [hu_same, hu_row, hu_at, hu_hu, hz_row, ldp_r]) (by simp (disch := omega) only [hu_same, hu_row, hu_at, hu_hu, hz_row, ldp_r]), RU_cg hA.2.1.2.2.1 (fun k hk => by rw [hz_s]; exact cc k (by omega) (by omega)) (by simp (disch := omega) only [hu_same, hu_row, hu_at, hu_hu, hz_row, ldp_r]) (by simp (disch := omega) only [hu_same, hu_row, hu_at, hu_hu, hz_row, ldp_r]) (by simp (disch := omega) only [hu_same, hu_row, hu_at, hu_hu, hz_row, ldp_r]), RLk_cg hA.2.1.2.2.2.1 (fun k hk => by rw [hz_s]; exact cc k (by omega) (by omega)) (by simp (disch := omega) only [hu_same, hu_row, hu_at, hu_hu, hz_row, ldp_r]) (by simp (disch := omega) only [hu_same, hu_row, hu_at, hu_hu, hz_row, ldp_r]), RB_cg hA.2.1.2.2.2.2.1 (fun k hk => by rw [hz_s]; exact cc k (by omega) (by omega)) (by simp (disch := omega) only [hu_same, hu_row, hu_at, hu_hu, hz_row, ldp_r]) (by simp (disch := omega) only [hu_same, hu_row, hu_at, hu_hu, hz_row, ldp_r]) (by simp (disch := omega) only [hu_same, hu_row, hu_at, hu_hu, hz_row, ldp_r]) (by simp (disch := omega) only [hu_same, hu_row, hu_at, hu_hu, hz_row, ldp_r]), ?_, RN_cg hA.2.1.2.2.2.2.2.2.1 (fun k hk => rfl) (by simp (disch := omega) only [hu_same, hu_row, hu_at, hu_hu, hz_row, ldp_r]) (by simp (disch := omega) only [hu_same, hu_row, hu_at, hu_hu, hz_row, ldp_r]) (by simp (disch := omega) only [hu_same, hu_row, hu_at, hu_hu, hz_row, ldp_r]) rfl, RG_cg hA.2.1.2.2.2.2.2.2.2 (fun k h1 h2 => by rw [hz_s]; exact cc k (by omega) (by omega)) (by simp (disch := omega) only [hu_same, hu_row, hu_at, hu_hu, hz_row, ldp_r]) (by simp (disch := omega) only [hu_same, hu_row, hu_at, hu_hu, hz_row, ldp_r]) (by simp (disch := omega) only [hu_same, hu_row, hu_at, hu_hu, hz_row, ldp_r]) (by simp (disch := omega) only [hu_same, hu_row, hu_at, hu_hu, hz_row, ldp_r]) (by simp (disch := omega) only [hu_same, hu_row, hu_at, hu_hu, hz_row, ldp_r]) (by simp (disch := omega) only [hu_same, hu_row, hu_at, hu_hu, hz_row, ldp_r])⟩ (fun k h1 h2 h3 h4 h5 => by simp (disch := omega) only [hu_same, hu_row, hu_at, hu_hu, hz_row, ldp_r]) (fun k h1 h2 => rfl) (fun f hf => by simp (disch := omega) only [hu_same, hu_row, hu_at, hu_hu, hz_row, ldp_r]) (fun f h1 h2 => by simp (disch := omega) only [hu_same, hu_row, hu_at, hu_hu, hz_row, ldp_r]) (fun k hk => by rw [hz_s]; exact cc k (by omega) (by omega)) (fun k hk => rfl) (by simp (disch := omega) only [hu_same, hu_row, hu_at, hu_hu, hz_row])
        · rw [hz_s]
          exact RH_cg hH2 (fun k hk => rfl) (by simp (disch := omega) only [hu_same, hu_row, hu_at, hu_hu, hz_row]) (by simp (disch := omega) only [hu_same, hu_row, hu_at, hu_hu, hz_row]) (by simp (disch := omega) only [hu_same, hu_row, hu_at, hu_hu, hz_row]) (by simp (disch := omega) only [hu_same, hu_row, hu_at, hu_hu, hz_row]) (by simp (disch := omega) only [hu_same, hu_row, hu_at, hu_hu, hz_row])
        · rw [hz_s]
          unfold RD
          rw [cd_8 hn8, edy, nI_add, cc 6 (by omega) (by omega), cc 7 (by omega) (by omega), cc 9 (by omega) (by omega)]
          simp (disch := omega) only [hu_same, hu_row, hu_at, hu_hu, hz_row, ldp_r]
          exact ⟨hD.1, hD.2.1, ⟨trivial, dy + e, by omega, rfl⟩, hD.2.2.2⟩
    · have e2 : ¬ nI dy + nI e ≤ 9999 := by
        rw [nI_add, show (9999 : Int32) = nI 9999 from rfl]; exact nI_ge (by omega) (by omega)
      rw [nI_add] at e2
      refine CK_st hA (-1) 7 ?_ ?_
      · simp (disch := omega) only [Option.bind_some, Option.toList_some, Option.toList_none, List.append_nil, List.cons_append, List.nil_append, ↓reduceIte, true_or, or_true, Nat.reduceAdd, Nat.add_assoc, f_ge, t_le, t_lt, f_lt, f_l0, t_0l, t_pl, t_eq, f_eq, f_e0, i10, i01, ib_nI, nI_clamp, nI_add, ad10, ad18, ad26, ad34, ad42, ad47, ad52, ad59, ad107, ad117, ml8, mr8, ml5, ml10, hu_same, hu_row, hu_at, hu_hu, e99, b99_0 o10 r10_8 o4, b99_11 o10, b99_16, b99_25 o10 r10_8 o4, b99_34, b99_46 o10, b99_49, e28, b28_0 o10, hx1', hx2', x100n o4 hD edy hdy (show e ≤ 9999 by omega) hfit]
      · simp (disch := first | omega | (simp (disch := omega) only [hu_same, hu_row, hu_at, hu_hu, hc0, hc1, hc2, hc3, hc4, hc5]; done)) only [Option.bind_some, Option.toList_some, Option.toList_none, List.append_nil, List.cons_append, List.nil_append, ↓reduceIte, true_or, or_true, Nat.reduceAdd, Nat.add_assoc, f_ge, t_le, t_lt, f_lt, f_l0, t_0l, t_pl, t_eq, f_eq, f_e0, i10, i01, ib_nI, nI_clamp, nI_add, ad10, ad18, ad26, ad34, ad42, ad47, ad52, ad59, ad107, ad117, ml8, mr8, ml5, ml10, hu_same, hu_row, hu_at, hu_hu, e283, b283_0 o11, b283_19 o11, b283_27, b283_49, b283_61, b283_78, e265, b265_0 o11, s223 1 99 1 99 rfl rfl, hx1', hx2', edy, e2]
theorem CK_sc (hA : RelA rt st pt qt n np nr nl nb nq I L R) {jx jm : Nat} {as : List Value} (v s : Int32) (hX : hs_C scr d jx (.ref 2 :: as) (hs_S0, I, L, R) = some (some (.int v), (hs_S0, hs_u I 2 16 s, L, R))) (hM : hs_C scr d jm (.ref 140 :: as) (hs_S0, hs_u I 2 16 s, L, R) = some (some (.int v), (hs_S0, hs_u (sas (hs_u (hs_u (hs_u I 2 16 s) 140 1 0) 140 0 0)) 140 0 s, L, R))) : ∃ (x : Int32) (I1 : Nat → Nat → Int32) (L1 : Nat → Nat → Int64) (R1 : Nat → Nat → Nat) (I2 : Nat → Nat → Int32) (L2 : Nat → Nat → Int64) (R2 : Nat → Nat → Nat), hs_C scr d jx (.ref 2 :: as) (hs_S0, I, L, R) = some (some (.int x), (hs_S0, I1, L1, R1)) ∧ ok11 hs_S0 R1 140 ∧ hs_C scr d jm (.ref 140 :: as) (hs_S0, I1, L1, R1) = some (some (.int x), (hs_S0, I2, L2, R2)) ∧ Rel I2 L2 R2 :=
  ⟨v, _, L, R, _, L, R, hX, k11_140 hA.1.1, hM, Rel_sc hA (fun k h1 h2 h3 h4 h5 h6 h7 h8 => by simp (disch := omega) only [hu_row, sas_r]) (fun k h1 => rfl) (fun f hf => by simp (disch := omega) only [hu_at, sas_r, hu_row]) (fun f h1 h2 h3 => by simp (disch := omega) only [hu_at, sas_r]) (by simp (disch := omega) only [hu_at, hu_same, sas_r])⟩
theorem sas_0 : hs_u (sas (hs_u (hs_u J 140 1 0) 140 0 0)) 140 0 0 = sas (hs_u (hs_u J 140 1 0) 140 0 0) := hu_self _ (by rw [sas_r (by omega)]; exact hu_same _ _ _ _)
theorem x132 {e k : Nat} (o4 : ok4 hs_S0 R t) (h : RH n c I t) (h2 : RU nr c I t) (hl : lpc nr lp c) (hk : k < n) (he : e ≤ 9999) : hs_C scr (d + 2) 132 [.ref t, .int (nI k), .int (nI e)] (hs_S0, I, L, R) = some (some (.int (lenA c lp e k)), (hs_S0, I, L, R)) := by
  obtain ⟨hn, -, hx0, hh⟩ := h
  obtain ⟨e6, e7, e8, e9, ⟨a, ha, ea⟩, ⟨g, hg, eg⟩, -⟩ := hh k hk
  have hlp := hl.1
  have hb : e * (g + lp) ≤ 9999 * 18 := Nat.mul_le_mul he (by omega)
  simp (disch := omega) only [Option.bind_some, Option.toList_some, Option.toList_none, List.append_nil, List.cons_append, List.nil_append, ↓reduceIte, true_or, or_true, Nat.reduceAdd, Nat.add_assoc, f_ge, t_le, t_lt, f_lt, f_l0, t_0l, t_pl, t_eq, f_eq, f_e0, i10, i01, ib_nI, nI_clamp, nI_add, ad10, ad18, ad26, ad34, ad42, ad47, ad52, ad59, ad107, ad117, ml8, mr8, ml5, ml10, hu_same, hu_row, hu_at, hu_hu, e132, b132_0 o4, b132_17, e133, b133_0 o4, b133_13, x101 o4 h2 hl, e6, ea, e7, eg, pk_mul, mn99]
  unfold lenA; rw [ea, eg, nI_clamp (by omega), nI_clamp (by omega)]
theorem m315 {e k : Nat} (o11 : ok11 hs_S0 R 140) (h : HB n lp (J 145)) (hk : k < 127) (he : e ≤ 200) : hs_C scr (d + 1) 315 [.ref 140, .int (nI k), .int (nI e)] (hs_S0, J, L, R) = some (some (.int (cd (J 145) n lp e k)), (hs_S0, sas J, L, R)) := by
  have hM := fo_upT (n := e) (g := fun i (_ : Unit) => ()) (head := fun i (_ : Unit) => hs_R scr (d + 1) 315 6 [some (.ref 140), some (.int (nI k)), some (.int (nI e)), some (.int (nI i))] [] (hs_S0, hs_z (sas J) 145 (cd (J 145) n lp i), L, R)) (fun i s hi => by
    show hs_R scr (d + 1) 315 6 _ _ _ = hs_R scr (d + 1) 315 6 _ _ _
    rw [b315_6 o11, if_neg (nI_ge hi (by omega)), m284d o11 h]
    simp (disch := omega) only [Option.bind_some, Option.toList_some, Option.toList_none, List.append_nil, List.cons_append, List.nil_append, ↓reduceIte, true_or, or_true, Nat.reduceAdd, Nat.add_assoc, b315_15, nI_1]) ()
  simp only [cd_0 h, sas_z, nI_0] at hM
  rw [e315, b315_0 o11, m306 o11]
  simp only [Option.bind_some, Option.toList_some, Option.toList_none, List.append_nil, List.cons_append, List.nil_append, ↓reduceIte, true_or, or_true, Nat.reduceAdd, Nat.add_assoc, b315_4]
  refine hM.trans ?_
  show hs_R scr (d + 1) 315 6 _ _ _ = _
  rw [b315_6 o11, if_pos (nI_le (Nat.le_refl _) (by omega)), m307 o11 (fun k hk => cd_hi h.1 hk)]
  simp (disch := omega) only [Option.bind_some, Option.toList_some, Option.toList_none, List.append_nil, List.cons_append, List.nil_append, ↓reduceIte, true_or, or_true, Nat.reduceAdd, Nat.add_assoc, f_ge, t_le, t_lt, f_lt, f_l0, t_0l, t_pl, t_eq, f_eq, f_e0, i10, i01, ib_nI, nI_clamp, nI_add, ad10, ad18, ad26, ad34, ad42, ad47, ad52, ad59, ad107, ad117, ml8, mr8, ml5, ml10, b315_32, hz_s]
theorem ca37 : CA37 scr hs_S0 Rel 99 := by
  intro x y I L R hP
  obtain ⟨rt, st, pt, qt, n, np, nr, nl, nb, nq, hA⟩ := hP; obtain ⟨hE, ⟨⟨hn8, hc0, hx0, hh⟩, ⟨hp5, hc1, hx1, hpp⟩, ⟨hr6, hc2, hx2, hrr, hru⟩, ⟨hl6, hc3, hx3, hll⟩, ⟨hb6, hq10, hc4, hx4, hc5, hx5, hqq⟩, hD, hN, hG⟩, hT, hTx, hM, hK⟩ := id hA; have o10 := k10_2 hE.1; have o11 := k11_140 hE.1; have o4 := Env_4 hE; have o1 : ok1 hs_S0 R (rt + 5) := o4.2.2.2.2.2.1; have r10_8 := hE.2.1; have hrt := hE.2.2.2.2.2.1; have hpt := hE.2.2.2.2.2.2
  rcases ix x (n := n) (by omega) with hx | ⟨k, hk, rfl⟩
  · refine CK_st hA (-1) 2 ?_ ?_
    · simp (disch := omega) only [Option.bind_some, Option.toList_some, Option.toList_none, List.append_nil, List.cons_append, List.nil_append, ↓reduceIte, true_or, or_true, Nat.reduceAdd, Nat.add_assoc, f_ge, t_le, t_lt, f_lt, f_l0, t_0l, t_pl, t_eq, f_eq, f_e0, i10, i01, ib_nI, nI_clamp, nI_add, ad10, ad18, ad26, ad34, ad42, ad47, ad52, ad59, ad107, ad117, ml8, mr8, ml5, ml10, hu_same, hu_row, hu_at, hu_hu, i20, i50, i90, i00, i2l0, i5l0, i9l0, t_0lt, e131, b131_0 o10, b131_10 o10 r10_8 o4, b131_20, b131_33 o10, b131_36, e107, b107_0 o10, b107_5, b107_21, b107_26, e28, b28_0 o10, s89n o10 r10_8 o4 hx0 hx]
    · simp (disch := first | omega | (simp (disch := omega) only [hu_same, hu_row, hu_at, hu_hu, hc0, hc1, hc2, hc3, hc4, hc5]; done)) only [Option.bind_some, Option.toList_some, Option.toList_none, List.append_nil, List.cons_append, List.nil_append, ↓reduceIte, true_or, or_true, Nat.reduceAdd, Nat.add_assoc, f_ge, t_le, t_lt, f_lt, f_l0, t_0l, t_pl, t_eq, f_eq, f_e0, i10, i01, ib_nI, nI_clamp, nI_add, ad10, ad18, ad26, ad34, ad42, ad47, ad52, ad59, ad107, ad117, ml8, mr8, ml5, ml10, hu_same, hu_row, hu_at, hu_hu, e313, b313_0 o11, b313_15 o11, b313_23, b313_28 o11, b313_40, b313_48, e265, b265_0 o11, s272n o11 (n := n) (hx := hx) (hn := by omega)]
  · rcases rg y 0 200 with hy | ⟨h1, h2, -⟩
    · refine CK_st hA (-1) 5 ?_ ?_
      · simp (disch := omega) only [Option.bind_some, Option.toList_some, Option.toList_none, List.append_nil, List.cons_append, List.nil_append, ↓reduceIte, true_or, or_true, Nat.reduceAdd, Nat.add_assoc, f_ge, t_le, t_lt, f_lt, f_l0, t_0l, t_pl, t_eq, f_eq, f_e0, i10, i01, ib_nI, nI_clamp, nI_add, ad10, ad18, ad26, ad34, ad42, ad47, ad52, ad59, ad107, ad117, ml8, mr8, ml5, ml10, hu_same, hu_row, hu_at, hu_hu, i20, i50, i90, i00, i2l0, i5l0, i9l0, t_0lt, e131, b131_0 o10, b131_10 o10 r10_8 o4, b131_20, b131_33 o10, b131_36, e107, b107_0 o10, b107_5, b107_21, b107_26, e28, b28_0 o10, s89y o10 r10_8 o4 hx0 hk (by omega), out_g hy]
      · simp (disch := first | omega | (simp (disch := omega) only [hu_same, hu_row, hu_at, hu_hu, hc0, hc1, hc2, hc3, hc4, hc5]; done)) only [Option.bind_some, Option.toList_some, Option.toList_none, List.append_nil, List.cons_append, List.nil_append, ↓reduceIte, true_or, or_true, Nat.reduceAdd, Nat.add_assoc, f_ge, t_le, t_lt, f_lt, f_l0, t_0l, t_pl, t_eq, f_eq, f_e0, i10, i01, ib_nI, nI_clamp, nI_add, ad10, ad18, ad26, ad34, ad42, ad47, ad52, ad59, ad107, ad117, ml8, mr8, ml5, ml10, hu_same, hu_row, hu_at, hu_hu, e313, b313_0 o11, b313_15 o11, b313_23, b313_28 o11, b313_40, b313_48, e314, b314_0, b314_9, e265, b265_0 o11, s272y o11 (n := n) (hk := hk) (hn := by omega), s223 0 200 0 200 rfl rfl, out_g hy]
    · obtain ⟨e, he, rfl⟩ := rg_nat 200 rfl (by decide) h1 h2
      obtain ⟨lp, hlp⟩ := lpc_ex hA.2.1.2.2.1
      have hHB := HB_of hA.2.1.1 hA.2.1.2.2.1 hD hlp
      have hJ : hs_u (hs_u (hs_u I 2 16 0) 140 1 0) 140 0 0 145 = I 145 := by simp (disch := omega) only [hu_same, hu_row, hu_at, hu_hu]
      refine CK_sc hA (lenA (I 145) lp e k) 0 ?_ ?_
      · simp (disch := omega) only [Option.bind_some, Option.toList_some, Option.toList_none, List.append_nil, List.cons_append, List.nil_append, ↓reduceIte, true_or, or_true, Nat.reduceAdd, Nat.add_assoc, f_ge, t_le, t_lt, f_lt, f_l0, t_0l, t_pl, t_eq, f_eq, f_e0, i10, i01, ib_nI, nI_clamp, nI_add, ad10, ad18, ad26, ad34, ad42, ad47, ad52, ad59, ad107, ad117, ml8, mr8, ml5, ml10, hu_same, hu_row, hu_at, hu_hu, i20, i50, i90, i00, i2l0, i5l0, i9l0, t_0lt, e131, b131_0 o10, b131_10 o10 r10_8 o4, b131_20, b131_33 o10, b131_36, e107, b107_0 o10, b107_5, b107_21, b107_26, e68, b68_0 o10, s89y o10 r10_8 o4 hx0 hk (by omega), h1, h2, x132 o4 hA.2.1.1 hA.2.1.2.2.1 hlp hk (show e ≤ 9999 by omega)]
      · rw [sas_0]
        simp (disch := first | omega | (simp (disch := omega) only [hu_same, hu_row, hu_at, hu_hu, hc0, hc1, hc2, hc3, hc4, hc5]; done)) only [Option.bind_some, Option.toList_some, Option.toList_none, List.append_nil, List.cons_append, List.nil_append, ↓reduceIte, true_or, or_true, Nat.reduceAdd, Nat.add_assoc, f_ge, t_le, t_lt, f_lt, f_l0, t_0l, t_pl, t_eq, f_eq, f_e0, i10, i01, ib_nI, nI_clamp, nI_add, ad10, ad18, ad26, ad34, ad42, ad47, ad52, ad59, ad107, ad117, ml8, mr8, ml5, ml10, hu_same, hu_row, hu_at, hu_hu, e313, b313_0 o11, b313_15 o11, b313_23, b313_28 o11, b313_40, b313_48, e314, b314_0, b314_9, s272y o11 (n := n) (hk := hk) (hn := by omega), s223 0 200 0 200 rfl rfl, h1, h2, m315 o11 (J := hs_u (hs_u (hs_u I 2 16 0) 140 1 0) 140 0 0) (n := n) (lp := lp) (by rw [hJ]; exact hHB) (show 10 + k < 127 by omega) he, cd_10 hn8 hk]
theorem ca38 : CA38 scr hs_S0 Rel 99 := by
  intro x y I L R hP
  obtain ⟨rt, st, pt, qt, n, np, nr, nl, nb, nq, hA⟩ := hP; obtain ⟨hE, ⟨⟨hn8, hc0, hx0, hh⟩, ⟨hp5, hc1, hx1, hpp⟩, ⟨hr6, hc2, hx2, hrr, hru⟩, ⟨hl6, hc3, hx3, hll⟩, ⟨hb6, hq10, hc4, hx4, hc5, hx5, hqq⟩, hD, hN, hG⟩, hT, hTx, hM, hK⟩ := id hA; have o10 := k10_2 hE.1; have o11 := k11_140 hE.1; have o4 := Env_4 hE; have o1 : ok1 hs_S0 R (rt + 5) := o4.2.2.2.2.2.1; have r10_8 := hE.2.1; have hrt := hE.2.2.2.2.2.1; have hpt := hE.2.2.2.2.2.2
  rcases ix x (n := n) (by omega) with hx | ⟨k, hk, rfl⟩
  · refine CK_st hA (-1) 2 ?_ ?_
    · simp (disch := omega) only [Option.bind_some, Option.toList_some, Option.toList_none, List.append_nil, List.cons_append, List.nil_append, ↓reduceIte, true_or, or_true, Nat.reduceAdd, Nat.add_assoc, f_ge, t_le, t_lt, f_lt, f_l0, t_0l, t_pl, t_eq, f_eq, f_e0, i10, i01, ib_nI, nI_clamp, nI_add, ad10, ad18, ad26, ad34, ad42, ad47, ad52, ad59, ad107, ad117, ml8, mr8, ml5, ml10, hu_same, hu_row, hu_at, hu_hu, i20, i50, i90, i00, i2l0, i5l0, i9l0, t_0lt, e134, b134_0 o10, b134_10 o10 r10_8 o4, b134_20, b134_43 o10, b134_46, e107, b107_0 o10, b107_5, b107_21, b107_26, e28, b28_0 o10, s89n o10 r10_8 o4 hx0 hx]
    · simp (disch := first | omega | (simp (disch := omega) only [hu_same, hu_row, hu_at, hu_hu, hc0, hc1, hc2, hc3, hc4, hc5]; done)) only [Option.bind_some, Option.toList_some, Option.toList_none, List.append_nil, List.cons_append, List.nil_append, ↓reduceIte, true_or, or_true, Nat.reduceAdd, Nat.add_assoc, f_ge, t_le, t_lt, f_lt, f_l0, t_0l, t_pl, t_eq, f_eq, f_e0, i10, i01, ib_nI, nI_clamp, nI_add, ad10, ad18, ad26, ad34, ad42, ad47, ad52, ad59, ad107, ad117, ml8, mr8, ml5, ml10, hu_same, hu_row, hu_at, hu_hu, e316, b316_0 o11, b316_15 o11, b316_23, b316_28 o11, b316_40, b316_48, e265, b265_0 o11, s272n o11 (n := n) (hx := hx) (hn := by omega)]
  · rcases rg y 0 200 with hy | ⟨h1, h2, -⟩
    · refine CK_st hA (-1) 5 ?_ ?_
      · simp (disch := omega) only [Option.bind_some, Option.toList_some, Option.toList_none, List.append_nil, List.cons_append, List.nil_append, ↓reduceIte, true_or, or_true, Nat.reduceAdd, Nat.add_assoc, f_ge, t_le, t_lt, f_lt, f_l0, t_0l, t_pl, t_eq, f_eq, f_e0, i10, i01, ib_nI, nI_clamp, nI_add, ad10, ad18, ad26, ad34, ad42, ad47, ad52, ad59, ad107, ad117, ml8, mr8, ml5, ml10, hu_same, hu_row, hu_at, hu_hu, i20, i50, i90, i00, i2l0, i5l0, i9l0, t_0lt, e134, b134_0 o10, b134_10 o10 r10_8 o4, b134_20, b134_43 o10, b134_46, e107, b107_0 o10, b107_5, b107_21, b107_26, e28, b28_0 o10, s89y o10 r10_8 o4 hx0 hk (by omega), out_g hy]
      · simp (disch := first | omega | (simp (disch := omega) only [hu_same, hu_row, hu_at, hu_hu, hc0, hc1, hc2, hc3, hc4, hc5]; done)) only [Option.bind_some, Option.toList_some, Option.toList_none, List.append_nil, List.cons_append, List.nil_append, ↓reduceIte, true_or, or_true, Nat.reduceAdd, Nat.add_assoc, f_ge, t_le, t_lt, f_lt, f_l0, t_0l, t_pl, t_eq, f_eq, f_e0, i10, i01, ib_nI, nI_clamp, nI_add, ad10, ad18, ad26, ad34, ad42, ad47, ad52, ad59, ad107, ad117, ml8, mr8, ml5, ml10, hu_same, hu_row, hu_at, hu_hu, e316, b316_0 o11, b316_15 o11, b316_23, b316_28 o11, b316_40, b316_48, e314, b314_0, b314_9, e265, b265_0 o11, s272y o11 (n := n) (hk := hk) (hn := by omega), s223 0 200 0 200 rfl rfl, out_g hy]
    · obtain ⟨e, he, rfl⟩ := rg_nat 200 rfl (by decide) h1 h2
      obtain ⟨lp, hlp⟩ := lpc_ex hA.2.1.2.2.1
      have hHB := HB_of hA.2.1.1 hA.2.1.2.2.1 hD hlp
      have hk' := hh k hk
      have h16 := hD.2.2.2.1
      have hJ : hs_u (hs_u (hs_u I 2 16 0) 140 1 0) 140 0 0 145 = I 145 := by simp (disch := omega) only [hu_same, hu_row, hu_at, hu_hu]
      refine CK_sc hA (stA (I 145) e k) 0 ?_ ?_
      · simp (disch := omega) only [Option.bind_some, Option.toList_some, Option.toList_none, List.append_nil, List.cons_append, List.nil_append, ↓reduceIte, true_or, or_true, Nat.reduceAdd, Nat.add_assoc, f_ge, t_le, t_lt, f_lt, f_l0, t_0l, t_pl, t_eq, f_eq, f_e0, i10, i01, ib_nI, nI_clamp, nI_add, ad10, ad18, ad26, ad34, ad42, ad47, ad52, ad59, ad107, ad117, ml8, mr8, ml5, ml10, hu_same, hu_row, hu_at, hu_hu, i20, i50, i90, i00, i2l0, i5l0, i9l0, t_0lt, e134, b134_0 o10, b134_10 o10 r10_8 o4, b134_20, b134_43 o10, b134_46, e107, b107_0 o10, b107_5, b107_21, b107_26, e68, b68_0 o10, s89y o10 r10_8 o4 hx0 hk (by omega), h1, h2, h16, x103 o1 hA.2.1.1 hk, sA_nat hk'.2.2.2.2.2.2.1 hk'.2.2.2.2.2.2.2 hD.2.2.2.2 (show e ≤ 100000 by omega)]
      · rw [sas_0]
        simp (disch := first | omega | (simp (disch := omega) only [hu_same, hu_row, hu_at, hu_hu, hc0, hc1, hc2, hc3, hc4, hc5]; done)) only [Option.bind_some, Option.toList_some, Option.toList_none, List.append_nil, List.cons_append, List.nil_append, ↓reduceIte, true_or, or_true, Nat.reduceAdd, Nat.add_assoc, f_ge, t_le, t_lt, f_lt, f_l0, t_0l, t_pl, t_eq, f_eq, f_e0, i10, i01, ib_nI, nI_clamp, nI_add, ad10, ad18, ad26, ad34, ad42, ad47, ad52, ad59, ad107, ad117, ml8, mr8, ml5, ml10, hu_same, hu_row, hu_at, hu_hu, e316, b316_0 o11, b316_15 o11, b316_23, b316_28 o11, b316_40, b316_48, e314, b314_0, b314_9, s272y o11 (n := n) (hk := hk) (hn := by omega), s223 0 200 0 200 rfl rfl, h1, h2, m315 o11 (J := hs_u (hs_u (hs_u I 2 16 0) 140 1 0) 140 0 0) (n := n) (lp := lp) (by rw [hJ]; exact hHB) (show 26 + k < 127 by omega) he, cd_26 hn8 hk]
end AH
