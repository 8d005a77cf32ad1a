/-! game, moveOf -/
theorem fnd_eq {q : Nat → Bool} {w : Nat} : ∀ {m i : Nat}, i ≤ w → w < i + m → q w = true → (∀ j, i ≤ j → j < w → q j = false) → fnd q i m = some w
  | 0, i, h1, h2, _, _ => by omega
  | m + 1, i, h1, h2, h3, h4 => by
    rw [fnd]
    by_cases e : i = w
    · subst e; rw [if_pos h3]
    · rw [if_neg (by rw [h4 i (by omega) (by omega)]; decide)]
      exact fnd_eq (by omega) (by omega) h3 (fun j h5 h6 => h4 j (by omega) h6)
section G2
variable {scr : List Int32} {d t rt st pt qt n np nr nl nb nq lp T : Nat} {c : Nat → Int32} {e : Nat → Nat} {I I' J : Nat → Nat → Int32} {L L' : Nat → Nat → Int64} {R : Nat → Nat → Nat}
theorem x159 (hb : bd0 rt n nr lp T c e I R) : hs_C scr (d + 1) 159 [.ref 15] (hs_S0, I, L, R) = some (some (.int (iI (sdE n e))), (hs_S0, I, L, R)) := by
  obtain ⟨o0, r0_1, o4, hH, hU, hl, h2, hT, hrt, he⟩ := id hb
  have hn := hH.1
  have hx := hH.2.2.1
  have main : ∀ i, i ≤ n → hs_R scr (d + 1) 159 4 [some (.ref 15), some (.int 0), some (.int 0)] [] (hs_S0, I, L, R) = hs_R scr (d + 1) 159 4 [some (.ref 15), some (.int (iI (sdS n e i))), some (.int (nI i))] [] (hs_S0, I, L, R) := by
    intro i
    induction i with
    | zero => intro _; rfl
    | succ i ih =>
      intro h
      rw [ih (by omega), b159_4 o0 r0_1 o4]
      simp (disch := omega) only [Option.bind_some, Option.toList_some, Option.toList_none, List.append_nil, List.cons_append, List.nil_append, ↓reduceIte, true_or, or_true, Nat.reduceAdd, Nat.add_assoc, f_ge, t_le, t_lt, f_lt, f_l0, t_0l, t_pl, t_eq, f_eq, f_e0, i10, i01, ib_nI, nI_clamp, nI_add, ad10, ad18, ad26, ad34, ad42, ad47, ad52, ad59, ad107, ad117, ml8, mr8, ml5, ml10, hu_same, hu_row, hu_at, hu_hu, hx, x160 hb (show i < n by omega), b159_24 o0, (he i (by omega)).1, nI_1]
      rw [iI_n (e i), iI_mul, iI_add]; rfl
  rw [e159, b159_0]
  refine (main n (Nat.le_refl _)).trans ?_
  rw [b159_4 o0 r0_1 o4, hx, if_pos (nI_le (Nat.le_refl _) (by omega))]; rfl
theorem x158 (hb : bd0 rt n nr lp T c e I R) (hd : 8 ≤ d) : hs_C scr (d + 2) 158 [.ref 15] (hs_S0, I, L, R) = some (some (.int (iI (vlG n T (fun k => (c (18 + k)).toNatClampNeg + lp) T e))), (hs_S0, I, L, R)) := by
  have o0 := hb.1
  have hT := hb.2.2.2.2.2.2.2.1
  have h1 := x161 (scr := scr) (L := L) (rt := rt) (n := n) (nr := nr) (lp := lp) (T := T) (c := c) (R := R) T (d + 1) I e (sdE n e) (Nat.le_refl _) (by omega) hb rfl
  rw [Nat.sub_self, nI_0] at h1
  rw [e158, b158_0 o0, x159 hb]
  simp only [Option.bind_some, Option.toList_some, Option.toList_none, List.append_nil, List.cons_append, List.nil_append, ↓reduceIte, true_or, or_true, Nat.reduceAdd, Nat.add_assoc, b158_6 (o_u0 := o0), h1, b158_9]
theorem x157 (o0 : ok0 hs_S0 R 15) (o0' : ok0 hs_S0 (hs_u R 15 1 rt) 15) (o4 : ok4 hs_S0 R rt) (o4' : ok4 hs_S0 (hs_u R 15 1 rt) rt) (hrt : rt = 18 ∨ rt = 34) (hH : RH n c I rt) (hU : RU nr c I rt) (hl : lpc nr lp c) (hT : T ≤ 3) : hs_C scr (d + 3) 157 [.ref 15, .ref rt, .int (nI T)] (hs_S0, I, L, R) = some (none, (hs_S0, wr (hs_u I 15 2 (nI T)) 16 0 n (lenA c lp T), L, hs_u R 15 1 rt)) := by
  have hn := hH.1
  have rr : hs_u R 15 1 rt 15 1 = rt := hu_same _ _ _ _
  have main : ∀ p i, i + p = n → hs_R scr (d + 3) 157 12 [some (.ref 15), some (.ref rt), some (.int (nI T)), some (.int (nI i))] [] (hs_S0, wr (hs_u I 15 2 (nI T)) 16 0 i (lenA c lp T), L, hs_u R 15 1 rt) = some (none, (hs_S0, wr (hs_u I 15 2 (nI T)) 16 0 n (lenA c lp T), L, hs_u R 15 1 rt)) := by
    intro p
    induction p with
    | zero =>
      intro i h
      obtain rfl : i = n := by omega
      have hx : wr (hs_u I 15 2 (nI T)) 16 0 i (lenA c lp T) (rt + 5) 4 = nI i := by rw [wr_row _ _ (by omega), hu_row _ _ (by omega)]; exact hH.2.2.1
      rw [b157_12 (o_t0 := o0') (e_t0_1 := rr) (o_t0_1 := o4'), hx, if_pos (nI_le (Nat.le_refl _) (by omega))]
    | succ p ih =>
      intro i h
      have hH' : RH n c (wr (hs_u I 15 2 (nI T)) 16 0 i (lenA c lp T)) rt := RH_cg hH (fun _ _ => rfl) (by rw [wr_row _ _ (by omega), hu_row _ _ (by omega)]) (by rw [wr_row _ _ (by omega), hu_row _ _ (by omega)]) (by rw [wr_row _ _ (by omega), hu_row _ _ (by omega)]) (by rw [wr_row _ _ (by omega), hu_row _ _ (by omega)]) (by rw [wr_row _ _ (by omega), hu_row _ _ (by omega)])
      have hU' : RU nr c (wr (hs_u I 15 2 (nI T)) 16 0 i (lenA c lp T)) rt := RU_cg hU (fun _ _ => rfl) (by rw [wr_row _ _ (by omega), hu_row _ _ (by omega)]) (by rw [wr_row _ _ (by omega), hu_row _ _ (by omega)]) (by rw [wr_row _ _ (by omega), hu_row _ _ (by omega)])
      have ht : wr (hs_u I 15 2 (nI T)) 16 0 i (lenA c lp T) 15 2 = nI T := by rw [wr_row _ _ (by omega), hu_same]
      have hw := wr_s (hs_u I 15 2 (nI T)) 16 0 i (lenA c lp T)
      rw [Nat.zero_add] at hw
      rw [b157_12 (o_t0 := o0') (e_t0_1 := rr) (o_t0_1 := o4'), hH'.2.2.1, if_neg (nI_ge (by omega) (by omega)), ht, x132 o4' hH' hU' hl (by omega) (by omega)]
      simp only [Option.bind_some, Option.toList_some, Option.toList_none, List.append_nil, List.cons_append, List.nil_append, ↓reduceIte, true_or, or_true, Nat.reduceAdd, Nat.add_assoc]
      rw [b157_43 (S := hs_S0) (u0 := 16) (n_u0 := 8) rfl]
      simp (disch := omega) only [Option.bind_some, Option.toList_some, Option.toList_none, List.append_nil, List.cons_append, List.nil_append, ↓reduceIte, true_or, or_true, Nat.reduceAdd, Nat.add_assoc, f_ge, t_le, t_lt, f_lt, f_l0, t_0l, t_pl, t_eq, f_eq, f_e0, i10, i01, ib_nI, nI_clamp, nI_add, ad10, ad18, ad26, ad34, ad42, ad47, ad52, ad59, ad107, ad117, ml8, mr8, ml5, ml10, nI_1, hw]
      exact ih (i + 1) (by omega)
  have := main n 0 (by omega)
  rw [wr_0, nI_0] at this
  rw [e157, b157_0 (o_t0 := o0) (o_t1 := o4), b157_5 o0']
  exact this
/-- the class's board and the reference's plays, together -/
theorem board {T : Nat} (hA : RelA rt st pt qt n np nr nl nb nq I L R) (hT : T ≤ 3) : ∃ lp e, lpc nr lp (I 145) ∧ HB n lp (I 145) ∧ (∀ h, h < n → e h = min 99 ((I 145 (10 + h)).toNatClampNeg + T * ((I 145 (18 + h)).toNatClampNeg + lp))) ∧ Env (hs_u R 15 1 rt) rt st pt qt ∧ (∀ d, hs_C scr (d + 3) 157 [.ref 15, .ref rt, .int (nI T)] (hs_S0, I, L, R) = some (none, (hs_S0, wr (hs_u I 15 2 (nI T)) 16 0 n (lenA (I 145) lp T), L, hs_u R 15 1 rt))) ∧ bd0 rt n nr lp T (I 145) e (wr (hs_u I 15 2 (nI T)) 16 0 n (lenA (I 145) lp T)) (hs_u R 15 1 rt) := by
  obtain ⟨lp, hlp⟩ := lpc_ex hA.2.1.2.2.1
  have hE := hA.1
  have hHB := HB_of hA.2.1.1 hA.2.1.2.2.1 hA.2.1.2.2.2.2.2.1 hlp
  have hrt := hE.2.2.2.2.2.1
  have hE' : Env (hs_u R 15 1 rt) rt st pt qt := by
    obtain ⟨a1, a2, a3, a4, a5, a6, a7⟩ := hE
    exact ⟨Rc_u a1 (by decide), by rw [hu_row _ _ (by omega)]; exact a2, by rw [hu_row _ _ (by omega)]; exact a3, by rw [hu_row _ _ (by omega)]; exact a4, by rw [hu_row _ _ (by omega)]; exact a5, a6, a7⟩
  have hH := hA.2.1.1
  have hU := hA.2.1.2.2.1
  refine ⟨lp, fun h => min 99 ((I 145 (10 + h)).toNatClampNeg + T * ((I 145 (18 + h)).toNatClampNeg + lp)), hlp, hHB, fun h hh => rfl, hE', fun d => x157 (k0_15 hE.1) (k0_15 hE'.1) (Env_4 hE) (Env_4 hE') (by omega) hH hU hlp hT, k0_15 hE'.1, hu_same _ _ _ _, Env_4 hE', RH_cg hH (fun _ _ => rfl) (by rw [wr_row _ _ (by omega), hu_row _ _ (by omega)]) (by rw [wr_row _ _ (by omega), hu_row _ _ (by omega)]) (by rw [wr_row _ _ (by omega), hu_row _ _ (by omega)]) (by rw [wr_row _ _ (by omega), hu_row _ _ (by omega)]) (by rw [wr_row _ _ (by omega), hu_row _ _ (by omega)]), RU_cg hU (fun _ _ => rfl) (by rw [wr_row _ _ (by omega), hu_row _ _ (by omega)]) (by rw [wr_row _ _ (by omega), hu_row _ _ (by omega)]) (by rw [wr_row _ _ (by omega), hu_row _ _ (by omega)]), hlp, by rw [wr_row _ _ (by omega), hu_same], hT, by omega, fun h hh => ⟨?_, by dsimp only; omega⟩⟩
  rw [wr_in _ _ (by omega), Nat.sub_zero]; rfl
theorem Rel_gm {J' : Nat → Nat → Int32} {s : Int32} (hA : RelA rt st pt qt n np nr nl nb nq I L R) (hE' : Env (hs_u R 15 1 rt) rt st pt qt) (hI : ∀ k, k ≠ 15 → k ≠ 16 → I' k = I k) (hk : keep 0 (hs_u (hs_u (hs_u I' 2 16 s) 140 1 0) 140 0 0) J') : Rel (hs_u J' 140 0 s) L (hs_u R 15 1 rt) := by
  obtain ⟨a1, a2, a3, a4, a5⟩ := hk
  have hrt := hA.1.2.2.2.2.2
  have hm := hA.2.2.2.2.1
  have f1 : ∀ k, k ≠ 145 → k ≠ 149 → k ≠ 140 → k ≠ 2 → k ≠ 15 → k ≠ 16 → hs_u J' 140 0 s k = I k := fun k h1 h2 h3 h4 h5 h6 => by
    rw [hu_row _ _ h3, a2 k h1 h2 h3, hu_row _ _ h3, hu_row _ _ h3, hu_row _ _ h4, hI k h5 h6]
  have f2 : ∀ f, f ≠ 16 → hs_u J' 140 0 s 2 f = I 2 f := fun f hf => by
    rw [hu_row _ _ (by omega), a2 2 (by omega) (by omega) (by omega), hu_row _ _ (by omega), hu_row _ _ (by omega), hu_ne _ _ hf, hI 2 (by omega) (by omega)]
  have f3 : ∀ f, f ≠ 0 → f ≠ 1 → f ≠ 28 → hs_u J' 140 0 s 140 f = I 140 f := fun f h1 h2 h3 => by
    rw [hu_ne _ _ h1, a3 f h3, hu_ne _ _ h1, hu_ne _ _ h2, hu_row _ _ (by omega), hI 140 (by omega) (by omega)]
  have f4 : hs_u J' 140 0 s 145 = I 145 := by rw [hu_row _ _ (by omega), a1, hu_row _ _ (by omega), hu_row _ _ (by omega), hu_row _ _ (by omega), hI 145 (by omega) (by omega)]
  have g4 : hs_u J' 140 0 s 4 = I 4 := f1 4 (by omega) (by omega) (by omega) (by omega) (by omega) (by omega)
  exact ⟨rt, st, pt, qt, n, np, nr, nl, nb, nq, Rel_fr hA hE' (fun k hk => f1 k (by omega) (by omega) (by omega) (by omega) (by omega) (by omega)) (fun k _ => rfl) (fun k _ => by rw [f4]) (fun k _ => rfl) (by rw [g4]) (f3 8 (by omega) (by omega) (by omega)) (by rw [g4]) (f3 10 (by omega) (by omega) (by omega)) (by rw [g4]) (f3 11 (by omega) (by omega) (by omega)) (by rw [hu_same, hu_row _ _ (by omega), a2 2 (by omega) (by omega) (by omega), hu_row _ _ (by omega), hu_row _ _ (by omega), hu_same]) hm.2.1 hm.2.2.1 (f2 14 (by omega)) (f3 31 (by omega) (by omega) (by omega)) (f2 15 (by omega)) (f3 24 (by omega) (by omega) (by omega))⟩
theorem ca52 : CA52 scr hs_S0 Rel 99 := by
  intro x I L R hP
  obtain ⟨rt, st, pt, qt, n, np, nr, nl, nb, nq, hA⟩ := hP; obtain ⟨hE, ⟨⟨hn8, hc0, hx0, hh⟩, ⟨hp5, hc1, hx1, hpp⟩, ⟨hr6, hc2, hx2, hrr, hru⟩, ⟨hl6, hc3, hx3, hll⟩, ⟨hb6, hq10, hc4, hx4, hc5, hx5, hqq⟩, hD, hN, hG⟩, hT, hTx, hM, hK⟩ := id hA; have o10 := k10_2 hE.1; have o11 := k11_140 hE.1; have o4 := Env_4 hE; have o1 : ok1 hs_S0 R (rt + 5) := o4.2.2.2.2.2.1; have r10_8 := hE.2.1; have hrt := hE.2.2.2.2.2.1; have hpt := hE.2.2.2.2.2.2
  rcases rg x 0 3 with hx | ⟨h1, h2, h3⟩
  · refine CK_st hA (-1) 5 ?_ ?_
    · simp (disch := omega) only [Option.bind_some, Option.toList_some, Option.toList_none, List.append_nil, List.cons_append, List.nil_append, ↓reduceIte, true_or, or_true, Nat.reduceAdd, Nat.add_assoc, f_ge, t_le, t_lt, f_lt, f_l0, t_0l, t_pl, t_eq, f_eq, f_e0, i10, i01, ib_nI, nI_clamp, nI_add, ad10, ad18, ad26, ad34, ad42, ad47, ad52, ad59, ad107, ad117, ml8, mr8, ml5, ml10, hu_same, hu_row, hu_at, hu_hu, e156, b156_0 o10 r10_8 o4, b156_9 o10, b156_14, b156_27 o10, b156_35 o10, b156_38, e28, b28_0 o10, out_g hx]
    · simp (disch := first | omega | (simp (disch := omega) only [hu_same, hu_row, hu_at, hu_hu, hc0, hc1, hc2, hc3, hc4, hc5]; done)) only [Option.bind_some, Option.toList_some, Option.toList_none, List.append_nil, List.cons_append, List.nil_append, ↓reduceIte, true_or, or_true, Nat.reduceAdd, Nat.add_assoc, f_ge, t_le, t_lt, f_lt, f_l0, t_0l, t_pl, t_eq, f_eq, f_e0, i10, i01, ib_nI, nI_clamp, nI_add, ad10, ad18, ad26, ad34, ad42, ad47, ad52, ad59, ad107, ad117, ml8, mr8, ml5, ml10, hu_same, hu_row, hu_at, hu_hu, e340, b340_0 o11, b340_19 o11, b340_28, b340_36, e265, b265_0 o11, s223 0 3 0 3 rfl rfl, out_g hx]
  · obtain ⟨T, hT, rfl⟩ := rg_nat 3 rfl (by decide) h1 h2
    obtain ⟨lp, e, hlp, hHB, he, hE', e157, hb⟩ := board (scr := scr) hA hT
    have o10' := k10_2 hE'.1
    have o11' := k11_140 hE'.1
    have hI' : ∀ k, k ≠ 15 → k ≠ 16 → wr (hs_u I 15 2 (nI T)) 16 0 n (lenA (I 145) lp T) k = I k := fun k h1 h2 => by rw [wr_row _ _ h2, hu_row _ _ h1]
    obtain ⟨I', hI0⟩ : ∃ I', I' = wr (hs_u I 15 2 (nI T)) 16 0 n (lenA (I 145) lp T) := ⟨_, rfl⟩
    rw [← hI0] at hb hI'
    simp only [← hI0] at e157
    have hJ : hs_u (hs_u (hs_u I' 2 16 0) 140 1 0) 140 0 0 145 = I 145 := by simp (disch := omega) only [hu_same, hu_row, hu_at, hu_hu, hI']
    obtain ⟨J', e3, k3, -⟩ := m341 (scr := scr) (n := n) (lp := lp) (T := T) (gr := fun k => (I 145 (18 + k)).toNatClampNeg + lp) (L := L) (R := hs_u R 15 1 rt) hT o11' T 98 (hs_u (hs_u (hs_u I' 2 16 0) 140 1 0) 140 0 0) e (Nat.le_refl _) (by omega) (by rw [hJ]; exact hHB) (fun k hk => by rw [hJ]) (fun h hh => by rw [hJ]; exact he h hh)
    rw [Nat.sub_self] at e3 k3
    rw [nI_0] at e3
    refine ⟨iI (vlG n T (fun k => (I 145 (18 + k)).toNatClampNeg + lp) T e), hs_u I' 2 16 0, L, hs_u R 15 1 rt, hs_u J' 140 0 0, L, hs_u R 15 1 rt, ?_, o11', ?_, Rel_gm hA hE' hI' k3⟩
    · rw [e156, b156_0 o10 r10_8 o4, if_neg h1, if_pos h2, show (2 + 13 : Nat) = 15 from rfl, e157 95]
      simp only [Option.bind_some, Option.toList_some, Option.toList_none, List.append_nil, List.cons_append, List.nil_append, ↓reduceIte, true_or, or_true, Nat.reduceAdd, Nat.add_assoc]
      rw [b156_27 o10', show (2 + 13 : Nat) = 15 from rfl, x158 (d := 96) hb (by omega)]
      simp only [Option.bind_some, Option.toList_some, Option.toList_none, List.append_nil, List.cons_append, List.nil_append, ↓reduceIte, true_or, or_true, Nat.reduceAdd, Nat.add_assoc, b156_35 (o_u0 := o10'), e68, b68_0 o10', b156_38]
    · rw [e340, b340_0 o11', s223 0 3 0 3 rfl rfl]
      simp only [Option.bind_some, Option.toList_some, Option.toList_none, List.append_nil, List.cons_append, List.nil_append, ↓reduceIte, true_or, or_true, Nat.reduceAdd, Nat.add_assoc, h1, h2, b340_19 o11', i10, e3, b340_28, b340_36]
      have : hs_u J' 140 0 0 = J' := hu_self _ (by rw [k3.2.2.1 0 (by omega), hu_same])
      rw [this]
theorem x164 (hb : bd0 rt n nr lp T c e I R) (hT0 : 0 < T) (hd : 10 ≤ d) : hs_C scr (d + 3) 164 [.ref 15] (hs_S0, I, L, R) = some (some (.int (match fnd (fun h => decide (vls n T (fun k => (c (18 + k)).toNatClampNeg + lp) (T - 1) e h = vlG n T (fun k => (c (18 + k)).toNatClampNeg + lp) T e)) 0 n with | some h => nI h | none => -1)), (hs_S0, I, L, R)) := by
  obtain ⟨o0, r0_1, o4, hH, hU, hl, h2, hT, hrt, he⟩ := id hb
  have hn := hH.1
  have hx := hH.2.2.1
  have he99 : ∀ k, k < n → e k ≤ 99 := fun k hk => (he k hk).2
  obtain ⟨r, rfl⟩ : ∃ r, T = r + 1 := ⟨T - 1, by omega⟩
  have hbb := vlG_b (T := r + 1) (gr := fun k => (c (18 + k)).toNatClampNeg + lp) hn (r + 1) e he99
  rw [e164, b164_0 o0, x158 (d := d) hb (by omega)]
  simp only [Option.bind_some, Option.toList_some, Option.toList_none, List.append_nil, List.cons_append, List.nil_append, ↓reduceIte, true_or, or_true, Nat.reduceAdd, Nat.add_assoc, b164_4 o0, x159 (d := d + 1) hb, b164_9, Nat.add_sub_cancel]
  rw [← nI_0]
  refine (fo_ex (n := n) (head := fun h (_ : Unit) => hs_R scr (d + 3) 164 12 [some (.ref 15), some (.int (iI (vlG n (r + 1) (fun k => (c (18 + k)).toNatClampNeg + lp) (r + 1) e))), some (.int (iI (sdE n e))), some (.int (nI h))] [] (hs_S0, I, L, R)) (q := fun h => decide (vls n (r + 1) (fun k => (c (18 + k)).toNatClampNeg + lp) r e h = vlG n (r + 1) (fun k => (c (18 + k)).toNatClampNeg + lp) (r + 1) e)) (res := fun h => some (some (.int (nI h)), (hs_S0, I, L, R))) (fin := some (some (.int (-1)), (hs_S0, I, L, R))) (fun h j hh => ?_) (fun _ => ?_) n 0 () (by omega)).trans ?_
  · show (_ ∧ hs_R scr (d + 3) 164 12 _ _ _ = _) ∨ (_ ∧ ∃ j', hs_R scr (d + 3) 164 12 _ _ _ = _)
    have hw := x162 (scr := scr) (d := d + 1) (L := L) (h := h) (r := r) (s := sdE n e) (fun I' e' hb' s' hs' => x161 r (d + 1) I' e' s' (by omega) (by omega) hb' hs') ⟨d, rfl⟩ (Nat.le_refl _) hb rfl hh
    rw [Nat.sub_self] at hw
    have hvb := vlG_b (T := r + 1) (gr := fun k => (c (18 + k)).toNatClampNeg + lp) hn r (up e h (min 99 ((r + 1) * ((c (18 + h)).toNatClampNeg + lp)))) (up_99 he99 (by omega))
    have hvl : vls n (r + 1) (fun k => (c (18 + k)).toNatClampNeg + lp) r e h = vlG n (r + 1) (fun k => (c (18 + k)).toNatClampNeg + lp) r (up e h (min 99 ((r + 1) * ((c (18 + h)).toNatClampNeg + lp)))) := if_pos hh
    rw [b164_12 o0 r0_1 o4, hx, if_neg (nI_ge hh (by omega)), ← nI_0, hw]
    simp (disch := omega) only [Option.bind_some, Option.toList_some, Option.toList_none, List.append_nil, List.cons_append, List.nil_append, ↓reduceIte, true_or, or_true, Nat.reduceAdd, Nat.add_assoc, b164_33, iI_eq, nI_1]
    by_cases g : vlG n (r + 1) (fun k => (c (18 + k)).toNatClampNeg + lp) r (up e h (min 99 ((r + 1) * ((c (18 + h)).toNatClampNeg + lp)))) = vlG n (r + 1) (fun k => (c (18 + k)).toNatClampNeg + lp) (r + 1) e
    · left
      exact ⟨by rw [decide_eq_true_eq, hvl]; exact g, if_pos g⟩
    · right
      exact ⟨by rw [decide_eq_false_iff_not, hvl]; exact g, (), if_neg g⟩
  · show hs_R scr (d + 3) 164 12 _ _ _ = _
    rw [b164_12 o0 r0_1 o4, hx, if_pos (nI_le (Nat.le_refl _) (by omega))]
  · cases fnd (fun h => decide (vls n (r + 1) (fun k => (c (18 + k)).toNatClampNeg + lp) r e h = vlG n (r + 1) (fun k => (c (18 + k)).toNatClampNeg + lp) (r + 1) e)) 0 n <;> rfl
theorem ca53 : CA53 scr hs_S0 Rel 99 := by
  intro x I L R hP
  obtain ⟨rt, st, pt, qt, n, np, nr, nl, nb, nq, hA⟩ := hP; obtain ⟨hE, ⟨⟨hn8, hc0, hx0, hh⟩, ⟨hp5, hc1, hx1, hpp⟩, ⟨hr6, hc2, hx2, hrr, hru⟩, ⟨hl6, hc3, hx3, hll⟩, ⟨hb6, hq10, hc4, hx4, hc5, hx5, hqq⟩, hD, hN, hG⟩, hT, hTx, hM, hK⟩ := id hA; have o10 := k10_2 hE.1; have o11 := k11_140 hE.1; have o4 := Env_4 hE; have o1 : ok1 hs_S0 R (rt + 5) := o4.2.2.2.2.2.1; have r10_8 := hE.2.1; have hrt := hE.2.2.2.2.2.1; have hpt := hE.2.2.2.2.2.2
  rcases rg x 1 3 with hx | ⟨h1, h2, h3⟩
  · refine CK_st hA (-1) 5 ?_ ?_
    · simp (disch := omega) only [Option.bind_some, Option.toList_some, Option.toList_none, List.append_nil, List.cons_append, List.nil_append, ↓reduceIte, true_or, or_true, Nat.reduceAdd, Nat.add_assoc, f_ge, t_le, t_lt, f_lt, f_l0, t_0l, t_pl, t_eq, f_eq, f_e0, i10, i01, ib_nI, nI_clamp, nI_add, ad10, ad18, ad26, ad34, ad42, ad47, ad52, ad59, ad107, ad117, ml8, mr8, ml5, ml10, hu_same, hu_row, hu_at, hu_hu, e163, b163_0 o10 r10_8 o4, b163_10 o10, b163_15, b163_28 o10, b163_35 o10, b163_46, b163_54, e28, b28_0 o10, out_g hx]
    · simp (disch := first | omega | (simp (disch := omega) only [hu_same, hu_row, hu_at, hu_hu, hc0, hc1, hc2, hc3, hc4, hc5]; done)) only [Option.bind_some, Option.toList_some, Option.toList_none, List.append_nil, List.cons_append, List.nil_append, ↓reduceIte, true_or, or_true, Nat.reduceAdd, Nat.add_assoc, f_ge, t_le, t_lt, f_lt, f_l0, t_0l, t_pl, t_eq, f_eq, f_e0, i10, i01, ib_nI, nI_clamp, nI_add, ad10, ad18, ad26, ad34, ad42, ad47, ad52, ad59, ad107, ad117, ml8, mr8, ml5, ml10, hu_same, hu_row, hu_at, hu_hu, e342, b342_0 o11, b342_19 o11, b342_27, b342_34 o11, b342_54, b342_61, e265, b265_0 o11, s223 1 3 1 3 rfl rfl, out_g hx]
  · obtain ⟨T, hT, rfl⟩ := rg_nat 3 rfl (by decide) h1 h2
    have hT0 : 0 < T := by
      apply Nat.pos_of_ne_zero; rintro rfl; exact h1 (by decide)
    obtain ⟨lp, e, hlp, hHB, he, hE', e157, hb⟩ := board (scr := scr) hA hT
    have o10' := k10_2 hE'.1
    have o11' := k11_140 hE'.1
    have hI' : ∀ k, k ≠ 15 → k ≠ 16 → wr (hs_u I 15 2 (nI T)) 16 0 n (lenA (I 145) lp T) k = I k := fun k h1 h2 => by rw [wr_row _ _ h2, hu_row _ _ h1]
    obtain ⟨I', hI0⟩ : ∃ I', I' = wr (hs_u I 15 2 (nI T)) 16 0 n (lenA (I 145) lp T) := ⟨_, rfl⟩
    rw [← hI0] at hb hI'
    simp only [← hI0] at e157
    have hmm : ∀ s : Int32, ∃ J', hs_C scr 98 341 [.ref 140, .int 0, .int (nI T)] (hs_S0, hs_u (hs_u (hs_u I' 2 16 s) 140 1 0) 140 0 0, L, hs_u R 15 1 rt) = some (some (.int (iI (vlG n T (fun k => (I 145 (18 + k)).toNatClampNeg + lp) T e))), (hs_S0, J', L, hs_u R 15 1 rt)) ∧ keep 0 (hs_u (hs_u (hs_u I' 2 16 s) 140 1 0) 140 0 0) J' ∧ ∃ w, J' 140 28 = nI w ∧ bsf 0 (vls n T (fun k => (I 145 (18 + k)).toNatClampNeg + lp) (T - 1) e) (n + 1) (vlG n T (fun k => (I 145 (18 + k)).toNatClampNeg + lp) T e) w := by
      intro s
      have hJ : hs_u (hs_u (hs_u I' 2 16 s) 140 1 0) 140 0 0 145 = I 145 := by simp (disch := omega) only [hu_same, hu_row, hu_at, hu_hu, hI']
      obtain ⟨J', e3, k3, w3⟩ := m341 (scr := scr) (n := n) (lp := lp) (T := T) (gr := fun k => (I 145 (18 + k)).toNatClampNeg + lp) (L := L) (R := hs_u R 15 1 rt) hT o11' T 98 (hs_u (hs_u (hs_u I' 2 16 s) 140 1 0) 140 0 0) e (Nat.le_refl _) (by omega) (by rw [hJ]; exact hHB) (fun k hk => by rw [hJ]) (fun h hh => by rw [hJ]; exact he h hh)
      rw [Nat.sub_self] at e3 k3
      rw [nI_0] at e3
      exact ⟨J', e3, k3, w3 rfl hT0⟩
    have hx := x164 (scr := scr) (d := 95) (L := L) hb hT0 (by omega)
    have hX : ∀ v, (match fnd (fun h => decide (vls n T (fun k => (I 145 (18 + k)).toNatClampNeg + lp) (T - 1) e h = vlG n T (fun k => (I 145 (18 + k)).toNatClampNeg + lp) T e)) 0 n with | some h => nI h | none => -1) = v → hs_C scr 99 163 [.ref 2, .int (nI T)] (hs_S0, I, L, R) = (if 0 ≤ v then some (some (.int v), (hs_S0, hs_u I' 2 16 0, L, hs_u R 15 1 rt)) else some (some (.int (-1)), (hs_S0, hs_u I' 2 16 8, L, hs_u R 15 1 rt))) := by
      intro v hv
      rw [hv] at hx
      rw [e163, b163_0 o10 r10_8 o4, if_neg h1, if_pos h2, show (2 + 13 : Nat) = 15 from rfl, e157 95]
      simp only [Option.bind_some, Option.toList_some, Option.toList_none, List.append_nil, List.cons_append, List.nil_append, ↓reduceIte, true_or, or_true, Nat.reduceAdd, Nat.add_assoc]
      rw [b163_28 o10', show (2 + 13 : Nat) = 15 from rfl, hx]
      simp only [Option.bind_some, Option.toList_some, Option.toList_none, List.append_nil, List.cons_append, List.nil_append, ↓reduceIte, true_or, or_true, Nat.reduceAdd, Nat.add_assoc, b163_35 o10', e68, b68_0 o10', e28, b28_0 o10', b163_46, b163_54]
    obtain ⟨J8, e8, k8, w8, a8, b8⟩ := hmm 8
    obtain ⟨J0, e0, k0, w0, a0, b0⟩ := hmm 0
    by_cases hw : w0 < n
    · have hf : fnd (fun h => decide (vls n T (fun k => (I 145 (18 + k)).toNatClampNeg + lp) (T - 1) e h = vlG n T (fun k => (I 145 (18 + k)).toNatClampNeg + lp) T e)) 0 n = some w0 := fnd_eq (by omega) (by omega) (by rw [decide_eq_true_eq]; exact b0.2.1) (fun j _ hj => by rw [decide_eq_false_iff_not]; exact b0.2.2.2 j hj)
      have hX0 := hX (nI w0) (by rw [hf])
      rw [if_pos (nI_pos' (by omega))] at hX0
      refine ⟨nI w0, hs_u I' 2 16 0, L, hs_u R 15 1 rt, hs_u J0 140 0 0, L, hs_u R 15 1 rt, hX0, o11', ?_, Rel_gm hA hE' hI' k0⟩
      have hz : J0 (140 + 5) 0 = nI n := by show J0 145 0 = _; rw [k0.1]; simp (disch := omega) only [hu_same, hu_row, hu_at, hu_hu, hI', hc0]
      have hs0 : hs_u J0 140 0 0 = J0 := hu_self _ (by rw [k0.2.2.1 0 (by omega), hu_same])
      rw [hs0, e342, b342_0 o11', s223 1 3 1 3 rfl rfl]
      simp only [Option.bind_some, Option.toList_some, Option.toList_none, List.append_nil, List.cons_append, List.nil_append, ↓reduceIte, true_or, or_true, Nat.reduceAdd, Nat.add_assoc, h1, h2, b342_19 o11', i10, e0]
      rw [b342_34 o11', a0, hz, if_neg (fun q => by have := (nI_eq (a := w0) (b := n) (by omega) (by omega)).mp q; omega), b342_61]
    · have hwn : w0 = n := by have := b0.1; omega
      have hw8 : w8 = n := by
        have h8 := b8.1
        by_cases g : w8 = n
        · exact g
        · exact absurd b8.2.1 (b0.2.2.2 w8 (by omega))
      have hf : fnd (fun h => decide (vls n T (fun k => (I 145 (18 + k)).toNatClampNeg + lp) (T - 1) e h = vlG n T (fun k => (I 145 (18 + k)).toNatClampNeg + lp) T e)) 0 n = none := fnd_none.mpr (fun j _ hj => by rw [decide_eq_false_iff_not]; exact b0.2.2.2 j (by omega))
      have hX0 := hX (-1) (by rw [hf])
      rw [if_neg (by decide)] at hX0
      refine ⟨-1, hs_u I' 2 16 8, L, hs_u R 15 1 rt, hs_u J8 140 0 8, L, hs_u R 15 1 rt, hX0, o11', ?_, Rel_gm hA hE' hI' k8⟩
      have hz : J8 (140 + 5) 0 = nI n := by show J8 145 0 = _; rw [k8.1]; simp (disch := omega) only [hu_same, hu_row, hu_at, hu_hu, hI', hc0]
      rw [e342, b342_0 o11', s223 1 3 1 3 rfl rfl]
      simp only [Option.bind_some, Option.toList_some, Option.toList_none, List.append_nil, List.cons_append, List.nil_append, ↓reduceIte, true_or, or_true, Nat.reduceAdd, Nat.add_assoc, h1, h2, b342_19 o11', i10, e8]
      rw [b342_34 o11', a8, hz, if_pos (by rw [hw8]), e265, b265_0 o11']
      simp only [Option.bind_some, Option.toList_some, Option.toList_none, List.append_nil, List.cons_append, List.nil_append, ↓reduceIte, true_or, or_true, Nat.reduceAdd, Nat.add_assoc, b342_54, b342_61]
end G2
