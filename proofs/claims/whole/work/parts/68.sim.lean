/-! reigns lived: class and reference side by side; the ticks of the class -/
theorem f10000 {l : Nat} (h : l < 10000) : ((10000 : Int32) ≤ nI l) = False := eq_false (nI_ge (b := 10000) h (by omega))
theorem t300 {l : Nat} (h : l < 300) : (nI l < (300 : Int32)) = True := eq_true (nI_lt (b := 300) h (by omega))
theorem f300 {l : Nat} (h : l < 300) : (nI l = (300 : Int32)) = False := eq_false fun q => by
  have := (nI_eq (a := l) (b := 300) (by omega) (by omega)).mp q; omega
theorem ml9 (k : Nat) : (9 : Int32) * nI k = nI (9 * k) := pk_mul 9 k
theorem ad129 (k : Nat) : (129 : Int32) + nI k = nI (129 + k) := nI_add 129 k
theorem kw28 {k : Nat} (h : k ≤ 10) : (kw k = 28) = False := by
  have : ∀ k, k ≤ 10 → ¬ kw k = 28 := by decide
  exact eq_false (this k h)
theorem kw27 {k : Nat} (h : k ≤ 10) (h9 : k ≠ 9) : (kw k = 27) = False := by
  have : ∀ k, k ≤ 10 → k ≠ 9 → ¬ kw k = 27 := by decide
  exact eq_false (this k h h9)
theorem kw9 : (kw 9 = 27) = True := eq_true (by decide)
theorem le0 {m : Nat} (h : m < 2 ^ 31) : (nI m ≤ (0 : Int32)) = (m = 0) := by
  apply propext
  refine ⟨fun q => ?_, fun e => by subst e; decide⟩
  by_cases g : m = 0
  · exact g
  · exact absurd q (nI_ge (a := 0) (by omega) h)
noncomputable def hX (scr : List Int32) (dx u p t : Nat) (sd : Int32) (L : Nat → Nat → Int64) (R : Nat → Nat → Nat) (x : Int32) (T : Nat) (I : Nat → Nat → Int32) : Option (Option Value × hs_H) := hs_R scr (dx + 5) 172 51 [some (.ref u), some (.ref p), some (.ref t), some (.int sd), some (.int x), some (.int (nI T))] [] (hs_S0, I, L, R)
def PRw (p sz : Nat) (P1 P2 P3 P4 P5 : Nat → Int32) (I : Nat → Nat → Int32) : Prop := I p 5 = nI sz ∧ ∀ j, j < 60 → I (p + 1) j = P1 j ∧ I (p + 2) j = P2 j ∧ I (p + 3) j = P3 j ∧ I (p + 4) j = P4 j ∧ I (p + 5) j = P5 j
def LSt (n np nr nl nb nq t p u sz : Nat) (g P1 P2 P3 P4 P5 : Nat → Int32) (ww : Nat → Int64) (L : Nat → Nat → Int64) (I : Nat → Nat → Int32) (r z : Nat → Int32) (c : Nat) : Prop := RX n np nr nl nb nq r ww I L t p ∧ XZ I u z ∧ (∃ x, x < 65536 ∧ z 0 = nI x) ∧ z 1 = nI c ∧ c ≤ 300 ∧ PRw p sz P1 P2 P3 P4 P5 I ∧ ∀ k, k < 272 → r (127 + k) = g k
def Fr (t u lo hi : Nat) (I I' : Nat → Nat → Int32) : Prop := (∀ j, (j < t ∨ t + 16 ≤ j) → j ≠ u → j ≠ u + 1 → I' j = I j) ∧ ∀ j, (j < lo ∨ hi ≤ j) → I' (u + 1) j = I (u + 1) j
theorem Fr_tr {t u lo hi lo' hi' lo2 hi2 : Nat} {I I' I'' : Nat → Nat → Int32} (h1 : Fr t u lo hi I I') (h2 : Fr t u lo' hi' I' I'') (hl : lo2 ≤ lo ∧ lo2 ≤ lo' ∧ hi ≤ hi2 ∧ hi' ≤ hi2) : Fr t u lo2 hi2 I I'' :=
  ⟨fun j a b c => (h2.1 j a b c).trans (h1.1 j a b c), fun j hj => (h2.2 j (by omega)).trans (h1.2 j (by omega))⟩
theorem Fr_rf {t u lo hi : Nat} {I : Nat → Nat → Int32} : Fr t u lo hi I I := ⟨fun _ _ _ _ => rfl, fun _ _ => rfl⟩
def pot (K c : Nat) : Nat := K * (300 - c)
theorem pot_s {K c : Nat} (h : c < 300) : pot K c = pot K (c + 1) + K := by
  unfold pot
  have : 300 - c = (300 - (c + 1)) + 1 := by omega
  rw [this, Nat.mul_succ]
theorem pot_K {K c : Nat} : pot (K + 1) c = pot K c + (300 - c) := Nat.succ_mul _ _
section XB
variable {scr : List Int32} {d dx n np nr nl nb nq k a b w t p u sz ro q c m v T : Nat} {r z g P1 P2 P3 P4 P5 : Nat → Int32} {ww : Nat → Int64} {sd : Int32} {I : Nat → Nat → Int32} {L : Nat → Nat → Int64} {R : Nat → Nat → Nat}
theorem PRw_cg {I' : Nat → Nat → Int32} (h : PRw p sz P1 P2 P3 P4 P5 I) (hI : ∀ o, o < 6 → I' (p + o) = I (p + o)) : PRw p sz P1 P2 P3 P4 P5 I' := by
  unfold PRw at h ⊢
  rw [show I' p = I p from hI 0 (by omega), hI 1 (by omega), hI 2 (by omega), hI 3 (by omega), hI 4 (by omega), hI 5 (by omega)]
  exact h
theorem LSt_u1 {f : Nat} {x : Int32} (hL : LE R u t p) (h : (LSt n np nr nl nb nq t p u sz g P1 P2 P3 P4 P5 ww L) I r z c) : (LSt n np nr nl nb nq t p u sz g P1 P2 P3 P4 P5 ww L) (hs_u I (u + 1) f x) r z c := by
  obtain ⟨o2, r7, r8, o4, o5, ht, hp, hu⟩ := hL
  obtain ⟨hR, hZ, hz, e1, hc, hP, hg⟩ := h
  exact ⟨RX_fu hR (by omega), XZ_i hZ _ (hu_row _ _ (by omega)), hz, e1, hc, PRw_cg hP (fun o ho => hu_row _ _ (by omega)), hg⟩
theorem tkS (hL : LE R u t p) (hS : (LSt n np nr nl nb nq t p u sz g P1 P2 P3 P4 P5 ww L) I r z c) (h7 : z 7 = 0) (hc : c < 300) (hr : ro < sz) (hsz : sz ≤ 60) (hT : T < 10000) (hk : k ≤ 10) (p1 : P1 ro = kw k) : hX scr dx u p t sd L R (nI ro) T I = ((hs_C scr (dx + 4) 174 [.ref u, .int (nI ro)] (hs_S0, hs_u I u 0 (nI (c + 1)), L, R)).bind fun o => hs_R scr (dx + 5) 172 143 [some (.ref u), some (.ref p), some (.ref t), some (.int sd), some (.int (nI ro)), some (.int (nI T))] (o.1.toList ++ []) o.2) := by
  obtain ⟨o2, r7, r8, o4, o5, ht, hp, hu⟩ := hL
  obtain ⟨hR, ⟨z0, z1, z2, z3, z4, z5, z6⟩, hz, e1, hc3, ⟨ep5, hPP⟩, hg⟩ := hS
  have e0 : I u 0 = nI c := z0.trans e1
  have e5 : I u 5 = 0 := z5.trans h7
  have ep1 := (hPP ro (by omega)).1
  unfold hX
  rw [b172_51 o2 r7 o5]
  simp (disch := omega) only [Option.bind_some, Option.toList_some, Option.toList_none, List.append_nil, List.cons_append, List.nil_append, ↓reduceIte, true_or, or_true, Nat.reduceAdd, Nat.add_assoc, f_ge, t_le, t_lt, f_lt, f_l0, t_0l, t_pl, t_eq, f_eq, f_e0, i10, i01, ib_nI, nI_clamp, nI_add, ad10, ad18, ad26, ad34, ad42, ad47, ad52, ad59, ad107, ad117, ml8, mr8, ml5, ml10, f10000, ep5, e5, ep1, p1, kw28 hk, e0, t300 hc, nI_1]
theorem tk0 (hL : LE R u t p) (hS : (LSt n np nr nl nb nq t p u sz g P1 P2 P3 P4 P5 ww L) I r z 300) (h7 : z 7 = 0) (hr : ro < sz) (hsz : sz ≤ 60) (hT : T < 10000) (hk : k ≤ 10) (p1 : P1 ro = kw k) : hX scr dx u p t sd L R (nI ro) T I = hX scr dx u p t sd L R (nI ro) (T + 1) (hs_u I u 5 1) := by
  obtain ⟨o2, r7, r8, o4, o5, ht, hp, hu⟩ := hL
  obtain ⟨hR, ⟨z0, z1, z2, z3, z4, z5, z6⟩, hz, e1, hc3, ⟨ep5, hPP⟩, hg⟩ := hS
  have e0 : I u 0 = nI 300 := z0.trans e1
  have e5 : I u 5 = 0 := z5.trans h7
  have ep1 := (hPP ro (by omega)).1
  unfold hX
  rw [b172_51 o2 r7 o5]
  simp (disch := omega) only [Option.bind_some, Option.toList_some, Option.toList_none, List.append_nil, List.cons_append, List.nil_append, ↓reduceIte, true_or, or_true, Nat.reduceAdd, Nat.add_assoc, f_ge, t_le, t_lt, f_lt, f_l0, t_0l, t_pl, t_eq, f_eq, f_e0, i10, i01, ib_nI, nI_clamp, nI_add, ad10, ad18, ad26, ad34, ad42, ad47, ad52, ad59, ad107, ad117, ml8, mr8, ml5, ml10, f10000, ep5, e5, ep1, p1, kw28 hk, e0, show (nI 300 < (300 : Int32)) = False from eq_false (by decide), nI_1, b172_164]
theorem tkE (hL : LE R u t p) (hS : (LSt n np nr nl nb nq t p u sz g P1 P2 P3 P4 P5 ww L) I r z c) (h7 : z 7 = 0) (hq : q < sz) (hsz : sz ≤ 60) (hT : T < 10000) (hro : ro < 60) (hk : k ≤ 10) (hk9 : k ≠ 9) (p1 : P1 q = 28) (p5 : P5 q = nI ro) (pk : P1 ro = kw k) : hX scr dx u p t sd L R (nI q) T I = hX scr dx u p t sd L R (nI (q + 1)) (T + 1) I := by
  obtain ⟨o2, r7, r8, o4, o5, ht, hp, hu⟩ := hL
  obtain ⟨hR, ⟨z0, z1, z2, z3, z4, z5, z6⟩, hz, e1, hc3, ⟨ep5, hPP⟩, hg⟩ := hS
  have e5 : I u 5 = 0 := z5.trans h7
  have eq1 := (hPP q (by omega)).1
  have eq5 := (hPP q (by omega)).2.2.2.2
  have er1 := (hPP ro (by omega)).1
  unfold hX
  rw [b172_51 o2 r7 o5]
  simp (disch := omega) only [Option.bind_some, Option.toList_some, Option.toList_none, List.append_nil, List.cons_append, List.nil_append, ↓reduceIte, true_or, or_true, Nat.reduceAdd, Nat.add_assoc, f_ge, t_le, t_lt, f_lt, f_l0, t_0l, t_pl, t_eq, f_eq, f_e0, i10, i01, ib_nI, nI_clamp, nI_add, ad10, ad18, ad26, ad34, ad42, ad47, ad52, ad59, ad107, ad117, ml8, mr8, ml5, ml10, f10000, ep5, e5, eq1, p1, e173, b173_0 o2 r7 o5, eq5, p5, er1, pk, kw27 hk hk9, b173_47, b172_104, nI_1, b172_164]
theorem tkL (hL : LE R u t p) (hS : (LSt n np nr nl nb nq t p u sz g P1 P2 P3 P4 P5 ww L) I r z c) (h7 : z 7 = 0) (hq : q < sz) (hsz : sz ≤ 60) (hT : T < 10000) (hro : ro < 60) (p1 : P1 q = 28) (p5 : P5 q = nI ro) (pk : P1 ro = kw 9) (hm : m < 1000) (em : I (u + 1) ro = nI (m + 1)) : hX scr dx u p t sd L R (nI q) T I = hX scr dx u p t sd L R (nI (if m = 0 then q + 1 else ro + 1)) (T + 1) (hs_u I (u + 1) ro (nI m)) := by
  obtain ⟨o2, r7, r8, o4, o5, ht, hp, hu⟩ := hL
  obtain ⟨hR, ⟨z0, z1, z2, z3, z4, z5, z6⟩, hz, e1, hc3, ⟨ep5, hPP⟩, hg⟩ := hS
  have e5 : I u 5 = 0 := z5.trans h7
  have eq1 := (hPP q (by omega)).1
  have eq5 := (hPP q (by omega)).2.2.2.2
  have er1 := (hPP ro (by omega)).1
  have em1 : nI (m + 1) - 1 = nI m := pk_sub (a := m + 1) (b := 1) (by omega)
  unfold hX
  rw [b172_51 o2 r7 o5]
  simp (disch := omega) only [Option.bind_some, Option.toList_some, Option.toList_none, List.append_nil, List.cons_append, List.nil_append, ↓reduceIte, true_or, or_true, Nat.reduceAdd, Nat.add_assoc, f_ge, t_le, t_lt, f_lt, f_l0, t_0l, t_pl, t_eq, f_eq, f_e0, i10, i01, ib_nI, nI_clamp, nI_add, ad10, ad18, ad26, ad34, ad42, ad47, ad52, ad59, ad107, ad117, ml8, mr8, ml5, ml10, f10000, ep5, e5, eq1, p1, e173, b173_0 o2 r7 o5, eq5, p5, er1, pk, kw9, em, em1, hu_same, le0]
  by_cases g : m = 0
  · simp (disch := omega) only [g, Option.bind_some, Option.toList_some, Option.toList_none, List.append_nil, List.cons_append, List.nil_append, ↓reduceIte, true_or, or_true, Nat.reduceAdd, Nat.add_assoc, b173_47, b172_104, nI_1, b172_164]
  · simp (disch := omega) only [g, Option.bind_some, Option.toList_some, Option.toList_none, List.append_nil, List.cons_append, List.nil_append, ↓reduceIte, true_or, or_true, Nat.reduceAdd, Nat.add_assoc, b173_47, b172_104, nI_1, b172_164]
theorem x174b (hL : LE R u t p) (hr : ro < 60) (hk : k = 8 ∨ k = 9 ∨ k = 10) (p1 : I (p + 1) ro = kw k) : hs_C scr d 174 [.ref u, .int (nI ro)] (hs_S0, I, L, R) = some (some (.int 1), (hs_S0, I, L, R)) := by
  obtain ⟨o2, r7, r8, o4, o5, ht, hp, hu⟩ := hL
  rw [e174, b174_0 o2 r7 o5]
  simp (disch := omega) only [Option.bind_some, Option.toList_some, Option.toList_none, List.append_nil, List.cons_append, List.nil_append, ↓reduceIte, true_or, or_true, Nat.reduceAdd, Nat.add_assoc, f_ge, t_le, t_lt, f_lt, f_l0, t_0l, t_pl, t_eq, f_eq, f_e0, i10, i01, ib_nI, nI_clamp, nI_add, ad10, ad18, ad26, ad34, ad42, ad47, ad52, ad59, ad107, ad117, ml8, mr8, ml5, ml10, p1]
  rcases hk with rfl | rfl | rfl
  · rw [sw174_8, b174_142]
  · rw [sw174_9, b174_142]
  · rw [sw174_10, b174_142]
theorem x180a (hL : LE R u t p) (hr : ro < 60) (hk : k ≤ 7) (p1 : I (p + 1) ro = kw k) : hs_C scr d 180 [.ref u, .int (nI ro)] (hs_S0, I, L, R) = some (some (.int (nI (ro + 1))), (hs_S0, I, L, R)) := by
  obtain ⟨o2, r7, r8, o4, o5, ht, hp, hu⟩ := hL
  rw [e180, b180_0 o2 r7 o5]
  simp (disch := omega) only [Option.bind_some, Option.toList_some, Option.toList_none, List.append_nil, List.cons_append, List.nil_append, ↓reduceIte, true_or, or_true, Nat.reduceAdd, Nat.add_assoc, f_ge, t_le, t_lt, f_lt, f_l0, t_0l, t_pl, t_eq, f_eq, f_e0, i10, i01, ib_nI, nI_clamp, nI_add, ad10, ad18, ad26, ad34, ad42, ad47, ad52, ad59, ad107, ad117, ml8, mr8, ml5, ml10, p1]
  have : hs_swt (kw k) 25 29 [52, 116, 78, 116, 44] 116 = 116 := by
    have : ∀ k, k ≤ 7 → hs_swt (kw k) 25 29 [52, 116, 78, 116, 44] 116 = 116 := by decide
    exact this k hk
  rw [this, b180_116, nI_1]
theorem x180s (hL : LE R u t p) (hr : ro < 60) (p1 : I (p + 1) ro = kw 10) : hs_C scr d 180 [.ref u, .int (nI ro)] (hs_S0, I, L, R) = some (some (.int (I p 5)), (hs_S0, I, L, R)) := by
  obtain ⟨o2, r7, r8, o4, o5, ht, hp, hu⟩ := hL
  rw [e180, b180_0 o2 r7 o5]
  simp (disch := omega) only [Option.bind_some, Option.toList_some, Option.toList_none, List.append_nil, List.cons_append, List.nil_append, ↓reduceIte, true_or, or_true, Nat.reduceAdd, Nat.add_assoc, f_ge, t_le, t_lt, f_lt, f_l0, t_0l, t_pl, t_eq, f_eq, f_e0, i10, i01, ib_nI, nI_clamp, nI_add, ad10, ad18, ad26, ad34, ad42, ad47, ad52, ad59, ad107, ad117, ml8, mr8, ml5, ml10, p1]
  rw [sw180_10, b180_44 o2 r7 o5]
theorem x180l (hL : LE R u t p) (hr : ro < 60) (p1 : I (p + 1) ro = kw 9) (p5 : I (p + 5) ro = nI q) (hq : q < 60) (p4 : I (p + 4) ro = nI v) : hs_C scr d 180 [.ref u, .int (nI ro)] (hs_S0, I, L, R) = some (some (.int (nI (ro + 1))), (hs_S0, hs_u I (u + 1) ro (nI (if q = ro + 1 then 1 else v)), L, R)) := by
  obtain ⟨o2, r7, r8, o4, o5, ht, hp, hu⟩ := hL
  have ou := o2.2.2.2
  rw [e180, b180_0 o2 r7 o5]
  simp (disch := omega) only [Option.bind_some, Option.toList_some, Option.toList_none, List.append_nil, List.cons_append, List.nil_append, ↓reduceIte, true_or, or_true, Nat.reduceAdd, Nat.add_assoc, f_ge, t_le, t_lt, f_lt, f_l0, t_0l, t_pl, t_eq, f_eq, f_e0, i10, i01, ib_nI, nI_clamp, nI_add, ad10, ad18, ad26, ad34, ad42, ad47, ad52, ad59, ad107, ad117, ml8, mr8, ml5, ml10, p1]
  rw [sw180_9, b180_78 o2 r7 o5]
  by_cases g : q = ro + 1
  · subst g
    simp (disch := omega) only [Option.bind_some, Option.toList_some, Option.toList_none, List.append_nil, List.cons_append, List.nil_append, ↓reduceIte, true_or, or_true, Nat.reduceAdd, Nat.add_assoc, f_ge, t_le, t_lt, f_lt, f_l0, t_0l, t_pl, t_eq, f_eq, f_e0, i10, i01, ib_nI, nI_clamp, nI_add, ad10, ad18, ad26, ad34, ad42, ad47, ad52, ad59, ad107, ad117, ml8, mr8, ml5, ml10, nI_1, p5]
    rw [b180_111 (S := hs_S0) (u0 := u + 1) (n_u0 := 60) (a_u0 := ou)]
    simp (disch := omega) only [Option.bind_some, Option.toList_some, Option.toList_none, List.append_nil, List.cons_append, List.nil_append, ↓reduceIte, true_or, or_true, Nat.reduceAdd, Nat.add_assoc, f_ge, t_le, t_lt, f_lt, f_l0, t_0l, t_pl, t_eq, f_eq, f_e0, i10, i01, ib_nI, nI_clamp, nI_add, ad10, ad18, ad26, ad34, ad42, ad47, ad52, ad59, ad107, ad117, ml8, mr8, ml5, ml10, nI_1]; rfl
  · simp (disch := omega) only [Option.bind_some, Option.toList_some, Option.toList_none, List.append_nil, List.cons_append, List.nil_append, ↓reduceIte, true_or, or_true, Nat.reduceAdd, Nat.add_assoc, f_ge, t_le, t_lt, f_lt, f_l0, t_0l, t_pl, t_eq, f_eq, f_e0, i10, i01, ib_nI, nI_clamp, nI_add, ad10, ad18, ad26, ad34, ad42, ad47, ad52, ad59, ad107, ad117, ml8, mr8, ml5, ml10, nI_1, p5, p4, g]
    rw [b180_111 (S := hs_S0) (u0 := u + 1) (n_u0 := 60) (a_u0 := ou)]
    simp (disch := omega) only [Option.bind_some, Option.toList_some, Option.toList_none, List.append_nil, List.cons_append, List.nil_append, ↓reduceIte, true_or, or_true, Nat.reduceAdd, Nat.add_assoc, f_ge, t_le, t_lt, f_lt, f_l0, t_0l, t_pl, t_eq, f_eq, f_e0, i10, i01, ib_nI, nI_clamp, nI_add, ad10, ad18, ad26, ad34, ad42, ad47, ad52, ad59, ad107, ad117, ml8, mr8, ml5, ml10, nI_1]
theorem lw18 : hs_lsw 18 [(26, 72), (34, 82), (35, 104), (36, 126)] 148 = 148 := by decide
theorem lw26 : hs_lsw 26 [(26, 72), (34, 82), (35, 104), (36, 126)] 148 = 72 := by decide
theorem lw34 : hs_lsw 34 [(26, 72), (34, 82), (35, 104), (36, 126)] 148 = 82 := by decide
theorem lw35 : hs_lsw 35 [(26, 72), (34, 82), (35, 104), (36, 126)] 148 = 104 := by decide
theorem lw36 : hs_lsw 36 [(26, 72), (34, 82), (35, 104), (36, 126)] 148 = 126 := by decide
theorem x181 (hL : LE R u t p) (hR : RX n np nr nl nb nq r ww I L t p) (hr : ro < 60) (h8 : (r (w + 6) = 2 ∧ I (p + 2) ro = 18) ∨ (r (w + 6) = 0 ∧ I (p + 2) ro = 26 ∧ ∃ l, l < nl ∧ r (w + 1) = nI l ∧ I (p + 3) ro = nI l) ∨ (r (w + 6) = 1 ∧ ∃ j, j < n ∧ r (w + 1) = nI j ∧ I (p + 3) ro = nI j ∧ I (p + 4) ro = r (w + 2) ∧ ((r (w + 7) = 60 ∧ I (p + 2) ro = 34) ∨ (r (w + 7) = 62 ∧ I (p + 2) ro = 35) ∨ (r (w + 7) = 61 ∧ I (p + 2) ro = 36)))) : hs_C scr (d + 2) 181 [.ref u, .int (nI ro)] (hs_S0, I, L, R) = some (some (.int (if soA n r w = true then 1 else 0)), (hs_S0, I, L, R)) := by
  obtain ⟨o2, r7, r8, o4, o5, ht, hp, hu⟩ := hL
  have hn := hR.1.1
  have hnl := hR.2.2.2.1.1
  have hD := hR.2.2.2.2.2.1
  have hh := hR.1.2.2.2
  have i20 : ((2 : Int32) = 0) = False := eq_false (by decide)
  have i12 : ((1 : Int32) = 2) = False := eq_false (by decide)
  have i02 : ((0 : Int32) = 2) = False := eq_false (by decide)
  have i60 : ((61 : Int32) = 60) = False := eq_false (by decide)
  have i61 : ((61 : Int32) = 62) = False := eq_false (by decide)
  have i62 : ((62 : Int32) = 60) = False := eq_false (by decide)
  rw [e181, b181_0 o2 r7 o5]
  rcases h8 with ⟨e6, e2⟩ | ⟨e6, e2, l, hl, e1, e3⟩ | ⟨e6, j, hj, e1, e3, e4, h7⟩
  · simp (disch := omega) only [Option.bind_some, Option.toList_some, Option.toList_none, List.append_nil, List.cons_append, List.nil_append, ↓reduceIte, true_or, or_true, Nat.reduceAdd, Nat.add_assoc, f_ge, t_le, t_lt, f_lt, f_l0, t_0l, t_pl, t_eq, f_eq, f_e0, i10, i01, ib_nI, nI_clamp, nI_add, ad10, ad18, ad26, ad34, ad42, ad47, ad52, ad59, ad107, ad117, ml8, mr8, ml5, ml10, e2]
    rw [lw18, b181_148 o2 r8 o4, hD.2.2.2.1]
    simp only [soA, e6, ↓reduceIte, decide_eq_true_eq]
    rcases hD.2.2.2.2 with g | g
    · simp only [g, ↓reduceIte, true_or, i01]
    · simp only [g, ↓reduceIte, or_true]
  · simp (disch := omega) only [Option.bind_some, Option.toList_some, Option.toList_none, List.append_nil, List.cons_append, List.nil_append, ↓reduceIte, true_or, or_true, Nat.reduceAdd, Nat.add_assoc, f_ge, t_le, t_lt, f_lt, f_l0, t_0l, t_pl, t_eq, f_eq, f_e0, i10, i01, ib_nI, nI_clamp, nI_add, ad10, ad18, ad26, ad34, ad42, ad47, ad52, ad59, ad107, ad117, ml8, mr8, ml5, ml10, e2]
    rw [lw26, b181_72 o2 r8 o4]
    simp (disch := omega) only [Option.bind_some, Option.toList_some, Option.toList_none, List.append_nil, List.cons_append, List.nil_append, ↓reduceIte, true_or, or_true, Nat.reduceAdd, Nat.add_assoc, f_ge, t_le, t_lt, f_lt, f_l0, t_0l, t_pl, t_eq, f_eq, f_e0, i10, i01, ib_nI, nI_clamp, nI_add, ad10, ad18, ad26, ad34, ad42, ad47, ad52, ad59, ad107, ad117, ml8, mr8, ml5, ml10, e3, x121z (scr := scr) (d := d) (L := L) (R := R) o4 hR.1 hR.2.2.2.1 hD (show l < 6 by omega), b181_81, soA, e6, i02, e1, decide_eq_true_eq]
    by_cases g : cn (qV r l) n = 0
    · simp only [g, ↓reduceIte, or_true]
    · simp only [g, ↓reduceIte, true_or]
  · have e6' := (hh j hj).1
    rcases h7 with ⟨h7, e2⟩ | ⟨h7, e2⟩ | ⟨h7, e2⟩
    · simp (disch := omega) only [Option.bind_some, Option.toList_some, Option.toList_none, List.append_nil, List.cons_append, List.nil_append, ↓reduceIte, true_or, or_true, Nat.reduceAdd, Nat.add_assoc, f_ge, t_le, t_lt, f_lt, f_l0, t_0l, t_pl, t_eq, f_eq, f_e0, i10, i01, ib_nI, nI_clamp, nI_add, ad10, ad18, ad26, ad34, ad42, ad47, ad52, ad59, ad107, ad117, ml8, mr8, ml5, ml10, e2]
      rw [lw34, b181_82 o2 r8 o4]
      simp (disch := omega) only [Option.bind_some, Option.toList_some, Option.toList_none, List.append_nil, List.cons_append, List.nil_append, ↓reduceIte, true_or, or_true, Nat.reduceAdd, Nat.add_assoc, f_ge, t_le, t_lt, f_lt, f_l0, t_0l, t_pl, t_eq, f_eq, f_e0, i10, i01, ib_nI, nI_clamp, nI_add, ad10, ad18, ad26, ad34, ad42, ad47, ad52, ad59, ad107, ad117, ml8, mr8, ml5, ml10, e3, e4, e6', soA, e6, h7, e1, i12, i10, decide_eq_true_eq]
      by_cases g : r (w + 2) ≤ r (10 + j)
      · simp only [g, (i32_nlt _ _).mpr g, ↓reduceIte, b181_103, true_or]
      · simp only [g, Classical.byContradiction (fun q => g ((i32_nlt _ _).mp q)), ↓reduceIte, b181_103, or_true]
    · simp (disch := omega) only [Option.bind_some, Option.toList_some, Option.toList_none, List.append_nil, List.cons_append, List.nil_append, ↓reduceIte, true_or, or_true, Nat.reduceAdd, Nat.add_assoc, f_ge, t_le, t_lt, f_lt, f_l0, t_0l, t_pl, t_eq, f_eq, f_e0, i10, i01, ib_nI, nI_clamp, nI_add, ad10, ad18, ad26, ad34, ad42, ad47, ad52, ad59, ad107, ad117, ml8, mr8, ml5, ml10, e2]
      rw [lw35, b181_104 o2 r8 o4]
      simp (disch := omega) only [Option.bind_some, Option.toList_some, Option.toList_none, List.append_nil, List.cons_append, List.nil_append, ↓reduceIte, true_or, or_true, Nat.reduceAdd, Nat.add_assoc, f_ge, t_le, t_lt, f_lt, f_l0, t_0l, t_pl, t_eq, f_eq, f_e0, i10, i01, ib_nI, nI_clamp, nI_add, ad10, ad18, ad26, ad34, ad42, ad47, ad52, ad59, ad107, ad117, ml8, mr8, ml5, ml10, e3, e4, e6', soA, e6, h7, e1, i12, i10, i62, decide_eq_true_eq]
      by_cases g : r (10 + j) ≤ r (w + 2)
      · simp only [g, (i32_nlt _ _).mpr g, ↓reduceIte, b181_125, true_or]
      · simp only [g, Classical.byContradiction (fun q => g ((i32_nlt _ _).mp q)), ↓reduceIte, b181_125, or_true]
    · simp (disch := omega) only [Option.bind_some, Option.toList_some, Option.toList_none, List.append_nil, List.cons_append, List.nil_append, ↓reduceIte, true_or, or_true, Nat.reduceAdd, Nat.add_assoc, f_ge, t_le, t_lt, f_lt, f_l0, t_0l, t_pl, t_eq, f_eq, f_e0, i10, i01, ib_nI, nI_clamp, nI_add, ad10, ad18, ad26, ad34, ad42, ad47, ad52, ad59, ad107, ad117, ml8, mr8, ml5, ml10, e2]
      rw [lw36, b181_126 o2 r8 o4]
      simp (disch := omega) only [Option.bind_some, Option.toList_some, Option.toList_none, List.append_nil, List.cons_append, List.nil_append, ↓reduceIte, true_or, or_true, Nat.reduceAdd, Nat.add_assoc, f_ge, t_le, t_lt, f_lt, f_l0, t_0l, t_pl, t_eq, f_eq, f_e0, i10, i01, ib_nI, nI_clamp, nI_add, ad10, ad18, ad26, ad34, ad42, ad47, ad52, ad59, ad107, ad117, ml8, mr8, ml5, ml10, e3, e4, e6', soA, e6, h7, e1, i12, i10, i60, i61, decide_eq_true_eq]
      by_cases g : r (10 + j) = r (w + 2)
      · simp only [g, ↓reduceIte, b181_147, or_true]
      · simp only [g, ↓reduceIte, b181_147, true_or]
theorem x180w (hL : LE R u t p) (hr : ro < 60) (p1 : I (p + 1) ro = kw 8) (p5 : I (p + 5) ro = nI q) (hq : q < 60) {so : Bool} (h : hs_C scr d 181 [.ref u, .int (nI ro)] (hs_S0, I, L, R) = some (some (.int (if so = true then 1 else 0)), (hs_S0, I, L, R))) : hs_C scr (d + 1) 180 [.ref u, .int (nI ro)] (hs_S0, I, L, R) = some (some (.int (nI (if so = true then ro + 1 else q + 1))), (hs_S0, I, L, R)) := by
  obtain ⟨o2, r7, r8, o4, o5, ht, hp, hu⟩ := hL
  rw [e180, b180_0 o2 r7 o5]
  simp (disch := omega) only [Option.bind_some, Option.toList_some, Option.toList_none, List.append_nil, List.cons_append, List.nil_append, ↓reduceIte, true_or, or_true, Nat.reduceAdd, Nat.add_assoc, f_ge, t_le, t_lt, f_lt, f_l0, t_0l, t_pl, t_eq, f_eq, f_e0, i10, i01, ib_nI, nI_clamp, nI_add, ad10, ad18, ad26, ad34, ad42, ad47, ad52, ad59, ad107, ad117, ml8, mr8, ml5, ml10, p1]
  rw [sw180_8, b180_52 o2, h]
  simp only [Option.bind_some, Option.toList_some, Option.toList_none, List.append_nil, List.cons_append, List.nil_append, ↓reduceIte, true_or, or_true, Nat.reduceAdd, Nat.add_assoc]
  rw [b180_57 o2 r7 o5]
  cases so
  · simp (disch := omega) only [Option.bind_some, Option.toList_some, Option.toList_none, List.append_nil, List.cons_append, List.nil_append, ↓reduceIte, true_or, or_true, Nat.reduceAdd, Nat.add_assoc, f_ge, t_le, t_lt, f_lt, f_l0, t_0l, t_pl, t_eq, f_eq, f_e0, i10, i01, ib_nI, nI_clamp, nI_add, ad10, ad18, ad26, ad34, ad42, ad47, ad52, ad59, ad107, ad117, ml8, mr8, ml5, ml10, p5, nI_1, b180_77, Bool.false_eq_true]
  · simp (disch := omega) only [Option.bind_some, Option.toList_some, Option.toList_none, List.append_nil, List.cons_append, List.nil_append, ↓reduceIte, true_or, or_true, Nat.reduceAdd, Nat.add_assoc, f_ge, t_le, t_lt, f_lt, f_l0, t_0l, t_pl, t_eq, f_eq, f_e0, i10, i01, ib_nI, nI_clamp, nI_add, ad10, ad18, ad26, ad34, ad42, ad47, ad52, ad59, ad107, ad117, ml8, mr8, ml5, ml10, p5, nI_1, b180_77]
end XB
