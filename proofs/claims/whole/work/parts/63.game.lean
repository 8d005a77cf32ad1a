/-! the game: the class -/
def iI (z : Int) : Int32 := Int32.ofInt z
theorem iI_n (a : Nat) : nI a = iI a := rfl
theorem iI_add (a b : Int) : iI a + iI b = iI (a + b) := (Int32.ofInt_add a b).symm
theorem iI_sub (a b : Int) : iI a - iI b = iI (a - b) := (Int32.ofInt_sub a b).symm
theorem iI_mul (a b : Int) : iI a * iI b = iI (a * b) := (Int32.ofInt_mul a b).symm
theorem iI_ti {z : Int} (h1 : -2147483648 ≤ z) (h2 : z < 2147483648) : (iI z).toInt = z := Int32.toInt_ofInt_of_le h1 h2
theorem iI_lt {a b : Int} (ha : -100000 ≤ a ∧ a ≤ 100000) (hb : -100000 ≤ b ∧ b ≤ 100000) : (iI a < iI b) ↔ a < b := by
  rw [Int32.lt_iff_toInt_lt, iI_ti (by omega) (by omega), iI_ti (by omega) (by omega)]
theorem iI_eq {a b : Int} (ha : -100000 ≤ a ∧ a ≤ 100000) (hb : -100000 ≤ b ∧ b ≤ 100000) : (iI a = iI b) ↔ a = b := by
  rw [← Int32.toInt_inj, iI_ti (by omega) (by omega), iI_ti (by omega) (by omega)]
def sidE (n h : Nat) : Int := if h < n / 2 then 1 else -1
def sdS (m : Nat) (e : Nat → Nat) : Nat → Int
  | 0 => 0
  | n + 1 => sdS m e n + sidE m n * e n
/-- what the lengths are worth -/
def sdE (n : Nat) (e : Nat → Nat) : Int := sdS n e n
theorem sdS_cg {m : Nat} {e e' : Nat → Nat} : ∀ {n}, (∀ h, h < n → e h = e' h) → sdS m e n = sdS m e' n
  | 0, _ => rfl
  | n + 1, h => by rw [sdS, sdS, sdS_cg (fun k hk => h k (by omega)), h n (by omega)]
theorem sdS_b {m : Nat} {e : Nat → Nat} : ∀ {n}, (∀ h, h < n → e h ≤ 99) → -(99 * n : Int) ≤ sdS m e n ∧ sdS m e n ≤ 99 * n
  | 0, _ => by simp [sdS]
  | n + 1, h => by
    have h1 := sdS_b (m := m) (e := e) (n := n) (fun k hk => h k (by omega))
    have h2 := h n (by omega)
    rw [sdS]
    unfold sidE
    split <;> omega
theorem sdS_up {m h v : Nat} {e : Nat → Nat} : ∀ {n}, h < n → sdS m (up e h v) n = sdS m e n + sidE m h * ((v : Int) - e h)
  | 0, q => by omega
  | n + 1, q => by
    rw [sdS, sdS]
    by_cases g : h = n
    · subst g
      rw [up_s, sdS_cg (e' := e) (fun k hk => up_n _ _ (by omega))]
      unfold sidE; split <;> omega
    · rw [sdS_up (by omega), up_n _ _ (by omega)]
      unfold sidE; split <;> split <;> omega
/-- the better of two, by whose turn it is -/
def btr (t : Nat) (b v : Int) : Int := if t % 2 = 0 then (if b < v then v else b) else (if v < b then v else b)
def vlG (n T : Nat) (gr : Nat → Nat) : Nat → (Nat → Nat) → Int
  | 0, e => sdE n e
  | r + 1, e => fo (fun h b => btr (T - (r + 1)) b (vlG n T gr r (up e h (min 99 ((r + 1) * gr h))))) n (vlG n T gr r e)
theorem up_99 {n h v : Nat} {e : Nat → Nat} (he : ∀ k, k < n → e k ≤ 99) (hv : v ≤ 99) : ∀ k, k < n → up e h v k ≤ 99 := by
  intro k hk; unfold up; split
  · exact hv
  · exact he k hk
theorem fo_P {α : Type} {g : Nat → α → α} {P : α → Prop} {s : α} (h0 : P s) : ∀ {n}, (∀ i b, i < n → P b → P (g i b)) → P (fo g n s)
  | 0, _ => h0
  | n + 1, h => h n _ (by omega) (fo_P h0 (fun i b hi => h i b (by omega)))
theorem vlG_b {n T : Nat} {gr : Nat → Nat} (hn : n ≤ 8) : ∀ r e, (∀ k, k < n → e k ≤ 99) → -792 ≤ vlG n T gr r e ∧ vlG n T gr r e ≤ 792
  | 0, e, he => by
    have := sdS_b (m := n) he
    show -792 ≤ sdS n e n ∧ sdS n e n ≤ 792
    omega
  | r + 1, e, he => by
    refine fo_P (P := fun b => -792 ≤ b ∧ b ≤ 792) (vlG_b hn r e he) (fun h b hh hb => ?_)
    have := vlG_b (T := T) (gr := gr) hn r (up e h (min 99 ((r + 1) * gr h))) (up_99 he (by omega))
    show -792 ≤ btr _ _ _ ∧ btr _ _ _ ≤ 792
    unfold btr
    split <;> split <;> omega
theorem hu_bk {α : Type} (m : Nat → Nat → α) {k f : Nat} {x y : α} (h : m k f = y) : hs_u (hs_u m k f x) k f y = m := by rw [hu_hu, hu_self _ h]
section GX
variable {scr : List Int32} {d t rt st pt qt n np nr nl nb nq lp k l m p q T : Nat} {c : Nat → Int32} {e : Nat → Nat} {I I' J : Nat → Nat → Int32} {L L' : Nat → Nat → Int64} {R : Nat → Nat → Nat} {S : List hs_S}
theorem x133 (o4 : ok4 hs_S0 R t) (h : RH n c I t) (h2 : RU nr c I t) (hl : lpc nr lp c) (hk : k < n) : hs_C scr (d + 1) 133 [.ref t, .int (nI k)] (hs_S0, I, L, R) = some (some (.int (nI ((c (18 + k)).toNatClampNeg + lp))), (hs_S0, I, L, R)) := by
  obtain ⟨hn, -, hx0, hh⟩ := h
  obtain ⟨e6, e7, e8, e9, hb1, hb2, -⟩ := hh k hk
  have := bd_tn hb2 (by omega)
  simp (disch := omega) only [Option.bind_some, Option.toList_some, Option.toList_none, List.append_nil, List.cons_append, List.nil_append, ↓reduceIte, true_or, or_true, Nat.reduceAdd, Nat.add_assoc, f_ge, t_le, t_lt, f_lt, f_l0, t_0l, t_pl, t_eq, f_eq, f_e0, i10, i01, ib_nI, nI_clamp, nI_add, ad10, ad18, ad26, ad34, ad42, ad47, ad52, ad59, ad107, ad117, ml8, mr8, ml5, ml10, hu_same, hu_row, hu_at, hu_hu, e133, b133_0 o4, b133_13, x101 o4 h2 hl, e7]
  rw [this.1]
  rw [nI_add, nI_clamp (by omega)]
/-- the class's board -/
def bd0 (rt n nr lp T : Nat) (c : Nat → Int32) (e : Nat → Nat) (I : Nat → Nat → Int32) (R : Nat → Nat → Nat) : Prop := ok0 hs_S0 R 15 ∧ R 15 1 = rt ∧ ok4 hs_S0 R rt ∧ RH n c I rt ∧ RU nr c I rt ∧ lpc nr lp c ∧ I 15 2 = nI T ∧ T ≤ 3 ∧ (rt = 18 ∨ rt = 34) ∧ ∀ h, h < n → I 16 h = nI (e h) ∧ e h ≤ 99
theorem bd0_u {h v : Nat} (hb : bd0 rt n nr lp T c e I R) (hh : h < n) (hv : v ≤ 99) : bd0 rt n nr lp T c (up e h v) (hs_u I 16 h (nI v)) R := by
  obtain ⟨a1, a2, a3, a4, a5, a6, a7, a8, a9, a10⟩ := hb
  refine ⟨a1, a2, a3, RH_cg a4 (fun _ _ => rfl) (by rw [hu_row _ _ (by omega)]) (by rw [hu_row _ _ (by omega)]) (by rw [hu_row _ _ (by omega)]) (by rw [hu_row _ _ (by omega)]) (by rw [hu_row _ _ (by omega)]), RU_cg a5 (fun _ _ => rfl) (by rw [hu_row _ _ (by omega)]) (by rw [hu_row _ _ (by omega)]) (by rw [hu_row _ _ (by omega)]), a6, by rw [hu_row _ _ (by omega)]; exact a7, a8, a9, fun k hk => ?_⟩
  by_cases g : k = h
  · subst g; rw [hu_same, up_s]; exact ⟨rfl, hv⟩
  · rw [hu_ne _ _ g, up_n _ _ g]; exact a10 k hk
theorem x160 {h : Nat} (hb : bd0 rt n nr lp T c e I R) (hh : h < n) : hs_C scr d 160 [.ref 15, .int (nI h)] (hs_S0, I, L, R) = some (some (.int (iI (sidE n h))), (hs_S0, I, L, R)) := by
  obtain ⟨o0, r0_1, o4, hH, -⟩ := hb
  have hn := hH.1
  have hx := hH.2.2.1
  have hdiv : nI n / 2 = nI (n / 2) := pk_div (d := 2) (by omega) (by omega) (by omega)
  rw [e160, b160_0 o0 r0_1 o4, hx, hdiv]
  unfold sidE
  by_cases g : h < n / 2
  · rw [if_neg (nI_ge g (by omega)), if_pos g, b160_21]; rfl
  · rw [if_pos (nI_le (by omega) (by omega)), if_neg g, b160_21]; rfl
theorem x162 {h r : Nat} {s : Int} (ih : ∀ I' e', bd0 rt n nr lp T c e' I' R → ∀ s', s' = sdE n e' → hs_C scr d 161 [.ref 15, .int (nI (T - r)), .int (iI s')] (hs_S0, I', L, R) = some (some (.int (iI (vlG n T (fun k => (c (18 + k)).toNatClampNeg + lp) r e'))), (hs_S0, I', L, R))) (hd : ∃ d', d = d' + 1) (hr : r + 1 ≤ T) (hb : bd0 rt n nr lp T c e I R) (hs : s = sdE n e) (hh : h < n) : hs_C scr (d + 1) 162 [.ref 15, .int (nI h), .int (nI (T - (r + 1))), .int (iI s)] (hs_S0, I, L, R) = some (some (.int (iI (vlG n T (fun k => (c (18 + k)).toNatClampNeg + lp) r (up e h (min 99 ((r + 1) * ((c (18 + h)).toNatClampNeg + lp))))))), (hs_S0, I, L, R)) := by
  obtain ⟨d', rfl⟩ := hd
  obtain ⟨o0, r0_1, o4, hH, hU, hl, h2, hT, hrt, he⟩ := id hb
  have hn := hH.1
  have hg := (bd_tn (hH.2.2.2 h hh).2.2.2.2.2.1 (by omega)).2
  have hlp := hl.1
  have heh := he h hh
  obtain ⟨v, hv⟩ : ∃ v, v = min 99 ((r + 1) * ((c (18 + h)).toNatClampNeg + lp)) := ⟨_, rfl⟩
  have hv99 : v ≤ 99 := by omega
  have hmul : (r + 1) * ((c (18 + h)).toNatClampNeg + lp) ≤ 3 * 18 := Nat.mul_le_mul (by omega) (by omega)
  have hb' := bd0_u (v := v) hb hh hv99
  have hq : nI T - nI (T - (r + 1)) = nI (r + 1) := by rw [pk_sub (by omega)]; congr 1; omega
  have hs2 : iI s + iI (sidE n h) * (nI v - nI (e h)) = iI (sdE n (up e h v)) := by
    rw [iI_n, iI_n, iI_sub, iI_mul, iI_add, hs]; congr 1
    show sdS n e n + _ = sdS n (up e h v) n
    rw [sdS_up hh]
  have ih2 := ih _ _ hb' _ rfl
  rw [e162, b162_0 o0 r0_1 o4]
  simp (disch := omega) only [Option.bind_some, Option.toList_some, Option.toList_none, List.append_nil, List.cons_append, List.nil_append, ↓reduceIte, true_or, or_true, Nat.reduceAdd, Nat.add_assoc, f_ge, t_le, t_lt, f_lt, f_l0, t_0l, t_pl, t_eq, f_eq, f_e0, i10, i01, ib_nI, nI_clamp, nI_add, ad10, ad18, ad26, ad34, ad42, ad47, ad52, ad59, ad107, ad117, ml8, mr8, ml5, ml10, hu_same, hu_row, hu_at, hu_hu, x133 o4 hH hU hl hh, h2, hq, heh.1]
  rw [b162_29 (o_t0 := o0) (S := hs_S0) (u0 := 16) (n_u0 := 8) rfl]
  simp (disch := omega) only [Option.bind_some, Option.toList_some, Option.toList_none, List.append_nil, List.cons_append, List.nil_append, ↓reduceIte, true_or, or_true, Nat.reduceAdd, Nat.add_assoc, f_ge, t_le, t_lt, f_lt, f_l0, t_0l, t_pl, t_eq, f_eq, f_e0, i10, i01, ib_nI, nI_clamp, nI_add, ad10, ad18, ad26, ad34, ad42, ad47, ad52, ad59, ad107, ad117, ml8, mr8, ml5, ml10, pk_mul, mn99]
  rw [← hv, x160 hb' hh]
  simp (disch := omega) only [Option.bind_some, Option.toList_some, Option.toList_none, List.append_nil, List.cons_append, List.nil_append, ↓reduceIte, true_or, or_true, Nat.reduceAdd, Nat.add_assoc, f_ge, t_le, t_lt, f_lt, f_l0, t_0l, t_pl, t_eq, f_eq, f_e0, i10, i01, ib_nI, nI_clamp, nI_add, ad10, ad18, ad26, ad34, ad42, ad47, ad52, ad59, ad107, ad117, ml8, mr8, ml5, ml10, b162_44 (o_t0 := o0) (o_u0 := o0), hu_same, nI_1, hs2]
  rw [show T - (r + 1) + 1 = T - r by omega, ih2]
  simp (disch := omega) only [Option.bind_some, Option.toList_some, Option.toList_none, List.append_nil, List.cons_append, List.nil_append, ↓reduceIte, true_or, or_true, Nat.reduceAdd, Nat.add_assoc, f_ge, t_le, t_lt, f_lt, f_l0, t_0l, t_pl, t_eq, f_eq, f_e0, i10, i01, ib_nI, nI_clamp, nI_add, ad10, ad18, ad26, ad34, ad42, ad47, ad52, ad59, ad107, ad117, ml8, mr8, ml5, ml10, b162_58 o0, hu_bk _ heh.1]
theorem x161 : ∀ r d I e s, r ≤ T → 2 * r + 1 ≤ d → bd0 rt n nr lp T c e I R → s = sdE n e → hs_C scr d 161 [.ref 15, .int (nI (T - r)), .int (iI s)] (hs_S0, I, L, R) = some (some (.int (iI (vlG n T (fun k => (c (18 + k)).toNatClampNeg + lp) r e))), (hs_S0, I, L, R))
  | 0, d, I, e, s, hr, hd, hb, hs => by
    obtain ⟨d', rfl⟩ : ∃ d', d = d' + 1 := ⟨d - 1, by omega⟩
    obtain ⟨o0, r0_1, o4, hH, hU, hl, h2, hT, hrt, he⟩ := id hb
    rw [e161, b161_0 o0, h2, if_neg (nI_nlt (by omega) (by omega)), hs]; rfl
  | r + 1, d, I, e, s, hr, hd, hb, hs => by
    obtain ⟨d', rfl⟩ : ∃ d', d = d' + 2 := ⟨d - 2, by omega⟩
    obtain ⟨o0, r0_1, o4, hH, hU, hl, h2, hT, hrt, he⟩ := id hb
    have hn := hH.1
    have hx := hH.2.2.1
    have he99 : ∀ k, k < n → e k ≤ 99 := fun k hk => (he k hk).2
    have ih1 := x161 r (d' + 1) I e s (by omega) (by omega) hb hs
    obtain ⟨⟨q, hl2⟩, -⟩ := fo_upP (n := n) (g := fun h b => btr (T - (r + 1)) b (vlG n T (fun k => (c (18 + k)).toNatClampNeg + lp) r (up e h (min 99 ((r + 1) * ((c (18 + h)).toNatClampNeg + lp)))))) (P := fun b => -792 ≤ b ∧ b ≤ 792) (head := fun h b (q : Option Value) => hs_R scr (d' + 2) 161 22 [some (.ref 15), some (.int (nI (T - (r + 1)))), some (.int (iI s)), some (.int (iI b)), some (.int (nI h)), q] [] (hs_S0, I, L, R)) (fun h b q hh hbb => by
      have hvb := vlG_b (T := T) (gr := fun k => (c (18 + k)).toNatClampNeg + lp) hn r (up e h (min 99 ((r + 1) * ((c (18 + h)).toNatClampNeg + lp)))) (up_99 he99 (by omega))
      have hw := x162 (scr := scr) (d := d') (L := L) (h := h) (r := r) (s := s) (fun I' e' hb' s' hs' => x161 r d' I' e' s' (by omega) (by omega) hb' hs') ⟨d' - 1, by omega⟩ hr hb hs hh
      refine ⟨?_, ?_⟩
      · show ∃ q', hs_R scr (d' + 2) 161 22 _ _ _ = hs_R scr (d' + 2) 161 22 [some (.ref 15), some (.int (nI (T - (r + 1)))), some (.int (iI s)), some (.int (iI _)), some (.int (nI (h + 1))), q'] _ _
        rw [b161_22 o0 r0_1 o4]
        simp (disch := omega) only [Option.bind_some, Option.toList_some, Option.toList_none, List.append_nil, List.cons_append, List.nil_append, ↓reduceIte, true_or, or_true, Nat.reduceAdd, Nat.add_assoc, f_ge, t_le, t_lt, f_lt, f_l0, t_0l, t_pl, t_eq, f_eq, f_e0, i10, i01, ib_nI, nI_clamp, nI_add, ad10, ad18, ad26, ad34, ad42, ad47, ad52, ad59, ad107, ad117, ml8, mr8, ml5, ml10, hu_same, hu_row, hu_at, hu_hu, hx, hw, b161_45, rem2, b161_68, nI_1, iI_lt]
        refine ⟨some (.int (iI (vlG n T (fun k => (c (18 + k)).toNatClampNeg + lp) r (up e h (min 99 ((r + 1) * ((c (18 + h)).toNatClampNeg + lp))))))), ?_⟩
        unfold btr
        by_cases g : (T - (r + 1)) % 2 = 0
        · rw [g, if_pos (show nI 0 = 0 from rfl), if_pos rfl]
          split <;> rfl
        · have g' : (T - (r + 1)) % 2 = 1 := by omega
          rw [g', if_neg (show ¬ nI 1 = 0 by decide), if_neg (show ¬ (1 : Nat) = 0 by omega)]
          split <;> rfl
      · show -792 ≤ btr _ _ _ ∧ btr _ _ _ ≤ 792
        unfold btr
        split <;> split <;> omega) (vlG n T (fun k => (c (18 + k)).toNatClampNeg + lp) r e) none (vlG_b hn r e he99) n (Nat.le_refl _)
    rw [nI_0] at hl2
    rw [e161, b161_0 o0, h2, if_pos (nI_lt (by omega) (by omega)), nI_1, show T - (r + 1) + 1 = T - r by omega, ih1]
    simp only [Option.bind_some, Option.toList_some, Option.toList_none, List.append_nil, List.cons_append, List.nil_append, ↓reduceIte, true_or, or_true, Nat.reduceAdd, Nat.add_assoc, b161_18]
    refine hl2.trans ?_
    show hs_R scr (d' + 2) 161 22 _ _ _ = _
    rw [b161_22 o0 r0_1 o4, hx, if_pos (nI_le (Nat.le_refl _) (by omega))]
    rfl
end GX
