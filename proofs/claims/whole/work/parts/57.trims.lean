/-! sets of hairs -/
theorem q_tb0 : ((List.range 1024).all fun m => (List.range 10).all fun k => q321 (nI m) k == m.testBit k) = true := by decide +kernel
theorem q_tb {m k : Nat} (hm : m < 1024) (hk : k < 10) : q321 (nI m) k = m.testBit k := by
  have := List.all_eq_true.mp (List.all_eq_true.mp q_tb0 m (List.mem_range.mpr hm)) k (List.mem_range.mpr hk)
  exact eq_of_beq this
/-- the weight of a set -/
def Wt (a : Nat → Nat) (n m : Nat) : Nat := smN (fun k => if m.testBit k = true then a k else 0) n
theorem smN_cg {f g : Nat → Nat} : ∀ {n}, (∀ k, k < n → f k = g k) → smN f n = smN g n
  | 0, _ => rfl
  | n + 1, h => by rw [smN, smN, smN_cg (fun k hk => h k (by omega)), h n (by omega)]
theorem Wt_lo {a : Nat → Nat} {h m : Nat} (hm : m < 2 ^ h) : Wt a (h + 1) m = Wt a h m := by
  unfold Wt; rw [smN, Nat.testBit_lt_two_pow hm]; simp
theorem Wt_hi {a : Nat → Nat} {h m : Nat} (hm : m < 2 ^ h) : Wt a (h + 1) (2 ^ h + m) = Wt a h m + a h := by
  unfold Wt
  rw [smN, Nat.testBit_two_pow_add_eq, Nat.testBit_lt_two_pow hm, smN_cg (g := fun k => if m.testBit k = true then a k else 0) (fun k hk => by rw [Nat.testBit_two_pow_add_gt hk])]
  simp
theorem Wt_le {a : Nat → Nat} {n m : Nat} (ha : ∀ k, k < n → a k ≤ 99) : Wt a n m ≤ 99 * n := smN_le (fun k hk => by split; exact ha k hk; omega)
theorem Wt_co {a : Nat → Nat} : ∀ {n m : Nat}, m < 2 ^ n → Wt a n m + Wt a n (2 ^ n - 1 - m) = smN a n
  | 0, m, h => rfl
  | n + 1, m, h => by
    have hp : 2 ^ (n + 1) = 2 ^ n + 2 ^ n := by rw [Nat.pow_succ]; omega
    have hpos : 0 < 2 ^ n := Nat.two_pow_pos n
    by_cases q : m < 2 ^ n
    · have ih := Wt_co (a := a) q
      rw [Wt_lo q, show 2 ^ (n + 1) - 1 - m = 2 ^ n + (2 ^ n - 1 - m) by omega, Wt_hi (by omega), smN]; omega
    · obtain ⟨m', rfl⟩ : ∃ m', m = 2 ^ n + m' := ⟨m - 2 ^ n, by omega⟩
      have hm' : m' < 2 ^ n := by omega
      have ih := Wt_co (a := a) hm'
      rw [Wt_hi hm', show 2 ^ (n + 1) - 1 - (2 ^ n + m') = 2 ^ n - 1 - m' by omega, Wt_lo (by omega), smN]; omega
theorem co_bit : ∀ n, n ≤ 8 → ∀ s, s < 2 ^ n → nI (2 ^ n - 1) &&& (nI s ^^^ (-1)) = nI (2 ^ n - 1 - s) := by decide +kernel
theorem f1024 {l : Nat} (h : l < 1024) : hs_ib (nI l) 1024 = true := ib_nI h (by omega)
theorem p2 {n : Nat} (h : n ≤ 8) : 2 ^ n ≤ 256 := Nat.pow_le_pow_right (by omega) h
/-- how many are in a set -/
def szN (m : Nat) : Nat := cn (q321 (nI m)) 10
section TM
variable {scr : List Int32} {d t rt st pt qt n np nr nl nb nq lp : Nat} {c : Nat → Int32} {a : Nat → Nat} {I I' J : Nat → Nat → Int32} {L L' : Nat → Nat → Int64} {R : Nat → Nat → Nat} {S : List hs_S}
theorem x144_in {h : Nat} {x2 : Int32} (o10 : ok10 hs_S0 R 2) (o1 : ok1 hs_S0 R (rt + 5)) (hrt : rt = 18 ∨ rt = 34) (hh : h < 8) (hl : I (rt + 6) h = nI (a h)) (h0 : ∀ m, m < 2 ^ h → I 17 m = nI (Wt a h m)) : ∃ I', hs_R scr d 144 40 [some (.ref 2), some (.ref (rt + 5)), some (.int x2), some (.int (nI h)), some (.int (nI (2 ^ h))), some (.int (nI 0))] [] (hs_S0, I, L, R) = hs_R scr d 144 24 [some (.ref 2), some (.ref (rt + 5)), some (.int x2), some (.int (nI (h + 1))), some (.int (nI (2 ^ h))), some (.int (nI (2 ^ h)))] [] (hs_S0, I', L, R) ∧ (∀ k, k ≠ 17 → I' k = I k) ∧ (∀ m, m < 2 ^ (h + 1) → I' 17 m = nI (Wt a (h + 1) m)) := by
  have hb : 2 ^ h ≤ 128 := Nat.pow_le_pow_right (i := h) (j := 7) (by omega) (by omega)
  have hp : 2 ^ (h + 1) = 2 ^ h + 2 ^ h := by rw [Nat.pow_succ]; omega
  have hu := fo_up (n := 2 ^ h) (g := fun i I => hs_u I 17 (2 ^ h + i) (nI (Wt a h i + a h))) (head := fun i I => hs_R scr d 144 40 [some (.ref 2), some (.ref (rt + 5)), some (.int x2), some (.int (nI h)), some (.int (nI (2 ^ h))), some (.int (nI i))] [] (hs_S0, I, L, R)) (P := fun i I' => (∀ k, k ≠ 17 → I' k = I k) ∧ (∀ m, m < 2 ^ h + i → I' 17 m = nI (Wt a (h + 1) m))) (fun i J hi hP => by
    obtain ⟨p1, p2⟩ := hP
    refine ⟨?_, fun k hk => by rw [hu_row _ _ hk, p1 k hk], fun m hm => ?_⟩
    · show hs_R scr d 144 40 _ _ _ = hs_R scr d 144 40 _ _ _
      have e1 : J (rt + 6) h = nI (a h) := by rw [p1 _ (by omega)]; exact hl
      have e2 : J 17 i = nI (Wt a h i) := by rw [p2 i (by omega), Wt_lo hi]
      rw [b144_40 (o_t0 := o10) (o_t1 := o1)]
      simp (disch := omega) only [Option.bind_some, Option.toList_some, Option.toList_none, List.append_nil, List.cons_append, List.nil_append, ↓reduceIte, true_or, or_true, Nat.reduceAdd, Nat.add_assoc, f_ge, t_le, t_lt, f_lt, f_l0, t_0l, t_pl, t_eq, f_eq, f_e0, i10, i01, ib_nI, nI_clamp, nI_add, ad10, ad18, ad26, ad34, ad42, ad47, ad52, ad59, ad107, ad117, ml8, mr8, ml5, ml10, e1, e2, nI_1]
    · by_cases q : m = 2 ^ h + i
      · subst q; rw [hu_same, Wt_hi hi]
      · rw [hu_ne _ _ q]; exact p2 m (by omega)) (s := I) ⟨fun _ _ => rfl, fun m hm => by rw [h0 m hm, Wt_lo hm]⟩ (2 ^ h) (Nat.le_refl _)
  refine ⟨_, hu.1.trans ?_, hu.2.1, fun m hm => hu.2.2 m (by omega)⟩
  show hs_R scr d 144 40 _ _ _ = _
  rw [b144_40 (o_t0 := o10) (o_t1 := o1), if_pos (nI_le (Nat.le_refl _) (by omega)), nI_1]
theorem x144 (o10 : ok10 hs_S0 R 2) (r10_8 : R 2 8 = rt) (o4 : ok4 hs_S0 R rt) (hrt : rt = 18 ∨ rt = 34) (hH : RH n c I rt) (ha : ∀ k, k < n → c (10 + k) = nI (a k)) : ∃ I', hs_C scr d 144 [.ref 2] (hs_S0, I, L, R) = some (some (.int (nI (2 ^ n))), (hs_S0, I', L, R)) ∧ (∀ k, k ≠ 17 → I' k = I k) ∧ (∀ m, m < 2 ^ n → I' 17 m = nI (Wt a n m)) := by
  have o1 : ok1 hs_S0 R (rt + 5) := o4.2.2.2.2.2.1
  obtain ⟨hn, -, hx0, hh⟩ := id hH
  have main : ∀ h, h ≤ n → ∃ I' q1 q2, hs_R scr d 144 24 [some (.ref 2), some (.ref (rt + 5)), some (.int (nI (2 ^ n))), some (.int (nI 0)), none, none] [] (hs_S0, hs_u I 17 0 0, L, R) = hs_R scr d 144 24 [some (.ref 2), some (.ref (rt + 5)), some (.int (nI (2 ^ n))), some (.int (nI h)), q1, q2] [] (hs_S0, I', L, R) ∧ (∀ k, k ≠ 17 → I' k = I k) ∧ (∀ m, m < 2 ^ h → I' 17 m = nI (Wt a h m)) := by
    intro h
    induction h with
    | zero => exact fun _ => ⟨_, none, none, rfl, fun k hk => hu_row _ _ hk, fun m hm => by
        obtain rfl : m = 0 := by omega
        rw [hu_same]; rfl⟩
    | succ h ih =>
      intro hle
      obtain ⟨I1, q1, q2, e1, f1, f2⟩ := ih (by omega)
      obtain ⟨I2, e2, g1, g2⟩ := x144_in (scr := scr) (d := d) (I := I1) (L := L) (a := a) (h := h) (x2 := nI (2 ^ n)) o10 o1 hrt (by omega) (by rw [f1 _ (by omega), (hh h (by omega)).1]; exact ha h (by omega)) f2
      refine ⟨I2, some (.int (nI (2 ^ h))), some (.int (nI (2 ^ h))), e1.trans ?_, fun k hk => by rw [g1 k hk, f1 k hk], g2⟩
      have hx : I1 (rt + 5) 4 = nI n := by rw [f1 _ (by omega)]; exact hx0
      rw [b144_24 (o_t1 := o1), hx, if_neg (nI_ge (by omega) (by omega)), sh1 h (by omega)]
      exact e2
  obtain ⟨I', q1, q2, e1, f1, f2⟩ := main n (Nat.le_refl _)
  refine ⟨I', ?_, f1, f2⟩
  rw [e144, b144_0 o10 r10_8 o4, hx0, sh1 n (by omega)]
  refine e1.trans ?_
  have hx : I' (rt + 5) 4 = nI n := by rw [f1 _ (by omega)]; exact hx0
  rw [b144_24 (o_t1 := o1), hx, if_pos (nI_le (Nat.le_refl _) (by omega))]
theorem m326 {m : Nat} (o11 : ok11 hs_S0 R 140) (hc0 : I 145 0 = nI n) (hn : n ≤ 8) (ha : ∀ k, k < n → I 145 (10 + k) = nI (a k)) (hm : m < 1024) : hs_C scr (d + 1) 326 [.ref 140, .int (nI m)] (hs_S0, I, L, R) = some (some (.int (nI (Wt a n m))), (hs_S0, I, L, R)) := by
  have hl := fo_upT (n := n) (g := fun k s => s + (if m.testBit k = true then nI (a k) else 0)) (head := fun i s => hs_R scr (d + 1) 326 4 [some (.ref 140), some (.int (nI m)), some (.int s), some (.int (nI i))] [] (hs_S0, I, L, R)) (fun i s hi => by
    show hs_R scr (d + 1) 326 4 _ _ _ = hs_R scr (d + 1) 326 4 _ _ _
    rw [b326_4 o11]
    simp (disch := omega) only [Option.bind_some, Option.toList_some, Option.toList_none, List.append_nil, List.cons_append, List.nil_append, ↓reduceIte, true_or, or_true, Nat.reduceAdd, Nat.add_assoc, f_ge, t_le, t_lt, f_lt, f_l0, t_0l, t_pl, t_eq, f_eq, f_e0, i10, i01, ib_nI, nI_clamp, nI_add, ad10, ad18, ad26, ad34, ad42, ad47, ad52, ad59, ad107, ad117, ml8, mr8, ml5, ml10, hu_same, hu_row, hu_at, hu_hu, hc0, nI_1, m219, q_tb hm (show i < 10 by omega), e326, b326_20 o11, b326_36, ha i hi]
    by_cases g : m.testBit i = true
    · simp only [g, ↓reduceIte, i10]
    · simp only [g, ↓reduceIte, Bool.false_eq_true]) 0
  rw [nI_0, fo_sm (g := fun k => if m.testBit k = true then nI (a k) else 0) (f := fun k => if m.testBit k = true then a k else 0) (fun k hk => by split <;> rfl)] at hl
  rw [e326, b326_0]
  refine hl.trans ?_
  show hs_R scr (d + 1) 326 4 _ _ _ = _
  rw [b326_4 o11]
  simp (disch := omega) only [Option.bind_some, Option.toList_some, Option.toList_none, List.append_nil, List.cons_append, List.nil_append, ↓reduceIte, true_or, or_true, Nat.reduceAdd, Nat.add_assoc, f_ge, t_le, t_lt, f_lt, f_l0, t_0l, t_pl, t_eq, f_eq, f_e0, i10, i01, ib_nI, nI_clamp, nI_add, ad10, ad18, ad26, ad34, ad42, ad47, ad52, ad59, ad107, ad117, ml8, mr8, ml5, ml10, hu_same, hu_row, hu_at, hu_hu, hc0]
  rfl
/-- the set that is best: few, then low -/
def bst (P : Nat → Prop) (N b : Nat) : Prop := b < N ∧ P b ∧ ∀ m, m < N → P m → szN b < szN m ∨ (szN b = szN m ∧ b ≤ m)
theorem bst_u {P : Nat → Prop} {N b b' : Nat} (h : bst P N b) (h' : bst P N b') : b = b' := by
  have h1 := h.2.2 b' h'.1 h'.2.1
  have h2 := h'.2.2 b h.1 h.2.1
  omega
end TM
