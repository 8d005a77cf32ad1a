/-! seen -/
theorem nI_and (a b : Nat) : nI a &&& nI b = nI (a &&& b) := by
  apply Int32.toBitVec_inj.mp
  show BitVec.ofNat 32 a &&& BitVec.ofNat 32 b = BitVec.ofNat 32 (a &&& b)
  apply BitVec.eq_of_toNat_eq
  rw [BitVec.toNat_and, BitVec.toNat_ofNat, BitVec.toNat_ofNat, BitVec.toNat_ofNat, Nat.and_mod_two_pow]
/-- s is the set of those h below n for which P -/
def isS (n : Nat) (P : Nat → Prop) (s : Int32) : Prop := ∃ m, s = nI m ∧ m < 2 ^ n ∧ ∀ h, h < n → (m.testBit h = true ↔ P h)
theorem isS_u {n : Nat} {P : Nat → Prop} {s s' : Int32} (h : isS n P s) (h' : isS n P s') : s = s' := by
  obtain ⟨m, rfl, h1, h2⟩ := h
  obtain ⟨m', rfl, h3, h4⟩ := h'
  congr 1
  apply Nat.eq_of_testBit_eq
  intro i
  by_cases hi : i < n
  · have a := h2 i hi
    have b := h4 i hi
    rw [Bool.eq_iff_iff, a, b]
  · rw [Nat.testBit_lt_two_pow (Nat.lt_of_lt_of_le h1 (Nat.pow_le_pow_right (by omega) (by omega))), Nat.testBit_lt_two_pow (Nat.lt_of_lt_of_le h3 (Nat.pow_le_pow_right (by omega) (by omega)))]
theorem isS_or {g : Nat → Int32} {P : Nat → Prop} : ∀ {n}, n ≤ 30 → (∀ k, k < n → (P k ∧ g k = (1 : Int32) <<< (nI k &&& 31)) ∨ (¬ P k ∧ g k = 0)) → isS n P (fo (fun k s => s ||| g k) n 0)
  | 0, _, _ => ⟨0, rfl, by omega, fun h hh => by omega⟩
  | n + 1, hn, hg => by
    obtain ⟨m, e, h1, h2⟩ := isS_or (g := g) (P := P) (n := n) (by omega) (fun k hk => hg k (by omega))
    have hp : 2 ^ (n + 1) = 2 ^ n + 2 ^ n := by rw [Nat.pow_succ]; omega
    show isS (n + 1) P (fo (fun k s => s ||| g k) n 0 ||| g n)
    rw [e]
    rcases hg n (by omega) with ⟨hP, e2⟩ | ⟨hP, e2⟩
    · refine ⟨m ||| 2 ^ n, by rw [e2, sh1 n (by omega), nI_or], Nat.or_lt_two_pow (by omega) (by omega), fun h hh => ?_⟩
      rw [Nat.testBit_or, Nat.testBit_two_pow]
      by_cases q : h = n
      · subst q; simp [hP]
      · have := h2 h (by omega)
        rw [← this]
        simp [show ¬ n = h by omega]
    · refine ⟨m, by rw [e2, Int32.or_zero], by omega, fun h hh => ?_⟩
      by_cases q : h = n
      · subst q; rw [Nat.testBit_lt_two_pow h1]; simp [hP]
      · exact h2 h (by omega)
theorem isS_and {n : Nat} {P Q : Nat → Prop} {s s' : Int32} (h : isS n P s) (h' : isS n Q s') : isS n (fun k => P k ∧ Q k) (s &&& s') := by
  obtain ⟨m, rfl, h1, h2⟩ := h
  obtain ⟨m', rfl, h3, h4⟩ := h'
  refine ⟨m &&& m', nI_and _ _, Nat.and_lt_two_pow m h3, fun k hk => ?_⟩
  rw [Nat.testBit_and, Bool.and_eq_true, h2 k hk, h4 k hk]
theorem isS_cg {n : Nat} {P Q : Nat → Prop} {s : Int32} (h : isS n P s) (hpq : ∀ k, k < n → (P k ↔ Q k)) : isS n Q s := by
  obtain ⟨m, e, h1, h2⟩ := h
  exact ⟨m, e, h1, fun k hk => (h2 k hk).trans (hpq k hk)⟩
theorem isS_all {n : Nat} (hn : n ≤ 30) : isS n (fun _ => True) (nI (2 ^ n) - 1) := by
  have hpos : 0 < 2 ^ n := Nat.two_pow_pos n
  refine ⟨2 ^ n - 1, ?_, by omega, fun h hh => ?_⟩
  · obtain ⟨z, hz⟩ : ∃ z, 2 ^ n = z + 1 := ⟨2 ^ n - 1, by omega⟩
    rw [hz, nI_pred, Nat.add_sub_cancel]
  · rw [Nat.testBit_two_pow_sub_one]; simp [hh]
theorem mul_ti (x : Int32) : ((2 : Int64) * x.toInt64).toInt = 2 * x.toInt := by
  rw [Int64.toInt_mul, Int32.toInt_toInt64]
  have h3 := Int32.toInt_lt x
  have h4 := Int32.le_toInt x
  show ((2 : Int) * x.toInt).bmod _ = _
  apply Int.bmod_eq_of_le <;> omega
theorem lgc_ge (x y : Int64) : (0 : Int32) ≤ lg_cmp x y ↔ y ≤ x := by
  rw [← i32_nlt, lgc_lt, Int64.lt_iff_toInt_lt, Int64.le_iff_toInt_le]; omega
theorem lgc_le (x y : Int64) : lg_cmp x y ≤ 0 ↔ x ≤ y := by
  rw [← i32_nlt, lgc_gt, Int64.lt_iff_toInt_lt, Int64.le_iff_toInt_le]; omega
theorem lgc_e (x y : Int64) : lg_cmp x y = 0 ↔ x = y := by
  constructor
  · intro h
    have h1 : ¬ lg_cmp x y < 0 := by rw [h]; decide
    have h2 : ¬ (0 : Int32) < lg_cmp x y := by rw [h]; decide
    rw [lgc_lt, Int64.lt_iff_toInt_lt] at h1
    rw [lgc_gt, Int64.lt_iff_toInt_lt] at h2
    apply Int64.toInt_inj.mp; omega
  · rintro rfl; unfold lg_cmp
    rw [if_neg (by rw [gt_iff_lt, Int64.lt_iff_toInt_lt]; omega), if_pos rfl]
/-- in bounds, as a long -/
def inL (v : Int64) (hi : Int64) : Bool := decide (0 ≤ v ∧ v ≤ hi)
theorem s223l {scr : List Int32} {d : Nat} {S : List hs_S} {I : Nat → Nat → Int32} {L : Nat → Nat → Int64} {R : Nat → Nat → Nat} {v hi : Int64} : hs_C scr d 223 [.long v, .long 0, .long hi] (S, I, L, R) = some (some (.int (if inL v hi = true then 1 else 0)), (S, I, L, R)) := by
  rw [e223, b223_0]
  simp only [lgc_lt, lgc_gt]
  by_cases h1 : v < 0
  · rw [if_pos h1, b223_17, b223_18, if_pos (Or.inl rfl), if_neg]
    simp only [inL, decide_eq_true_eq]; rw [Int64.lt_iff_toInt_lt] at h1; rw [Int64.le_iff_toInt_le]; omega
  · rw [if_neg h1]
    by_cases h2 : hi < v
    · rw [if_pos h2, b223_17, b223_18, if_pos (Or.inl rfl), if_neg]
      simp only [inL, decide_eq_true_eq]; rw [Int64.lt_iff_toInt_lt] at h2; rw [Int64.le_iff_toInt_le (x := v)]; omega
    · rw [if_neg h2, b223_18, if_pos (Or.inr rfl), if_pos]
      simp only [inL, decide_eq_true_eq]; rw [Int64.lt_iff_toInt_lt] at h1 h2; rw [Int64.le_iff_toInt_le, Int64.le_iff_toInt_le]
      exact ⟨Int.not_lt.mp h1, Int.not_lt.mp h2⟩
theorem inL_n {v : Int64} {b : Nat} (hb : b < 2 ^ 62) (h : inL v (lN b) = true) : ∃ j, j ≤ b ∧ v = lN j := by
  simp only [inL, decide_eq_true_eq] at h
  have h0 : ¬ v < 0 := by rw [Int64.lt_iff_toInt_lt]; rw [Int64.le_iff_toInt_le] at h; omega
  obtain ⟨j, hj, rfl⟩ := pk_lOf h0
  exact ⟨j, (pk_lLE hj (by omega)).mp h.2, rfl⟩
section SN
variable {scr : List Int32} {d t rt st pt qt n np nr nl nb nq lp k m N : Nat} {c : Nat → Int32} {v : Nat → Int64} {D E : Nat → Nat} {I I' J : Nat → Nat → Int32} {L L' : Nat → Nat → Int64} {R : Nat → Nat → Nat}
theorem x150 (o9 : ok9 hs_S0 R t) (h2 : I t 2 = nI m) (hm : m ≤ 60) (hN : 2 * N ≤ m) (hv : ∀ i, i < m → L (t + 1) i = v i) : hs_C scr d 150 [.ref t, .int (nI N)] (hs_S0, I, L, R) = some (some (.int (match fnd (fun i => !(inL (v (2 * i)) 200 && inL (v (2 * i + 1)) 99)) 0 N with | some _ => 0 | none => 1)), (hs_S0, I, L, R)) := by
  rw [e150, b150_0]
  refine (fo_ex (n := N) (head := fun i (q : Option Value × Option Value) => hs_R scr d 150 2 [some (.ref t), some (.int (nI N)), some (.int (nI i)), q.1, none, q.2, none] [] (hs_S0, I, L, R)) (q := fun i => !(inL (v (2 * i)) 200 && inL (v (2 * i + 1)) 99)) (res := fun _ => some (some (.int 0), (hs_S0, I, L, R))) (fin := some (some (.int 1), (hs_S0, I, L, R))) ?_ ?_ N 0 (none, none) (by omega)).trans ?_
  · intro i q hi
    show (_ ∧ hs_R scr d 150 2 _ _ _ = _) ∨ (_ ∧ ∃ q' : Option Value × Option Value, hs_R scr d 150 2 _ _ _ = _)
    rw [b150_2 o9]
    simp (disch := omega) only [Option.bind_some, Option.toList_some, Option.toList_none, List.append_nil, List.cons_append, List.nil_append, ↓reduceIte, true_or, or_true, Nat.reduceAdd, Nat.add_assoc, f_ge, t_le, t_lt, f_lt, f_l0, t_0l, t_pl, t_eq, f_eq, f_e0, i10, i01, ib_nI, nI_clamp, nI_add, ad10, ad18, ad26, ad34, ad42, ad47, ad52, ad59, ad107, ad117, ml8, mr8, ml5, ml10, hu_same, hu_row, hu_at, hu_hu, h2, ml2, nI_1, hv, b150_70, lgc_lt, lgc_gt, lgc_le]
    by_cases g1 : v (2 * i) < 0
    · left
      refine ⟨?_, if_pos g1⟩
      have : inL (v (2 * i)) 200 = false := by simp only [inL, decide_eq_false_iff_not]; rw [Int64.lt_iff_toInt_lt] at g1; rw [Int64.le_iff_toInt_le]; omega
      rw [this]; rfl
    · rw [if_neg g1]
      by_cases g2 : 200 < v (2 * i)
      · left
        refine ⟨?_, if_pos g2⟩
        have : inL (v (2 * i)) 200 = false := by simp only [inL, decide_eq_false_iff_not]; rw [Int64.lt_iff_toInt_lt] at g2; rw [Int64.le_iff_toInt_le (x := v (2 * i))]; omega
        rw [this]; rfl
      · rw [if_neg g2]
        have a1 : inL (v (2 * i)) 200 = true := by
          simp only [inL, decide_eq_true_eq]; rw [Int64.lt_iff_toInt_lt] at g1 g2; rw [Int64.le_iff_toInt_le, Int64.le_iff_toInt_le]
          exact ⟨Int.not_lt.mp g1, Int.not_lt.mp g2⟩
        by_cases g3 : v (2 * i + 1) < 0
        · left
          refine ⟨?_, if_pos g3⟩
          have : inL (v (2 * i + 1)) 99 = false := by simp only [inL, decide_eq_false_iff_not]; rw [Int64.lt_iff_toInt_lt] at g3; rw [Int64.le_iff_toInt_le]; omega
          rw [this, a1]; rfl
        · rw [if_neg g3]
          by_cases g4 : v (2 * i + 1) ≤ 99
          · right
            have a2 : inL (v (2 * i + 1)) 99 = true := by
              simp only [inL, decide_eq_true_eq]; rw [Int64.lt_iff_toInt_lt] at g3; rw [Int64.le_iff_toInt_le]
              exact ⟨Int.not_lt.mp g3, g4⟩
            refine ⟨by rw [a1, a2]; rfl, (some (.long (v (2 * i))), some (.long (v (2 * i + 1)))), ?_⟩
            rw [if_pos g4]
          · left
            refine ⟨?_, if_neg g4⟩
            have : inL (v (2 * i + 1)) 99 = false := by simp only [inL, decide_eq_false_iff_not]; exact fun q => g4 q.2
            rw [this, a1]; rfl
  · intro q
    show hs_R scr d 150 2 _ _ _ = _
    rw [b150_2 o9, if_pos (nI_le (Nat.le_refl _) (by omega)), b150_78]
  · cases fnd (fun i => !(inL (v (2 * i)) 200 && inL (v (2 * i + 1)) 99)) 0 N <;> rfl
end SN
