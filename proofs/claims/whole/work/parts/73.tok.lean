/-! a text's tokens: pure, and in the class -/
def isl (v : Nat) : Bool := decide (97 ≤ v ∧ v ≤ 122)
def isd (v : Nat) : Bool := decide (48 ≤ v ∧ v ≤ 57)
def isb (v : Nat) : Bool := decide (v = 10 ∨ v = 32)
def pkN (B : Nat → Nat) (a : Nat) : Nat → Nat
  | 0 => 0
  | k + 1 => pkN B a k * 32 + (B (a + k) - 96)
def nvN (B : Nat → Nat) (a : Nat) : Nat → Nat
  | 0 => 0
  | k + 1 => nvN B a k * 10 + (B (a + k) - 48)
def sgn (v : Nat) : Nat := if v = 59 then 33 else if v = 60 then 34 else if v = 62 then 35 else if v = 61 then 36 else 38
def WK (k : Nat) (y : Int64) : Prop := (k < 30 ∧ hs_W0.getD k 0 = y) ∨ (k = 30 ∧ ∀ j, j < 30 → hs_W0.getD j 0 ≠ y)
/-- from h on the next token is k at a with value v; behind it is h' -/
def Tk (E : Nat) (B : Nat → Nat) (h k a v h' : Nat) : Prop := h ≤ a ∧ a ≤ E ∧ (∀ i, h ≤ i → i < a → isb (B i) = true) ∧ (a < E → isb (B a) = false) ∧ ((a = E ∧ k = 37 ∧ h' = E ∧ v = 0) ∨ (a < E ∧ a < h' ∧ h' ≤ E ∧ (∀ i, a ≤ i → i < h' → isl (B i) = true) ∧ (h' < E → isl (B h') = false) ∧ v = pkN B a (min 8 (h' - a)) ∧ ((h' - a ≤ 8 ∧ WK k (lN v)) ∨ (8 < h' - a ∧ k = 31))) ∨ (a < E ∧ a < h' ∧ h' ≤ E ∧ (∀ i, a ≤ i → i < h' → isd (B i) = true) ∧ (h' < E → isd (B h') = false) ∧ v = nvN B a (min 4 (h' - a)) ∧ k = (if h' - a ≤ 4 then 32 else 38)) ∨ (a < E ∧ isl (B a) = false ∧ isd (B a) = false ∧ h' = a + 1 ∧ k = sgn (B a) ∧ v = 0))
/-- x is the byte v -/
def BX (v : Nat) (x : Int32) : Prop := v < 256 ∧ x &&& 255 = nI v ∧ ((v < 128 ∧ x = nI v) ∨ (128 ≤ v ∧ x < 0))
theorem BX_key : ∀ n, n < 256 → (((Int8.ofNat n).toInt32 &&& 255).toNatClampNeg < 256 ∧ (Int8.ofNat n).toInt32 &&& 255 = nI ((Int8.ofNat n).toInt32 &&& 255).toNatClampNeg ∧ ((((Int8.ofNat n).toInt32 &&& 255).toNatClampNeg < 128 ∧ (Int8.ofNat n).toInt32 = nI ((Int8.ofNat n).toInt32 &&& 255).toNatClampNeg) ∨ (128 ≤ ((Int8.ofNat n).toInt32 &&& 255).toNatClampNeg ∧ (Int8.ofNat n).toInt32 < 0))) := by decide +kernel
theorem BX_ex {x : Int32} (h : x.toInt8.toInt32 = x) : BX (x &&& 255).toNatClampNeg x := by
  have e : (Int8.ofNat x.toInt8.toBitVec.toNat).toInt32 = x := by
    rw [show Int8.ofNat x.toInt8.toBitVec.toNat = x.toInt8 by
      show Int8.ofBitVec (BitVec.ofNat 8 x.toInt8.toBitVec.toNat) = x.toInt8
      rw [BitVec.ofNat_toNat, BitVec.setWidth_eq]; rfl]
    exact h
  have := BX_key x.toInt8.toBitVec.toNat x.toInt8.toBitVec.isLt
  rw [e] at this
  exact this
section TK
variable {scr : List Int32} {d E a h' m k v p : Nat} {B : Nat → Nat} {x : Int32} {S : List hs_S} {I : Nat → Nat → Int32} {L : Nat → Nat → Int64} {R : Nat → Nat → Nat}
theorem m211 (hv : v < 2 ^ 20) : hs_C scr d 211 [.int (nI v)] (S, I, L, R) = some (some (.int (if isl v = true then 1 else 0)), (S, I, L, R)) := by
  rw [e211, b211_0, show (97 : Int32) = nI 97 from rfl, show (122 : Int32) = nI 122 from rfl]
  by_cases g1 : v < 97
  · have : isl v = false := by unfold isl; simp; omega
    simp (disch := omega) only [t_lt, ↓reduceIte, b211_16, b211_17, true_or, this, Bool.false_eq_true]
  · by_cases g2 : 122 < v
    · have : isl v = false := by unfold isl; simp; omega
      simp (disch := omega) only [t_lt, f_lt, ↓reduceIte, b211_16, b211_17, true_or, this, Bool.false_eq_true]
    · have : isl v = true := by unfold isl; simp; omega
      simp (disch := omega) only [f_lt, ↓reduceIte, b211_17, or_true, this]
theorem x36 (h : BX v x) : hs_C scr d 36 [.int x] (S, I, L, R) = some (some (.int (if isl v = true then 1 else 0)), (S, I, L, R)) := by
  obtain ⟨h1, h2, ⟨h3, rfl⟩ | ⟨h3, h4⟩⟩ := h
  · rw [e36, b36_0, show (97 : Int32) = nI 97 from rfl, show (122 : Int32) = nI 122 from rfl]
    by_cases g1 : v < 97
    · have : isl v = false := by unfold isl; simp; omega
      simp (disch := omega) only [t_lt, ↓reduceIte, b36_16, b36_17, true_or, this, Bool.false_eq_true]
    · by_cases g2 : 122 < v
      · have : isl v = false := by unfold isl; simp; omega
        simp (disch := omega) only [t_lt, f_lt, ↓reduceIte, b36_16, b36_17, true_or, this, Bool.false_eq_true]
      · have : isl v = true := by unfold isl; simp; omega
        simp (disch := omega) only [f_lt, ↓reduceIte, b36_17, or_true, this]
  · have : isl v = false := by unfold isl; simp; omega
    have hlt : x < 97 := by
      rw [Int32.lt_iff_toInt_lt] at h4 ⊢
      exact Int.lt_trans h4 (by decide)
    rw [e36, b36_0, if_pos hlt, b36_16, b36_17, this]
    rfl
theorem m212 (hv : v < 2 ^ 20) : hs_C scr d 212 [.int (nI v)] (S, I, L, R) = some (some (.int (if isd v = true then 1 else 0)), (S, I, L, R)) := by
  rw [e212, b212_0, show (48 : Int32) = nI 48 from rfl, show (57 : Int32) = nI 57 from rfl]
  by_cases g1 : v < 48
  · have : isd v = false := by unfold isd; simp; omega
    simp (disch := omega) only [t_lt, ↓reduceIte, b212_16, b212_17, true_or, this, Bool.false_eq_true]
  · by_cases g2 : 57 < v
    · have : isd v = false := by unfold isd; simp; omega
      simp (disch := omega) only [t_lt, f_lt, ↓reduceIte, b212_16, b212_17, true_or, this, Bool.false_eq_true]
    · have : isd v = true := by unfold isd; simp; omega
      simp (disch := omega) only [f_lt, ↓reduceIte, b212_17, or_true, this]
theorem x40 (h : BX v x) : hs_C scr d 40 [.int x] (S, I, L, R) = some (some (.int (if isd v = true then 1 else 0)), (S, I, L, R)) := by
  obtain ⟨h1, h2, ⟨h3, rfl⟩ | ⟨h3, h4⟩⟩ := h
  · rw [e40, b40_0, show (48 : Int32) = nI 48 from rfl, show (57 : Int32) = nI 57 from rfl]
    by_cases g1 : v < 48
    · have : isd v = false := by unfold isd; simp; omega
      simp (disch := omega) only [t_lt, ↓reduceIte, b40_16, b40_17, true_or, this, Bool.false_eq_true]
    · by_cases g2 : 57 < v
      · have : isd v = false := by unfold isd; simp; omega
        simp (disch := omega) only [t_lt, f_lt, ↓reduceIte, b40_16, b40_17, true_or, this, Bool.false_eq_true]
      · have : isd v = true := by unfold isd; simp; omega
        simp (disch := omega) only [f_lt, ↓reduceIte, b40_17, or_true, this]
  · have : isd v = false := by unfold isd; simp; omega
    have hlt : x < 48 := by
      rw [Int32.lt_iff_toInt_lt] at h4 ⊢
      exact Int.lt_trans h4 (by decide)
    rw [e40, b40_0, if_pos hlt, b40_16, b40_17, this]
    rfl
theorem isl_b (h : isl v = true) : 97 ≤ v ∧ v ≤ 122 := by unfold isl at h; simpa using h
theorem isd_b (h : isd v = true) : 48 ≤ v ∧ v ≤ 57 := by unfold isd at h; simpa using h
theorem BX_n (h : BX v x) (hv : v < 128) : x = nI v := by
  rcases h.2.2 with q | q
  · exact q.2
  · omega
theorem x38_l (o8 : ok8 hs_S0 R 4) (hw : ∀ j, j < 30 → L 6 j = hs_W0.getD j 0) (y : Int64) : ∀ m i, i + m = 30 → (∀ j, j < i → hs_W0.getD j 0 ≠ y) → ∃ k, WK k y ∧ k ≤ 30 ∧ hs_R scr d 38 2 [some (.ref 4), some (.long y), none, some (.int (nI i))] [] (hs_S0, I, L, R) = some (some (.int (nI k)), (hs_S0, I, L, R))
  | 0, i, e, hn => by
    have : i = 30 := by omega
    subst this
    refine ⟨30, Or.inr ⟨rfl, hn⟩, by omega, ?_⟩
    rw [b38_2 o8, if_pos (show (30 : Int32) ≤ nI 30 by decide)]; rfl
  | m + 1, i, e, hn => by
    by_cases g : hs_W0.getD i 0 = y
    · refine ⟨i, Or.inl ⟨by omega, g⟩, by omega, ?_⟩
      rw [b38_2 o8, if_neg (show ¬ (30 : Int32) ≤ nI i from nI_ge (b := 30) (by omega) (by omega)), if_pos (ib_nI (by omega) (by omega)), nI_clamp (by omega), show (4 + 2 : Nat) = 6 from rfl, hw i (by omega), if_pos ((lgc_e _ _).mpr g)]
    · obtain ⟨k, h1, h2, h3⟩ := x38_l o8 hw y m (i + 1) (by omega) (fun j hj => by
        by_cases q : j = i
        · subst q; exact g
        · exact hn j (by omega))
      refine ⟨k, h1, h2, ?_⟩
      rw [b38_2 o8, if_neg (show ¬ (30 : Int32) ≤ nI i from nI_ge (b := 30) (by omega) (by omega)), if_pos (ib_nI (by omega) (by omega)), nI_clamp (by omega), show (4 + 2 : Nat) = 6 from rfl, hw i (by omega), if_neg (fun q => g ((lgc_e _ _).mp q)), nI_1]
      exact h3
theorem x38 (o8 : ok8 hs_S0 R 4) (hw : ∀ j, j < 30 → L 6 j = hs_W0.getD j 0) (y : Int64) : ∃ k, WK k y ∧ k ≤ 30 ∧ hs_C scr d 38 [.ref 4, .long y] (hs_S0, I, L, R) = some (some (.int (nI k)), (hs_S0, I, L, R)) := by
  obtain ⟨k, h1, h2, h3⟩ := x38_l (scr := scr) (d := d) (I := I) (R := R) o8 hw y 30 0 rfl (fun j hj => by omega)
  refine ⟨k, h1, h2, ?_⟩
  rw [e38, b38_0]; exact h3
def aI (I : Nat → Nat → Int32) (m k a : Nat) : Nat → Nat → Int32 := hs_u (hs_u (hs_u I 7 m (nI k)) 8 m (nI a)) 4 6 (nI (m + 1))
def aL (L : Nat → Nat → Int64) (m v : Nat) : Nat → Nat → Int64 := hs_u L 9 m (lN v)
theorem x39 (o8 : ok8 hs_S0 R 4) (h6 : I 4 6 = nI m) (hm : m ≤ 900) : hs_C scr d 39 [.ref 4, .int (nI k), .int (nI a), .long (lN v)] (hs_S0, I, L, R) = some (none, (hs_S0, aI I m k a, aL L m v, R)) := by
  rw [e39, b39_0 o8]
  simp (disch := omega) only [Option.bind_some, Option.toList_some, Option.toList_none, List.append_nil, List.cons_append, List.nil_append, ↓reduceIte, true_or, or_true, Nat.reduceAdd, Nat.add_assoc, hu_same, hu_row, hu_at, hu_hu, h6, ib_nI, nI_clamp, nI_1, show ¬ ((900 : Int32) < nI m) from nI_nlt (b := m) (a := 900) hm (by omega), b39_50]
  rfl
theorem x37_l (o8 : ok8 hs_S0 R 4) (hE : E ≤ 900) (hB : ∀ i, i < E → BX (B i) (I 5 i)) (he : h' ≤ E) (hl : ∀ i, a ≤ i → i < h' → isl (B i) = true) (hs : h' < E → isl (B h') = false) : ∀ m p, p + m = h' → a ≤ p → hs_R scr (d + 1) 37 5 [some (.ref 4), some (.int (nI a)), some (.int (nI E)), some (.long (lN (pkN B a (min 8 (p - a))))), none, some (.int (nI p))] [] (hs_S0, I, L, R) = hs_R scr (d + 1) 37 51 [some (.ref 4), some (.int (nI a)), some (.int (nI E)), some (.long (lN (pkN B a (min 8 (h' - a))))), none, some (.int (nI h'))] [] (hs_S0, I, L, R)
  | 0, p, e, ha => by
    have : p = h' := by omega
    subst this
    rw [b37_5 o8]
    by_cases g : E ≤ p
    · rw [if_pos (nI_le g (by omega))]
    · rw [if_neg (nI_ge (by omega) (by omega)), if_pos (ib_nI (by omega) (by omega)), nI_clamp (by omega), show (4 + 1 : Nat) = 5 from rfl, x36 (hB p (by omega)), hs (by omega)]
      simp only [Option.bind_some, Option.toList_some, Option.toList_none, List.append_nil, List.cons_append, List.nil_append, ↓reduceIte, true_or, or_true, Nat.reduceAdd, Nat.add_assoc, Bool.false_eq_true, b37_21 o8]
  | m + 1, p, e, ha => by
    have hp := isl_b (hl p ha (by omega))
    rw [b37_5 o8, if_neg (nI_ge (by omega) (by omega)), if_pos (ib_nI (by omega) (by omega)), nI_clamp (by omega), show (4 + 1 : Nat) = 5 from rfl, x36 (hB p (by omega)), hl p ha (by omega)]
    simp only [Option.bind_some, Option.toList_some, Option.toList_none, List.append_nil, List.cons_append, List.nil_append, ↓reduceIte, true_or, or_true, Nat.reduceAdd, Nat.add_assoc, b37_21 o8, i10]
    rw [pk_sub ha]
    by_cases g : 8 ≤ p - a
    · rw [if_pos (show (8 : Int32) ≤ nI (p - a) from nI_le (a := 8) g (by omega)), b37_45, nI_1, show min 8 (p - a) = min 8 (p + 1 - a) by omega]
      exact x37_l o8 hE hB he hl hs m (p + 1) (by omega) (by omega)
    · rw [if_neg (show ¬ (8 : Int32) ≤ nI (p - a) from nI_ge (b := 8) (by omega) (by omega)), if_pos (ib_nI (by omega) (by omega)), nI_clamp (by omega), e2, b2_0, BX_n (hB p (by omega)) (by omega)]
      simp only [Option.bind_some, Option.toList_some, Option.toList_none, List.append_nil, List.cons_append, List.nil_append, ↓reduceIte, true_or, or_true, Nat.reduceAdd, Nat.add_assoc]
      rw [b37_44, b37_45, nI_1, show nI (B p) - 97 = nI (B p - 97) from pk_sub (a := B p) (b := 97) hp.1, nI_1, nI_l (by omega), show (32 : Int64) = lN 32 from rfl, lN_mul, lN_add]
      have ev : pkN B a (min 8 (p - a)) * 32 + (B p - 97 + 1) = pkN B a (min 8 (p + 1 - a)) := by
        rw [show min 8 (p + 1 - a) = (p - a) + 1 by omega, show min 8 (p - a) = p - a by omega, pkN, show a + (p - a) = p by omega]; omega
      rw [ev]
      exact x37_l o8 hE hB he hl hs m (p + 1) (by omega) (by omega)
theorem x37 (o8 : ok8 hs_S0 R 4) (hE : E ≤ 900) (hB : ∀ i, i < E → BX (B i) (I 5 i)) (hw : ∀ j, j < 30 → L 6 j = hs_W0.getD j 0) (ha : a < h') (he : h' ≤ E) (hl : ∀ i, a ≤ i → i < h' → isl (B i) = true) (hs : h' < E → isl (B h') = false) (h6 : I 4 6 = nI m) (hm : m ≤ 900) : ∃ k, ((h' - a ≤ 8 ∧ WK k (lN (pkN B a (min 8 (h' - a))))) ∨ (8 < h' - a ∧ k = 31)) ∧ k ≤ 31 ∧ hs_C scr (d + 1) 37 [.ref 4, .int (nI a), .int (nI E)] (hs_S0, I, L, R) = some (some (.int (nI h')), (hs_S0, aI I m k a, aL L m (pkN B a (min 8 (h' - a))), R)) := by
  have hl0 := x37_l (scr := scr) (d := d) (L := L) (R := R) o8 hE hB he hl hs (h' - a) a (by omega) (Nat.le_refl _)
  rw [show min 8 (a - a) = 0 by omega] at hl0
  by_cases g : h' - a ≤ 8
  · obtain ⟨k, h1, h2, h3⟩ := x38 (scr := scr) (d := d) (I := I) o8 hw (lN (pkN B a (min 8 (h' - a))))
    refine ⟨k, Or.inl ⟨g, h1⟩, by omega, ?_⟩
    rw [e37, b37_0]
    refine hl0.trans ?_
    rw [b37_51 o8, pk_sub (by omega), if_pos (show nI (h' - a) ≤ (8 : Int32) from nI_le (b := 8) g (by omega)), h3]
    simp only [Option.bind_some, Option.toList_some, Option.toList_none, List.append_nil, List.cons_append, List.nil_append, ↓reduceIte, true_or, or_true, Nat.reduceAdd, Nat.add_assoc]
    rw [b37_71 o8, x39 o8 h6 hm]
    simp only [Option.bind_some, Option.toList_some, Option.toList_none, List.append_nil, List.cons_append, List.nil_append, ↓reduceIte, true_or, or_true, Nat.reduceAdd, Nat.add_assoc, b37_76]
  · refine ⟨31, Or.inr ⟨by omega, rfl⟩, by omega, ?_⟩
    rw [e37, b37_0]
    refine hl0.trans ?_
    rw [b37_51 o8, pk_sub (by omega), if_neg (show ¬ nI (h' - a) ≤ (8 : Int32) from nI_ge (a := 8) (by omega) (by omega)), b37_71 o8, show (31 : Int32) = nI 31 from rfl, x39 o8 h6 hm]
    simp only [Option.bind_some, Option.toList_some, Option.toList_none, List.append_nil, List.cons_append, List.nil_append, ↓reduceIte, true_or, or_true, Nat.reduceAdd, Nat.add_assoc, b37_76]
theorem x41_l (o8 : ok8 hs_S0 R 4) (hE : E ≤ 900) (hB : ∀ i, i < E → BX (B i) (I 5 i)) (he : h' ≤ E) (hl : ∀ i, a ≤ i → i < h' → isd (B i) = true) (hs : h' < E → isd (B h') = false) : ∀ m p, p + m = h' → a ≤ p → hs_R scr (d + 1) 41 5 [some (.ref 4), some (.int (nI a)), some (.int (nI E)), some (.long (lN (nvN B a (min 4 (p - a))))), none, some (.int (nI p))] [] (hs_S0, I, L, R) = hs_R scr (d + 1) 41 56 [some (.ref 4), some (.int (nI a)), some (.int (nI E)), some (.long (lN (nvN B a (min 4 (h' - a))))), none, some (.int (nI h'))] [] (hs_S0, I, L, R)
  | 0, p, e, ha => by
    have : p = h' := by omega
    subst this
    rw [b41_5 o8]
    by_cases g : E ≤ p
    · rw [if_pos (nI_le g (by omega))]
    · rw [if_neg (nI_ge (by omega) (by omega)), if_pos (ib_nI (by omega) (by omega)), nI_clamp (by omega), show (4 + 1 : Nat) = 5 from rfl, x40 (hB p (by omega)), hs (by omega)]
      simp only [Option.bind_some, Option.toList_some, Option.toList_none, List.append_nil, List.cons_append, List.nil_append, ↓reduceIte, true_or, or_true, Nat.reduceAdd, Nat.add_assoc, Bool.false_eq_true, b41_21 o8]
  | m + 1, p, e, ha => by
    have hp := isd_b (hl p ha (by omega))
    rw [b41_5 o8, if_neg (nI_ge (by omega) (by omega)), if_pos (ib_nI (by omega) (by omega)), nI_clamp (by omega), show (4 + 1 : Nat) = 5 from rfl, x40 (hB p (by omega)), hl p ha (by omega)]
    simp only [Option.bind_some, Option.toList_some, Option.toList_none, List.append_nil, List.cons_append, List.nil_append, ↓reduceIte, true_or, or_true, Nat.reduceAdd, Nat.add_assoc, b41_21 o8, i10]
    rw [pk_sub ha]
    by_cases g : 4 ≤ p - a
    · rw [if_pos (show (4 : Int32) ≤ nI (p - a) from nI_le (a := 4) g (by omega)), b41_50, nI_1, show min 4 (p - a) = min 4 (p + 1 - a) by omega]
      exact x41_l o8 hE hB he hl hs m (p + 1) (by omega) (by omega)
    · rw [if_neg (show ¬ (4 : Int32) ≤ nI (p - a) from nI_ge (b := 4) (by omega) (by omega)), if_pos (ib_nI (by omega) (by omega)), nI_clamp (by omega), BX_n (hB p (by omega)) (by omega)]
      rw [b41_50, nI_1, show nI (B p) - 48 = nI (B p - 48) from pk_sub (a := B p) (b := 48) hp.1, nI_l (by omega), show (10 : Int64) = lN 10 from rfl, lN_mul, lN_add]
      have ev : nvN B a (min 4 (p - a)) * 10 + (B p - 48) = nvN B a (min 4 (p + 1 - a)) := by
        rw [show min 4 (p + 1 - a) = (p - a) + 1 by omega, show min 4 (p - a) = p - a by omega, nvN, show a + (p - a) = p by omega]
      rw [ev]
      exact x41_l o8 hE hB he hl hs m (p + 1) (by omega) (by omega)
theorem x41 (o8 : ok8 hs_S0 R 4) (hE : E ≤ 900) (hB : ∀ i, i < E → BX (B i) (I 5 i)) (ha : a < h') (he : h' ≤ E) (hl : ∀ i, a ≤ i → i < h' → isd (B i) = true) (hs : h' < E → isd (B h') = false) (h6 : I 4 6 = nI m) (hm : m ≤ 900) : hs_C scr (d + 1) 41 [.ref 4, .int (nI a), .int (nI E)] (hs_S0, I, L, R) = some (some (.int (nI h')), (hs_S0, aI I m (if h' - a ≤ 4 then 32 else 38) a, aL L m (nvN B a (min 4 (h' - a))), R)) := by
  have hl0 := x41_l (scr := scr) (d := d) (L := L) (R := R) o8 hE hB he hl hs (h' - a) a (by omega) (Nat.le_refl _)
  rw [show min 4 (a - a) = 0 by omega] at hl0
  rw [e41, b41_0]
  refine hl0.trans ?_
  by_cases g : h' - a ≤ 4
  · rw [b41_56, pk_sub (by omega), if_pos (show nI (h' - a) ≤ (4 : Int32) from nI_le (b := 4) g (by omega)), if_pos g, b41_72 o8, show (32 : Int32) = nI 32 from rfl, x39 o8 h6 hm]
    simp only [Option.bind_some, Option.toList_some, Option.toList_none, List.append_nil, List.cons_append, List.nil_append, ↓reduceIte, true_or, or_true, Nat.reduceAdd, Nat.add_assoc, b41_77]
  · rw [b41_56, pk_sub (by omega), if_neg (show ¬ nI (h' - a) ≤ (4 : Int32) from nI_ge (a := 4) (by omega) (by omega)), if_neg g, b41_72 o8, show (38 : Int32) = nI 38 from rfl, x39 o8 h6 hm]
    simp only [Option.bind_some, Option.toList_some, Option.toList_none, List.append_nil, List.cons_append, List.nil_append, ↓reduceIte, true_or, or_true, Nat.reduceAdd, Nat.add_assoc, b41_77]
theorem swt_lo {x : Int32} {lo hi : Int} {ts : List Nat} {df : Nat} (h : x.toInt < lo ∨ hi < x.toInt) : hs_swt x lo hi ts df = df := by
  unfold hs_swt
  exact if_pos h
theorem x42 (h : BX v x) : hs_C scr d 42 [.int x] (S, I, L, R) = some (some (.int (nI (sgn v))), (S, I, L, R)) := by
  obtain ⟨h1, h2, ⟨h3, rfl⟩ | ⟨h3, h4⟩⟩ := h
  · by_cases g59 : v = 59
    · subst g59; rw [e42, b42_0, show hs_swt (nI 59) 59 62 [32, 35, 41, 38] 44 = 32 by decide, b42_32]; rfl
    · by_cases g60 : v = 60
      · subst g60; rw [e42, b42_0, show hs_swt (nI 60) 59 62 [32, 35, 41, 38] 44 = 35 by decide, b42_35]; rfl
      · by_cases g62 : v = 62
        · subst g62; rw [e42, b42_0, show hs_swt (nI 62) 59 62 [32, 35, 41, 38] 44 = 38 by decide, b42_38]; rfl
        · by_cases g61 : v = 61
          · subst g61; rw [e42, b42_0, show hs_swt (nI 61) 59 62 [32, 35, 41, 38] 44 = 41 by decide, b42_41]; rfl
          · have : sgn v = 38 := by unfold sgn; rw [if_neg g59, if_neg g60, if_neg g62, if_neg g61]
            rw [e42, b42_0, swt_lo (by rw [nI_toInt (by omega)]; omega), b42_44, this]; rfl
  · have : sgn v = 38 := by unfold sgn; rw [if_neg (by omega), if_neg (by omega), if_neg (by omega), if_neg (by omega)]
    rw [e42, b42_0, swt_lo (by rw [Int32.lt_iff_toInt_lt] at h4; left; exact Int.lt_trans h4 (by decide)), b42_44, this]; rfl
theorem scan_ex (P : Nat → Bool) : ∀ m a, a + m = E → ∃ h, a ≤ h ∧ h ≤ E ∧ (∀ i, a ≤ i → i < h → P (B i) = true) ∧ (h < E → P (B h) = false)
  | 0, a, e => ⟨a, Nat.le_refl _, by omega, fun i h1 h2 => by omega, fun q => by omega⟩
  | m + 1, a, e => by
    cases g : P (B a) with
    | false => exact ⟨a, Nat.le_refl _, by omega, fun i h1 h2 => by omega, fun _ => g⟩
    | true =>
      obtain ⟨h, h1, h2, h3, h4⟩ := scan_ex P m (a + 1) (by omega)
      refine ⟨h, by omega, h2, fun i i1 i2 => ?_, h4⟩
      by_cases q : i = a
      · subst q; exact g
      · exact h3 i (by omega) i2
end TK
