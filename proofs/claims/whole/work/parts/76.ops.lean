/-! a text is read: single tokens, in the class and in the reference -/
theorem Tk_b {E h k a v h' : Nat} {B : Nat → Nat} (hE : E ≤ 900) (ht : Tk E B h k a v h') : k ≤ 38 ∧ v < 2 ^ 40 ∧ a ≤ 900 := by
  obtain ⟨t1, t2, t3, t4, tt⟩ := ht
  rcases tt with ⟨g1, g2, g3, g4⟩ | ⟨g, c1, c2, c3, c4, c5, c6⟩ | ⟨g, c1, c2, c3, c4, c5, c6⟩ | ⟨g, c1, c2, c3, c4, c5⟩
  · exact ⟨by omega, by omega, by omega⟩
  · refine ⟨?_, ?_, by omega⟩
    · rcases c6 with ⟨_, d | d⟩ | d <;> omega
    · have hb := (pkN_b (B := B) (a := a) (min 8 (h' - a)) (fun i hi => isl_b (c3 (a + i) (by omega) (by omega)))).1
      have hp : 32 ^ (min 8 (h' - a)) ≤ 32 ^ 8 := Nat.pow_le_pow_right (by omega) (by omega)
      rw [← c5] at hb
      have e8 : (32 : Nat) ^ 8 = 2 ^ 40 := by decide
      rw [e8] at hp
      exact Nat.lt_of_lt_of_le (Nat.lt_of_succ_le hb) hp
  · refine ⟨by rw [c6]; split <;> omega, ?_, by omega⟩
    have hb := nvN_b (B := B) (a := a) (min 4 (h' - a)) (fun i hi => isd_b (c3 (a + i) (by omega) (by omega)))
    have hp : 10 ^ (min 4 (h' - a)) ≤ 10 ^ 4 := Nat.pow_le_pow_right (by omega) (by omega)
    rw [← c5] at hb
    have e8 : (10 : Nat) ^ 4 ≤ 2 ^ 40 := by decide
    exact Nat.lt_of_lt_of_le (Nat.lt_of_succ_le hb) (Nat.le_trans hp e8)
  · refine ⟨?_, by omega, by omega⟩
    rw [c4]; unfold sgn
    repeat' split
    all_goals omega
def fk (k c : Nat) : Nat := if k = 38 then 1 else c
def TKS (E N : Nat) (B K A V H : Nat → Nat) : Prop := E ≤ 900 ∧ N ≤ 901 ∧ (∀ i, i < E → B i < 256) ∧ (∀ j, j < N → Tk E B (H j) (K j) (A j) (V j) (H (j + 1))) ∧ (∀ j, j < N → K j ≠ 37 → j + 1 < N) ∧ (∀ j, j < N → K j ≤ 38 ∧ V j < 2 ^ 40 ∧ A j ≤ 900)
theorem TKS_of {E N : Nat} {B K A V H : Nat → Nat} {I : Nat → Nat → Int32} {L : Nat → Nat → Int64} (hE : E ≤ 900) (hb : ∀ i, i < E → B i < 256) (h : TF E B N I L K A V H) : TKS E N B K A V H := by
  obtain ⟨⟨h1, h2, h3⟩, h4, h5, h6, h7⟩ := h
  refine ⟨hE, h5, hb, fun j hj => (h3 j hj).2.2.2, fun j hj hk => ?_, fun j hj => Tk_b hE (h3 j hj).2.2.2⟩
  by_cases q : j + 1 < N
  · exact q
  · exfalso
    have : j = N - 1 := by omega
    rw [this] at hk; exact hk h6
def TC (N : Nat) (K A V : Nat → Nat) (j : Nat) (I : Nat → Nat → Int32) (L : Nat → Nat → Int64) : Prop := I 4 6 = nI N ∧ I 4 7 = nI j ∧ (∀ i, i < N → I 7 i = nI (K i) ∧ I 8 i = nI (A i) ∧ L 9 i = lN (V i)) ∧ I 4 11 = 0 ∧ I 4 12 = -1
def CU (K A V : Nat → Nat) (j : Nat) (I : Nat → Nat → Int32) (L : Nat → Nat → Int64) : Prop := I 4 8 = nI (K j) ∧ I 4 9 = nI (A j) ∧ L 4 10 = lN (V j)
def T4 (I : Nat → Nat → Int32) (L : Nat → Nat → Int64) (I' : Nat → Nat → Int32) (L' : Nat → Nat → Int64) : Prop := (∀ k, k ≠ 4 → I' k = I k) ∧ (∀ k, k ≠ 4 → L' k = L k) ∧ I' 4 5 = I 4 5
def BC (c a : Nat) (I : Nat → Nat → Int32) : Prop := I 4 11 = nI c ∧ I 4 12 = nI a
theorem T4_tr {I I' I'' : Nat → Nat → Int32} {L L' L'' : Nat → Nat → Int64} (h1 : T4 I L I' L') (h2 : T4 I' L' I'' L'') : T4 I L I'' L'' := ⟨fun k hk => (h2.1 k hk).trans (h1.1 k hk), fun k hk => (h2.2.1 k hk).trans (h1.2.1 k hk), h2.2.2.trans h1.2.2⟩
theorem T4_rf {I : Nat → Nat → Int32} {L : Nat → Nat → Int64} : T4 I L I L := ⟨fun _ _ => rfl, fun _ _ => rfl, rfl⟩
abbrev okN (K V : Nat → Nat) (j lo hi : Nat) : Prop := K j = 32 ∧ lo ≤ V j ∧ V j ≤ hi
def fN (K A : Nat → Nat) (j : Nat) : Nat × Nat := if K j = 32 then (4, A j) else (fk (K j) 2, A j)
section OP
variable {scr : List Int32} {d E N j c lo hi W : Nat} {B K A V H : Nat → Nat} {q : Nat → Int32} {l : Nat → Int64} {I J : Nat → Nat → Int32} {L M : Nat → Nat → Int64} {R : Nat → Nat → Nat}
theorem x44 (o8 : ok8 hs_S0 R 4) (hN : N ≤ 901) (hT : TC N K A V j I L) (hj : j < N) : ∃ I' L', hs_C scr d 44 [.ref 4] (hs_S0, I, L, R) = some (none, (hs_S0, I', L', R)) ∧ TC N K A V (j + 1) I' L' ∧ CU K A V j I' L' ∧ T4 I L I' L' := by
  obtain ⟨h6, h7, ha, h11, h12⟩ := hT
  have hj' := ha j hj
  refine ⟨hs_u (hs_u (hs_u I 4 8 (nI (K j))) 4 9 (nI (A j))) 4 7 (nI (j + 1)), hs_u L 4 10 (lN (V j)), ?_, ⟨?_, hu_same _ _ _ _, fun i hi => ?_, ?_, ?_⟩, ⟨?_, ?_, hu_same _ _ _ _⟩, ⟨fun k hk => ?_, fun k hk => hu_row _ _ hk, ?_⟩⟩
  · rw [e44, b44_0 o8]
    simp (disch := omega) only [Option.bind_some, Option.toList_some, Option.toList_none, List.append_nil, List.cons_append, List.nil_append, ↓reduceIte, true_or, or_true, Nat.reduceAdd, Nat.add_assoc, hu_same, hu_row, hu_at, hu_hu, h6, h7, f_ge, ib_nI, nI_clamp, hj'.1, hj'.2.1, hj'.2.2, nI_1, b44_60]
  · simp (disch := omega) only [hu_same, hu_row, hu_at, hu_hu, h6]
  · simp (disch := omega) only [hu_same, hu_row, hu_at, hu_hu]; exact ha i hi
  · simp (disch := omega) only [hu_same, hu_row, hu_at, hu_hu]; exact h11
  · simp (disch := omega) only [hu_same, hu_row, hu_at, hu_hu]; exact h12
  · simp (disch := omega) only [hu_same, hu_row, hu_at, hu_hu]
  · simp (disch := omega) only [hu_same, hu_row, hu_at, hu_hu]
  · simp (disch := omega) only [hu_same, hu_row, hu_at, hu_hu]
  · simp (disch := omega) only [hu_same, hu_row, hu_at, hu_hu]
theorem x47 (o8 : ok8 hs_S0 R 4) (hC : CU K A V j I L) (hk : K j ≤ 38) : ∃ I', hs_C scr d 47 [.ref 4, .int (nI c)] (hs_S0, I, L, R) = some (some (.int 0), (hs_S0, I', L, R)) ∧ BC (fk (K j) c) (A j) I' ∧ T4 I L I' L ∧ (∀ f, f ≠ 11 → f ≠ 12 → I' 4 f = I 4 f) := by
  refine ⟨hs_u (hs_u I 4 11 (nI (fk (K j) c))) 4 12 (nI (A j)), ?_, ⟨?_, hu_same _ _ _ _⟩, ⟨fun k hk => ?_, fun k hk => rfl, ?_⟩, fun f h1 h2 => ?_⟩
  · rw [e47, b47_0 o8, hC.1]
    unfold fk
    by_cases g : K j = 38
    · rw [if_pos (show nI (K j) = 38 by rw [g]; rfl), if_pos g, b47_15 o8 o8]
      simp (disch := omega) only [hu_same, hu_row, hu_at, hu_hu, hC.2.1]; rfl
    · rw [if_neg (show ¬ nI (K j) = 38 from fun q => g ((nI_eq (b := 38) (by omega) (by omega)).mp q)), if_neg g, b47_15 o8 o8]
      simp (disch := omega) only [hu_same, hu_row, hu_at, hu_hu, hC.2.1]
  all_goals simp (disch := omega) only [hu_same, hu_row, hu_at, hu_hu]
theorem x49 (o8 : ok8 hs_S0 R 4) (hK : TKS E N B K A V H) (hT : TC N K A V j I L) (hj : j < N) (hW : W < 1000) : ∃ I' L', hs_C scr (d + 1) 49 [.ref 4, .int (nI W)] (hs_S0, I, L, R) = some (some (.int (if K j = W then 1 else 0)), (hs_S0, I', L', R)) ∧ T4 I L I' L' ∧ (K j = W → TC N K A V (j + 1) I' L') ∧ CU K A V j I' L' ∧ (K j ≠ W → BC (fk (K j) 2) (A j) I') := by
  have hk := (hK.2.2.2.2.2 j hj).1
  obtain ⟨I1, L1, e1, t1, c1, f1⟩ := x44 (scr := scr) (d := d) o8 hK.2.1 hT hj
  by_cases g : K j = W
  · refine ⟨I1, L1, ?_, f1, fun _ => t1, c1, fun q => absurd g q⟩
    rw [e49, b49_0 o8, e1]
    simp only [Option.bind_some, Option.toList_some, Option.toList_none, List.append_nil, List.cons_append, List.nil_append, ↓reduceIte, true_or, or_true, Nat.reduceAdd, Nat.add_assoc]
    rw [b49_4 o8, c1.1, if_pos (by rw [g]), b49_20, b49_25, if_pos g]; rfl
  · obtain ⟨I2, e2, b2, f2, g2⟩ := x47 (scr := scr) (d := d) (c := 2) (R := R) o8 c1 hk
    refine ⟨I2, L1, ?_, T4_tr f1 f2, fun q => absurd q g, ⟨(g2 8 (by omega) (by omega)).trans c1.1, (g2 9 (by omega) (by omega)).trans c1.2.1, c1.2.2⟩, fun _ => b2⟩
    rw [e49, b49_0 o8, e1]
    simp only [Option.bind_some, Option.toList_some, Option.toList_none, List.append_nil, List.cons_append, List.nil_append, ↓reduceIte, true_or, or_true, Nat.reduceAdd, Nat.add_assoc]
    rw [b49_4 o8, c1.1, if_neg (fun q => g ((nI_eq (by omega) (by omega)).mp q)), show (2 : Int32) = nI 2 from rfl, e2]
    simp only [Option.bind_some, Option.toList_some, Option.toList_none, List.append_nil, List.cons_append, List.nil_append, ↓reduceIte, true_or, or_true, Nat.reduceAdd, Nat.add_assoc]
    rw [b49_17, if_pos rfl, b49_25, if_neg g]; rfl
theorem x48 (o8 : ok8 hs_S0 R 4) (hK : TKS E N B K A V H) (hT : TC N K A V j I L) (hj : j < N) (hlo : lo < 1000) (hhi : hi < 1000) : ∃ I' L', hs_C scr (d + 2) 48 [.ref 4, .int (nI lo), .int (nI hi)] (hs_S0, I, L, R) = some (some (.int (if okN K V j lo hi then 1 else 0)), (hs_S0, I', L', R)) ∧ T4 I L I' L' ∧ (okN K V j lo hi → TC N K A V (j + 1) I' L') ∧ CU K A V j I' L' ∧ (¬ okN K V j lo hi → BC (fN K A j).1 (fN K A j).2 I') := by
  have hk := hK.2.2.2.2.2 j hj
  obtain ⟨I1, L1, e1, f1, t1, c1, b1⟩ := x49 (scr := scr) (d := d) (W := 32) (R := R) o8 hK hT hj (by omega)
  by_cases g : K j = 32
  · rw [if_pos g] at e1
    have e48' : hs_C scr (d + 2) 48 [.ref 4, .int (nI lo), .int (nI hi)] (hs_S0, I, L, R) = hs_R scr (d + 2) 48 6 [some (.ref 4), some (.int (nI lo)), some (.int (nI hi))] [.int 1] (hs_S0, I1, L1, R) := by
      rw [e48, b48_0 o8, show (32 : Int32) = nI 32 from rfl, e1]; rfl
    have f31 : ¬ (lo ≤ V j ∧ V j ≤ hi) → ∃ I2, hs_R scr (d + 2) 48 31 [some (.ref 4), some (.int (nI lo)), some (.int (nI hi))] [] (hs_S0, I1, L1, R) = some (some (.int 0), (hs_S0, I2, L1, R)) ∧ T4 I L I2 L1 ∧ CU K A V j I2 L1 ∧ BC (fN K A j).1 (fN K A j).2 I2 := by
      intro _
      obtain ⟨I2, e2, b2, f2, g2⟩ := x47 (scr := scr) (d := d + 1) (c := 4) (R := R) o8 c1 hk.1
      refine ⟨I2, ?_, T4_tr f1 f2, ⟨(g2 8 (by omega) (by omega)).trans c1.1, (g2 9 (by omega) (by omega)).trans c1.2.1, c1.2.2⟩, ?_⟩
      · rw [b48_31 o8, show (4 : Int32) = nI 4 from rfl, e2]
        simp only [Option.bind_some, Option.toList_some, Option.toList_none, List.append_nil, List.cons_append, List.nil_append, ↓reduceIte, true_or, or_true, Nat.reduceAdd, Nat.add_assoc]
        rw [b48_36, if_pos rfl, b48_44]; rfl
      · unfold fN; rw [if_pos g]
        unfold fk at b2; rw [if_neg (by omega)] at b2; exact b2
    by_cases g1 : V j < lo
    · obtain ⟨I2, a1, a2, a4, a5⟩ := f31 (by omega)
      refine ⟨I2, L1, ?_, a2, fun q => absurd q.2.1 (by omega), a4, fun _ => a5⟩
      rw [e48', b48_6 o8, if_neg (by decide), c1.2.2, nI_l (by omega), if_pos ((lgc_lt _ _).mpr ((pk_lLT (by omega) (by omega)).mpr g1)), a1, if_neg (show ¬ okN K V j lo hi from fun q => by have := q.2.1; omega)]
    · by_cases g2 : V j ≤ hi
      · refine ⟨I1, L1, ?_, f1, fun _ => t1 g, c1, fun q => absurd ⟨g, by omega, g2⟩ q⟩
        rw [e48', b48_6 o8, if_neg (by decide), c1.2.2, nI_l (by omega), if_neg (fun q => g1 ((pk_lLT (by omega) (by omega)).mp ((lgc_lt _ _).mp q))), nI_l (by omega), if_pos ((lgc_le _ _).mpr ((pk_lLE (by omega) (by omega)).mpr g2)), b48_39, b48_44, if_pos (show okN K V j lo hi from ⟨g, by omega, g2⟩)]; rfl
      · obtain ⟨I2, a1, a2, a4, a5⟩ := f31 (by omega)
        refine ⟨I2, L1, ?_, a2, fun q => absurd q.2.2 (by omega), a4, fun _ => a5⟩
        rw [e48', b48_6 o8, if_neg (by decide), c1.2.2, nI_l (by omega), if_neg (fun q => g1 ((pk_lLT (by omega) (by omega)).mp ((lgc_lt _ _).mp q))), nI_l (by omega), if_neg (fun q => g2 ((pk_lLE (by omega) (by omega)).mp ((lgc_le _ _).mp q))), a1, if_neg (show ¬ okN K V j lo hi from fun q => by have := q.2.2; omega)]
  · rw [if_neg g] at e1
    refine ⟨I1, L1, ?_, f1, fun q => absurd q.1 g, c1, fun _ => by unfold fN; rw [if_neg g]; exact b1 g⟩
    rw [e48, b48_0 o8, show (32 : Int32) = nI 32 from rfl, e1]
    simp only [Option.bind_some, Option.toList_some, Option.toList_none, List.append_nil, List.cons_append, List.nil_append, ↓reduceIte, true_or, or_true, Nat.reduceAdd, Nat.add_assoc]
    rw [b48_6 o8, if_pos rfl, if_neg (fun q => g q.1)]
theorem x50 (o8 : ok8 hs_S0 R 4) (hC : CU K A V j I L) : hs_C scr d 50 [.ref 4] (hs_S0, I, L, R) = some (some (.int (nI (V j))), (hs_S0, I, L, R)) := by
  rw [e50, b50_0 o8, hC.2.2, lN_i]
/-! the reference -/
def MC (E : Nat) (K A V H : Nat → Nat) (j : Nat) (q : Nat → Int32) (l : Nat → Int64) : Prop := q 9 = nI E ∧ q 15 = nI (A j) ∧ q 16 = nI (H (j + 1)) ∧ TokR (K j) (V j) q l ∧ q 12 = 0
def BM (c a : Nat) (q : Nat → Int32) : Prop := q 12 = nI c ∧ q 13 = nI a ∧ 0 < c ∧ c ≤ 9
def T140 (q : Nat → Int32) (l : Nat → Int64) (q' : Nat → Int32) (l' : Nat → Int64) : Prop := (∀ f, f < 12 ∨ 18 < f → q' f = q f) ∧ (∀ f, f ≠ 19 → l' f = l f)
theorem T140_tr {q q' q'' : Nat → Int32} {l l' l'' : Nat → Int64} (h1 : T140 q l q' l') (h2 : T140 q' l' q'' l'') : T140 q l q'' l'' := ⟨fun k hk => (h2.1 k hk).trans (h1.1 k hk), fun k hk => (h2.2 k hk).trans (h1.2 k hk)⟩
theorem T140_rf : T140 q l q l := ⟨fun _ _ => rfl, fun _ _ => rfl⟩
def JB (E : Nat) (B : Nat → Nat) (J : Nat → Nat → Int32) : Prop := ∀ i, i < E → J 144 i &&& 255 = nI (B i)
theorem m209a (o11 : ok11 hs_S0 R 140) (hK : TKS E N B K A V H) (hJ : JB E B J) (hj : j + 1 < N) (h : MC E K A V H j q l) : ∃ q' l', hs_C scr (d + 1) 209 [.ref 140] (hs_S0, hs_z J 140 q, hs_z M 140 l, R) = some (none, (hs_S0, hs_z J 140 q', hs_z M 140 l', R)) ∧ MC E K A V H (j + 1) q' l' ∧ T140 q l q' l' := by
  obtain ⟨h1, h2, h3, h4, h5⟩ := h
  obtain ⟨k1, k2, k3, k4, k5, k6⟩ := hK
  obtain ⟨q', l', a1, a2, a3, a4, a5, a6⟩ := m209 (scr := scr) (d := d) (M := M) (l := l) o11 h1 h3 k1 hJ k3 (k4 (j + 1) hj)
  exact ⟨q', l', a1, ⟨(a5 9 (by omega)).trans h1, a2, a3, a4, (a5 12 (by omega)).trans h5⟩, fun f hf => a5 f (by omega), a6⟩
theorem le00 : ((0 : Int32) ≤ 0) = True := eq_true (by decide)
theorem m220 {x y : Int32} {ML : Nat → Nat → Int64} (o11 : ok11 hs_S0 R 140) (h : q 12 = 0) : hs_C scr d 220 [.ref 140, .int x, .int y] (hs_S0, hs_z J 140 q, ML, R) = some (none, (hs_S0, hs_z J 140 (up (up q 12 x) 13 y), ML, R)) := by
  rw [e220, b220_0 o11, hz_s, h, if_pos (by decide), hz_u, hz_u]
theorem TokR_4 {k v : Nat} (ht : TokR k v q l) : (q 14 = 4) = (k = 38) := by
  rcases ht with ⟨a, b⟩ | ⟨a, b⟩ | ⟨a, b, _⟩ | ⟨a, b, _⟩ | ⟨a, b, _⟩ | ⟨a, b, _⟩ | ⟨a, b, _⟩ | ⟨a, b, _⟩ | ⟨a, b, _⟩ | ⟨a, b, _⟩
  · rw [b]; exact propext ⟨fun q => absurd q (by decide), fun q => by omega⟩
  · rw [b]; exact propext ⟨fun _ => a, fun _ => rfl⟩
  all_goals rw [b]; exact propext ⟨fun q => absurd q (by decide), fun q => by omega⟩
theorem TokR_2 {k v : Nat} (ht : TokR k v q l) : (q 14 = 2) = (k = 32) := by
  rcases ht with ⟨a, b⟩ | ⟨a, b⟩ | ⟨a, b, _⟩ | ⟨a, b, _⟩ | ⟨a, b, _⟩ | ⟨a, b, _⟩ | ⟨a, b, _⟩ | ⟨a, b, _⟩ | ⟨a, b, _⟩ | ⟨a, b, _⟩
  · rw [b]; exact propext ⟨fun q => absurd q (by decide), fun q => by omega⟩
  · rw [b]; exact propext ⟨fun q => absurd q (by decide), fun q => by omega⟩
  · rw [b]; exact propext ⟨fun _ => a, fun _ => rfl⟩
  all_goals rw [b]; exact propext ⟨fun q => absurd q (by decide), fun q => by omega⟩
theorem TokR_0 {k v : Nat} (ht : TokR k v q l) : (q 14 = 0) = (k = 37) := by
  rcases ht with ⟨a, b⟩ | ⟨a, b⟩ | ⟨a, b, _⟩ | ⟨a, b, _⟩ | ⟨a, b, _⟩ | ⟨a, b, _⟩ | ⟨a, b, _⟩ | ⟨a, b, _⟩ | ⟨a, b, _⟩ | ⟨a, b, _⟩
  · rw [b]; exact propext ⟨fun _ => a, fun _ => rfl⟩
  all_goals rw [b]; exact propext ⟨fun q => absurd q (by decide), fun q => by omega⟩
theorem TokR_n {v : Nat} (ht : TokR 32 v q l) : v ≤ 9999 ∧ q 17 = nI v := by
  rcases ht with ⟨a, b⟩ | ⟨a, b⟩ | ⟨a, b, c⟩ | ⟨a, b, _⟩ | ⟨a, b, _⟩ | ⟨a, b, _⟩ | ⟨a, b, _⟩ | ⟨a, b, _⟩ | ⟨a, b, _⟩ | ⟨a, b, _⟩
  · omega
  · omega
  · exact c
  all_goals omega
theorem m222 (o11 : ok11 hs_S0 R 140) (h : MC E K A V H j q l) : ∃ q', hs_C scr (d + 1) 222 [.ref 140] (hs_S0, hs_z J 140 q, hs_z M 140 l, R) = some (none, (hs_S0, hs_z J 140 q', hs_z M 140 l, R)) ∧ BM (fk (K j) 2) (A j) q' ∧ T140 q l q' l ∧ (∀ f, f ≠ 12 → f ≠ 13 → q' f = q f) := by
  obtain ⟨h1, h2, h3, h4, h5⟩ := h
  refine ⟨up (up q 12 (nI (fk (K j) 2))) 13 (nI (A j)), ?_, ⟨rfl, rfl, by unfold fk; split <;> omega, by unfold fk; split <;> omega⟩, ⟨fun f hf => by rw [up_n _ _ (by omega), up_n _ _ (by omega)], fun _ _ => rfl⟩, fun f f1 f2 => by rw [up_n _ _ f2, up_n _ _ f1]⟩
  rw [e222, b222_0 o11, hz_s]
  unfold fk
  by_cases g : K j = 38
  · rw [if_pos ((TokR_4 h4).mpr g), if_pos g, b222_14 o11 o11, hz_s, h2, m220 o11 h5]
    simp only [Option.bind_some, Option.toList_some, Option.toList_none, List.append_nil, List.cons_append, List.nil_append, ↓reduceIte, true_or, or_true, Nat.reduceAdd, Nat.add_assoc, b222_21]; rfl
  · rw [if_neg (fun q => g ((TokR_4 h4).mp q)), if_neg g, b222_14 o11 o11, hz_s, h2, m220 o11 h5]
    simp only [Option.bind_some, Option.toList_some, Option.toList_none, List.append_nil, List.cons_append, List.nil_append, ↓reduceIte, true_or, or_true, Nat.reduceAdd, Nat.add_assoc, b222_21]; rfl
theorem BM_n {c a : Nat} (h : BM c a q) : ¬ q 12 ≤ 0 ∧ ¬ q 12 = 0 ∧ 0 < q 12 := by
  obtain ⟨h1, _, h2, h3⟩ := h
  rw [h1]
  exact ⟨nI_ge (a := 0) (by omega) (by omega), nI_ne0 (by omega) (by omega), nI_lt (a := 0) (by omega) (by omega)⟩
theorem m248b {x : Int32} {c a : Nat} {ML : Nat → Nat → Int64} (o11 : ok11 hs_S0 R 140) (h : BM c a q) : hs_C scr (d + 1) 248 [.ref 140, .int x] (hs_S0, hs_z J 140 q, ML, R) = some (none, (hs_S0, hs_z J 140 q, ML, R)) := by
  rw [e248, b248_0 o11, hz_s, if_neg (BM_n h).1]
theorem m248t (o11 : ok11 hs_S0 R 140) (hK : TKS E N B K A V H) (hJ : JB E B J) (hj : j + 1 < N) (h : MC E K A V H j q l) : ∃ q' l', hs_C scr (d + 2) 248 [.ref 140, .int 1] (hs_S0, hs_z J 140 q, hs_z M 140 l, R) = some (none, (hs_S0, hs_z J 140 q', hs_z M 140 l', R)) ∧ MC E K A V H (j + 1) q' l' ∧ T140 q l q' l' := by
  obtain ⟨q', l', a1, a2, a3⟩ := m209a (scr := scr) (d := d) (M := M) o11 hK hJ hj h
  refine ⟨q', l', ?_, a2, a3⟩
  rw [e248, b248_0 o11, hz_s, h.2.2.2.2, if_pos (by decide), if_neg (by decide), a1]
  simp only [Option.bind_some, Option.toList_some, Option.toList_none, List.append_nil, List.cons_append, List.nil_append, ↓reduceIte, true_or, or_true, Nat.reduceAdd, Nat.add_assoc, b248_16, b248_23]
theorem m248f (o11 : ok11 hs_S0 R 140) (h : MC E K A V H j q l) : ∃ q', hs_C scr (d + 2) 248 [.ref 140, .int 0] (hs_S0, hs_z J 140 q, hs_z M 140 l, R) = some (none, (hs_S0, hs_z J 140 q', hs_z M 140 l, R)) ∧ BM (fk (K j) 2) (A j) q' ∧ T140 q l q' l := by
  obtain ⟨q', a1, a2, a3, a4⟩ := m222 (scr := scr) (d := d) (M := M) (J := J) (R := R) o11 h
  refine ⟨q', ?_, a2, a3⟩
  rw [e248, b248_0 o11, hz_s, h.2.2.2.2, if_pos (by decide), if_pos rfl, a1]
  simp only [Option.bind_some, Option.toList_some, Option.toList_none, List.append_nil, List.cons_append, List.nil_append, ↓reduceIte, true_or, or_true, Nat.reduceAdd, Nat.add_assoc, b248_23]
theorem m248w (o11 : ok11 hs_S0 R 140) (hK : TKS E N B K A V H) (hJ : JB E B J) (hj : j < N) (h : MC E K A V H j q l) (hW : W ≠ 37) : ∃ q' l', hs_C scr (d + 2) 248 [.ref 140, .int (if K j = W then 1 else 0)] (hs_S0, hs_z J 140 q, hs_z M 140 l, R) = some (none, (hs_S0, hs_z J 140 q', hs_z M 140 l', R)) ∧ T140 q l q' l' ∧ (K j = W → MC E K A V H (j + 1) q' l') ∧ (K j ≠ W → BM (fk (K j) 2) (A j) q') := by
  by_cases g : K j = W
  · obtain ⟨q', l', a1, a2, a3⟩ := m248t (scr := scr) (d := d) (M := M) o11 hK hJ (hK.2.2.2.2.1 j hj (by omega)) h
    exact ⟨q', l', by rw [if_pos g]; exact a1, a3, fun _ => a2, fun q => absurd g q⟩
  · obtain ⟨q', a1, a2, a3⟩ := m248f (scr := scr) (d := d) (M := M) (J := J) (R := R) o11 h
    exact ⟨q', l, by rw [if_neg g]; exact a1, a3, fun q => absurd q g, fun _ => a2⟩
theorem m221b {x y : Int32} {c a : Nat} {ML : Nat → Nat → Int64} (o11 : ok11 hs_S0 R 140) (h : BM c a q) : hs_C scr (d + 1) 221 [.ref 140, .int x, .int y] (hs_S0, hs_z J 140 q, ML, R) = some (some (.int 0), (hs_S0, hs_z J 140 q, ML, R)) := by
  rw [e221, b221_0 o11, hz_s, if_neg (BM_n h).2.1, b221_19 o11, hz_s, if_neg (BM_n h).2.1, b221_50 o11, hz_s, if_neg (BM_n h).1]
theorem m221 (o11 : ok11 hs_S0 R 140) (hK : TKS E N B K A V H) (hJ : JB E B J) (hj : j < N) (h : MC E K A V H j q l) (hlo : lo < 1000) (hhi : hi < 1000) : ∃ q' l', hs_C scr (d + 2) 221 [.ref 140, .int (nI lo), .int (nI hi)] (hs_S0, hs_z J 140 q, hs_z M 140 l, R) = some (some (.int (if okN K V j lo hi then nI (V j) else 0)), (hs_S0, hs_z J 140 q', hs_z M 140 l', R)) ∧ T140 q l q' l' ∧ (okN K V j lo hi → MC E K A V H (j + 1) q' l') ∧ (¬ okN K V j lo hi → BM (fN K A j).1 (fN K A j).2 q') := by
  have h12 := h.2.2.2.2
  have ht := h.2.2.2.1
  by_cases g : K j = 32
  · have hn := TokR_n (g ▸ ht)
    have e1 : hs_C scr (d + 2) 221 [.ref 140, .int (nI lo), .int (nI hi)] (hs_S0, hs_z J 140 q, hs_z M 140 l, R) = hs_R scr (d + 2) 221 38 [some (.ref 140), some (.int (nI lo)), some (.int (nI hi)), none] [.int (if nI (V j) < nI lo then 0 else if nI (V j) ≤ nI hi then 1 else 0)] (hs_S0, hs_z J 140 q, hs_z M 140 l, R) := by
      rw [e221, b221_0 o11, hz_s, h12, if_pos rfl, if_pos ((TokR_2 ht).mpr g), b221_19 o11, hz_s, h12, if_pos rfl, hn.2, s223 (nI lo).toInt64 (nI hi).toInt64 (nI lo) (nI hi) rfl rfl]; rfl
    by_cases g1 : lo ≤ V j ∧ V j ≤ hi
    · obtain ⟨q', l', a1, a2, a3⟩ := m209a (scr := scr) (d := d) (M := M) o11 hK hJ (hK.2.2.2.2.1 j hj (by omega)) h
      refine ⟨q', l', ?_, a3, fun _ => a2, fun q => absurd ⟨g, g1⟩ q⟩
      rw [e1, if_neg (nI_nlt g1.1 (by omega)), if_pos (nI_le g1.2 (by omega)), b221_38 o11, if_neg (by decide), b221_50 o11, hz_s, h12, if_pos (by decide), a1]
      simp only [Option.bind_some, Option.toList_some, Option.toList_none, List.append_nil, List.cons_append, List.nil_append, ↓reduceIte, true_or, or_true, Nat.reduceAdd, Nat.add_assoc, hn.2, b221_68]
      rw [if_pos ⟨g, g1⟩]
    · have e2 : (if nI (V j) < nI lo then (0 : Int32) else if nI (V j) ≤ nI hi then 1 else 0) = 0 := by
        by_cases g2 : V j < lo
        · rw [if_pos (nI_lt g2 (by omega))]
        · rw [if_neg (nI_nlt (by omega) (by omega)), if_neg (nI_ge (by omega) (by omega))]
      refine ⟨up (up q 12 (nI 4)) 13 (nI (A j)), l, ?_, ⟨fun f hf => by rw [up_n _ _ (by omega), up_n _ _ (by omega)], fun _ _ => rfl⟩, fun q => absurd q.2 g1, fun _ => ?_⟩
      · rw [e1, e2, b221_38 o11, if_pos rfl, hz_s, h.2.1, show (4 : Int32) = nI 4 from rfl, m220 o11 h12]
        simp only [Option.bind_some, Option.toList_some, Option.toList_none, List.append_nil, List.cons_append, List.nil_append, ↓reduceIte, true_or, or_true, Nat.reduceAdd, Nat.add_assoc]
        rw [b221_50 o11, hz_s, if_neg (show ¬ up (up q 12 (nI 4)) 13 (nI (A j)) 12 ≤ 0 from by show ¬ nI 4 ≤ 0; decide), if_neg (fun q => g1 q.2)]
      · unfold fN; rw [if_pos g]
        exact ⟨rfl, rfl, by omega, by omega⟩
  · obtain ⟨q', a1, a2, a3, a4⟩ := m222 (scr := scr) (d := d) (M := M) (J := J) (R := R) o11 h
    refine ⟨q', l, ?_, a3, fun q => absurd q.1 g, fun _ => by unfold fN; rw [if_neg g]; exact a2⟩
    rw [e221, b221_0 o11, hz_s, h12, if_pos rfl, if_neg (fun q => g ((TokR_2 ht).mp q)), a1]
    simp only [Option.bind_some, Option.toList_some, Option.toList_none, List.append_nil, List.cons_append, List.nil_append, ↓reduceIte, true_or, or_true, Nat.reduceAdd, Nat.add_assoc]
    rw [b221_19 o11, hz_s, if_neg (BM_n a2).2.1, b221_50 o11, hz_s, if_neg (BM_n a2).1, if_neg (fun q => g q.1)]
end OP
