/-! a text is read: names, words with numbers -/
theorem swv_0 : ∀ k, k ≤ 38 → (swv k < 0 ↔ ¬ (5 ≤ k ∧ k ≤ 8)) := by decide
theorem stv_0 : ∀ k, k ≤ 38 → (0 ≤ stv k ↔ (17 ≤ k ∧ k ≤ 25) ∨ k = 27 ∨ k = 29) := by decide
theorem tsv_0 : ∀ k, k ≤ 38 → (0 ≤ tsv k ↔ k = 26 ∨ k = 3 ∨ k = 18) := by decide
section O2
variable {scr : List Int32} {d dm E N j c lo hi W k v t bl s : Nat} {B K A V H cn : Nat → Nat} {q : Nat → Int32} {l : Nat → Int64} {w : Nat → Int64} {y : Int64} {I J : Nat → Nat → Int32} {L M : Nat → Nat → Int64} {R : Nat → Nat → Nat}
theorem m229 (o11 : ok11 hs_S0 R 140) (ht : TokR k v q l) : hs_C scr (d + 3) 229 [.ref 140] (hs_S0, hs_z J 140 q, hs_z M 140 l, R) = some (some (.int (if k < 30 then 1 else 0)), (hs_S0, hs_z J 140 q, hs_z M 140 l, R)) := by
  have hk := TokR_k ht
  rw [e229, b229_0 o11, m215 o11 ht]
  simp only [Option.bind_some, Option.toList_some, Option.toList_none, List.append_nil, List.cons_append, List.nil_append, ↓reduceIte, true_or, or_true, Nat.reduceAdd, Nat.add_assoc]
  rw [b229_4 o11]
  by_cases g0 : k = 0
  · rw [if_pos g0, if_neg (by decide), b229_63, if_pos (show k < 30 by omega)]
  rw [if_neg g0, if_pos rfl, m224 o11 ht]
  simp only [Option.bind_some, Option.toList_some, Option.toList_none, List.append_nil, List.cons_append, List.nil_append, ↓reduceIte, true_or, or_true, Nat.reduceAdd, Nat.add_assoc]
  rw [b229_11 o11]
  by_cases g1 : k = 1
  · rw [if_pos g1, if_neg (by decide), b229_63, if_pos (show k < 30 by omega)]
  rw [if_neg g1, if_pos rfl, m225 o11 ht]
  simp only [Option.bind_some, Option.toList_some, Option.toList_none, List.append_nil, List.cons_append, List.nil_append, ↓reduceIte, true_or, or_true, Nat.reduceAdd, Nat.add_assoc]
  rw [b229_18 o11]
  by_cases g2 : k = 2
  · rw [if_pos g2, if_neg (by decide), b229_63, if_pos (show k < 30 by omega)]
  rw [if_neg g2, if_pos rfl, m230 o11 ht]
  simp only [Option.bind_some, Option.toList_some, Option.toList_none, List.append_nil, List.cons_append, List.nil_append, ↓reduceIte, true_or, or_true, Nat.reduceAdd, Nat.add_assoc]
  rw [b229_25 o11]
  by_cases g4 : k = 4
  · rw [if_pos g4, if_neg (by decide), b229_63, if_pos (show k < 30 by omega)]
  rw [if_neg g4, if_pos rfl, m231 o11 ht]
  simp only [Option.bind_some, Option.toList_some, Option.toList_none, List.append_nil, List.cons_append, List.nil_append, ↓reduceIte, true_or, or_true, Nat.reduceAdd, Nat.add_assoc]
  rw [b229_32 o11]
  by_cases g9 : k = 9
  · rw [if_pos g9, if_neg (by decide), b229_63, if_pos (show k < 30 by omega)]
  rw [if_neg g9, if_pos rfl, m232 o11 ht]
  simp only [Option.bind_some, Option.toList_some, Option.toList_none, List.append_nil, List.cons_append, List.nil_append, ↓reduceIte, true_or, or_true, Nat.reduceAdd, Nat.add_assoc]
  rw [b229_39 o11]
  by_cases g10 : k = 10
  · rw [if_pos g10, if_neg (by decide), b229_63, if_pos (show k < 30 by omega)]
  rw [if_neg g10, if_pos rfl, m233 o11 ht]
  simp only [Option.bind_some, Option.toList_some, Option.toList_none, List.append_nil, List.cons_append, List.nil_append, ↓reduceIte, true_or, or_true, Nat.reduceAdd, Nat.add_assoc]
  rw [b229_46 o11]
  by_cases g11 : k = 11
  · rw [if_pos g11, if_neg (by decide), b229_63, if_pos (show k < 30 by omega)]
  rw [if_neg g11, if_pos rfl, m234 o11 ht]
  simp only [Option.bind_some, Option.toList_some, Option.toList_none, List.append_nil, List.cons_append, List.nil_append, ↓reduceIte, true_or, or_true, Nat.reduceAdd, Nat.add_assoc]
  rw [b229_53 o11]
  by_cases g12 : k = 12
  · rw [if_pos g12, if_neg (by decide), b229_63, if_pos (show k < 30 by omega)]
  rw [if_neg g12, if_pos rfl, m235 o11 ht]
  simp only [Option.bind_some, Option.toList_some, Option.toList_none, List.append_nil, List.cons_append, List.nil_append, ↓reduceIte, true_or, or_true, Nat.reduceAdd, Nat.add_assoc]
  rw [b229_60 o11]
  by_cases g13 : k = 13
  · rw [if_pos g13, if_neg (by decide), b229_63, if_pos (show k < 30 by omega)]
  rw [if_neg g13, if_pos rfl, m236 o11 ht]
  simp only [Option.bind_some, Option.toList_some, Option.toList_none, List.append_nil, List.cons_append, List.nil_append, ↓reduceIte, true_or, or_true, Nat.reduceAdd, Nat.add_assoc]
  rw [b229_69 o11]
  by_cases g14 : k = 14
  · rw [if_pos g14, if_neg (by decide), b229_93, if_pos (show k < 30 by omega)]
  rw [if_neg g14, if_pos rfl, m237 o11 ht]
  simp only [Option.bind_some, Option.toList_some, Option.toList_none, List.append_nil, List.cons_append, List.nil_append, ↓reduceIte, true_or, or_true, Nat.reduceAdd, Nat.add_assoc]
  rw [b229_76 o11]
  by_cases g15 : k = 15
  · rw [if_pos g15, if_neg (by decide), b229_93, if_pos (show k < 30 by omega)]
  rw [if_neg g15, if_pos rfl, m238 o11 ht]
  simp only [Option.bind_some, Option.toList_some, Option.toList_none, List.append_nil, List.cons_append, List.nil_append, ↓reduceIte, true_or, or_true, Nat.reduceAdd, Nat.add_assoc]
  rw [b229_83 o11]
  by_cases g16 : k = 16
  · rw [if_pos g16, if_neg (by decide), b229_93, if_pos (show k < 30 by omega)]
  rw [if_neg g16, if_pos rfl, m239 o11 ht]
  simp only [Option.bind_some, Option.toList_some, Option.toList_none, List.append_nil, List.cons_append, List.nil_append, ↓reduceIte, true_or, or_true, Nat.reduceAdd, Nat.add_assoc]
  rw [b229_90 o11]
  by_cases gs : 5 ≤ k ∧ k ≤ 8
  · rw [if_neg (fun q => (swv_0 k hk).mp q gs), b229_93, if_pos (show k < 30 by omega)]
  rw [if_pos ((swv_0 k hk).mpr gs), m240 o11 ht]
  simp only [Option.bind_some, Option.toList_some, Option.toList_none, List.append_nil, List.cons_append, List.nil_append, ↓reduceIte, true_or, or_true, Nat.reduceAdd, Nat.add_assoc]
  rw [b229_99 o11]
  by_cases gt : (17 ≤ k ∧ k ≤ 25) ∨ k = 27 ∨ k = 29
  · rw [if_pos ((stv_0 k hk).mpr gt), b229_116, b229_121, if_pos (show k < 30 by omega)]; rfl
  rw [if_neg (fun q => gt ((stv_0 k hk).mp q)), m241 o11 ht]
  simp only [Option.bind_some, Option.toList_some, Option.toList_none, List.append_nil, List.cons_append, List.nil_append, ↓reduceIte, true_or, or_true, Nat.reduceAdd, Nat.add_assoc]
  rw [b229_106 o11]
  by_cases gu : k = 26 ∨ k = 3 ∨ k = 18
  · rw [if_pos ((tsv_0 k hk).mpr gu), b229_116, b229_121, if_pos (show k < 30 by omega)]; rfl
  rw [if_neg (fun q => gu ((tsv_0 k hk).mp q)), m243 o11 ht]
  simp only [Option.bind_some, Option.toList_some, Option.toList_none, List.append_nil, List.cons_append, List.nil_append, ↓reduceIte, true_or, or_true, Nat.reduceAdd, Nat.add_assoc]
  rw [b229_113]
  by_cases g28 : k = 28
  · rw [if_pos g28, if_neg (by decide), b229_116, b229_121, if_pos (show k < 30 by omega)]; rfl
  rw [if_neg g28, if_pos rfl, b229_121, if_neg (show ¬ k < 30 by omega)]; rfl
theorem m257_59 (o11 : ok11 hs_S0 R 140) (ht : TokR k v q l) : hs_C scr d 257 [.ref 140, .int 59] (hs_S0, hs_z J 140 q, hs_z M 140 l, R) = some (some (.int (if k = 33 then 1 else 0)), (hs_S0, hs_z J 140 q, hs_z M 140 l, R)) := by
  rw [e257, b257_0 o11, hz_s]
  rcases ht with ⟨a, b⟩ | ⟨a, b⟩ | ⟨a, b, _⟩ | ⟨a, b, c⟩ | ⟨a, b, c⟩ | ⟨a, b, c⟩ | ⟨a, b, c⟩ | ⟨a, b, _⟩ | ⟨a, b, _⟩ | ⟨a, b, _⟩
  · rw [b, if_neg (by decide), b257_20, b257_21, if_neg (show ¬ k = 33 by omega)]; rfl
  · rw [b, if_neg (by decide), b257_20, b257_21, if_neg (show ¬ k = 33 by omega)]; rfl
  · rw [b, if_neg (by decide), b257_20, b257_21, if_neg (show ¬ k = 33 by omega)]; rfl
  · rw [b, if_pos rfl, c, if_pos rfl, b257_21, if_pos a]; rfl
  · rw [b, if_pos rfl, c, if_neg (by decide), b257_20, b257_21, if_neg (show ¬ k = 33 by omega)]; rfl
  · rw [b, if_pos rfl, c, if_neg (by decide), b257_20, b257_21, if_neg (show ¬ k = 33 by omega)]; rfl
  · rw [b, if_pos rfl, c, if_neg (by decide), b257_20, b257_21, if_neg (show ¬ k = 33 by omega)]; rfl
  · rw [b, if_neg (by decide), b257_20, b257_21, if_neg (show ¬ k = 33 by omega)]; rfl
  · rw [b, if_neg (by decide), b257_20, b257_21, if_neg (show ¬ k = 33 by omega)]; rfl
  · rw [b, if_neg (by decide), b257_20, b257_21, if_neg (show ¬ k = 33 by omega)]; rfl
theorem m257_60 (o11 : ok11 hs_S0 R 140) (ht : TokR k v q l) : hs_C scr d 257 [.ref 140, .int 60] (hs_S0, hs_z J 140 q, hs_z M 140 l, R) = some (some (.int (if k = 34 then 1 else 0)), (hs_S0, hs_z J 140 q, hs_z M 140 l, R)) := by
  rw [e257, b257_0 o11, hz_s]
  rcases ht with ⟨a, b⟩ | ⟨a, b⟩ | ⟨a, b, _⟩ | ⟨a, b, c⟩ | ⟨a, b, c⟩ | ⟨a, b, c⟩ | ⟨a, b, c⟩ | ⟨a, b, _⟩ | ⟨a, b, _⟩ | ⟨a, b, _⟩
  · rw [b, if_neg (by decide), b257_20, b257_21, if_neg (show ¬ k = 34 by omega)]; rfl
  · rw [b, if_neg (by decide), b257_20, b257_21, if_neg (show ¬ k = 34 by omega)]; rfl
  · rw [b, if_neg (by decide), b257_20, b257_21, if_neg (show ¬ k = 34 by omega)]; rfl
  · rw [b, if_pos rfl, c, if_neg (by decide), b257_20, b257_21, if_neg (show ¬ k = 34 by omega)]; rfl
  · rw [b, if_pos rfl, c, if_pos rfl, b257_21, if_pos a]; rfl
  · rw [b, if_pos rfl, c, if_neg (by decide), b257_20, b257_21, if_neg (show ¬ k = 34 by omega)]; rfl
  · rw [b, if_pos rfl, c, if_neg (by decide), b257_20, b257_21, if_neg (show ¬ k = 34 by omega)]; rfl
  · rw [b, if_neg (by decide), b257_20, b257_21, if_neg (show ¬ k = 34 by omega)]; rfl
  · rw [b, if_neg (by decide), b257_20, b257_21, if_neg (show ¬ k = 34 by omega)]; rfl
  · rw [b, if_neg (by decide), b257_20, b257_21, if_neg (show ¬ k = 34 by omega)]; rfl
theorem m257_62 (o11 : ok11 hs_S0 R 140) (ht : TokR k v q l) : hs_C scr d 257 [.ref 140, .int 62] (hs_S0, hs_z J 140 q, hs_z M 140 l, R) = some (some (.int (if k = 35 then 1 else 0)), (hs_S0, hs_z J 140 q, hs_z M 140 l, R)) := by
  rw [e257, b257_0 o11, hz_s]
  rcases ht with ⟨a, b⟩ | ⟨a, b⟩ | ⟨a, b, _⟩ | ⟨a, b, c⟩ | ⟨a, b, c⟩ | ⟨a, b, c⟩ | ⟨a, b, c⟩ | ⟨a, b, _⟩ | ⟨a, b, _⟩ | ⟨a, b, _⟩
  · rw [b, if_neg (by decide), b257_20, b257_21, if_neg (show ¬ k = 35 by omega)]; rfl
  · rw [b, if_neg (by decide), b257_20, b257_21, if_neg (show ¬ k = 35 by omega)]; rfl
  · rw [b, if_neg (by decide), b257_20, b257_21, if_neg (show ¬ k = 35 by omega)]; rfl
  · rw [b, if_pos rfl, c, if_neg (by decide), b257_20, b257_21, if_neg (show ¬ k = 35 by omega)]; rfl
  · rw [b, if_pos rfl, c, if_neg (by decide), b257_20, b257_21, if_neg (show ¬ k = 35 by omega)]; rfl
  · rw [b, if_pos rfl, c, if_pos rfl, b257_21, if_pos a]; rfl
  · rw [b, if_pos rfl, c, if_neg (by decide), b257_20, b257_21, if_neg (show ¬ k = 35 by omega)]; rfl
  · rw [b, if_neg (by decide), b257_20, b257_21, if_neg (show ¬ k = 35 by omega)]; rfl
  · rw [b, if_neg (by decide), b257_20, b257_21, if_neg (show ¬ k = 35 by omega)]; rfl
  · rw [b, if_neg (by decide), b257_20, b257_21, if_neg (show ¬ k = 35 by omega)]; rfl
theorem m257_61 (o11 : ok11 hs_S0 R 140) (ht : TokR k v q l) : hs_C scr d 257 [.ref 140, .int 61] (hs_S0, hs_z J 140 q, hs_z M 140 l, R) = some (some (.int (if k = 36 then 1 else 0)), (hs_S0, hs_z J 140 q, hs_z M 140 l, R)) := by
  rw [e257, b257_0 o11, hz_s]
  rcases ht with ⟨a, b⟩ | ⟨a, b⟩ | ⟨a, b, _⟩ | ⟨a, b, c⟩ | ⟨a, b, c⟩ | ⟨a, b, c⟩ | ⟨a, b, c⟩ | ⟨a, b, _⟩ | ⟨a, b, _⟩ | ⟨a, b, _⟩
  · rw [b, if_neg (by decide), b257_20, b257_21, if_neg (show ¬ k = 36 by omega)]; rfl
  · rw [b, if_neg (by decide), b257_20, b257_21, if_neg (show ¬ k = 36 by omega)]; rfl
  · rw [b, if_neg (by decide), b257_20, b257_21, if_neg (show ¬ k = 36 by omega)]; rfl
  · rw [b, if_pos rfl, c, if_neg (by decide), b257_20, b257_21, if_neg (show ¬ k = 36 by omega)]; rfl
  · rw [b, if_pos rfl, c, if_neg (by decide), b257_20, b257_21, if_neg (show ¬ k = 36 by omega)]; rfl
  · rw [b, if_pos rfl, c, if_neg (by decide), b257_20, b257_21, if_neg (show ¬ k = 36 by omega)]; rfl
  · rw [b, if_pos rfl, c, if_pos rfl, b257_21, if_pos a]; rfl
  · rw [b, if_neg (by decide), b257_20, b257_21, if_neg (show ¬ k = 36 by omega)]; rfl
  · rw [b, if_neg (by decide), b257_20, b257_21, if_neg (show ¬ k = 36 by omega)]; rfl
  · rw [b, if_neg (by decide), b257_20, b257_21, if_neg (show ¬ k = 36 by omega)]; rfl
theorem m228 (o11 : ok11 hs_S0 R 140) (ht : TokR k v q l) : hs_C scr (d + 4) 228 [.ref 140] (hs_S0, hs_z J 140 q, hs_z M 140 l, R) = some (some (.int (if k = 30 then 1 else 0)), (hs_S0, hs_z J 140 q, hs_z M 140 l, R)) := by
  rw [e228, b228_0 o11, hz_s]
  have e28 : ¬ k = 30 → hs_R scr (d + 4) 228 28 [some (.ref 140)] [] (hs_S0, hs_z J 140 q, hs_z M 140 l, R) = some (some (.int (if k = 30 then 1 else 0)), (hs_S0, hs_z J 140 q, hs_z M 140 l, R)) := fun g => by
    rw [b228_28, b228_29, if_neg g]; rfl
  have e229' : hs_C scr (d + 3) 229 [.ref 140] (hs_S0, hs_z J 140 q, hs_z M 140 l, R) = some (some (.int (if k < 30 then 1 else 0)), (hs_S0, hs_z J 140 q, hs_z M 140 l, R)) := m229 o11 ht
  rcases ht with ⟨a, b⟩ | ⟨a, b⟩ | ⟨a, b, _⟩ | ⟨a, b, c⟩ | ⟨a, b, c⟩ | ⟨a, b, c⟩ | ⟨a, b, c⟩ | ⟨a, b, _⟩ | ⟨a, b, c, _, _, _, n, hn, en⟩ | ⟨a, b, c, n, hn, hn2, en⟩
  · rw [b, if_neg (by decide), e28 (by omega)]
  · rw [b, if_neg (by decide), e28 (by omega)]
  · rw [b, if_neg (by decide), e28 (by omega)]
  · rw [b, if_neg (by decide), e28 (by omega)]
  · rw [b, if_neg (by decide), e28 (by omega)]
  · rw [b, if_neg (by decide), e28 (by omega)]
  · rw [b, if_neg (by decide), e28 (by omega)]
  · rw [b, if_pos rfl, e229', if_pos a]
    by_cases g : (8 : Int32) < q 18
    · rw [if_pos g, e28 (by omega)]
    · rw [if_neg g]
      simp only [Option.bind_some, Option.toList_some, Option.toList_none, List.append_nil, List.cons_append, List.nil_append, ↓reduceIte, true_or, or_true, Nat.reduceAdd, Nat.add_assoc]
      rw [b228_21, if_neg (by decide), e28 (by omega)]
  · rw [b, if_pos rfl, e229', if_neg (show ¬ k < 30 by omega), en, if_neg (show ¬ (8 : Int32) < nI n from nI_nlt (b := n) (a := 8) hn (by omega))]
    simp only [Option.bind_some, Option.toList_some, Option.toList_none, List.append_nil, List.cons_append, List.nil_append, ↓reduceIte, true_or, or_true, Nat.reduceAdd, Nat.add_assoc]
    rw [b228_21, if_pos rfl, b228_29, if_pos a]; rfl
  · rw [b, if_pos rfl, en, if_pos (show (8 : Int32) < nI n from nI_lt (a := 8) hn (by omega)), e28 (by omega)]
abbrev okW (K V : Nat → Nat) (j W lo hi : Nat) : Prop := K j = W ∧ okN K V (j + 1) lo hi
def fW (K A : Nat → Nat) (j W : Nat) : Nat × Nat := if K j = W then fN K A (j + 1) else (fk (K j) 2, A j)
theorem x56 (o7 : ok7 hs_S0 R 10) (r0 : R 10 0 = 4) (o8 : ok8 hs_S0 R 4) (hK : TKS E N B K A V H) (hT : TC N K A V j I L) (hj : j < N) (hW : W < 37) (hlo : lo < 1000) (hhi : hi < 1000) : ∃ I' L', hs_C scr (d + 3) 56 [.ref 10, .int (nI W), .int (nI lo), .int (nI hi)] (hs_S0, I, L, R) = some (some (.int (if okW K V j W lo hi then 1 else 0)), (hs_S0, I', L', R)) ∧ T4 I L I' L' ∧ (okW K V j W lo hi → TC N K A V (j + 2) I' L' ∧ CU K A V (j + 1) I' L') ∧ (¬ okW K V j W lo hi → BC (fW K A j W).1 (fW K A j W).2 I') := by
  obtain ⟨I1, L1, e1, f1, t1, c1, b1⟩ := x49 (scr := scr) (d := d + 1) (W := W) (R := R) o8 hK hT hj (by omega)
  by_cases g : K j = W
  · obtain ⟨I2, L2, e2, f2, t2, c2, b2⟩ := x48 (scr := scr) (d := d) (lo := lo) (hi := hi) (R := R) o8 hK (t1 g) (hK.2.2.2.2.1 j hj (by omega)) hlo hhi
    rw [if_pos g] at e1
    have e3 : hs_C scr (d + 3) 56 [.ref 10, .int (nI W), .int (nI lo), .int (nI hi)] (hs_S0, I, L, R) = hs_R scr (d + 3) 56 20 [some (.ref 10), some (.int (nI W)), some (.int (nI lo)), some (.int (nI hi))] [.int (if okN K V (j + 1) lo hi then 1 else 0)] (hs_S0, I2, L2, R) := by
      rw [e56, b56_0 o7 r0 o8, e1]
      simp only [Option.bind_some, Option.toList_some, Option.toList_none, List.append_nil, List.cons_append, List.nil_append, ↓reduceIte, true_or, or_true, Nat.reduceAdd, Nat.add_assoc]
      rw [b56_8 o7 r0 o8, if_neg (by decide), e2]; rfl
    by_cases g2 : okN K V (j + 1) lo hi
    · refine ⟨I2, L2, ?_, T4_tr f1 f2, fun _ => ⟨t2 g2, c2⟩, fun q => absurd ⟨g, g2⟩ q⟩
      rw [e3, if_pos g2, b56_20, if_neg (by decide), b56_28, if_pos (show okW K V j W lo hi from ⟨g, g2⟩)]; rfl
    · refine ⟨I2, L2, ?_, T4_tr f1 f2, fun q => absurd q.2 g2, fun _ => by unfold fW; rw [if_pos g]; exact b2 g2⟩
      rw [e3, if_neg g2, b56_20, if_pos rfl, b56_27, b56_28, if_neg (show ¬ okW K V j W lo hi from fun q => g2 q.2)]; rfl
  · rw [if_neg g] at e1
    refine ⟨I1, L1, ?_, f1, fun q => absurd q.1 g, fun _ => by unfold fW; rw [if_neg g]; exact b1 g⟩
    rw [e56, b56_0 o7 r0 o8, e1]
    simp only [Option.bind_some, Option.toList_some, Option.toList_none, List.append_nil, List.cons_append, List.nil_append, ↓reduceIte, true_or, or_true, Nat.reduceAdd, Nat.add_assoc]
    rw [b56_8 o7 r0 o8, if_pos rfl, b56_27, b56_28, if_neg (show ¬ okW K V j W lo hi from fun q => g q.1)]; rfl
theorem m247b {x y z : Int32} {c a : Nat} {ML : Nat → Nat → Int64} (o11 : ok11 hs_S0 R 140) (h : BM c a q) : hs_C scr (d + 2) 247 [.ref 140, .int x, .int y, .int z] (hs_S0, hs_z J 140 q, ML, R) = some (some (.int 0), (hs_S0, hs_z J 140 q, ML, R)) := by
  rw [e247, b247_0 o11, m248b o11 h]
  simp only [Option.bind_some, Option.toList_some, Option.toList_none, List.append_nil, List.cons_append, List.nil_append, ↓reduceIte, true_or, or_true, Nat.reduceAdd, Nat.add_assoc]
  rw [b247_5 o11, m221b o11 h]
  simp only [Option.bind_some, Option.toList_some, Option.toList_none, List.append_nil, List.cons_append, List.nil_append, ↓reduceIte, true_or, or_true, Nat.reduceAdd, Nat.add_assoc, b247_11]
theorem m247 (o11 : ok11 hs_S0 R 140) (hK : TKS E N B K A V H) (hJ : JB E B J) (hj : j < N) (h : MC E K A V H j q l) (hW : W < 37) (hlo : lo < 1000) (hhi : hi < 1000) : ∃ q' l', hs_C scr (d + 3) 247 [.ref 140, .int (if K j = W then 1 else 0), .int (nI lo), .int (nI hi)] (hs_S0, hs_z J 140 q, hs_z M 140 l, R) = some (some (.int (if okW K V j W lo hi then nI (V (j + 1)) else 0)), (hs_S0, hs_z J 140 q', hs_z M 140 l', R)) ∧ T140 q l q' l' ∧ (okW K V j W lo hi → MC E K A V H (j + 2) q' l') ∧ (¬ okW K V j W lo hi → BM (fW K A j W).1 (fW K A j W).2 q') := by
  obtain ⟨q1, l1, e1, f1, t1, b1⟩ := m248w (scr := scr) (d := d) (M := M) (W := W) o11 hK hJ hj h (by omega)
  by_cases g : K j = W
  · obtain ⟨q2, l2, e2, f2, t2, b2⟩ := m221 (scr := scr) (d := d) (M := M) (lo := lo) (hi := hi) o11 hK hJ (hK.2.2.2.2.1 j hj (by omega)) (t1 g) hlo hhi
    refine ⟨q2, l2, ?_, T140_tr f1 f2, fun q => t2 q.2, fun q => by unfold fW; rw [if_pos g]; exact b2 (fun p => q ⟨g, p⟩)⟩
    rw [e247, b247_0 o11, e1]
    simp only [Option.bind_some, Option.toList_some, Option.toList_none, List.append_nil, List.cons_append, List.nil_append, ↓reduceIte, true_or, or_true, Nat.reduceAdd, Nat.add_assoc]
    rw [b247_5 o11, e2]
    simp only [Option.bind_some, Option.toList_some, Option.toList_none, List.append_nil, List.cons_append, List.nil_append, ↓reduceIte, true_or, or_true, Nat.reduceAdd, Nat.add_assoc, b247_11]
    by_cases g2 : okN K V (j + 1) lo hi
    · rw [if_pos g2, if_pos ⟨g, g2⟩]
    · rw [if_neg g2, if_neg (fun q => g2 q.2)]
  · refine ⟨q1, l1, ?_, f1, fun q => absurd q.1 g, fun _ => by unfold fW; rw [if_neg g]; exact b1 g⟩
    rw [e247, b247_0 o11, e1]
    simp only [Option.bind_some, Option.toList_some, Option.toList_none, List.append_nil, List.cons_append, List.nil_append, ↓reduceIte, true_or, or_true, Nat.reduceAdd, Nat.add_assoc]
    rw [b247_5 o11, m221b o11 (b1 g)]
    simp only [Option.bind_some, Option.toList_some, Option.toList_none, List.append_nil, List.cons_append, List.nil_append, ↓reduceIte, true_or, or_true, Nat.reduceAdd, Nat.add_assoc, b247_11]
    rw [if_neg (fun q => g q.1)]
theorem TokR_w (ht : TokR 30 v q l) : l 19 = lN v ∧ 0 < v ∧ v < 2 ^ 40 := by
  rcases ht with ⟨a, b⟩ | ⟨a, b⟩ | ⟨a, b, _⟩ | ⟨a, b, c⟩ | ⟨a, b, c⟩ | ⟨a, b, c⟩ | ⟨a, b, c⟩ | ⟨a, b, _⟩ | ⟨a, b, c, d, e, _⟩ | ⟨a, b, c, _⟩
  · omega
  · omega
  · omega
  · omega
  · omega
  · omega
  · omega
  · omega
  · exact ⟨c, d, e⟩
  · omega
/-- the thing whose name comes next -/
theorem jNm (o11 : ok11 hs_S0 R 140) {R' : Nat → Nat → Nat} (o8' : ok8 hs_S0 R' 4) (o3 : ok3 hs_S0 R' (t + 1)) (ht : 10 ≤ t) (hK : TKS E N B K A V H) (hJ : JB E B J) (hj : j < N) (hT : TC N K A V j I L) (h : MC E K A V H j q l) (hs : s < 5) (hbl : bl ≤ 4) (hc : cnb cn) (hn : J 145 (399 * bl + s) = nI (cn s)) (hR : RN cn (fun k => M 148 (31 * bl + k)) I L t) : ∃ I' L', T4 I L I' L' ∧ CU K A V j I' L' ∧ ((∃ k, k < cn s ∧ K j = 30 ∧ TC N K A V (j + 1) I' L' ∧ hs_C scr (d + 3) 65 [.ref 4, .int (kd s), .ref (t + 1)] (hs_S0, I, L, R') = some (some (.int (nI k)), (hs_S0, I', L', R')) ∧ hs_C scr (dm + 5) 256 [.ref 140, .int (nI bl), .int (nI s)] (hs_S0, hs_z J 140 q, hs_z M 140 l, R) = some (some (.int (nI k)), (hs_S0, hs_z J 140 q, hs_z M 140 l, R))) ∨ (∃ c a q', hs_C scr (d + 3) 65 [.ref 4, .int (kd s), .ref (t + 1)] (hs_S0, I, L, R') = some (some (.int (-1)), (hs_S0, I', L', R')) ∧ BC c a I' ∧ hs_C scr (dm + 5) 256 [.ref 140, .int (nI bl), .int (nI s)] (hs_S0, hs_z J 140 q, hs_z M 140 l, R) = some (some (.int 0), (hs_S0, hs_z J 140 q', hs_z M 140 l, R)) ∧ BM c a q' ∧ T140 q l q' l)) := by
  have hk := hK.2.2.2.2.2 j hj
  have h12 := h.2.2.2.2
  have htk := h.2.2.2.1
  obtain ⟨I1, L1, e1, f1, t1, c1, b1⟩ := x49 (scr := scr) (d := d + 1) (W := 30) (R := R') o8' hK hT hj (by omega)
  have hcs : cn s < 100 := by
    obtain ⟨h0, h1, h2, h3, h4⟩ := hc
    rcases (show s = 0 ∨ s = 1 ∨ s = 2 ∨ s = 3 ∨ s = 4 by omega) with rfl | rfl | rfl | rfl | rfl <;> omega
  have hnb : ∀ i, i < cn s → 31 * bl + (nf s + i) < 155 := fun i hi => by have := nf_b hc hs hi; omega
  by_cases g : K j = 30
  · rw [if_pos g] at e1
    have hw := TokR_w (g ▸ htk)
    obtain ⟨m, hm, em, r1, r2, r3⟩ := RN_u hR hc
    have em1 : I1 (t + 1) 3 = nI m := by rw [f1.1 _ (by omega)]; exact em
    have yn0 : lN (V j) ≠ 0 := lN_ne hw.2.1 (by omega)
    have e65' : hs_C scr (d + 3) 65 [.ref 4, .int (kd s), .ref (t + 1)] (hs_S0, I, L, R') = ((hs_C scr (d + 2) 66 [.ref (t + 1), .long (lN (V j)), .int (kd s)] (hs_S0, I1, L1, R')).bind fun o => hs_R scr (d + 3) 65 20 [some (.ref 4), some (.int (kd s)), some (.ref (t + 1)), none] (o.1.toList ++ []) o.2) := by
      rw [e65, b65_0 o8', show (30 : Int32) = nI 30 from rfl, e1]
      simp only [Option.bind_some, Option.toList_some, Option.toList_none, List.append_nil, List.cons_append, List.nil_append, ↓reduceIte, true_or, or_true, Nat.reduceAdd, Nat.add_assoc]
      rw [b65_6 o8' o3, if_neg (by decide), c1.2.2]
      simp only [Option.bind_some, Option.toList_some, Option.toList_none, List.append_nil, List.cons_append, List.nil_append, ↓reduceIte, true_or, or_true, Nat.reduceAdd, Nat.add_assoc]
    have e256' : hs_C scr (dm + 5) 256 [.ref 140, .int (nI bl), .int (nI s)] (hs_S0, hs_z J 140 q, hs_z M 140 l, R) = ((hs_C scr (dm + 4) 245 [.ref 140, .int (nI bl), .int (nI s)] (hs_S0, hs_z J 140 q, hs_z M 140 l, R)).bind fun o => hs_R scr (dm + 5) 256 33 [some (.ref 140), some (.int (nI bl)), some (.int (nI s)), none] (o.1.toList ++ []) o.2) := by
      rw [e256, b256_0 o11, hz_s, h12, if_pos rfl, m228 (d := dm) o11 htk, if_pos g]
      simp only [Option.bind_some, Option.toList_some, Option.toList_none, List.append_nil, List.cons_append, List.nil_append, ↓reduceIte, true_or, or_true, Nat.reduceAdd, Nat.add_assoc]
      rw [b256_11 o11, if_neg (by decide), b256_18 o11, hz_s, h12, if_pos (by decide)]
      simp only [Option.bind_some, Option.toList_some, Option.toList_none, List.append_nil, List.cons_append, List.nil_append, ↓reduceIte, true_or, or_true, Nat.reduceAdd, Nat.add_assoc]
    by_cases hex : ∃ k, k < cn s ∧ M 148 (31 * bl + (nf s + k)) = lN (V j)
    · obtain ⟨k, k1, k2⟩ := hex
      obtain ⟨i0, i1, i2, i3, i4⟩ := r2 s k hs k1 (by show M 148 (31 * bl + (nf s + k)) ≠ 0; rw [k2]; exact yn0)
      have i2' : L (t + 2) i0 = lN (V j) := i2.trans k2
      have hu : ∀ i, i < cn s → M 148 (31 * bl + (nf s + i)) = l 19 → i = k := fun i hi hy => by
        rw [hw.1] at hy
        obtain ⟨i0', j1, j2, j3, j4⟩ := r2 s i hs hi (by show M 148 (31 * bl + (nf s + i)) ≠ 0; rw [hy]; exact yn0)
        have j2' : L (t + 2) i0' = lN (V j) := j2.trans hy
        have := r3 i0 i0' i1 j1 (i2'.trans j2'.symm)
        subst this
        rw [i4] at j4
        exact ((nI_eq (by omega) (by omega)).mp j4).symm
      refine ⟨I1, L1, f1, c1, Or.inl ⟨k, k1, g, t1 g, ?_, ?_⟩⟩
      · rw [e65', e66, b66_0]
        have := x66y (scr := scr) (d := d + 2) (I := I1) (L := L1) (R := R') (y := lN (V j)) (x3 := kd s) o3 em1 hm i1 (by rw [f1.2.1 _ (by omega)]; exact i2') (by rw [f1.1 _ (by omega)]; exact i3) (fun i hi hy => by rw [f1.2.1 _ (by omega)] at hy; exact r3 i i0 hi i1 (hy.trans i2'.symm)) m 0 (by omega) (by omega)
        rw [nI_0] at this
        rw [this, f1.1 _ (by omega), i4]
        simp only [Option.bind_some, Option.toList_some, Option.toList_none, List.append_nil, List.cons_append, List.nil_append, ↓reduceIte, true_or, or_true, Nat.reduceAdd, Nat.add_assoc]
        rw [b65_20 o8', if_pos (nI_pos' (by omega)), b65_31]
      · rw [e256', e245, b245_0]
        have := m245y (scr := scr) (d := dm + 3) (J := J) (M := M) (q := q) (l := l) (R := R) o11 hs hbl hn hnb hcs k1 (by rw [hw.1]; exact k2) hu (cn s) 0 (by omega) (by omega)
        rw [nI_0] at this
        rw [this]
        simp only [Option.bind_some, Option.toList_some, Option.toList_none, List.append_nil, List.cons_append, List.nil_append, ↓reduceIte, true_or, or_true, Nat.reduceAdd, Nat.add_assoc]
        rw [b256_33 o11, if_pos (nI_pos' (by omega)), b256_47]
        by_cases q0 : k = 0
        · subst q0; rfl
        · rw [if_pos (show (0 : Int32) < nI k from nI_lt (a := 0) (by omega) (by omega))]
    · have hno : ∀ i, i < cn s → M 148 (31 * bl + (nf s + i)) ≠ l 19 := fun i hi hy => hex ⟨i, hi, by rw [← hw.1]; exact hy⟩
      obtain ⟨I2, e2, b2, f2, g2⟩ := x47 (scr := scr) (d := d + 2) (c := 3) (R := R') o8' c1 hk.1
      have hfk : fk (K j) 3 = 3 := by unfold fk; rw [if_neg (by omega)]
      rw [hfk] at b2
      refine ⟨I2, L1, T4_tr f1 f2, ⟨(g2 8 (by omega) (by omega)).trans c1.1, (g2 9 (by omega) (by omega)).trans c1.2.1, c1.2.2⟩, Or.inr ⟨3, A j, up (up q 12 (nI 3)) 13 (nI (A j)), ?_, b2, ?_, ⟨rfl, rfl, by omega, by omega⟩, ⟨fun f hf => by rw [up_n _ _ (by omega), up_n _ _ (by omega)], fun _ _ => rfl⟩⟩⟩
      · rw [e65', e66, b66_0]
        have := x66n (scr := scr) (d := d + 2) (I := I1) (L := L1) (R := R') (y := lN (V j)) (x3 := kd s) o3 em1 hm (fun i hi hy hx => by
          rw [f1.2.1 _ (by omega)] at hy
          rw [f1.1 _ (by omega)] at hx
          obtain ⟨s', k', a1, a2, a3, a4, a5, a6⟩ := r1 i hi
          have := kd_inj s' a1 s hs (a5.symm.trans hx)
          subst this
          exact hex ⟨k', a2, a3.symm.trans hy⟩) m 0 (by omega)
        rw [nI_0] at this
        rw [this]
        simp only [Option.bind_some, Option.toList_some, Option.toList_none, List.append_nil, List.cons_append, List.nil_append, ↓reduceIte, true_or, or_true, Nat.reduceAdd, Nat.add_assoc]
        rw [b65_20 o8', if_neg (by decide), show (3 : Int32) = nI 3 from rfl, e2]
        simp only [Option.bind_some, Option.toList_some, Option.toList_none, List.append_nil, List.cons_append, List.nil_append, ↓reduceIte, true_or, or_true, Nat.reduceAdd, Nat.add_assoc]
        rw [b65_30, b65_31]
      · rw [e256', e245, b245_0]
        have := m245n (scr := scr) (d := dm + 3) (J := J) (M := M) (q := q) (l := l) (R := R) o11 hs hbl hn hnb hcs hno (cn s) 0 (by omega)
        rw [nI_0] at this
        rw [this]
        simp only [Option.bind_some, Option.toList_some, Option.toList_none, List.append_nil, List.cons_append, List.nil_append, ↓reduceIte, true_or, or_true, Nat.reduceAdd, Nat.add_assoc]
        rw [b256_33 o11, if_neg (by decide), hz_s, h.2.1, show (3 : Int32) = nI 3 from rfl, m220 o11 h12]
        simp only [Option.bind_some, Option.toList_some, Option.toList_none, List.append_nil, List.cons_append, List.nil_append, ↓reduceIte, true_or, or_true, Nat.reduceAdd, Nat.add_assoc]
        rw [b256_47]; rfl
  · rw [if_neg g] at e1
    obtain ⟨q', a1, a2, a3, a4⟩ := m222 (scr := scr) (d := dm + 3) (M := M) (J := J) (R := R) o11 h
    refine ⟨I1, L1, f1, c1, Or.inr ⟨fk (K j) 2, A j, q', ?_, b1 g, ?_, a2, a3⟩⟩
    · rw [e65, b65_0 o8', show (30 : Int32) = nI 30 from rfl, e1]
      simp only [Option.bind_some, Option.toList_some, Option.toList_none, List.append_nil, List.cons_append, List.nil_append, ↓reduceIte, true_or, or_true, Nat.reduceAdd, Nat.add_assoc]
      rw [b65_6 o8' o3, if_pos rfl]
    · rw [e256, b256_0 o11, hz_s, h12, if_pos rfl, m228 (d := dm) o11 htk, if_neg g]
      simp only [Option.bind_some, Option.toList_some, Option.toList_none, List.append_nil, List.cons_append, List.nil_append, ↓reduceIte, true_or, or_true, Nat.reduceAdd, Nat.add_assoc]
      rw [b256_11 o11, if_pos rfl, a1]
      simp only [Option.bind_some, Option.toList_some, Option.toList_none, List.append_nil, List.cons_append, List.nil_append, ↓reduceIte, true_or, or_true, Nat.reduceAdd, Nat.add_assoc]
      rw [b256_18 o11, hz_s, if_neg (BM_n a2).1]
theorem m256b {x y : Int32} {c a : Nat} {ML : Nat → Nat → Int64} (o11 : ok11 hs_S0 R 140) (h : BM c a q) : hs_C scr (d + 1) 256 [.ref 140, .int x, .int y] (hs_S0, hs_z J 140 q, ML, R) = some (some (.int 0), (hs_S0, hs_z J 140 q, ML, R)) := by
  rw [e256, b256_0 o11, hz_s, if_neg (BM_n h).2.1, b256_18 o11, hz_s, if_neg (BM_n h).1]
theorem m255b {x y : Int32} {c a : Nat} {ML : Nat → Nat → Int64} (o11 : ok11 hs_S0 R 140) (h : BM c a q) : hs_C scr (d + 2) 255 [.ref 140, .int x, .int y] (hs_S0, hs_z J 140 q, ML, R) = some (some (.int 0), (hs_S0, hs_z J 140 q, ML, R)) := by
  rw [e255, b255_0 o11, m256b o11 h]
  simp only [Option.bind_some, Option.toList_some, Option.toList_none, List.append_nil, List.cons_append, List.nil_append, ↓reduceIte, true_or, or_true, Nat.reduceAdd, Nat.add_assoc]
  rw [b255_6 o11, m248b o11 h]
  simp only [Option.bind_some, Option.toList_some, Option.toList_none, List.append_nil, List.cons_append, List.nil_append, ↓reduceIte, true_or, or_true, Nat.reduceAdd, Nat.add_assoc, b255_12]
end O2
