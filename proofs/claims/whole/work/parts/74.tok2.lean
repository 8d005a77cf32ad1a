/-! the class splits a text -/
def TS (E : Nat) (B : Nat → Nat) (m : Nat) (I : Nat → Nat → Int32) (L : Nat → Nat → Int64) (K A V H : Nat → Nat) : Prop := I 4 6 = nI m ∧ H 0 = 0 ∧ ∀ j, j < m → I 7 j = nI (K j) ∧ I 8 j = nI (A j) ∧ L 9 j = lN (V j) ∧ Tk E B (H j) (K j) (A j) (V j) (H (j + 1))
def TF (E : Nat) (B : Nat → Nat) (N : Nat) (I : Nat → Nat → Int32) (L : Nat → Nat → Int64) (K A V H : Nat → Nat) : Prop := TS E B N I L K A V H ∧ 0 < N ∧ N ≤ 901 ∧ K (N - 1) = 37 ∧ ∀ j, j + 1 < N → K j ≠ 37
theorem sgn_ne (v : Nat) : sgn v ≠ 37 := by
  unfold sgn
  repeat' split
  all_goals omega
section TQ
variable {scr : List Int32} {d E a h' m k v p o rd : Nat} {B K A V H : Nat → Nat} {x1 : Int32} {w5 : Option Value} {S : List hs_S} {I : Nat → Nat → Int32} {L : Nat → Nat → Int64} {R : Nat → Nat → Nat}
theorem TS_add (h : TS E B m I L K A V H) (ht : Tk E B (H m) k a v h') : TS E B (m + 1) (aI I m k a) (aL L m v) (up K m k) (up A m a) (up V m v) (up H (m + 1) h') := by
  obtain ⟨h1, h2, h3⟩ := h
  refine ⟨hu_same _ _ _ _, by rw [up_n _ _ (by omega)]; exact h2, fun j hj => ?_⟩
  by_cases g : j = m
  · subst g
    unfold aI aL
    rw [up_s, up_s, up_s, up_s, up_n _ _ (show j ≠ j + 1 by omega)]
    refine ⟨by simp (disch := omega) only [hu_same, hu_row, hu_at, hu_hu], by simp (disch := omega) only [hu_same, hu_row, hu_at, hu_hu], by simp (disch := omega) only [hu_same, hu_row, hu_at, hu_hu], ht⟩
  · have := h3 j (by omega)
    rw [up_n _ _ g, up_n _ _ g, up_n _ _ g, up_n _ _ (show j ≠ m + 1 by omega), up_n _ _ (show j + 1 ≠ m + 1 by omega)]
    unfold aI aL
    simp (disch := omega) only [hu_row, hu_at]; exact this
theorem aI_r {j : Nat} (h : j ≠ 4 ∧ j ≠ 7 ∧ j ≠ 8) : aI I m k a j = I j := by
  unfold aI; simp (disch := omega) only [hu_row]
theorem aI_4 {f : Nat} (h : f ≠ 6) : aI I m k a 4 f = I 4 f := by
  unfold aI; simp (disch := omega) only [hu_row, hu_at]
theorem aL_r {j : Nat} (h : j ≠ 9) : aL L m v j = L j := hu_row _ _ h
theorem x35_e (o8 : ok8 hs_S0 R 4) (hE : E ≤ 900) (ho : o = E) (hm : m ≤ o) (hr : rd ≤ o) (hT : TS E B m I L K A V H) (hK : ∀ j, j < m → K j ≠ 37) (h1 : H m ≤ o) (h2 : ∀ i, H m ≤ i → i < o → isb (B i) = true) : ∃ (I' : Nat → Nat → Int32) (L' : Nat → Nat → Int64) (N : Nat) (K' A' V' H' : Nat → Nat), hs_R scr (d + 3) 35 39 [some (.ref 4), some (.int x1), some (.int (nI E)), some (.int (nI o)), some (.int (nI rd)), w5] [] (hs_S0, I, L, R) = some (none, (hs_S0, I', L', R)) ∧ TF E B N I' L' K' A' V' H' ∧ (∀ j, j ≠ 4 ∧ j ≠ 7 ∧ j ≠ 8 → I' j = I j) ∧ (∀ f, f ≠ 6 → I' 4 f = I 4 f) ∧ (∀ j, j ≠ 9 → L' j = L j) := by
  subst ho
  refine ⟨aI I m 37 o, aL L m 0, m + 1, up K m 37, up A m o, up V m 0, up H (m + 1) o, ?_, ⟨TS_add hT ⟨h1, Nat.le_refl _, h2, fun q => absurd q (Nat.lt_irrefl _), Or.inl ⟨rfl, rfl, rfl, rfl⟩⟩, by omega, by omega, up_s _ _ _, fun j hj => by rw [up_n _ _ (by omega)]; exact hK j (by omega)⟩, fun j hj => aI_r hj, fun f hf => aI_4 hf, fun j hj => aL_r hj⟩
  have e136 : hs_R scr (d + 3) 35 136 [some (.ref 4), some (.int x1), some (.int (nI o)), some (.int (nI o)), some (.int (nI rd)), w5] [] (hs_S0, I, L, R) = some (none, (hs_S0, aI I m 37 o, aL L m 0, R)) := by
    rw [b35_136 o8, show (37 : Int32) = nI 37 from rfl, show (0 : Int64) = lN 0 from rfl, x39 o8 hT.1 (by omega)]
    simp only [Option.bind_some, Option.toList_some, Option.toList_none, List.append_nil, List.cons_append, List.nil_append, ↓reduceIte, true_or, or_true, Nat.reduceAdd, Nat.add_assoc, b35_144]
  rw [b35_39 o8, e136]
  by_cases g : (900 : Int32) ≤ nI rd
  · rw [if_pos g]
  · rw [if_neg g, if_pos (nI_le (Nat.le_refl _) (by omega))]
theorem x35_l (o8 : ok8 hs_S0 R 4) (hE : E ≤ 900) : ∀ (f : Nat) {o rd m : Nat} {I : Nat → Nat → Int32} {L : Nat → Nat → Int64} {K A V H : Nat → Nat} {w5 : Option Value}, E ≤ o + f → rd ≤ o → m ≤ o → o ≤ E → (∀ i, i < E → BX (B i) (I 5 i)) → (∀ j, j < 30 → L 6 j = hs_W0.getD j 0) → TS E B m I L K A V H → (∀ j, j < m → K j ≠ 37) → H m ≤ o → (∀ i, H m ≤ i → i < o → isb (B i) = true) → ∃ (I' : Nat → Nat → Int32) (L' : Nat → Nat → Int64) (N : Nat) (K' A' V' H' : Nat → Nat), hs_R scr (d + 3) 35 39 [some (.ref 4), some (.int x1), some (.int (nI E)), some (.int (nI o)), some (.int (nI rd)), w5] [] (hs_S0, I, L, R) = some (none, (hs_S0, I', L', R)) ∧ TF E B N I' L' K' A' V' H' ∧ (∀ j, j ≠ 4 ∧ j ≠ 7 ∧ j ≠ 8 → I' j = I j) ∧ (∀ f, f ≠ 6 → I' 4 f = I 4 f) ∧ (∀ j, j ≠ 9 → L' j = L j) := by
  intro f
  induction f with
  | zero =>
    intro o rd m I L K A V H w5 hf hr hm ho hB hw hT hK h1 h2
    exact x35_e o8 hE (by omega) hm hr hT hK h1 h2
  | succ f ih =>
    intro o rd m I L K A V H w5 hf hr hm ho hB hw hT hK h1 h2
    by_cases hoE : o = E
    · exact x35_e o8 hE hoE hm hr hT hK h1 h2
    · have hlt : o < E := by omega
      have hb := hB o hlt
      have e0 : ∀ {α : Type} {x y : α}, (if (900 : Int32) ≤ nI rd then x else y) = y := fun {α x y} => if_neg (nI_ge (b := 900) (by omega) (by omega))
      have e1 : ∀ {α : Type} {x y : α}, (if nI E ≤ nI o then x else y) = y := fun {α x y} => if_neg (nI_ge (by omega) (by omega))
      by_cases hbl : isb (B o) = true
      · have hv : B o = 10 ∨ B o = 32 := by unfold isb at hbl; simpa using hbl
        have hx := BX_n hb (by omega)
        obtain ⟨I', L', N, K', A', V', H', q1, q2⟩ := ih (o := o + 1) (rd := rd + 1) (m := m) (I := I) (L := L) (w5 := some (.int (I 5 o))) (by omega) (by omega) (by omega) (by omega) hB hw hT hK (by omega) (fun i i1 i2 => by
          by_cases q : i = o
          · subst q; exact hbl
          · exact h2 i i1 (by omega))
        refine ⟨I', L', N, K', A', V', H', ?_, q2⟩
        rw [b35_39 o8, e0, e1, if_pos (ib_nI (by omega) (by omega)), nI_clamp (by omega), show (4 + 1 : Nat) = 5 from rfl]
        rcases hv with g | g
        · rw [if_pos (show I 5 o = 10 by rw [hx, g]; rfl), b35_74, b35_130, nI_1, nI_1]; exact q1
        · rw [if_neg (show ¬ I 5 o = 10 by rw [hx, g]; decide), if_pos (show I 5 o = 32 by rw [hx, g]; rfl), b35_74, b35_130, nI_1, nI_1]; exact q1
      · have hbl' : isb (B o) = false := by simpa using hbl
        have hn : B o ≠ 10 ∧ B o ≠ 32 := by unfold isb at hbl; simpa using hbl
        have n10 : ¬ I 5 o = 10 := fun q => by
          rcases hb.2.2 with ⟨g1, g2⟩ | ⟨g1, g2⟩
          · rw [g2] at q; exact hn.1 ((nI_eq (a := B o) (b := 10) (by omega) (by omega)).mp q)
          · rw [q] at g2; exact absurd g2 (by decide)
        have n32 : ¬ I 5 o = 32 := fun q => by
          rcases hb.2.2 with ⟨g1, g2⟩ | ⟨g1, g2⟩
          · rw [g2] at q; exact hn.2 ((nI_eq (a := B o) (b := 32) (by omega) (by omega)).mp q)
          · rw [q] at g2; exact absurd g2 (by decide)
        have eH : hs_R scr (d + 3) 35 39 [some (.ref 4), some (.int x1), some (.int (nI E)), some (.int (nI o)), some (.int (nI rd)), w5] [] (hs_S0, I, L, R) = hs_R scr (d + 3) 35 85 [some (.ref 4), some (.int x1), some (.int (nI E)), some (.int (nI o)), some (.int (nI rd)), some (.int (I 5 o))] [.int (if isl (B o) = true then 1 else 0)] (hs_S0, I, L, R) := by
          rw [b35_39 o8, e0, e1, if_pos (ib_nI (by omega) (by omega)), nI_clamp (by omega), show (4 + 1 : Nat) = 5 from rfl, if_neg n10, if_neg n32, x36 hb]; rfl
        have fin : ∀ {k v h' : Nat}, Tk E B (H m) k o v h' → k ≠ 37 → o < h' → h' ≤ E → hs_R scr (d + 3) 35 39 [some (.ref 4), some (.int x1), some (.int (nI E)), some (.int (nI o)), some (.int (nI rd)), w5] [] (hs_S0, I, L, R) = hs_R scr (d + 3) 35 39 [some (.ref 4), some (.int x1), some (.int (nI E)), some (.int (nI h')), some (.int (nI (rd + 1))), some (.int (I 5 o))] [] (hs_S0, aI I m k o, aL L m v, R) → ∃ (I' : Nat → Nat → Int32) (L' : Nat → Nat → Int64) (N : Nat) (K' A' V' H' : Nat → Nat), hs_R scr (d + 3) 35 39 [some (.ref 4), some (.int x1), some (.int (nI E)), some (.int (nI o)), some (.int (nI rd)), w5] [] (hs_S0, I, L, R) = some (none, (hs_S0, I', L', R)) ∧ TF E B N I' L' K' A' V' H' ∧ (∀ j, j ≠ 4 ∧ j ≠ 7 ∧ j ≠ 8 → I' j = I j) ∧ (∀ f, f ≠ 6 → I' 4 f = I 4 f) ∧ (∀ j, j ≠ 9 → L' j = L j) := by
          intro k v h' ht hk h3 h4 eq
          have hH' : up H (m + 1) h' (m + 1) = h' := up_s _ _ _
          obtain ⟨I', L', N, K', A', V', H', q1, q2, q3, q4, q5⟩ := ih (o := h') (rd := rd + 1) (m := m + 1) (w5 := some (.int (I 5 o))) (by omega) (by omega) (by omega) h4 (fun i hi => by rw [aI_r (by omega)]; exact hB i hi) (fun j hj => by rw [aL_r (by omega)]; exact hw j hj) (TS_add hT ht) (fun j hj => by
            by_cases q : j = m
            · subst q; rw [up_s]; exact hk
            · rw [up_n _ _ q]; exact hK j (by omega)) (by rw [hH']; exact Nat.le_refl _) (fun i i1 i2 => by rw [hH'] at i1; omega)
          exact ⟨I', L', N, K', A', V', H', eq.trans q1, q2, fun j hj => (q3 j hj).trans (aI_r hj), fun f hf => (q4 f hf).trans (aI_4 hf), fun j hj => (q5 j hj).trans (aL_r hj)⟩
        cases hl : isl (B o) with
        | true =>
          obtain ⟨h', s1, s2, s3, s4⟩ := scan_ex (E := E) (B := B) isl (E - o) o (by omega)
          have s0 : o < h' := by
            by_cases q : o = h'
            · subst q; rw [s4 hlt] at hl; exact absurd hl (by decide)
            · omega
          obtain ⟨k, k1, k2, k3⟩ := x37 (scr := scr) (d := d + 1) (R := R) o8 hE hB hw s0 s2 s3 s4 hT.1 (show m ≤ 900 by omega)
          refine fin (k := k) (v := pkN B o (min 8 (h' - o))) (h' := h') ⟨h1, by omega, h2, fun _ => hbl', Or.inr (Or.inl ⟨hlt, s0, s2, s3, s4, rfl, k1⟩)⟩ (by omega) s0 s2 ?_
          rw [eH, hl, b35_85 o8]
          simp only [↓reduceIte, i10]
          rw [k3]
          simp only [Option.bind_some, Option.toList_some, Option.toList_none, List.append_nil, List.cons_append, List.nil_append, ↓reduceIte, true_or, or_true, Nat.reduceAdd, Nat.add_assoc, b35_94, b35_130, nI_1]
        | false =>
          have eH2 : hs_R scr (d + 3) 35 39 [some (.ref 4), some (.int x1), some (.int (nI E)), some (.int (nI o)), some (.int (nI rd)), w5] [] (hs_S0, I, L, R) = hs_R scr (d + 3) 35 103 [some (.ref 4), some (.int x1), some (.int (nI E)), some (.int (nI o)), some (.int (nI rd)), some (.int (I 5 o))] [.int (if isd (B o) = true then 1 else 0)] (hs_S0, I, L, R) := by
            rw [eH, hl, b35_85 o8]
            simp only [Bool.false_eq_true, ↓reduceIte]
            rw [x40 hb]; rfl
          cases hd : isd (B o) with
          | true =>
            obtain ⟨h', s1, s2, s3, s4⟩ := scan_ex (E := E) (B := B) isd (E - o) o (by omega)
            have s0 : o < h' := by
              by_cases q : o = h'
              · subst q; rw [s4 hlt] at hd; exact absurd hd (by decide)
              · omega
            refine fin (k := if h' - o ≤ 4 then 32 else 38) (v := nvN B o (min 4 (h' - o))) (h' := h') ⟨h1, by omega, h2, fun _ => hbl', Or.inr (Or.inr (Or.inl ⟨hlt, s0, s2, s3, s4, rfl, rfl⟩))⟩ (by split <;> omega) s0 s2 ?_
            rw [eH2, hd, b35_103 o8]
            simp only [↓reduceIte, i10]
            rw [x41 (d := d + 1) o8 hE hB s0 s2 s3 s4 hT.1 (show m ≤ 900 by omega)]
            simp only [Option.bind_some, Option.toList_some, Option.toList_none, List.append_nil, List.cons_append, List.nil_append, ↓reduceIte, true_or, or_true, Nat.reduceAdd, Nat.add_assoc, b35_112, b35_130, nI_1]
          | false =>
            have hsg := sgn_ne (B o)
            refine fin (k := sgn (B o)) (v := 0) (h' := o + 1) ⟨h1, by omega, h2, fun _ => hbl', Or.inr (Or.inr (Or.inr ⟨hlt, hl, hd, rfl, rfl, rfl⟩))⟩ hsg (by omega) (by omega) ?_
            rw [eH2, hd, b35_103 o8]
            simp only [Bool.false_eq_true, ↓reduceIte]
            rw [x42 hb]
            simp only [Option.bind_some, Option.toList_some, Option.toList_none, List.append_nil, List.cons_append, List.nil_append, ↓reduceIte, true_or, or_true, Nat.reduceAdd, Nat.add_assoc]
            rw [b35_122 o8, show (0 : Int64) = lN 0 from rfl, x39 o8 hT.1 (by omega)]
            simp only [Option.bind_some, Option.toList_some, Option.toList_none, List.append_nil, List.cons_append, List.nil_append, ↓reduceIte, true_or, or_true, Nat.reduceAdd, Nat.add_assoc, b35_127, b35_130, nI_1]
theorem x35 (o8 : ok8 hs_S0 R 4) {ts : Nat} (h5 : I 4 5 = nI ts) (hts : ts ≤ 900) (hE : E ≤ ts) (hB : ∀ i, i < E → BX (B i) (I 5 i)) (hw : ∀ j, j < 30 → L 6 j = hs_W0.getD j 0) : ∃ (I' : Nat → Nat → Int32) (L' : Nat → Nat → Int64) (N : Nat) (K A V H : Nat → Nat), hs_C scr (d + 3) 35 [.ref 4, .int (nI E)] (hs_S0, I, L, R) = some (none, (hs_S0, I', L', R)) ∧ TF E B N I' L' K A V H ∧ I' 4 5 = 0 ∧ I' 4 7 = 0 ∧ I' 4 11 = 0 ∧ I' 4 12 = -1 ∧ (∀ j, j ≠ 4 ∧ j ≠ 7 ∧ j ≠ 8 → I' j = I j) ∧ (∀ j, j ≠ 9 → L' j = L j) := by
  obtain ⟨I', L', N, K, A, V, H, q1, q2, q3, q4, q5⟩ := x35_l (scr := scr) (d := d) (x1 := nI E) (R := R) (B := B) o8 (show E ≤ 900 by omega) E (o := 0) (rd := 0) (m := 0) (I := hs_u (hs_u (hs_u (hs_u (hs_u I 4 5 0) 4 6 0) 4 7 0) 4 11 0) 4 12 (-1)) (L := L) (K := fun _ => 0) (A := fun _ => 0) (V := fun _ => 0) (H := fun _ => 0) (w5 := none) (by omega) (by omega) (by omega) (by omega) (fun i hi => by simp (disch := omega) only [hu_row]; exact hB i hi) hw ⟨by simp (disch := omega) only [hu_same, hu_row, hu_at, hu_hu]; rfl, rfl, fun j hj => by omega⟩ (fun j hj => by omega) (by omega) (fun i i1 i2 => by omega)
  refine ⟨I', L', N, K, A, V, H, ?_, q2, ?_, ?_, ?_, ?_, fun j hj => by rw [q3 j hj]; simp (disch := omega) only [hu_row], q5⟩
  · rw [nI_0] at q1
    rw [e35, b35_0 o8, h5, if_neg (nI_nlt hE (by omega))]; exact q1
  all_goals rw [q4 _ (by omega)]; simp (disch := omega) only [hu_same, hu_row, hu_at, hu_hu]
end TQ
/-! the reference takes the next token -/
theorem up_up {α : Type} (c : Nat → α) (b : Nat) (v w : α) : up (up c b v) b w = up c b w := by
  funext i; unfold up; by_cases g : i = b
  · rw [if_pos g, if_pos g]
  · rw [if_neg g, if_neg g, if_neg g]
def TokR (k v : Nat) (q : Nat → Int32) (l : Nat → Int64) : Prop := (k = 37 ∧ q 14 = 0) ∨ (k = 38 ∧ q 14 = 4) ∨ (k = 32 ∧ q 14 = 2 ∧ v ≤ 9999 ∧ q 17 = nI v) ∨ (k = 33 ∧ q 14 = 3 ∧ q 17 = 59) ∨ (k = 34 ∧ q 14 = 3 ∧ q 17 = 60) ∨ (k = 35 ∧ q 14 = 3 ∧ q 17 = 62) ∨ (k = 36 ∧ q 14 = 3 ∧ q 17 = 61) ∨ (k < 30 ∧ q 14 = 1 ∧ l 19 = hs_W0.getD k 0) ∨ (k = 30 ∧ q 14 = 1 ∧ l 19 = lN v ∧ 0 < v ∧ v < 2 ^ 40 ∧ (∀ j, j < 30 → hs_W0.getD j 0 ≠ lN v) ∧ ∃ n, n ≤ 8 ∧ q 18 = nI n) ∨ (k = 31 ∧ q 14 = 1 ∧ l 19 = -1 ∧ ∃ n, 8 < n ∧ n ≤ 900 ∧ q 18 = nI n)
section TR
variable {scr : List Int32} {d E a h' m k v p h : Nat} {B : Nat → Nat} {x1 : Int32} {q : Nat → Int32} {l : Nat → Int64} {J : Nat → Nat → Int32} {M : Nat → Nat → Int64} {R : Nat → Nat → Nat}
theorem m210 {ML : Nat → Nat → Int64} (o11 : ok11 hs_S0 R 140) (h9 : q 9 = nI E) (hE : E ≤ 900) (hB : ∀ i, i < E → J 144 i &&& 255 = nI (B i)) (hp : p ≤ 900) : hs_C scr d 210 [.ref 140, .int (nI p)] (hs_S0, hs_z J 140 q, ML, R) = some (some (.int (nI (if p < E then B p else 0))), (hs_S0, hs_z J 140 q, ML, R)) := by
  rw [e210, b210_0 o11, hz_s, h9]
  by_cases g : p < E
  · rw [if_neg (nI_ge g (by omega)), if_pos (ib_nI (by omega) (by omega)), nI_clamp (by omega), show (140 + 4 : Nat) = 144 from rfl, hz_row _ _ (by omega), hB p g, b210_22, if_pos g]
  · rw [if_pos (nI_le (by omega) (by omega)), b210_22, if_neg g]; rfl
theorem m209_s {ML : Nat → Nat → Int64} (o11 : ok11 hs_S0 R 140) (h9 : q 9 = nI E) (hE : E ≤ 900) (hB : ∀ i, i < E → J 144 i &&& 255 = nI (B i)) (hb : ∀ i, i < E → B i < 256) (ha : a ≤ E) (hbl : ∀ i, h ≤ i → i < a → isb (B i) = true) (hs : a < E → isb (B a) = false) : ∀ m p, p + m = a → h ≤ p → hs_R scr (d + 1) 209 8 [some (.ref 140), none] [] (hs_S0, hs_z J 140 (up q 15 (nI p)), ML, R) = hs_R scr (d + 1) 209 58 [some (.ref 140), none] [] (hs_S0, hs_z J 140 (up q 15 (nI a)), ML, R)
  | 0, p, e, hp => by
    have : p = a := by omega
    subst this
    rw [b209_8 o11, hz_s, up_s, up_n _ _ (by omega), h9]
    by_cases g : p < E
    · have hn : B p ≠ 10 ∧ B p ≠ 32 := by have := hs g; unfold isb at this; simpa using this
      have := hb p g
      rw [if_neg (nI_ge g (by omega)), m210 (q := up q 15 (nI p)) o11 h9 hE hB (by omega), if_pos g]
      simp only [Option.bind_some, Option.toList_some, Option.toList_none, List.append_nil, List.cons_append, List.nil_append, ↓reduceIte, true_or, or_true, Nat.reduceAdd, Nat.add_assoc]
      rw [b209_27 o11, if_neg (show ¬ nI (B p) = (10 : Int32) from fun q => hn.1 ((nI_eq (b := 10) (by omega) (by omega)).mp q)), hz_s, up_s, m210 (q := up q 15 (nI p)) o11 h9 hE hB (by omega), if_pos g]
      simp only [Option.bind_some, Option.toList_some, Option.toList_none, List.append_nil, List.cons_append, List.nil_append, ↓reduceIte, true_or, or_true, Nat.reduceAdd, Nat.add_assoc]
      rw [b209_40, if_neg (show ¬ nI (B p) = (32 : Int32) from fun q => hn.2 ((nI_eq (b := 32) (by omega) (by omega)).mp q))]
    · rw [if_pos (nI_le (by omega) (by omega))]
  | m + 1, p, e, hp => by
    have hv : B p = 10 ∨ B p = 32 := by have := hbl p hp (by omega); unfold isb at this; simpa using this
    have g : p < E := by omega
    have e45 : hs_R scr (d + 1) 209 45 [some (.ref 140), none] [] (hs_S0, hs_z J 140 (up q 15 (nI p)), ML, R) = hs_R scr (d + 1) 209 58 [some (.ref 140), none] [] (hs_S0, hs_z J 140 (up q 15 (nI a)), ML, R) := by
      rw [b209_45 o11, hz_s, up_s, hz_u, up_up, nI_1]
      exact m209_s o11 h9 hE hB hb ha hbl hs m (p + 1) (by omega) (by omega)
    rw [b209_8 o11, hz_s, up_s, up_n _ _ (by omega), h9, if_neg (nI_ge g (by omega)), m210 (q := up q 15 (nI p)) o11 h9 hE hB (by omega), if_pos g]
    simp only [Option.bind_some, Option.toList_some, Option.toList_none, List.append_nil, List.cons_append, List.nil_append, ↓reduceIte, true_or, or_true, Nat.reduceAdd, Nat.add_assoc]
    rw [b209_27 o11]
    rcases hv with hv | hv
    · rw [hv, if_pos (by decide)]; exact e45
    · rw [hv, if_neg (by decide), hz_s, up_s, m210 (q := up q 15 (nI p)) o11 h9 hE hB (by omega), if_pos g, hv]
      simp only [Option.bind_some, Option.toList_some, Option.toList_none, List.append_nil, List.cons_append, List.nil_append, ↓reduceIte, true_or, or_true, Nat.reduceAdd, Nat.add_assoc]
      rw [b209_40, if_pos (by decide)]; exact e45
def wvN (B : Nat → Nat) (a n : Nat) : Int64 := if n ≤ 8 then lN (pkN B a n) else -1
theorem m209_w (o11 : ok11 hs_S0 R 140) (h9 : q 9 = nI E) (h15 : q 15 = nI a) (hE : E ≤ 900) (hB : ∀ i, i < E → J 144 i &&& 255 = nI (B i)) (hb : ∀ i, i < E → B i < 256) (he : h' ≤ E) (hl : ∀ i, a ≤ i → i < h' → isl (B i) = true) (hs : h' < E → isl (B h') = false) : ∀ m p, p + m = h' → a ≤ p → hs_R scr (d + 1) 209 109 [some (.ref 140), some (.int x1)] [] (hs_S0, hs_z J 140 (up q 16 (nI p)), hs_z M 140 (up l 19 (wvN B a (p - a))), R) = some (none, (hs_S0, hs_z J 140 (up (up q 16 (nI h')) 18 (nI (h' - a))), hs_z M 140 (up l 19 (wvN B a (h' - a))), R))
  | 0, p, e, ha => by
    have : p = h' := by omega
    subst this
    have hv : isl (if p < E then B p else 0) = false := by
      by_cases g : p < E
      · rw [if_pos g]; exact hs g
      · rw [if_neg g]; decide
    have hb' : (if p < E then B p else 0) < 2 ^ 20 := by
      by_cases g : p < E
      · rw [if_pos g]; have := hb p g; omega
      · rw [if_neg g]; omega
    rw [b209_109 o11, hz_s, up_s, m210 (q := up q 16 (nI p)) o11 h9 hE hB (by omega)]
    simp only [Option.bind_some, Option.toList_some, Option.toList_none, List.append_nil, List.cons_append, List.nil_append, ↓reduceIte, true_or, or_true, Nat.reduceAdd, Nat.add_assoc]
    rw [b209_117, m211 hb', hv]
    simp only [Option.bind_some, Option.toList_some, Option.toList_none, List.append_nil, List.cons_append, List.nil_append, ↓reduceIte, true_or, or_true, Nat.reduceAdd, Nat.add_assoc, Bool.false_eq_true]
    rw [b209_120 o11, if_pos rfl, hz_s, up_s, up_n _ _ (by omega), h15, pk_sub ha, hz_u, b209_330]
  | m + 1, p, e, ha => by
    have hp := isl_b (hl p ha (by omega))
    have g : p < E := by omega
    rw [b209_109 o11, hz_s, up_s, m210 (q := up q 16 (nI p)) o11 h9 hE hB (by omega), if_pos g]
    simp only [Option.bind_some, Option.toList_some, Option.toList_none, List.append_nil, List.cons_append, List.nil_append, ↓reduceIte, true_or, or_true, Nat.reduceAdd, Nat.add_assoc]
    rw [b209_117, m211 (by omega), hl p ha (by omega)]
    simp only [Option.bind_some, Option.toList_some, Option.toList_none, List.append_nil, List.cons_append, List.nil_append, ↓reduceIte, true_or, or_true, Nat.reduceAdd, Nat.add_assoc]
    rw [b209_120 o11, if_neg (by decide), hz_s, up_s, up_n _ _ (by omega), h15, pk_sub ha]
    by_cases g8 : 8 ≤ p - a
    · rw [if_pos (show (8 : Int32) ≤ nI (p - a) from nI_le (a := 8) g8 (by omega)), b209_166 o11 o11, hz_s, up_s, hz_u, hz_u, up_up, up_up, nI_1]
      have ew : (-1 : Int64) = wvN B a (p + 1 - a) := by unfold wvN; rw [if_neg (by omega)]
      rw [ew]
      exact m209_w o11 h9 h15 hE hB hb he hl hs m (p + 1) (by omega) (by omega)
    · rw [if_neg (show ¬ (8 : Int32) ≤ nI (p - a) from nI_ge (b := 8) (by omega) (by omega)), m210 (q := up q 16 (nI p)) o11 h9 hE hB (by omega), if_pos g]
      simp only [Option.bind_some, Option.toList_some, Option.toList_none, List.append_nil, List.cons_append, List.nil_append, ↓reduceIte, true_or, or_true, Nat.reduceAdd, Nat.add_assoc]
      rw [b209_154, b209_166 o11 o11, hz_s, hz_s, up_s, up_s, hz_u, hz_u, up_up, up_up, nI_1, nI_l (by omega)]
      have ew : wvN B a (p - a) * 32 + lN (B p) - 96 = wvN B a (p + 1 - a) := by
        unfold wvN
        rw [if_pos (by omega), if_pos (by omega), show (32 : Int64) = lN 32 from rfl, lN_mul, lN_add, show (96 : Int64) = lN 96 from rfl, lN_sub (by omega), show p + 1 - a = (p - a) + 1 by omega, pkN, show a + (p - a) = p by omega]
        congr 1; omega
      rw [ew]
      exact m209_w o11 h9 h15 hE hB hb he hl hs m (p + 1) (by omega) (by omega)
theorem m209_n {ML : Nat → Nat → Int64} (o11 : ok11 hs_S0 R 140) (h9 : q 9 = nI E) (h15 : q 15 = nI a) (hE : E ≤ 900) (hB : ∀ i, i < E → J 144 i &&& 255 = nI (B i)) (hb : ∀ i, i < E → B i < 256) (he : h' ≤ E) (hl : ∀ i, a ≤ i → i < h' → isd (B i) = true) (hs : h' < E → isd (B h') = false) : ∀ m p, p + m = h' → a ≤ p → hs_R scr (d + 1) 209 210 [some (.ref 140), some (.int x1)] [] (hs_S0, hs_z J 140 (up (up q 16 (nI p)) 17 (nI (nvN B a (min 4 (p - a))))), ML, R) = some (none, (hs_S0, hs_z J 140 (up (up (up q 16 (nI h')) 17 (nI (nvN B a (min 4 (h' - a))))) 14 (if h' - a ≤ 4 then 2 else 4)), ML, R))
  | 0, p, e, ha => by
    have : p = h' := by omega
    subst this
    have hv : isd (if p < E then B p else 0) = false := by
      by_cases g : p < E
      · rw [if_pos g]; exact hs g
      · rw [if_neg g]; decide
    have hb' : (if p < E then B p else 0) < 2 ^ 20 := by
      by_cases g : p < E
      · rw [if_pos g]; have := hb p g; omega
      · rw [if_neg g]; omega
    rw [b209_210 o11, hz_s, up_n _ _ (by omega), up_s, m210 (q := up (up q 16 (nI p)) 17 (nI (nvN B a (min 4 (p - a))))) o11 h9 hE hB (by omega)]
    simp only [Option.bind_some, Option.toList_some, Option.toList_none, List.append_nil, List.cons_append, List.nil_append, ↓reduceIte, true_or, or_true, Nat.reduceAdd, Nat.add_assoc]
    rw [b209_218, m212 hb', hv]
    simp only [Option.bind_some, Option.toList_some, Option.toList_none, List.append_nil, List.cons_append, List.nil_append, ↓reduceIte, true_or, or_true, Nat.reduceAdd, Nat.add_assoc, Bool.false_eq_true]
    rw [b209_221 o11, if_pos rfl, hz_s, up_n _ _ (by omega), up_s, up_n _ _ (by omega), up_n _ _ (by omega), h15, pk_sub ha]
    by_cases g4 : p - a ≤ 4
    · rw [if_pos (show nI (p - a) ≤ (4 : Int32) from nI_le (b := 4) g4 (by omega)), b209_292 o11, hz_u, b209_330, if_pos g4]
    · rw [if_neg (show ¬ nI (p - a) ≤ (4 : Int32) from nI_ge (a := 4) (by omega) (by omega)), b209_292 o11, hz_u, b209_330, if_neg g4]
  | m + 1, p, e, ha => by
    have hp := isd_b (hl p ha (by omega))
    have g : p < E := by omega
    rw [b209_210 o11, hz_s, up_n _ _ (by omega), up_s, m210 (q := up (up q 16 (nI p)) 17 (nI (nvN B a (min 4 (p - a))))) o11 h9 hE hB (by omega), if_pos g]
    simp only [Option.bind_some, Option.toList_some, Option.toList_none, List.append_nil, List.cons_append, List.nil_append, ↓reduceIte, true_or, or_true, Nat.reduceAdd, Nat.add_assoc]
    rw [b209_218, m212 (by omega), hl p ha (by omega)]
    simp only [Option.bind_some, Option.toList_some, Option.toList_none, List.append_nil, List.cons_append, List.nil_append, ↓reduceIte, true_or, or_true, Nat.reduceAdd, Nat.add_assoc]
    rw [b209_221 o11, if_neg (by decide), hz_s, up_n _ _ (by omega), up_s, up_n _ _ (by omega), up_n _ _ (by omega), h15, pk_sub ha]
    have e260 : ∀ y : Int32, hs_R scr (d + 1) 209 260 [some (.ref 140), some (.int x1)] [] (hs_S0, hs_z J 140 (up (up q 16 (nI p)) 17 y), ML, R) = hs_R scr (d + 1) 209 210 [some (.ref 140), some (.int x1)] [] (hs_S0, hs_z J 140 (up (up q 16 (nI (p + 1))) 17 y), ML, R) := by
      intro y
      rw [b209_260 o11, hz_s, up_n _ _ (by omega), up_s, hz_u, nI_1]
      have : up (up (up q 16 (nI p)) 17 y) 16 (nI (p + 1)) = up (up q 16 (nI (p + 1))) 17 y := by
        funext i; unfold up; by_cases g1 : i = 16
        · subst g1; rfl
        · by_cases g2 : i = 17
          · subst g2; rfl
          · rw [if_neg g1, if_neg g2, if_neg g1, if_neg g2, if_neg g1]
      rw [this]
    by_cases g4 : 4 ≤ p - a
    · rw [if_pos (show (4 : Int32) ≤ nI (p - a) from nI_le (a := 4) g4 (by omega)), e260, show min 4 (p - a) = min 4 (p + 1 - a) by omega]
      exact m209_n o11 h9 h15 hE hB hb he hl hs m (p + 1) (by omega) (by omega)
    · rw [if_neg (show ¬ (4 : Int32) ≤ nI (p - a) from nI_ge (b := 4) (by omega) (by omega)), m210 (q := up (up q 16 (nI p)) 17 (nI (nvN B a (min 4 (p - a))))) o11 h9 hE hB (by omega), if_pos g]
      simp only [Option.bind_some, Option.toList_some, Option.toList_none, List.append_nil, List.cons_append, List.nil_append, ↓reduceIte, true_or, or_true, Nat.reduceAdd, Nat.add_assoc]
      rw [b209_253 o11, up_s, hz_u, up_up, show (10 : Int32) * nI (nvN B a (min 4 (p - a))) = nI (10 * nvN B a (min 4 (p - a))) from pk_mul 10 _, nI_add, show nI (10 * nvN B a (min 4 (p - a)) + B p) - 48 = nI (10 * nvN B a (min 4 (p - a)) + B p - 48) from pk_sub (b := 48) (by omega), e260]
      have ev : 10 * nvN B a (min 4 (p - a)) + B p - 48 = nvN B a (min 4 (p + 1 - a)) := by
        rw [show min 4 (p + 1 - a) = (p - a) + 1 by omega, show min 4 (p - a) = p - a by omega, nvN, show a + (p - a) = p by omega]; omega
      rw [ev]
      exact m209_n o11 h9 h15 hE hB hb he hl hs m (p + 1) (by omega) (by omega)
end TR
