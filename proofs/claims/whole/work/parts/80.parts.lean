/-! parts of a state's text: barber, ruler, party -/
def tld (o g : Bool) : Int32 := (if o = true then 64 else 0) ||| (if g = true then 128 else 0)
def RU0 (nr : Nat) (c : Nat → Int32) (I : Nat → Nat → Int32) (t : Nat) : Prop := nr ≤ 6 ∧ c 2 = nI nr ∧ I t 9 = nI nr ∧ ∀ k, k < nr → I (t + 12) k = c (52 + k) ∧ bd (c (52 + k)) 9
def Z0 (c : Nat → Int32) : Prop := c 58 = 0 ∧ c 127 = 0 ∧ ∀ k, k < 8 → c (34 + k) = 0
def SP (n np nr nl nb nq : Nat) (o g : Bool) (t : Nat) (I : Nat → Nat → Int32) (L : Nat → Nat → Int64) (J : Nat → Nat → Int32) (M : Nat → Nat → Int64) (q : Nat → Int32) : Prop := RH n (fun k => J 145 (1596 + k)) I t ∧ RP np (fun k => J 145 (1596 + k)) I t ∧ RU0 nr (fun k => J 145 (1596 + k)) I t ∧ RLk n nl (fun k => J 145 (1596 + k)) I t ∧ RB nb nq (fun k => J 145 (1596 + k)) I t ∧ RD (fun k => J 145 (1596 + k)) I t ∧ RN (sl5 n np nr nl nb) (fun k => M 148 (124 + k)) I L t ∧ Z0 (fun k => J 145 (1596 + k)) ∧ I 10 2 = (if o = true then 1 else 0) ∧ I 10 3 = (if g = true then 1 else 0) ∧ q 25 = tld o g
def FX (t : Nat) (I : Nat → Nat → Int32) (L : Nat → Nat → Int64) (I' : Nat → Nat → Int32) (L' : Nat → Nat → Int64) : Prop := (∀ k, k ≠ 4 → k ≠ 10 → (k < t ∨ t + 16 ≤ k) → I' k = I k) ∧ (∀ k, k ≠ 4 → k ≠ t + 2 → L' k = L k) ∧ I' 4 5 = I 4 5
def FM (J : Nat → Nat → Int32) (q : Nat → Int32) (M : Nat → Nat → Int64) (l : Nat → Int64) (J' : Nat → Nat → Int32) (q' : Nat → Int32) (M' : Nat → Nat → Int64) (l' : Nat → Int64) : Prop := (∀ k, k ≠ 145 → J' k = J k) ∧ (∀ f, f < 1596 → J' 145 f = J 145 f) ∧ (∀ k, k ≠ 148 → M' k = M k) ∧ (∀ f, f < 124 → M' 148 f = M 148 f) ∧ (∀ f, f < 12 ∨ (18 < f ∧ f ≠ 25) → q' f = q f) ∧ (∀ f, f ≠ 19 → l' f = l f)
def PRes (scr : List Int32) (dX dM E N : Nat) (B K A V H : Nat → Nat) (R R' : Nat → Nat → Nat) (t j jx jm : Nat) (as : List Value) (I : Nat → Nat → Int32) (L : Nat → Nat → Int64) (J : Nat → Nat → Int32) (q : Nat → Int32) (M : Nat → Nat → Int64) (l : Nat → Int64) : Prop := ∃ (I' : Nat → Nat → Int32) (L' : Nat → Nat → Int64) (J' : Nat → Nat → Int32) (q' : Nat → Int32) (M' : Nat → Nat → Int64) (l' : Nat → Int64), FX t I L I' L' ∧ FM J q M l J' q' M' l' ∧ hs_C scr dM jm (.ref 140 :: as) (hs_S0, hs_z J 140 q, hs_z M 140 l, R) = some (none, (hs_S0, hs_z J' 140 q', hs_z M' 140 l', R)) ∧ ((∃ j1, j < j1 ∧ j1 < N ∧ MC E K A V H j1 q' l' ∧ hs_C scr dX jx [.ref 10] (hs_S0, I, L, R') = some (some (.int (if K j1 = 33 then 1 else 0)), (hs_S0, I', L', R')) ∧ (K j1 = 33 → TC N K A V (j1 + 1) I' L' ∧ ∃ n np nr nl nb nq o g, SP n np nr nl nb nq o g t I' L' J' M' q') ∧ (K j1 ≠ 33 → BC (fk (K j1) 2) (A j1) I')) ∨ (∃ c a, hs_C scr dX jx [.ref 10] (hs_S0, I, L, R') = some (some (.int 0), (hs_S0, I', L', R')) ∧ BC c a I' ∧ BM c a q'))
def PH (E N : Nat) (B K A V H : Nat → Nat) (R R' : Nat → Nat → Nat) (t j : Nat) (I : Nat → Nat → Int32) (L : Nat → Nat → Int64) (J : Nat → Nat → Int32) (q : Nat → Int32) (M : Nat → Nat → Int64) (l : Nat → Int64) (n np nr nl nb nq : Nat) (o g : Bool) : Prop := ok11 hs_S0 R 140 ∧ ok7 hs_S0 R' 10 ∧ R' 10 0 = 4 ∧ R' 10 1 = t ∧ ok8 hs_S0 R' 4 ∧ ok4 hs_S0 R' t ∧ (t = 18 ∨ t = 34) ∧ TKS E N B K A V H ∧ JB E B J ∧ j + 1 < N ∧ TC N K A V (j + 1) I L ∧ CU K A V j I L ∧ MC E K A V H j q l ∧ SP n np nr nl nb nq o g t I L J M q
section PT
variable {scr : List Int32} {dX dM d E N j j1 c a k v t s most n np nr nl nb nq : Nat} {o g : Bool} {B K A V H cn : Nat → Nat} {q q' : Nat → Int32} {l l' : Nat → Int64} {w : Nat → Int64} {y : Int64} {I J I' J' : Nat → Nat → Int32} {L M L' M' : Nat → Nat → Int64} {R R' : Nat → Nat → Nat}
theorem FX_rf : FX t I L I L := ⟨fun _ _ _ _ => rfl, fun _ _ _ => rfl, rfl⟩
theorem FX_tr {I'' : Nat → Nat → Int32} {L'' : Nat → Nat → Int64} (h1 : FX t I L I' L') (h2 : FX t I' L' I'' L'') : FX t I L I'' L'' := ⟨fun k a b c => (h2.1 k a b c).trans (h1.1 k a b c), fun k a b => (h2.2.1 k a b).trans (h1.2.1 k a b), h2.2.2.trans h1.2.2⟩
theorem FX_4 (h : T4 I L I' L') : FX t I L I' L' := ⟨fun k a _ _ => h.1 k a, fun k a _ => h.2.1 k a, h.2.2⟩
theorem FM_rf : FM J q M l J q M l := ⟨fun _ _ => rfl, fun _ _ => rfl, fun _ _ => rfl, fun _ _ => rfl, fun _ _ => rfl, fun _ _ => rfl⟩
theorem FM_tr {J'' : Nat → Nat → Int32} {q'' : Nat → Int32} {M'' : Nat → Nat → Int64} {l'' : Nat → Int64} (h1 : FM J q M l J' q' M' l') (h2 : FM J' q' M' l' J'' q'' M'' l'') : FM J q M l J'' q'' M'' l'' := ⟨fun k a => (h2.1 k a).trans (h1.1 k a), fun f a => (h2.2.1 f a).trans (h1.2.1 f a), fun k a => (h2.2.2.1 k a).trans (h1.2.2.1 k a), fun f a => (h2.2.2.2.1 f a).trans (h1.2.2.2.1 f a), fun f a => (h2.2.2.2.2.1 f a).trans (h1.2.2.2.2.1 f a), fun f a => (h2.2.2.2.2.2 f a).trans (h1.2.2.2.2.2 f a)⟩
theorem FM_q (h : T140 q l q' l') : FM J q M l J q' M l' := ⟨fun _ _ => rfl, fun _ _ => rfl, fun _ _ => rfl, fun _ _ => rfl, fun f hf => h.1 f (by omega), h.2⟩
theorem FM_J {f : Nat} {x : Int32} (hf : 1596 ≤ f) : FM J q M l (hs_u J 145 f x) q M l := ⟨fun k hk => hu_row _ _ hk, fun f' hf' => hu_at _ _ (by omega), fun _ _ => rfl, fun _ _ => rfl, fun _ _ => rfl, fun _ _ => rfl⟩
theorem FM_M (h1 : ∀ k, k ≠ 148 → M' k = M k) (h2 : ∀ f, f < 124 → M' 148 f = M 148 f) : FM J q M l J q M' l := ⟨fun _ _ => rfl, fun _ _ => rfl, h1, h2, fun _ _ => rfl, fun _ _ => rfl⟩
theorem RU0_cg {c c' : Nat → Int32} {t' : Nat} (h : RU0 nr c I t) (hc : ∀ k, k = 2 ∨ (52 ≤ k ∧ k < 58) → c' k = c k) (h0 : I' t' 9 = I t 9) (h6 : I' (t' + 12) = I (t + 12)) : RU0 nr c' I' t' := by
  obtain ⟨a1, a2, a3, a4⟩ := h
  refine ⟨a1, (hc 2 (by omega)).trans a2, by rw [h0]; exact a3, fun k hk => ?_⟩
  rw [h6, hc (52 + k) (by omega)]
  exact a4 k hk
theorem Z0_cg {c c' : Nat → Int32} (h : Z0 c) (hc : ∀ k, k = 58 ∨ k = 127 ∨ (34 ≤ k ∧ k < 42) → c' k = c k) : Z0 c' := ⟨(hc 58 (by omega)).trans h.1, (hc 127 (by omega)).trans h.2.1, fun k hk => (hc (34 + k) (by omega)).trans (h.2.2 k hk)⟩
theorem SP_cg (h : SP n np nr nl nb nq o g t I L J M q) (hI : ∀ k, k = 10 ∨ (t ≤ k ∧ k < t + 16) → I' k = I k) (hL : L' (t + 2) = L (t + 2)) (hJ : ∀ k, k < 399 → J' 145 (1596 + k) = J 145 (1596 + k)) (hM : ∀ k, k < 31 → M' 148 (124 + k) = M 148 (124 + k)) (hq : q' 25 = q 25) : SP n np nr nl nb nq o g t I' L' J' M' q' := by
  obtain ⟨a1, a2, a3, a4, a5, a6, a7, a8, a9, a10, a11⟩ := h
  have h0 : I' t = I t := hI t (by omega)
  have hj : ∀ f, I' t f = I t f := fun f => by rw [h0]
  exact ⟨RH_cg a1 (fun k hk => hJ k (by omega)) (by rw [hI (t + 5) (by omega)]) (hI _ (by omega)) (hI _ (by omega)) (hI _ (by omega)) (hI _ (by omega)), RP_cg a2 (fun k hk => hJ k (by omega)) (hj _) (hI _ (by omega)) (hI _ (by omega)), RU0_cg a3 (fun k hk => hJ k (by omega)) (hj _) (hI _ (by omega)), RLk_cg a4 (fun k hk => hJ k (by omega)) (hj _) (hI _ (by omega)), RB_cg a5 (fun k hk => hJ k (by omega)) (hj _) (hj _) (hI _ (by omega)) (hI _ (by omega)), RD_cg a6 (fun k hk => hJ k (by omega)) (hj _) (hj _) (hj _) (hj _), RN_cg a7 (fun k hk => hM k (by omega)) (by rw [hI (t + 1) (by omega)]) (hI _ (by omega)) (hI _ (by omega)) hL, Z0_cg a8 (fun k hk => hJ k (by omega)), by rw [hI 10 (by omega)]; exact a9, by rw [hI 10 (by omega)]; exact a10, hq.trans a11⟩
theorem SP_4 (ht : 11 ≤ t) (h : SP n np nr nl nb nq o g t I L J M q) (h4 : T4 I L I' L') (hq : q' 25 = q 25) : SP n np nr nl nb nq o g t I' L' J M q' := SP_cg h (fun k hk => h4.1 k (by omega)) (h4.2.1 _ (by omega)) (fun _ _ => rfl) (fun _ _ => rfl) hq
theorem TC_r (h : TC N K A V j I L) (hI : ∀ k, k = 4 ∨ k = 7 ∨ k = 8 → I' k = I k) (hL : L' 9 = L 9) : TC N K A V j I' L' := by
  unfold TC at h ⊢
  rw [hI 4 (by omega), hI 7 (by omega), hI 8 (by omega), hL]; exact h
theorem SP_cnb (h : SP n np nr nl nb nq o g t I L J M q) : cnb (sl5 n np nr nl nb) ∧ ∀ s, s < 5 → J 145 (1596 + s) = nI (sl5 n np nr nl nb s) := by
  obtain ⟨a1, a2, a3, a4, a5, _⟩ := h
  refine ⟨⟨by rw [sl5_0]; exact a1.1, by rw [sl5_1]; exact a2.1, by rw [sl5_2]; exact a3.1, by rw [sl5_3]; exact a4.1, by rw [sl5_4]; exact a5.1⟩, fun s hs => ?_⟩
  rcases (show s = 0 ∨ s = 1 ∨ s = 2 ∨ s = 3 ∨ s = 4 by omega) with rfl | rfl | rfl | rfl | rfl
  · rw [sl5_0]; exact a1.2.1
  · rw [sl5_1]; exact a2.2.1
  · rw [sl5_2]; exact a3.2.1
  · rw [sl5_3]; exact a4.2.1
  · rw [sl5_4]; exact a5.2.2.1
/-- a new name when there is no more room -/
theorem m227f (o11 : ok11 hs_S0 R 140) (h : MC E K A V H j q l) (hs : s < 5) (hn : J 145 (1596 + s) = nI most) : ∃ q', hs_C scr (d + 2) 227 [.ref 140, .int (nI s), .int (nI most)] (hs_S0, hs_z J 140 q, hs_z M 140 l, R) = some (some (.int 0), (hs_S0, hs_z J 140 q', hs_z M 140 l, R)) ∧ BM 6 (A j) q' ∧ T140 q l q' l := by
  refine ⟨up (up q 12 (nI 6)) 13 (nI (A j)), ?_, ⟨rfl, rfl, by omega, by omega⟩, ⟨fun f hf => by rw [up_n _ _ (by omega), up_n _ _ (by omega)], fun _ _ => rfl⟩⟩
  rw [e227, b227_0 o11, ad1596, if_pos (ib_nI (by omega) (by omega)), nI_clamp (by omega), show (140 + 5 : Nat) = 145 from rfl, hz_row _ _ (by omega), hn, if_pos rfl, hz_s, h.2.1, show (6 : Int32) = nI 6 from rfl, m220 o11 h.2.2.2.2]
  simp only [Option.bind_some, Option.toList_some, Option.toList_none, List.append_nil, List.cons_append, List.nil_append, ↓reduceIte, true_or, or_true, Nat.reduceAdd, Nat.add_assoc]
  rw [b227_26 o11, hz_s, if_neg (show ¬ up (up q 12 (nI 6)) 13 (nI (A j)) 12 ≤ 0 by show ¬ nI 6 ≤ 0; decide)]
theorem m217g {x : Int64} (o11 : ok11 hs_S0 R 140) : ∃ b : Int32, hs_C scr d 217 [.ref 140, .long x] (hs_S0, hs_z J 140 q, hs_z M 140 l, R) = some (some (.int b), (hs_S0, hs_z J 140 q, hs_z M 140 l, R)) ∧ (b = 0 ∨ b = 1) := by
  rw [e217, b217_0 o11]
  by_cases g1 : hs_z J 140 q 140 14 = 1
  · rw [if_pos g1]
    by_cases g2 : lg_cmp (hs_z M 140 l 140 19) x = 0
    · rw [if_pos g2, b217_22]; exact ⟨1, rfl, Or.inr rfl⟩
    · rw [if_neg g2, b217_21, b217_22]; exact ⟨0, rfl, Or.inl rfl⟩
  · rw [if_neg g1, b217_21, b217_22]; exact ⟨0, rfl, Or.inl rfl⟩
theorem m242g (o11 : ok11 hs_S0 R 140) : ∃ b : Int32, hs_C scr (d + 1) 242 [.ref 140] (hs_S0, hs_z J 140 q, hs_z M 140 l, R) = some (some (.int b), (hs_S0, hs_z J 140 q, hs_z M 140 l, R)) ∧ (b = 0 ∨ b = 1) := by
  obtain ⟨b, h1, h2⟩ := m217g (scr := scr) (d := d) (x := hs_W0.getD 3 0) (q := q) (l := l) (J := J) (M := M) o11
  refine ⟨b, ?_, h2⟩
  rw [e242, b242_0, s216_3]
  simp only [Option.bind_some, Option.toList_some, Option.toList_none, List.append_nil, List.cons_append, List.nil_append, ↓reduceIte, true_or, or_true, Nat.reduceAdd, Nat.add_assoc]
  rw [b242_16 o11, h1]
  simp only [Option.bind_some, Option.toList_some, Option.toList_none, List.append_nil, List.cons_append, List.nil_append, ↓reduceIte, true_or, or_true, Nat.reduceAdd, Nat.add_assoc]
  rw [b242_19, if_pos h2]
theorem m230g (o11 : ok11 hs_S0 R 140) : ∃ b : Int32, hs_C scr (d + 1) 230 [.ref 140] (hs_S0, hs_z J 140 q, hs_z M 140 l, R) = some (some (.int b), (hs_S0, hs_z J 140 q, hs_z M 140 l, R)) ∧ (b = 0 ∨ b = 1) := by
  obtain ⟨b, h1, h2⟩ := m217g (scr := scr) (d := d) (x := hs_W0.getD 4 0) (q := q) (l := l) (J := J) (M := M) o11
  refine ⟨b, ?_, h2⟩
  rw [e230, b230_0, s216_4]
  simp only [Option.bind_some, Option.toList_some, Option.toList_none, List.append_nil, List.cons_append, List.nil_append, ↓reduceIte, true_or, or_true, Nat.reduceAdd, Nat.add_assoc]
  rw [b230_15 o11, h1]
  simp only [Option.bind_some, Option.toList_some, Option.toList_none, List.append_nil, List.cons_append, List.nil_append, ↓reduceIte, true_or, or_true, Nat.reduceAdd, Nat.add_assoc]
  rw [b230_18, if_pos h2]
theorem m232g (o11 : ok11 hs_S0 R 140) : ∃ b : Int32, hs_C scr (d + 1) 232 [.ref 140] (hs_S0, hs_z J 140 q, hs_z M 140 l, R) = some (some (.int b), (hs_S0, hs_z J 140 q, hs_z M 140 l, R)) ∧ (b = 0 ∨ b = 1) := by
  obtain ⟨b, h1, h2⟩ := m217g (scr := scr) (d := d) (x := hs_W0.getD 10 0) (q := q) (l := l) (J := J) (M := M) o11
  refine ⟨b, ?_, h2⟩
  rw [e232, b232_0, s216_10]
  simp only [Option.bind_some, Option.toList_some, Option.toList_none, List.append_nil, List.cons_append, List.nil_append, ↓reduceIte, true_or, or_true, Nat.reduceAdd, Nat.add_assoc]
  rw [b232_15 o11, h1]
  simp only [Option.bind_some, Option.toList_some, Option.toList_none, List.append_nil, List.cons_append, List.nil_append, ↓reduceIte, true_or, or_true, Nat.reduceAdd, Nat.add_assoc]
  rw [b232_18, if_pos h2]
theorem m233g (o11 : ok11 hs_S0 R 140) : ∃ b : Int32, hs_C scr (d + 1) 233 [.ref 140] (hs_S0, hs_z J 140 q, hs_z M 140 l, R) = some (some (.int b), (hs_S0, hs_z J 140 q, hs_z M 140 l, R)) ∧ (b = 0 ∨ b = 1) := by
  obtain ⟨b, h1, h2⟩ := m217g (scr := scr) (d := d) (x := hs_W0.getD 11 0) (q := q) (l := l) (J := J) (M := M) o11
  refine ⟨b, ?_, h2⟩
  rw [e233, b233_0, s216_11]
  simp only [Option.bind_some, Option.toList_some, Option.toList_none, List.append_nil, List.cons_append, List.nil_append, ↓reduceIte, true_or, or_true, Nat.reduceAdd, Nat.add_assoc]
  rw [b233_15 o11, h1]
  simp only [Option.bind_some, Option.toList_some, Option.toList_none, List.append_nil, List.cons_append, List.nil_append, ↓reduceIte, true_or, or_true, Nat.reduceAdd, Nat.add_assoc]
  rw [b233_18, if_pos h2]
theorem m235g (o11 : ok11 hs_S0 R 140) : ∃ b : Int32, hs_C scr (d + 1) 235 [.ref 140] (hs_S0, hs_z J 140 q, hs_z M 140 l, R) = some (some (.int b), (hs_S0, hs_z J 140 q, hs_z M 140 l, R)) ∧ (b = 0 ∨ b = 1) := by
  obtain ⟨b, h1, h2⟩ := m217g (scr := scr) (d := d) (x := hs_W0.getD 13 0) (q := q) (l := l) (J := J) (M := M) o11
  refine ⟨b, ?_, h2⟩
  rw [e235, b235_0, s216_13]
  simp only [Option.bind_some, Option.toList_some, Option.toList_none, List.append_nil, List.cons_append, List.nil_append, ↓reduceIte, true_or, or_true, Nat.reduceAdd, Nat.add_assoc]
  rw [b235_13 o11, h1]
  simp only [Option.bind_some, Option.toList_some, Option.toList_none, List.append_nil, List.cons_append, List.nil_append, ↓reduceIte, true_or, or_true, Nat.reduceAdd, Nat.add_assoc]
  rw [b235_16, if_pos h2]
theorem m243g (o11 : ok11 hs_S0 R 140) : ∃ b : Int32, hs_C scr (d + 1) 243 [.ref 140] (hs_S0, hs_z J 140 q, hs_z M 140 l, R) = some (some (.int b), (hs_S0, hs_z J 140 q, hs_z M 140 l, R)) ∧ (b = 0 ∨ b = 1) := by
  obtain ⟨b, h1, h2⟩ := m217g (scr := scr) (d := d) (x := hs_W0.getD 28 0) (q := q) (l := l) (J := J) (M := M) o11
  refine ⟨b, ?_, h2⟩
  rw [e243, b243_0, s216_28]
  simp only [Option.bind_some, Option.toList_some, Option.toList_none, List.append_nil, List.cons_append, List.nil_append, ↓reduceIte, true_or, or_true, Nat.reduceAdd, Nat.add_assoc]
  rw [b243_13 o11, h1]
  simp only [Option.bind_some, Option.toList_some, Option.toList_none, List.append_nil, List.cons_append, List.nil_append, ↓reduceIte, true_or, or_true, Nat.reduceAdd, Nat.add_assoc]
  rw [b243_16, if_pos h2]
theorem m257g {x : Int32} (o11 : ok11 hs_S0 R 140) : ∃ b : Int32, hs_C scr d 257 [.ref 140, .int x] (hs_S0, hs_z J 140 q, hs_z M 140 l, R) = some (some (.int b), (hs_S0, hs_z J 140 q, hs_z M 140 l, R)) ∧ (b = 0 ∨ b = 1) := by
  rw [e257, b257_0 o11]
  by_cases g1 : hs_z J 140 q 140 14 = 3
  · rw [if_pos g1]
    by_cases g2 : hs_z J 140 q 140 17 = x
    · rw [if_pos g2, b257_21]; exact ⟨1, rfl, Or.inr rfl⟩
    · rw [if_neg g2, b257_20, b257_21]; exact ⟨0, rfl, Or.inl rfl⟩
  · rw [if_neg g1, b257_20, b257_21]; exact ⟨0, rfl, Or.inl rfl⟩
theorem fk_n (h : k ≠ 38) : fk k c = c := if_neg h
theorem cnb_up (h : cnb (sl5 n np nr nl nb)) {s x : Nat} (hx : cnb (up (sl5 n np nr nl nb) s x)) : cnb (up (sl5 n np nr nl nb) s x) := hx
theorem rdBarber (hP : PH E N B K A V H R R' t j I L J q M l n np nr nl nb nq o g) (hk : K j ≠ 38) : PRes scr (d + 8) (d + 9) E N B K A V H R R' t j 63 253 [] I L J q M l := by
  obtain ⟨o11, o7, r0, r1, o8, o4, ht, hK, hJ, hj, hT, hC, hM, hS⟩ := hP; obtain ⟨hcn, hcnt⟩ := SP_cnb hS; have hkj := (hK.2.2.2.2.2 j (by omega)).1; obtain ⟨sH, sP, sU, sL, sB, sD, sN, sZ, so, sg, sq⟩ := id hS
  have hnb := sB.1
  have eI : I t 11 = nI nb := sB.2.2.2.1
  by_cases g6 : nb < 6
  · have e4 : sl5 n np nr nl nb 4 = nb := sl5_4
    have hcn' : cnb (up (sl5 n np nr nl nb) 4 (sl5 n np nr nl nb 4 + 1)) := by
      obtain ⟨b0, b1, b2, b3, b4⟩ := hcn
      exact ⟨b0, b1, b2, b3, by rw [up_s, e4]; omega⟩
    obtain ⟨I1, L1, q1, l1, M1, f1, f2, f3, f4, f5, f6, hor⟩ := jNew (scr := scr) (d := d + 4) (dm := d + 2) (s := 4) (most := 6) o11 o7 r0 r1 o8 o4 (by omega) (by omega) hK hJ hj hT hM (by omega) hcn hcn' hcnt sN (by rw [e4]; exact g6) (by omega)
    rw [e4] at hor
    have eX : hs_C scr (d + 8) 63 [.ref 10] (hs_S0, I, L, R') = ((hs_C scr (d + 7) 53 [.ref 10, .int (kd 4), .int (nI nb)] (hs_S0, I, L, R')).bind fun o => hs_R scr (d + 8) 63 35 [some (.ref 10)] (o.1.toList ++ []) o.2) := by
      rw [e63, b63_0 o7 r1 o4 r0 o8, eI, if_pos (show nI nb < (6 : Int32) from nI_lt (b := 6) g6 (by omega))]; rfl
    have eM : hs_C scr (d + 9) 253 [.ref 140] (hs_S0, hs_z J 140 q, hs_z M 140 l, R) = ((hs_C scr (d + 8) 227 [.ref 140, .int (nI 4), .int (nI 6)] (hs_S0, hs_z J 140 q, hs_z M 140 l, R)).bind fun o => hs_R scr (d + 9) 253 7 [some (.ref 140)] (o.1.toList ++ []) o.2) := by
      rw [e253, b253_0 o11]; rfl
    have hF1 : FX t I L I1 L1 := ⟨fun k a b c => f1 k a (by omega) (by omega) (by omega), fun k a b => f2 k a b, f3⟩
    rcases hor with ⟨a1, a2, a3, a4, a5, a6⟩ | ⟨c, a, a1, a2, a3, a4⟩
    · have hT1 : TC N K A V (j + 2) (hs_u I1 t 11 (nI (nb + 1))) L1 := TC_r a4 (fun k hk => hu_row _ _ (by omega)) rfl
      obtain ⟨I2, L2, z1, z2, z3, z4, z5⟩ := x49 (scr := scr) (d := d + 6) (W := 33) (R := R') o8 hK hT1 a3 (by omega)
      have eI1 : I1 t 11 = nI nb := by rw [f1 t (by omega) (by omega) (by omega) (by omega)]; exact eI
      have eJ : J 145 1600 = nI nb := sB.2.2.1
      have hSP : SP n np nr nl (nb + 1) nq o g t (hs_u I1 t 11 (nI (nb + 1))) L1 (hs_u J 145 1600 (nI (nb + 1))) M1 q1 := by
        refine ⟨RH_cg sH (fun k hk => hu_at _ _ (by omega)) (by rw [hu_row _ _ (by omega), f1 _ (by omega) (by omega) (by omega) (by omega)]) (by rw [hu_row _ _ (by omega), f1 _ (by omega) (by omega) (by omega) (by omega)]) (by rw [hu_row _ _ (by omega), f1 _ (by omega) (by omega) (by omega) (by omega)]) (by rw [hu_row _ _ (by omega), f1 _ (by omega) (by omega) (by omega) (by omega)]) (by rw [hu_row _ _ (by omega), f1 _ (by omega) (by omega) (by omega) (by omega)]), RP_cg sP (fun k hk => hu_at _ _ (by omega)) (by rw [hu_at _ _ (by omega), f1 _ (by omega) (by omega) (by omega) (by omega)]) (by rw [hu_row _ _ (by omega), f1 _ (by omega) (by omega) (by omega) (by omega)]) (by rw [hu_row _ _ (by omega), f1 _ (by omega) (by omega) (by omega) (by omega)]), RU0_cg sU (fun k hk => hu_at _ _ (by omega)) (by rw [hu_at _ _ (by omega), f1 _ (by omega) (by omega) (by omega) (by omega)]) (by rw [hu_row _ _ (by omega), f1 _ (by omega) (by omega) (by omega) (by omega)]), RLk_cg sL (fun k hk => hu_at _ _ (by omega)) (by rw [hu_at _ _ (by omega), f1 _ (by omega) (by omega) (by omega) (by omega)]) (by rw [hu_row _ _ (by omega), f1 _ (by omega) (by omega) (by omega) (by omega)]), ?_, RD_cg sD (fun k hk => hu_at _ _ (by omega)) (by rw [hu_at _ _ (by omega), f1 _ (by omega) (by omega) (by omega) (by omega)]) (by rw [hu_at _ _ (by omega), f1 _ (by omega) (by omega) (by omega) (by omega)]) (by rw [hu_at _ _ (by omega), f1 _ (by omega) (by omega) (by omega) (by omega)]) (by rw [hu_at _ _ (by omega), f1 _ (by omega) (by omega) (by omega) (by omega)]), ?_, Z0_cg sZ (fun k hk => hu_at _ _ (by omega)), by rw [hu_row _ _ (by omega), f1 _ (by omega) (by omega) (by omega) (by omega)]; exact so, by rw [hu_row _ _ (by omega), f1 _ (by omega) (by omega) (by omega) (by omega)]; exact sg, (f4.1 25 (by omega)).trans sq⟩
        · obtain ⟨b1, b2, b3, b4, b5, b6, b7⟩ := sB
          refine ⟨by omega, b2, hu_same _ _ _ _, hu_same _ _ _ _, (hu_at _ _ (by omega)).trans b5, by rw [hu_at _ _ (by omega), f1 _ (by omega) (by omega) (by omega) (by omega)]; exact b6, fun k hk => ?_⟩
          obtain ⟨c1, c2, ⟨j1, c3, c4⟩, ⟨j2, c5, c6⟩⟩ := b7 k hk
          show hs_u I1 t 11 (nI (nb + 1)) (t + 14) k = hs_u J 145 1600 (nI (nb + 1)) 145 (1596 + (107 + k)) ∧ hs_u I1 t 11 (nI (nb + 1)) (t + 15) k = hs_u J 145 1600 (nI (nb + 1)) 145 (1596 + (117 + k)) ∧ (∃ j, j < nb + 1 ∧ hs_u J 145 1600 (nI (nb + 1)) 145 (1596 + (107 + k)) = nI j) ∧ (∃ j, j < nb + 1 ∧ hs_u J 145 1600 (nI (nb + 1)) 145 (1596 + (117 + k)) = nI j)
          simp (disch := omega) only [hu_row, hu_at, f1]
          exact ⟨c1, c2, ⟨j1, by omega, c4⟩, ⟨j2, by omega, c6⟩⟩
        · refine RN_cg (RN_cn a6 (cn' := sl5 n np nr nl (nb + 1)) (fun s hs => ?_)) (fun k hk => rfl) (by rw [hu_row _ _ (by omega)]) (hu_row _ _ (by omega)) (hu_row _ _ (by omega)) rfl
          rcases (show s = 0 ∨ s = 1 ∨ s = 2 ∨ s = 3 ∨ s = 4 by omega) with rfl | rfl | rfl | rfl | rfl
          · rfl
          · rfl
          · rfl
          · rfl
          · rw [up_s]; rfl
      refine ⟨I2, L2, hs_u J 145 1600 (nI (nb + 1)), q1, M1, l1, FX_tr hF1 (FX_tr ⟨fun k a b c => hu_row _ _ (by omega), fun _ _ _ => rfl, hu_at _ _ (by omega)⟩ (FX_4 z2)), FM_tr (FM_q f4) (FM_tr (FM_M f5 f6) (FM_J (by omega))), ?_, Or.inl ⟨j + 2, by omega, a3, a5, ?_, fun q => ⟨z3 q, n, np, nr, nl, nb + 1, nq, o, g, SP_4 (by omega) hSP z2 rfl⟩, z5⟩⟩
      · rw [eM, a2]
        simp only [Option.bind_some, Option.toList_some, Option.toList_none, List.append_nil, List.cons_append, List.nil_append, ↓reduceIte, true_or, or_true, Nat.reduceAdd, Nat.add_assoc]
        rw [b253_7 o11, hz_s, a5.2.2.2.2, if_pos rfl, show (140 + 5 : Nat) = 145 from rfl, hz_row _ _ (by omega), eJ, nI_1, hz_cm _ _ _ (by omega), b253_27]
      · rw [eX, a1]
        simp only [Option.bind_some, Option.toList_some, Option.toList_none, List.append_nil, List.cons_append, List.nil_append, ↓reduceIte, true_or, or_true, Nat.reduceAdd, Nat.add_assoc]
        rw [b63_35 o7 r1 o4 r0 o8, if_neg (by decide), eI1, nI_1, show (33 : Int32) = nI 33 from rfl, z1]
        simp only [Option.bind_some, Option.toList_some, Option.toList_none, List.append_nil, List.cons_append, List.nil_append, ↓reduceIte, true_or, or_true, Nat.reduceAdd, Nat.add_assoc]
        rw [b63_62, ib01]
    · refine ⟨I1, L1, J, q1, M1, l1, hF1, FM_tr (FM_q f4) (FM_M f5 f6), ?_, Or.inr ⟨c, a, ?_, a2, a4⟩⟩
      · rw [eM, a3]
        simp only [Option.bind_some, Option.toList_some, Option.toList_none, List.append_nil, List.cons_append, List.nil_append, ↓reduceIte, true_or, or_true, Nat.reduceAdd, Nat.add_assoc]
        rw [b253_7 o11, hz_s, if_neg (BM_n a4).2.1, b253_27]
      · rw [eX, a1]
        simp only [Option.bind_some, Option.toList_some, Option.toList_none, List.append_nil, List.cons_append, List.nil_append, ↓reduceIte, true_or, or_true, Nat.reduceAdd, Nat.add_assoc]
        rw [b63_35 o7 r1 o4 r0 o8, if_pos rfl]
  · have e6 : nb = 6 := by omega
    obtain ⟨q1, a1, a2, a3⟩ := m227f (scr := scr) (d := d + 6) (s := 4) (most := 6) (J := J) (M := M) o11 hM (by omega) (by rw [hcnt 4 (by omega), sl5_4, e6])
    obtain ⟨I1, z1, z2, z3, z4⟩ := x47 (scr := scr) (d := d + 7) (c := 6) (R := R') o8 hC hkj
    rw [fk_n hk] at z2
    refine ⟨I1, L, J, q1, M, l, FX_4 z3, FM_q a3, ?_, Or.inr ⟨6, A j, ?_, z2, a2⟩⟩
    · rw [e253, b253_0 o11, show (4 : Int32) = nI 4 from rfl, show (6 : Int32) = nI 6 from rfl, a1]
      simp only [Option.bind_some, Option.toList_some, Option.toList_none, List.append_nil, List.cons_append, List.nil_append, ↓reduceIte, true_or, or_true, Nat.reduceAdd, Nat.add_assoc]
      rw [b253_7 o11, hz_s, if_neg (BM_n a2).2.1, b253_27]
    · rw [e63, b63_0 o7 r1 o4 r0 o8, eI, if_neg (show ¬ nI nb < (6 : Int32) from nI_nlt (a := nb) (b := 6) (by omega) (by omega)), show (6 : Int32) = nI 6 from rfl, z1]
      simp only [Option.bind_some, Option.toList_some, Option.toList_none, List.append_nil, List.cons_append, List.nil_append, ↓reduceIte, true_or, or_true, Nat.reduceAdd, Nat.add_assoc]
      rw [b63_21]; rfl
end PT
