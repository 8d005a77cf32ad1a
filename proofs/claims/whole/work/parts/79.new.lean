/-! a new name -/
theorem php : ∀ (n m : Nat) (f : Nat → Nat), (∀ i, i < m → f i < n) → (∀ i j, i < m → j < m → f i = f j → i = j) → m ≤ n
  | 0, m, f, h1, h2 => by
    by_cases g : m = 0
    · omega
    · have := h1 0 (by omega); omega
  | n + 1, 0, f, h1, h2 => by omega
  | n + 1, m + 1, f, h1, h2 => by
    have := php n m (fun i => if f i = n then f m else f i) (fun i hi => by
      show (if f i = n then f m else f i) < n
      by_cases g : f i = n
      · rw [if_pos g]
        have a := h1 m (by omega)
        by_cases g2 : f m = n
        · have := h2 i m (by omega) (by omega) (g.trans g2.symm); omega
        · omega
      · rw [if_neg g]; have := h1 i (by omega); omega) (fun i j hi hj e => by
      have e' : (if f i = n then f m else f i) = (if f j = n then f m else f j) := e
      by_cases g : f i = n
      · by_cases g2 : f j = n
        · exact h2 i j (by omega) (by omega) (g.trans g2.symm)
        · rw [if_pos g, if_neg g2] at e'
          have := h2 m j (by omega) (by omega) e'; omega
      · by_cases g2 : f j = n
        · rw [if_neg g, if_pos g2] at e'
          have := h2 i m (by omega) (by omega) e'; omega
        · rw [if_neg g, if_neg g2] at e'
          exact h2 i j (by omega) (by omega) e')
    omega
section NW
variable {scr : List Int32} {d dm E N j c k v t s most n np nr nl nb nq : Nat} {B K A V H cn cn' : Nat → Nat} {q : Nat → Int32} {l : Nat → Int64} {w w' : Nat → Int64} {y : Int64} {I J I' : Nat → Nat → Int32} {L M L' : Nat → Nat → Int64} {R R' : Nat → Nat → Nat}
theorem RN_cn (h : RN cn w I L t) (hc : ∀ s, s < 5 → cn' s = cn s) : RN cn' w I L t := by
  obtain ⟨m, h1, h2, h3, h4, h5⟩ := h
  refine ⟨m, h1, h2, fun i hi => ?_, fun s k hs hk => ?_, h5⟩
  · obtain ⟨s, k, a1, a2, a3⟩ := h3 i hi
    exact ⟨s, k, a1, by rw [hc s a1]; exact a2, a3⟩
  · rw [hc s hs] at hk; exact h4 s k hs hk
theorem RN_lt (h : RN cn w I L t) (hc : cnb cn) (hs : s < 5) (hc' : cnb (up cn s (cn s + 1))) : ∃ m, m < 31 ∧ I (t + 1) 3 = nI m := by
  obtain ⟨m, h1, h2, h3, h4, h5⟩ := RN_u h hc
  refine ⟨m, ?_, h2⟩
  have hp : nf s + cn s < 31 := nf_b hc' hs (by rw [up_s]; omega)
  have ex : ∀ i, ∃ p, i < m → ∃ s' k', s' < 5 ∧ k' < cn s' ∧ p = nf s' + k' ∧ L (t + 2) i = w p := fun i => by
    by_cases g : i < m
    · obtain ⟨s', k', a1, a2, a3, _⟩ := h3 i g
      exact ⟨nf s' + k', fun _ => ⟨s', k', a1, a2, rfl, a3⟩⟩
    · exact ⟨0, fun q => absurd q g⟩
  obtain ⟨f, hf⟩ := Classical.axiomOfChoice ex
  have := php 31 (m + 1) (fun i => if i = m then nf s + cn s else f i) (fun i hi => by
    show (if i = m then nf s + cn s else f i) < 31
    by_cases g : i = m
    · rw [if_pos g]; exact hp
    · rw [if_neg g]
      obtain ⟨s', k', a1, a2, a3, _⟩ := hf i (by omega)
      rw [a3]; exact nf_b hc a1 a2) (fun i j hi hj e => by
    have e' : (if i = m then nf s + cn s else f i) = (if j = m then nf s + cn s else f j) := e
    have nw : ∀ i, i < m → f i ≠ nf s + cn s := fun i hi q => by
      obtain ⟨s', k', a1, a2, a3, _⟩ := hf i hi
      have h5 : k' < up cn s (cn s + 1) s' := by
        by_cases g : s' = s
        · subst g; rw [up_s]; omega
        · rw [up_n _ _ g]; exact a2
      have := nf_inj hc' a1 h5 hs (show cn s < up cn s (cn s + 1) s by rw [up_s]; omega) (a3.symm.trans q)
      obtain ⟨rfl, rfl⟩ := this
      omega
    by_cases g : i = m
    · by_cases g2 : j = m
      · omega
      · rw [if_pos g, if_neg g2] at e'
        exact absurd e'.symm (nw j (by omega))
    · by_cases g2 : j = m
      · rw [if_neg g, if_pos g2] at e'
        exact absurd e' (nw i (by omega))
      · rw [if_neg g, if_neg g2] at e'
        obtain ⟨_, _, _, _, _, a⟩ := hf i (by omega)
        obtain ⟨_, _, _, _, _, b⟩ := hf j (by omega)
        exact h5 i j (by omega) (by omega) (by rw [a, b, e']))
  omega
theorem RN_add {m : Nat} (h : RN cn w I L t) (hc : cnb cn) (hs : s < 5) (hc' : cnb (up cn s (cn s + 1))) (hm : m < 31) (em : I (t + 1) 3 = nI m) (hy : y ≠ 0) (hnt : ∀ s' k, s' < 5 → k < cn s' → w (nf s' + k) ≠ y) (i1 : I' (t + 1) 3 = nI (m + 1)) (i3 : ∀ i, i < 31 → I' (t + 3) i = if i = m then kd s else I (t + 3) i) (i4 : ∀ i, i < 31 → I' (t + 4) i = if i = m then nI (cn s) else I (t + 4) i) (i2 : ∀ i, i < 31 → L' (t + 2) i = if i = m then y else L (t + 2) i) (hw : ∀ p, p < 31 → w' p = if p = nf s + cn s then y else w p) : RN (up cn s (cn s + 1)) w' I' L' t := by
  obtain ⟨m', h1, h2, h3, h4, h5⟩ := RN_u h hc
  have : m' = m := by rw [h2] at em; exact (nI_eq (by omega) (by omega)).mp em
  subst this
  have r1 : ∀ {α : Type} (z : α) (f : Nat → α) {i : Nat}, i < 31 → rs z 31 f i = f i := by
    intro α z f i hi; unfold rs; rw [if_pos hi]
  have hp : nf s + cn s < 31 := nf_b hc' hs (by rw [up_s]; omega)
  have hup : ∀ s' k, s' < 5 → k < cn s' → k < up cn s (cn s + 1) s' := fun s' k hs' hk => by
    by_cases g : s' = s
    · subst g; rw [up_s]; omega
    · rw [up_n _ _ g]; exact hk
  have hne : ∀ s' k, s' < 5 → k < cn s' → nf s' + k ≠ nf s + cn s := fun s' k hs' hk q => by
    have := nf_inj hc' hs' (hup s' k hs' hk) hs (show cn s < up cn s (cn s + 1) s by rw [up_s]; omega) q
    obtain ⟨rfl, rfl⟩ := this
    omega
  have hwo : ∀ s' k, s' < 5 → k < cn s' → w' (nf s' + k) = w (nf s' + k) := fun s' k hs' hk => by
    rw [hw _ (nf_b hc hs' hk), if_neg (hne s' k hs' hk)]
  refine ⟨m' + 1, by omega, i1, fun i hi => ?_, fun s' k hs' hk hwn => ?_, fun i j hi hj e => ?_⟩
  · rw [r1 _ _ (by omega), r1 _ _ (by omega), r1 _ _ (by omega), i2 i (by omega), i3 i (by omega), i4 i (by omega)]
    by_cases g : i = m'
    · subst g
      refine ⟨s, cn s, hs, by rw [up_s]; omega, ?_, ?_, by rw [if_pos rfl], by rw [if_pos rfl]⟩
      · rw [r1 _ _ hp, if_pos rfl, hw _ hp, if_pos rfl]
      · rw [if_pos rfl]; exact hy
    · obtain ⟨s', k', a1, a2, a3, a4, a5, a6⟩ := h3 i (by omega)
      refine ⟨s', k', a1, hup s' k' a1 a2, ?_, ?_, by rw [if_neg g]; exact a5, by rw [if_neg g]; exact a6⟩
      · rw [r1 _ _ (nf_b hc a1 a2), if_neg g, hwo s' k' a1 a2]; exact a3
      · rw [if_neg g]; exact a4
  · have hb : nf s' + k < 31 := nf_b hc' hs' hk
    rw [r1 _ _ hb] at hwn ⊢
    by_cases g : s' = s ∧ k = cn s
    · obtain ⟨rfl, rfl⟩ := g
      refine ⟨m', by omega, ?_, ?_, ?_⟩
      · rw [r1 _ _ (by omega), i2 _ (by omega), if_pos rfl, hw _ hp, if_pos rfl]
      · rw [r1 _ _ (by omega), i3 _ (by omega), if_pos rfl]
      · rw [r1 _ _ (by omega), i4 _ (by omega), if_pos rfl]
    · have hk' : k < cn s' := by
        by_cases g2 : s' = s
        · subst g2; rw [up_s] at hk
          have : k ≠ cn s' := fun q => g ⟨rfl, q⟩
          omega
        · rw [up_n _ _ g2] at hk; exact hk
      rw [hwo s' k hs' hk'] at hwn ⊢
      obtain ⟨i, b1, b2, b3, b4⟩ := h4 s' k hs' hk' hwn
      refine ⟨i, by omega, ?_, ?_, ?_⟩
      · rw [r1 _ _ (by omega), i2 _ (by omega), if_neg (by omega)]; exact b2
      · rw [r1 _ _ (by omega), i3 _ (by omega), if_neg (by omega)]; exact b3
      · rw [r1 _ _ (by omega), i4 _ (by omega), if_neg (by omega)]; exact b4
  · rw [r1 _ _ (by omega), r1 _ _ (by omega), i2 i (by omega), i2 j (by omega)] at e
    have nt : ∀ i, i < m' → L (t + 2) i ≠ y := fun i hi q => by
      obtain ⟨s', k', a1, a2, a3, _⟩ := h3 i hi
      exact hnt s' k' a1 a2 (a3.symm.trans q)
    by_cases g : i = m'
    · by_cases g2 : j = m'
      · omega
      · rw [if_pos g, if_neg g2] at e; exact absurd e.symm (nt j (by omega))
    · by_cases g2 : j = m'
      · rw [if_neg g, if_pos g2] at e; exact absurd e (nt i (by omega))
      · rw [if_neg g, if_neg g2] at e; exact h5 i j (by omega) (by omega) e
theorem hz_cm {α : Type} (m : Nat → Nat → α) (r : Nat → α) {a f : Nat} (x : α) (h : a ≠ 140) : hs_u (hs_z m 140 r) a f x = hs_z (hs_u m a f x) 140 r := by
  funext p b; unfold hs_u hs_z
  by_cases g1 : p = 140
  · subst g1; rw [if_neg (fun q => h q.1.symm)]; rw [if_pos rfl, if_pos rfl]
  · rw [if_neg g1, if_neg g1]
theorem ad1596 (k : Nat) : (1596 : Int32) + nI k = nI (1596 + k) := nI_add 1596 k
theorem x55 {m : Nat} {x3 x4 : Int32} (o3 : ok3 hs_S0 R (t + 1)) (hm : m < 31) (em : I (t + 1) 3 = nI m) : hs_C scr d 55 [.ref (t + 1), .long y, .int x3, .int x4] (hs_S0, I, L, R) = some (none, (hs_S0, hs_u (hs_u (hs_u I (t + 3) m x3) (t + 4) m x4) (t + 1) 3 (nI (m + 1)), hs_u L (t + 2) m y, R)) := by
  rw [e55, b55_0 o3, show t + 1 + 1 = t + 2 from rfl, show t + 1 + 2 = t + 3 from rfl, show t + 1 + 3 = t + 4 from rfl]
  simp (disch := omega) only [Option.bind_some, Option.toList_some, Option.toList_none, List.append_nil, List.cons_append, List.nil_append, ↓reduceIte, true_or, or_true, Nat.reduceAdd, Nat.add_assoc, hu_same, hu_row, hu_at, hu_hu, em, show ((31 : Int32) ≤ nI m) = False from eq_false (nI_ge (b := 31) hm (by omega)), ib_nI, nI_clamp, nI_1, b55_50]
theorem jNew (o11 : ok11 hs_S0 R 140) (o7 : ok7 hs_S0 R' 10) (r0 : R' 10 0 = 4) (r1 : R' 10 1 = t) (o8 : ok8 hs_S0 R' 4) (o4 : ok4 hs_S0 R' t) (ht : 11 ≤ t) (ht2 : t < 100) (hK : TKS E N B K A V H) (hJ : JB E B J) (hj : j + 1 < N) (hT : TC N K A V (j + 1) I L) (h : MC E K A V H j q l) (hs : s < 5) (hc : cnb cn) (hc' : cnb (up cn s (cn s + 1))) (hn : ∀ s, s < 5 → J 145 (1596 + s) = nI (cn s)) (hR : RN cn (fun k => M 148 (124 + k)) I L t) (hmost : cn s < most) (hm10 : most < 20) : ∃ I' L' q' l' M', (∀ k, k ≠ 4 → k ≠ t + 1 → k ≠ t + 3 → k ≠ t + 4 → I' k = I k) ∧ (∀ k, k ≠ 4 → k ≠ t + 2 → L' k = L k) ∧ I' 4 5 = I 4 5 ∧ T140 q l q' l' ∧ (∀ k, k ≠ 148 → M' k = M k) ∧ (∀ f, f < 124 → M' 148 f = M 148 f) ∧ ((hs_C scr (d + 3) 53 [.ref 10, .int (kd s), .int (nI (cn s))] (hs_S0, I, L, R') = some (some (.int 1), (hs_S0, I', L', R')) ∧ hs_C scr (dm + 6) 227 [.ref 140, .int (nI s), .int (nI most)] (hs_S0, hs_z J 140 q, hs_z M 140 l, R) = some (some (.int (nI (cn s))), (hs_S0, hs_z J 140 q', hs_z M' 140 l', R)) ∧ j + 2 < N ∧ TC N K A V (j + 2) I' L' ∧ MC E K A V H (j + 2) q' l' ∧ RN (up cn s (cn s + 1)) (fun k => M' 148 (124 + k)) I' L' t) ∨ (∃ c a, hs_C scr (d + 3) 53 [.ref 10, .int (kd s), .int (nI (cn s))] (hs_S0, I, L, R') = some (some (.int 0), (hs_S0, I', L', R')) ∧ BC c a I' ∧ hs_C scr (dm + 6) 227 [.ref 140, .int (nI s), .int (nI most)] (hs_S0, hs_z J 140 q, hs_z M 140 l, R) = some (some (.int 0), (hs_S0, hs_z J 140 q', hs_z M' 140 l', R)) ∧ BM c a q')) := by
  have hk := hK.2.2.2.2.2 (j + 1) hj
  have o3 : ok3 hs_S0 R' (t + 1) := o4.2.2.2.1
  have h12 := h.2.2.2.2
  obtain ⟨m, hm, em⟩ := RN_lt hR hc hs hc'
  obtain ⟨m', hm', em', s1, s2, s3⟩ := RN_u hR hc
  have : m' = m := by rw [em'] at em; exact (nI_eq (by omega) (by omega)).mp em
  subst this
  have hcs : cn s < 31 := by have := nf_b hc' hs (show cn s < up cn s (cn s + 1) s by rw [up_s]; omega); omega
  have hp : nf s + cn s < 31 := nf_b hc' hs (by rw [up_s]; omega)
  obtain ⟨q1, l1, e1, m1, f1⟩ := m209a (scr := scr) (d := dm + 4) (M := M) o11 hK hJ hj h
  have eR0 : hs_C scr (dm + 6) 227 [.ref 140, .int (nI s), .int (nI most)] (hs_S0, hs_z J 140 q, hs_z M 140 l, R) = hs_R scr (dm + 6) 227 43 [some (.ref 140), some (.int (nI s)), some (.int (nI most)), some (.int (nI (cn s)))] [.int (if K (j + 1) = 30 then 1 else 0)] (hs_S0, hs_z J 140 q1, hs_z M 140 l1, R) := by
    rw [e227, b227_0 o11, ad1596, if_pos (ib_nI (by omega) (by omega)), nI_clamp (by omega), show (140 + 5 : Nat) = 145 from rfl, hz_row _ _ (by omega), hn s hs, if_neg (fun q => by have := (nI_eq (by omega) (by omega)).mp q; omega), b227_26 o11, hz_s, h12, if_pos (by decide), e1]
    simp only [Option.bind_some, Option.toList_some, Option.toList_none, List.append_nil, List.cons_append, List.nil_append, ↓reduceIte, true_or, or_true, Nat.reduceAdd, Nat.add_assoc]
    rw [b227_39 o11, m228 (d := dm + 1) o11 m1.2.2.2.1]
    simp only [Option.bind_some, Option.toList_some, Option.toList_none, List.append_nil, List.cons_append, List.nil_append, ↓reduceIte, true_or, or_true, Nat.reduceAdd, Nat.add_assoc]
  obtain ⟨I1, L1, x1, g1, t1, c1, b1⟩ := x49 (scr := scr) (d := d + 1) (W := 30) (R := R') o8 hK hT hj (by omega)
  by_cases g : K (j + 1) = 30
  · have hw := TokR_w (g ▸ m1.2.2.2.1)
    have yn0 : lN (V (j + 1)) ≠ 0 := lN_ne hw.2.1 (by omega)
    rw [if_pos g] at x1 eR0
    have em1 : I1 (t + 1) 3 = nI m' := by rw [g1.1 _ (by omega)]; exact em'
    obtain ⟨b, c2, c3⟩ := m244 (scr := scr) (d := dm + 3) (J := J) (M := M) (q := q1) (l := l1) (R := R) o11 hc hn 5 0 rfl
    rw [nI_0] at c2
    have eR1 : hs_C scr (dm + 6) 227 [.ref 140, .int (nI s), .int (nI most)] (hs_S0, hs_z J 140 q, hs_z M 140 l, R) = hs_R scr (dm + 6) 227 61 [some (.ref 140), some (.int (nI s)), some (.int (nI most)), some (.int (nI (cn s)))] [.int (if b = true then 1 else 0)] (hs_S0, hs_z J 140 q1, hs_z M 140 l1, R) := by
      rw [eR0, b227_43 o11, if_neg (by decide), b227_50 o11, hz_s, m1.2.2.2.2, if_pos rfl, e244, b244_0, c2]
      simp only [Option.bind_some, Option.toList_some, Option.toList_none, List.append_nil, List.cons_append, List.nil_append, ↓reduceIte, true_or, or_true, Nat.reduceAdd, Nat.add_assoc]
    have eX1 : hs_C scr (d + 3) 53 [.ref 10, .int (kd s), .int (nI (cn s))] (hs_S0, I, L, R') = ((hs_C scr (d + 2) 54 [.ref (t + 1), .long (lN (V (j + 1)))] (hs_S0, I1, L1, R')).bind fun o => hs_R scr (d + 3) 53 31 [some (.ref 10), some (.int (kd s)), some (.int (nI (cn s)))] (o.1.toList ++ []) o.2) := by
      rw [e53, b53_0 o7 r0 o8, show (30 : Int32) = nI 30 from rfl, x1]
      simp only [Option.bind_some, Option.toList_some, Option.toList_none, List.append_nil, List.cons_append, List.nil_append, ↓reduceIte, true_or, or_true, Nat.reduceAdd, Nat.add_assoc]
      rw [b53_9 o7 r1 o4 r0 o8, if_neg (by decide), c1.2.2]
      simp only [Option.bind_some, Option.toList_some, Option.toList_none, List.append_nil, List.cons_append, List.nil_append, ↓reduceIte, true_or, or_true, Nat.reduceAdd, Nat.add_assoc]
    rw [hw.1] at c3
    cases hb : b with
    | true =>
      obtain ⟨s', k', z1, z2, z3, z4⟩ := c3.mp hb
      obtain ⟨i0, y1, y2, y3, y4⟩ := s2 s' k' z2 z3 (by show M 148 (124 + (nf s' + k')) ≠ 0; rw [z4]; exact yn0)
      obtain ⟨I2, e2, b2, f2, g2⟩ := x47 (scr := scr) (d := d + 2) (c := 3) (R := R') o8 c1 hk.1
      have hfk : fk (K (j + 1)) 3 = 3 := by unfold fk; rw [if_neg (by omega)]
      rw [hfk] at b2
      have ff := T4_tr g1 f2
      refine ⟨I2, L1, up (up q1 12 (nI 3)) 13 (nI (A (j + 1))), l1, M, fun k k1 _ _ _ => ff.1 k k1, fun k k1 _ => ff.2.1 k k1, ff.2.2, ⟨fun f hf => by rw [up_n _ _ (by omega), up_n _ _ (by omega)]; exact f1.1 f hf, f1.2⟩, fun _ _ => rfl, fun _ _ => rfl, Or.inr ⟨3, A (j + 1), ?_, b2, ?_, ⟨rfl, rfl, by omega, by omega⟩⟩⟩
      · have := x54y (scr := scr) (d := d + 2) (I := I1) (L := L1) (R := R') (y := lN (V (j + 1))) o3 em1 hm' m' 0 (by omega) ⟨i0, by omega, y1, by rw [g1.2.1 _ (by omega), y2]; exact z4⟩
        rw [nI_0] at this
        rw [eX1, e54, b54_0, this]
        simp only [Option.bind_some, Option.toList_some, Option.toList_none, List.append_nil, List.cons_append, List.nil_append, ↓reduceIte, true_or, or_true, Nat.reduceAdd, Nat.add_assoc]
        rw [b53_31 o7 r1 o4 r0 o8, if_neg (by decide), show (3 : Int32) = nI 3 from rfl, e2]
        simp only [Option.bind_some, Option.toList_some, Option.toList_none, List.append_nil, List.cons_append, List.nil_append, ↓reduceIte, true_or, or_true, Nat.reduceAdd, Nat.add_assoc, b53_42]
      · rw [eR1, hb, if_pos rfl, b227_61 o11, if_neg (by decide), hz_s, m1.2.1, show (3 : Int32) = nI 3 from rfl, m220 o11 m1.2.2.2.2]
        simp only [Option.bind_some, Option.toList_some, Option.toList_none, List.append_nil, List.cons_append, List.nil_append, ↓reduceIte, true_or, or_true, Nat.reduceAdd, Nat.add_assoc]
        rw [b227_73 o11, hz_s, if_neg (show ¬ up (up q1 12 (nI 3)) 13 (nI (A (j + 1))) 12 ≤ 0 by show ¬ nI 3 ≤ 0; decide)]
    | false =>
      have hnt : ∀ s' k', s' < 5 → k' < cn s' → M 148 (124 + (nf s' + k')) ≠ lN (V (j + 1)) := fun s' k' z2 z3 z4 => by
        have := c3.mpr ⟨s', k', by omega, z2, z3, z4⟩
        rw [hb] at this; exact absurd this (by decide)
      have hno : ∀ i, i < m' → L1 (t + 2) i ≠ lN (V (j + 1)) := fun i hi q => by
        rw [g1.2.1 _ (by omega)] at q
        obtain ⟨s', k', a1, a2, a3, _⟩ := s1 i hi
        exact hnt s' k' a1 a2 (a3.symm.trans q)
      have hj2 : j + 2 < N := hK.2.2.2.2.1 (j + 1) hj (by omega)
      obtain ⟨q2, l2, e2, m2, f2⟩ := m209a (scr := scr) (d := dm + 4) (M := hs_u M 148 (124 + (nf s + cn s)) (lN (V (j + 1)))) o11 hK hJ hj2 m1
      refine ⟨hs_u (hs_u (hs_u I1 (t + 3) m' (kd s)) (t + 4) m' (nI (cn s))) (t + 1) 3 (nI (m' + 1)), hs_u L1 (t + 2) m' (lN (V (j + 1))), q2, l2, hs_u M 148 (124 + (nf s + cn s)) (lN (V (j + 1))), fun k k1 k2 k3 k4 => by simp (disch := omega) only [hu_row]; exact g1.1 k k1, fun k k1 k2 => by rw [hu_row _ _ k2]; exact g1.2.1 k k1, by simp (disch := omega) only [hu_row]; exact g1.2.2, T140_tr f1 f2, fun k k1 => hu_row _ _ k1, fun f hf => hu_at _ _ (by omega), Or.inl ⟨?_, ?_, hj2, ?_, m2, ?_⟩⟩
      · have := x54n (scr := scr) (d := d + 2) (I := I1) (L := L1) (R := R') (y := lN (V (j + 1))) o3 em1 hm' hno m' 0 (by omega)
        rw [nI_0] at this
        rw [eX1, e54, b54_0, this]
        simp only [Option.bind_some, Option.toList_some, Option.toList_none, List.append_nil, List.cons_append, List.nil_append, ↓reduceIte, true_or, or_true, Nat.reduceAdd, Nat.add_assoc]
        rw [b53_31 o7 r1 o4 r0 o8, if_pos rfl, c1.2.2, x55 o3 hm em1]
        simp only [Option.bind_some, Option.toList_some, Option.toList_none, List.append_nil, List.cons_append, List.nil_append, ↓reduceIte, true_or, or_true, Nat.reduceAdd, Nat.add_assoc, b53_62]
      · rw [eR1, hb, if_neg (by decide), b227_61 o11, if_pos rfl, b227_73 o11, hz_s, m1.2.2.2.2, if_pos (by decide), m246 hs]
        simp only [Option.bind_some, Option.toList_some, List.cons_append, List.nil_append]
        rw [b227_92 (S := hs_S0) (u0 := 148) (n_u0 := 155) (a_u0 := rfl) (o_t0 := o11), show (124 : Int32) = nI 124 from rfl, nI_add, nI_add, if_pos (ib_nI (by omega) (by omega)), nI_clamp (by omega), hz_s, hw.1, hz_cm _ _ _ (by omega), Nat.add_assoc, e2]
        simp only [Option.bind_some, Option.toList_some, Option.toList_none, List.append_nil, List.cons_append, List.nil_append, ↓reduceIte, true_or, or_true, Nat.reduceAdd, Nat.add_assoc, b227_104]
      · obtain ⟨a1, a2, a3, a4, a5⟩ := t1 g
        refine ⟨?_, ?_, fun i hi => ?_, ?_, ?_⟩
        · simp (disch := omega) only [hu_row]; exact a1
        · simp (disch := omega) only [hu_row]; exact a2
        · simp (disch := omega) only [hu_row]; exact a3 i hi
        · simp (disch := omega) only [hu_row]; exact a4
        · simp (disch := omega) only [hu_row]; exact a5
      · refine RN_add (m := m') (y := lN (V (j + 1))) hR hc hs hc' hm em' yn0 hnt (hu_same _ _ _ _) (fun i hi => ?_) (fun i hi => ?_) (fun i hi => ?_) (fun p hp' => ?_)
        · by_cases q : i = m'
          · subst q; rw [if_pos rfl]; simp (disch := omega) only [hu_row, hu_same]
          · rw [if_neg q]; simp (disch := omega) only [hu_row, hu_at]; rw [g1.1 _ (by omega)]
        · by_cases q : i = m'
          · subst q; rw [if_pos rfl]; simp (disch := omega) only [hu_row, hu_same]
          · rw [if_neg q]; simp (disch := omega) only [hu_row, hu_at]; rw [g1.1 _ (by omega)]
        · by_cases q : i = m'
          · subst q; rw [if_pos rfl, hu_same]
          · rw [if_neg q, hu_at _ _ (by omega), g1.2.1 _ (by omega)]
        · by_cases q : p = nf s + cn s
          · subst q; rw [if_pos rfl, hu_same]
          · rw [if_neg q, hu_at _ _ (by omega)]
  · rw [if_neg g] at x1 eR0
    obtain ⟨q', a1, a2, a3, a4⟩ := m222 (scr := scr) (d := dm + 4) (M := M) (J := J) (R := R) o11 m1
    refine ⟨I1, L1, q', l1, M, fun k k1 _ _ _ => g1.1 k k1, fun k k1 _ => g1.2.1 k k1, g1.2.2, T140_tr f1 a3, fun _ _ => rfl, fun _ _ => rfl, Or.inr ⟨fk (K (j + 1)) 2, A (j + 1), ?_, b1 g, ?_, a2⟩⟩
    · rw [e53, b53_0 o7 r0 o8, show (30 : Int32) = nI 30 from rfl, x1]
      simp only [Option.bind_some, Option.toList_some, Option.toList_none, List.append_nil, List.cons_append, List.nil_append, ↓reduceIte, true_or, or_true, Nat.reduceAdd, Nat.add_assoc]
      rw [b53_9 o7 r1 o4 r0 o8, if_pos rfl]
    · rw [eR0, b227_43 o11, if_pos rfl, a1]
      simp only [Option.bind_some, Option.toList_some, Option.toList_none, List.append_nil, List.cons_append, List.nil_append, ↓reduceIte, true_or, or_true, Nat.reduceAdd, Nat.add_assoc]
      rw [b227_50 o11, hz_s, if_neg (BM_n a2).2.1, b227_73 o11, hz_s, if_neg (BM_n a2).1]
end NW
