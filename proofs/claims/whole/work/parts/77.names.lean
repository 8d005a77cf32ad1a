/-! names, in the class and in the reference -/
def cnb (cn : Nat → Nat) : Prop := cn 0 ≤ 8 ∧ cn 1 ≤ 5 ∧ cn 2 ≤ 6 ∧ cn 3 ≤ 6 ∧ cn 4 ≤ 6
theorem nf_b {cn : Nat → Nat} {s k : Nat} (h : cnb cn) (hs : s < 5) (hk : k < cn s) : nf s + k < 31 := by
  obtain ⟨h0, h1, h2, h3, h4⟩ := h
  unfold nf
  rcases (show s = 0 ∨ s = 1 ∨ s = 2 ∨ s = 3 ∨ s = 4 by omega) with rfl | rfl | rfl | rfl | rfl
  · rw [if_pos rfl]; omega
  · rw [if_neg (by omega), if_pos rfl]; omega
  · rw [if_neg (by omega), if_neg (by omega)]; omega
  · rw [if_neg (by omega), if_neg (by omega)]; omega
  · rw [if_neg (by omega), if_neg (by omega)]; omega
theorem kd_inj : ∀ s, s < 5 → ∀ s', s' < 5 → kd s = kd s' → s = s' := by decide
theorem nf_inj {cn : Nat → Nat} {s k s' k' : Nat} (h : cnb cn) (hs : s < 5) (hk : k < cn s) (hs' : s' < 5) (hk' : k' < cn s') (e : nf s + k = nf s' + k') : s = s' ∧ k = k' := by
  obtain ⟨h0, h1, h2, h3, h4⟩ := h
  unfold nf at e
  rcases (show s = 0 ∨ s = 1 ∨ s = 2 ∨ s = 3 ∨ s = 4 by omega) with rfl | rfl | rfl | rfl | rfl <;> rcases (show s' = 0 ∨ s' = 1 ∨ s' = 2 ∨ s' = 3 ∨ s' = 4 by omega) with rfl | rfl | rfl | rfl | rfl <;> simp at e <;> omega
section NM
variable {scr : List Int32} {d t m s k : Nat} {cn : Nat → Nat} {w : Nat → Int64} {y : Int64} {I : Nat → Nat → Int32} {L : Nat → Nat → Int64} {R : Nat → Nat → Nat}
theorem RN_u (h : RN cn w I L t) (hc : cnb cn) : ∃ m, m ≤ 31 ∧ I (t + 1) 3 = nI m ∧ (∀ i, i < m → ∃ s k, s < 5 ∧ k < cn s ∧ L (t + 2) i = w (nf s + k) ∧ L (t + 2) i ≠ 0 ∧ I (t + 3) i = kd s ∧ I (t + 4) i = nI k) ∧ (∀ s k, s < 5 → k < cn s → w (nf s + k) ≠ 0 → ∃ i, i < m ∧ L (t + 2) i = w (nf s + k) ∧ I (t + 3) i = kd s ∧ I (t + 4) i = nI k) ∧ (∀ i j, i < m → j < m → L (t + 2) i = L (t + 2) j → i = j) := by
  obtain ⟨m, h1, h2, h3, h4, h5⟩ := h
  have r1 : ∀ {α : Type} (z : α) (f : Nat → α) {i : Nat}, i < 31 → rs z 31 f i = f i := by
    intro α z f i hi; unfold rs; rw [if_pos hi]
  refine ⟨m, h1, h2, fun i hi => ?_, fun s k hs hk hw => ?_, fun i j hi hj e => ?_⟩
  · obtain ⟨s, k, a1, a2, a3, a4, a5, a6⟩ := h3 i hi
    rw [r1 _ _ (by omega)] at a3 a4 a5 a6
    rw [r1 _ _ (nf_b hc a1 a2)] at a3
    exact ⟨s, k, a1, a2, a3, a4, a5, a6⟩
  · obtain ⟨i, a1, a2, a3, a4⟩ := h4 s k hs hk (by rw [r1 _ _ (nf_b hc hs hk)]; exact hw)
    rw [r1 _ _ (by omega)] at a2 a3 a4
    rw [r1 _ _ (nf_b hc hs hk)] at a2
    exact ⟨i, a1, a2, a3, a4⟩
  · exact h5 i j hi hj (by rw [r1 _ _ (by omega), r1 _ _ (by omega)]; exact e)
theorem x54y (o3 : ok3 hs_S0 R (t + 1)) (hm : I (t + 1) 3 = nI m) (hm1 : m ≤ 31) : ∀ k i, i + k = m → (∃ j, i ≤ j ∧ j < m ∧ L (t + 2) j = y) → hs_R scr d 54 2 [some (.ref (t + 1)), some (.long y), none, some (.int (nI i))] [] (hs_S0, I, L, R) = some (some (.int 1), (hs_S0, I, L, R))
  | 0, i, e, h => by obtain ⟨j, h1, h2, h3⟩ := h; omega
  | k + 1, i, e, h => by
    rw [b54_2 o3, hm, if_neg (nI_ge (by omega) (by omega)), if_pos (ib_nI (by omega) (by omega)), nI_clamp (by omega), show t + 1 + 1 = t + 2 from rfl]
    by_cases g : L (t + 2) i = y
    · rw [if_pos ((lgc_e _ _).mpr g)]
    · rw [if_neg (fun q => g ((lgc_e _ _).mp q)), nI_1]
      obtain ⟨j, h1, h2, h3⟩ := h
      refine x54y o3 hm hm1 k (i + 1) (by omega) ⟨j, ?_, h2, h3⟩
      by_cases q : i = j
      · subst q; exact absurd h3 g
      · omega
theorem x54n (o3 : ok3 hs_S0 R (t + 1)) (hm : I (t + 1) 3 = nI m) (hm1 : m ≤ 31) (h : ∀ j, j < m → L (t + 2) j ≠ y) : ∀ k i, i + k = m → hs_R scr d 54 2 [some (.ref (t + 1)), some (.long y), none, some (.int (nI i))] [] (hs_S0, I, L, R) = some (some (.int 0), (hs_S0, I, L, R))
  | 0, i, e => by rw [b54_2 o3, hm, if_pos (nI_le (by omega) (by omega))]
  | k + 1, i, e => by
    rw [b54_2 o3, hm, if_neg (nI_ge (by omega) (by omega)), if_pos (ib_nI (by omega) (by omega)), nI_clamp (by omega), show t + 1 + 1 = t + 2 from rfl, if_neg (fun q => h i (by omega) ((lgc_e _ _).mp q)), nI_1]
    exact x54n o3 hm hm1 h k (i + 1) (by omega)
theorem x66y (o3 : ok3 hs_S0 R (t + 1)) (hm : I (t + 1) 3 = nI m) (hm1 : m ≤ 31) {x3 : Int32} {i0 : Nat} (h0 : i0 < m) (h1 : L (t + 2) i0 = y) (h2 : I (t + 3) i0 = x3) (hu : ∀ i, i < m → L (t + 2) i = y → i = i0) : ∀ k i, i + k = m → i ≤ i0 → hs_R scr d 66 3 [some (.ref (t + 1)), some (.long y), none, some (.int x3), some (.int (nI i))] [] (hs_S0, I, L, R) = some (some (.int (I (t + 4) i0)), (hs_S0, I, L, R))
  | 0, i, e, hi => by omega
  | k + 1, i, e, hi => by
    rw [b66_3 o3, hm, if_neg (nI_ge (by omega) (by omega)), if_pos (ib_nI (by omega) (by omega)), nI_clamp (by omega), show t + 1 + 1 = t + 2 from rfl, show t + 1 + 2 = t + 3 from rfl, show t + 1 + 3 = t + 4 from rfl]
    by_cases g : i = i0
    · subst g
      rw [if_pos ((lgc_e _ _).mpr h1), if_pos (ib_nI (by omega) (by omega)), if_pos h2, if_pos (ib_nI (by omega) (by omega))]
    · rw [if_neg (fun q => g (hu i (by omega) ((lgc_e _ _).mp q))), b66_43, nI_1]
      exact x66y o3 hm hm1 h0 h1 h2 hu k (i + 1) (by omega) (by omega)
theorem x66n (o3 : ok3 hs_S0 R (t + 1)) (hm : I (t + 1) 3 = nI m) (hm1 : m ≤ 31) {x3 : Int32} (h : ∀ i, i < m → L (t + 2) i = y → I (t + 3) i ≠ x3) : ∀ k i, i + k = m → hs_R scr d 66 3 [some (.ref (t + 1)), some (.long y), none, some (.int x3), some (.int (nI i))] [] (hs_S0, I, L, R) = some (some (.int (-1)), (hs_S0, I, L, R))
  | 0, i, e => by rw [b66_3 o3, hm, if_pos (nI_le (by omega) (by omega))]
  | k + 1, i, e => by
    rw [b66_3 o3, hm, if_neg (nI_ge (by omega) (by omega)), if_pos (ib_nI (by omega) (by omega)), nI_clamp (by omega), show t + 1 + 1 = t + 2 from rfl, show t + 1 + 2 = t + 3 from rfl, show t + 1 + 3 = t + 4 from rfl]
    by_cases g : L (t + 2) i = y
    · rw [if_pos ((lgc_e _ _).mpr g), if_pos (ib_nI (by omega) (by omega)), if_neg (h i (by omega) g), b66_43, nI_1]
      exact x66n o3 hm hm1 h k (i + 1) (by omega)
    · rw [if_neg (fun q => g ((lgc_e _ _).mp q)), b66_43, nI_1]
      exact x66n o3 hm hm1 h k (i + 1) (by omega)
end NM
section NR
variable {scr : List Int32} {d s k n bl : Nat} {cn : Nat → Nat} {w : Nat → Int64} {y : Int64} {q : Nat → Int32} {l : Nat → Int64} {J : Nat → Nat → Int32} {M : Nat → Nat → Int64} {R : Nat → Nat → Nat} {S : List hs_S} {I : Nat → Nat → Int32} {L : Nat → Nat → Int64}
theorem m246 (hs : s < 5) : hs_C scr d 246 [.int (nI s)] (S, I, L, R) = some (some (.int (nI (nf s))), (S, I, L, R)) := by
  rcases (show s = 0 ∨ s = 1 ∨ s = 2 ∨ s = 3 ∨ s = 4 by omega) with rfl | rfl | rfl | rfl | rfl
  · rw [e246, b246_0, if_pos (by decide), b246_24]; rfl
  · rw [e246, b246_0, if_neg (by decide), if_pos (by decide), b246_24]; rfl
  · rw [e246, b246_0, if_neg (by decide), if_neg (by decide), b246_24, show (6 : Int32) * nI 2 + 1 = nI (nf 2) by decide]
  · rw [e246, b246_0, if_neg (by decide), if_neg (by decide), b246_24, show (6 : Int32) * nI 3 + 1 = nI (nf 3) by decide]
  · rw [e246, b246_0, if_neg (by decide), if_neg (by decide), b246_24, show (6 : Int32) * nI 4 + 1 = nI (nf 4) by decide]
theorem m245_s (o11 : ok11 hs_S0 R 140) (hs : s < 5) (hbl : bl ≤ 4) (hn : J 145 (399 * bl + s) = nI n) {i : Nat} (hi : i < n) (hb : 31 * bl + (nf s + i) < 155) (hn1 : n < 100) : hs_R scr (d + 1) 245 2 [some (.ref 140), some (.int (nI bl)), some (.int (nI s)), some (.int (nI i))] [] (hs_S0, hs_z J 140 q, hs_z M 140 l, R) = (if M 148 (31 * bl + (nf s + i)) = l 19 then some (some (.int (nI i)), (hs_S0, hs_z J 140 q, hs_z M 140 l, R)) else hs_R scr (d + 1) 245 2 [some (.ref 140), some (.int (nI bl)), some (.int (nI s)), some (.int (nI (i + 1)))] [] (hs_S0, hs_z J 140 q, hs_z M 140 l, R)) := by
  rw [b245_2 o11, ml399, nI_add, if_pos (ib_nI (by omega) (by omega)), nI_clamp (by omega), show (140 + 5 : Nat) = 145 from rfl, hz_row _ _ (by omega), hn, if_neg (nI_ge hi (by omega)), m246 hs]
  simp only [Option.bind_some, Option.toList_some, List.cons_append, List.nil_append]
  rw [b245_30 (S := hs_S0) (u0 := 148) (n_u0 := 155) (a_u0 := rfl) (o_t0 := o11), ml31, nI_add, nI_add, Nat.add_assoc, if_pos (ib_nI hb (by omega)), nI_clamp (by omega), hz_row _ _ (by omega), hz_s, nI_1]
  by_cases g : M 148 (31 * bl + (nf s + i)) = l 19
  · rw [if_pos ((lgc_e _ _).mpr g), if_pos g]
  · rw [if_neg (fun q => g ((lgc_e _ _).mp q)), if_neg g]
theorem m245_e (o11 : ok11 hs_S0 R 140) (hs : s < 5) (hbl : bl ≤ 4) (hn : J 145 (399 * bl + s) = nI n) (hn1 : n < 100) : hs_R scr (d + 1) 245 2 [some (.ref 140), some (.int (nI bl)), some (.int (nI s)), some (.int (nI n))] [] (hs_S0, hs_z J 140 q, hs_z M 140 l, R) = some (some (.int (-1)), (hs_S0, hs_z J 140 q, hs_z M 140 l, R)) := by
  rw [b245_2 o11, ml399, nI_add, if_pos (ib_nI (by omega) (by omega)), nI_clamp (by omega), show (140 + 5 : Nat) = 145 from rfl, hz_row _ _ (by omega), hn, if_pos (nI_le (Nat.le_refl _) (by omega))]
theorem m245y (o11 : ok11 hs_S0 R 140) (hs : s < 5) (hbl : bl ≤ 4) (hn : J 145 (399 * bl + s) = nI n) (hb : ∀ i, i < n → 31 * bl + (nf s + i) < 155) (hn1 : n < 100) (hk : k < n) (hy : M 148 (31 * bl + (nf s + k)) = l 19) (hu : ∀ i, i < n → M 148 (31 * bl + (nf s + i)) = l 19 → i = k) : ∀ m i, i + m = n → i ≤ k → hs_R scr (d + 1) 245 2 [some (.ref 140), some (.int (nI bl)), some (.int (nI s)), some (.int (nI i))] [] (hs_S0, hs_z J 140 q, hs_z M 140 l, R) = some (some (.int (nI k)), (hs_S0, hs_z J 140 q, hs_z M 140 l, R))
  | 0, i, e, hi => by omega
  | m + 1, i, e, hi => by
    rw [m245_s o11 hs hbl hn (by omega) (hb i (by omega)) hn1]
    by_cases g : i = k
    · subst g; rw [if_pos hy]
    · rw [if_neg (fun q => g (hu i (by omega) q))]
      exact m245y o11 hs hbl hn hb hn1 hk hy hu m (i + 1) (by omega) (by omega)
theorem m245n (o11 : ok11 hs_S0 R 140) (hs : s < 5) (hbl : bl ≤ 4) (hn : J 145 (399 * bl + s) = nI n) (hb : ∀ i, i < n → 31 * bl + (nf s + i) < 155) (hn1 : n < 100) (h : ∀ i, i < n → M 148 (31 * bl + (nf s + i)) ≠ l 19) : ∀ m i, i + m = n → hs_R scr (d + 1) 245 2 [some (.ref 140), some (.int (nI bl)), some (.int (nI s)), some (.int (nI i))] [] (hs_S0, hs_z J 140 q, hs_z M 140 l, R) = some (some (.int (-1)), (hs_S0, hs_z J 140 q, hs_z M 140 l, R))
  | 0, i, e => by
    have : i = n := by omega
    subst this; exact m245_e o11 hs hbl hn hn1
  | m + 1, i, e => by
    rw [m245_s o11 hs hbl hn (by omega) (hb i (by omega)) hn1, if_neg (h i (by omega))]
    exact m245n o11 hs hbl hn hb hn1 h m (i + 1) (by omega)
/-- is the word taken -/
theorem m245t (o11 : ok11 hs_S0 R 140) (hs : s < 5) (hbl : bl ≤ 4) (hn : J 145 (399 * bl + s) = nI n) (hb : ∀ i, i < n → 31 * bl + (nf s + i) < 155) (hn1 : n < 100) : ∀ m i, i + m = n → ∃ x : Int32, hs_R scr (d + 1) 245 2 [some (.ref 140), some (.int (nI bl)), some (.int (nI s)), some (.int (nI i))] [] (hs_S0, hs_z J 140 q, hs_z M 140 l, R) = some (some (.int x), (hs_S0, hs_z J 140 q, hs_z M 140 l, R)) ∧ ((x = -1 ∧ ∀ j, i ≤ j → j < n → M 148 (31 * bl + (nf s + j)) ≠ l 19) ∨ (¬ x < 0 ∧ ∃ j, j < n ∧ M 148 (31 * bl + (nf s + j)) = l 19))
  | 0, i, e => by
    have : i = n := by omega
    subst this; exact ⟨-1, m245_e o11 hs hbl hn hn1, Or.inl ⟨rfl, fun j h1 h2 => by omega⟩⟩
  | m + 1, i, e => by
    rw [m245_s o11 hs hbl hn (by omega) (hb i (by omega)) hn1]
    by_cases g : M 148 (31 * bl + (nf s + i)) = l 19
    · exact ⟨nI i, by rw [if_pos g], Or.inr ⟨nI_pos (by omega), i, by omega, g⟩⟩
    · obtain ⟨x, a1, a2⟩ := m245t o11 hs hbl hn hb hn1 m (i + 1) (by omega)
      refine ⟨x, by rw [if_neg g]; exact a1, ?_⟩
      rcases a2 with ⟨b1, b2⟩ | b
      · refine Or.inl ⟨b1, fun j h1 h2 => ?_⟩
        by_cases q : j = i
        · subst q; exact g
        · exact b2 j (by omega) h2
      · exact Or.inr b
theorem m244 (o11 : ok11 hs_S0 R 140) (hc : cnb cn) (hn : ∀ s, s < 5 → J 145 (1596 + s) = nI (cn s)) : ∀ m s, s + m = 5 → ∃ b : Bool, hs_R scr (d + 2) 244 2 [some (.ref 140), some (.int (nI s))] [] (hs_S0, hs_z J 140 q, hs_z M 140 l, R) = some (some (.int (if b = true then 1 else 0)), (hs_S0, hs_z J 140 q, hs_z M 140 l, R)) ∧ (b = true ↔ ∃ s' k, s ≤ s' ∧ s' < 5 ∧ k < cn s' ∧ M 148 (124 + (nf s' + k)) = l 19)
  | 0, s, e => by
    have : s = 5 := by omega
    subst this
    refine ⟨false, ?_, ⟨fun q => absurd q (by decide), fun ⟨s', k, h1, h2, _⟩ => by omega⟩⟩
    rw [b244_2 o11, if_pos (show (5 : Int32) ≤ nI 5 by decide)]; rfl
  | m + 1, s, e => by
    have hcs : cn s < 100 := by
      obtain ⟨h0, h1, h2, h3, h4⟩ := hc
      rcases (show s = 0 ∨ s = 1 ∨ s = 2 ∨ s = 3 ∨ s = 4 by omega) with rfl | rfl | rfl | rfl | rfl <;> omega
    obtain ⟨x, a1, a2⟩ := m245t (scr := scr) (d := d) (J := J) (M := M) (l := l) (q := q) (R := R) (n := cn s) o11 (show s < 5 by omega) (show 4 ≤ 4 by omega) (hn s (by omega)) (fun i hi => by have := nf_b hc (show s < 5 by omega) hi; omega) hcs (cn s) 0 (by omega)
    rw [nI_0] at a1
    have e1 : hs_R scr (d + 2) 244 2 [some (.ref 140), some (.int (nI s))] [] (hs_S0, hs_z J 140 q, hs_z M 140 l, R) = hs_R scr (d + 2) 244 13 [some (.ref 140), some (.int (nI s))] [.int x] (hs_S0, hs_z J 140 q, hs_z M 140 l, R) := by
      rw [b244_2 o11, if_neg (show ¬ (5 : Int32) ≤ nI s from nI_ge (b := 5) (by omega) (by omega)), e245, b245_0, show (4 : Int32) = nI 4 from rfl, a1]; rfl
    rcases a2 with ⟨b1, b2⟩ | ⟨b1, j, b2, b3⟩
    · obtain ⟨b, c1, c2⟩ := m244 o11 hc hn m (s + 1) (by omega)
      refine ⟨b, ?_, ?_⟩
      · rw [e1, b1, b244_13, if_pos (by decide), nI_1]; exact c1
      · rw [c2]
        constructor
        · rintro ⟨s', k, h1, h2⟩; exact ⟨s', k, by omega, h2⟩
        · rintro ⟨s', k, h1, h2, h3, h4⟩
          refine ⟨s', k, ?_, h2, h3, h4⟩
          by_cases q : s = s'
          · subst q; exact absurd h4 (b2 k (by omega) h3)
          · omega
    · refine ⟨true, ?_, ⟨fun _ => ⟨s, j, Nat.le_refl _, by omega, b2, b3⟩, fun _ => rfl⟩⟩
      rw [e1, b244_13, if_neg b1]; rfl
end NR
