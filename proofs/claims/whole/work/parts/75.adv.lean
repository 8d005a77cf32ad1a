/-! the reference: next token; words -/
theorem up_cm {α : Type} (c : Nat → α) {a b : Nat} (v w : α) (h : a ≠ b) : up (up c a v) b w = up (up c b w) a v := by
  funext i; unfold up
  by_cases g1 : i = a
  · by_cases g2 : i = b
    · exact absurd (g1.symm.trans g2) h
    · rw [if_pos g1, if_neg g2, if_pos g1]
  · by_cases g2 : i = b
    · rw [if_pos g2, if_neg g1, if_pos g2]
    · rw [if_neg g1, if_neg g2, if_neg g1]
theorem pkN_b {B : Nat → Nat} {a : Nat} (n : Nat) (h : ∀ i, i < n → 97 ≤ B (a + i) ∧ B (a + i) ≤ 122) : pkN B a n + 1 ≤ 32 ^ n ∧ (0 < n → 0 < pkN B a n) := by
  induction n with
  | zero => exact ⟨Nat.le_refl 1, fun q => absurd q (Nat.lt_irrefl 0)⟩
  | succ n ih =>
    have h1 := ih (fun i hi => h i (Nat.lt_succ_of_lt hi))
    have h2 := h n (Nat.lt_succ_self n)
    have h3 := Nat.mul_le_mul_right 32 h1.1
    have h4 : pkN B a (n + 1) = pkN B a n * 32 + (B (a + n) - 96) := rfl
    rw [h4, Nat.pow_succ]
    clear h1 h4 ih h
    generalize pkN B a n = y at h3 ⊢
    generalize 32 ^ n = w at h3 ⊢
    constructor
    · omega
    · intro _; omega
theorem nvN_b {B : Nat → Nat} {a : Nat} (n : Nat) (h : ∀ i, i < n → 48 ≤ B (a + i) ∧ B (a + i) ≤ 57) : nvN B a n + 1 ≤ 10 ^ n := by
  induction n with
  | zero => exact Nat.le_refl 1
  | succ n ih =>
    have h1 := ih (fun i hi => h i (Nat.lt_succ_of_lt hi))
    have h2 := h n (Nat.lt_succ_self n)
    have h3 := Nat.mul_le_mul_right 10 h1
    have h4 : nvN B a (n + 1) = nvN B a n * 10 + (B (a + n) - 48) := rfl
    rw [h4, Nat.pow_succ]
    clear h1 h4 ih h
    generalize nvN B a n = y at h3 ⊢
    generalize 10 ^ n = w at h3 ⊢
    omega
theorem W0_inj : ∀ i, i < 30 → ∀ j, j < 30 → hs_W0.getD i 0 = hs_W0.getD j 0 → i = j := by decide +kernel
theorem W0_m1 : ∀ j, j < 30 → hs_W0.getD j 0 ≠ -1 := by decide +kernel
section TV
variable {scr : List Int32} {d E a h' m k v p h : Nat} {B : Nat → Nat} {x1 : Int32} {q : Nat → Int32} {l : Nat → Int64} {J : Nat → Nat → Int32} {M : Nat → Nat → Int64} {R : Nat → Nat → Nat} {S : List hs_S} {I : Nat → Nat → Int32} {L : Nat → Nat → Int64}
theorem m213 (hv : v < 2 ^ 20) : hs_C scr d 213 [.ref 140, .int (nI v)] (S, I, L, R) = some (some (.int (if sgn v = 38 then 0 else 1)), (S, I, L, R)) := by
  rw [e213, b213_0, show (59 : Int32) = nI 59 from rfl, show (60 : Int32) = nI 60 from rfl, show (62 : Int32) = nI 62 from rfl, show (61 : Int32) = nI 61 from rfl]
  by_cases g1 : v = 59
  · subst g1; rw [if_pos rfl, b213_24, b213_29]; rfl
  · rw [if_neg (fun q => g1 ((nI_eq (by omega) (by omega)).mp q))]
    by_cases g2 : v = 60
    · subst g2; rw [if_pos rfl, b213_24, b213_29]; rfl
    · rw [if_neg (fun q => g2 ((nI_eq (by omega) (by omega)).mp q))]
      by_cases g3 : v = 62
      · subst g3; rw [if_pos rfl, b213_24, b213_29]; rfl
      · rw [if_neg (fun q => g3 ((nI_eq (by omega) (by omega)).mp q))]
        by_cases g4 : v = 61
        · subst g4; rw [if_pos rfl, b213_24, b213_29]; rfl
        · rw [if_neg (fun q => g4 ((nI_eq (by omega) (by omega)).mp q)), b213_29, show sgn v = 38 by unfold sgn; rw [if_neg g1, if_neg g2, if_neg g3, if_neg g4]]; rfl
theorem m209 (o11 : ok11 hs_S0 R 140) (h9 : q 9 = nI E) (h16 : q 16 = nI h) (hE : E ≤ 900) (hB : ∀ i, i < E → J 144 i &&& 255 = nI (B i)) (hb : ∀ i, i < E → B i < 256) (ht : Tk E B h k a v h') : ∃ q' l', hs_C scr (d + 1) 209 [.ref 140] (hs_S0, hs_z J 140 q, hs_z M 140 l, R) = some (none, (hs_S0, hs_z J 140 q', hs_z M 140 l', R)) ∧ q' 15 = nI a ∧ q' 16 = nI h' ∧ TokR k v q' l' ∧ (∀ f, f < 14 ∨ 18 < f → q' f = q f) ∧ (∀ f, f ≠ 19 → l' f = l f) := by
  obtain ⟨t1, t2, t3, t4, tt⟩ := ht
  have e0 : hs_C scr (d + 1) 209 [.ref 140] (hs_S0, hs_z J 140 q, hs_z M 140 l, R) = hs_R scr (d + 1) 209 58 [some (.ref 140), none] [] (hs_S0, hs_z J 140 (up q 15 (nI a)), hs_z M 140 l, R) := by
    rw [e209, b209_0 o11, hz_s, h16, hz_u]
    exact m209_s o11 h9 hE hB hb t2 t3 t4 (a - h) h (by omega) (Nat.le_refl _)
  have e1 : ∀ g : a < E, hs_C scr (d + 1) 209 [.ref 140] (hs_S0, hs_z J 140 q, hs_z M 140 l, R) = hs_R scr (d + 1) 209 96 [some (.ref 140), some (.int (nI (B a)))] [.int (if isl (B a) = true then 1 else 0)] (hs_S0, hs_z J 140 (up (up q 15 (nI a)) 16 (nI a)), hs_z M 140 l, R) := by
    intro g
    have := hb a g
    rw [e0, b209_58 o11, hz_s, up_s, hz_u, hz_s, up_n _ _ (by omega), up_s, up_n _ _ (by omega), up_n _ _ (by omega), h9, if_pos (nI_lt g (by omega)), m210 (q := up (up q 15 (nI a)) 16 (nI a)) o11 h9 hE hB (by omega), if_pos g]
    simp only [Option.bind_some, Option.toList_some, Option.toList_none, List.append_nil, List.cons_append, List.nil_append, ↓reduceIte, true_or, or_true, Nat.reduceAdd, Nat.add_assoc]
    rw [b209_91, m211 (by omega)]; rfl
  rcases tt with ⟨g1, g2, g3, g4⟩ | ⟨g, c1, c2, c3, c4, c5, c6⟩ | ⟨g, c1, c2, c3, c4, c5, c6⟩ | ⟨g, c1, c2, c3, c4, c5⟩
  · refine ⟨up (up (up q 15 (nI a)) 16 (nI a)) 14 0, l, ?_, rfl, by rw [g3, ← g1]; rfl, Or.inl ⟨g2, rfl⟩, fun f hf => by rw [up_n _ _ (by omega), up_n _ _ (by omega), up_n _ _ (by omega)], fun _ _ => rfl⟩
    rw [e0, b209_58 o11, hz_s, up_s, hz_u, hz_s, up_n _ _ (by omega), up_s, up_n _ _ (by omega), up_n _ _ (by omega), h9, if_neg (nI_nlt (show E ≤ a by omega) (by omega)), hz_u]
  · have hl := c3 a (Nat.le_refl _) c1
    have hw := m209_w (scr := scr) (d := d) (x1 := nI (B a)) (q := up (up q 15 (nI a)) 14 1) (l := l) (M := M) o11 h9 rfl hE hB hb c2 c3 c4 (h' - a) a (by omega) (Nat.le_refl _)
    have hbd := pkN_b (B := B) (a := a) (h' - a) (fun i hi => isl_b (c3 (a + i) (by omega) (by omega)))
    refine ⟨up (up (up (up q 15 (nI a)) 14 1) 16 (nI h')) 18 (nI (h' - a)), up l 19 (wvN B a (h' - a)), ?_, rfl, rfl, ?_, fun f hf => by rw [up_n _ _ (by omega), up_n _ _ (by omega), up_n _ _ (by omega), up_n _ _ (by omega)], fun f hf => up_n _ _ hf⟩
    · rw [e1 g, hl, b209_96 o11]
      simp only [↓reduceIte, i10]
      rw [hz_u, hz_u, up_cm _ _ _ (show (16 : Nat) ≠ 14 by omega)]
      rw [Nat.sub_self] at hw
      exact hw
    · rcases c6 with ⟨d1, d2⟩ | ⟨d1, d2⟩
      · rw [show min 8 (h' - a) = h' - a by omega] at c5
        rw [← c5] at hbd
        have hwv : up l 19 (wvN B a (h' - a)) 19 = lN v := by rw [up_s]; unfold wvN; rw [if_pos d1, c5]
        have hp : 32 ^ (h' - a) ≤ 32 ^ 8 := Nat.pow_le_pow_right (by omega) d1
        rcases d2 with ⟨k1, k2⟩ | ⟨k1, k2⟩
        · exact Or.inr (Or.inr (Or.inr (Or.inr (Or.inr (Or.inr (Or.inr (Or.inl ⟨k1, rfl, hwv.trans k2.symm⟩)))))))
        · exact Or.inr (Or.inr (Or.inr (Or.inr (Or.inr (Or.inr (Or.inr (Or.inr (Or.inl ⟨k1, rfl, hwv, hbd.2 (by omega), Nat.lt_of_lt_of_le hbd.1 (by simpa using hp), k2, h' - a, d1, rfl⟩))))))))
      · refine Or.inr (Or.inr (Or.inr (Or.inr (Or.inr (Or.inr (Or.inr (Or.inr (Or.inr ⟨d2, rfl, ?_, h' - a, d1, by omega, rfl⟩))))))))
        rw [up_s]; unfold wvN; rw [if_neg (by omega)]
  · have hd := c3 a (Nat.le_refl _) c1
    have hdb := isd_b hd
    have hl : isl (B a) = false := by unfold isl; simp; omega
    have hw := m209_n (scr := scr) (d := d) (x1 := nI (B a)) (q := up q 15 (nI a)) (ML := hs_z M 140 l) o11 h9 rfl hE hB hb c2 c3 c4 (h' - a) a (by omega) (Nat.le_refl _)
    rw [Nat.sub_self] at hw
    refine ⟨up (up (up (up q 15 (nI a)) 16 (nI h')) 17 (nI (nvN B a (min 4 (h' - a))))) 14 (if h' - a ≤ 4 then 2 else 4), l, ?_, rfl, rfl, ?_, fun f hf => by rw [up_n _ _ (by omega), up_n _ _ (by omega), up_n _ _ (by omega), up_n _ _ (by omega)], fun f hf => rfl⟩
    · rw [e1 g, hl, b209_96 o11]
      simp only [Bool.false_eq_true, ↓reduceIte]
      rw [m212 (by omega), hd]
      simp only [Option.bind_some, Option.toList_some, Option.toList_none, List.append_nil, List.cons_append, List.nil_append, ↓reduceIte, true_or, or_true, Nat.reduceAdd, Nat.add_assoc]
      rw [b209_202 o11, if_neg (by decide), hz_u]
      exact hw
    · by_cases g4 : h' - a ≤ 4
      · rw [if_pos g4] at c6 ⊢
        have hbd := nvN_b (B := B) (a := a) (h' - a) (fun i hi => isd_b (c3 (a + i) (by omega) (by omega)))
        rw [show min 4 (h' - a) = h' - a by omega] at c5 ⊢
        have hp : 10 ^ (h' - a) ≤ 10 ^ 4 := Nat.pow_le_pow_right (by omega) g4
        rw [← c5] at hbd ⊢
        exact Or.inr (Or.inr (Or.inl ⟨c6, rfl, by have : (10 : Nat) ^ 4 = 10000 := by decide
                                                  omega, rfl⟩))
      · rw [if_neg g4] at c6 ⊢
        exact Or.inr (Or.inl ⟨c6, rfl⟩)
  · have hb' := hb a g
    refine ⟨up (up (up (up q 15 (nI a)) 16 (nI (a + 1))) 17 (nI (B a))) 14 (if sgn (B a) = 38 then 4 else 3), l, ?_, rfl, by rw [c3]; rfl, ?_, fun f hf => by rw [up_n _ _ (by omega), up_n _ _ (by omega), up_n _ _ (by omega), up_n _ _ (by omega)], fun f hf => rfl⟩
    · rw [e1 g, c1, b209_96 o11]
      simp only [Bool.false_eq_true, ↓reduceIte]
      rw [m212 (by omega), c2]
      simp only [Option.bind_some, Option.toList_some, Option.toList_none, List.append_nil, List.cons_append, List.nil_append, ↓reduceIte, true_or, or_true, Nat.reduceAdd, Nat.add_assoc, Bool.false_eq_true]
      rw [b209_202 o11, if_pos rfl, hz_s, up_n _ _ (by omega), up_s, nI_1, hz_u, hz_u, up_up, m213 (by omega)]
      simp only [Option.bind_some, Option.toList_some, Option.toList_none, List.append_nil, List.cons_append, List.nil_append, ↓reduceIte, true_or, or_true, Nat.reduceAdd, Nat.add_assoc]
      rw [b209_319]
      by_cases gs : sgn (B a) = 38
      · simp only [gs, ↓reduceIte, b209_327 o11, hz_u, b209_330]
      · simp only [gs, ↓reduceIte, i10, b209_327 o11, hz_u, b209_330]
    · by_cases g1 : B a = 59
      · rw [g1] at c4 ⊢
        exact Or.inr (Or.inr (Or.inr (Or.inl ⟨c4, rfl, rfl⟩)))
      · by_cases g2 : B a = 60
        · rw [g2] at c4 ⊢
          exact Or.inr (Or.inr (Or.inr (Or.inr (Or.inl ⟨c4, rfl, rfl⟩))))
        · by_cases g3 : B a = 62
          · rw [g3] at c4 ⊢
            exact Or.inr (Or.inr (Or.inr (Or.inr (Or.inr (Or.inl ⟨c4, rfl, rfl⟩)))))
          · by_cases g4 : B a = 61
            · rw [g4] at c4 ⊢
              exact Or.inr (Or.inr (Or.inr (Or.inr (Or.inr (Or.inr (Or.inl ⟨c4, rfl, rfl⟩))))))
            · have gs : sgn (B a) = 38 := by unfold sgn; rw [if_neg g1, if_neg g2, if_neg g3, if_neg g4]
              rw [gs] at c4 ⊢
              exact Or.inr (Or.inl ⟨c4, rfl⟩)
end TV
