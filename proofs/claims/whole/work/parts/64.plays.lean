/-! the game: the reference -/
theorem m269g {scr : List Int32} {d a b : Nat} {f : Nat → Nat} {I : Nat → Nat → Int32} {L : Nat → Nat → Int64} {R : Nat → Nat → Nat} (o11 : ok11 hs_S0 R 140) (hb : b ≤ 8) (hab : a ≤ b) (hf : ∀ k, k < b → I 145 (10 + k) = nI (f k)) : hs_C scr d 269 [.ref 140, .int (nI a), .int (nI b)] (hs_S0, I, L, R) = some (some (.int (nI (smN (fun k => f (a + k)) (b - a)))), (hs_S0, I, L, R)) := by
  have main : ∀ i, i ≤ b - a → hs_R scr d 269 5 [some (.ref 140), some (.int (nI a)), some (.int (nI b)), some (.int 0), some (.int (nI a))] [] (hs_S0, I, L, R) = hs_R scr d 269 5 [some (.ref 140), some (.int (nI a)), some (.int (nI b)), some (.int (nI (smN (fun k => f (a + k)) i))), some (.int (nI (a + i)))] [] (hs_S0, I, L, R) := by
    intro i
    induction i with
    | zero => intro _; rfl
    | succ i ih =>
      intro h
      rw [ih (by omega), b269_5 o11, if_neg (nI_ge (by omega) (by omega))]
      simp (disch := omega) only [↓reduceIte, Nat.reduceAdd, f_ge, t_le, t_lt, f_lt, f_l0, t_0l, t_pl, t_eq, f_eq, f_e0, i10, i01, ib_nI, nI_clamp, nI_add, ad10, ad18, ad26, ad34, ad42, ad47, ad52, ad59, ad107, ad117, ml8, mr8, ml5, ml10, nI_1, hf]
      rfl
  rw [e269, b269_0]
  refine (main (b - a) (Nat.le_refl _)).trans ?_
  rw [b269_5 o11, if_pos (nI_le (by omega) (by omega))]
theorem sdS_lo {m : Nat} {e : Nat → Nat} : ∀ {j}, j ≤ m / 2 → sdS m e j = smN e j
  | 0, _ => rfl
  | j + 1, h => by
    rw [sdS, smN, sdS_lo (by omega), sidE, if_pos (by omega)]
    omega
theorem sdS_hi {m : Nat} {e : Nat → Nat} : ∀ {p}, sdS m e (m / 2 + p) = (smN e (m / 2) : Int) - smN (fun k => e (m / 2 + k)) p
  | 0 => by rw [Nat.add_zero, sdS_lo (Nat.le_refl _), smN]; omega
  | p + 1 => by
    rw [← Nat.add_assoc, sdS, sdS_hi, smN, sidE, if_neg (by omega)]
    omega
/-- at least as good -/
def leG (t : Nat) (x F : Int) : Prop := if t % 2 = 0 then x ≤ F else F ≤ x
theorem leG_t {t : Nat} {x y z : Int} (h : leG t x y) (h2 : leG t y z) : leG t x z := by
  unfold leG at *; split at h <;> simp_all <;> omega
theorem leG_a {t : Nat} {x y : Int} (h : leG t x y) (h2 : leG t y x) : x = y := by
  unfold leG at *; split at h <;> simp_all <;> omega
theorem btr_s {t : Nat} {b v : Int} : leG t b (btr t b v) ∧ leG t v (btr t b v) ∧ (btr t b v = b ∨ btr t b v = v) := by
  unfold leG btr
  by_cases h : t % 2 = 0
  · simp only [h, ↓reduceIte]; split <;> omega
  · simp only [h, ↓reduceIte]; split <;> omega
theorem fold_s {t : Nat} {v : Nat → Int} {b0 : Int} : ∀ n, (fo (fun h b => btr t b (v h)) n b0 = b0 ∨ ∃ h, h < n ∧ fo (fun h b => btr t b (v h)) n b0 = v h) ∧ leG t b0 (fo (fun h b => btr t b (v h)) n b0) ∧ ∀ h, h < n → leG t (v h) (fo (fun h b => btr t b (v h)) n b0)
  | 0 => ⟨Or.inl rfl, by show leG t b0 b0; unfold leG; split <;> omega, fun h hh => by omega⟩
  | n + 1 => by
    obtain ⟨h1, h2, h3⟩ := fold_s (t := t) (v := v) (b0 := b0) n
    have hs := btr_s (t := t) (b := fo (fun h b => btr t b (v h)) n b0) (v := v n)
    refine ⟨?_, leG_t h2 hs.1, fun h hh => ?_⟩
    · show btr t (fo (fun h b => btr t b (v h)) n b0) (v n) = b0 ∨ ∃ h, h < n + 1 ∧ btr t (fo (fun h b => btr t b (v h)) n b0) (v n) = v h
      rcases hs.2.2 with e | e
      · rw [e]
        rcases h1 with h1 | ⟨h, hh, h1⟩
        · exact Or.inl h1
        · exact Or.inr ⟨h, by omega, h1⟩
      · exact Or.inr ⟨n, by omega, e⟩
    · by_cases g : h = n
      · subst g; exact hs.2.1
      · exact leG_t (h3 h (by omega)) hs.1
/-- the reference's best so far: the first of the best of the first k -/
def bsf (t : Nat) (v : Nat → Int) (k : Nat) (b : Int) (w : Nat) : Prop := w < k ∧ v w = b ∧ (∀ j, j < k → leG t (v j) b) ∧ ∀ j, j < w → v j ≠ b
theorem vlG_cg {n T : Nat} {gr gr' : Nat → Nat} (hg : ∀ k, k < n → gr k = gr' k) : ∀ r e e', (∀ h, h < n → e h = e' h) → vlG n T gr r e = vlG n T gr' r e'
  | 0, e, e', h => sdS_cg h
  | r + 1, e, e', h => by
    show fo _ n _ = fo _ n _
    rw [vlG_cg hg r e e' h]
    refine fo_cg (fun k b hk => ?_)
    rw [hg k hk, vlG_cg hg r _ (up e' k (min 99 ((r + 1) * gr' k))) (fun j hj => by unfold up; split; rfl; exact h j hj)]
theorem ml127 (k : Nat) : (127 : Int32) * nI k = nI (127 * k) := pk_mul 127 k
theorem HB_trim {n lp k : Nat} {c : Nat → Int32} (h : HB n lp c) (hk : k < n) : HB n lp (up c (10 + k) 0) := by
  obtain ⟨hn, h0, hh, h9, hl, h2⟩ := h
  refine ⟨hn, by rw [up_n _ _ (by omega)]; exact h0, fun j hj => ?_, by rw [up_n _ _ (by omega)]; exact h9, hl, ?_⟩
  · have := hh j hj
    refine ⟨?_, by rw [up_n _ _ (by omega)]; exact this.2.1, by rw [up_n _ _ (by omega)]; exact this.2.2.1, by rw [up_n _ _ (by omega)]; exact this.2.2.2⟩
    by_cases g : j = k
    · subst g; rw [up_s]; exact ⟨0, by omega, rfl⟩
    · rw [up_n _ _ (by omega)]; exact this.1
  · rw [up_n _ _ (by omega), up_n _ _ (by omega)]
    rcases h2 with h2 | ⟨h2, ru, a1, a2, a3⟩
    · exact Or.inl h2
    · exact Or.inr ⟨h2, ru, a1, a2, by rw [up_n _ _ (by omega)]; exact a3⟩
section PL
variable {scr : List Int32} {n lp T : Nat} {gr : Nat → Nat} {L : Nat → Nat → Int64} {R : Nat → Nat → Nat}
theorem m341_sv {d t : Nat} {J : Nat → Nat → Int32} {x2 x3 x4 x5 : Int32} (o11 : ok11 hs_S0 R 140) (ht : t ≤ 3) : ∀ p i, i + p = 127 → hs_R scr d 341 59 [some (.ref 140), some (.int (nI t)), some (.int x2), some (.int x3), some (.int x4), some (.int x5), some (.int (nI i)), none, none] [] (hs_S0, wr J 149 (127 * t) i (J 145), L, R) = hs_R scr d 341 94 [some (.ref 140), some (.int (nI t)), some (.int x2), some (.int x3), some (.int x4), some (.int x5), some (.int 0), none, none] [] (hs_S0, wr J 149 (127 * t) 127 (J 145), L, R)
  | 0, i, h => by
    obtain rfl : i = 127 := by omega
    rw [b341_59 o11, if_pos (by decide)]
  | p + 1, i, h => by
    have hw := wr_s J 149 (127 * t) i (J 145)
    rw [b341_59 o11]
    simp (disch := omega) only [↓reduceIte, Nat.reduceAdd, f_ge, t_le, t_lt, f_lt, f_l0, t_0l, t_pl, t_eq, f_eq, f_e0, i10, i01, ib_nI, nI_clamp, nI_add, ad10, ad18, ad26, ad34, ad42, ad47, ad52, ad59, ad107, ad117, ml8, mr8, ml5, ml10, f127, ml127, nI_1, wr_row, hw]
    exact m341_sv o11 ht p (i + 1) (by omega)
theorem m341_bk {d t : Nat} {J : Nat → Nat → Int32} {x2 x3 x4 x5 x6 x7 : Int32} (o11 : ok11 hs_S0 R 140) (ht : t ≤ 3) : ∀ p i, i + p = 127 → hs_R scr d 341 144 [some (.ref 140), some (.int (nI t)), some (.int x2), some (.int x3), some (.int x4), some (.int x5), some (.int x6), some (.int x7), some (.int (nI i))] [] (hs_S0, wr J 145 0 i (fun k => J 149 (127 * t + k)), L, R) = hs_R scr d 341 144 [some (.ref 140), some (.int (nI t)), some (.int x2), some (.int x3), some (.int x4), some (.int x5), some (.int x6), some (.int x7), some (.int (nI 127))] [] (hs_S0, wr J 145 0 127 (fun k => J 149 (127 * t + k)), L, R)
  | 0, i, h => by
    obtain rfl : i = 127 := by omega
    rfl
  | p + 1, i, h => by
    have hw := wr_s J 145 0 i (fun k => J 149 (127 * t + k))
    rw [Nat.zero_add] at hw
    rw [← m341_bk o11 ht p (i + 1) (by omega), b341_144 o11]
    simp (disch := omega) only [↓reduceIte, Nat.reduceAdd, f_ge, t_le, t_lt, f_lt, f_l0, t_0l, t_pl, t_eq, f_eq, f_e0, i10, i01, ib_nI, nI_clamp, nI_add, ad10, ad18, ad26, ad34, ad42, ad47, ad52, ad59, ad107, ad117, ml8, mr8, ml5, ml10, f127, ml127, nI_1, wr_row, hw]
/-- what a play leaves as it was -/
def keep (t : Nat) (J J' : Nat → Nat → Int32) : Prop := J' 145 = J 145 ∧ (∀ k, k ≠ 145 → k ≠ 149 → k ≠ 140 → J' k = J k) ∧ (∀ f, f ≠ 28 → J' 140 f = J 140 f) ∧ (t ≠ 0 → J' 140 28 = J 140 28) ∧ ∀ i, i < 127 * t → J' 149 i = J 149 i
def vls (n T : Nat) (gr : Nat → Nat) (r : Nat) (e : Nat → Nat) (k : Nat) : Int := if k < n then vlG n T gr r (up e k (min 99 ((r + 1) * gr k))) else vlG n T gr r e
theorem m341 (hT : T ≤ 3) (o11 : ok11 hs_S0 R 140) : ∀ r d J e, r ≤ T → r + 1 ≤ d → HB n lp (J 145) → (∀ k, k < n → (J 145 (18 + k)).toNatClampNeg + lp = gr k) → (∀ h, h < n → e h = min 99 ((J 145 (10 + h)).toNatClampNeg + r * gr h)) → ∃ J', hs_C scr d 341 [.ref 140, .int (nI (T - r)), .int (nI T)] (hs_S0, J, L, R) = some (some (.int (iI (vlG n T gr r e))), (hs_S0, J', L, R)) ∧ keep (T - r) J J' ∧ (r = T → 0 < r → ∃ w, J' 140 28 = nI w ∧ bsf 0 (vls n T gr (r - 1) e) (n + 1) (vlG n T gr r e) w)
  | 0, d, J, e, hr, hd, hB, hg, he => by
    obtain ⟨d', rfl⟩ : ∃ d', d = d' + 1 := ⟨d - 1, by omega⟩
    have hn := hB.1
    have hf : ∀ k, k < n → J 145 (10 + k) = nI (e k) := by
      intro k hk
      have := bd_tn (hB.2.2.1 k hk).1 (by omega)
      rw [this.1]; congr 1
      rw [he k hk, Nat.zero_mul, Nat.add_zero, Nat.min_eq_right (by omega)]
    have hdiv : nI n / 2 = nI (n / 2) := pk_div (d := 2) (by omega) (by omega) (by omega)
    have h0 : J (140 + 5) 0 = nI n := hB.2.1
    refine ⟨J, ?_, ⟨rfl, fun _ _ _ _ => rfl, fun _ _ => rfl, fun _ => rfl, fun _ _ => rfl⟩, fun _ q => by omega⟩
    have s1 := m269g (scr := scr) (d := d') (L := L) (I := J) (a := 0) (b := n / 2) (f := e) o11 (by omega) (by omega) (fun k hk => hf k (by omega))
    have s2 := m269g (scr := scr) (d := d') (L := L) (I := J) (a := n / 2) (b := n) (f := e) o11 hn (by omega) hf
    simp only [nI_0, Nat.zero_add, Nat.sub_zero] at s1
    rw [e341, Nat.sub_zero, b341_0 o11, if_pos rfl, h0, hdiv, s1]
    simp only [Option.bind_some, Option.toList_some, Option.toList_none, List.append_nil, List.cons_append, List.nil_append, ↓reduceIte, true_or, or_true, Nat.reduceAdd, Nat.add_assoc, b341_18 o11]
    rw [show J 145 0 = nI n from hB.2.1, hdiv, s2]
    simp only [Option.bind_some, Option.toList_some, Option.toList_none, List.append_nil, List.cons_append, List.nil_append, ↓reduceIte, true_or, or_true, Nat.reduceAdd, Nat.add_assoc, b341_36]
    have e1 : nI (smN (fun k => e k) (n / 2)) - nI (smN (fun k => e (n / 2 + k)) (n - n / 2)) = iI (sdE n e) := by
      rw [iI_n, iI_n, iI_sub]; congr 1
      show _ = sdS n e n
      have := sdS_hi (m := n) (e := e) (p := n - n / 2)
      rw [show n / 2 + (n - n / 2) = n by omega] at this
      rw [this]
    rw [e1]; rfl
  | r + 1, d, J, e, hr, hd, hB, hg, he => by
    obtain ⟨d', rfl⟩ : ∃ d', d = d' + 1 := ⟨d - 1, by omega⟩
    have hn := hB.1
    have he99 : ∀ k, k < n → e k ≤ 99 := fun k hk => by rw [he k hk]; omega
    obtain ⟨t, ht⟩ : ∃ t, t = T - (r + 1) := ⟨_, rfl⟩
    have ht3 : t ≤ 2 := by omega
    obtain ⟨x3, hx3⟩ : ∃ x3 : Int32, x3 = if t % 2 = 0 then 1 else 0 := ⟨_, rfl⟩
    have hst : hs_C scr (d' + 1) 341 [.ref 140, .int (nI t), .int (nI T)] (hs_S0, J, L, R) = hs_R scr (d' + 1) 341 94 [some (.ref 140), some (.int (nI t)), some (.int (nI T)), some (.int x3), some (.int 0), some (.int (-1)), some (.int (nI 0)), none, none] [] (hs_S0, wr J 149 (127 * t) 127 (J 145), L, R) := by
      have hsv := m341_sv (scr := scr) (d := d' + 1) (J := J) (L := L) (t := t) (x2 := nI T) (x3 := x3) (x4 := 0) (x5 := -1) o11 (by omega) 127 0 rfl
      rw [wr_0, nI_0] at hsv
      rw [e341, b341_0 o11, if_neg (fun q => by have := (nI_eq (a := t) (b := T) (by omega) (by omega)).mp q; omega), rem2 (by omega)]
      by_cases g : t % 2 = 0
      · rw [g, if_pos (show nI 0 = 0 from rfl), b341_49]
        rw [hx3, if_pos g] at hsv ⊢
        exact hsv
      · have g' : t % 2 = 1 := by omega
        rw [g', if_neg (show ¬ nI 1 = 0 by decide), b341_49]
        rw [hx3, if_neg g] at hsv ⊢
        exact hsv
    -- one move
    have mv : ∀ k J1, k ≤ n → J1 145 = J 145 → (∀ i, i < 127 → J1 149 (127 * t + i) = J 145 i) → ∃ J2, (∀ b w q1 q2, hs_R scr (d' + 1) 341 94 [some (.ref 140), some (.int (nI t)), some (.int (nI T)), some (.int x3), some (.int b), some (.int w), some (.int (nI k)), q1, q2] [] (hs_S0, J1, L, R) = hs_R scr (d' + 1) 341 144 [some (.ref 140), some (.int (nI t)), some (.int (nI T)), some (.int x3), some (.int b), some (.int w), some (.int (nI k)), some (.int (iI (vls n T gr r e k))), some (.int (nI 127))] [] (hs_S0, J2, L, R)) ∧ J2 145 = J 145 ∧ (∀ k, k ≠ 145 → k ≠ 149 → k ≠ 140 → J2 k = J1 k) ∧ (∀ f, J2 140 f = J1 140 f) ∧ ∀ i, i < 127 * (t + 1) → J2 149 i = J1 149 i := by
      intro k J1 hk h145 h149
      obtain ⟨r1, hr1⟩ : ∃ r1 : Nat → Int32, r1 = if k < n then up (J 145) (10 + k) 0 else J 145 := ⟨_, rfl⟩
      have hB1 : HB n lp r1 := by
        rw [hr1]; split
        · rename_i q; exact HB_trim hB q
        · exact hB
      have hJ1 : hs_z J1 145 (J 145) = J1 := by rw [← h145]; exact hz_id _ _
      have hup : (if k < n then hs_u J1 145 (10 + k) 0 else J1) = hs_z J1 145 r1 := by
        rw [hr1]
        split
        · rw [← hJ1, hz_u, hz_z]
        · rw [hJ1]
      have hB2 := HB_cd (d := 1) hB1
      have h18 : ∀ j, j < n → r1 (18 + j) = J 145 (18 + j) := by
        intro j hj; rw [hr1]; split
        · exact up_n _ _ (by omega)
        · rfl
      obtain ⟨J3, e3, k3, -⟩ := m341 hT o11 r d' (hs_z J1 145 (cd r1 n lp 1)) (if k < n then up e k (min 99 ((r + 1) * gr k)) else e) (by omega) (by omega) (by rw [hz_s]; exact hB2) (fun j hj => by rw [hz_s, cd_o (by omega), h18 j hj]; exact hg j hj) (fun j hj => by
        rw [hz_s, cd_10 hn hj]
        unfold lenA
        rw [nI_clamp (by omega), h18 j hj, hg j hj, Nat.one_mul]
        have ej := he j hj
        rw [Nat.succ_mul] at ej
        by_cases q : k < n
        · rw [if_pos q, hr1, if_pos q]
          by_cases g : j = k
          · subst g; rw [up_s, up_s, Nat.succ_mul]
            show _ = min 99 (min 99 (Int32.toNatClampNeg 0 + gr j) + r * gr j)
            rw [tn_0]; omega
          · rw [up_n _ _ g, up_n _ _ (by omega), ej]; omega
        · rw [if_neg q, hr1, if_neg q, ej]; omega)
      obtain ⟨a1, a2, a3, a4, a5⟩ := k3
      rw [show T - r = t + 1 by omega] at e3 a4 a5
      have hb3 := fun (x4 x5 x6 x7 : Int32) => m341_bk (scr := scr) (d := d' + 1) (J := J3) (L := L) (t := t) (x2 := nI T) (x3 := x3) (x4 := x4) (x5 := x5) (x6 := x6) (x7 := x7) o11 (by omega)
      refine ⟨wr J3 145 0 127 (fun i => J3 149 (127 * t + i)), fun b w q1 q2 => ?_, ?_, fun k h1 h2 h3 => ?_, fun f => ?_, fun i hi => ?_⟩
      · have hx0 : J1 (140 + 5) 0 = nI n := by show J1 145 0 = _; rw [h145]; exact hB.2.1
        rw [b341_94 o11, hx0, if_neg (nI_nlt hk (by omega))]
        have hstep : (if nI n ≤ nI k then hs_R scr (d' + 1) 341 127 [some (.ref 140), some (.int (nI t)), some (.int (nI T)), some (.int x3), some (.int b), some (.int w), some (.int (nI k)), q1, q2] [] (hs_S0, J1, L, R) else (if hs_ib ((10 : Int32) + nI k) 1995 = true then hs_R scr (d' + 1) 341 127 [some (.ref 140), some (.int (nI t)), some (.int (nI T)), some (.int x3), some (.int b), some (.int w), some (.int (nI k)), q1, q2] [] (hs_S0, hs_u J1 (140 + 5) (Int32.toNatClampNeg ((10 : Int32) + nI k)) 0, L, R) else none)) = hs_R scr (d' + 1) 341 127 [some (.ref 140), some (.int (nI t)), some (.int (nI T)), some (.int x3), some (.int b), some (.int w), some (.int (nI k)), q1, q2] [] (hs_S0, hs_z J1 145 r1, L, R) := by
          rw [← hup]
          by_cases q : k < n
          · rw [if_neg (nI_ge q (by omega)), if_pos q]
            simp (disch := omega) only [↓reduceIte, Nat.reduceAdd, f_ge, t_le, t_lt, f_lt, f_l0, t_0l, t_pl, t_eq, f_eq, f_e0, i10, i01, ib_nI, nI_clamp, nI_add, ad10, ad18, ad26, ad34, ad42, ad47, ad52, ad59, ad107, ad117, ml8, mr8, ml5, ml10]
          · rw [if_pos (nI_le (by omega) (by omega)), if_neg q]
        refine Eq.trans hstep ?_
        rw [b341_127 o11, m284 o11 hB1]
        simp only [Option.bind_some, Option.toList_some, Option.toList_none, List.append_nil, List.cons_append, List.nil_append, ↓reduceIte, true_or, or_true, Nat.reduceAdd, Nat.add_assoc, b341_131 o11]
        rw [nI_1, e3]
        simp only [Option.bind_some, Option.toList_some, Option.toList_none, List.append_nil, List.cons_append, List.nil_append, ↓reduceIte, true_or, or_true, Nat.reduceAdd, Nat.add_assoc, b341_139]
        have hv : vlG n T gr r (if k < n then up e k (min 99 ((r + 1) * gr k)) else e) = vls n T gr r e k := by
          unfold vls; split <;> rfl
        rw [hv]
        have := hb3 b w (nI k) (iI (vls n T gr r e k)) 127 0 rfl
        rw [wr_0, nI_0] at this
        exact this
      · funext i
        by_cases q : i < 127
        · rw [wr_in _ _ (by omega), Nat.sub_zero, a5 _ (by omega), hz_row _ _ (by omega)]; exact h149 i q
        · rw [wr_out _ _ (by omega), a1, hz_s, cd_hi hn (by omega), hr1]
          split
          · exact up_n _ _ (by omega)
          · rfl
      · rw [wr_row _ _ h1, a2 k h1 h2 h3, hz_row _ _ h1]
      · rw [wr_row _ _ (by omega)]
        by_cases q : f = 28
        · subst q; rw [a4 (by omega), hz_row _ _ (by omega)]
        · rw [a3 f q, hz_row _ _ (by omega)]
      · rw [wr_row _ _ (by omega), a5 i hi, hz_row _ _ (by omega)]
    have hvb : ∀ k, -792 ≤ vls n T gr r e k ∧ vls n T gr r e k ≤ 792 := fun k => by
      unfold vls; split
      · exact vlG_b hn r _ (up_99 he99 (by omega))
      · exact vlG_b hn r e he99
    -- all moves
    have lp1 : ∀ k, k ≤ n → ∃ J2 b w q1 q2, hs_C scr (d' + 1) 341 [.ref 140, .int (nI t), .int (nI T)] (hs_S0, J, L, R) = hs_R scr (d' + 1) 341 94 [some (.ref 140), some (.int (nI t)), some (.int (nI T)), some (.int x3), some (.int (iI b)), some (.int (nI w)), some (.int (nI (k + 1))), q1, q2] [] (hs_S0, J2, L, R) ∧ bsf t (vls n T gr r e) (k + 1) b w ∧ J2 145 = J 145 ∧ (∀ k, k ≠ 145 → k ≠ 149 → k ≠ 140 → J2 k = J k) ∧ (∀ f, J2 140 f = J 140 f) ∧ (∀ i, i < 127 → J2 149 (127 * t + i) = J 145 i) ∧ ∀ i, i < 127 * t → J2 149 i = J 149 i := by
      intro k
      induction k with
      | zero =>
        intro _
        obtain ⟨J2, e2, b1, b2, b3, b4⟩ := mv 0 (wr J 149 (127 * t) 127 (J 145)) (by omega) (wr_row _ _ (by omega)) (fun i hi => by rw [wr_in _ _ (by omega), Nat.add_sub_cancel_left])
        refine ⟨J2, vls n T gr r e 0, 0, some (.int (iI (vls n T gr r e 0))), some (.int (nI 127)), (hst.trans (e2 0 (-1) none none)).trans ?_, ⟨by omega, rfl, fun j hj => ?_, fun j hj => by omega⟩, b1, fun k h1 h2 h3 => by rw [b2 k h1 h2 h3, wr_row _ _ h2], fun f => by rw [b3 f, wr_row _ _ (by omega)], fun i hi => by rw [b4 _ (by omega), wr_in _ _ (by omega), Nat.add_sub_cancel_left], fun i hi => by rw [b4 _ (by omega), wr_out _ _ (by omega)]⟩
        · rw [b341_144 o11, if_pos (by decide), if_pos (by decide), b341_205, b341_213, nI_1]
        · obtain rfl : j = 0 := by omega
          unfold leG; split <;> omega
      | succ k ih =>
        intro hk
        obtain ⟨J1, b, w, q1, q2, e1, hbs, c1, c2, c3, c4, c5⟩ := ih (by omega)
        obtain ⟨J2, e2, b1, b2, b3, b4⟩ := mv (k + 1) J1 (by omega) c1 c4
        have hbb : -792 ≤ b ∧ b ≤ 792 := by rw [← hbs.2.1]; exact hvb w
        have hvk := hvb (k + 1)
        have hstep : ∃ b' w', hs_R scr (d' + 1) 341 144 [some (.ref 140), some (.int (nI t)), some (.int (nI T)), some (.int x3), some (.int (iI b)), some (.int (nI w)), some (.int (nI (k + 1))), some (.int (iI (vls n T gr r e (k + 1)))), some (.int (nI 127))] [] (hs_S0, J2, L, R) = hs_R scr (d' + 1) 341 94 [some (.ref 140), some (.int (nI t)), some (.int (nI T)), some (.int x3), some (.int (iI b')), some (.int (nI w')), some (.int (nI (k + 1 + 1))), some (.int (iI (vls n T gr r e (k + 1)))), some (.int (nI 127))] [] (hs_S0, J2, L, R) ∧ bsf t (vls n T gr r e) (k + 1 + 1) b' w' := by
          obtain ⟨d1, d2, d3, d4⟩ := hbs
          have hw8 : w < 2 ^ 31 := by omega
          rw [b341_144 o11, if_pos (show (127 : Int32) ≤ nI 127 by decide), if_neg (nI_pos hw8), b341_205, b341_213, b341_213, nI_1]
          by_cases g : t % 2 = 0
          · rw [hx3, if_pos g, if_neg (show ¬ (1 : Int32) = 0 by decide)]
            by_cases q : b < vls n T gr r e (k + 1)
            · rw [if_pos ((iI_lt (by omega) (by omega)).mpr q)]
              refine ⟨_, _, rfl, by omega, rfl, fun j hj => ?_, fun j hj => ?_⟩
              · unfold leG; rw [if_pos g]
                by_cases z : j = k + 1
                · subst z; omega
                · have := d3 j (by omega); unfold leG at this; rw [if_pos g] at this; omega
              · have := d3 j (by omega); unfold leG at this; rw [if_pos g] at this; omega
            · rw [if_neg (fun z => q ((iI_lt (by omega) (by omega)).mp z))]
              refine ⟨_, _, rfl, by omega, d2, fun j hj => ?_, d4⟩
              by_cases z : j = k + 1
              · subst z; unfold leG; rw [if_pos g]; omega
              · exact d3 j (by omega)
          · rw [hx3, if_neg g, if_pos rfl]
            by_cases q : vls n T gr r e (k + 1) < b
            · rw [if_pos ((iI_lt (by omega) (by omega)).mpr q)]
              refine ⟨_, _, rfl, by omega, rfl, fun j hj => ?_, fun j hj => ?_⟩
              · unfold leG; rw [if_neg g]
                by_cases z : j = k + 1
                · subst z; omega
                · have := d3 j (by omega); unfold leG at this; rw [if_neg g] at this; omega
              · have := d3 j (by omega); unfold leG at this; rw [if_neg g] at this; omega
            · rw [if_neg (fun z => q ((iI_lt (by omega) (by omega)).mp z))]
              refine ⟨_, _, rfl, by omega, d2, fun j hj => ?_, d4⟩
              by_cases z : j = k + 1
              · subst z; unfold leG; rw [if_neg g]; omega
              · exact d3 j (by omega)
        obtain ⟨b', w', e3, hb'⟩ := hstep
        exact ⟨J2, b', w', some (.int (iI (vls n T gr r e (k + 1)))), some (.int (nI 127)), (e1.trans (e2 (iI b) (nI w) q1 q2)).trans e3, hb', b1, fun k h1 h2 h3 => by rw [b2 k h1 h2 h3, c2 k h1 h2 h3], fun f => by rw [b3 f, c3 f], fun i hi => by rw [b4 _ (by omega), c4 i hi], fun i hi => by rw [b4 _ (by omega), c5 i hi]⟩
    obtain ⟨J2, b, w, q1, q2, e1, hbs, c1, c2, c3, c4, c5⟩ := lp1 n (Nat.le_refl _)
    have hbv : b = vlG n T gr (r + 1) e := by
      have hf := fold_s (t := t) (v := fun h => vlG n T gr r (up e h (min 99 ((r + 1) * gr h)))) (b0 := vlG n T gr r e) n
      have hF : fo (fun h b => btr t b (vlG n T gr r (up e h (min 99 ((r + 1) * gr h))))) n (vlG n T gr r e) = vlG n T gr (r + 1) e := by rw [ht]; rfl
      rw [hF] at hf
      apply leG_a (t := t)
      · rw [← hbs.2.1]
        unfold vls
        split
        · rename_i q; exact hf.2.2 w q
        · exact hf.2.1
      · rcases hf.1 with g | ⟨h, hh, g⟩
        · have := hbs.2.2.1 n (by omega)
          unfold vls at this; rw [if_neg (by omega)] at this
          rw [g]; exact this
        · have := hbs.2.2.1 h (by omega)
          unfold vls at this; rw [if_pos hh] at this
          rw [g]; exact this
    have hx0 : J2 (140 + 5) 0 = nI n := by show J2 145 0 = _; rw [c1]; exact hB.2.1
    rw [← ht]
    by_cases ht0 : t = 0
    · refine ⟨hs_u J2 140 28 (nI w), e1.trans ?_, ⟨by rw [hu_row _ _ (by omega)]; exact c1, fun k h1 h2 h3 => by rw [hu_row _ _ h3]; exact c2 k h1 h2 h3, fun f hf => by rw [hu_ne _ _ hf]; exact c3 f, fun q => absurd ht0 q, fun i hi => by omega⟩, fun _ _ => ⟨w, hu_same _ _ _ _, ?_⟩⟩
      · rw [b341_94 o11, hx0, if_pos (nI_lt (by omega) (by omega)), if_pos (by rw [ht0]; rfl), b341_229, hbv]
      · rw [← hbv, Nat.add_sub_cancel, ← ht0]; exact hbs
    · refine ⟨J2, e1.trans ?_, ⟨c1, c2, fun f _ => c3 f, fun _ => c3 28, c5⟩, fun q => by omega⟩
      rw [b341_94 o11, hx0, if_pos (nI_lt (by omega) (by omega)), if_neg (nI_ne0 (by omega) (by omega)), b341_229, hbv]
end PL
