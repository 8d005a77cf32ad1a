/-! days -/
theorem hz_s {α : Type} (m : Nat → Nat → α) (k : Nat) (r : Nat → α) : hs_z m k r k = r := by funext b; simp [hs_z]
theorem hz_row {α : Type} (m : Nat → Nat → α) {k a : Nat} (r : Nat → α) (h : a ≠ k) : hs_z m k r a = m a := by funext b; simp [hs_z, h]
theorem hz_u {α : Type} (m : Nat → Nat → α) (k : Nat) (r : Nat → α) (j : Nat) (v : α) : hs_u (hs_z m k r) k j v = hs_z m k (up r j v) := by
  funext a b; simp only [hs_u, hs_z, up]
  by_cases h : a = k
  · subst h; simp
  · simp [h]
theorem hz_id {α : Type} (m : Nat → Nat → α) (k : Nat) : hs_z m k (m k) = m := by
  funext a b; simp only [hs_z]; split
  · rename_i h; rw [h]
  · rfl
theorem hz_z {α : Type} (m : Nat → Nat → α) (k : Nat) (r r' : Nat → α) : hs_z (hs_z m k r) k r' = hs_z m k r' := by
  funext a b; simp only [hs_z]; split <;> rfl
theorem mn99 {z : Nat} (h : z < 2 ^ 31) : (if nI z < 99 then nI z else (99 : Int32)) = nI (min 99 z) := by
  by_cases q : z < 99
  · rw [if_pos (show nI z < 99 from nI_lt (b := 99) q (by omega)), Nat.min_eq_right (by omega)]
  · rw [if_neg (show ¬ nI z < 99 from nI_nlt (b := 99) (by omega) h), Nat.min_eq_left (by omega)]; rfl
theorem mn2 {z : Nat} (h : z < 2 ^ 31) : (if nI z < 2 then nI z else (2 : Int32)) = nI (min 2 z) := by
  by_cases q : z < 2
  · rw [if_pos (show nI z < 2 from nI_lt (b := 2) q (by omega)), Nat.min_eq_right (by omega)]
  · rw [if_neg (show ¬ nI z < 2 from nI_nlt (b := 2) (by omega) h), Nat.min_eq_left (by omega)]; rfl
theorem mx0 {a b : Nat} (ha : a < 2 ^ 30) (hb : b < 2 ^ 30) : (if (0 : Int32) < nI a - nI b then nI a - nI b else 0) = nI (a - b) := by
  by_cases q : b < a
  · rw [pk_sub (by omega), if_pos (show (0 : Int32) < nI (a - b) from nI_lt (a := 0) (by omega) (by omega))]
  · rw [if_neg, show a - b = 0 by omega]
    · rfl
    · rw [Int32.lt_iff_toInt_lt, pk_sub_toInt ha hb]
      show ¬ (0 : Int) < _
      omega
def lenA (c : Nat → Int32) (lp d k : Nat) : Int32 := nI (min 99 ((c (10 + k)).toNatClampNeg + d * ((c (18 + k)).toNatClampNeg + lp)))
def wxA (c : Nat → Int32) (d k : Nat) : Int32 := nI ((c (34 + k)).toNatClampNeg - d)
def stA (c : Nat → Int32) (d k : Nat) : Int32 := if c 9 = 1 then nI (min 2 ((c (26 + k)).toNatClampNeg + (d - (c (34 + k)).toNatClampNeg))) else nI ((c (26 + k)).toNatClampNeg - (d - (c (34 + k)).toNatClampNeg))
/-- d days further -/
def cd (c : Nat → Int32) (n lp d : Nat) : Nat → Int32 := fun j => if 10 ≤ j ∧ j < 10 + n then lenA c lp d (j - 10) else if 26 ≤ j ∧ j < 26 + n then stA c d (j - 26) else if 34 ≤ j ∧ j < 34 + n then wxA c d (j - 34) else if j = 8 then c 8 + nI d else c j
def HB (n lp : Nat) (r : Nat → Int32) : Prop := n ≤ 8 ∧ r 0 = nI n ∧ (∀ k, k < n → bd (r (10 + k)) 99 ∧ bd (r (18 + k)) 9 ∧ bd (r (26 + k)) 2 ∧ bd (r (34 + k)) 99) ∧ (r 9 = 0 ∨ r 9 = 1) ∧ lp ≤ 9 ∧ ((r 2 = 0 ∧ lp = 0) ∨ (¬ r 2 = 0 ∧ ∃ ru, ru < 6 ∧ r 58 = nI ru ∧ r (52 + ru) = nI lp))
section CD
variable {c : Nat → Int32} {n lp d k j : Nat}
theorem cd_10 (hn : n ≤ 8) (hk : k < n) : cd c n lp d (10 + k) = lenA c lp d k := by
  unfold cd; rw [if_pos (by omega), Nat.add_sub_cancel_left]
theorem cd_26 (hn : n ≤ 8) (hk : k < n) : cd c n lp d (26 + k) = stA c d k := by
  unfold cd; rw [if_neg (by omega), if_pos (by omega), Nat.add_sub_cancel_left]
theorem cd_34 (hn : n ≤ 8) (hk : k < n) : cd c n lp d (34 + k) = wxA c d k := by
  unfold cd; rw [if_neg (by omega), if_neg (by omega), if_pos (by omega), Nat.add_sub_cancel_left]
theorem cd_8 (hn : n ≤ 8) : cd c n lp d 8 = c 8 + nI d := by
  unfold cd; rw [if_neg (by omega), if_neg (by omega), if_neg (by omega), if_pos rfl]
theorem cd_o (h : ¬ (10 ≤ j ∧ j < 10 + n) ∧ ¬ (26 ≤ j ∧ j < 26 + n) ∧ ¬ (34 ≤ j ∧ j < 34 + n) ∧ j ≠ 8) : cd c n lp d j = c j := by
  unfold cd; rw [if_neg h.1, if_neg h.2.1, if_neg h.2.2.1, if_neg h.2.2.2]
theorem bd_tn {x : Int32} {m : Nat} (h : bd x m) (hm : m < 2 ^ 31) : x = nI x.toNatClampNeg ∧ x.toNatClampNeg ≤ m := by
  obtain ⟨a, ha, rfl⟩ := h
  rw [nI_clamp (by omega)]; exact ⟨rfl, ha⟩
theorem tn_nI {a : Nat} (h : a < 2 ^ 31) : (nI a).toNatClampNeg = a := nI_clamp h
theorem stA_le : ∃ a, a ≤ 2 ∧ (stA c d k = nI a ∨ ¬ bd (c (26 + k)) 2) := by
  by_cases hb : bd (c (26 + k)) 2
  · have := (bd_tn hb (by omega)).2
    unfold stA
    split
    · exact ⟨_, by omega, Or.inl rfl⟩
    · exact ⟨_, by omega, Or.inl rfl⟩
  · exact ⟨0, by omega, Or.inr hb⟩
theorem HB_cd (h : HB n lp c) : HB n lp (cd c n lp d) := by
  obtain ⟨hn, h0, hh, h9, hl, h2⟩ := h
  refine ⟨hn, by rw [cd_o (by omega)]; exact h0, fun k hk => ?_, by rw [cd_o (by omega)]; exact h9, hl, ?_⟩
  · rw [cd_10 hn hk, cd_26 hn hk, cd_34 hn hk, cd_o (by omega)]
    have h1 := hh k hk
    refine ⟨⟨_, by omega, rfl⟩, h1.2.1, ?_, ⟨_, ?_, rfl⟩⟩
    · obtain ⟨a, ha, e | e⟩ := stA_le (c := c) (d := d) (k := k)
      · exact ⟨a, ha, e⟩
      · exact absurd h1.2.2.1 e
    · have := (bd_tn h1.2.2.2 (by omega)).2; omega
  · rw [cd_o (by omega), cd_o (by omega)]
    rcases h2 with h2 | ⟨h2, ru, h3, h4, h5⟩
    · exact Or.inl h2
    · exact Or.inr ⟨h2, ru, h3, h4, by rw [cd_o (by omega)]; exact h5⟩
theorem cd_0 (h : HB n lp c) : cd c n lp 0 = c := by
  obtain ⟨hn, h0, hh, h9, hl, h2⟩ := h
  funext j
  unfold cd
  split
  · rename_i q
    have h1 := hh (j - 10) (by omega)
    have e := bd_tn h1.1 (by omega)
    unfold lenA
    rw [Nat.zero_mul, Nat.add_zero, Nat.min_eq_right (by omega), ← e.1]; congr 1; omega
  · split
    · rename_i q
      have h1 := hh (j - 26) (by omega)
      have e := bd_tn h1.2.2.1 (by omega)
      unfold stA
      rw [Nat.zero_sub, Nat.add_zero, Nat.sub_zero, Nat.min_eq_right (by omega), ← e.1, ite_self]; congr 1; omega
    · split
      · rename_i q
        have h1 := hh (j - 34) (by omega)
        have e := bd_tn h1.2.2.2 (by omega)
        unfold wxA
        rw [Nat.sub_zero, ← e.1]; congr 1; omega
      · split
        · rename_i q; subst q; rw [nI_0, Int32.add_zero]
        · rfl
theorem min_s {a b : Nat} : min 99 (min 99 a + b) = min 99 (a + b) := by omega
theorem cd_s (h : HB n lp c) : cd (cd c n lp d) n lp 1 = cd c n lp (d + 1) := by
  have hb := h
  obtain ⟨hn, h0, hh, h9, hl, h2⟩ := h
  funext j
  by_cases q1 : 10 ≤ j ∧ j < 10 + n
  · obtain ⟨k, rfl⟩ : ∃ k, j = 10 + k := ⟨j - 10, by omega⟩
    have hk : k < n := by omega
    rw [cd_10 hn hk, cd_10 hn hk]
    unfold lenA
    rw [cd_10 hn hk, cd_o (by omega)]
    unfold lenA
    rw [nI_clamp (by omega), min_s, Nat.one_mul, Nat.add_assoc, Nat.succ_mul]
  · by_cases q2 : 26 ≤ j ∧ j < 26 + n
    · obtain ⟨k, rfl⟩ : ∃ k, j = 26 + k := ⟨j - 26, by omega⟩
      have hk : k < n := by omega
      have h1 := hh k hk
      have e1 := (bd_tn h1.2.2.1 (by omega)).2
      rw [cd_26 hn hk, cd_26 hn hk]
      unfold stA
      rw [cd_26 hn hk, cd_34 hn hk, cd_o (j := 9) (by omega)]
      unfold stA wxA
      rw [nI_clamp (by have := (bd_tn h1.2.2.2 (by omega)).2; omega)]
      by_cases q : c 9 = 1
      · simp only [q, ↓reduceIte]
        rw [nI_clamp (by omega)]; congr 1; omega
      · simp only [q, ↓reduceIte]
        rw [nI_clamp (by omega)]; congr 1; omega
    · by_cases q3 : 34 ≤ j ∧ j < 34 + n
      · obtain ⟨k, rfl⟩ : ∃ k, j = 34 + k := ⟨j - 34, by omega⟩
        have hk : k < n := by omega
        have h1 := hh k hk
        rw [cd_34 hn hk, cd_34 hn hk]
        unfold wxA
        rw [cd_34 hn hk]
        unfold wxA
        rw [nI_clamp (by have := (bd_tn h1.2.2.2 (by omega)).2; omega)]; congr 1
      · by_cases q4 : j = 8
        · subst q4
          rw [cd_8 hn, cd_8 hn, cd_8 hn, Int32.add_assoc, nI_add]
        · rw [cd_o ⟨q1, q2, q3, q4⟩, cd_o ⟨q1, q2, q3, q4⟩, cd_o ⟨q1, q2, q3, q4⟩]
end CD
def cdp (r : Nat → Int32) (n lp i : Nat) : Nat → Int32 := fun j => if (10 ≤ j ∧ j < 10 + i) ∨ (26 ≤ j ∧ j < 26 + i) ∨ (34 ≤ j ∧ j < 34 + i) then cd r n lp 1 j else r j
theorem cdp_o {r : Nat → Int32} {n lp i j : Nat} (h : ¬ ((10 ≤ j ∧ j < 10 + i) ∨ (26 ≤ j ∧ j < 26 + i) ∨ (34 ≤ j ∧ j < 34 + i))) : cdp r n lp i j = r j := if_neg h
section MD
variable {scr : List Int32} {d t n np nr nl nb nq lp : Nat} {c r : Nat → Int32} {I : Nat → Nat → Int32} {L : Nat → Nat → Int64} {R : Nat → Nat → Nat}
theorem cdp_s {i a x s : Nat} (h : HB n lp r) (hi : i < n) (ha : r (10 + i) = nI a) (hx : r (34 + i) = nI x) (hs : r (26 + i) = nI s) (hx0 : x = 0) (v : Int32) (hv : v = stA r 1 i) (w : Int32) (hw : w = lenA r lp 1 i) : up (up (cdp r n lp i) (10 + i) w) (26 + i) v = cdp r n lp (i + 1) := by
  have hn := h.1
  funext j
  by_cases q1 : j = 26 + i
  · subst q1
    rw [up_s, hv]; unfold cdp; rw [if_pos (by omega), cd_26 hn hi]
  · rw [up_n _ _ q1]
    by_cases q2 : j = 10 + i
    · subst q2
      rw [up_s, hw]; unfold cdp; rw [if_pos (by omega), cd_10 hn hi]
    · rw [up_n _ _ q2]
      by_cases q3 : j = 34 + i
      · subst q3
        rw [cdp_o (by omega)]; unfold cdp; rw [if_pos (by omega), cd_34 hn hi]
        unfold wxA; rw [hx, nI_clamp (by omega), hx0]
      · unfold cdp
        by_cases q : (10 ≤ j ∧ j < 10 + i) ∨ (26 ≤ j ∧ j < 26 + i) ∨ (34 ≤ j ∧ j < 34 + i)
        · rw [if_pos q, if_pos (by omega)]
        · rw [if_neg q, if_neg (by omega)]
theorem cdp_t {i a x s : Nat} (h : HB n lp r) (hi : i < n) (ha : r (10 + i) = nI a) (hx : r (34 + i) = nI x) (hs : r (26 + i) = nI s) (hs2 : s ≤ 2) (hxb : x ≤ 99) (hx0 : x ≠ 0) (w : Int32) (hw : w = lenA r lp 1 i) : up (up (cdp r n lp i) (10 + i) w) (34 + i) (nI x - 1) = cdp r n lp (i + 1) := by
  have hn := h.1
  funext j
  by_cases q1 : j = 34 + i
  · subst q1
    rw [up_s]; unfold cdp; rw [if_pos (by omega), cd_34 hn hi]
    unfold wxA; rw [hx, nI_clamp (by omega)]
    obtain ⟨y, rfl⟩ : ∃ y, x = y + 1 := ⟨x - 1, by omega⟩
    rw [nI_pred]; congr 1
  · rw [up_n _ _ q1]
    by_cases q2 : j = 10 + i
    · subst q2
      rw [up_s, hw]; unfold cdp; rw [if_pos (by omega), cd_10 hn hi]
    · rw [up_n _ _ q2]
      by_cases q3 : j = 26 + i
      · subst q3
        rw [cdp_o (by omega)]; unfold cdp; rw [if_pos (by omega), cd_26 hn hi]
        unfold stA; rw [hx, nI_clamp (by omega), hs, nI_clamp (by omega), show 1 - x = 0 by omega, Nat.add_zero, Nat.sub_zero, Nat.min_eq_right hs2, ite_self]
      · unfold cdp
        by_cases q : (10 ≤ j ∧ j < 10 + i) ∨ (26 ≤ j ∧ j < 26 + i) ∨ (34 ≤ j ∧ j < 34 + i)
        · rw [if_pos q, if_pos (by omega)]
        · rw [if_neg q, if_neg (by omega)]
theorem m284_loop (o11 : ok11 hs_S0 R 140) (h : HB n lp r) : ∀ p i, i + p = n → hs_R scr d 284 31 [some (.ref 140), some (.int (nI lp)), some (.int (nI i))] [] (hs_S0, hs_z I 145 (cdp r n lp i), L, R) = some (none, (hs_S0, hs_z I 145 (cd r n lp 1), L, R))
  | 0, i, hi => by
    obtain rfl : i = n := by omega
    obtain ⟨hn, h0, hh, h9, hl, h2⟩ := id h
    rw [b284_31 o11]
    simp (disch := omega) only [Option.bind_some, Option.toList_some, Option.toList_none, List.append_nil, List.cons_append, List.nil_append, ↓reduceIte, true_or, or_true, Nat.reduceAdd, Nat.add_assoc, f_ge, t_le, t_lt, f_lt, f_l0, t_0l, t_pl, t_eq, f_eq, f_e0, i10, i01, ib_nI, nI_clamp, nI_add, ad10, ad18, ad26, ad34, ad42, ad47, ad52, ad59, ad107, ad117, ml8, mr8, ml5, ml10, hu_same, hu_row, hu_at, hu_hu, hz_s, hz_u, cdp_o, h0]
    suffices e : up (cdp r i lp i) 8 (r 8 + 1) = cd r i lp 1 by rw [e]
    funext j
    by_cases q : j = 8
    · subst q; rw [up_s, cd_8 hn]; rfl
    · rw [up_n _ _ q]
      unfold cdp
      by_cases q2 : (10 ≤ j ∧ j < 10 + i) ∨ (26 ≤ j ∧ j < 26 + i) ∨ (34 ≤ j ∧ j < 34 + i)
      · rw [if_pos q2]
      · rw [if_neg q2, cd_o (by omega)]
  | p + 1, i, hi => by
    obtain ⟨hn, h0, hh, h9, hl, h2⟩ := id h
    obtain ⟨⟨a, ha, ea⟩, ⟨g, hg, eg⟩, ⟨s, hs, es⟩, ⟨x, hx, ex⟩⟩ := hh i (by omega)
    have hin : i < n := by omega
    have hw : nI (min 99 (a + (g + lp))) = lenA r lp 1 i := by
      unfold lenA; rw [ea, eg, nI_clamp (by omega), nI_clamp (by omega), Nat.one_mul]
    rw [b284_31 o11]
    simp (disch := omega) only [Option.bind_some, Option.toList_some, Option.toList_none, List.append_nil, List.cons_append, List.nil_append, ↓reduceIte, true_or, or_true, Nat.reduceAdd, Nat.add_assoc, f_ge, t_le, t_lt, f_lt, f_l0, t_0l, t_pl, t_eq, f_eq, f_e0, i10, i01, ib_nI, nI_clamp, nI_add, ad10, ad18, ad26, ad34, ad42, ad47, ad52, ad59, ad107, ad117, ml8, mr8, ml5, ml10, hu_same, hu_row, hu_at, hu_hu, hz_s, hz_u, cdp_o, h0, ea, eg, ex, es, up_n, up_s, mn99, nI_1, b284_157]
    by_cases x0 : x = 0
    · subst x0
      rw [if_pos (show nI 0 ≤ 0 by decide)]
      rcases h9 with h9 | h9
      · have hv : nI (s - 1) = stA r 1 i := by
          unfold stA; rw [h9, ex, es, if_neg (by decide), nI_clamp (by omega), nI_clamp (by omega)]
        have hmx : (if (0 : Int32) < nI s - 1 then nI s - 1 else 0) = nI (s - 1) := mx0 (a := s) (b := 1) (by omega) (by omega)
        rw [h9, if_neg (by decide), hmx, b284_156 (S := hs_S0) (u0 := 145) (n_u0 := 1995) rfl]
        simp (disch := omega) only [Option.bind_some, Option.toList_some, Option.toList_none, List.append_nil, List.cons_append, List.nil_append, ↓reduceIte, true_or, or_true, Nat.reduceAdd, Nat.add_assoc, f_ge, t_le, t_lt, f_lt, f_l0, t_0l, t_pl, t_eq, f_eq, f_e0, i10, i01, ib_nI, nI_clamp, nI_add, ad10, ad18, ad26, ad34, ad42, ad47, ad52, ad59, ad107, ad117, ml8, mr8, ml5, ml10, hu_same, hu_row, hu_at, hu_hu, hz_u, b284_157, nI_1]
        rw [cdp_s h hin ea ex es rfl _ hv _ hw]
        exact m284_loop o11 h p (i + 1) (by omega)
      · have hv : nI (min 2 (s + 1)) = stA r 1 i := by
          unfold stA; rw [h9, ex, es, if_pos rfl, nI_clamp (by omega), nI_clamp (by omega)]
        rw [h9, if_pos rfl, mn2 (by omega), b284_156 (S := hs_S0) (u0 := 145) (n_u0 := 1995) rfl]
        simp (disch := omega) only [Option.bind_some, Option.toList_some, Option.toList_none, List.append_nil, List.cons_append, List.nil_append, ↓reduceIte, true_or, or_true, Nat.reduceAdd, Nat.add_assoc, f_ge, t_le, t_lt, f_lt, f_l0, t_0l, t_pl, t_eq, f_eq, f_e0, i10, i01, ib_nI, nI_clamp, nI_add, ad10, ad18, ad26, ad34, ad42, ad47, ad52, ad59, ad107, ad117, ml8, mr8, ml5, ml10, hu_same, hu_row, hu_at, hu_hu, hz_u, b284_157, nI_1]
        rw [cdp_s h hin ea ex es rfl _ hv _ hw]
        exact m284_loop o11 h p (i + 1) (by omega)
    · rw [if_neg (nI_nle (by omega) (by omega)), cdp_t h hin ea ex es hs hx x0 _ hw]
      exact m284_loop o11 h p (i + 1) (by omega)
theorem m284 (o11 : ok11 hs_S0 R 140) (h : HB n lp r) : hs_C scr d 284 [.ref 140] (hs_S0, hs_z I 145 r, L, R) = some (none, (hs_S0, hs_z I 145 (cd r n lp 1), L, R)) := by
  have hl := m284_loop (scr := scr) (d := d) (I := I) (L := L) o11 h n 0 (by omega)
  have e0 : cdp r n lp 0 = r := by funext j; rw [cdp_o (by omega)]
  rw [e0, nI_0] at hl
  rw [e284, b284_0 o11]
  rcases h.2.2.2.2.2 with ⟨h2, rfl⟩ | ⟨h2, ru, h3, h4, h5⟩
  · simp (disch := omega) only [Option.bind_some, Option.toList_some, Option.toList_none, List.append_nil, List.cons_append, List.nil_append, ↓reduceIte, true_or, or_true, Nat.reduceAdd, Nat.add_assoc, f_ge, t_le, t_lt, f_lt, f_l0, t_0l, t_pl, t_eq, f_eq, f_e0, i10, i01, ib_nI, nI_clamp, nI_add, ad10, ad18, ad26, ad34, ad42, ad47, ad52, ad59, ad107, ad117, ml8, mr8, ml5, ml10, hu_same, hu_row, hu_at, hu_hu, hz_s, h2, b284_28]
    exact hl
  · simp (disch := omega) only [Option.bind_some, Option.toList_some, Option.toList_none, List.append_nil, List.cons_append, List.nil_append, ↓reduceIte, true_or, or_true, Nat.reduceAdd, Nat.add_assoc, f_ge, t_le, t_lt, f_lt, f_l0, t_0l, t_pl, t_eq, f_eq, f_e0, i10, i01, ib_nI, nI_clamp, nI_add, ad10, ad18, ad26, ad34, ad42, ad47, ad52, ad59, ad107, ad117, ml8, mr8, ml5, ml10, hu_same, hu_row, hu_at, hu_hu, hz_s, h2, h4, h5, b284_28]
    exact hl
theorem m284d {e : Nat} (o11 : ok11 hs_S0 R 140) (h : HB n lp r) : hs_C scr d 284 [.ref 140] (hs_S0, hs_z I 145 (cd r n lp e), L, R) = some (none, (hs_S0, hs_z I 145 (cd r n lp (e + 1)), L, R)) := by
  rw [m284 o11 (HB_cd h), cd_s h]
end MD
