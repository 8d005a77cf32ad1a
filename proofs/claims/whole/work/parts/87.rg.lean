/-! reigns as a text: segments; single rows -/
section RG
variable {n nl : Nat} {g g' P1 P2 P3 P4 P5 Q1 Q2 Q3 Q4 Q5 : Nat → Int32}
theorem stOK_cg {a r k a0 : Nat} (h : stOK n nl g P1 P2 P3 P4 a r k) (hg : ∀ i, a ≤ i → i < a + 8 → g' i = g i) (hP : Q1 r = P1 r ∧ Q2 r = P2 r ∧ Q3 r = P3 r ∧ Q4 r = P4 r) : stOK n nl g' Q1 Q2 Q3 Q4 a r k := by
  unfold stOK at h ⊢
  rw [hg a (by omega) (by omega), hg (a + 1) (by omega) (by omega), hg (a + 2) (by omega) (by omega), hg (a + 6) (by omega) (by omega), hg (a + 7) (by omega) (by omega), hP.1, hP.2.1, hP.2.2.1, hP.2.2.2]
  exact h
theorem Sg_cg : ∀ {f s e r q : Nat}, Sg n nl g P1 P2 P3 P4 P5 f s e r q → (∀ i, 2 + 9 * s ≤ i → i < 2 + 9 * e → g' i = g i) → (∀ i, r ≤ i → i < q → Q1 i = P1 i ∧ Q2 i = P2 i ∧ Q3 i = P3 i ∧ Q4 i = P4 i ∧ Q5 i = P5 i) → Sg n nl g' Q1 Q2 Q3 Q4 Q5 f s e r q
  | 0, _, _, _, _, h, _, _ => h
  | f + 1, s, e, r, q, h, hg, hP => by
    rcases h with h | ⟨h1, h2, k, h3, h4⟩
    · exact Or.inl h
    · have hr := hP r (by omega) h2
      refine Or.inr ⟨h1, h2, k, stOK_cg (a0 := 0) h3 (fun i a b => hg i a (by omega)) ⟨hr.1, hr.2.1, hr.2.2.1, hr.2.2.2.1⟩, ?_⟩
      rcases h4 with ⟨c1, c2, c3, c4⟩ | ⟨c1, e', q', c2, c3, c4, c5, c6, c7, c8, c9, c10, c11⟩
      · exact Or.inl ⟨c1, c2, (hg _ (by omega) (by omega)).trans c3, Sg_cg c4 (fun i a b => hg i (by omega) b) (fun i a b => hP i (by omega) b)⟩
      · exact Or.inr ⟨c1, e', q', (hg _ (by omega) (by omega)).trans c2, c3, c4, c5, c6, Sg_cg c7 (fun i a b => hg i (by omega) (by omega)) (fun i a b => hP i (by omega) (by omega)), (hP q' (by omega) c6).1.trans c8, (hP q' (by omega) c6).2.2.2.2.trans c9, hr.2.2.2.2.trans c10, Sg_cg c11 (fun i a b => hg i (by omega) b) (fun i a b => hP i (by omega) b)⟩
theorem Sg_mono : ∀ {f s e r q : Nat}, Sg n nl g P1 P2 P3 P4 P5 f s e r q → Sg n nl g P1 P2 P3 P4 P5 (f + 1) s e r q
  | 0, _, _, _, _, h => Or.inl h
  | f + 1, s, e, r, q, h => by
    rcases h with h | ⟨h1, h2, k, h3, h4⟩
    · exact Or.inl h
    · refine Or.inr ⟨h1, h2, k, h3, ?_⟩
      rcases h4 with ⟨c1, c2, c3, c4⟩ | ⟨c1, e', q', c2, c3, c4, c5, c6, c7, c8, c9, c10, c11⟩
      · exact Or.inl ⟨c1, c2, c3, Sg_mono c4⟩
      · exact Or.inr ⟨c1, e', q', c2, c3, c4, c5, c6, Sg_mono c7, c8, c9, c10, Sg_mono c11⟩
theorem Sg_le {f : Nat} : ∀ {k s e r q : Nat}, Sg n nl g P1 P2 P3 P4 P5 f s e r q → Sg n nl g P1 P2 P3 P4 P5 (f + k) s e r q
  | 0, _, _, _, _, h => h
  | _ + 1, _, _, _, _, h => Sg_mono (Sg_le h)
theorem Sg_f : ∀ {f f' s e r q : Nat}, Sg n nl g P1 P2 P3 P4 P5 f s e r q → e - s ≤ f' → Sg n nl g P1 P2 P3 P4 P5 f' s e r q
  | 0, 0, _, _, _, _, h, _ => h
  | 0, _ + 1, _, _, _, _, h, _ => Or.inl h
  | f + 1, 0, s, e, r, q, h, hf => by
    rcases h with h | ⟨h1, _⟩
    · exact h
    · omega
  | f + 1, f' + 1, s, e, r, q, h, hf => by
    rcases h with h | ⟨h1, h2, k, h3, h4⟩
    · exact Or.inl h
    · refine Or.inr ⟨h1, h2, k, h3, ?_⟩
      rcases h4 with ⟨c1, c2, c3, c4⟩ | ⟨c1, e', q', c2, c3, c4, c5, c6, c7, c8, c9, c10, c11⟩
      · exact Or.inl ⟨c1, c2, c3, Sg_f c4 (by omega)⟩
      · exact Or.inr ⟨c1, e', q', c2, c3, c4, c5, c6, Sg_f c7 (by omega), c8, c9, c10, Sg_f c11 (by omega)⟩
theorem Sg_b : ∀ {f s e r q : Nat}, Sg n nl g P1 P2 P3 P4 P5 f s e r q → s ≤ e ∧ r ≤ q
  | 0, _, _, _, _, h => by obtain ⟨h1, h2⟩ := h; omega
  | f + 1, s, e, r, q, h => by
    rcases h with h | ⟨h1, h2, _⟩
    · omega
    · omega
theorem Sg_app : ∀ {f f2 s m e r p q : Nat}, Sg n nl g P1 P2 P3 P4 P5 f s m r p → Sg n nl g P1 P2 P3 P4 P5 f2 m e p q → Sg n nl g P1 P2 P3 P4 P5 (f2 + f) s e r q
  | 0, f2, s, m, e, r, p, q, h, h2 => by obtain ⟨rfl, rfl⟩ := h; exact h2
  | f + 1, f2, s, m, e, r, p, q, h, h2 => by
    have hb := Sg_b h2
    rcases h with ⟨rfl, rfl⟩ | ⟨h1, h3, k, h4, h5⟩
    · exact Sg_le h2
    · refine Or.inr ⟨by omega, by omega, k, h4, ?_⟩
      rcases h5 with ⟨c1, c2, c3, c4⟩ | ⟨c1, e', q', c2, c3, c4, c5, c6, c7, c8, c9, c10, c11⟩
      · exact Or.inl ⟨c1, c2, c3, Sg_app c4 h2⟩
      · refine Or.inr ⟨c1, e', q', c2, c3, by omega, c5, by omega, ?_, c8, c9, c10, Sg_app c11 h2⟩
        have := Sg_le (k := f2) c7
        rw [Nat.add_comm] at this; exact this
end RG
def kj (K : Nat) : Nat := if K = 27 then 9 else if K = 29 then 10 else K - 17
def sw (K : Nat) : Prop := (17 ≤ K ∧ K ≤ 25) ∨ K = 27 ∨ K = 29
theorem kj_f : ∀ K, K ≤ 38 → ((17 ≤ K ∧ K ≤ 25) ∨ K = 27 ∨ K = 29 → kw (kj K) = nI K ∧ stv K = nI (kj K) ∧ kj K ≤ 10) := by decide
section R1
variable {scr : List Int32} {d dm E N j p t row lo hi s : Nat} {B K A V H cn : Nat → Nat} {q : Nat → Int32} {l : Nat → Int64} {I J : Nat → Nat → Int32} {L M : Nat → Nat → Int64} {R R' : Nat → Nat → Nat}
theorem x74 (o6 : ok6 hs_S0 R' 11) (r0 : R' 11 0 = 4) (r2 : R' 11 2 = p) (o8 : ok8 hs_S0 R' 4) (o5 : ok5 hs_S0 R' p) (hp : p = 50 ∨ p = 56) (hK : TKS E N B K A V H) (hT : TC N K A V j I L) (hj : j < N) (hr : row < 60) (hlo : lo < 1000) (hhi : hi < 1000) : ∃ I' L', T4 I L I' L' ∧ (okN K V j lo hi → hs_C scr (d + 3) 74 [.ref 11, .int (nI row), .int (nI lo), .int (nI hi)] (hs_S0, I, L, R') = some (some (.int 1), (hs_S0, hs_u I' (p + 4) row (nI (V j)), L', R')) ∧ TC N K A V (j + 1) (hs_u I' (p + 4) row (nI (V j))) L') ∧ (¬ okN K V j lo hi → hs_C scr (d + 3) 74 [.ref 11, .int (nI row), .int (nI lo), .int (nI hi)] (hs_S0, I, L, R') = some (some (.int 0), (hs_S0, I', L', R')) ∧ BC (fN K A j).1 (fN K A j).2 I') := by
  obtain ⟨I1, L1, e1, f1, t1, c1, b1⟩ := x48 (scr := scr) (d := d) (lo := lo) (hi := hi) (R := R') o8 hK hT hj hlo hhi
  refine ⟨I1, L1, f1, fun g => ?_, fun g => ?_⟩
  · rw [if_pos g] at e1
    refine ⟨?_, TC_r (t1 g) (fun k hk => hu_row _ _ (by omega)) rfl⟩
    rw [e74, b74_0 o6 r0 o8, e1]
    simp only [Option.bind_some, Option.toList_some, Option.toList_none, List.append_nil, List.cons_append, List.nil_append]
    rw [b74_9 o6 r2 o5 r0 o8, if_neg (by decide), x50 o8 c1]
    simp only [Option.bind_some, Option.toList_some, Option.toList_none, List.append_nil, List.cons_append, List.nil_append]
    rw [b74_29 (S := hs_S0) (u0 := p + 4) (n_u0 := 60) (a_u0 := o5.2.2.2.2.2.2.2.2.2.1), if_pos (ib_nI (by omega) (by omega)), nI_clamp (by omega)]
  · rw [if_neg g] at e1
    refine ⟨?_, b1 g⟩
    rw [e74, b74_0 o6 r0 o8, e1]
    simp only [Option.bind_some, Option.toList_some, Option.toList_none, List.append_nil, List.cons_append, List.nil_append]
    rw [b74_9 o6 r2 o5 r0 o8, if_pos rfl]
/-- a thing's name, in both -/
theorem jTh (o11 : ok11 hs_S0 R 140) (o6 : ok6 hs_S0 R' 11) (r0 : R' 11 0 = 4) (r2 : R' 11 2 = p) (r3 : R' 11 3 = t + 1) (o8 : ok8 hs_S0 R' 4) (o5 : ok5 hs_S0 R' p) (o3 : ok3 hs_S0 R' (t + 1)) (ht : t = 18 ∨ t = 34) (hp : p = 50 ∨ p = 56) (hK : TKS E N B K A V H) (hJ : JB E B J) (hT : TC N K A V j I L) (hM : MC E K A V H j q l) (hj : j < N) (hr : row < 60) (hs : s < 5) (hc : cnb cn) (hn : J 145 s = nI (cn s)) (hR : RN cn (fun k => M 148 k) I L t) : ∃ I' L', T4 I L I' L' ∧ ((∃ k q' l', k < cn s ∧ j + 1 < N ∧ hs_C scr (d + 4) 75 [.ref 11, .int (nI row), .int (kd s)] (hs_S0, I, L, R') = some (some (.int 1), (hs_S0, hs_u I' (p + 3) row (nI k), L', R')) ∧ TC N K A V (j + 1) (hs_u I' (p + 3) row (nI k)) L' ∧ hs_C scr (dm + 6) 255 [.ref 140, .int 0, .int (nI s)] (hs_S0, hs_z J 140 q, hs_z M 140 l, R) = some (some (.int (nI k)), (hs_S0, hs_z J 140 q', hs_z M 140 l', R)) ∧ MC E K A V H (j + 1) q' l' ∧ T140 q l q' l') ∨ (∃ c a q', hs_C scr (d + 4) 75 [.ref 11, .int (nI row), .int (kd s)] (hs_S0, I, L, R') = some (some (.int 0), (hs_S0, hs_u I' (p + 3) row (-1), L', R')) ∧ BC c a I' ∧ hs_C scr (dm + 6) 255 [.ref 140, .int 0, .int (nI s)] (hs_S0, hs_z J 140 q, hs_z M 140 l, R) = some (some (.int 0), (hs_S0, hs_z J 140 q', hs_z M 140 l, R)) ∧ BM c a q' ∧ T140 q l q' l)) := by
  have hR' : RN cn (fun k => M 148 (31 * 0 + k)) I L t := by
    have : (fun k => M 148 (31 * 0 + k)) = fun k => M 148 k := by funext k; rw [Nat.mul_zero, Nat.zero_add]
    rw [this]; exact hR
  obtain ⟨I1, L1, f1, c1, hor⟩ := jNm (scr := scr) (d := d) (dm := dm) (bl := 0) (s := s) (R := R) (R' := R') o11 o8 o3 (by omega) hK hJ hj hT hM hs (by omega) hc (by rw [Nat.mul_zero, Nat.zero_add]; exact hn) hR'
  have hcs : cn s < 100 := by
    obtain ⟨h0, h1, h2, h3, h4⟩ := hc
    rcases (show s = 0 ∨ s = 1 ∨ s = 2 ∨ s = 3 ∨ s = 4 by omega) with rfl | rfl | rfl | rfl | rfl <;> omega
  refine ⟨I1, L1, f1, ?_⟩
  rcases hor with ⟨k, a1, a2, a3, a4, a5⟩ | ⟨c, a, q', a1, a2, a3, a4, a5⟩
  · have hj1 : j + 1 < N := hK.2.2.2.2.1 j hj (by omega)
    obtain ⟨q', l', b1, b2, b3⟩ := m255 (scr := scr) (d := dm + 3) (M := M) o11 hK hJ hj1 hM a5
    refine Or.inl ⟨k, q', l', a1, hj1, ?_, TC_r a3 (fun k hk => hu_row _ _ (by omega)) rfl, b1, b2, b3⟩
    rw [e75, b75_0 o6 r0 o8 r3 o3, a4]
    simp only [Option.bind_some, Option.toList_some, Option.toList_none, List.append_nil, List.cons_append, List.nil_append]
    rw [b75_12 o6 r2 o5, if_pos (ib_nI (by omega) (by omega)), if_neg (nI_pos (by omega)), nI_clamp (by omega), b75_32]; rfl
  · refine Or.inr ⟨c, a, q', ?_, a2, m255f (d := dm + 3) o11 a3 a4, a4, a5⟩
    rw [e75, b75_0 o6 r0 o8 r3 o3, a1]
    simp only [Option.bind_some, Option.toList_some, Option.toList_none, List.append_nil, List.cons_append, List.nil_append]
    rw [b75_12 o6 r2 o5, if_pos (ib_nI (by omega) (by omega)), if_pos (by decide), nI_clamp (by omega), b75_32]; rfl
end R1
