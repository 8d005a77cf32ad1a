/-! reigns as a text: the loop of steps, and both readers -/
section R5
variable {scr : List Int32} {d dm E N j r p t n nl sz ns dp s m f e row : Nat} {x1 : Int32} {B K A V H cn : Nat → Nat} {q q' : Nat → Int32} {l l' : Nat → Int64} {I J I' J' X Y : Nat → Nat → Int32} {L M L' LX : Nat → Nat → Int64} {R R' : Nat → Nat → Nat}
theorem MC_26 {x : Int32} (h : MC E K A V H j q l) : MC E K A V H j (up q 26 x) l := h
theorem rgLoop : ∀ (m : Nat) {j r sz ns : Nat} {I : Nat → Nat → Int32} {L : Nat → Nat → Int64} {J : Nat → Nat → Int32} {q : Nat → Int32} {l : Nat → Int64}, N ≤ j + m → 3 ≤ dm → RSH E N B K A V H R R' cn p t j r sz ns 0 I L J q M l → ∃ (I' : Nat → Nat → Int32) (L' : Nat → Nat → Int64) (J' : Nat → Nat → Int32) (q' : Nat → Int32) (l' : Nat → Int64), FB p I L I' L' ∧ (∀ k, k ≠ 145 → J' k = J k) ∧ (∀ f, f < 1725 + 9 * ns → J' 145 f = J 145 f) ∧ TQ q l q' l' ∧ hs_R scr (dm + 11) 260 28 [some (.ref 140), some (.int x1), none] [] (hs_S0, hs_z J 140 q, hs_z M 140 l, R) = hs_R scr (dm + 11) 260 50 [some (.ref 140), some (.int x1), none] [] (hs_S0, hs_z J' 140 q', hs_z M 140 l', R) ∧ ((HX scr d p t R' r I L = some (some (.int 1), (hs_S0, I', L', R')) ∧ q' 12 = 0 ∧ I' 4 11 = 0 ∧ I' 4 12 = -1 ∧ ∃ ns' sz', ns ≤ ns' ∧ sz ≤ sz' ∧ ns' ≤ 30 ∧ sz' ≤ 60 ∧ q' 26 = nI ns' ∧ I' p 5 = nI sz' ∧ I' p 6 = nI ns' ∧ I' p 7 = 1 ∧ (∀ i b, 1 ≤ i → i ≤ 5 → b < sz → I' (p + i) b = I (p + i) b) ∧ ∃ f, SgJ (cn 0) (cn 3) p I' J' f ns ns' sz sz') ∨ (∃ c a, HX scr d p t R' r I L = some (some (.int 0), (hs_S0, I', L', R')) ∧ BC c a I' ∧ BM c a q')) := by
  intro m
  induction m with
  | zero => intro j r sz ns I L J q l h1 h2 hP; have := hP.2.2.1; omega
  | succ m ih =>
    intro j r sz ns I L J q l hm hdm hP
    obtain ⟨⟨o11, o6, r0, r2, r3, o8, o5, o3, ht, hp, hK, hcn⟩, hJ, hj, hr, hT, hM, h5, h6, h11, h26, hns, hszd, hdp, hRN, hcnt⟩ := id hP
    have hkj := (hK.2.2.2.2.2 j hj).1
    have hN9 := hK.2.1
    have h12 := hM.2.2.2.2
    by_cases g37 : K j = 37
    · obtain ⟨I1, L1, e1, t1, c1, f1⟩ := x44 (scr := scr) (d := d + 8) (R := R') o8 hK.2.1 hT hj
      have eX := hxS (t := t) (p := p) o6 r0 o8 (show r ≤ 900 by omega) e1
      have g1 : ∀ k, k ≠ 4 → I1 k = I k := f1.1
      have s1 : ∀ i b, 1 ≤ i → i ≤ 5 → hs_u I1 p 7 1 (p + i) b = I (p + i) b := fun i b h1 h2 => by
        rw [hu_row _ _ (by omega), g1 _ (by omega)]
      refine ⟨hs_u I1 p 7 1, L1, J, q, l, FB_tr (FB_4 f1) ⟨fun k a b c e => hu_row _ _ (by omega), fun _ _ => rfl, by rw [hu_row _ _ (by omega)]⟩, fun _ _ => rfl, fun _ _ => rfl, ⟨fun _ _ => rfl, fun _ _ => rfl⟩, ?_, Or.inl ⟨?_, h12, ?_, ?_, ns, sz, Nat.le_refl _, Nat.le_refl _, hns, by omega, h26, ?_, ?_, hu_same _ _ _ _, fun i b h1 h2 _ => s1 i b h1 h2, 0, ⟨rfl, rfl⟩⟩⟩
      · rw [b260_28 o11, hz_s, h12, if_pos rfl, if_pos ((TokR_0 hM.2.2.2.1).mpr g37)]
      · rw [eX, b70_45 o6 r0 o8 r2 o5, c1.1, if_pos (show nI (K j) = 37 by rw [g37]; rfl), g1 _ (by omega), h11, if_pos (show nI 0 = 0 from rfl), b70_73 (o_u0 := o5) (o_t0 := o6) (e_t0_2 := r2) (o_t0_2 := o5) (e_t0_0 := r0) (o_t0_0 := o8), if_pos (Or.inr rfl), hu_same, if_neg (by decide), b70_97, b70_102, if_pos (Or.inr rfl)]
      · rw [hu_row _ _ (by omega)]; exact t1.2.2.2.1
      · rw [hu_row _ _ (by omega)]; exact t1.2.2.2.2
      · rw [hu_at _ _ (by omega), g1 _ (by omega)]; exact h5
      · rw [hu_at _ _ (by omega), g1 _ (by omega)]; exact h6
    · obtain ⟨I1, L1, J1, q1, l1, a1, a2, a3, a4, a5, a6⟩ := rsStep (scr := scr) (d := d) (R := R) (R' := R') (M := M) N (j := j) (dm := dm) (by omega) (by omega) hP (fun q => absurd q g37) (fun _ => rfl)
      have e2 : hs_R scr (dm + 11) 260 28 [some (.ref 140), some (.int x1), none] [] (hs_S0, hs_z J 140 q, hs_z M 140 l, R) = hs_R scr (dm + 11) 260 28 [some (.ref 140), some (.int x1), none] [] (hs_S0, hs_z J1 140 q1, hs_z M 140 l1, R) := by
        rw [nI_0] at a5
        rw [b260_28 o11, hz_s, h12, if_pos rfl, if_neg (fun q => g37 ((TokR_0 hM.2.2.2.1).mp q)), a5]
        simp only [Option.bind_some, Option.toList_some, Option.toList_none, List.append_nil, List.cons_append, List.nil_append]
        rw [b260_47]
      rcases a6 with ⟨j1, r1, sz1, ns1, b1, b2, b3, b4, b5, b6, f1, b7⟩ | ⟨c, a, b1, b2, b3⟩
      · obtain ⟨I2, L2, J2, q2, l2, c1, c2, c3, c4, c5, c6⟩ := ih (by omega) hdm b5
        refine ⟨I2, L2, J2, q2, l2, FB_tr a1 c1, fun k hk => (c2 k hk).trans (a2 k hk), fun f hf => (c3 f (by omega)).trans (a3 f hf), TQ_tr a4 c4, e2.trans c5, ?_⟩
        rcases c6 with ⟨u1, u2, u3, u4, ns2, sz2, v1, v2, v3, v4, v5, v6, v7, v8, v9, f2, v10⟩ | ⟨c, a, u1, u2, u3⟩
        · refine Or.inl ⟨b4.trans u1, u2, u3, u4, ns2, sz2, by omega, by omega, v3, v4, v5, v6, v7, v8, fun i b h1 h2 h3 => (v9 i b h1 h2 (by omega)).trans (b6.1 i b h1 h2 h3), f2 + f1, ?_⟩
          refine Sg_app (Sg_cg b7 (fun i h1 h2 => c3 _ (by omega)) (fun i h1 h2 => ⟨?_, ?_, ?_, ?_, ?_⟩)) v10
          · exact v9 1 i (by omega) (by omega) h2
          · exact v9 2 i (by omega) (by omega) h2
          · exact v9 3 i (by omega) (by omega) h2
          · exact v9 4 i (by omega) (by omega) h2
          · exact v9 5 i (by omega) (by omega) h2
        · exact Or.inr ⟨c, a, b4.trans u1, u2, u3⟩
      · refine ⟨I1, L1, J1, q1, l1, a1, a2, a3, a4, e2.trans ?_, Or.inr ⟨c, a, b1, b2, b3⟩⟩
        rw [b260_28 o11, hz_s, if_neg (BM_n b3).2.1]
/-- class and reference read the same reigns -/
theorem rgBoth (o11 : ok11 hs_S0 R 140) (o6 : ok6 hs_S0 R' 11) (r0 : R' 11 0 = 4) (r2 : R' 11 2 = p) (r3 : R' 11 3 = t + 1) (o8 : ok8 hs_S0 R' 4) (o5 : ok5 hs_S0 R' p) (o3 : ok3 hs_S0 R' (t + 1)) (ht : t = 18 ∨ t = 34) (hp : p = 50 ∨ p = 56) (hK : TKS E N B K A V H) (hcn : cnb cn) (hN : 0 < N) (h0 : H 0 = 0) (hJ : JB E B X) {ts : Nat} (h8 : X 140 8 = nI ts) (hts : ts ≤ 900) (hE : E ≤ ts) (hE3 : E ≤ 300) (hT : TC N K A V 0 I L) (hRN : RN cn (fun k => LX 148 k) I L t) (hcnt : ∀ s, s < 5 → X 145 s = nI (cn s)) : ∃ (I' : Nat → Nat → Int32) (L' : Nat → Nat → Int64) (J' : Nat → Nat → Int32) (q' : Nat → Int32) (l' : Nat → Int64), FB p I L I' L' ∧ (∀ k, k ≠ 145 → J' k = X k) ∧ (∀ f, f < 1725 → J' 145 f = X 145 f) ∧ (∀ f, f ≠ 0 → f ≠ 1 → f ≠ 8 → f ≠ 9 → f < 12 ∨ (18 < f ∧ f ≠ 26) → q' f = X 140 f) ∧ q' 8 = 0 ∧ q' 0 = 0 ∧ (∀ f, f ≠ 19 → l' f = LX 140 f) ∧ hs_C scr 99 260 [.ref 140, .int (nI E)] (hs_S0, X, LX, R) = hs_R scr 99 260 50 [some (.ref 140), some (.int (nI E)), none] [] (hs_S0, hs_z J' 140 q', hs_z LX 140 l', R) ∧ ((hs_R scr 98 70 15 [some (.ref 11), some (.ref 4), some (.ref p), some (.ref (t + 1)), none] [] (hs_S0, I, L, R') = some (some (.int 1), (hs_S0, I', L', R')) ∧ q' 12 = 0 ∧ I' 4 11 = 0 ∧ I' 4 12 = -1 ∧ ∃ ns sz, ns ≤ 30 ∧ sz ≤ 60 ∧ q' 26 = nI ns ∧ I' p 5 = nI sz ∧ I' p 6 = nI ns ∧ I' p 7 = 1 ∧ ∃ f, SgJ (cn 0) (cn 3) p I' J' f 0 ns 0 sz) ∨ (∃ c a, hs_R scr 98 70 15 [some (.ref 11), some (.ref 4), some (.ref p), some (.ref (t + 1)), none] [] (hs_S0, I, L, R') = some (some (.int 0), (hs_S0, I', L', R')) ∧ BC c a I' ∧ BM c a q')) := by
  obtain ⟨q1, l1, a1, a2, a3, a4, a5⟩ := m208 (scr := scr) (d := 96) (q := up (up (X 140) 1 0) 0 0) (l := LX 140) (J := X) (M := LX) (mo := 300) o11 hK hN h0 hJ h8 hts hE (by omega) (by omega)
  obtain ⟨I0, hI0⟩ : ∃ I0, I0 = hs_u (hs_u (hs_u (hs_u I 11 4 0) p 5 0) p 6 0) p 7 0 := ⟨_, rfl⟩
  have r00 : ∀ k, k ≠ 11 → k ≠ p → I0 k = I k := fun k h1 h2 => by rw [hI0]; simp (disch := omega) only [hu_row]
  have s0 : I0 p 5 = nI 0 ∧ I0 p 6 = nI 0 ∧ I0 11 4 = nI 0 := by
    rw [hI0]
    simp (disch := omega) only [hu_same, hu_row, hu_at, hu_hu]
    exact ⟨rfl, rfl, rfl⟩
  have hT2 : TC N K A V 0 I0 L := TC_r hT (fun k hk => r00 k (by omega) (by omega)) rfl
  obtain ⟨I', L', J', q', l', b1, b2, b3, b4, b5, b6⟩ := rgLoop (scr := scr) (d := 89) (dm := 88) (x1 := nI E) (R := R) (R' := R') (M := LX) N (j := 0) (r := 0) (sz := 0) (ns := 0) (I := I0) (L := L) (J := X) (q := up q1 26 0) (l := l1) (by omega) (by omega) ⟨⟨o11, o6, r0, r2, r3, o8, o5, o3, ht, hp, hK, hcn⟩, hJ, hN, Nat.le_refl _, hT2, MC_26 a2, s0.1, s0.2.1, s0.2.2, rfl, by omega, by omega, by omega, RN_cg hRN (fun _ _ => rfl) (by rw [r00 _ (by omega) (by omega)]) (r00 _ (by omega) (by omega)) (r00 _ (by omega) (by omega)) rfl, hcnt⟩
  refine ⟨I', L', J', q', l', FB_tr ⟨fun k h1 h2 h3 h4 => r00 k h2 (by omega), fun _ _ => rfl, by rw [r00 4 (by omega) (by omega)]⟩ b1, b2, fun f hf => b3 f (by omega), fun f f0 f1 f2 f3 f4 => by rw [b4.1 f f4, up_n _ _ (by omega), a4 f f2 f3 (by omega), up_n _ _ f0, up_n _ _ f1], by rw [b4.1 8 (by omega), up_n _ _ (by omega)]; exact a3, by rw [b4.1 0 (by omega), up_n _ _ (by omega), a4 0 (by omega) (by omega) (by omega), up_s], fun f hf => by rw [b4.2 f hf, a5 f hf], ?_, ?_⟩
  · have hX : (hs_S0, hs_u (hs_u X 140 1 0) 140 0 0, LX, R) = (hs_S0, hs_z X 140 (up (up (X 140) 1 0) 0 0), hs_z LX 140 (LX 140), R) := by
      rw [hz_id LX 140, ← hz_u, ← hz_u, hz_id X 140]
    rw [e260, b260_0 o11, hX, show (300 : Int32) = nI 300 from rfl, a1]
    simp only [Option.bind_some, Option.toList_some, Option.toList_none, List.append_nil, List.cons_append, List.nil_append]
    rw [b260_18 o11, if_neg (by decide), hz_u]
    exact b5
  · have eX : hs_R scr 98 70 15 [some (.ref 11), some (.ref 4), some (.ref p), some (.ref (t + 1)), none] [] (hs_S0, I, L, R') = HX scr 89 p t R' 0 I0 L := by
      rw [b70_15 o6 r2 o5, e67, b67_0 o5]
      simp only [Option.bind_some, Option.toList_some, Option.toList_none, List.append_nil, List.cons_append, List.nil_append]
      rw [b70_27, hI0]; rfl
    rw [eX]
    rcases b6 with ⟨u1, u2, u3, u4, ns, sz, v1, v2, v3, v4, v5, v6, v7, v8, v9, v10⟩ | ⟨c, a, u1, u2, u3⟩
    · exact Or.inl ⟨u1, u2, u3, u4, ns, sz, v3, v4, v5, v6, v7, v8, v10⟩
    · exact Or.inr ⟨c, a, u1, u2, u3⟩
/-- the reference takes the steps over -/
theorem m260_l (o11 : ok11 hs_S0 R 140) (h26 : Y 140 26 = nI ns) (hns : ns ≤ 30) : ∀ m i, i + m = 9 * ns → hs_R scr d 260 81 [some (.ref 140), some (.int x1), some (.int (nI i))] [] (hs_S0, wr Y 145 129 i (fun k => Y 145 (1725 + k)), LX, R) = some (some (.int (nI ns)), (hs_S0, wr Y 145 129 (9 * ns) (fun k => Y 145 (1725 + k)), LX, R))
  | 0, i, e => by
    have : i = 9 * ns := by omega
    subst this
    rw [b260_81 o11, wr_row _ _ (by omega), h26, ml9, if_pos (nI_le (Nat.le_refl _) (by omega))]
  | m + 1, i, e => by
    have hw := wr_s Y 145 129 i (fun k => Y 145 (1725 + k))
    rw [b260_81 o11, wr_row (a := 140) _ _ (by omega), h26, ml9, if_neg (nI_ge (by omega) (by omega)), ad1725, ad129, if_pos (ib_nI (by omega) (by omega)), if_pos (ib_nI (by omega) (by omega)), nI_clamp (by omega), nI_clamp (by omega), nI_1, show (140 + 5 : Nat) = 145 from rfl, wr_out _ _ (by omega), hw]
    exact m260_l o11 h26 hns m (i + 1) (by omega)
/-- the steps as the game keeps them -/
theorem RG_of {c : Nat → Int32} (hc : ∀ k, k < 9 * ns → c (129 + k) = J 145 (1725 + k)) (h127 : c 127 = 1) (h128 : c 128 = nI ns) (hns : ns ≤ 30) (hsz : sz ≤ 60) (h5 : I p 5 = nI sz) (h6 : I p 6 = nI ns) (h7 : I p 7 = 1) (hS : SgJ n nl p I J f 0 ns 0 sz) : RG n nl c I p := by
  have g0 : rs 0 272 (fun k => c (127 + k)) 0 = 1 := by rw [rs, if_pos (by omega)]; exact h127
  have g1 : rs 0 272 (fun k => c (127 + k)) 1 = nI ns := by rw [rs, if_pos (by omega)]; exact h128
  refine ⟨h7.trans g0.symm, Or.inr ⟨g0, ns, sz, hns, hsz, g1, h6, h5, ?_⟩⟩
  refine Sg_cg (Sg_f hS (by omega)) (fun i h1 h2 => ?_) (fun i h1 h2 => ⟨?_, ?_, ?_, ?_, ?_⟩)
  · have := hc (i - 2) (by omega)
    rw [show 129 + (i - 2) = 127 + i by omega, show 1725 + (i - 2) = 1723 + i by omega] at this
    rw [rs, if_pos (by omega)]; exact this
  · rw [rs, if_pos (by omega)]
  · rw [rs, if_pos (by omega)]
  · rw [rs, if_pos (by omega)]
  · rw [rs, if_pos (by omega)]
  · rw [rs, if_pos (by omega)]
end R5
