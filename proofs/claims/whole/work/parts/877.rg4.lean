/-! reigns as a text: steps and blocks -/
noncomputable def HX (scr : List Int32) (d p t : Nat) (R' : Nat → Nat → Nat) (r : Nat) (I : Nat → Nat → Int32) (L : Nat → Nat → Int64) : Option (Option Value × hs_H) := hs_R scr (d + 9) 70 30 [some (.ref 11), some (.ref 4), some (.ref p), some (.ref (t + 1)), some (.int (nI r))] [] (hs_S0, I, L, R')
def RSH (E N : Nat) (B K A V H : Nat → Nat) (R R' : Nat → Nat → Nat) (cn : Nat → Nat) (p t j r sz ns dp : Nat) (I : Nat → Nat → Int32) (L : Nat → Nat → Int64) (J : Nat → Nat → Int32) (q : Nat → Int32) (M : Nat → Nat → Int64) (l : Nat → Int64) : Prop := (ok11 hs_S0 R 140 ∧ ok6 hs_S0 R' 11 ∧ R' 11 0 = 4 ∧ R' 11 2 = p ∧ R' 11 3 = t + 1 ∧ ok8 hs_S0 R' 4 ∧ ok5 hs_S0 R' p ∧ ok3 hs_S0 R' (t + 1) ∧ (t = 18 ∨ t = 34) ∧ (p = 50 ∨ p = 56) ∧ TKS E N B K A V H ∧ cnb cn) ∧ JB E B J ∧ j < N ∧ r ≤ j ∧ TC N K A V j I L ∧ MC E K A V H j q l ∧ I p 5 = nI sz ∧ I p 6 = nI ns ∧ I 11 4 = nI dp ∧ q 26 = nI ns ∧ ns ≤ 30 ∧ sz + dp ≤ 2 * ns ∧ dp ≤ 3 ∧ RN cn (fun k => M 148 k) I L t ∧ (∀ s, s < 5 → J 145 s = nI (cn s))
def FS (p sz dp : Nat) (I I' : Nat → Nat → Int32) : Prop := (∀ i b, 1 ≤ i → i ≤ 5 → b < sz → I' (p + i) b = I (p + i) b) ∧ I' p 7 = I p 7 ∧ (∀ b, b < dp → I' 12 b = I 12 b)
def TQ (q : Nat → Int32) (l : Nat → Int64) (q' : Nat → Int32) (l' : Nat → Int64) : Prop := (∀ f, f < 12 ∨ (18 < f ∧ f ≠ 26) → q' f = q f) ∧ (∀ f, f ≠ 19 → l' f = l f)
def SgJ (n nl p : Nat) (I J : Nat → Nat → Int32) (f s e r q : Nat) : Prop := Sg n nl (fun k => J 145 (1723 + k)) (I (p + 1)) (I (p + 2)) (I (p + 3)) (I (p + 4)) (I (p + 5)) f s e r q
section R4
variable {scr : List Int32} {d dm E N j r p t n nl sz ns dp s m f e row : Nat} {B K A V H cn : Nat → Nat} {q q' : Nat → Int32} {l l' : Nat → Int64} {I J I' J' : Nat → Nat → Int32} {L M L' : Nat → Nat → Int64} {R R' : Nat → Nat → Nat}
theorem FB_tr {I'' : Nat → Nat → Int32} {L'' : Nat → Nat → Int64} (h1 : FB p I L I' L') (h2 : FB p I' L' I'' L'') : FB p I L I'' L'' := ⟨fun k a b c e => (h2.1 k a b c e).trans (h1.1 k a b c e), fun k a => (h2.2.1 k a).trans (h1.2.1 k a), h2.2.2.trans h1.2.2⟩
theorem FB_4 (h : T4 I L I' L') : FB p I L I' L' := ⟨fun k a _ _ _ => h.1 k a, h.2.1, h.2.2⟩
theorem TQ_tr {q'' : Nat → Int32} {l'' : Nat → Int64} (h1 : TQ q l q' l') (h2 : TQ q' l' q'' l'') : TQ q l q'' l'' := ⟨fun k a => (h2.1 k a).trans (h1.1 k a), fun k a => (h2.2 k a).trans (h1.2 k a)⟩
theorem TQ_4 (h : T140 q l q' l') : TQ q l q' l' := ⟨fun f hf => h.1 f (by omega), h.2⟩
theorem Sg_rf {n nl : Nat} {g P1 P2 P3 P4 P5 : Nat → Int32} : ∀ {f s r : Nat}, Sg n nl g P1 P2 P3 P4 P5 f s s r r
  | 0, _, _ => ⟨rfl, rfl⟩
  | _ + 1, _, _ => Or.inl ⟨rfl, rfl⟩
theorem x72 (o6 : ok6 hs_S0 R' 11) (r0 : R' 11 0 = 4) (r2 : R' 11 2 = p) (o8 : ok8 hs_S0 R' 4) (o5 : ok5 hs_S0 R' p) (hp : p = 50 ∨ p = 56) (h5 : I p 5 = nI sz) (hsz : sz < 60) (h11 : I 11 4 = nI (dp + 1)) (hdp : dp < 3) (h12 : I 12 dp = nI row) (hrow : row < 60) : hs_C scr (d + 1) 72 [.ref 11] (hs_S0, I, L, R') = ((hs_C scr d 49 [.ref 4, .int (nI 33)] (hs_S0, hs_u (hs_u (hs_u (hs_u (hs_u I 11 4 (nI dp)) (p + 1) sz 28) (p + 5) sz (nI row)) (p + 5) row (nI sz)) p 5 (nI (sz + 1)), L, R')).bind fun o => hs_R scr (d + 1) 72 115 [some (.ref 11), some (.int (nI sz))] (o.1.toList ++ []) o.2) := by
  have e1 : nI (dp + 1) - 1 = nI dp := pk_sub (a := dp + 1) (b := 1) (by omega)
  have e2 : (nI (dp + 1) ≤ (0 : Int32)) = False := eq_false (nI_ge (a := 0) (by omega) (by omega))
  have e3 : (nI sz < (60 : Int32)) = True := eq_true (nI_lt (b := 60) hsz (by omega))
  rw [e72, b72_0 o6 r2 o5 r0 o8]
  simp (disch := omega) only [Option.bind_some, Option.toList_some, Option.toList_none, List.append_nil, List.cons_append, List.nil_append, ↓reduceIte, true_or, or_true, Nat.reduceAdd, Nat.add_assoc, hu_same, hu_row, hu_at, hu_hu, h11, e1, e2, h5, e3, ib_nI, nI_clamp, h12, nI_1]
  rfl
theorem hxS (o6 : ok6 hs_S0 R' 11) (r0 : R' 11 0 = 4) (o8 : ok8 hs_S0 R' 4) (hr : r ≤ 900) {I1 : Nat → Nat → Int32} {L1 : Nat → Nat → Int64} (e1 : hs_C scr (d + 8) 44 [.ref 4] (hs_S0, I, L, R') = some (none, (hs_S0, I1, L1, R'))) : HX scr d p t R' r I L = hs_R scr (d + 9) 70 45 [some (.ref 11), some (.ref 4), some (.ref p), some (.ref (t + 1)), some (.int (nI r))] [] (hs_S0, I1, L1, R') := by
  unfold HX
  rw [b70_30 o6 r0 o8, if_neg (show ¬ (900 : Int32) < nI r from nI_nlt (a := 900) (b := r) hr (by omega)), e1]; rfl
theorem hx71 (o6 : ok6 hs_S0 R' 11) (r0 : R' 11 0 = 4) (r2 : R' 11 2 = p) (o8 : ok8 hs_S0 R' 4) (o5 : ok5 hs_S0 R' p) {I1 : Nat → Nat → Int32} {L1 : Nat → Nat → Int64} (h8 : I1 4 8 = nI (K j)) (hk : K j ≤ 38) (h37 : K j ≠ 37) {x : Int32} {I2 : Nat → Nat → Int32} {L2 : Nat → Nat → Int64} (h : hs_C scr (d + 8) 71 [.ref 11] (hs_S0, I1, L1, R') = some (some (.int x), (hs_S0, I2, L2, R'))) : hs_R scr (d + 9) 70 45 [some (.ref 11), some (.ref 4), some (.ref p), some (.ref (t + 1)), some (.int (nI r))] [] (hs_S0, I1, L1, R') = (if x = 0 then some (some (.int 0), (hs_S0, I2, L2, R')) else HX scr d p t R' (r + 1) I2 L2) := by
  rw [b70_45 o6 r0 o8 r2 o5, h8, if_neg (show ¬ nI (K j) = 37 from fun q => h37 ((nI_eq (b := 37) (by omega) (by omega)).mp q)), h]
  simp only [Option.bind_some, Option.toList_some, Option.toList_none, List.append_nil, List.cons_append, List.nil_append]
  rw [b70_107, nI_1]; rfl
/-- the reference when a step's row was read and its semicolon is due -/
theorem m261e (o11 : ok11 hs_S0 R 140) {x1 x2 : Int32} {c a : Nat} (hb : BM c a q) (hns : ns < 30) {b : Int32} (hx : b = 0 ∨ b = 1) : hs_R scr (dm + 10) 261 132 [some (.ref 140), some (.int x1), some (.int x2), some (.int b), some (.int (nI (1725 + 9 * ns)))] [] (hs_S0, hs_z J 140 q, hs_z M 140 l, R) = some (none, (hs_S0, hs_z (hs_u J 145 (1725 + 9 * ns + 8) (q 26)) 140 q, hs_z M 140 l, R)) ∧ hs_R scr (dm + 10) 261 142 [some (.ref 140), some (.int x1), some (.int x2), some (.int b), some (.int (nI (1725 + 9 * ns)))] [] (hs_S0, hs_z J 140 q, hs_z M 140 l, R) = some (none, (hs_S0, hs_z (hs_u J 145 (1725 + 9 * ns + 8) (q 26)) 140 q, hs_z M 140 l, R)) ∧ hs_R scr (dm + 10) 261 170 [some (.ref 140), some (.int x1), some (.int x2), some (.int b), some (.int (nI (1725 + 9 * ns)))] [] (hs_S0, hs_z J 140 q, hs_z M 140 l, R) = some (none, (hs_S0, hs_z (hs_u J 145 (1725 + 9 * ns + 8) (q 26)) 140 q, hs_z M 140 l, R)) := by
  have e192 : hs_R scr (dm + 10) 261 192 [some (.ref 140), some (.int x1), some (.int x2), some (.int b), some (.int (nI (1725 + 9 * ns)))] [] (hs_S0, hs_z J 140 q, hs_z M 140 l, R) = some (none, (hs_S0, hs_z (hs_u J 145 (1725 + 9 * ns + 8) (q 26)) 140 q, hs_z M 140 l, R)) := by
    rw [b261_192 o11, adw8, if_pos (ib_nI (by omega) (by omega)), nI_clamp (by omega), hz_s, show (140 + 5 : Nat) = 145 from rfl, hz_cm _ _ _ (by omega)]
  have e170 : hs_R scr (dm + 10) 261 170 [some (.ref 140), some (.int x1), some (.int x2), some (.int b), some (.int (nI (1725 + 9 * ns)))] [] (hs_S0, hs_z J 140 q, hs_z M 140 l, R) = some (none, (hs_S0, hs_z (hs_u J 145 (1725 + 9 * ns + 8) (q 26)) 140 q, hs_z M 140 l, R)) := by
    rw [b261_170 o11]
    rcases hx with h | h
    · rw [if_pos h]; exact e192
    · obtain ⟨b1, h1, _⟩ := m243g (scr := scr) (d := dm + 8) (q := q) (l := l) (J := J) (M := M) o11
      obtain ⟨b2, h2, _⟩ := m257g (scr := scr) (d := dm + 9) (x := 59) (q := q) (l := l) (J := J) (M := M) o11
      rw [if_neg (by rw [h]; decide), h1]
      simp only [Option.bind_some, Option.toList_some, Option.toList_none, List.append_nil, List.cons_append, List.nil_append]
      rw [b261_179 o11, m248b (d := dm + 8) o11 hb]
      simp only [Option.bind_some, Option.toList_some, Option.toList_none, List.append_nil, List.cons_append, List.nil_append]
      rw [b261_182 o11, h2]
      simp only [Option.bind_some, Option.toList_some, Option.toList_none, List.append_nil, List.cons_append, List.nil_append]
      rw [b261_189 o11, m248b (d := dm + 8) o11 hb]
      simp only [Option.bind_some, Option.toList_some, Option.toList_none, List.append_nil, List.cons_append, List.nil_append]
      exact e192
  have e142 : hs_R scr (dm + 10) 261 142 [some (.ref 140), some (.int x1), some (.int x2), some (.int b), some (.int (nI (1725 + 9 * ns)))] [] (hs_S0, hs_z J 140 q, hs_z M 140 l, R) = some (none, (hs_S0, hs_z (hs_u J 145 (1725 + 9 * ns + 8) (q 26)) 140 q, hs_z M 140 l, R)) := by
    rw [b261_142 o11, hz_s, if_neg (BM_n hb).2.1, ite_self]; exact e170
  obtain ⟨b2, h2, _⟩ := m257g (scr := scr) (d := dm + 9) (x := 59) (q := q) (l := l) (J := J) (M := M) o11
  refine ⟨?_, e142, e170⟩
  rw [b261_132 o11, h2]
  simp only [Option.bind_some, Option.toList_some, Option.toList_none, List.append_nil, List.cons_append, List.nil_append]
  rw [b261_139 o11, m248b (d := dm + 8) o11 hb]
  simp only [Option.bind_some, Option.toList_some, Option.toList_none, List.append_nil, List.cons_append, List.nil_append]
  exact e142
/-- the steps within a block -/
theorem rsBody (ih : (∀ {j r sz ns dp dm : Nat} {I : Nat → Nat → Int32} {L : Nat → Nat → Int64} {J : Nat → Nat → Int32} {q : Nat → Int32} {l : Nat → Int64}, N ≤ j + m → 3 ≤ dm + dp → RSH E N B K A V H R R' cn p t j r sz ns dp I L J q M l → (K j = 37 → 0 < dp) → (K j = 28 → dp = 0) → (∃ (I' : Nat → Nat → Int32) (L' : Nat → Nat → Int64) (J' : Nat → Nat → Int32) (q' : Nat → Int32) (l' : Nat → Int64), FB p I L I' L' ∧ (∀ k, k ≠ 145 → J' k = J k) ∧ (∀ f, f < 1725 + 9 * ns → J' 145 f = J 145 f) ∧ TQ q l q' l' ∧ hs_C scr (dm + 10) 261 [.ref 140, .int (nI dp)] (hs_S0, hs_z J 140 q, hs_z M 140 l, R) = some (none, (hs_S0, hs_z J' 140 q', hs_z M 140 l', R)) ∧ ((∃ j' r' sz' ns', j < j' ∧ ns < ns' ∧ sz < sz' ∧ HX scr d p t R' r I L = HX scr d p t R' r' I' L' ∧ RSH E N B K A V H R R' cn p t j' r' sz' ns' dp I' L' J' q' M l' ∧ FS p sz dp I I' ∧ ∃ f, SgJ (cn 0) (cn 3) p I' J' f ns ns' sz sz') ∨ (∃ c a, HX scr d p t R' r I L = some (some (.int 0), (hs_S0, I', L', R')) ∧ BC c a I' ∧ BM c a q'))))) {x2 : Int32} {w : Nat} {dp0 dm0 : Nat} (hdm : 3 ≤ dm0 + (dp0 + 1)) : ∀ (m' : Nat) {j r sz ns : Nat} {I : Nat → Nat → Int32} {L : Nat → Nat → Int64} {J : Nat → Nat → Int32} {q : Nat → Int32} {l : Nat → Int64}, m' ≤ m → N ≤ j + m' → RSH E N B K A V H R R' cn p t j r sz ns (dp0 + 1) I L J q M l → ∃ (I' : Nat → Nat → Int32) (L' : Nat → Nat → Int64) (J' : Nat → Nat → Int32) (q' : Nat → Int32) (l' : Nat → Int64), FB p I L I' L' ∧ (∀ k, k ≠ 145 → J' k = J k) ∧ (∀ f, f < 1725 + 9 * ns → J' 145 f = J 145 f) ∧ TQ q l q' l' ∧ hs_R scr (dm0 + 1 + 10) 261 142 [some (.ref 140), some (.int (nI dp0)), some (.int x2), some (.int 1), some (.int (nI w))] [] (hs_S0, hs_z J 140 q, hs_z M 140 l, R) = hs_R scr (dm0 + 1 + 10) 261 170 [some (.ref 140), some (.int (nI dp0)), some (.int x2), some (.int 1), some (.int (nI w))] [] (hs_S0, hs_z J' 140 q', hs_z M 140 l', R) ∧ ((∃ j' r' sz' ns', j ≤ j' ∧ ns ≤ ns' ∧ sz ≤ sz' ∧ K j' = 28 ∧ HX scr d p t R' r I L = HX scr d p t R' r' I' L' ∧ RSH E N B K A V H R R' cn p t j' r' sz' ns' (dp0 + 1) I' L' J' q' M l' ∧ FS p sz (dp0 + 1) I I' ∧ ∃ f, SgJ (cn 0) (cn 3) p I' J' f ns ns' sz sz') ∨ (∃ c a, HX scr d p t R' r I L = some (some (.int 0), (hs_S0, I', L', R')) ∧ BC c a I' ∧ BM c a q')) := by
  intro m'
  induction m' with
  | zero => intro j r sz ns I L J q l h1 h2 hP; have := hP.2.2.1; omega
  | succ m' IH =>
    intro j r sz ns I L J q l h1 h2 hP
    obtain ⟨⟨o11, o6, r0, r2, r3, o8, o5, o3, ht, hp, hK, hcn⟩, hJ, hj, hr, hT, hM, h5, h6, h11, h26, hns, hszd, hdp, hRN, hcnt⟩ := id hP
    have m243' := m243 (scr := scr) (d := dm0 + 9) (J := J) (M := M) o11 hM.2.2.2.1
    have e1 : hs_R scr (dm0 + 1 + 10) 261 142 [some (.ref 140), some (.int (nI dp0)), some (.int x2), some (.int 1), some (.int (nI w))] [] (hs_S0, hs_z J 140 q, hs_z M 140 l, R) = hs_R scr (dm0 + 1 + 10) 261 157 [some (.ref 140), some (.int (nI dp0)), some (.int x2), some (.int 1), some (.int (nI w))] [.int (if K j = 28 then 1 else 0)] (hs_S0, hs_z J 140 q, hs_z M 140 l, R) := by
      rw [b261_142 o11, if_neg (by decide), hz_s, hM.2.2.2.2, if_pos rfl, m243']; rfl
    by_cases g28 : K j = 28
    · refine ⟨I, L, J, q, l, ⟨fun _ _ _ _ _ => rfl, fun _ _ => rfl, rfl⟩, fun _ _ => rfl, fun _ _ => rfl, ⟨fun _ _ => rfl, fun _ _ => rfl⟩, ?_, Or.inl ⟨j, r, sz, ns, Nat.le_refl _, Nat.le_refl _, Nat.le_refl _, g28, rfl, hP, ⟨fun _ _ _ _ _ => rfl, rfl, fun _ _ => rfl⟩, 0, ⟨rfl, rfl⟩⟩⟩
      rw [e1, if_pos g28, b261_157 o11, if_neg (by decide)]
    · obtain ⟨I1, L1, J1, q1, l1, a1, a2, a3, a4, a5, a6⟩ := ih (dm := dm0) (by omega) hdm hP (fun _ => by omega) (fun q => absurd q g28)
      have e2 : hs_R scr (dm0 + 1 + 10) 261 142 [some (.ref 140), some (.int (nI dp0)), some (.int x2), some (.int 1), some (.int (nI w))] [] (hs_S0, hs_z J 140 q, hs_z M 140 l, R) = hs_R scr (dm0 + 1 + 10) 261 142 [some (.ref 140), some (.int (nI dp0)), some (.int x2), some (.int 1), some (.int (nI w))] [] (hs_S0, hs_z J1 140 q1, hs_z M 140 l1, R) := by
        rw [e1, if_neg g28, b261_157 o11, if_pos rfl, nI_1, a5]
        simp only [Option.bind_some, Option.toList_some, Option.toList_none, List.append_nil, List.cons_append, List.nil_append]
        rw [b261_167]
      rcases a6 with ⟨j1, r1, sz1, ns1, b1, b2, b3, b4, b5, b6, f1, b7⟩ | ⟨c, a, b1, b2, b3⟩
      · obtain ⟨I2, L2, J2, q2, l2, c1, c2, c3, c4, c5, c6⟩ := IH (by omega) (by omega) b5
        refine ⟨I2, L2, J2, q2, l2, FB_tr a1 c1, fun k hk => (c2 k hk).trans (a2 k hk), fun f hf => (c3 f (by omega)).trans (a3 f hf), TQ_tr a4 c4, e2.trans c5, ?_⟩
        rcases c6 with ⟨j2, r2', sz2, ns2, u1, u2, u3, u4, u5, u6, u7, f2, u8⟩ | ⟨c, a, u1, u2, u3⟩
        · refine Or.inl ⟨j2, r2', sz2, ns2, by omega, by omega, by omega, u4, b4.trans u5, u6, ⟨fun i b h1 h2 h3 => (u7.1 i b h1 h2 (by omega)).trans (b6.1 i b h1 h2 h3), u7.2.1.trans b6.2.1, fun b hb => (u7.2.2 b hb).trans (b6.2.2 b hb)⟩, f2 + f1, ?_⟩
          refine Sg_app (Sg_cg b7 (fun i h1 h2 => ?_) (fun i h1 h2 => ⟨?_, ?_, ?_, ?_, ?_⟩)) u8
          · exact c3 _ (by omega)
          · exact u7.1 1 i (by omega) (by omega) h2
          · exact u7.1 2 i (by omega) (by omega) h2
          · exact u7.1 3 i (by omega) (by omega) h2
          · exact u7.1 4 i (by omega) (by omega) h2
          · exact u7.1 5 i (by omega) (by omega) h2
        · exact Or.inr ⟨c, a, b4.trans u1, u2, u3⟩
      · refine ⟨I1, L1, J1, q1, l1, a1, a2, a3, a4, e2.trans ?_, Or.inr ⟨c, a, b1, b2, b3⟩⟩
        rw [b261_142 o11, if_neg (by decide), hz_s, if_neg (BM_n b3).2.1]
theorem kj_n : ∀ k, k ≤ 38 → ((17 ≤ k ∧ k ≤ 25) ∨ k = 27 ∨ k = 29 → k = 25 ∨ k = 27 ∨ (kj k ≠ 8 ∧ kj k ≠ 9)) := by decide
theorem SgJ_1 {k : Nat} (h : stOK (cn 0) (cn 3) (fun k => J 145 (1723 + k)) (I (p + 1)) (I (p + 2)) (I (p + 3)) (I (p + 4)) (2 + 9 * ns) sz k) (h8 : k ≠ 8) (h9 : k ≠ 9) (hg : J 145 (1725 + 9 * ns + 8) = nI (ns + 1)) : SgJ (cn 0) (cn 3) p I J 1 ns (ns + 1) sz (sz + 1) := by
  refine Or.inr ⟨by omega, by omega, k, h, Or.inl ⟨h8, h9, ?_, rfl, rfl⟩⟩
  show J 145 (1723 + (2 + 9 * ns + 8)) = _
  rw [show 1723 + (2 + 9 * ns + 8) = 1725 + 9 * ns + 8 by omega]; exact hg
set_option maxHeartbeats 16000000 in
theorem rsStep : ∀ (m : Nat), (∀ {j r sz ns dp dm : Nat} {I : Nat → Nat → Int32} {L : Nat → Nat → Int64} {J : Nat → Nat → Int32} {q : Nat → Int32} {l : Nat → Int64}, N ≤ j + m → 3 ≤ dm + dp → RSH E N B K A V H R R' cn p t j r sz ns dp I L J q M l → (K j = 37 → 0 < dp) → (K j = 28 → dp = 0) → (∃ (I' : Nat → Nat → Int32) (L' : Nat → Nat → Int64) (J' : Nat → Nat → Int32) (q' : Nat → Int32) (l' : Nat → Int64), FB p I L I' L' ∧ (∀ k, k ≠ 145 → J' k = J k) ∧ (∀ f, f < 1725 + 9 * ns → J' 145 f = J 145 f) ∧ TQ q l q' l' ∧ hs_C scr (dm + 10) 261 [.ref 140, .int (nI dp)] (hs_S0, hs_z J 140 q, hs_z M 140 l, R) = some (none, (hs_S0, hs_z J' 140 q', hs_z M 140 l', R)) ∧ ((∃ j' r' sz' ns', j < j' ∧ ns < ns' ∧ sz < sz' ∧ HX scr d p t R' r I L = HX scr d p t R' r' I' L' ∧ RSH E N B K A V H R R' cn p t j' r' sz' ns' dp I' L' J' q' M l' ∧ FS p sz dp I I' ∧ ∃ f, SgJ (cn 0) (cn 3) p I' J' f ns ns' sz sz') ∨ (∃ c a, HX scr d p t R' r I L = some (some (.int 0), (hs_S0, I', L', R')) ∧ BC c a I' ∧ BM c a q')))) := by
  intro m
  induction m with
  | zero => intro j r sz ns dp dm I L J q l h1 h2 hP; have := hP.2.2.1; omega
  | succ m ih =>
    intro j r sz ns dp dm I L J q l hm hdm hP h37 h28
    obtain ⟨⟨o11, o6, r0, r2, r3, o8, o5, o3, ht, hp, hK, hcn⟩, hJ, hj, hr, hT, hM, h5, h6, h11, h26, hns, hszd, hdp, hRN, hcnt⟩ := id hP; have hkj := (hK.2.2.2.2.2 j hj).1; have hN9 := hK.2.1
    have h12 := hM.2.2.2.2
    obtain ⟨I1, L1, e1, t1, c1, f1⟩ := x44 (scr := scr) (d := d + 8) (R := R') o8 hK.2.1 hT hj
    have eX := hxS (t := t) (p := p) o6 r0 o8 (show r ≤ 900 by omega) e1
    have m240' := m240 (scr := scr) (d := dm + 8) (J := J) (M := M) o11 hM.2.2.2.1
    have g1 : ∀ k, k ≠ 4 → I1 k = I k := f1.1
    -- both refuse the token at hand
    have bad : ∀ {c : Nat} {I2 : Nat → Nat → Int32} {q2 : Nat → Int32}, FB p I1 L1 I2 L1 → T140 q l q2 l → hs_R scr (d + 9) 70 45 [some (.ref 11), some (.ref 4), some (.ref p), some (.ref (t + 1)), some (.int (nI r))] [] (hs_S0, I1, L1, R') = some (some (.int 0), (hs_S0, I2, L1, R')) → BC c (A j) I2 → hs_C scr (dm + 10) 261 [.ref 140, .int (nI dp)] (hs_S0, hs_z J 140 q, hs_z M 140 l, R) = some (none, (hs_S0, hs_z J 140 q2, hs_z M 140 l, R)) → BM c (A j) q2 → (∃ (I' : Nat → Nat → Int32) (L' : Nat → Nat → Int64) (J' : Nat → Nat → Int32) (q' : Nat → Int32) (l' : Nat → Int64), FB p I L I' L' ∧ (∀ k, k ≠ 145 → J' k = J k) ∧ (∀ f, f < 1725 + 9 * ns → J' 145 f = J 145 f) ∧ TQ q l q' l' ∧ hs_C scr (dm + 10) 261 [.ref 140, .int (nI dp)] (hs_S0, hs_z J 140 q, hs_z M 140 l, R) = some (none, (hs_S0, hs_z J' 140 q', hs_z M 140 l', R)) ∧ ((∃ j' r' sz' ns', j < j' ∧ ns < ns' ∧ sz < sz' ∧ HX scr d p t R' r I L = HX scr d p t R' r' I' L' ∧ RSH E N B K A V H R R' cn p t j' r' sz' ns' dp I' L' J' q' M l' ∧ FS p sz dp I I' ∧ ∃ f, SgJ (cn 0) (cn 3) p I' J' f ns ns' sz sz') ∨ (∃ c a, HX scr d p t R' r I L = some (some (.int 0), (hs_S0, I', L', R')) ∧ BC c a I' ∧ BM c a q'))) := by
      intro c I2 q2 a1 a2 a3 a4 a5 a6
      exact ⟨I2, L1, J, q2, l, FB_tr (FB_4 f1) a1, fun _ _ => rfl, fun _ _ => rfl, TQ_4 a2, a5, Or.inr ⟨c, A j, eX.trans a3, a4, a6⟩⟩
    have b83 : ∀ {q2 : Nat → Int32} {x2 x3 : Int32} {c a : Nat}, BM c a q2 → hs_R scr (dm + 10) 261 31 [some (.ref 140), some (.int (nI dp)), some (.int x2), some (.int x3), none] [] (hs_S0, hs_z J 140 q2, hs_z M 140 l, R) = some (none, (hs_S0, hs_z J 140 q2, hs_z M 140 l, R)) ∧ hs_R scr (dm + 10) 261 57 [some (.ref 140), some (.int (nI dp)), some (.int x2), some (.int x3), none] [] (hs_S0, hs_z J 140 q2, hs_z M 140 l, R) = some (none, (hs_S0, hs_z J 140 q2, hs_z M 140 l, R)) ∧ hs_R scr (dm + 10) 261 83 [some (.ref 140), some (.int (nI dp)), some (.int x2), some (.int x3), none] [] (hs_S0, hs_z J 140 q2, hs_z M 140 l, R) = some (none, (hs_S0, hs_z J 140 q2, hs_z M 140 l, R)) := by
      intro q2 x2 x3 c a hb
      have e83 : hs_R scr (dm + 10) 261 83 [some (.ref 140), some (.int (nI dp)), some (.int x2), some (.int x3), none] [] (hs_S0, hs_z J 140 q2, hs_z M 140 l, R) = some (none, (hs_S0, hs_z J 140 q2, hs_z M 140 l, R)) := by rw [b261_83 o11, hz_s, if_neg (BM_n hb).1]
      have e57 : hs_R scr (dm + 10) 261 57 [some (.ref 140), some (.int (nI dp)), some (.int x2), some (.int x3), none] [] (hs_S0, hs_z J 140 q2, hs_z M 140 l, R) = some (none, (hs_S0, hs_z J 140 q2, hs_z M 140 l, R)) := by rw [b261_57 o11, hz_s, if_neg (BM_n hb).2.1]; exact e83
      exact ⟨by rw [b261_31 o11, hz_s, if_neg (BM_n hb).2.1]; exact e57, e57, e83⟩
    have up2 : ∀ (c : Nat), 0 < c → c ≤ 9 → BM c (A j) (up (up q 12 (nI c)) 13 (nI (A j))) ∧ T140 q l (up (up q 12 (nI c)) 13 (nI (A j))) l := fun c h1 h2 => ⟨⟨rfl, rfl, h1, h2⟩, ⟨fun f hf => by rw [up_n _ _ (by omega), up_n _ _ (by omega)], fun _ _ => rfl⟩⟩
    by_cases hsw : (17 ≤ K j ∧ K j ≤ 25) ∨ K j = 27 ∨ K j = 29
    · have hkf := kj_f (K j) hkj hsw
      obtain ⟨b, hb⟩ : ∃ b : Int32, b = if K j = 25 ∨ K j = 27 then 1 else 0 := ⟨_, rfl⟩
      have hb01 : b = 0 ∨ b = 1 := by
        rw [hb]; split
        · exact Or.inr rfl
        · exact Or.inl rfl
      have eM0 : hs_C scr (dm + 10) 261 [.ref 140, .int (nI dp)] (hs_S0, hs_z J 140 q, hs_z M 140 l, R) = hs_R scr (dm + 10) 261 31 [some (.ref 140), some (.int (nI dp)), some (.int (nI (kj (K j)))), some (.int b), none] [] (hs_S0, hs_z J 140 q, hs_z M 140 l, R) := by
        rw [e261, b261_0 o11, m240', hkf.2.1]
        simp only [Option.bind_some, Option.toList_some, Option.toList_none, List.append_nil, List.cons_append, List.nil_append]
        rw [b261_4]
        rcases kj_n (K j) hkj hsw with h | h | ⟨h1, h2⟩
        · rw [if_pos (show nI (kj (K j)) = 8 by rw [h]; decide), b261_17, b261_22 o11, if_pos (nI_pos' (by omega)), hb, if_pos (Or.inl h)]
        · rw [if_neg (show ¬ nI (kj (K j)) = 8 by rw [h]; decide), if_pos (show nI (kj (K j)) = 9 by rw [h]; decide), b261_17, b261_22 o11, if_pos (nI_pos' (by omega)), hb, if_pos (Or.inr h)]
        · have hnb : ¬ (K j = 25 ∨ K j = 27) := by
            rintro (h | h)
            · exact h1 (by rw [h]; rfl)
            · exact h2 (by rw [h]; rfl)
          rw [if_neg (show ¬ nI (kj (K j)) = 8 from fun q => h1 ((nI_eq (b := 8) (by omega) (by omega)).mp q)), if_neg (show ¬ nI (kj (K j)) = 9 from fun q => h2 ((nI_eq (b := 9) (by omega) (by omega)).mp q)), b261_22 o11, if_pos (nI_pos' (by omega)), hb, if_neg hnb]
      by_cases g30 : ns = 30
      · obtain ⟨I2, z1, z2, z3, z4⟩ := x47 (scr := scr) (d := d + 7) (c := 6) (R := R') o8 c1 hkj
        rw [fk_n (by omega)] at z2
        refine bad (FB_4 z3) (up2 6 (by omega) (by omega)).2 ?_ z2 ?_ (up2 6 (by omega) (by omega)).1
        · rw [hx71 (x := 0) (j := j) o6 r0 r2 o8 o5 c1.1 hkj (by omega) (I2 := I2) (L2 := L1) ?_, if_pos rfl]
          rw [e71, b71_0 o6 r0 o8, c1.1, if_neg (show ¬ nI (K j) = 28 from fun q => by have := (nI_eq (b := 28) (by omega) (by omega)).mp q; omega), x73 hkj, if_pos hsw]
          simp only [Option.bind_some, Option.toList_some, Option.toList_none, List.append_nil, List.cons_append, List.nil_append]
          rw [b71_27 o6 r2 o5 r0 o8, if_neg (by decide), g1 _ (by omega), h6, if_pos (show (30 : Int32) ≤ nI ns by rw [g30]; decide), b71_63 o6 r0 o8, show (6 : Int32) = nI 6 from rfl, z1]
          simp only [Option.bind_some, Option.toList_some, Option.toList_none, List.append_nil, List.cons_append, List.nil_append]
          rw [b71_72]; rfl
        · rw [eM0, b261_31 o11, hz_s, h12, if_pos rfl, h26, if_pos (show nI ns = 30 by rw [g30]; rfl), hM.2.1, show (6 : Int32) = nI 6 from rfl, m220 o11 h12]
          simp only [Option.bind_some, Option.toList_some, Option.toList_none, List.append_nil, List.cons_append, List.nil_append]
          exact (b83 (up2 6 (by omega) (by omega)).1).2.1
      · have hns' : ns < 30 := by omega
        have e57 : hs_C scr (dm + 10) 261 [.ref 140, .int (nI dp)] (hs_S0, hs_z J 140 q, hs_z M 140 l, R) = hs_R scr (dm + 10) 261 57 [some (.ref 140), some (.int (nI dp)), some (.int (nI (kj (K j)))), some (.int b), none] [] (hs_S0, hs_z J 140 q, hs_z M 140 l, R) := by
          rw [eM0, b261_31 o11, hz_s, h12, if_pos rfl, h26, if_neg (show ¬ nI ns = 30 from fun q => g30 ((nI_eq (b := 30) (by omega) (by omega)).mp q))]
        have hsz : sz < 60 := by omega
        by_cases gC : (K j = 25 ∨ K j = 27) ∧ dp = 3
        · obtain ⟨gk, gd⟩ := gC
          have hC2 : CU K A V j (hs_u (hs_u (hs_u I1 (p + 1) sz (nI (K j))) p 6 (nI (ns + 1))) p 5 (nI (sz + 1))) L1 := by unfold CU; simp (disch := omega) only [hu_row]; exact c1
          obtain ⟨I2, z1, z2, z3, z4⟩ := x47 (scr := scr) (d := d + 6) (c := 7) (R := R') o8 hC2 hkj
          rw [fk_n (by omega)] at z2
          refine bad (FB_tr ⟨fun k a b c e => by simp (disch := omega) only [hu_row], fun _ _ => rfl, by simp (disch := omega) only [hu_row]⟩ (FB_4 z3)) (up2 7 (by omega) (by omega)).2 ?_ z2 ?_ (up2 7 (by omega) (by omega)).1
          · have e76' : hs_C scr (d + 7) 76 [.ref 11, .int (nI sz)] (hs_S0, hs_u (hs_u (hs_u I1 (p + 1) sz (nI (K j))) p 6 (nI (ns + 1))) p 5 (nI (sz + 1)), L1, R') = some (some (.int 0), (hs_S0, I2, L1, R')) := by
              rw [e76, b76_0 o6 r0 o8]
              simp (disch := omega) only [hu_same, hu_row, hu_at, hu_hu, g1, h11, gd, show (nI 3 < (3 : Int32)) = False from eq_false (by decide), ↓reduceIte]
              rw [show (7 : Int32) = nI 7 from rfl, z1]
              simp only [Option.bind_some, Option.toList_some, Option.toList_none, List.append_nil, List.cons_append, List.nil_append]
              rw [b76_17]; rfl
            rw [hx71 (x := 0) (j := j) o6 r0 r2 o8 o5 c1.1 hkj (by omega) (I2 := I2) (L2 := L1) ?_, if_pos rfl]
            rw [x71h (d := d + 7) (sz := sz) (ns := ns) o6 r0 r2 o8 o5 hp c1.1 hkj hsw (by rw [g1 _ (by omega)]; exact h5) (by rw [g1 _ (by omega)]; exact h6) hns' hsz]
            rcases gk with h | h
            · rw [h] at e76' ⊢
              rw [show hs_swt (nI 25) 17 27 [188, 326, 326, 217, 217, 217, 326, 326, 255, 326, 289] 326 = 255 by decide, b71_255 o6, e76']
              simp only [Option.bind_some, Option.toList_some, Option.toList_none, List.append_nil, List.cons_append, List.nil_append]
              rw [b71_260 o6, if_pos rfl, b71_287, b71_288]; rfl
            · rw [h] at e76' ⊢
              rw [show hs_swt (nI 27) 17 27 [188, 326, 326, 217, 217, 217, 326, 326, 255, 326, 289] 326 = 289 by decide, b71_289 o6, e76']
              simp only [Option.bind_some, Option.toList_some, Option.toList_none, List.append_nil, List.cons_append, List.nil_append]
              rw [b71_294 o6, if_pos rfl, b71_324, b71_325]; rfl
          · rw [e57, b261_57 o11, hz_s, h12, if_pos rfl, hb, if_pos gk, if_neg (by decide), if_pos (show nI dp = 3 by rw [gd]; rfl), hM.2.1, show (7 : Int32) = nI 7 from rfl, m220 o11 h12]
            simp only [Option.bind_some, Option.toList_some, Option.toList_none, List.append_nil, List.cons_append, List.nil_append]
            exact (b83 (up2 7 (by omega) (by omega)).1).2.2
        · have hj1 : j + 1 < N := hK.2.2.2.2.1 j hj (by omega)
          have e83 : hs_C scr (dm + 10) 261 [.ref 140, .int (nI dp)] (hs_S0, hs_z J 140 q, hs_z M 140 l, R) = hs_R scr (dm + 10) 261 83 [some (.ref 140), some (.int (nI dp)), some (.int (nI (kj (K j)))), some (.int b), none] [] (hs_S0, hs_z J 140 q, hs_z M 140 l, R) := by
            rw [e57, b261_57 o11, hz_s, h12, if_pos rfl, hb]
            by_cases gk : K j = 25 ∨ K j = 27
            · rw [if_pos gk, if_neg (by decide), if_neg (show ¬ nI dp = 3 from fun q => gC ⟨gk, (nI_eq (b := 3) (by omega) (by omega)).mp q⟩)]
            · rw [if_neg gk, if_pos rfl]
          obtain ⟨q1, l1, m1, m2, m3⟩ := m209a (scr := scr) (d := dm + 8) (q := up q 26 (nI (ns + 1))) (M := M) o11 hK hJ hj1 hM
          have eM1 : hs_C scr (dm + 10) 261 [.ref 140, .int (nI dp)] (hs_S0, hs_z J 140 q, hs_z M 140 l, R) = ((hs_C scr (dm + 9) 262 [.ref 140, .int (nI (1725 + 9 * ns))] (hs_S0, hs_z (hs_u J 145 (1725 + 9 * ns) (nI (kj (K j)))) 140 q1, hs_z M 140 l1, R)).bind fun o => hs_R scr (dm + 10) 261 132 [some (.ref 140), some (.int (nI dp)), some (.int (nI (kj (K j)))), some (.int b), some (.int (nI (1725 + 9 * ns)))] (o.1.toList ++ []) o.2) := by
            rw [e83, b261_83 o11, hz_s, h12, if_pos (by decide), h26, nI_1, hz_u, m1, ml9, ad1725]
            simp only [Option.bind_some, Option.toList_some, Option.toList_none, List.append_nil, List.cons_append, List.nil_append]
            rw [b261_118 o11, if_pos (ib_nI (by omega) (by omega)), nI_clamp (by omega), show (140 + 5 : Nat) = 145 from rfl, hz_cm _ _ _ (by omega)]
            first | (simp only [List.append_nil]; done) | (simp only [List.append_nil]; rfl)
          have hRw : RwH E N B K A V H R R' cn p t j sz ns dp I1 L1 (hs_u J 145 (1725 + 9 * ns) (nI (kj (K j)))) q1 M l1 := ⟨o11, o6, r0, r2, r3, o8, o5, o3, ht, hp, hK, fun i hi => by rw [hu_row _ _ (by omega)]; exact hJ i hi, hj1, t1, c1, m2, by rw [g1 _ (by omega)]; exact h5, by rw [g1 _ (by omega)]; exact h6, by rw [g1 _ (by omega)]; exact h11, hns', hszd, hdp, hcn, RN_cg hRN (fun k hk => rfl) (by rw [g1 _ (by omega)]) (g1 _ (by omega)) (g1 _ (by omega)) (f1.2.1 _ (by omega)), fun s hs => by rw [hu_at _ _ (by omega)]; exact hcnt s hs, hu_same _ _ _ _⟩
          obtain ⟨dp', hdp', hRow⟩ : ∃ dp', dp' = (if K j = 25 ∨ K j = 27 then dp + 1 else dp) ∧ RowRes scr (d + 8) (dm + 9) E N B K A V H R R' (cn 0) (cn 3) p j sz ns dp dp' I1 L1 (hs_u J 145 (1725 + 9 * ns) (nI (kj (K j)))) q1 M l1 := by
            refine ⟨_, rfl, ?_⟩
            by_cases k25 : K j = 25
            · rw [if_pos (Or.inl k25)]; exact rowWhen hRw k25 (by have : ¬ dp = 3 := fun q => gC ⟨Or.inl k25, q⟩
                                                                  omega)
            · by_cases k27 : K j = 27
              · rw [if_pos (Or.inr k27)]; exact rowLoop hRw k27 (by have : ¬ dp = 3 := fun q => gC ⟨Or.inr k27, q⟩
                                                                    omega)
              · rw [if_neg (by omega)]
                by_cases k17 : K j = 17
                · exact rowDay hRw k17
                · by_cases k20 : K j = 20 ∨ K j = 21 ∨ K j = 22
                  · exact rowThing hRw k20
                  · exact rowS hRw (by omega)
          obtain ⟨I2, L2, J2, q2, l2, a1, a2, a3, a4, a5, a6⟩ := hRow
          have hJ2 : JB E B J2 := fun i hi => by rw [a2 144 (by omega), hu_row _ _ (by omega)]; exact hJ i hi
          have tq1 : TQ q l q1 l1 := ⟨fun f hf => by rw [m3.1 f (by omega), up_n _ _ (by omega)], m3.2⟩
          have q126 : q1 26 = nI (ns + 1) := by rw [m3.1 26 (by omega), up_s]
          have q226 : q2 26 = nI (ns + 1) := by rw [a4.1 26 (by omega)]; exact q126
          have j2lo : ∀ f, f < 1725 + 9 * ns → J2 145 f = J 145 f := fun f hf => by rw [a3 f (by omega), hu_at _ _ (by omega)]
          have j2k : ∀ k, k ≠ 145 → J2 k = J k := fun k hk => by rw [a2 k hk, hu_row _ _ hk]
          rcases a6 with ⟨p1, b1, b2, b3, b4, b5, b6⟩ | ⟨c, a, b1, b2, b3⟩
          · obtain ⟨q3, l3, n1, n2, n3, n4⟩ := m248w (scr := scr) (d := dm + 7) (M := M) (W := 33) o11 hK hJ2 b2 b3 (by omega)
            have eM2 : hs_C scr (dm + 10) 261 [.ref 140, .int (nI dp)] (hs_S0, hs_z J 140 q, hs_z M 140 l, R) = hs_R scr (dm + 10) 261 142 [some (.ref 140), some (.int (nI dp)), some (.int (nI (kj (K j)))), some (.int b), some (.int (nI (1725 + 9 * ns)))] [] (hs_S0, hs_z J2 140 q3, hs_z M 140 l3, R) := by
              rw [eM1, a5]
              simp only [Option.bind_some, Option.toList_some, Option.toList_none, List.append_nil, List.cons_append, List.nil_append]
              rw [b261_132 o11, m257_59 o11 b3.2.2.2.1]
              simp only [Option.bind_some, Option.toList_some, Option.toList_none, List.append_nil, List.cons_append, List.nil_append]
              rw [b261_139 o11, n1]; rfl
            have q326 : q3 26 = nI (ns + 1) := by rw [n2.1 26 (by omega)]; exact q226
            have tq3 : TQ q l q3 l3 := TQ_tr tq1 (TQ_4 (T140_tr a4 n2))
            by_cases g33 : K p1 = 33
            · obtain ⟨tC, fR, hst⟩ := b5 g33
              have hM3 := n3 g33
              have hp2 : p1 + 1 < N := hK.2.2.2.2.1 p1 b2 (by omega)
              have eX2 : HX scr d p t R' r I L = HX scr d p t R' (r + 1) I2 L2 := by
                rw [eX, hx71 (x := 1) (j := j) o6 r0 r2 o8 o5 c1.1 hkj (by omega) (I2 := I2) (L2 := L2) (by rw [b4, if_pos g33]), if_neg (by decide)]
              have hRN2 : RN cn (fun k => M 148 k) I2 L2 t := RN_cg hRN (fun k hk => rfl) (by rw [a1.1 _ (by omega) (by omega) (by omega) (by omega), g1 _ (by omega)]) (by rw [a1.1 _ (by omega) (by omega) (by omega) (by omega), g1 _ (by omega)]) (by rw [a1.1 _ (by omega) (by omega) (by omega) (by omega), g1 _ (by omega)]) (by rw [a1.2.1 _ (by omega), f1.2.1 _ (by omega)])
              have fs2 : FS p sz dp I I2 := ⟨fun i b h1 h2 h3 => by
                by_cases gi : i = 5
                · subst gi; rw [fR.1, g1 _ (by omega)]
                · rw [fR.2.1 i b h1 (by omega) (by omega), g1 _ (by omega)], by rw [fR.2.2.2.2.1, g1 _ (by omega)], fun b hb => by rw [fR.2.2.2.2.2.2.1 b hb, g1 _ (by omega)]⟩
              by_cases gk : K j = 25 ∨ K j = 27
              · -- a block
                rw [if_pos gk] at hdp'
                subst hdp'
                rw [if_pos gk] at hb
                subst hb
                have hdp3 : dp < 3 := by
                  have : ¬ dp = 3 := fun q => gC ⟨gk, q⟩
                  omega
                have hkk : kj (K j) = 8 ∨ kj (K j) = 9 := by
                  rcases gk with h | h
                  · rw [h]; exact Or.inl rfl
                  · rw [h]; exact Or.inr rfl
                have hP2 : RSH E N B K A V H R R' cn p t (p1 + 1) (r + 1) (sz + 1) (ns + 1) (dp + 1) I2 L2 J2 q3 M l3 := ⟨⟨o11, o6, r0, r2, r3, o8, o5, o3, ht, hp, hK, hcn⟩, hJ2, hp2, by omega, tC, hM3, fR.2.2.1, fR.2.2.2.1, fR.2.2.2.2.2.1, q326, by omega, by omega, by omega, hRN2, fun s hs => by rw [j2lo s (by omega)]; exact hcnt s hs⟩
                obtain ⟨dm0, rfl⟩ : ∃ dm0, dm = dm0 + 1 := ⟨dm - 1, by omega⟩
                obtain ⟨I3, L3, J3, q4, l4, u1, u2, u3, u4, u5, u6⟩ := rsBody ih (x2 := nI (kj (K j))) (w := 1725 + 9 * ns) (dp0 := dp) (dm0 := dm0) (by omega) m (Nat.le_refl _) (by omega) hP2
                have j3lo : ∀ f, f < 1725 + 9 * ns → J3 145 f = J 145 f := fun f hf => by rw [u3 f (by omega), j2lo f hf]
                have j3k : ∀ k, k ≠ 145 → J3 k = J k := fun k hk => by rw [u2 k hk, j2k k hk]
                have fb3 : FB p I L I3 L3 := FB_tr (FB_4 f1) (FB_tr a1 u1)
                rcases u6 with ⟨j2, r2', sz2, ns2, v1, v2, v3, v4, v5, v6, v7, ff, v8⟩ | ⟨c, a, v1, v2, v3⟩
                · obtain ⟨-, hJ3, hj2, hr2, hT3, hM4, w5, w6, w11, w26, wns, wszd, wdp, wRN, wcnt⟩ := v6
                  have hj3 : j2 + 1 < N := hK.2.2.2.2.1 j2 hj2 (by omega)
                  have hk2 := (hK.2.2.2.2.2 j2 hj2).1
                  obtain ⟨I4, L4, e4, t4, c4, f4⟩ := x44 (scr := scr) (d := d + 8) (R := R') o8 hK.2.1 hT3 hj2
                  have g4 : ∀ k, k ≠ 4 → I4 k = I3 k := f4.1
                  have eX3 := hxS (t := t) (p := p) o6 r0 o8 (show r2' ≤ 900 by omega) e4
                  have h12o : I3 12 dp = nI sz := by rw [v7.2.2 dp (by omega)]; exact fR.2.2.2.2.2.2.2 (by omega)
                  have e72' := x72 (scr := scr) (d := d + 6) (I := I4) (L := L4) (sz := sz2) (dp := dp) (row := sz) o6 r0 r2 o8 o5 hp (by rw [g4 _ (by omega)]; exact w5) (by omega) (by rw [g4 _ (by omega)]; exact w11) hdp3 (by rw [g4 _ (by omega)]; exact h12o) hsz
                  obtain ⟨IE, hIE⟩ : ∃ IE, IE = hs_u (hs_u (hs_u (hs_u (hs_u I4 11 4 (nI dp)) (p + 1) sz2 28) (p + 5) sz2 (nI sz)) (p + 5) sz (nI sz2)) p 5 (nI (sz2 + 1)) := ⟨_, rfl⟩
                  rw [← hIE] at e72'
                  have hTE : TC N K A V (j2 + 1) IE L4 := TC_r t4 (fun k hk => by rw [hIE]; simp (disch := omega) only [hu_row]) rfl
                  obtain ⟨I5, L5, z1, z2, z3, z4, z5⟩ := x49 (scr := scr) (d := d + 5) (W := 33) (R := R') o8 hK hTE hj3 (by omega)
                  have iE : ∀ k, k ≠ 11 → k ≠ p + 1 → k ≠ p + 5 → k ≠ p → IE k = I4 k := fun k h1 h2 h3 h4 => by rw [hIE]; simp (disch := omega) only [hu_row]
                  have z55 : ∀ k, k ≠ 4 → I5 k = IE k := z2.1
                  obtain ⟨q5, l5, n5, n6, n7⟩ := m248t (scr := scr) (d := dm0 + 8) (M := M) o11 hK hJ3 hj3 hM4
                  obtain ⟨q6, l6, n8, n9, n10, n11⟩ := m248w (scr := scr) (d := dm0 + 8) (M := M) (W := 33) o11 hK hJ3 hj3 n6 (by omega)
                  have q626 : q6 26 = nI ns2 := by rw [n9.1 26 (by omega), n7.1 26 (by omega)]; exact w26
                  have eM3 : hs_C scr (dm0 + 1 + 10) 261 [.ref 140, .int (nI dp)] (hs_S0, hs_z J 140 q, hs_z M 140 l, R) = some (none, (hs_S0, hs_z (hs_u J3 145 (1725 + 9 * ns + 8) (nI ns2)) 140 q6, hs_z M 140 l6, R)) := by
                    rw [eM2, u5, b261_170 o11, if_neg (by decide), m243 (d := dm0 + 9) o11 hM4.2.2.2.1, if_pos v4]
                    simp only [Option.bind_some, Option.toList_some, Option.toList_none, List.append_nil, List.cons_append, List.nil_append]
                    rw [b261_179 o11, n5]
                    simp only [Option.bind_some, Option.toList_some, Option.toList_none, List.append_nil, List.cons_append, List.nil_append]
                    rw [b261_182 o11, m257_59 o11 n6.2.2.2.1]
                    simp only [Option.bind_some, Option.toList_some, Option.toList_none, List.append_nil, List.cons_append, List.nil_append]
                    rw [b261_189 o11, n8]
                    simp only [Option.bind_some, Option.toList_some, Option.toList_none, List.append_nil, List.cons_append, List.nil_append]
                    rw [b261_192 o11, adw8, if_pos (ib_nI (by omega) (by omega)), nI_clamp (by omega), hz_s, q626, show (140 + 5 : Nat) = 145 from rfl, hz_cm _ _ _ (by omega)]
                  have e71' : hs_C scr (d + 8) 71 [.ref 11] (hs_S0, I4, L4, R') = some (some (.int (if K (j2 + 1) = 33 then 1 else 0)), (hs_S0, I5, L5, R')) := by
                    rw [e71, b71_0 o6 r0 o8, c4.1, if_pos (show nI (K j2) = 28 by rw [v4]; rfl), e72', z1]
                    simp only [Option.bind_some, Option.toList_some, Option.toList_none, List.append_nil, List.cons_append, List.nil_append]
                    rw [b72_115, ib01]
                    simp only [Option.bind_some, Option.toList_some, Option.toList_none, List.append_nil, List.cons_append, List.nil_append]
                    rw [b71_16, ib01]
                  have fb5 : FB p I L I5 L5 := FB_tr fb3 (FB_tr (FB_4 f4) (FB_tr ⟨fun k a b c e => iE k b (by omega) (by omega) (by omega), fun _ _ => rfl, by rw [iE 4 (by omega) (by omega) (by omega) (by omega)]⟩ (FB_4 z2)))
                  have tq6 : TQ q l q6 l6 := TQ_tr tq3 (TQ_tr u4 (TQ_4 (T140_tr n7 n9)))
                  refine ⟨I5, L5, hs_u J3 145 (1725 + 9 * ns + 8) (nI ns2), q6, l6, fb5, fun k hk => by rw [hu_row _ _ hk]; exact j3k k hk, fun f hf => by rw [hu_at _ _ (by omega)]; exact j3lo f hf, tq6, eM3, ?_⟩
                  by_cases h33 : K (j2 + 1) = 33
                  · have hj4 : j2 + 2 < N := hK.2.2.2.2.1 (j2 + 1) hj3 (by omega)
                    have eX4 : HX scr d p t R' r I L = HX scr d p t R' (r2' + 1) I5 L5 := by
                      rw [eX2, v5, eX3, hx71 (x := 1) (j := j2) o6 r0 r2 o8 o5 c4.1 hk2 (by omega) (I2 := I5) (L2 := L5) (by rw [e71', if_pos h33]), if_neg (by decide)]
                    have r5 : ∀ i b, 1 ≤ i → i ≤ 4 → (i = 1 → b ≠ sz2) → I5 (p + i) b = I3 (p + i) b := fun i b h1 h2 h3 => by
                      rw [z55 _ (by omega), hIE]
                      by_cases gi : i = 1
                      · subst gi
                        have := h3 rfl
                        simp (disch := omega) only [hu_row, hu_at, g4]
                      · simp (disch := omega) only [hu_row, g4]
                    have r55 : ∀ b, b ≠ sz2 → b ≠ sz → I5 (p + 5) b = I3 (p + 5) b := fun b h1 h2 => by
                      rw [z55 _ (by omega), hIE]; simp (disch := omega) only [hu_row, hu_at, g4]
                    have s5 : I5 (p + 1) sz2 = 28 ∧ I5 (p + 5) sz2 = nI sz ∧ I5 (p + 5) sz = nI sz2 ∧ I5 p 5 = nI (sz2 + 1) ∧ I5 11 4 = nI dp ∧ I5 p 6 = nI ns2 ∧ I5 p 7 = I3 p 7 := by
                      rw [z55 _ (by omega), z55 _ (by omega), z55 _ (by omega), z55 _ (by omega), hIE]
                      simp (disch := omega) only [hu_same, hu_row, hu_at, hu_hu, g4]
                      exact ⟨trivial, trivial, trivial, trivial, trivial, w6, trivial⟩
                    have o5' : ∀ b, b < dp → I5 12 b = I3 12 b := fun b hb => by rw [z55 _ (by omega), iE 12 (by omega) (by omega) (by omega) (by omega), g4 _ (by omega)]
                    refine Or.inl ⟨j2 + 2, r2' + 1, sz2 + 1, ns2, by omega, by omega, by omega, eX4, ⟨⟨o11, o6, r0, r2, r3, o8, o5, o3, ht, hp, hK, hcn⟩, fun i hi => by rw [hu_row _ _ (by omega)]; exact hJ3 i hi, hj4, by omega, z3 h33, n10 h33, s5.2.2.2.1, s5.2.2.2.2.2.1, s5.2.2.2.2.1, q626, wns, by omega, hdp, RN_cg wRN (fun k hk => rfl) (by rw [z55 _ (by omega), iE _ (by omega) (by omega) (by omega) (by omega), g4 _ (by omega)]) (by rw [z55 _ (by omega), iE _ (by omega) (by omega) (by omega) (by omega), g4 _ (by omega)]) (by rw [z55 _ (by omega), iE _ (by omega) (by omega) (by omega) (by omega), g4 _ (by omega)]) (by rw [z2.2.1 _ (by omega), f4.2.1 _ (by omega)]), fun s hs => by rw [hu_at _ _ (by omega)]; exact wcnt s hs⟩, ⟨fun i b h1 h2 h3 => ?_, ?_, fun b hb => ?_⟩, ff + 1, ?_⟩
                    · by_cases gi : i = 5
                      · subst gi; rw [r55 b (by omega) (by omega), v7.1 5 b (by omega) (by omega) (by omega)]; exact fs2.1 5 b (by omega) (by omega) h3
                      · rw [r5 i b h1 (by omega) (fun _ => by omega), v7.1 i b h1 h2 (by omega)]; exact fs2.1 i b h1 h2 h3
                    · rw [s5.2.2.2.2.2.2, v7.2.1]; exact fs2.2.1
                    · rw [o5' b hb, v7.2.2 b (by omega)]; exact fs2.2.2 b hb
                    · have cel : ∀ i, 2 + 9 * ns ≤ i → i < 2 + 9 * ns + 8 → hs_u J3 145 (1725 + 9 * ns + 8) (nI ns2) 145 (1723 + i) = J2 145 (1723 + i) := fun i h1 h2 => by rw [hu_at _ _ (by omega), u3 _ (by omega)]
                      refine Or.inr ⟨by omega, by omega, kj (K j), stOK_cg (a0 := 0) hst cel ⟨?_, ?_, ?_, ?_⟩, Or.inr ⟨hkk, ns2, sz2, ?_, by omega, Nat.le_refl _, by omega, by omega, Sg_cg v8 (fun i h1 h2 => hu_at _ _ (by omega)) (fun i h1 h2 => ⟨r5 1 i (by omega) (by omega) (fun _ => by omega), r5 2 i (by omega) (by omega) (fun q => by omega), r5 3 i (by omega) (by omega) (fun q => by omega), r5 4 i (by omega) (by omega) (fun q => by omega), r55 i (by omega) (by omega)⟩), s5.1, s5.2.1, s5.2.2.1, Sg_rf⟩⟩
                      · rw [r5 1 sz (by omega) (by omega) (fun _ => by omega), v7.1 1 sz (by omega) (by omega) (by omega)]
                      · rw [r5 2 sz (by omega) (by omega) (fun q => by omega), v7.1 2 sz (by omega) (by omega) (by omega)]
                      · rw [r5 3 sz (by omega) (by omega) (fun q => by omega), v7.1 3 sz (by omega) (by omega) (by omega)]
                      · rw [r5 4 sz (by omega) (by omega) (fun q => by omega), v7.1 4 sz (by omega) (by omega) (by omega)]
                      · show hs_u J3 145 (1725 + 9 * ns + 8) (nI ns2) 145 (1723 + (2 + 9 * ns + 8)) = nI ns2
                        rw [show 1723 + (2 + 9 * ns + 8) = 1725 + 9 * ns + 8 by omega, hu_same]
                  · refine Or.inr ⟨_, _, ?_, z5 h33, n11 h33⟩
                    rw [eX2, v5, eX3, hx71 (x := 0) (j := j2) o6 r0 r2 o8 o5 c4.1 hk2 (by omega) (I2 := I5) (L2 := L5) (by rw [e71', if_neg h33]), if_pos rfl]
                · refine ⟨I3, L3, _, q4, l4, fb3, fun k hk => by rw [hu_row _ _ hk]; exact j3k k hk, fun f hf => by rw [hu_at _ _ (by omega)]; exact j3lo f hf, TQ_tr tq3 u4, eM2.trans (u5.trans (m261e o11 v3 hns' (Or.inr rfl)).2.2), Or.inr ⟨c, a, eX2.trans v1, v2, v3⟩⟩
              · rw [if_neg gk] at hdp'
                subst hdp'
                rw [if_neg gk] at hb
                subst hb
                have hkk : kj (K j) ≠ 8 ∧ kj (K j) ≠ 9 := by
                  rcases kj_n (K j) hkj hsw with h | h | h
                  · exact absurd (Or.inl h) gk
                  · exact absurd (Or.inr h) gk
                  · exact h
                refine ⟨I2, L2, hs_u J2 145 (1725 + 9 * ns + 8) (nI (ns + 1)), q3, l3, FB_tr (FB_4 f1) a1, fun k hk => by rw [hu_row _ _ hk]; exact j2k k hk, fun f hf => by rw [hu_at _ _ (by omega)]; exact j2lo f hf, tq3, ?_, Or.inl ⟨p1 + 1, r + 1, sz + 1, ns + 1, by omega, by omega, by omega, eX2, ⟨⟨o11, o6, r0, r2, r3, o8, o5, o3, ht, hp, hK, hcn⟩, fun i hi => by rw [hu_row _ _ (by omega)]; exact hJ2 i hi, hp2, by omega, tC, hM3, fR.2.2.1, fR.2.2.2.1, fR.2.2.2.2.2.1, q326, by omega, by omega, hdp, hRN2, fun s hs => by rw [hu_at _ _ (by omega), j2lo s (by omega)]; exact hcnt s hs⟩, fs2, 1, ?_⟩⟩
                · rw [eM2, b261_142 o11, if_pos rfl, b261_170 o11, if_pos rfl, b261_192 o11, adw8, if_pos (ib_nI (by omega) (by omega)), nI_clamp (by omega), hz_s, q326, show (140 + 5 : Nat) = 145 from rfl, hz_cm _ _ _ (by omega)]
                · exact SgJ_1 (stOK_cg (a0 := 0) hst (fun i h1 h2 => hu_at _ _ (by omega)) ⟨rfl, rfl, rfl, rfl⟩) hkk.1 hkk.2 (hu_same _ _ _ _)
            · refine ⟨I2, L2, _, q3, l3, FB_tr (FB_4 f1) a1, fun k hk => by rw [hu_row _ _ hk]; exact j2k k hk, fun f hf => by rw [hu_at _ _ (by omega)]; exact j2lo f hf, tq3, eM2.trans (m261e o11 (n4 g33) hns' hb01).2.1, Or.inr ⟨_, _, ?_, b6 g33, n4 g33⟩⟩
              rw [eX, hx71 (x := 0) (j := j) o6 r0 r2 o8 o5 c1.1 hkj (by omega) (I2 := I2) (L2 := L2) (by rw [b4, if_neg g33]), if_pos rfl]
          · refine ⟨I2, L2, hs_u J2 145 (1725 + 9 * ns + 8) (q2 26), q2, l2, FB_tr (FB_4 f1) a1, fun k hk => by rw [hu_row _ _ hk]; exact j2k k hk, fun f hf => by rw [hu_at _ _ (by omega)]; exact j2lo f hf, TQ_tr tq1 (TQ_4 a4), ?_, Or.inr ⟨c, a, ?_, b2, b3⟩⟩
            · rw [eM1, a5]
              simp only [Option.bind_some, Option.toList_some, Option.toList_none, List.append_nil, List.cons_append, List.nil_append]
              exact (m261e o11 b3 hns' hb01).1
            · rw [eX, hx71 (x := 0) (j := j) o6 r0 r2 o8 o5 c1.1 hkj (by omega) (I2 := I2) (L2 := L2) b1, if_pos rfl]
    · have hts : stv (K j) = -1 := by
        have : ∀ k, k ≤ 38 → ((17 ≤ k ∧ k ≤ 25) ∨ k = 27 ∨ k = 29 ∨ stv k = -1) := by decide
        rcases this _ hkj with h | h | h | h
        · exact absurd (Or.inl h) hsw
        · exact absurd (Or.inr (Or.inl h)) hsw
        · exact absurd (Or.inr (Or.inr h)) hsw
        · exact h
      obtain ⟨q2, n1, n2, n3, n4⟩ := m222 (scr := scr) (d := dm + 8) (M := M) (J := J) (R := R) o11 hM
      have eM : hs_C scr (dm + 10) 261 [.ref 140, .int (nI dp)] (hs_S0, hs_z J 140 q, hs_z M 140 l, R) = some (none, (hs_S0, hs_z J 140 q2, hs_z M 140 l, R)) := by
        rw [e261, b261_0 o11, m240', hts]
        simp only [Option.bind_some, Option.toList_some, Option.toList_none, List.append_nil, List.cons_append, List.nil_append]
        rw [b261_4, if_neg (by decide), if_neg (by decide), b261_22 o11, if_neg (by decide), n1]
        simp only [Option.bind_some, Option.toList_some, Option.toList_none, List.append_nil, List.cons_append, List.nil_append]
        exact (b83 n2).1
      by_cases g37 : K j = 37
      · have hC2 : CU K A V j (hs_u I1 p 7 0) L1 := by unfold CU; simp (disch := omega) only [hu_row]; exact c1
        obtain ⟨I2, z1, z2, z3, z4⟩ := x47 (scr := scr) (d := d + 8) (c := 2) (R := R') o8 hC2 hkj
        refine bad (FB_tr ⟨fun k a b c e => hu_row _ _ (by omega), fun _ _ => rfl, by rw [hu_row _ _ (by omega)]⟩ (FB_4 z3)) n3 ?_ z2 eM n2
        have hd := h37 g37
        rw [b70_45 o6 r0 o8 r2 o5, c1.1, if_pos (show nI (K j) = 37 by rw [g37]; rfl), g1 _ (by omega), h11, if_neg (nI_ne0 (by omega) (by omega)), b70_73 (o_u0 := o5) (o_t0 := o6) (e_t0_2 := r2) (o_t0_2 := o5) (e_t0_0 := r0) (o_t0_0 := o8), if_pos (Or.inl rfl), hu_same, if_pos rfl, show (2 : Int32) = nI 2 from rfl, z1]
        simp only [Option.bind_some, Option.toList_some, Option.toList_none, List.append_nil, List.cons_append, List.nil_append]
        rw [b70_94, if_pos rfl, b70_102]; rfl
      · obtain ⟨I2, z1, z2, z3, z4⟩ := x47 (scr := scr) (d := d + 7) (c := 2) (R := R') o8 c1 hkj
        by_cases g28 : K j = 28
        · have hd := h28 g28
          obtain ⟨I3, w1, w2, w3, w4⟩ := x47 (scr := scr) (d := d + 6) (c := 2) (R := R') o8 c1 hkj
          refine bad (FB_4 w3) n3 ?_ w2 eM n2
          rw [hx71 (x := 0) (j := j) o6 r0 r2 o8 o5 c1.1 hkj (by omega) (I2 := I3) (L2 := L1) ?_, if_pos rfl]
          rw [e71, b71_0 o6 r0 o8, c1.1, if_pos (show nI (K j) = 28 by rw [g28]; rfl), e72, b72_0 o6 r2 o5 r0 o8, g1 _ (by omega), h11, if_pos (by rw [hd]; decide), b72_19 o6 r0 o8, show (2 : Int32) = nI 2 from rfl, w1]
          simp only [Option.bind_some, Option.toList_some, Option.toList_none, List.append_nil, List.cons_append, List.nil_append]
          rw [b72_27, if_pos (Or.inl rfl)]
          simp only [Option.bind_some, Option.toList_some, Option.toList_none, List.append_nil, List.cons_append, List.nil_append]
          rw [b71_16]; rfl
        · refine bad (FB_4 z3) n3 ?_ z2 eM n2
          rw [hx71 (x := 0) (j := j) o6 r0 r2 o8 o5 c1.1 hkj (by omega) (I2 := I2) (L2 := L1) ?_, if_pos rfl]
          rw [e71, b71_0 o6 r0 o8, c1.1, if_neg (show ¬ nI (K j) = 28 from fun q => g28 ((nI_eq (b := 28) (by omega) (by omega)).mp q)), x73 hkj, if_neg hsw]
          simp only [Option.bind_some, Option.toList_some, Option.toList_none, List.append_nil, List.cons_append, List.nil_append]
          rw [b71_27 o6 r2 o5 r0 o8, if_pos rfl, show (2 : Int32) = nI 2 from rfl, z1]
          simp only [Option.bind_some, Option.toList_some, Option.toList_none, List.append_nil, List.cons_append, List.nil_append]
          rw [b71_38]; rfl
end R4
