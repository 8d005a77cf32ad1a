/-! the relation between the class's rows and the reference's -/
theorem hu_at {α : Type} (m : Nat → Nat → α) {k f a b : Nat} (x : α) (h : ¬ (a = k ∧ b = f)) : hs_u m k f x a b = m a b := by unfold hs_u; exact if_neg h
def up {α : Type} (c : Nat → α) (b : Nat) (v : α) : Nat → α := fun i => if i = b then v else c i
theorem up_s {α : Type} (c : Nat → α) (b : Nat) (v : α) : up c b v b = v := if_pos rfl
theorem up_n {α : Type} (c : Nat → α) {b i : Nat} (v : α) (h : i ≠ b) : up c b v i = c i := if_neg h
theorem hu_up {α : Type} (m : Nat → Nat → α) (k f : Nat) (x : α) : hs_u m k f x k = up (m k) f x := by funext b; simp [hs_u, up]
def bd (x : Int32) (m : Nat) : Prop := ∃ j, j ≤ m ∧ x = nI j
def RH (n : Nat) (c : Nat → Int32) (I : Nat → Nat → Int32) (t : Nat) : Prop := n ≤ 8 ∧ c 0 = nI n ∧ I (t + 5) 4 = nI n ∧ ∀ k, k < n → I (t + 6) k = c (10 + k) ∧ I (t + 7) k = c (18 + k) ∧ I (t + 8) k = c (26 + k) ∧ I (t + 9) k = c (34 + k) ∧ bd (c (10 + k)) 99 ∧ bd (c (18 + k)) 9 ∧ bd (c (26 + k)) 2 ∧ bd (c (34 + k)) 99
def RP (np : Nat) (c : Nat → Int32) (I : Nat → Nat → Int32) (t : Nat) : Prop := np ≤ 5 ∧ c 1 = nI np ∧ I t 8 = nI np ∧ ∀ k, k < np → I (t + 10) k = c (42 + k) ∧ I (t + 11) k = c (47 + k) ∧ bd (c (42 + k)) 99 ∧ c (42 + k) ≠ 0 ∧ bd (c (47 + k)) 99
def RU (nr : Nat) (c : Nat → Int32) (I : Nat → Nat → Int32) (t : Nat) : Prop := nr ≤ 6 ∧ c 2 = nI nr ∧ I t 9 = nI nr ∧ (∀ k, k < nr → I (t + 12) k = c (52 + k) ∧ bd (c (52 + k)) 9) ∧ ∃ ru, c 58 = nI ru ∧ ((nr = 0 ∧ ru = 0 ∧ I t 17 = -1) ∨ (ru < nr ∧ I t 17 = nI ru))
def RLk (n nl : Nat) (c : Nat → Int32) (I : Nat → Nat → Int32) (t : Nat) : Prop := nl ≤ 6 ∧ c 3 = nI nl ∧ I t 10 = nI nl ∧ ∀ l k, l < 6 → k < 8 → (k < n → I (t + 13) (l * 8 + k) = c (59 + 8 * l + k) ∧ bd (c (59 + 8 * l + k)) 3) ∧ (n ≤ k → I (t + 13) (l * 8 + k) = 3)
def RB (nb nq : Nat) (c : Nat → Int32) (I : Nat → Nat → Int32) (t : Nat) : Prop := nb ≤ 6 ∧ nq ≤ 10 ∧ c 4 = nI nb ∧ I t 11 = nI nb ∧ c 5 = nI nq ∧ I t 12 = nI nq ∧ ∀ k, k < nq → I (t + 14) k = c (107 + k) ∧ I (t + 15) k = c (117 + k) ∧ (∃ j, j < nb ∧ c (107 + k) = nI j) ∧ (∃ j, j < nb ∧ c (117 + k) = nI j)
def RD (c : Nat → Int32) (I : Nat → Nat → Int32) (t : Nat) : Prop := (I t 13 = c 6 ∧ bd (c 6) 16) ∧ (I t 14 = c 7 ∧ ∃ g, 1 ≤ g ∧ g ≤ 99 ∧ c 7 = nI g) ∧ (I t 15 = c 8 ∧ bd (c 8) 9999) ∧ (I t 16 = c 9 ∧ (c 9 = 0 ∨ c 9 = 1))
/-- a row as far as it goes -/
def rs {α : Type} (z : α) (b : Nat) (f : Nat → α) : Nat → α := fun k => if k < b then f k else z
theorem rs_cg {α : Type} {z : α} {b : Nat} {f f' : Nat → α} (h : ∀ k, k < b → f' k = f k) : rs z b f' = rs z b f := by
  funext k; unfold rs; by_cases hk : k < b
  · rw [if_pos hk, if_pos hk, h k hk]
  · rw [if_neg hk, if_neg hk]
def nf (s : Nat) : Nat := if s = 0 then 0 else if s = 1 then 8 else 6 * s + 1
def kd (s : Nat) : Int32 := if s = 0 then 2 else if s = 1 then 9 else if s = 2 then 12 else if s = 3 then 14 else 15
def sl5 (a b c d e : Nat) (s : Nat) : Nat := if s = 0 then a else if s = 1 then b else if s = 2 then c else if s = 3 then d else e
def RN0 (cn : Nat → Nat) (w : Nat → Int64) (mv : Int32) (K N : Nat → Int32) (Y : Nat → Int64) : Prop := ∃ m, m ≤ 31 ∧ mv = nI m ∧ (∀ i, i < m → ∃ s k, s < 5 ∧ k < cn s ∧ Y i = w (nf s + k) ∧ Y i ≠ 0 ∧ K i = kd s ∧ N i = nI k) ∧ (∀ s k, s < 5 → k < cn s → w (nf s + k) ≠ 0 → ∃ i, i < m ∧ Y i = w (nf s + k) ∧ K i = kd s ∧ N i = nI k) ∧ (∀ i j, i < m → j < m → Y i = Y j → i = j)
def RN (cn : Nat → Nat) (w : Nat → Int64) (I : Nat → Nat → Int32) (L : Nat → Nat → Int64) (t : Nat) : Prop := RN0 cn (rs 0 31 w) (I (t + 1) 3) (rs 0 31 (I (t + 3))) (rs 0 31 (I (t + 4))) (rs 0 31 (L (t + 2)))
/-- a step's word, by its kind -/
def kw (k : Nat) : Int32 := if k = 9 then 27 else if k = 10 then 29 else nI (17 + k)
/-- the step at g's place a and the row r tell the same -/
def stOK (n nl : Nat) (g : Nat → Int32) (P1 P2 P3 P4 : Nat → Int32) (a r k : Nat) : Prop := k ≤ 10 ∧ g a = nI k ∧ P1 r = kw k ∧
  (k = 0 → P4 r = g (a + 1) ∧ ∃ v, 1 ≤ v ∧ v ≤ 20 ∧ g (a + 1) = nI v) ∧
  (3 ≤ k ∧ k ≤ 5 → P3 r = g (a + 1) ∧ (∃ h, h < n ∧ g (a + 1) = nI h) ∧ P4 r = g (a + 2) ∧ bd (g (a + 2)) 99) ∧
  (k = 9 → P4 r = g (a + 1) ∧ ∃ v, 1 ≤ v ∧ v ≤ 99 ∧ g (a + 1) = nI v) ∧
  (k = 8 → (g (a + 6) = 2 ∧ P2 r = 18) ∨ (g (a + 6) = 0 ∧ P2 r = 26 ∧ P3 r = g (a + 1) ∧ ∃ l, l < nl ∧ g (a + 1) = nI l) ∨ (g (a + 6) = 1 ∧ P3 r = g (a + 1) ∧ (∃ h, h < n ∧ g (a + 1) = nI h) ∧ P4 r = g (a + 2) ∧ bd (g (a + 2)) 99 ∧ ((g (a + 7) = 60 ∧ P2 r = 34) ∨ (g (a + 7) = 62 ∧ P2 r = 35) ∨ (g (a + 7) = 61 ∧ P2 r = 36))))
/-- steps s to e stand in rows r to q -/
def Sg (n nl : Nat) (g : Nat → Int32) (P1 P2 P3 P4 P5 : Nat → Int32) : Nat → Nat → Nat → Nat → Nat → Prop
  | 0, s, e, r, q => s = e ∧ r = q
  | f + 1, s, e, r, q => (s = e ∧ r = q) ∨ (s < e ∧ r < q ∧ ∃ k, stOK n nl g P1 P2 P3 P4 (2 + 9 * s) r k ∧ ((k ≠ 8 ∧ k ≠ 9 ∧ g (2 + 9 * s + 8) = nI (s + 1) ∧ Sg n nl g P1 P2 P3 P4 P5 f (s + 1) e (r + 1) q) ∨ ((k = 8 ∨ k = 9) ∧ ∃ e' q', g (2 + 9 * s + 8) = nI e' ∧ s < e' ∧ e' ≤ e ∧ r < q' ∧ q' < q ∧ Sg n nl g P1 P2 P3 P4 P5 f (s + 1) e' (r + 1) q' ∧ P1 q' = 28 ∧ P5 q' = nI r ∧ P5 r = nI q' ∧ Sg n nl g P1 P2 P3 P4 P5 f e' e (q' + 1) q)))
def RG0 (n nl : Nat) (g : Nat → Int32) (p5 p6 p7 : Int32) (P1 P2 P3 P4 P5 : Nat → Int32) : Prop := p7 = g 0 ∧ (g 0 = 0 ∨ (g 0 = 1 ∧ ∃ ns sz, ns ≤ 30 ∧ sz ≤ 60 ∧ g 1 = nI ns ∧ p6 = nI ns ∧ p5 = nI sz ∧ Sg n nl g P1 P2 P3 P4 P5 31 0 ns 0 sz))
def RG (n nl : Nat) (c : Nat → Int32) (I : Nat → Nat → Int32) (p : Nat) : Prop := RG0 n nl (rs 0 272 (fun k => c (127 + k))) (I p 5) (I p 6) (I p 7) (rs 0 60 (I (p + 1))) (rs 0 60 (I (p + 2))) (rs 0 60 (I (p + 3))) (rs 0 60 (I (p + 4))) (rs 0 60 (I (p + 5)))
theorem Sg_n {n n' nl : Nat} {g : Nat → Int32} {P1 P2 P3 P4 P5 : Nat → Int32} (hn : n ≤ n') : ∀ {f s e r q : Nat}, Sg n nl g P1 P2 P3 P4 P5 f s e r q → Sg n' nl g P1 P2 P3 P4 P5 f s e r q
  | 0, _, _, _, _, h => h
  | f + 1, s, e, r, q, h => by
    rcases h with h | ⟨h1, h2, k, ⟨a1, a2, a3, a4, a5, a6, a7⟩, h4⟩
    · exact Or.inl h
    · refine Or.inr ⟨h1, h2, k, ⟨a1, a2, a3, a4, fun q => ?_, a6, fun q => ?_⟩, ?_⟩
      · obtain ⟨b1, ⟨h, b2, b3⟩, b4⟩ := a5 q
        exact ⟨b1, ⟨h, by omega, b3⟩, b4⟩
      · rcases a7 q with b | b | ⟨b1, b2, ⟨h, b3, b4⟩, b5⟩
        · exact Or.inl b
        · exact Or.inr (Or.inl b)
        · exact Or.inr (Or.inr ⟨b1, b2, ⟨h, by omega, b4⟩, b5⟩)
      · rcases h4 with ⟨c1, c2, c3, c4⟩ | ⟨c1, e', q', c2, c3, c4, c5, c6, c7, c8, c9, c10, c11⟩
        · exact Or.inl ⟨c1, c2, c3, Sg_n hn c4⟩
        · exact Or.inr ⟨c1, e', q', c2, c3, c4, c5, c6, Sg_n hn c7, c8, c9, c10, Sg_n hn c11⟩
def RX (n np nr nl nb nq : Nat) (c : Nat → Int32) (w : Nat → Int64) (I : Nat → Nat → Int32) (L : Nat → Nat → Int64) (t p : Nat) : Prop :=
  RH n c I t ∧ RP np c I t ∧ RU nr c I t ∧ RLk n nl c I t ∧ RB nb nq c I t ∧ RD c I t ∧ RN (sl5 n np nr nl nb) w I L t ∧ RG n nl c I p
section RX
variable {n np nr nl nb nq t p t' p' : Nat} {c c' : Nat → Int32} {w w' : Nat → Int64} {I I' : Nat → Nat → Int32} {L L' : Nat → Nat → Int64} {R R' : Nat → Nat → Nat}
theorem RH_cg (h : RH n c I t) (hc : ∀ k, k = 0 ∨ (10 ≤ k ∧ k < 42) → c' k = c k) (h5 : I' (t' + 5) 4 = I (t + 5) 4) (h6 : I' (t' + 6) = I (t + 6)) (h7 : I' (t' + 7) = I (t + 7)) (h8 : I' (t' + 8) = I (t + 8)) (h9 : I' (t' + 9) = I (t + 9)) : RH n c' I' t' := by
  obtain ⟨a1, a2, a3, a4⟩ := h
  refine ⟨a1, (hc 0 (by omega)).trans a2, by rw [h5]; exact a3, fun k hk => ?_⟩
  rw [h6, h7, h8, h9, hc (10 + k) (by omega), hc (18 + k) (by omega), hc (26 + k) (by omega), hc (34 + k) (by omega)]
  exact a4 k hk
theorem RP_cg (h : RP np c I t) (hc : ∀ k, k = 1 ∨ (42 ≤ k ∧ k < 52) → c' k = c k) (h0 : I' t' 8 = I t 8) (h6 : I' (t' + 10) = I (t + 10)) (h7 : I' (t' + 11) = I (t + 11)) : RP np c' I' t' := by
  obtain ⟨a1, a2, a3, a4⟩ := h
  refine ⟨a1, (hc 1 (by omega)).trans a2, by rw [h0]; exact a3, fun k hk => ?_⟩
  rw [h6, h7, hc (42 + k) (by omega), hc (47 + k) (by omega)]
  exact a4 k hk
theorem RU_cg (h : RU nr c I t) (hc : ∀ k, k = 2 ∨ (52 ≤ k ∧ k < 59) → c' k = c k) (h0 : I' t' 9 = I t 9) (h1 : I' t' 17 = I t 17) (h6 : I' (t' + 12) = I (t + 12)) : RU nr c' I' t' := by
  obtain ⟨a1, a2, a3, a4, a5⟩ := h
  refine ⟨a1, (hc 2 (by omega)).trans a2, by rw [h0]; exact a3, fun k hk => ?_, ?_⟩
  · rw [h6, hc (52 + k) (by omega)]
    exact a4 k hk
  · rw [hc 58 (by omega), h1]; exact a5
theorem RLk_cg (h : RLk n nl c I t) (hc : ∀ k, k = 3 ∨ (59 ≤ k ∧ k < 107) → c' k = c k) (h0 : I' t' 10 = I t 10) (h6 : I' (t' + 13) = I (t + 13)) : RLk n nl c' I' t' := by
  obtain ⟨a1, a2, a3, a4⟩ := h
  refine ⟨a1, (hc 3 (by omega)).trans a2, by rw [h0]; exact a3, fun l k hl hk => ?_⟩
  rw [h6, hc (59 + 8 * l + k) (by omega)]
  exact a4 l k hl hk
theorem RB_cg (h : RB nb nq c I t) (hc : ∀ k, k = 4 ∨ k = 5 ∨ (107 ≤ k ∧ k < 127) → c' k = c k) (h0 : I' t' 11 = I t 11) (h1 : I' t' 12 = I t 12) (h6 : I' (t' + 14) = I (t + 14)) (h7 : I' (t' + 15) = I (t + 15)) : RB nb nq c' I' t' := by
  obtain ⟨a1, a2, a3, a4, a5, a6, a7⟩ := h
  refine ⟨a1, a2, (hc 4 (by omega)).trans a3, by rw [h0]; exact a4, (hc 5 (by omega)).trans a5, by rw [h1]; exact a6, fun k hk => ?_⟩
  rw [h6, h7, hc (107 + k) (by omega), hc (117 + k) (by omega)]
  exact a7 k hk
theorem RD_cg (h : RD c I t) (hc : ∀ k, 6 ≤ k ∧ k < 10 → c' k = c k) (h0 : I' t' 13 = I t 13) (h1 : I' t' 14 = I t 14) (h2 : I' t' 15 = I t 15) (h3 : I' t' 16 = I t 16) : RD c' I' t' := by
  unfold RD at h ⊢
  rw [h0, h1, h2, h3, hc 6 (by omega), hc 7 (by omega), hc 8 (by omega), hc 9 (by omega)]
  exact h
theorem RN_cg {cn : Nat → Nat} (h : RN cn w I L t) (hw : ∀ k, k < 31 → w' k = w k) (h1 : I' (t' + 1) 3 = I (t + 1) 3) (h3 : I' (t' + 3) = I (t + 3)) (h4 : I' (t' + 4) = I (t + 4)) (hL : L' (t' + 2) = L (t + 2)) : RN cn w' I' L' t' := by
  unfold RN at h ⊢
  rw [rs_cg hw, h1, h3, h4, hL]; exact h
theorem RG_cg (h : RG n nl c I p) (hc : ∀ k, 127 ≤ k → k < 399 → c' k = c k) (h0 : I' p' = I p) (h1 : I' (p' + 1) = I (p + 1)) (h2 : I' (p' + 2) = I (p + 2)) (h3 : I' (p' + 3) = I (p + 3)) (h4 : I' (p' + 4) = I (p + 4)) (h5 : I' (p' + 5) = I (p + 5)) : RG n nl c' I' p' := by
  unfold RG at h ⊢
  rw [rs_cg (f := fun k => c (127 + k)) (f' := fun k => c' (127 + k)) (fun k hk => hc _ (by omega) (by omega)), h0, h1, h2, h3, h4, h5]; exact h
theorem RG_n {n' : Nat} (h : RG n nl c I p) (hn : n ≤ n') : RG n' nl c I p := by
  obtain ⟨h1, h2⟩ := h
  refine ⟨h1, h2.elim Or.inl fun ⟨h3, ns, sz, a1, a2, a3, a4, a5, a6⟩ => Or.inr ⟨h3, ns, sz, a1, a2, a3, a4, a5, Sg_n hn a6⟩⟩
/-- as far as the rows go -/
theorem RX_cb (h : RX n np nr nl nb nq c w I L t p) (hc : ∀ k, k < 399 → c' k = c k) (hw : ∀ k, k < 31 → w' k = w k)
    (hI : ∀ o b, (o = 0 ∧ 8 ≤ b ∧ b < 18) ∨ (o = 1 ∧ b = 3) ∨ ((o = 3 ∨ o = 4) ∧ b < 31) ∨ (o = 5 ∧ b = 4) ∨ (6 ≤ o ∧ o ≤ 9 ∧ b < 8) ∨ ((o = 10 ∨ o = 11) ∧ b < 5) ∨ (o = 12 ∧ b < 6) ∨ (o = 13 ∧ b < 48) ∨ ((o = 14 ∨ o = 15) ∧ b < 10) → I' (t' + o) b = I (t + o) b) (hL : ∀ b, b < 31 → L' (t' + 2) b = L (t + 2) b) (hP : ∀ o b, (o = 0 ∧ 5 ≤ b ∧ b ≤ 7) ∨ (1 ≤ o ∧ o ≤ 5 ∧ b < 60) → I' (p' + o) b = I (p + o) b) : RX n np nr nl nb nq c' w' I' L' t' p' := by
  obtain ⟨a1, a2, a3, a4, a5, a6, a7, a8⟩ := h
  have h0 : ∀ f, 8 ≤ f → f < 18 → I' t' f = I t f := fun f h1 h2 => hI 0 f (by omega)
  refine ⟨?_, ?_, ?_, ?_, ?_, ?_, ?_, ?_⟩
  · obtain ⟨b1, b2, b3, b4⟩ := a1
    refine ⟨b1, (hc 0 (by omega)).trans b2, (hI 5 4 (by omega)).trans b3, fun k hk => ?_⟩
    rw [hI 6 k (by omega), hI 7 k (by omega), hI 8 k (by omega), hI 9 k (by omega), hc (10 + k) (by omega), hc (18 + k) (by omega), hc (26 + k) (by omega), hc (34 + k) (by omega)]
    exact b4 k hk
  · obtain ⟨b1, b2, b3, b4⟩ := a2
    refine ⟨b1, (hc 1 (by omega)).trans b2, (h0 8 (by omega) (by omega)).trans b3, fun k hk => ?_⟩
    rw [hI 10 k (by omega), hI 11 k (by omega), hc (42 + k) (by omega), hc (47 + k) (by omega)]
    exact b4 k hk
  · obtain ⟨b1, b2, b3, b4, b5⟩ := a3
    refine ⟨b1, (hc 2 (by omega)).trans b2, (h0 9 (by omega) (by omega)).trans b3, fun k hk => ?_, ?_⟩
    · rw [hI 12 k (by omega), hc (52 + k) (by omega)]; exact b4 k hk
    · rw [hc 58 (by omega), h0 17 (by omega) (by omega)]; exact b5
  · obtain ⟨b1, b2, b3, b4⟩ := a4
    refine ⟨b1, (hc 3 (by omega)).trans b2, (h0 10 (by omega) (by omega)).trans b3, fun l k hl hk => ?_⟩
    rw [hI 13 (l * 8 + k) (by omega), hc (59 + 8 * l + k) (by omega)]
    exact b4 l k hl hk
  · obtain ⟨b1, b2, b3, b4, b5, b6, b7⟩ := a5
    refine ⟨b1, b2, (hc 4 (by omega)).trans b3, (h0 11 (by omega) (by omega)).trans b4, (hc 5 (by omega)).trans b5, (h0 12 (by omega) (by omega)).trans b6, fun k hk => ?_⟩
    rw [hI 14 k (by omega), hI 15 k (by omega), hc (107 + k) (by omega), hc (117 + k) (by omega)]
    exact b7 k hk
  · exact RD_cg a6 (fun k hk => hc k (by omega)) (h0 _ (by omega) (by omega)) (h0 _ (by omega) (by omega)) (h0 _ (by omega) (by omega)) (h0 _ (by omega) (by omega))
  · unfold RN at a7 ⊢
    rw [rs_cg hw, hI 1 3 (by omega), rs_cg (fun k hk => hI 3 k (by omega)), rs_cg (fun k hk => hI 4 k (by omega)), rs_cg (fun k hk => hL k hk)]; exact a7
  · have hp : ∀ f, 5 ≤ f → f ≤ 7 → I' p' f = I p f := fun f h1 h2 => hP 0 f (by omega)
    unfold RG at a8 ⊢
    rw [rs_cg (f := fun k => c (127 + k)) (f' := fun k => c' (127 + k)) (fun k hk => hc _ (by omega)), hp 5 (by omega) (by omega), hp 6 (by omega) (by omega), hp 7 (by omega) (by omega), rs_cg (fun k hk => hP 1 k (by omega)), rs_cg (fun k hk => hP 2 k (by omega)), rs_cg (fun k hk => hP 3 k (by omega)), rs_cg (fun k hk => hP 4 k (by omega)), rs_cg (fun k hk => hP 5 k (by omega))]
    exact a8
theorem RX_cg (h : RX n np nr nl nb nq c w I L t p) (hc : ∀ k, k < 399 → c' k = c k) (hw : ∀ k, k < 31 → w' k = w k) (hI : ∀ o, o < 16 → I' (t' + o) = I (t + o)) (hL : L' (t' + 2) = L (t + 2)) (hP : ∀ o, o < 6 → I' (p' + o) = I (p + o)) : RX n np nr nl nb nq c' w' I' L' t' p' := by
  obtain ⟨a1, a2, a3, a4, a5, a6, a7, a8⟩ := h
  have h0 : I' t' = I t := hI 0 (by omega)
  have p0 : I' p' = I p := hP 0 (by omega)
  have hj : ∀ f, I' t' f = I t f := fun f => by rw [h0]
  exact ⟨RH_cg a1 (fun k hk => hc k (by omega)) (by rw [hI 5 (by omega)]) (hI 6 (by omega)) (hI 7 (by omega)) (hI 8 (by omega)) (hI 9 (by omega)), RP_cg a2 (fun k hk => hc k (by omega)) (hj _) (hI 10 (by omega)) (hI 11 (by omega)), RU_cg a3 (fun k hk => hc k (by omega)) (hj _) (hj _) (hI 12 (by omega)), RLk_cg a4 (fun k hk => hc k (by omega)) (hj _) (hI 13 (by omega)), RB_cg a5 (fun k hk => hc k (by omega)) (hj _) (hj _) (hI 14 (by omega)) (hI 15 (by omega)), RD_cg a6 (fun k hk => hc k (by omega)) (hj _) (hj _) (hj _) (hj _), RN_cg a7 hw (by rw [hI 1 (by omega)]) (hI 3 (by omega)) (hI 4 (by omega)) hL, RG_cg a8 (fun k _ hk => hc k hk) p0 (hP 1 (by omega)) (hP 2 (by omega)) (hP 3 (by omega)) (hP 4 (by omega)) (hP 5 (by omega))⟩
def Env (R : Nat → Nat → Nat) (rt st pt qt : Nat) : Prop := Rc R ∧ R 2 8 = rt ∧ R 2 9 = st ∧ R 2 10 = pt ∧ R 2 11 = qt ∧ ((rt = 18 ∧ st = 34) ∨ (rt = 34 ∧ st = 18)) ∧ ((pt = 50 ∧ qt = 56) ∨ (pt = 56 ∧ qt = 50))
def Tr (I : Nat → Nat → Int32) (L : Nat → Nat → Int64) : Prop := ∀ j, j < 4 → I (66 + 2 * j) 1 = I 141 j ∧ bd (I 141 j) 3 ∧ I (66 + 2 * j) 2 = I 142 j ∧ (I 142 j = -1 ∨ ∃ m, m ≤ 60 ∧ I 142 j = nI m ∧ ∀ k, k < m → L (67 + 2 * j) k = L 143 (60 * j + k))
def hs_W0 : List Int64 := [495763, 7935795, 263474, 408362632, 7945971, 688, 208948, 147182, 177873074, 16829081, 20088467, 24165011, 19574962, 12592, 409067, 68749490, 525618, 4153, 16942181, 23602, 23608, 674093, 736901, 263620, 1497, 762030, 20201203, 409072, 5572, 643568]
def Tx (I : Nat → Nat → Int32) (L : Nat → Nat → Int64) : Prop := (∃ ts, ts ≤ 900 ∧ I 4 5 = nI ts ∧ I 140 8 = nI ts ∧ ∀ i, i < ts → I 5 i = I 144 i ∧ (I 144 i).toInt8.toInt32 = I 144 i) ∧ I 4 11 = I 140 10 ∧ I 4 12 = I 140 11 ∧ ∀ j, j < 30 → L 6 j = hs_W0.getD j 0
def Ms (I : Nat → Nat → Int32) (L : Nat → Nat → Int64) : Prop := I 2 16 = I 140 0 ∧ L 2 17 = L 140 2 ∧ L 2 18 = L 140 3 ∧ I 2 14 = I 140 31 ∧ (I 140 31 = 0 ∨ (I 140 31 = 1 ∧ I 62 1 = I 151 0 ∧ I 62 2 = I 151 1 ∧ I 62 3 = I 151 2 ∧ I 62 4 = I 151 3 ∧ I 62 5 = I 151 4 ∧ (I 151 4 = 0 ∨ I 151 4 = 1)))
def Mk (I : Nat → Nat → Int32) (L : Nat → Nat → Int64) : Prop := ∃ m, m ≤ 3 ∧ I 2 15 = nI m ∧ I 140 24 = nI m ∧ ∀ i, i < m → ∃ n np nr nl nb nq, RX n np nr nl nb nq (fun k => I 145 (399 * (i + 1) + k)) (fun k => L 148 (31 * (i + 1) + k)) I L (74 + 22 * i) (90 + 22 * i)
def RelA (rt st pt qt n np nr nl nb nq : Nat) (I : Nat → Nat → Int32) (L : Nat → Nat → Int64) (R : Nat → Nat → Nat) : Prop := Env R rt st pt qt ∧ RX n np nr nl nb nq (I 145) (L 148) I L rt pt ∧ Tr I L ∧ Tx I L ∧ Ms I L ∧ Mk I L
def Rel (I : Nat → Nat → Int32) (L : Nat → Nat → Int64) (R : Nat → Nat → Nat) : Prop := ∃ rt st pt qt n np nr nl nb nq, RelA rt st pt qt n np nr nl nb nq I L R
theorem Rel_ok (h : Rel I L R) : ok10 hs_S0 R 2 ∧ ok11 hs_S0 R 140 := by
  obtain ⟨_, _, _, _, _, _, _, _, _, _, h, _⟩ := h
  exact ⟨k10_2 h.1, k11_140 h.1⟩
theorem Env_4 {rt st pt qt : Nat} (h : Env R rt st pt qt) : ok4 hs_S0 R rt := by
  obtain ⟨h, -, -, -, -, h1, -⟩ := h
  rcases h1 with ⟨rfl, -⟩ | ⟨rfl, -⟩
  · exact k4_18 h
  · exact k4_34 h
theorem Env_4s {rt st pt qt : Nat} (h : Env R rt st pt qt) : ok4 hs_S0 R st := by
  obtain ⟨h, -, -, -, -, h1, -⟩ := h
  rcases h1 with ⟨-, rfl⟩ | ⟨-, rfl⟩
  · exact k4_34 h
  · exact k4_18 h
theorem Env_5 {rt st pt qt : Nat} (h : Env R rt st pt qt) : ok5 hs_S0 R pt := by
  obtain ⟨h, -, -, -, -, -, h1⟩ := h
  rcases h1 with ⟨rfl, -⟩ | ⟨rfl, -⟩
  · exact k5_50 h
  · exact k5_56 h
theorem Env_5s {rt st pt qt : Nat} (h : Env R rt st pt qt) : ok5 hs_S0 R qt := by
  obtain ⟨h, -, -, -, -, -, h1⟩ := h
  rcases h1 with ⟨-, rfl⟩ | ⟨-, rfl⟩
  · exact k5_56 h
  · exact k5_50 h
theorem Tr_cg (h : Tr I L) (hI : ∀ j, j < 4 → I' (66 + 2 * j) = I (66 + 2 * j)) (hL : ∀ j, j < 4 → L' (67 + 2 * j) = L (67 + 2 * j)) (h1 : I' 141 = I 141) (h2 : I' 142 = I 142) (h3 : L' 143 = L 143) : Tr I' L' := by
  intro j hj
  rw [hI j hj, hL j hj, h1, h2, h3]
  exact h j hj
theorem Tx_cg (h : Tx I L) (a1 : I' 4 5 = I 4 5) (a2 : I' 140 8 = I 140 8) (a3 : I' 5 = I 5) (a4 : I' 144 = I 144) (a5 : I' 4 11 = I 4 11) (a6 : I' 140 10 = I 140 10) (a7 : I' 4 12 = I 4 12) (a8 : I' 140 11 = I 140 11) (a9 : L' 6 = L 6) : Tx I' L' := by
  unfold Tx at h ⊢
  rw [a1, a2, a3, a4, a5, a6, a7, a8, a9]; exact h
theorem Ms_cg (h : Ms I L) (a0 : I' 2 16 = I' 140 0) (a1 : L' 2 17 = L' 140 2) (a2 : L' 2 18 = L' 140 3) (a3 : I' 2 14 = I 2 14) (a4 : I' 140 31 = I 140 31) (a5 : I' 62 = I 62) (a6 : I' 151 = I 151) : Ms I' L' := by
  unfold Ms at h ⊢
  rw [a3, a4, a5, a6]
  exact ⟨a0, a1, a2, h.2.2.2⟩
theorem Mk_cg (h : Mk I L) (a1 : I' 2 15 = I 2 15) (a2 : I' 140 24 = I 140 24) (hI : ∀ k, 74 ≤ k → k < 140 → I' k = I k) (hL : ∀ k, 74 ≤ k → k < 140 → L' k = L k) (hc : ∀ k, 399 ≤ k → k < 1596 → I' 145 k = I 145 k) (hw : ∀ k, 31 ≤ k → k < 124 → L' 148 k = L 148 k) : Mk I' L' := by
  obtain ⟨m, h1, h2, h3, h4⟩ := h
  refine ⟨m, h1, a1.trans h2, a2.trans h3, fun i hi => ?_⟩
  obtain ⟨n, np, nr, nl, nb, nq, h⟩ := h4 i hi
  refine ⟨n, np, nr, nl, nb, nq, RX_cg h (fun k hk => hc _ (by omega) (by omega)) (fun k hk => hw _ (by omega) (by omega)) (fun o ho => hI _ (by omega) (by omega)) (hL _ (by omega) (by omega)) (fun o ho => hI _ (by omega) (by omega))⟩
/-- what a call may touch and leave the relation as it was: scratch rows, the status -/
theorem Rel_fr {rt st pt qt : Nat} (h : RelA rt st pt qt n np nr nl nb nq I L R) (hE : Env R' rt st pt qt)
    (hI : ∀ k, k = 5 ∨ (rt ≤ k ∧ k < rt + 16) ∨ (pt ≤ k ∧ k < pt + 6) ∨ k = 62 ∨ (66 ≤ k ∧ k < 140) ∨ k = 141 ∨ k = 142 ∨ k = 144 ∨ k = 151 → I' k = I k)
    (hL : ∀ k, k = 6 ∨ k = rt + 2 ∨ (66 ≤ k ∧ k < 140) ∨ k = 143 → L' k = L k)
    (hc : ∀ k, k < 1596 → I' 145 k = I 145 k) (hw : ∀ k, k < 124 → L' 148 k = L 148 k)
    (f1 : I' 4 5 = I 4 5) (f2 : I' 140 8 = I 140 8) (f3 : I' 4 11 = I 4 11) (f4 : I' 140 10 = I 140 10) (f5 : I' 4 12 = I 4 12) (f6 : I' 140 11 = I 140 11)
    (f7 : I' 2 16 = I' 140 0) (f8 : L' 2 17 = L' 140 2) (f9 : L' 2 18 = L' 140 3) (f10 : I' 2 14 = I 2 14) (f11 : I' 140 31 = I 140 31) (f12 : I' 2 15 = I 2 15) (f13 : I' 140 24 = I 140 24) : RelA rt st pt qt n np nr nl nb nq I' L' R' := by
  obtain ⟨h0, h1, h2, h3, h4, h5⟩ := h
  exact ⟨hE, RX_cg h1 (fun k hk => hc k (by omega)) (fun k hk => hw k (by omega)) (fun o ho => hI _ (by omega)) (hL _ (by omega)) (fun o ho => hI _ (by omega)), Tr_cg h2 (fun j hj => hI _ (by omega)) (fun j hj => hL _ (by omega)) (hI _ (by omega)) (hI _ (by omega)) (hL _ (by omega)), Tx_cg h3 f1 f2 (hI _ (by omega)) (hI _ (by omega)) f3 f4 f5 f6 (hL _ (by omega)), Ms_cg h4 f7 f8 f9 f10 f11 (hI _ (by omega)) (hI _ (by omega)), Mk_cg h5 f12 f13 (fun k h1 h2 => hI _ (by omega)) (fun k h1 h2 => hL _ (by omega)) (fun k h1 h2 => hc k (by omega)) (fun k h1 h2 => hw k (by omega))⟩
/-- only the status (and the word 'thrown') -/
theorem Rel_st {rt st pt qt : Nat} (h : RelA rt st pt qt n np nr nl nb nq I L R) (hI : ∀ k, k ≠ 2 → k ≠ 140 → I' k = I k) (h2 : ∀ f, f ≠ 16 → I' 2 f = I 2 f) (h3 : ∀ f, f ≠ 0 → f ≠ 1 → I' 140 f = I 140 f) (hs : I' 2 16 = I' 140 0) : Rel I' L R := by
  have hm := h.2.2.2.2.1
  have he := h.1.2.2.2.2.2
  exact ⟨rt, st, pt, qt, n, np, nr, nl, nb, nq, Rel_fr h h.1 (fun k hk => hI k (by omega) (by omega)) (fun k _ => rfl) (fun k _ => by rw [hI 145 (by omega) (by omega)]) (fun k _ => rfl) (by rw [hI 4 (by omega) (by omega)]) (h3 8 (by omega) (by omega)) (by rw [hI 4 (by omega) (by omega)]) (h3 10 (by omega) (by omega)) (by rw [hI 4 (by omega) (by omega)]) (h3 11 (by omega) (by omega)) hs hm.2.1 hm.2.2.1 (h2 14 (by omega)) (h3 31 (by omega) (by omega)) (h2 15 (by omega)) (h3 24 (by omega) (by omega))⟩
/-- the realm itself, and the status -/
theorem Rel_rx {rt st pt qt n' np' nr' nl' nb' nq' : Nat} (h : RelA rt st pt qt n np nr nl nb nq I L R) (hX : RX n' np' nr' nl' nb' nq' (I' 145) (L' 148) I' L' rt pt) (hI : ∀ k, k ≠ 2 → k ≠ 140 → k ≠ 145 → (k < rt ∨ rt + 16 ≤ k) → (k < pt ∨ pt + 6 ≤ k) → I' k = I k) (hL : ∀ k, k ≠ 148 → k ≠ rt + 2 → L' k = L k) (h2 : ∀ f, f ≠ 16 → I' 2 f = I 2 f) (h3 : ∀ f, f ≠ 0 → f ≠ 1 → I' 140 f = I 140 f) (hc : ∀ k, 399 ≤ k → I' 145 k = I 145 k) (hw : ∀ k, 31 ≤ k → L' 148 k = L 148 k) (hs : I' 2 16 = I' 140 0) : Rel I' L' R := by
  obtain ⟨a0, a1, a2, a3, a4, a5⟩ := h
  have he := a0.2.2.2.2.2
  refine ⟨rt, st, pt, qt, n', np', nr', nl', nb', nq', a0, hX, Tr_cg a2 (fun j hj => hI _ (by omega) (by omega) (by omega) (by omega) (by omega)) (fun j hj => hL _ (by omega) (by omega)) (hI _ (by omega) (by omega) (by omega) (by omega) (by omega)) (hI _ (by omega) (by omega) (by omega) (by omega) (by omega)) (hL _ (by omega) (by omega)), Tx_cg a3 (by rw [hI 4 (by omega) (by omega) (by omega) (by omega) (by omega)]) (h3 _ (by omega) (by omega)) (hI _ (by omega) (by omega) (by omega) (by omega) (by omega)) (hI _ (by omega) (by omega) (by omega) (by omega) (by omega)) (by rw [hI 4 (by omega) (by omega) (by omega) (by omega) (by omega)]) (h3 _ (by omega) (by omega)) (by rw [hI 4 (by omega) (by omega) (by omega) (by omega) (by omega)]) (h3 _ (by omega) (by omega)) (hL _ (by omega) (by omega)), Ms_cg a4 hs (by rw [hL 2 (by omega) (by omega), hL 140 (by omega) (by omega)]; exact a4.2.1) (by rw [hL 2 (by omega) (by omega), hL 140 (by omega) (by omega)]; exact a4.2.2.1) (h2 _ (by omega)) (h3 _ (by omega) (by omega)) (hI _ (by omega) (by omega) (by omega) (by omega) (by omega)) (hI _ (by omega) (by omega) (by omega) (by omega) (by omega)), Mk_cg a5 (h2 _ (by omega)) (h3 _ (by omega) (by omega)) (fun k h1 h2 => hI _ (by omega) (by omega) (by omega) (by omega) (by omega)) (fun k h1 h2 => hL _ (by omega) (by omega)) (fun k h1 h2 => hc k (by omega)) (fun k h1 h2 => hw k (by omega))⟩
end RX
