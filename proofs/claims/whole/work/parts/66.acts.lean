
/-! reigns: what a step does, on the reference's row and counters -/
def zr (J0 : Nat → Nat → Int32) (z : Nat → Int32) : Nat → Int32 := fun f => if f = 33 then z 0 else if f = 34 then z 1 else if f = 35 then z 2 else if f = 36 then z 3 else if f = 37 then z 4 else if f = 38 then z 5 else if f = 32 then z 6 else if f = 39 then z 7 else J0 140 f
/-- the reference's heap with row r and counters z -/
def mkM (J0 : Nat → Nat → Int32) (r z : Nat → Int32) : Nat → Nat → Int32 := hs_z (hs_z J0 140 (zr J0 z)) 145 r
section MM
variable {J0 : Nat → Nat → Int32} {r z : Nat → Int32} {v : Int32}
theorem mk_145 : mkM J0 r z 145 = r := hz_s _ _ _
theorem mk_140 : mkM J0 r z 140 = zr J0 z := by unfold mkM; rw [hz_row _ _ (by omega), hz_s]
theorem mk_row {k : Nat} (h1 : k ≠ 145) (h2 : k ≠ 140) : mkM J0 r z k = J0 k := by unfold mkM; rw [hz_row _ _ h1, hz_row _ _ h2]
theorem mk_u (j : Nat) : hs_u (mkM J0 r z) 145 j v = mkM J0 (up r j v) z := hz_u _ _ _ _ _
theorem mk_33 : mkM J0 r z 140 33 = z 0 := by rw [mk_140]; rfl
theorem mk_u33 : hs_u (mkM J0 r z) 140 33 v = mkM J0 r (up z 0 v) := by
  funext a b
  unfold mkM hs_u hs_z
  by_cases h1 : a = 140
  · subst h1
    by_cases h2 : b = 33
    · subst h2; simp [zr, up]
    · simp only [h2, and_false, ↓reduceIte, zr]
      simp [up]
      all_goals intros; simp_all
  · simp [h1]
theorem mk_34 : mkM J0 r z 140 34 = z 1 := by rw [mk_140]; rfl
theorem mk_u34 : hs_u (mkM J0 r z) 140 34 v = mkM J0 r (up z 1 v) := by
  funext a b
  unfold mkM hs_u hs_z
  by_cases h1 : a = 140
  · subst h1
    by_cases h2 : b = 34
    · subst h2; simp [zr, up]
    · simp only [h2, and_false, ↓reduceIte, zr]
      simp [up]
      all_goals intros; simp_all
  · simp [h1]
theorem mk_35 : mkM J0 r z 140 35 = z 2 := by rw [mk_140]; rfl
theorem mk_u35 : hs_u (mkM J0 r z) 140 35 v = mkM J0 r (up z 2 v) := by
  funext a b
  unfold mkM hs_u hs_z
  by_cases h1 : a = 140
  · subst h1
    by_cases h2 : b = 35
    · subst h2; simp [zr, up]
    · simp only [h2, and_false, ↓reduceIte, zr]
      simp [up]
      all_goals intros; simp_all
  · simp [h1]
theorem mk_36 : mkM J0 r z 140 36 = z 3 := by rw [mk_140]; rfl
theorem mk_u36 : hs_u (mkM J0 r z) 140 36 v = mkM J0 r (up z 3 v) := by
  funext a b
  unfold mkM hs_u hs_z
  by_cases h1 : a = 140
  · subst h1
    by_cases h2 : b = 36
    · subst h2; simp [zr, up]
    · simp only [h2, and_false, ↓reduceIte, zr]
      simp [up]
      all_goals intros; simp_all
  · simp [h1]
theorem mk_37 : mkM J0 r z 140 37 = z 4 := by rw [mk_140]; rfl
theorem mk_u37 : hs_u (mkM J0 r z) 140 37 v = mkM J0 r (up z 4 v) := by
  funext a b
  unfold mkM hs_u hs_z
  by_cases h1 : a = 140
  · subst h1
    by_cases h2 : b = 37
    · subst h2; simp [zr, up]
    · simp only [h2, and_false, ↓reduceIte, zr]
      simp [up]
      all_goals intros; simp_all
  · simp [h1]
theorem mk_38 : mkM J0 r z 140 38 = z 5 := by rw [mk_140]; rfl
theorem mk_u38 : hs_u (mkM J0 r z) 140 38 v = mkM J0 r (up z 5 v) := by
  funext a b
  unfold mkM hs_u hs_z
  by_cases h1 : a = 140
  · subst h1
    by_cases h2 : b = 38
    · subst h2; simp [zr, up]
    · simp only [h2, and_false, ↓reduceIte, zr]
      simp [up]
      all_goals intros; simp_all
  · simp [h1]
theorem mk_32 : mkM J0 r z 140 32 = z 6 := by rw [mk_140]; rfl
theorem mk_u32 : hs_u (mkM J0 r z) 140 32 v = mkM J0 r (up z 6 v) := by
  funext a b
  unfold mkM hs_u hs_z
  by_cases h1 : a = 140
  · subst h1
    by_cases h2 : b = 32
    · subst h2; simp [zr, up]
    · simp only [h2, and_false, ↓reduceIte, zr]
      simp [up]
      all_goals intros; simp_all
  · simp [h1]
theorem mk_39 : mkM J0 r z 140 39 = z 7 := by rw [mk_140]; rfl
theorem mk_u39 : hs_u (mkM J0 r z) 140 39 v = mkM J0 r (up z 7 v) := by
  funext a b
  unfold mkM hs_u hs_z
  by_cases h1 : a = 140
  · subst h1
    by_cases h2 : b = 39
    · subst h2; simp [zr, up]
    · simp only [h2, and_false, ↓reduceIte, zr]
      simp [up]
      all_goals intros; simp_all
  · simp [h1]
end MM
/-- the lip that r's ruler has -/
def lpf (r : Nat → Int32) : Nat := if r 2 = 0 then 0 else (r (52 + (r 58).toNatClampNeg)).toNatClampNeg
/-- what holds of a realm's row -/
def RW (n np nr nl : Nat) (r : Nat → Int32) : Prop := n ≤ 8 ∧ r 0 = nI n ∧ (∀ k, k < n → bd (r (10 + k)) 99 ∧ bd (r (18 + k)) 9 ∧ bd (r (26 + k)) 2 ∧ bd (r (34 + k)) 99) ∧ np ≤ 5 ∧ r 1 = nI np ∧ nr ≤ 6 ∧ r 2 = nI nr ∧ (∀ k, k < nr → bd (r (52 + k)) 9) ∧ (∃ ru, r 58 = nI ru ∧ ((nr = 0 ∧ ru = 0) ∨ ru < nr)) ∧ nl ≤ 6 ∧ bd (r 8) 9999 ∧ (r 9 = 0 ∨ r 9 = 1)
theorem RW_HB {n np nr nl : Nat} {r : Nat → Int32} (h : RW n np nr nl r) : HB n (lpf r) r := by
  obtain ⟨a1, a2, a3, a4, a5, a6, a7, a8, ⟨ru, a9, a10⟩, a11, a12, a13⟩ := h
  refine ⟨a1, a2, a3, a13, ?_, ?_⟩
  · unfold lpf
    split
    · omega
    · rename_i q
      rcases a10 with ⟨e, -⟩ | e
      · rw [a7, e] at q; exact absurd rfl q
      · rw [a9, nI_clamp (by omega)]; exact (bd_tn (a8 ru e) (by omega)).2
  · rcases a10 with ⟨e, -⟩ | e
    · left
      have : r 2 = 0 := by rw [a7, e]; rfl
      exact ⟨this, by unfold lpf; rw [if_pos this]⟩
    · right
      have h2 : ¬ r 2 = 0 := by rw [a7]; exact nI_ne0 (by omega) (by omega)
      refine ⟨h2, ru, by omega, a9, ?_⟩
      unfold lpf; rw [if_neg h2, a9, nI_clamp (by omega)]
      exact (bd_tn (a8 ru e) (by omega)).1
/-- the next number drawn -/
def nxD (x : Int32) : Int32 := x * 2971 + 10837 - (x * 2971 + 10837) / 65536 * 65536
theorem nxD_n {a : Nat} (h : a < 65536) : ∃ b, b < 65536 ∧ nxD (nI a) = nI b := by
  refine ⟨(a * 2971 + 10837) % 65536, Nat.mod_lt _ (by omega), ?_⟩
  unfold nxD
  have e : nI a * 2971 + 10837 = nI (a * 2971 + 10837) := by
    rw [show nI a * (2971 : Int32) = nI (a * 2971) from pk_mul a 2971]; exact nI_add _ 10837
  rw [e]; exact pk_rem (d := 65536) (by omega) (by omega) (by omega)
def drD (x m : Int32) : Int32 := x / 8 - x / 8 / m * m
theorem drD_n {a m : Nat} (h : a < 65536) (hm : 0 < m) (hm2 : m < 1000) : drD (nI a) (nI m) = nI (a / 8 % m) := by
  unfold drD
  rw [show nI a / (8 : Int32) = nI (a / 8) from pk_div (d := 8) (by omega) (by omega) (by omega)]
  exact pk_rem (by omega) hm (by omega)
/-- what a step of kind k does: is it done, the row, the counters -/
def okA (np k a b n : Nat) (r : Nat → Int32) : Bool :=
  if k = 0 then decide ((r 8).toNatClampNeg + a ≤ 9999)
  else if k = 1 then decide (¬ r 9 = 1)
  else if k = 2 then decide (¬ r 9 = 0)
  else if k = 3 then true
  else if k = 4 then decide (b < (r (10 + a)).toNatClampNeg)
  else if k = 5 then decide (b < (r (10 + a)).toNatClampNeg ∧ 0 < fo (gPoll r (r (10 + a)) (nI b)) np 0)
  else if k = 6 then decide (r 58 + 1 < r 2)
  else if k = 7 then decide (n ≠ 0) else true
def rA (k a b n : Nat) (r z : Nat → Int32) : Nat → Int32 :=
  if k = 0 then cd r n (lpf r) a
  else if k = 1 then up r 9 1
  else if k = 2 then up r 9 0
  else if k = 3 then up r (34 + a) (nI b)
  else if k = 4 ∨ k = 5 then up r (10 + a) (nI b)
  else if k = 6 then up r 58 (r 58 + 1)
  else if k = 7 then up r (26 + (drD (nxD (z 0)) (nI n)).toNatClampNeg) (drD (nxD (nxD (z 0))) 3) else r
def zA (k a b n : Nat) (r z : Nat → Int32) : Nat → Int32 :=
  if k = 0 then up z 3 (z 3 + nI a)
  else if k = 4 then up z 4 (z 4 + (r (10 + a) - nI b))
  else if k = 5 then up (up z 4 (z 4 + (r (10 + a) - nI b))) 5 (z 5 + 1)
  else if k = 7 then up z 0 (nxD (nxD (z 0))) else z
theorem bd_u {r : Nat → Int32} {j i m : Nat} {v : Int32} (h1 : j = i → bd v m) (h2 : bd (r i) m) : bd (up r j v i) m := by
  by_cases q : i = j
  · subst q; rw [up_s]; exact h1 rfl
  · rw [up_n _ _ q]; exact h2
theorem RW_up {n np nr nl j : Nat} {r : Nat → Int32} {v : Int32} (h : RW n np nr nl r) (hj : j ≠ 0 ∧ j ≠ 1 ∧ j ≠ 2) (h10 : ∀ k, k < n → j = 10 + k → bd v 99) (h18 : ∀ k, k < n → j = 18 + k → bd v 9) (h26 : ∀ k, k < n → j = 26 + k → bd v 2) (h34 : ∀ k, k < n → j = 34 + k → bd v 99) (h52 : ∀ k, k < nr → j = 52 + k → bd v 9) (h58 : j = 58 → ∃ ru, v = nI ru ∧ ((nr = 0 ∧ ru = 0) ∨ ru < nr)) (h8 : j = 8 → bd v 9999) (h9 : j = 9 → v = 0 ∨ v = 1) : RW n np nr nl (up r j v) := by
  obtain ⟨a1, a2, a3, a4, a5, a6, a7, a8, a9, a11, a12, a13⟩ := h
  refine ⟨a1, by rw [up_n _ _ (fun e => hj.1 e.symm)]; exact a2, fun k hk => ?_, a4, by rw [up_n _ _ (fun e => hj.2.1 e.symm)]; exact a5, a6, by rw [up_n _ _ (fun e => hj.2.2 e.symm)]; exact a7, fun k hk => bd_u (h52 k hk) (a8 k hk), ?_, a11, bd_u h8 a12, ?_⟩
  · have := a3 k hk
    exact ⟨bd_u (h10 k hk) this.1, bd_u (h18 k hk) this.2.1, bd_u (h26 k hk) this.2.2.1, bd_u (h34 k hk) this.2.2.2⟩
  · by_cases q : j = 58
    · subst q; rw [up_s]; exact h58 rfl
    · rw [up_n _ _ (fun e => q e.symm)]; exact a9
  · by_cases q : j = 9
    · subst q; rw [up_s]; exact h9 rfl
    · rw [up_n _ _ (fun e => q e.symm)]; exact a13
theorem RW_A {n np nr nl k a b : Nat} {r z : Nat → Int32} (h : RW n np nr nl r) (hk : k ≤ 7) (hok : okA np k a b n r = true) (ha : 3 ≤ k → k ≤ 5 → a < n) (hb : b ≤ 99) (hz : ∃ x, x < 65536 ∧ z 0 = nI x) : RW n np nr nl (rA k a b n r z) ∧ (∃ x, x < 65536 ∧ zA k a b n r z 0 = nI x) ∧ (∀ i, 127 ≤ i → rA k a b n r z i = r i) ∧ (∀ i, 59 ≤ i ∧ i < 127 → rA k a b n r z i = r i) ∧ zA k a b n r z 1 = z 1 ∧ zA k a b n r z 2 = z 2 ∧ zA k a b n r z 6 = z 6 ∧ zA k a b n r z 7 = z 7 := by
  obtain ⟨x, hx, ex⟩ := hz
  have hHB := RW_HB h
  obtain ⟨a1, a2, a3, a4, a5, a6, a7, a8, a9, a11, a12, a13⟩ := id h
  rcases (show k = 0 ∨ k = 1 ∨ k = 2 ∨ k = 3 ∨ k = 4 ∨ k = 5 ∨ k = 6 ∨ k = 7 by omega) with rfl | rfl | rfl | rfl | rfl | rfl | rfl | rfl
  · have hf : (r 8).toNatClampNeg + a ≤ 9999 := by simpa [okA] using hok
    have hc : ∀ i, ¬ (10 ≤ i ∧ i < 42) → i ≠ 8 → cd r n (lpf r) a i = r i := fun i h1 h2 => cd_o (by omega)
    have hB := HB_cd (d := a) hHB
    refine ⟨⟨a1, by show cd r n (lpf r) a 0 = _; rw [hc 0 (by omega) (by omega)]; exact a2, hB.2.2.1, a4, by show cd r n (lpf r) a 1 = _; rw [hc 1 (by omega) (by omega)]; exact a5, a6, by show cd r n (lpf r) a 2 = _; rw [hc 2 (by omega) (by omega)]; exact a7, fun j hj => by show bd (cd r n (lpf r) a (52 + j)) 9; rw [hc _ (by omega) (by omega)]; exact a8 j hj, by show ∃ ru, cd r n (lpf r) a 58 = nI ru ∧ _; rw [hc _ (by omega) (by omega)]; exact a9, a11, ?_, by show cd r n (lpf r) a 9 = 0 ∨ cd r n (lpf r) a 9 = 1; rw [hc _ (by omega) (by omega)]; exact a13⟩, ⟨x, hx, ex⟩, fun i hi => hc i (by omega) (by omega), fun i hi => hc i (by omega) (by omega), rfl, rfl, rfl, rfl⟩
    show bd (cd r n (lpf r) a 8) 9999
    rw [cd_8 a1, (bd_tn a12 (by omega)).1, nI_add]
    exact ⟨_, hf, rfl⟩
  · have q : ¬ r 9 = 1 := by simpa [okA] using hok
    exact ⟨RW_up h (by omega) (fun k hk q => absurd q (by omega)) (fun k hk q => absurd q (by omega)) (fun k hk q => absurd q (by omega)) (fun k hk q => absurd q (by omega)) (fun k hk q => absurd q (by omega)) (fun q => absurd q (by omega)) (fun q => absurd q (by omega)) (fun _ => Or.inr rfl), ⟨x, hx, ex⟩, fun i hi => up_n _ _ (by omega), fun i hi => up_n _ _ (by omega), rfl, rfl, rfl, rfl⟩
  · exact ⟨RW_up h (by omega) (fun k hk q => absurd q (by omega)) (fun k hk q => absurd q (by omega)) (fun k hk q => absurd q (by omega)) (fun k hk q => absurd q (by omega)) (fun k hk q => absurd q (by omega)) (fun q => absurd q (by omega)) (fun q => absurd q (by omega)) (fun _ => Or.inl rfl), ⟨x, hx, ex⟩, fun i hi => up_n _ _ (by omega), fun i hi => up_n _ _ (by omega), rfl, rfl, rfl, rfl⟩
  · have ha' := ha (by omega) (by omega)
    exact ⟨RW_up h (by omega) (fun k hk q => absurd q (by omega)) (fun k hk q => absurd q (by omega)) (fun k hk q => absurd q (by omega)) (fun k hk q => ⟨b, hb, rfl⟩) (fun k hk q => absurd q (by omega)) (fun q => absurd q (by omega)) (fun q => absurd q (by omega)) (fun q => absurd q (by omega)), ⟨x, hx, ex⟩, fun i hi => up_n _ _ (by omega), fun i hi => up_n _ _ (by omega), rfl, rfl, rfl, rfl⟩
  · have ha' := ha (by omega) (by omega)
    exact ⟨RW_up h (by omega) (fun k hk q => ⟨b, hb, rfl⟩) (fun k hk q => absurd q (by omega)) (fun k hk q => absurd q (by omega)) (fun k hk q => absurd q (by omega)) (fun k hk q => absurd q (by omega)) (fun q => absurd q (by omega)) (fun q => absurd q (by omega)) (fun q => absurd q (by omega)), ⟨x, hx, ex⟩, fun i hi => up_n _ _ (by omega), fun i hi => up_n _ _ (by omega), rfl, rfl, rfl, rfl⟩
  · have ha' := ha (by omega) (by omega)
    exact ⟨RW_up h (by omega) (fun k hk q => ⟨b, hb, rfl⟩) (fun k hk q => absurd q (by omega)) (fun k hk q => absurd q (by omega)) (fun k hk q => absurd q (by omega)) (fun k hk q => absurd q (by omega)) (fun q => absurd q (by omega)) (fun q => absurd q (by omega)) (fun q => absurd q (by omega)), ⟨x, hx, ex⟩, fun i hi => up_n _ _ (by omega), fun i hi => up_n _ _ (by omega), rfl, rfl, rfl, rfl⟩
  · have q : r 58 + 1 < r 2 := by simpa [okA] using hok
    obtain ⟨ru, e1, e2⟩ := a9
    have hru : ru + 1 < nr := by
      rw [e1, a7, nI_1] at q
      exact (nI_ltI (by omega) (by omega)).mp q
    exact ⟨RW_up h (by omega) (fun k hk q => absurd q (by omega)) (fun k hk q => absurd q (by omega)) (fun k hk q => absurd q (by omega)) (fun k hk q => absurd q (by omega)) (fun k hk q => absurd q (by omega)) (fun _ => ⟨ru + 1, by rw [e1, nI_1], Or.inr hru⟩) (fun q => absurd q (by omega)) (fun q => absurd q (by omega)), ⟨x, hx, ex⟩, fun i hi => up_n _ _ (by omega), fun i hi => up_n _ _ (by omega), rfl, rfl, rfl, rfl⟩
  · have q : n ≠ 0 := by simpa [okA] using hok
    obtain ⟨y1, h1, e1⟩ := nxD_n hx
    obtain ⟨y2, h2, e2⟩ := nxD_n h1
    have hd : (drD (nxD (z 0)) (nI n)).toNatClampNeg = y1 / 8 % n := by
      rw [ex, e1, drD_n h1 (by omega) (by omega), nI_clamp (by have := Nat.mod_lt (y1 / 8) (show 0 < n by omega); omega)]
    have hlt := Nat.mod_lt (y1 / 8) (show 0 < n by omega)
    have hv : drD (nxD (nxD (z 0))) 3 = nI (y2 / 8 % 3) := by
      rw [ex, e1, e2]; exact drD_n (m := 3) h2 (by omega) (by omega)
    refine ⟨?_, ⟨y2, h2, by show nxD (nxD (z 0)) = _; rw [ex, e1, e2]⟩, fun i hi => ?_, fun i hi => ?_, rfl, rfl, rfl, rfl⟩
    · show RW n np nr nl (up r (26 + (drD (nxD (z 0)) (nI n)).toNatClampNeg) (drD (nxD (nxD (z 0))) 3))
      rw [hd, hv]
      exact RW_up h (by omega) (fun k hk q => absurd q (by omega)) (fun k hk q => absurd q (by omega)) (fun k hk q => ⟨y2 / 8 % 3, by omega, rfl⟩) (fun k hk q => absurd q (by omega)) (fun k hk q => absurd q (by omega)) (fun q => absurd q (by omega)) (fun q => absurd q (by omega)) (fun q => absurd q (by omega))
    · show up r (26 + (drD (nxD (z 0)) (nI n)).toNatClampNeg) (drD (nxD (nxD (z 0))) 3) i = _
      rw [hd]; exact up_n _ _ (by omega)
    · show up r (26 + (drD (nxD (z 0)) (nI n)).toNatClampNeg) (drD (nxD (nxD (z 0))) 3) i = _
      rw [hd]; exact up_n _ _ (by omega)
section MA
variable {scr : List Int32} {d n np nr nl k a b w : Nat} {r z : Nat → Int32} {J0 : Nat → Nat → Int32} {L : Nat → Nat → Int64} {R : Nat → Nat → Nat}
theorem m351 (o11 : ok11 hs_S0 R 140) (h : RW n np nr nl r) (ha : a ≤ 20) : hs_C scr (d + 1) 351 [.ref 140, .int (nI a)] (hs_S0, mkM J0 r z, L, R) = some (some (.int (if okA np 0 a b n r = true then 1 else 0)), (hs_S0, if okA np 0 a b n r = true then mkM J0 (rA 0 a b n r z) (zA 0 a b n r z) else mkM J0 r z, L, R)) := by
  have hHB := RW_HB h
  obtain ⟨dy, hdy, edy⟩ := h.2.2.2.2.2.2.2.2.2.2.1
  have e8 : (r 8).toNatClampNeg = dy := by rw [edy, nI_clamp (by omega)]
  have hok : (okA np 0 a b n r = true) = (dy + a ≤ 9999) := by
    apply propext; show decide ((r 8).toNatClampNeg + a ≤ 9999) = true ↔ _; rw [e8, decide_eq_true_eq]
  have h8 : mkM J0 r z (140 + 5) 8 = nI dy := by show mkM J0 r z 145 8 = _; rw [mk_145]; exact edy
  simp only [hok]
  rw [e351, b351_0 o11, h8, nI_add]
  by_cases q : dy + a ≤ 9999
  · rw [if_pos (show nI (dy + a) ≤ 9999 from nI_le (b := 9999) q (by omega)), if_pos q, if_pos q]
    have hM := fo_upT (n := a) (g := fun i (_ : Unit) => ()) (head := fun i (_ : Unit) => hs_R scr (d + 1) 351 19 [some (.ref 140), some (.int (nI a)), some (.int (nI i))] [] (hs_S0, mkM J0 (cd r n (lpf r) i) z, L, R)) (fun i s hi => by
      show hs_R scr (d + 1) 351 19 _ _ _ = hs_R scr (d + 1) 351 19 _ _ _
      rw [b351_19 o11, if_neg (nI_ge hi (by omega))]
      unfold mkM
      rw [m284d o11 hHB]
      simp (disch := omega) only [Option.bind_some, Option.toList_some, Option.toList_none, List.append_nil, List.cons_append, List.nil_append, ↓reduceIte, true_or, or_true, Nat.reduceAdd, Nat.add_assoc, b351_28, nI_1]) ()
    simp only [cd_0 hHB, nI_0] at hM
    refine hM.trans ?_
    show hs_R scr (d + 1) 351 19 _ _ _ = _
    rw [b351_19 o11, if_pos (nI_le (Nat.le_refl _) (by omega)), mk_36, mk_u36]; rfl
  · rw [if_neg (show ¬ nI (dy + a) ≤ 9999 from nI_ge (b := dy + a) (a := 9999) (by omega) (by omega)), if_neg q, if_neg q]
theorem m352 (o11 : ok11 hs_S0 R 140) (h : RW n np nr nl r) (hk : k = 4 ∨ k = 5) (ha : a < n) (hb : b ≤ 99) : hs_C scr (d + 1) 352 [.ref 140, .int (nI a), .int (nI b), .int (if k = 5 then 1 else 0)] (hs_S0, mkM J0 r z, L, R) = some (some (.int (if okA np k a b n r = true then 1 else 0)), (hs_S0, if okA np k a b n r = true then mkM J0 (rA k a b n r z) (zA k a b n r z) else mkM J0 r z, L, R)) := by
  have hn := h.1
  obtain ⟨y, hy, ey⟩ := (h.2.2.1 a ha).1
  have e10 : (r (10 + a)).toNatClampNeg = y := by rw [ey, nI_clamp (by omega)]
  have hm290 : ∀ zz, b < y → hs_C scr d 290 [.ref 140, .int (nI a), .int (nI b)] (hs_S0, mkM J0 r zz, L, R) = some (some (.int (r (10 + a) - nI b)), (hs_S0, mkM J0 (up r (10 + a) (nI b)) zz, L, R)) := by
    intro zz q
    rw [e290, b290_0 o11]
    simp (disch := omega) only [Option.bind_some, Option.toList_some, Option.toList_none, List.append_nil, List.cons_append, List.nil_append, ↓reduceIte, true_or, or_true, Nat.reduceAdd, Nat.add_assoc, f_ge, t_le, t_lt, f_lt, f_l0, t_0l, t_pl, t_eq, f_eq, f_e0, i10, i01, ib_nI, nI_clamp, nI_add, ad10, ad18, ad26, ad34, ad42, ad47, ad52, ad59, ad107, ad117, ml8, mr8, ml5, ml10, mk_145, mk_u, mk_33, mk_34, mk_35, mk_36, mk_37, mk_38, mk_32, mk_39, mk_u33, mk_u34, mk_u35, mk_u36, mk_u37, mk_u38, mk_u32, mk_u39, ey, pk_sub, t_0lt]
  rw [e352, b352_0 o11]
  simp (disch := omega) only [Option.bind_some, Option.toList_some, Option.toList_none, List.append_nil, List.cons_append, List.nil_append, ↓reduceIte, true_or, or_true, Nat.reduceAdd, Nat.add_assoc, f_ge, t_le, t_lt, f_lt, f_l0, t_0l, t_pl, t_eq, f_eq, f_e0, i10, i01, ib_nI, nI_clamp, nI_add, ad10, ad18, ad26, ad34, ad42, ad47, ad52, ad59, ad107, ad117, ml8, mr8, ml5, ml10, mk_145, mk_u, mk_33, mk_34, mk_35, mk_36, mk_37, mk_38, mk_32, mk_39, mk_u33, mk_u34, mk_u35, mk_u36, mk_u37, mk_u38, mk_u32, mk_u39, ey]
  by_cases q : y ≤ b
  · have hok : okA np k a b n r = false := by
      rcases hk with rfl | rfl
      · show decide (b < (r (10 + a)).toNatClampNeg) = false; rw [e10]; simp; omega
      · show decide (b < (r (10 + a)).toNatClampNeg ∧ _) = false; rw [e10]; simp; omega
    rw [hok]
    simp (disch := omega) only [f_ge, t_le, t_lt, f_lt, f_l0, t_0l, t_pl, t_eq, f_eq, f_e0, i10, i01, ib_nI, nI_clamp, nI_add, ad10, ad18, ad26, ad34, ad42, ad47, ad52, ad59, ad107, ad117, ml8, mr8, ml5, ml10, ↓reduceIte, b352_26, Bool.false_eq_true]
  · simp (disch := omega) only [f_ge, t_le, t_lt, f_lt, f_l0, t_0l, t_pl, t_eq, f_eq, f_e0, i10, i01, ib_nI, nI_clamp, nI_add, ad10, ad18, ad26, ad34, ad42, ad47, ad52, ad59, ad107, ad117, ml8, mr8, ml5, ml10, ↓reduceIte]
    rcases hk with rfl | rfl
    · have hok : okA np 4 a b n r = true := by show decide (b < (r (10 + a)).toNatClampNeg) = true; rw [e10]; simp; omega
      rw [hok]
      simp (disch := omega) only [↓reduceIte, show ¬ (4 : Nat) = 5 by omega, b352_28 o11, hm290 z (by omega), Option.bind_some, Option.toList_some, Option.toList_none, List.append_nil, List.cons_append, List.nil_append, ↓reduceIte, true_or, or_true, Nat.reduceAdd, Nat.add_assoc, b352_39 (o_t0 := o11) (o_u0 := o11), mk_145, mk_u, mk_33, mk_34, mk_35, mk_36, mk_37, mk_38, mk_32, mk_39, mk_u33, mk_u34, mk_u35, mk_u36, mk_u37, mk_u38, mk_u32, mk_u39, b352_57 (o_u0 := o11)]
      rw [Int32.add_zero]
      have : up (up z 4 (z 4 + (r (10 + a) - nI b))) 5 (z 5) = up z 4 (z 4 + (r (10 + a) - nI b)) := by
        funext i; by_cases g : i = 5
        · subst g; rw [up_s, up_n _ _ (by omega)]
        · rw [up_n _ _ g]
      rw [up_n _ _ (show (5 : Nat) ≠ 4 by omega), this]; rfl
    · have h292 := m292 (scr := scr) (d := d) (I := mkM J0 r z) (L := L) (np := np) (k := a) (y := nI b) o11 (by rw [mk_145]; exact h.2.2.2.2.1) h.2.2.2.1 (by omega)
      rw [mk_145, ey] at h292
      have hok : (okA np 5 a b n r = true) = (0 < fo (gPoll r (nI y) (nI b)) np 0) := by
        apply propext
        show decide (b < (r (10 + a)).toNatClampNeg ∧ 0 < fo (gPoll r (r (10 + a)) (nI b)) np 0) = true ↔ _
        rw [e10, ey, decide_eq_true_eq]
        exact ⟨fun g => g.2, fun g => ⟨by omega, g⟩⟩
      simp only [hok]
      simp (disch := omega) only [↓reduceIte, i10, h292, Option.bind_some, Option.toList_some, Option.toList_none, List.append_nil, List.cons_append, List.nil_append, ↓reduceIte, true_or, or_true, Nat.reduceAdd, Nat.add_assoc, b352_23]
      by_cases g : 0 < fo (gPoll r (nI y) (nI b)) np 0
      · simp (disch := omega) only [g, ↓reduceIte, i10, b352_28 o11, hm290 z (by omega), Option.bind_some, Option.toList_some, Option.toList_none, List.append_nil, List.cons_append, List.nil_append, ↓reduceIte, true_or, or_true, Nat.reduceAdd, Nat.add_assoc, b352_39 (o_t0 := o11) (o_u0 := o11), mk_145, mk_u, mk_33, mk_34, mk_35, mk_36, mk_37, mk_38, mk_32, mk_39, mk_u33, mk_u34, mk_u35, mk_u36, mk_u37, mk_u38, mk_u32, mk_u39, b352_57 (o_u0 := o11), up_n]
        rfl
      · simp only [g, ↓reduceIte, b352_26]
theorem adw2 (k : Nat) : nI k + 2 = nI (k + 2) := nI_add k 2
theorem adw6 (k : Nat) : nI k + 6 = nI (k + 6) := nI_add k 6
theorem adw7 (k : Nat) : nI k + 7 = nI (k + 7) := nI_add k 7
theorem adw8 (k : Nat) : nI k + 8 = nI (k + 8) := nI_add k 8
theorem ib01 {P : Prop} [Decidable P] {α : Type} {x y : α} : (if (if P then (1 : Int32) else 0) = 0 ∨ (if P then (1 : Int32) else 0) = 1 then x else y) = x := by
  by_cases g : P
  · rw [if_pos g, if_pos (Or.inr rfl)]
  · rw [if_neg g, if_pos (Or.inl rfl)]
/-- what a step of kind 0 to 7 does in the reference -/
theorem m350 (o11 : ok11 hs_S0 R 140) (h : RW n np nr nl r) (hz : ∃ x, x < 65536 ∧ z 0 = nI x) (hw : w + 8 < 1995) (hk : k ≤ 7) (e0 : r w = nI k) (h0 : k = 0 → r (w + 1) = nI a ∧ a ≤ 20) (h3 : 3 ≤ k ∧ k ≤ 5 → r (w + 1) = nI a ∧ a < n ∧ r (w + 2) = nI b ∧ b ≤ 99) : hs_C scr (d + 2) 350 [.ref 140, .int (nI w)] (hs_S0, mkM J0 r z, L, R) = some (some (.int (if okA np k a b n r = true then 1 else 0)), (hs_S0, if okA np k a b n r = true then mkM J0 (rA k a b n r z) (zA k a b n r z) else mkM J0 r z, L, R)) := by
  have hn := h.1
  rw [e350, b350_0 o11]
  rcases (show k = 0 ∨ k = 1 ∨ k = 2 ∨ k = 3 ∨ k = 4 ∨ k = 5 ∨ k = 6 ∨ k = 7 by omega) with rfl | rfl | rfl | rfl | rfl | rfl | rfl | rfl
  · obtain ⟨ea, ha⟩ := h0 rfl
    simp (disch := omega) only [Option.bind_some, Option.toList_some, Option.toList_none, List.append_nil, List.cons_append, List.nil_append, ↓reduceIte, true_or, or_true, Nat.reduceAdd, Nat.add_assoc, f_ge, t_le, t_lt, f_lt, f_l0, t_0l, t_pl, t_eq, f_eq, f_e0, i10, i01, ib_nI, nI_clamp, nI_add, ad10, ad18, ad26, ad34, ad42, ad47, ad52, ad59, ad107, ad117, ml8, mr8, ml5, ml10, mk_145, mk_u, mk_33, mk_34, mk_35, mk_36, mk_37, mk_38, mk_32, mk_39, mk_u33, mk_u34, mk_u35, mk_u36, mk_u37, mk_u38, mk_u32, mk_u39, e0, show (nI 0 = (0 : Int32)) = True from eq_true (by decide), show (nI 0 = (4 : Int32)) = False from eq_false (by decide), show (nI 0 = (5 : Int32)) = False from eq_false (by decide), show (nI 0 = (6 : Int32)) = False from eq_false (by decide), show (nI 0 = (7 : Int32)) = False from eq_false (by decide), show (nI 0 = (3 : Int32)) = False from eq_false (by decide), show (nI 0 = (1 : Int32)) = False from eq_false (by decide), nI_1, ea, m351 (b := b) o11 h ha, b350_23, ib01]
  · have hok : (okA np 1 a b n r = true) = ¬ r 9 = 1 := by apply propext; show decide (¬ r 9 = 1) = true ↔ _; rw [decide_eq_true_eq]
    simp (disch := omega) only [Option.bind_some, Option.toList_some, Option.toList_none, List.append_nil, List.cons_append, List.nil_append, ↓reduceIte, true_or, or_true, Nat.reduceAdd, Nat.add_assoc, f_ge, t_le, t_lt, f_lt, f_l0, t_0l, t_pl, t_eq, f_eq, f_e0, i10, i01, ib_nI, nI_clamp, nI_add, ad10, ad18, ad26, ad34, ad42, ad47, ad52, ad59, ad107, ad117, ml8, mr8, ml5, ml10, mk_145, mk_u, mk_33, mk_34, mk_35, mk_36, mk_37, mk_38, mk_32, mk_39, mk_u33, mk_u34, mk_u35, mk_u36, mk_u37, mk_u38, mk_u32, mk_u39, e0, show (nI 1 = (0 : Int32)) = False from eq_false (by decide), show (nI 1 = (4 : Int32)) = False from eq_false (by decide), show (nI 1 = (5 : Int32)) = False from eq_false (by decide), show (nI 1 = (6 : Int32)) = False from eq_false (by decide), show (nI 1 = (7 : Int32)) = False from eq_false (by decide), show (nI 1 = (3 : Int32)) = False from eq_false (by decide), show (nI 1 = (1 : Int32)) = True from eq_true (by decide), b350_105 (o_u0 := o11), hok, e286, b286_0 o11, ib_9_1995, tn_9]
    by_cases g : r 9 = 1
    · simp only [Option.bind_some, Option.toList_some, Option.toList_none, List.append_nil, List.cons_append, List.nil_append, ↓reduceIte, true_or, or_true, Nat.reduceAdd, Nat.add_assoc, g, not_true_eq_false, b350_108]
    · simp only [Option.bind_some, Option.toList_some, Option.toList_none, List.append_nil, List.cons_append, List.nil_append, ↓reduceIte, true_or, or_true, Nat.reduceAdd, Nat.add_assoc, g, not_false_eq_true, b350_108]; rfl
  · have hok : (okA np 2 a b n r = true) = ¬ r 9 = 0 := by apply propext; show decide (¬ r 9 = 0) = true ↔ _; rw [decide_eq_true_eq]
    simp (disch := omega) only [Option.bind_some, Option.toList_some, Option.toList_none, List.append_nil, List.cons_append, List.nil_append, ↓reduceIte, true_or, or_true, Nat.reduceAdd, Nat.add_assoc, f_ge, t_le, t_lt, f_lt, f_l0, t_0l, t_pl, t_eq, f_eq, f_e0, i10, i01, ib_nI, nI_clamp, nI_add, ad10, ad18, ad26, ad34, ad42, ad47, ad52, ad59, ad107, ad117, ml8, mr8, ml5, ml10, mk_145, mk_u, mk_33, mk_34, mk_35, mk_36, mk_37, mk_38, mk_32, mk_39, mk_u33, mk_u34, mk_u35, mk_u36, mk_u37, mk_u38, mk_u32, mk_u39, e0, show (nI 2 = (0 : Int32)) = False from eq_false (by decide), show (nI 2 = (4 : Int32)) = False from eq_false (by decide), show (nI 2 = (5 : Int32)) = False from eq_false (by decide), show (nI 2 = (6 : Int32)) = False from eq_false (by decide), show (nI 2 = (7 : Int32)) = False from eq_false (by decide), show (nI 2 = (3 : Int32)) = False from eq_false (by decide), show (nI 2 = (1 : Int32)) = False from eq_false (by decide), b350_105 (o_u0 := o11), hok, e286, b286_0 o11, ib_9_1995, tn_9]
    by_cases g : r 9 = 0
    · simp only [Option.bind_some, Option.toList_some, Option.toList_none, List.append_nil, List.cons_append, List.nil_append, ↓reduceIte, true_or, or_true, Nat.reduceAdd, Nat.add_assoc, g, not_true_eq_false, b350_108]
    · simp only [Option.bind_some, Option.toList_some, Option.toList_none, List.append_nil, List.cons_append, List.nil_append, ↓reduceIte, true_or, or_true, Nat.reduceAdd, Nat.add_assoc, g, not_false_eq_true, b350_108]; rfl
  · obtain ⟨ea, ha, eb, hb⟩ := h3 (by omega)
    have hok : (okA np 3 a b n r = true) = True := eq_true rfl
    simp (disch := omega) only [Option.bind_some, Option.toList_some, Option.toList_none, List.append_nil, List.cons_append, List.nil_append, ↓reduceIte, true_or, or_true, Nat.reduceAdd, Nat.add_assoc, f_ge, t_le, t_lt, f_lt, f_l0, t_0l, t_pl, t_eq, f_eq, f_e0, i10, i01, ib_nI, nI_clamp, nI_add, ad10, ad18, ad26, ad34, ad42, ad47, ad52, ad59, ad107, ad117, ml8, mr8, ml5, ml10, mk_145, mk_u, mk_33, mk_34, mk_35, mk_36, mk_37, mk_38, mk_32, mk_39, mk_u33, mk_u34, mk_u35, mk_u36, mk_u37, mk_u38, mk_u32, mk_u39, e0, show (nI 3 = (0 : Int32)) = False from eq_false (by decide), show (nI 3 = (4 : Int32)) = False from eq_false (by decide), show (nI 3 = (5 : Int32)) = False from eq_false (by decide), show (nI 3 = (6 : Int32)) = False from eq_false (by decide), show (nI 3 = (7 : Int32)) = False from eq_false (by decide), show (nI 3 = (3 : Int32)) = True from eq_true (by decide), show (nI 3 = (1 : Int32)) = False from eq_false (by decide), nI_1, adw2, ea, eb, hok]
    rfl
  · obtain ⟨ea, ha, eb, hb⟩ := h3 (by omega)
    have h352 := m352 (scr := scr) (d := d) (J0 := J0) (z := z) (L := L) (k := 4) (a := a) (b := b) o11 h (Or.inl rfl) ha hb
    simp (disch := omega) only [Option.bind_some, Option.toList_some, Option.toList_none, List.append_nil, List.cons_append, List.nil_append, ↓reduceIte, true_or, or_true, Nat.reduceAdd, Nat.add_assoc, f_ge, t_le, t_lt, f_lt, f_l0, t_0l, t_pl, t_eq, f_eq, f_e0, i10, i01, ib_nI, nI_clamp, nI_add, ad10, ad18, ad26, ad34, ad42, ad47, ad52, ad59, ad107, ad117, ml8, mr8, ml5, ml10, mk_145, mk_u, mk_33, mk_34, mk_35, mk_36, mk_37, mk_38, mk_32, mk_39, mk_u33, mk_u34, mk_u35, mk_u36, mk_u37, mk_u38, mk_u32, mk_u39, e0, show (nI 4 = (0 : Int32)) = False from eq_false (by decide), show (nI 4 = (4 : Int32)) = True from eq_true (by decide), show (nI 4 = (5 : Int32)) = False from eq_false (by decide), show (nI 4 = (6 : Int32)) = False from eq_false (by decide), show (nI 4 = (7 : Int32)) = False from eq_false (by decide), show (nI 4 = (3 : Int32)) = False from eq_false (by decide), show (nI 4 = (1 : Int32)) = False from eq_false (by decide), nI_1, adw2, ea, eb, b350_34 o11, b350_61 (o_u0 := o11)]
    refine (congrArg (fun q => Option.bind q _) h352).trans ?_
    simp (disch := omega) only [Option.bind_some, Option.toList_some, Option.toList_none, List.append_nil, List.cons_append, List.nil_append, ↓reduceIte, true_or, or_true, Nat.reduceAdd, Nat.add_assoc, b350_64, ib01]
  · obtain ⟨ea, ha, eb, hb⟩ := h3 (by omega)
    have h352 := m352 (scr := scr) (d := d) (J0 := J0) (z := z) (L := L) (k := 5) (a := a) (b := b) o11 h (Or.inr rfl) ha hb
    simp (disch := omega) only [Option.bind_some, Option.toList_some, Option.toList_none, List.append_nil, List.cons_append, List.nil_append, ↓reduceIte, true_or, or_true, Nat.reduceAdd, Nat.add_assoc, f_ge, t_le, t_lt, f_lt, f_l0, t_0l, t_pl, t_eq, f_eq, f_e0, i10, i01, ib_nI, nI_clamp, nI_add, ad10, ad18, ad26, ad34, ad42, ad47, ad52, ad59, ad107, ad117, ml8, mr8, ml5, ml10, mk_145, mk_u, mk_33, mk_34, mk_35, mk_36, mk_37, mk_38, mk_32, mk_39, mk_u33, mk_u34, mk_u35, mk_u36, mk_u37, mk_u38, mk_u32, mk_u39, e0, show (nI 5 = (0 : Int32)) = False from eq_false (by decide), show (nI 5 = (4 : Int32)) = False from eq_false (by decide), show (nI 5 = (5 : Int32)) = True from eq_true (by decide), show (nI 5 = (6 : Int32)) = False from eq_false (by decide), show (nI 5 = (7 : Int32)) = False from eq_false (by decide), show (nI 5 = (3 : Int32)) = False from eq_false (by decide), show (nI 5 = (1 : Int32)) = False from eq_false (by decide), i10, nI_1, adw2, ea, eb, b350_34 o11, b350_61 (o_u0 := o11)]
    refine (congrArg (fun q => Option.bind q _) h352).trans ?_
    simp (disch := omega) only [Option.bind_some, Option.toList_some, Option.toList_none, List.append_nil, List.cons_append, List.nil_append, ↓reduceIte, true_or, or_true, Nat.reduceAdd, Nat.add_assoc, b350_64, ib01]
  · have hok : (okA np 6 a b n r = true) = (r 58 + 1 < r 2) := by apply propext; show decide (r 58 + 1 < r 2) = true ↔ _; rw [decide_eq_true_eq]
    simp (disch := omega) only [Option.bind_some, Option.toList_some, Option.toList_none, List.append_nil, List.cons_append, List.nil_append, ↓reduceIte, true_or, or_true, Nat.reduceAdd, Nat.add_assoc, f_ge, t_le, t_lt, f_lt, f_l0, t_0l, t_pl, t_eq, f_eq, f_e0, i10, i01, ib_nI, nI_clamp, nI_add, ad10, ad18, ad26, ad34, ad42, ad47, ad52, ad59, ad107, ad117, ml8, mr8, ml5, ml10, mk_145, mk_u, mk_33, mk_34, mk_35, mk_36, mk_37, mk_38, mk_32, mk_39, mk_u33, mk_u34, mk_u35, mk_u36, mk_u37, mk_u38, mk_u32, mk_u39, e0, show (nI 6 = (0 : Int32)) = False from eq_false (by decide), show (nI 6 = (4 : Int32)) = False from eq_false (by decide), show (nI 6 = (5 : Int32)) = False from eq_false (by decide), show (nI 6 = (6 : Int32)) = True from eq_true (by decide), show (nI 6 = (7 : Int32)) = False from eq_false (by decide), show (nI 6 = (3 : Int32)) = False from eq_false (by decide), show (nI 6 = (1 : Int32)) = False from eq_false (by decide), hok, e294, b294_0 o11]
    by_cases g : r 58 + 1 < r 2
    · simp only [Option.bind_some, Option.toList_some, Option.toList_none, List.append_nil, List.cons_append, List.nil_append, ↓reduceIte, true_or, or_true, Nat.reduceAdd, Nat.add_assoc, g, b350_75]; rfl
    · simp only [Option.bind_some, Option.toList_some, Option.toList_none, List.append_nil, List.cons_append, List.nil_append, ↓reduceIte, true_or, or_true, Nat.reduceAdd, Nat.add_assoc, g, b350_75]
  · obtain ⟨x, hx, ex⟩ := hz
    have hc0 := h.2.1
    have hok : (okA np 7 a b n r = true) = (n ≠ 0) := by apply propext; show decide (n ≠ 0) = true ↔ _; rw [decide_eq_true_eq]
    have hm354 : ∀ (m : Int32) (y : Nat → Int32), ¬ m = 0 → hs_C scr d 354 [.ref 140, .int m] (hs_S0, mkM J0 r y, L, R) = some (some (.int (drD (nxD (y 0)) m)), (hs_S0, mkM J0 r (up y 0 (nxD (y 0))), L, R)) := by
      intro m y hm
      rw [e354, b354_0 o11, if_neg hm]
      simp (disch := omega) only [mk_145, mk_u, mk_33, mk_34, mk_35, mk_36, mk_37, mk_38, mk_32, mk_39, mk_u33, mk_u34, mk_u35, mk_u36, mk_u37, mk_u38, mk_u32, mk_u39, up_s]; rfl
    obtain ⟨y1, h1, e1⟩ := nxD_n hx
    have hlt := fun (q : n ≠ 0) => Nat.mod_lt (y1 / 8) (show 0 < n by omega)
    simp (disch := omega) only [Option.bind_some, Option.toList_some, Option.toList_none, List.append_nil, List.cons_append, List.nil_append, ↓reduceIte, true_or, or_true, Nat.reduceAdd, Nat.add_assoc, f_ge, t_le, t_lt, f_lt, f_l0, t_0l, t_pl, t_eq, f_eq, f_e0, i10, i01, ib_nI, nI_clamp, nI_add, ad10, ad18, ad26, ad34, ad42, ad47, ad52, ad59, ad107, ad117, ml8, mr8, ml5, ml10, mk_145, mk_u, mk_33, mk_34, mk_35, mk_36, mk_37, mk_38, mk_32, mk_39, mk_u33, mk_u34, mk_u35, mk_u36, mk_u37, mk_u38, mk_u32, mk_u39, e0, show (nI 7 = (0 : Int32)) = False from eq_false (by decide), show (nI 7 = (4 : Int32)) = False from eq_false (by decide), show (nI 7 = (5 : Int32)) = False from eq_false (by decide), show (nI 7 = (6 : Int32)) = False from eq_false (by decide), show (nI 7 = (7 : Int32)) = True from eq_true (by decide), show (nI 7 = (3 : Int32)) = False from eq_false (by decide), show (nI 7 = (1 : Int32)) = False from eq_false (by decide), hok, e353, b353_0 o11, hc0]
    by_cases g : n = 0
    · subst g
      simp only [Option.bind_some, Option.toList_some, Option.toList_none, List.append_nil, List.cons_append, List.nil_append, ↓reduceIte, true_or, or_true, Nat.reduceAdd, Nat.add_assoc, nI_0, b350_86, ne_eq, not_true_eq_false]
    · have hd : drD (nxD (z 0)) (nI n) = nI (y1 / 8 % n) := by rw [ex, e1, drD_n h1 (by omega) (by omega)]
      have hlt := hlt g
      have hrA : rA 7 a b n r z = up r (26 + y1 / 8 % n) (drD (nxD (nxD (z 0))) 3) := by
        show up r (26 + (drD (nxD (z 0)) (nI n)).toNatClampNeg) _ = _
        rw [hd, nI_clamp (by omega)]
      have hzA : zA 7 a b n r z = up z 0 (nxD (nxD (z 0))) := rfl
      have huu : ∀ v1 v2 : Int32, up (up z 0 v1) 0 v2 = up z 0 v2 := by
        intro v1 v2; funext i; by_cases q : i = 0
        · subst q; rw [up_s, up_s]
        · rw [up_n _ _ q, up_n _ _ q, up_n _ _ q]
      rw [if_neg (nI_ne0 (by omega) (by omega)), hm354 _ _ (nI_ne0 (by omega) (by omega))]
      simp (disch := omega) only [Option.bind_some, Option.toList_some, Option.toList_none, List.append_nil, List.cons_append, List.nil_append, ↓reduceIte, true_or, or_true, Nat.reduceAdd, Nat.add_assoc, b353_21 o11, hm354 3 _ (show ¬ (3 : Int32) = 0 by decide), up_s, huu]
      rw [b353_35 (S := hs_S0) (u0 := 145) (n_u0 := 1995) (a_u0 := rfl)]
      simp (disch := omega) only [Option.bind_some, Option.toList_some, Option.toList_none, List.append_nil, List.cons_append, List.nil_append, ↓reduceIte, true_or, or_true, Nat.reduceAdd, Nat.add_assoc, f_ge, t_le, t_lt, f_lt, f_l0, t_0l, t_pl, t_eq, f_eq, f_e0, i10, i01, ib_nI, nI_clamp, nI_add, ad10, ad18, ad26, ad34, ad42, ad47, ad52, ad59, ad107, ad117, ml8, mr8, ml5, ml10, mk_145, mk_u, mk_33, mk_34, mk_35, mk_36, mk_37, mk_38, mk_32, mk_39, mk_u33, mk_u34, mk_u35, mk_u36, mk_u37, mk_u38, mk_u32, mk_u39, hd, b350_86, g, ne_eq, not_false_eq_true]
      rw [hrA, hzA]
/-- does the test hold -/
def soA (n : Nat) (r : Nat → Int32) (w : Nat) : Bool :=
  if r (w + 6) = 2 then decide (r 9 = 1)
  else if r (w + 6) = 0 then decide (cn (qV r (r (w + 1)).toNatClampNeg) n = 0)
  else if r (w + 7) = 60 then decide (r (10 + (r (w + 1)).toNatClampNeg) < r (w + 2))
  else if r (w + 7) = 62 then decide (r (w + 2) < r (10 + (r (w + 1)).toNatClampNeg))
  else decide (r (10 + (r (w + 1)).toNatClampNeg) = r (w + 2))
theorem m355 (o11 : ok11 hs_S0 R 140) (h : RW n np nr nl r) (hw : w + 8 < 1995) (h8 : (r (w + 6) = 2) ∨ (r (w + 6) = 0 ∧ ∃ l, l < nl ∧ r (w + 1) = nI l) ∨ (r (w + 6) = 1 ∧ (∃ j, j < n ∧ r (w + 1) = nI j) ∧ (r (w + 7) = 60 ∨ r (w + 7) = 62 ∨ r (w + 7) = 61))) : hs_C scr (d + 3) 355 [.ref 140, .int (nI w)] (hs_S0, mkM J0 r z, L, R) = some (some (.int (if soA n r w = true then 1 else 0)), (hs_S0, mkM J0 r z, L, R)) := by
  have hn := h.1
  have hnl := h.2.2.2.2.2.2.2.2.2.1
  have i20 : ((2 : Int32) = 0) = False := eq_false (by decide)
  have i12 : ((1 : Int32) = 2) = False := eq_false (by decide)
  have i02 : ((0 : Int32) = 2) = False := eq_false (by decide)
  have i60 : ((61 : Int32) = 60) = False := eq_false (by decide)
  have i61 : ((61 : Int32) = 62) = False := eq_false (by decide)
  have i62 : ((62 : Int32) = 60) = False := eq_false (by decide)
  rw [e355, b355_0 o11]
  rcases h8 with e6 | ⟨e6, l, hl, e1⟩ | ⟨e6, ⟨j, hj, e1⟩, e7⟩
  · simp (disch := omega) only [Option.bind_some, Option.toList_some, Option.toList_none, List.append_nil, List.cons_append, List.nil_append, ↓reduceIte, true_or, or_true, Nat.reduceAdd, Nat.add_assoc, f_ge, t_le, t_lt, f_lt, f_l0, t_0l, t_pl, t_eq, f_eq, f_e0, i10, i01, ib_nI, nI_clamp, nI_add, ad10, ad18, ad26, ad34, ad42, ad47, ad52, ad59, ad107, ad117, ml8, mr8, ml5, ml10, mk_145, mk_u, mk_33, mk_34, mk_35, mk_36, mk_37, mk_38, mk_32, mk_39, mk_u33, mk_u34, mk_u35, mk_u36, mk_u37, mk_u38, mk_u32, mk_u39, adw6, e6, soA, decide_eq_true_eq, b355_31]
    by_cases g : r 9 = 1
    · simp only [g, ↓reduceIte, or_true]
    · simp only [g, ↓reduceIte, true_or]
  · have h301 := m301 (scr := scr) (d := d) (I := mkM J0 r z) (L := L) (n := n) (l := l) o11 (by rw [mk_145]; exact h.2.1) hn (by omega)
    rw [mk_145] at h301
    have hcn := cn_le (q := qV r l) n
    simp (disch := omega) only [Option.bind_some, Option.toList_some, Option.toList_none, List.append_nil, List.cons_append, List.nil_append, ↓reduceIte, true_or, or_true, Nat.reduceAdd, Nat.add_assoc, f_ge, t_le, t_lt, f_lt, f_l0, t_0l, t_pl, t_eq, f_eq, f_e0, i10, i01, ib_nI, nI_clamp, nI_add, ad10, ad18, ad26, ad34, ad42, ad47, ad52, ad59, ad107, ad117, ml8, mr8, ml5, ml10, mk_145, mk_u, mk_33, mk_34, mk_35, mk_36, mk_37, mk_38, mk_32, mk_39, mk_u33, mk_u34, mk_u35, mk_u36, mk_u37, mk_u38, mk_u32, mk_u39, adw6, nI_1, e6, e1, i02, soA, decide_eq_true_eq, h301, b355_48]
    by_cases g : cn (qV r l) n = 0
    · simp (disch := omega) only [g, ↓reduceIte, nI_0, b355_56, or_true]
    · simp (disch := omega) only [g, ↓reduceIte, f_e0, b355_56, true_or]
  · rcases e7 with e7 | e7 | e7
    · simp (disch := omega) only [Option.bind_some, Option.toList_some, Option.toList_none, List.append_nil, List.cons_append, List.nil_append, ↓reduceIte, true_or, or_true, Nat.reduceAdd, Nat.add_assoc, f_ge, t_le, t_lt, f_lt, f_l0, t_0l, t_pl, t_eq, f_eq, f_e0, i10, i01, ib_nI, nI_clamp, nI_add, ad10, ad18, ad26, ad34, ad42, ad47, ad52, ad59, ad107, ad117, ml8, mr8, ml5, ml10, mk_145, mk_u, mk_33, mk_34, mk_35, mk_36, mk_37, mk_38, mk_32, mk_39, mk_u33, mk_u34, mk_u35, mk_u36, mk_u37, mk_u38, mk_u32, mk_u39, adw6, adw7, adw2, nI_1, e6, e1, e7, i12, i10, soA, decide_eq_true_eq]
      by_cases g : r (w + 2) ≤ r (10 + j)
      · simp only [g, (i32_nlt _ _).mpr g, ↓reduceIte, b355_159, true_or]
      · simp only [g, Classical.byContradiction (fun q => g ((i32_nlt _ _).mp q)), ↓reduceIte, b355_159, or_true]
    · simp (disch := omega) only [Option.bind_some, Option.toList_some, Option.toList_none, List.append_nil, List.cons_append, List.nil_append, ↓reduceIte, true_or, or_true, Nat.reduceAdd, Nat.add_assoc, f_ge, t_le, t_lt, f_lt, f_l0, t_0l, t_pl, t_eq, f_eq, f_e0, i10, i01, ib_nI, nI_clamp, nI_add, ad10, ad18, ad26, ad34, ad42, ad47, ad52, ad59, ad107, ad117, ml8, mr8, ml5, ml10, mk_145, mk_u, mk_33, mk_34, mk_35, mk_36, mk_37, mk_38, mk_32, mk_39, mk_u33, mk_u34, mk_u35, mk_u36, mk_u37, mk_u38, mk_u32, mk_u39, adw6, adw7, adw2, nI_1, e6, e1, e7, i12, i10, i62, soA, decide_eq_true_eq]
      by_cases g : r (10 + j) ≤ r (w + 2)
      · simp only [g, (i32_nlt _ _).mpr g, ↓reduceIte, b355_159, true_or]
      · simp only [g, Classical.byContradiction (fun q => g ((i32_nlt _ _).mp q)), ↓reduceIte, b355_159, or_true]
    · simp (disch := omega) only [Option.bind_some, Option.toList_some, Option.toList_none, List.append_nil, List.cons_append, List.nil_append, ↓reduceIte, true_or, or_true, Nat.reduceAdd, Nat.add_assoc, f_ge, t_le, t_lt, f_lt, f_l0, t_0l, t_pl, t_eq, f_eq, f_e0, i10, i01, ib_nI, nI_clamp, nI_add, ad10, ad18, ad26, ad34, ad42, ad47, ad52, ad59, ad107, ad117, ml8, mr8, ml5, ml10, mk_145, mk_u, mk_33, mk_34, mk_35, mk_36, mk_37, mk_38, mk_32, mk_39, mk_u33, mk_u34, mk_u35, mk_u36, mk_u37, mk_u38, mk_u32, mk_u39, adw6, adw7, adw2, nI_1, e6, e1, e7, i12, i10, i60, i61, soA, decide_eq_true_eq]
      by_cases g : r (10 + j) = r (w + 2)
      · simp only [g, ↓reduceIte, b355_159, or_true]
      · simp only [g, ↓reduceIte, b355_159, true_or]
end MA
