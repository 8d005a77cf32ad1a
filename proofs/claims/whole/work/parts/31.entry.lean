/-! the law's entry: both objects made -/
theorem d360_0 : decode (hs_code 360) 0 = .ok (.new 7, 3) := by decide +kernel
theorem d360_3 : decode (hs_code 360) 3 = .ok (.dup, 1) := by decide +kernel
theorem d360_4 : decode (hs_code 360) 4 = .ok (.invokespecial 9, 3) := by decide +kernel
theorem d360_7 : decode (hs_code 360) 7 = .ok (.astore_n 1, 1) := by decide +kernel
theorem d360_8 : decode (hs_code 360) 8 = .ok (.new 10, 3) := by decide +kernel
theorem d360_11 : decode (hs_code 360) 11 = .ok (.dup, 1) := by decide +kernel
theorem d360_12 : decode (hs_code 360) 12 = .ok (.invokespecial 12, 3) := by decide +kernel
theorem n360_7 : hs_new (hs_own 360) 7 = some 10 := by decide +kernel
theorem n360_10 : hs_new (hs_own 360) 10 = some 11 := by decide +kernel
theorem k360_9 : hs_cal (hs_own 360) 9 = some (2, 0) := by decide +kernel
theorem k360_12 : hs_cal (hs_own 360) 12 = some (2, 191) := by decide +kernel
theorem r_new {scr : List Int32} {d j pc k ci : Nat} {loc : hs_L} {st : List Value} {h : hs_H} (hd : decode (hs_code j) pc = .ok (.new k, 3)) (hc : hs_new (hs_own j) k = some ci) : hs_R scr d j pc loc st h = hs_R scr d j (pc + 3) loc (.ref h.1.length :: st) (hs_add (.inl ci) h) := hs_R_go (t := (pc + 3, loc, .ref h.1.length :: st, hs_add (.inl ci) h)) ((hs_stp_of hd (Or.inr rfl)).trans (by show (hs_new (hs_own j) k).bind _ = _; rw [hc]; rfl))
theorem law_start (scr : List Int32) : ∃ (I : Nat → Nat → Int32) (L : Nat → Nat → Int64) (R : Nat → Nat → Nat), hs_R scr 100 360 0 (hs_en 4 [.ref 0]) [] hs_h0 = hs_R scr 100 360 18 [some (.ref 0), some (.ref 2), some (.ref 140), some (.int 0)] [] (hs_S0, I, L, R) ∧ (∀ e ∈ hs_R0, R e.1 e.2.1 = e.2.2) ∧ (∀ e ∈ hs_I0, I e.1 e.2.1 = e.2.2) ∧ (∀ e ∈ hs_L0, L e.1 e.2.1 = e.2.2) := by
  have hg := ct_gone
  unfold ct_go at hg
  cases e1 : ct_run 20000 99 0 0 (hs_en (hs_mL 0) [.ref 2]) [] (hs_add (.inl 10) hs_h0) with
  | none => rw [e1] at hg; cases hg
  | some o =>
    rw [e1] at hg
    dsimp only at hg
    cases e2 : ct_run 20000 99 191 0 (hs_en (hs_mL 191) [.ref 140]) [] (hs_add (.inl 11) o.2) with
    | none => rw [e2] at hg; cases hg
    | some p =>
      rw [e2] at hg
      obtain ⟨ov, oS, oI, oL, oR⟩ := o
      obtain ⟨pv, pS, pI, pL, pR⟩ := p
      simp only [ct_chk, Bool.and_eq_true, decide_eq_true_eq, List.all_eq_true, Option.isNone_iff_eq_none] at hg
      obtain ⟨⟨⟨rfl, rfl⟩, hl⟩, ⟨⟨hS, hR⟩, hI⟩, hL⟩ := hg
      have c1 : hs_C scr 99 0 [.ref 2] (hs_add (.inl 10) hs_h0) = some (none, (oS, oI, oL, oR)) := ct_run_ok _ _ _ _ _ _ _ _ e1
      have c2 : hs_C scr 99 191 [.ref 140] (hs_add (.inl 11) (oS, oI, oL, oR)) = some (none, (pS, pI, pL, pR)) := ct_run_ok _ _ _ _ _ _ _ _ e2
      refine ⟨pI, pL, pR, ?_, hR, hI, hL⟩
      refine (r_new d360_0 n360_7).trans ?_
      refine (r_dup (v := .ref 2) d360_3 rfl).trans ?_
      refine (r_ci2 (as := []) (b := 2) (r := [.ref 2]) d360_4 k360_9 (by decide) (by decide +kernel) rfl (by decide +kernel)).trans ?_
      rw [c1]
      refine (r_as_n (loc' := [some (.ref 0), some (.ref 2), none, none]) d360_7 rfl).trans ?_
      refine (r_new d360_8 n360_10).trans ?_
      have hl' : (oS, oI, oL, oR).1.length = 140 := hl
      rw [hl']
      refine (r_dup (v := .ref 140) d360_11 rfl).trans ?_
      refine (r_ci2 (as := []) (b := 140) (r := [.ref 140]) d360_12 k360_12 (by decide) (by decide +kernel) rfl (by decide +kernel)).trans ?_
      rw [c2]
      refine b360_15.trans ?_
      rw [hS]
