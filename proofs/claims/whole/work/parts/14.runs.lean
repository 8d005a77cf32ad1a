/-! the evaluator without fuel: a function, with an equation for each instruction -/
theorem hs_mono {scr : List Int32} : ∀ (n d j pc : Nat) (loc : hs_L) (st : List Value) (h : hs_H) (o : hs_O), hs_run scr n d j pc loc st h = some o → ∀ n', n ≤ n' → hs_run scr n' d j pc loc st h = some o
  | 0, _, _, _, _, _, _, _, hr, _, _ => by cases hr
  | n + 1, d, j, pc, loc, st, h, o, hr, n', hn => by
    obtain ⟨k, rfl⟩ : ∃ k, n' = k + 1 := ⟨n' - 1, by omega⟩
    have hk : n ≤ k := by omega
    rw [hs_run] at hr ⊢
    cases hst : hs_stp scr j pc loc st h with
    | none => rw [hst] at hr; cases hr
    | some x =>
      rw [hst] at hr
      match x, hr with
      | .inl t, hr => exact hs_mono n d j t.1 t.2.1 t.2.2.1 t.2.2.2 o hr k hk
      | .inr (.inl o'), hr => exact hr
      | .inr (.inr c), hr =>
        cases d with
        | zero => exact hr
        | succ d =>
          dsimp only at hr ⊢
          split at hr
          · rename_i hf
            rw [if_pos hf]
            cases hc : hs_run scr n d c.1 0 (hs_en (hs_mL c.1) c.2.1) [] c.2.2.2.2.2 with
            | none => rw [hc] at hr; cases hr
            | some o1 =>
              rw [hc] at hr
              rw [hs_mono n d c.1 0 _ _ _ o1 hc k hk]
              exact hs_mono n (d + 1) j _ _ _ _ o hr k hk
          · cases hr
noncomputable def hs_R (scr : List Int32) (d j pc : Nat) (loc : hs_L) (st : List Value) (h : hs_H) : Option hs_O :=
  @dite _ (∃ (n : Nat) (o : hs_O), hs_run scr n d j pc loc st h = some o) (Classical.propDecidable _) (fun hx => some hx.choose_spec.choose) (fun _ => none)
theorem hs_R_iff {scr : List Int32} {d j pc : Nat} {loc : hs_L} {st : List Value} {h : hs_H} {o : hs_O} : hs_R scr d j pc loc st h = some o ↔ ∃ n, hs_run scr n d j pc loc st h = some o := by
  unfold hs_R
  constructor
  · intro he
    split at he
    · rename_i hx
      refine ⟨hx.choose, ?_⟩
      have := hx.choose_spec.choose_spec
      rw [Option.some.inj he] at this
      exact this
    · cases he
  · rintro ⟨n, hn⟩
    have hx : ∃ (n : Nat) (o : hs_O), hs_run scr n d j pc loc st h = some o := ⟨n, o, hn⟩
    rw [dif_pos hx]
    have h1 := hx.choose_spec.choose_spec
    have h2 := hs_mono _ _ _ _ _ _ _ _ h1 (max hx.choose n) (Nat.le_max_left _ _)
    have h3 := hs_mono _ _ _ _ _ _ _ _ hn (max hx.choose n) (Nat.le_max_right _ _)
    rw [h2] at h3
    exact h3
theorem hs_R_ext {scr : List Int32} {d j pc d' j' pc' : Nat} {loc loc' : hs_L} {st st' : List Value} {h h' : hs_H} (e : ∀ o, (∃ n, hs_run scr n d j pc loc st h = some o) ↔ ∃ n, hs_run scr n d' j' pc' loc' st' h' = some o) : hs_R scr d j pc loc st h = hs_R scr d' j' pc' loc' st' h' := by
  apply Option.ext
  intro o
  rw [hs_R_iff, hs_R_iff]
  exact e o
section HRN
variable {scr : List Int32} {d j pc : Nat} {loc : hs_L} {st : List Value} {h : hs_H}
theorem hs_R_go {t : hs_T} (e : hs_stp scr j pc loc st h = some (.inl t)) : hs_R scr d j pc loc st h = hs_R scr d j t.1 t.2.1 t.2.2.1 t.2.2.2 := by
  apply hs_R_ext
  intro o
  constructor
  · rintro ⟨n, hn⟩
    cases n with
    | zero => cases hn
    | succ n =>
      rw [hs_run, e] at hn
      exact ⟨n, hn⟩
  · rintro ⟨n, hn⟩
    exact ⟨n + 1, by rw [hs_run, e]; exact hn⟩
theorem hs_R_ret {o : hs_O} (e : hs_stp scr j pc loc st h = some (.inr (.inl o))) : hs_R scr d j pc loc st h = some o := hs_R_iff.mpr ⟨1, by rw [hs_run, e]⟩
theorem hs_R_none (e : hs_stp scr j pc loc st h = none) : hs_R scr d j pc loc st h = none := by
  cases hr : hs_R scr d j pc loc st h with
  | none => rfl
  | some o =>
    obtain ⟨n, hn⟩ := hs_R_iff.mp hr
    cases n with
    | zero => cases hn
    | succ n => rw [hs_run, e] at hn; cases hn
/-- a call of method j at these arguments -/
noncomputable def hs_C (scr : List Int32) (d j : Nat) (as : List Value) (h : hs_H) : Option hs_O := hs_R scr d j 0 (hs_en (hs_mL j) as) [] h
theorem hs_R_call {jj pc' : Nat} {as r : List Value} {loc' : hs_L} {h' : hs_H} (e : hs_stp scr j pc loc st h = some (.inr (.inr (jj, as, pc', loc', r, h')))) (hf : hs_fitn jj as = true) : hs_R scr (d + 1) j pc loc st h = (hs_C scr d jj as h').bind fun o => hs_R scr (d + 1) j pc' loc' (o.1.toList ++ r) o.2 := by
  apply Option.ext
  intro o
  rw [hs_R_iff, Option.bind_eq_some_iff]
  constructor
  · rintro ⟨n, hn⟩
    cases n with
    | zero => cases hn
    | succ n =>
      rw [hs_run, e] at hn
      dsimp only at hn
      rw [if_pos hf] at hn
      cases hc : hs_run scr n d jj 0 (hs_en (hs_mL jj) as) [] h' with
      | none => rw [hc] at hn; cases hn
      | some o1 =>
        rw [hc] at hn
        exact ⟨o1, hs_R_iff.mpr ⟨n, hc⟩, hs_R_iff.mpr ⟨n, hn⟩⟩
  · rintro ⟨o1, h1, h2⟩
    obtain ⟨n1, g1⟩ := hs_R_iff.mp h1
    obtain ⟨n2, g2⟩ := hs_R_iff.mp h2
    refine ⟨max n1 n2 + 1, ?_⟩
    rw [hs_run, e]
    dsimp only
    rw [if_pos hf, hs_mono _ _ _ _ _ _ _ _ g1 _ (Nat.le_max_left n1 n2)]
    exact hs_mono _ _ _ _ _ _ _ _ g2 _ (Nat.le_max_right n1 n2)
theorem hs_stp_of {i : Instr} {len : Nat} (hd : decode (hs_code j) pc = .ok (i, len)) (hl : hs_ln i = 0 ∨ len = hs_ln i) : hs_stp scr j pc loc st h = hs_xi scr j i pc loc st h := by
  unfold hs_stp
  rw [hd]
  exact if_pos hl
end HRN
/-- at last: what the law's evaluation must give -/
theorem hs_owe {scr : List Int32} {h : hs_H} (e : ∃ h', hs_R scr 100 hs_jL 0 (hs_en 4 [.ref 0]) [] h = some (some (.int 1), h') ∧ hs_nn h' ≤ 600000 ∧ hs_ns h' ≤ 7302250) : ∃ (n : Nat) (h' : hs_H), hs_run scr n 100 hs_jL 0 (hs_en 4 [.ref 0]) [] h = some (some (.int 1), h') ∧ hs_nn h' ≤ 600000 ∧ hs_ns h' ≤ 7302250 := by
  obtain ⟨h', h1, h2⟩ := e
  obtain ⟨n, hn⟩ := hs_R_iff.mp h1
  exact ⟨n, h', hn, h2⟩
