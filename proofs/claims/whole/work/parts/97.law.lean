/-! the law, evaluated -/
theorem cAll (scr : List Int32) : CAll scr hs_S0 Rel 99 := ⟨ca0, ca1, ca2, ca3, ca4, ca5, ca6, ca7, ca8, ca9, ca10, ca11, ca12, ca13, ca14, ca15, ca16, ca17, ca18, ca19, ca20, ca21, ca22, ca23, ca24, ca25, ca26, ca27, ca28, ca29, ca30, ca31, ca32, ca33, ca34, ca35, ca36, ca37, ca38, ca39, ca40, ca41, ca42, ca43, ca44, ca45, ca46, ca47, ca48, ca49, ca50, ca51, ca52, ca53, ca54, ca55, ca56, ca57, ca58, ca59, ca60⟩
theorem hs_owed (scr : List Int32) (h : scr.length ≤ 3072) : ∃ (n : Nat) (h' : hs_H), hs_run scr n 100 hs_jL 0 (hs_en 4 [.ref 0]) [] hs_h0 = some (some (.int 1), h') ∧ hs_nn h' ≤ 600000 ∧ hs_ns h' ≤ 7302250 := by
  apply hs_owe
  obtain ⟨I, L, R, e1, hR, hI, hL⟩ := law_start scr
  obtain ⟨I2, L2, R2, e2⟩ := law_loop (cAll scr) (fun I L R h => Rel_ok h) (rfl : hs_S0[0]? = some (.inl 99)) h (scr.length + 1) 0 I L R (by omega) (Rel_init hR hI hL) (by omega)
  rw [nI_0] at e2
  have hn : hs_nn (hs_S0, I2, L2, R2) ≤ 600000 := by
    show hs_nn (hs_S0, (fun _ _ => 0), (fun _ _ => 0), (fun _ _ => 0)) ≤ 600000
    decide +kernel
  have hs : hs_ns (hs_S0, I2, L2, R2) ≤ 7302250 := by
    show hs_ns (hs_S0, (fun _ _ => 0), (fun _ _ => 0), (fun _ _ => 0)) ≤ 7302250
    decide +kernel
  exact ⟨(hs_S0, I2, L2, R2), e1.trans e2, hn, hs⟩
