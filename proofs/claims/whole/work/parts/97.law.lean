/-! what is still owed: the law, evaluated -/
def hs_h0 : hs_H := ([.inl 99, .inl 98], fun _ _ => 0, fun _ _ => 0, fun _ _ => 0)
theorem hs_owed (scr : List Int32) (h : scr.length ≤ 3072) : ∃ (n : Nat) (h' : hs_H), hs_run scr n 100 hs_jL 0 (hs_en 4 [.ref 0]) [] hs_h0 = some (some (.int 1), h') ∧ hs_nn h' ≤ 600000 ∧ hs_ns h' ≤ 7302250 := sorry
