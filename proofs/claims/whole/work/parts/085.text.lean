/-! length() and charAt() of the one text -/
section HT
variable {p : Program} {l : Launch} {e : Env} {R : Room} {s : State} {m : MethodId} {args : Array Value} {below : List Frame} {meth : Method} {c : Code} {H : Heap} {locs : List Loc} {cells slots : Nat} {Q : State → Prop}
variable {D : va_G} {bs : Nat} {b : Nat × Nat} {ac : FieldType → ClassId} {scr : List Int32} {j pc : Nat} {ls : Array Slot} {rest : List Value} {h : hs_H}
theorem hs_wlen (hC : hs_Cx p s m args meth c D bs b ac scr j) {idx : Nat} (hlink : Cond.methodLink (hs_cn (hs_own j)) idx yJ0_length_8abf5 ∈ hs_g) (hls : ls.size = hs_mL j) (hS : va_S (hs_A bs) s.heap H locs) (hR : 8 ≤ R.frames ∧ 480 ≤ R.locals) (h8 : (rest.map fun v => v.category).sum ≤ 8) (hcap : cells ≤ R.cells ∧ slots ≤ R.slots) (hd : decode (hs_code j) pc = .ok (.invokevirtual idx, 3))
    (K : W p l e R s m args below meth c H locs cells slots Q (F0 m (pc + 3) ls (.int (Int32.ofNat hs_tx.length) :: rest))) : W p l e R s m args below meth c H locs cells slots Q (F0 m pc ls (.ref b.2 :: rest)) := by
  sorry
theorem hs_wchr (hC : hs_Cx p s m args meth c D bs b ac scr j) {idx : Nat} {i : Int32} (hlink : Cond.methodLink (hs_cn (hs_own j)) idx yJ0_charAt_5068e ∈ hs_g) (hls : ls.size = hs_mL j) (hS : va_S (hs_A bs) s.heap H locs) (hR : 8 ≤ R.frames ∧ 480 ≤ R.locals) (h8 : (rest.map fun v => v.category).sum ≤ 8) (hcap : cells ≤ R.cells ∧ slots ≤ R.slots) (hi : hs_ib i hs_tx.length = true) (hd : decode (hs_code j) pc = .ok (.invokevirtual idx, 3))
    (K : W p l e R s m args below meth c H locs cells slots Q (F0 m (pc + 3) ls (.int (hs_tx.getD i.toNatClampNeg 0) :: rest))) : W p l e R s m args below meth c H locs cells slots Q (F0 m pc ls (.int i :: .ref b.2 :: rest)) := by
  sorry
end HT
