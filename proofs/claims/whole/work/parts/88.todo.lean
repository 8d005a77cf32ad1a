/-! still owed -/
theorem ca8 {scr : List Int32} : CA8 scr hs_S0 Rel 99 := sorry
theorem ca9 {scr : List Int32} : CA9 scr hs_S0 Rel 99 := sorry
theorem ca56 {scr : List Int32} : CA56 scr hs_S0 Rel 99 := sorry
theorem ca58 {scr : List Int32} : CA58 scr hs_S0 Rel 99 := sorry
