/-! the law's loop. Written by gen/mkloop.py -/
def CA0 (scr : List Int32) (S : List hs_S) (P : (Nat → Nat → Int32) → (Nat → Nat → Int64) → (Nat → Nat → Nat) → Prop) (d : Nat) : Prop := CKi scr S P d 13 193 []
def CA1 (scr : List Int32) (S : List hs_S) (P : (Nat → Nat → Int32) → (Nat → Nat → Int64) → (Nat → Nat → Nat) → Prop) (d : Nat) : Prop := CKl scr S P d 14 194 []
def CA2 (scr : List Int32) (S : List hs_S) (P : (Nat → Nat → Int32) → (Nat → Nat → Int64) → (Nat → Nat → Nat) → Prop) (d : Nat) : Prop := CKl scr S P d 15 195 []
def CA3 (scr : List Int32) (S : List hs_S) (P : (Nat → Nat → Int32) → (Nat → Nat → Int64) → (Nat → Nat → Nat) → Prop) (d : Nat) : Prop := (∀ (a0 : Int32) (a1 : Int32) (a2 : Int32), CKi scr S P d 16 196 [.int a0, .int a1, .int a2])
def CA4 (scr : List Int32) (S : List hs_S) (P : (Nat → Nat → Int32) → (Nat → Nat → Int64) → (Nat → Nat → Nat) → Prop) (d : Nat) : Prop := (∀ (a0 : Int32) (a1 : Int32) (a2 : Int64), CKi scr S P d 21 198 [.int a0, .int a1, .long a2])
def CA5 (scr : List Int32) (S : List hs_S) (P : (Nat → Nat → Int32) → (Nat → Nat → Int64) → (Nat → Nat → Nat) → Prop) (d : Nat) : Prop := (∀ (a0 : Int32) (a1 : Int32), CKl scr S P d 27 202 [.int a0, .int a1])
def CA6 (scr : List Int32) (S : List hs_S) (P : (Nat → Nat → Int32) → (Nat → Nat → Int64) → (Nat → Nat → Nat) → Prop) (d : Nat) : Prop := (∀ (a0 : Int32) (a1 : Int32) (a2 : Int32) (a3 : Int32) (a4 : Int32), CKi scr S P d 29 203 [.int a0, .int a1, .int a2, .int a3, .int a4])
def CA7 (scr : List Int32) (S : List hs_S) (P : (Nat → Nat → Int32) → (Nat → Nat → Int64) → (Nat → Nat → Nat) → Prop) (d : Nat) : Prop := (∀ (a0 : Int32) (a1 : Int32) (a2 : Int32) (a3 : Int32) (a4 : Int32), CKi scr S P d 31 204 [.int a0, .int a1, .int a2, .int a3, .int a4])
def CA8 (scr : List Int32) (S : List hs_S) (P : (Nat → Nat → Int32) → (Nat → Nat → Int64) → (Nat → Nat → Nat) → Prop) (d : Nat) : Prop := (∀ (a0 : Int32), CKi scr S P d 34 207 [.int a0])
def CA9 (scr : List Int32) (S : List hs_S) (P : (Nat → Nat → Int32) → (Nat → Nat → Int64) → (Nat → Nat → Nat) → Prop) (d : Nat) : Prop := (∀ (a0 : Int32), CKi scr S P d 69 260 [.int a0])
def CA10 (scr : List Int32) (S : List hs_S) (P : (Nat → Nat → Int32) → (Nat → Nat → Int64) → (Nat → Nat → Nat) → Prop) (d : Nat) : Prop := (∀ (a0 : Int32), CKi scr S P d 79 206 [.int a0])
def CA11 (scr : List Int32) (S : List hs_S) (P : (Nat → Nat → Int32) → (Nat → Nat → Int64) → (Nat → Nat → Nat) → Prop) (d : Nat) : Prop := (∀ (a0 : Int32), CKi scr S P d 80 264 [.int a0])
def CA12 (scr : List Int32) (S : List hs_S) (P : (Nat → Nat → Int32) → (Nat → Nat → Int64) → (Nat → Nat → Nat) → Prop) (d : Nat) : Prop := (∀ (a0 : Int32) (a1 : Int32), CKi scr S P d 88 271 [.int a0, .int a1])
def CA13 (scr : List Int32) (S : List hs_S) (P : (Nat → Nat → Int32) → (Nat → Nat → Int64) → (Nat → Nat → Nat) → Prop) (d : Nat) : Prop := (∀ (a0 : Int32) (a1 : Int32), CKi scr S P d 90 273 [.int a0, .int a1])
def CA14 (scr : List Int32) (S : List hs_S) (P : (Nat → Nat → Int32) → (Nat → Nat → Int64) → (Nat → Nat → Nat) → Prop) (d : Nat) : Prop := CKi scr S P d 92 275 []
def CA15 (scr : List Int32) (S : List hs_S) (P : (Nat → Nat → Int32) → (Nat → Nat → Int64) → (Nat → Nat → Nat) → Prop) (d : Nat) : Prop := (∀ (a0 : Int32), CKi scr S P d 93 276 [.int a0])
def CA16 (scr : List Int32) (S : List hs_S) (P : (Nat → Nat → Int32) → (Nat → Nat → Int64) → (Nat → Nat → Nat) → Prop) (d : Nat) : Prop := (∀ (a0 : Int32) (a1 : Int32), CKi scr S P d 94 277 [.int a0, .int a1])
def CA17 (scr : List Int32) (S : List hs_S) (P : (Nat → Nat → Int32) → (Nat → Nat → Int64) → (Nat → Nat → Nat) → Prop) (d : Nat) : Prop := (∀ (a0 : Int32) (a1 : Int32), CKi scr S P d 97 280 [.int a0, .int a1])
def CA18 (scr : List Int32) (S : List hs_S) (P : (Nat → Nat → Int32) → (Nat → Nat → Int64) → (Nat → Nat → Nat) → Prop) (d : Nat) : Prop := (∀ (a0 : Int32), CKi scr S P d 98 281 [.int a0])
def CA19 (scr : List Int32) (S : List hs_S) (P : (Nat → Nat → Int32) → (Nat → Nat → Int64) → (Nat → Nat → Nat) → Prop) (d : Nat) : Prop := (∀ (a0 : Int32), CKi scr S P d 99 283 [.int a0])
def CA20 (scr : List Int32) (S : List hs_S) (P : (Nat → Nat → Int32) → (Nat → Nat → Int64) → (Nat → Nat → Nat) → Prop) (d : Nat) : Prop := (CKi scr S P d 104 285 [.int 0] ∧ CKi scr S P d 104 285 [.int 1])
def CA21 (scr : List Int32) (S : List hs_S) (P : (Nat → Nat → Int32) → (Nat → Nat → Int64) → (Nat → Nat → Nat) → Prop) (d : Nat) : Prop := (∀ (a0 : Int32) (a1 : Int32), CKi scr S P d 106 287 [.int a0, .int a1])
def CA22 (scr : List Int32) (S : List hs_S) (P : (Nat → Nat → Int32) → (Nat → Nat → Int64) → (Nat → Nat → Nat) → Prop) (d : Nat) : Prop := (∀ (a0 : Int32) (a1 : Int32), CKi scr S P d 108 288 [.int a0, .int a1])
def CA23 (scr : List Int32) (S : List hs_S) (P : (Nat → Nat → Int32) → (Nat → Nat → Int64) → (Nat → Nat → Nat) → Prop) (d : Nat) : Prop := (∀ (a0 : Int32) (a1 : Int32), CKi scr S P d 111 291 [.int a0, .int a1])
def CA24 (scr : List Int32) (S : List hs_S) (P : (Nat → Nat → Int32) → (Nat → Nat → Int64) → (Nat → Nat → Nat) → Prop) (d : Nat) : Prop := CKi scr S P d 113 293 []
def CA25 (scr : List Int32) (S : List hs_S) (P : (Nat → Nat → Int32) → (Nat → Nat → Int64) → (Nat → Nat → Nat) → Prop) (d : Nat) : Prop := (∀ (a0 : Int32) (a1 : Int32), CKi scr S P d 115 295 [.int a0, .int a1])
def CA26 (scr : List Int32) (S : List hs_S) (P : (Nat → Nat → Int32) → (Nat → Nat → Int64) → (Nat → Nat → Nat) → Prop) (d : Nat) : Prop := (∀ (a0 : Int32) (a1 : Int32), CKi scr S P d 116 296 [.int a0, .int a1])
def CA27 (scr : List Int32) (S : List hs_S) (P : (Nat → Nat → Int32) → (Nat → Nat → Int64) → (Nat → Nat → Nat) → Prop) (d : Nat) : Prop := (∀ (a0 : Int32) (a1 : Int32), CKi scr S P d 117 297 [.int a0, .int a1])
def CA28 (scr : List Int32) (S : List hs_S) (P : (Nat → Nat → Int32) → (Nat → Nat → Int64) → (Nat → Nat → Nat) → Prop) (d : Nat) : Prop := (∀ (a0 : Int32) (a1 : Int32) (a2 : Int32), CKi scr S P d 118 298 [.int a0, .int a1, .int a2])
def CA29 (scr : List Int32) (S : List hs_S) (P : (Nat → Nat → Int32) → (Nat → Nat → Int64) → (Nat → Nat → Nat) → Prop) (d : Nat) : Prop := (∀ (a0 : Int32) (a1 : Int32), CKi scr S P d 119 299 [.int a0, .int a1])
def CA30 (scr : List Int32) (S : List hs_S) (P : (Nat → Nat → Int32) → (Nat → Nat → Int64) → (Nat → Nat → Nat) → Prop) (d : Nat) : Prop := (∀ (a0 : Int32), CKi scr S P d 120 300 [.int a0])
def CA31 (scr : List Int32) (S : List hs_S) (P : (Nat → Nat → Int32) → (Nat → Nat → Int64) → (Nat → Nat → Nat) → Prop) (d : Nat) : Prop := CKi scr S P d 122 303 []
def CA32 (scr : List Int32) (S : List hs_S) (P : (Nat → Nat → Int32) → (Nat → Nat → Int64) → (Nat → Nat → Nat) → Prop) (d : Nat) : Prop := (∀ (a0 : Int32), CKi scr S P d 123 304 [.int a0])
def CA33 (scr : List Int32) (S : List hs_S) (P : (Nat → Nat → Int32) → (Nat → Nat → Int64) → (Nat → Nat → Nat) → Prop) (d : Nat) : Prop := (∀ (a0 : Int32), CKi scr S P d 124 305 [.int a0])
def CA34 (scr : List Int32) (S : List hs_S) (P : (Nat → Nat → Int32) → (Nat → Nat → Int64) → (Nat → Nat → Nat) → Prop) (d : Nat) : Prop := (∀ (a0 : Int32), CKi scr S P d 125 308 [.int a0])
def CA35 (scr : List Int32) (S : List hs_S) (P : (Nat → Nat → Int32) → (Nat → Nat → Int64) → (Nat → Nat → Nat) → Prop) (d : Nat) : Prop := (∀ (a0 : Int32), CKi scr S P d 127 309 [.int a0])
def CA36 (scr : List Int32) (S : List hs_S) (P : (Nat → Nat → Int32) → (Nat → Nat → Int64) → (Nat → Nat → Nat) → Prop) (d : Nat) : Prop := (∀ (a0 : Int32) (a1 : Int32), CKi scr S P d 130 312 [.int a0, .int a1])
def CA37 (scr : List Int32) (S : List hs_S) (P : (Nat → Nat → Int32) → (Nat → Nat → Int64) → (Nat → Nat → Nat) → Prop) (d : Nat) : Prop := (∀ (a0 : Int32) (a1 : Int32), CKi scr S P d 131 313 [.int a0, .int a1])
def CA38 (scr : List Int32) (S : List hs_S) (P : (Nat → Nat → Int32) → (Nat → Nat → Int64) → (Nat → Nat → Nat) → Prop) (d : Nat) : Prop := (∀ (a0 : Int32) (a1 : Int32), CKi scr S P d 134 316 [.int a0, .int a1])
def CA39 (scr : List Int32) (S : List hs_S) (P : (Nat → Nat → Int32) → (Nat → Nat → Int64) → (Nat → Nat → Nat) → Prop) (d : Nat) : Prop := (∀ (a0 : Int32) (a1 : Int32), CKi scr S P d 135 317 [.int a0, .int a1])
def CA40 (scr : List Int32) (S : List hs_S) (P : (Nat → Nat → Int32) → (Nat → Nat → Int64) → (Nat → Nat → Nat) → Prop) (d : Nat) : Prop := CKi scr S P d 136 318 []
def CA41 (scr : List Int32) (S : List hs_S) (P : (Nat → Nat → Int32) → (Nat → Nat → Int64) → (Nat → Nat → Nat) → Prop) (d : Nat) : Prop := (∀ (a0 : Int32), CKi scr S P d 138 320 [.int a0])
def CA42 (scr : List Int32) (S : List hs_S) (P : (Nat → Nat → Int32) → (Nat → Nat → Int64) → (Nat → Nat → Nat) → Prop) (d : Nat) : Prop := (∀ (a0 : Int32) (a1 : Int32), CKi scr S P d 140 322 [.int a0, .int a1])
def CA43 (scr : List Int32) (S : List hs_S) (P : (Nat → Nat → Int32) → (Nat → Nat → Int64) → (Nat → Nat → Nat) → Prop) (d : Nat) : Prop := (∀ (a0 : Int32), CKi scr S P d 141 323 [.int a0])
def CA44 (scr : List Int32) (S : List hs_S) (P : (Nat → Nat → Int32) → (Nat → Nat → Int64) → (Nat → Nat → Nat) → Prop) (d : Nat) : Prop := (∀ (a0 : Int32), CKi scr S P d 142 324 [.int a0])
def CA45 (scr : List Int32) (S : List hs_S) (P : (Nat → Nat → Int32) → (Nat → Nat → Int64) → (Nat → Nat → Nat) → Prop) (d : Nat) : Prop := (∀ (a0 : Int32), CKi scr S P d 145 327 [.int a0])
def CA46 (scr : List Int32) (S : List hs_S) (P : (Nat → Nat → Int32) → (Nat → Nat → Int64) → (Nat → Nat → Nat) → Prop) (d : Nat) : Prop := CKi scr S P d 146 328 []
def CA47 (scr : List Int32) (S : List hs_S) (P : (Nat → Nat → Int32) → (Nat → Nat → Int64) → (Nat → Nat → Nat) → Prop) (d : Nat) : Prop := CKi scr S P d 148 331 []
def CA48 (scr : List Int32) (S : List hs_S) (P : (Nat → Nat → Int32) → (Nat → Nat → Int64) → (Nat → Nat → Nat) → Prop) (d : Nat) : Prop := (∀ (a0 : Int32) (a1 : Int32), CKi scr S P d 149 332 [.int a0, .int a1])
def CA49 (scr : List Int32) (S : List hs_S) (P : (Nat → Nat → Int32) → (Nat → Nat → Int64) → (Nat → Nat → Nat) → Prop) (d : Nat) : Prop := CKi scr S P d 152 335 []
def CA50 (scr : List Int32) (S : List hs_S) (P : (Nat → Nat → Int32) → (Nat → Nat → Int64) → (Nat → Nat → Nat) → Prop) (d : Nat) : Prop := CKi scr S P d 154 337 []
def CA51 (scr : List Int32) (S : List hs_S) (P : (Nat → Nat → Int32) → (Nat → Nat → Int64) → (Nat → Nat → Nat) → Prop) (d : Nat) : Prop := (∀ (a0 : Int32), CKi scr S P d 155 338 [.int a0])
def CA52 (scr : List Int32) (S : List hs_S) (P : (Nat → Nat → Int32) → (Nat → Nat → Int64) → (Nat → Nat → Nat) → Prop) (d : Nat) : Prop := (∀ (a0 : Int32), CKi scr S P d 156 340 [.int a0])
def CA53 (scr : List Int32) (S : List hs_S) (P : (Nat → Nat → Int32) → (Nat → Nat → Int64) → (Nat → Nat → Nat) → Prop) (d : Nat) : Prop := (∀ (a0 : Int32), CKi scr S P d 163 342 [.int a0])
def CA54 (scr : List Int32) (S : List hs_S) (P : (Nat → Nat → Int32) → (Nat → Nat → Int64) → (Nat → Nat → Nat) → Prop) (d : Nat) : Prop := (∀ (a0 : Int32) (a1 : Int32), CKi scr S P d 165 343 [.int a0, .int a1])
def CA55 (scr : List Int32) (S : List hs_S) (P : (Nat → Nat → Int32) → (Nat → Nat → Int64) → (Nat → Nat → Nat) → Prop) (d : Nat) : Prop := (∀ (a0 : Int32), CKi scr S P d 170 345 [.int a0])
def CA56 (scr : List Int32) (S : List hs_S) (P : (Nat → Nat → Int32) → (Nat → Nat → Int64) → (Nat → Nat → Nat) → Prop) (d : Nat) : Prop := (∀ (a0 : Int32), CKi scr S P d 171 346 [.int a0])
def CA57 (scr : List Int32) (S : List hs_S) (P : (Nat → Nat → Int32) → (Nat → Nat → Int64) → (Nat → Nat → Nat) → Prop) (d : Nat) : Prop := (∀ (a0 : Int32), CKi scr S P d 182 356 [.int a0])
def CA58 (scr : List Int32) (S : List hs_S) (P : (Nat → Nat → Int32) → (Nat → Nat → Int64) → (Nat → Nat → Nat) → Prop) (d : Nat) : Prop := (∀ (a0 : Int32) (a1 : Int32), CKi scr S P d 184 357 [.int a0, .int a1])
def CA59 (scr : List Int32) (S : List hs_S) (P : (Nat → Nat → Int32) → (Nat → Nat → Int64) → (Nat → Nat → Nat) → Prop) (d : Nat) : Prop := CKi scr S P d 188 358 []
def CA60 (scr : List Int32) (S : List hs_S) (P : (Nat → Nat → Int32) → (Nat → Nat → Int64) → (Nat → Nat → Nat) → Prop) (d : Nat) : Prop := CKi scr S P d 190 359 []
/-- every call of both keeps the invariant, and the answers agree -/
def CAll (scr : List Int32) (S : List hs_S) (P : (Nat → Nat → Int32) → (Nat → Nat → Int64) → (Nat → Nat → Nat) → Prop) (d : Nat) : Prop := CA0 scr S P d ∧ CA1 scr S P d ∧ CA2 scr S P d ∧ CA3 scr S P d ∧ CA4 scr S P d ∧ CA5 scr S P d ∧ CA6 scr S P d ∧ CA7 scr S P d ∧ CA8 scr S P d ∧ CA9 scr S P d ∧ CA10 scr S P d ∧ CA11 scr S P d ∧ CA12 scr S P d ∧ CA13 scr S P d ∧ CA14 scr S P d ∧ CA15 scr S P d ∧ CA16 scr S P d ∧ CA17 scr S P d ∧ CA18 scr S P d ∧ CA19 scr S P d ∧ CA20 scr S P d ∧ CA21 scr S P d ∧ CA22 scr S P d ∧ CA23 scr S P d ∧ CA24 scr S P d ∧ CA25 scr S P d ∧ CA26 scr S P d ∧ CA27 scr S P d ∧ CA28 scr S P d ∧ CA29 scr S P d ∧ CA30 scr S P d ∧ CA31 scr S P d ∧ CA32 scr S P d ∧ CA33 scr S P d ∧ CA34 scr S P d ∧ CA35 scr S P d ∧ CA36 scr S P d ∧ CA37 scr S P d ∧ CA38 scr S P d ∧ CA39 scr S P d ∧ CA40 scr S P d ∧ CA41 scr S P d ∧ CA42 scr S P d ∧ CA43 scr S P d ∧ CA44 scr S P d ∧ CA45 scr S P d ∧ CA46 scr S P d ∧ CA47 scr S P d ∧ CA48 scr S P d ∧ CA49 scr S P d ∧ CA50 scr S P d ∧ CA51 scr S P d ∧ CA52 scr S P d ∧ CA53 scr S P d ∧ CA54 scr S P d ∧ CA55 scr S P d ∧ CA56 scr S P d ∧ CA57 scr S P d ∧ CA58 scr S P d ∧ CA59 scr S P d ∧ CA60 scr S P d
theorem hs_ibn {i m n : Nat} (h : i + m < n) (hn : n < 2 ^ 31) : hs_ib (nI i + nI m) n = true := by
  rw [nI_add]
  have h1 := nI_pos (n := i + m) (by omega)
  have h2 := nI_clamp (n := i + m) (by omega)
  simp only [hs_ib, Bool.and_eq_true, decide_eq_true_eq]
  exact ⟨h1, by rw [h2]; exact h⟩
def hs_tg : List Nat := [292, 305, 319, 333, 376, 449, 483, 546, 609, 632, 655, 678, 701, 734, 767, 780, 803, 836, 869, 892, 915, 954, 987, 1020, 1053, 1066, 1099, 1132, 1165, 1208, 1241, 1264, 1277, 1300, 1323, 1346, 1369, 1402, 1435, 1468, 1501, 1514, 1537, 1570, 1593, 1616, 1639, 1652, 1665, 1698, 1711, 1724, 1747, 1770, 1793, 1826, 1849, 1872, 1895, 1928, 1941]
theorem hs_swk : ∀ k, k < 64 → hs_swt (nI k) 0 60 hs_tg 1954 = hs_tg.getD k 1954 := by decide +kernel
section LL
variable {scr : List Int32} {d : Nat} {S : List hs_S} {P : (Nat → Nat → Int32) → (Nat → Nat → Int64) → (Nat → Nat → Nat) → Prop}
set_option maxRecDepth 100000 in
set_option maxHeartbeats 4000000 in
theorem law_case {I : Nat → Nat → Int32} {L : Nat → Nat → Int64} {R : Nat → Nat → Nat} {i : Nat} (hA : CAll scr S P d) (hlen : scr.length ≤ 3072) (hi : i + 6 ≤ scr.length) (ok : ok10 S R 2 ∧ ok11 S R 140) (h0 : S[0]? = some (.inl 99)) (hP : P I L R) : ∀ k, k < 64 → ∃ (I2 : Nat → Nat → Int32) (L2 : Nat → Nat → Int64) (R2 : Nat → Nat → Nat), P I2 L2 R2 ∧ hs_R scr (d + 1) 360 (hs_tg.getD k 1954) [some (.ref 0), some (.ref 2), some (.ref 140), some (.int (nI i))] [] (S, I, L, R) = hs_R scr (d + 1) 360 1954 [some (.ref 0), some (.ref 2), some (.ref 140), some (.int (nI i))] [] (S, I2, L2, R2) := by
  have hb1 : hs_ib (nI i + 1) scr.length = true := hs_ibn (m := 1) (by omega) (by omega)
  have hb2 : hs_ib (nI i + 2) scr.length = true := hs_ibn (m := 2) (by omega) (by omega)
  have hb3 : hs_ib (nI i + 3) scr.length = true := hs_ibn (m := 3) (by omega) (by omega)
  have hb4 : hs_ib (nI i + 4) scr.length = true := hs_ibn (m := 4) (by omega) (by omega)
  have hb5 : hs_ib (nI i + 5) scr.length = true := hs_ibn (m := 5) (by omega) (by omega)
  intro k hk
  match k, hk with
  | 0, _ => exact lc0  ok h0 hP (hA.1)
  | 1, _ => exact lc1  ok h0 hP (hA.2.1)
  | 2, _ => exact lc2  ok h0 hP (hA.2.2.1)
  | 3, _ => exact lc3 hb1 hb2 hb3 ok h0 hP (hA.2.2.2.1 _ _ _)
  | 4, _ => exact lc4 hb1 hb2 hb3 hb4 ok h0 hP (hA.2.2.2.2.1 _ _ _)
  | 5, _ => exact lc5 hb1 hb2 ok h0 hP (hA.2.2.2.2.2.1 _ _)
  | 6, _ => exact lc6 hb1 hb2 hb3 hb4 hb5 ok h0 hP (hA.2.2.2.2.2.2.1 _ _ _ _ _)
  | 7, _ => exact lc7 hb1 hb2 hb3 hb4 hb5 ok h0 hP (hA.2.2.2.2.2.2.2.1 _ _ _ _ _)
  | 8, _ => exact lc8 hb1 ok h0 hP (hA.2.2.2.2.2.2.2.2.1 _)
  | 9, _ => exact lc9 hb1 ok h0 hP (hA.2.2.2.2.2.2.2.2.2.1 _)
  | 10, _ => exact lc10 hb1 ok h0 hP (hA.2.2.2.2.2.2.2.2.2.2.1 _)
  | 11, _ => exact lc11 hb1 ok h0 hP (hA.2.2.2.2.2.2.2.2.2.2.2.1 _)
  | 12, _ => exact lc12 hb1 hb2 ok h0 hP (hA.2.2.2.2.2.2.2.2.2.2.2.2.1 _ _)
  | 13, _ => exact lc13 hb1 hb2 ok h0 hP (hA.2.2.2.2.2.2.2.2.2.2.2.2.2.1 _ _)
  | 14, _ => exact lc14  ok h0 hP (hA.2.2.2.2.2.2.2.2.2.2.2.2.2.2.1)
  | 15, _ => exact lc15 hb1 ok h0 hP (hA.2.2.2.2.2.2.2.2.2.2.2.2.2.2.2.1 _)
  | 16, _ => exact lc16 hb1 hb2 ok h0 hP (hA.2.2.2.2.2.2.2.2.2.2.2.2.2.2.2.2.1 _ _)
  | 17, _ => exact lc17 hb1 hb2 ok h0 hP (hA.2.2.2.2.2.2.2.2.2.2.2.2.2.2.2.2.2.1 _ _)
  | 18, _ => exact lc18 hb1 ok h0 hP (hA.2.2.2.2.2.2.2.2.2.2.2.2.2.2.2.2.2.2.1 _)
  | 19, _ => exact lc19 hb1 ok h0 hP (hA.2.2.2.2.2.2.2.2.2.2.2.2.2.2.2.2.2.2.2.1 _)
  | 20, _ => exact lc20 hb1 ok h0 hP hA.2.2.2.2.2.2.2.2.2.2.2.2.2.2.2.2.2.2.2.2.1.1 hA.2.2.2.2.2.2.2.2.2.2.2.2.2.2.2.2.2.2.2.2.1.2
  | 21, _ => exact lc21 hb1 hb2 ok h0 hP (hA.2.2.2.2.2.2.2.2.2.2.2.2.2.2.2.2.2.2.2.2.2.1 _ _)
  | 22, _ => exact lc22 hb1 hb2 ok h0 hP (hA.2.2.2.2.2.2.2.2.2.2.2.2.2.2.2.2.2.2.2.2.2.2.1 _ _)
  | 23, _ => exact lc23 hb1 hb2 ok h0 hP (hA.2.2.2.2.2.2.2.2.2.2.2.2.2.2.2.2.2.2.2.2.2.2.2.1 _ _)
  | 24, _ => exact lc24  ok h0 hP (hA.2.2.2.2.2.2.2.2.2.2.2.2.2.2.2.2.2.2.2.2.2.2.2.2.1)
  | 25, _ => exact lc25 hb1 hb2 ok h0 hP (hA.2.2.2.2.2.2.2.2.2.2.2.2.2.2.2.2.2.2.2.2.2.2.2.2.2.1 _ _)
  | 26, _ => exact lc26 hb1 hb2 ok h0 hP (hA.2.2.2.2.2.2.2.2.2.2.2.2.2.2.2.2.2.2.2.2.2.2.2.2.2.2.1 _ _)
  | 27, _ => exact lc27 hb1 hb2 ok h0 hP (hA.2.2.2.2.2.2.2.2.2.2.2.2.2.2.2.2.2.2.2.2.2.2.2.2.2.2.2.1 _ _)
  | 28, _ => exact lc28 hb1 hb2 hb3 ok h0 hP (hA.2.2.2.2.2.2.2.2.2.2.2.2.2.2.2.2.2.2.2.2.2.2.2.2.2.2.2.2.1 _ _ _)
  | 29, _ => exact lc29 hb1 hb2 ok h0 hP (hA.2.2.2.2.2.2.2.2.2.2.2.2.2.2.2.2.2.2.2.2.2.2.2.2.2.2.2.2.2.1 _ _)
  | 30, _ => exact lc30 hb1 ok h0 hP (hA.2.2.2.2.2.2.2.2.2.2.2.2.2.2.2.2.2.2.2.2.2.2.2.2.2.2.2.2.2.2.1 _)
  | 31, _ => exact lc31  ok h0 hP (hA.2.2.2.2.2.2.2.2.2.2.2.2.2.2.2.2.2.2.2.2.2.2.2.2.2.2.2.2.2.2.2.1)
  | 32, _ => exact lc32 hb1 ok h0 hP (hA.2.2.2.2.2.2.2.2.2.2.2.2.2.2.2.2.2.2.2.2.2.2.2.2.2.2.2.2.2.2.2.2.1 _)
  | 33, _ => exact lc33 hb1 ok h0 hP (hA.2.2.2.2.2.2.2.2.2.2.2.2.2.2.2.2.2.2.2.2.2.2.2.2.2.2.2.2.2.2.2.2.2.1 _)
  | 34, _ => exact lc34 hb1 ok h0 hP (hA.2.2.2.2.2.2.2.2.2.2.2.2.2.2.2.2.2.2.2.2.2.2.2.2.2.2.2.2.2.2.2.2.2.2.1 _)
  | 35, _ => exact lc35 hb1 ok h0 hP (hA.2.2.2.2.2.2.2.2.2.2.2.2.2.2.2.2.2.2.2.2.2.2.2.2.2.2.2.2.2.2.2.2.2.2.2.1 _)
  | 36, _ => exact lc36 hb1 hb2 ok h0 hP (hA.2.2.2.2.2.2.2.2.2.2.2.2.2.2.2.2.2.2.2.2.2.2.2.2.2.2.2.2.2.2.2.2.2.2.2.2.1 _ _)
  | 37, _ => exact lc37 hb1 hb2 ok h0 hP (hA.2.2.2.2.2.2.2.2.2.2.2.2.2.2.2.2.2.2.2.2.2.2.2.2.2.2.2.2.2.2.2.2.2.2.2.2.2.1 _ _)
  | 38, _ => exact lc38 hb1 hb2 ok h0 hP (hA.2.2.2.2.2.2.2.2.2.2.2.2.2.2.2.2.2.2.2.2.2.2.2.2.2.2.2.2.2.2.2.2.2.2.2.2.2.2.1 _ _)
  | 39, _ => exact lc39 hb1 hb2 ok h0 hP (hA.2.2.2.2.2.2.2.2.2.2.2.2.2.2.2.2.2.2.2.2.2.2.2.2.2.2.2.2.2.2.2.2.2.2.2.2.2.2.2.1 _ _)
  | 40, _ => exact lc40  ok h0 hP (hA.2.2.2.2.2.2.2.2.2.2.2.2.2.2.2.2.2.2.2.2.2.2.2.2.2.2.2.2.2.2.2.2.2.2.2.2.2.2.2.2.1)
  | 41, _ => exact lc41 hb1 ok h0 hP (hA.2.2.2.2.2.2.2.2.2.2.2.2.2.2.2.2.2.2.2.2.2.2.2.2.2.2.2.2.2.2.2.2.2.2.2.2.2.2.2.2.2.1 _)
  | 42, _ => exact lc42 hb1 hb2 ok h0 hP (hA.2.2.2.2.2.2.2.2.2.2.2.2.2.2.2.2.2.2.2.2.2.2.2.2.2.2.2.2.2.2.2.2.2.2.2.2.2.2.2.2.2.2.1 _ _)
  | 43, _ => exact lc43 hb1 ok h0 hP (hA.2.2.2.2.2.2.2.2.2.2.2.2.2.2.2.2.2.2.2.2.2.2.2.2.2.2.2.2.2.2.2.2.2.2.2.2.2.2.2.2.2.2.2.1 _)
  | 44, _ => exact lc44 hb1 ok h0 hP (hA.2.2.2.2.2.2.2.2.2.2.2.2.2.2.2.2.2.2.2.2.2.2.2.2.2.2.2.2.2.2.2.2.2.2.2.2.2.2.2.2.2.2.2.2.1 _)
  | 45, _ => exact lc45 hb1 ok h0 hP (hA.2.2.2.2.2.2.2.2.2.2.2.2.2.2.2.2.2.2.2.2.2.2.2.2.2.2.2.2.2.2.2.2.2.2.2.2.2.2.2.2.2.2.2.2.2.1 _)
  | 46, _ => exact lc46  ok h0 hP (hA.2.2.2.2.2.2.2.2.2.2.2.2.2.2.2.2.2.2.2.2.2.2.2.2.2.2.2.2.2.2.2.2.2.2.2.2.2.2.2.2.2.2.2.2.2.2.1)
  | 47, _ => exact lc47  ok h0 hP (hA.2.2.2.2.2.2.2.2.2.2.2.2.2.2.2.2.2.2.2.2.2.2.2.2.2.2.2.2.2.2.2.2.2.2.2.2.2.2.2.2.2.2.2.2.2.2.2.1)
  | 48, _ => exact lc48 hb1 hb2 ok h0 hP (hA.2.2.2.2.2.2.2.2.2.2.2.2.2.2.2.2.2.2.2.2.2.2.2.2.2.2.2.2.2.2.2.2.2.2.2.2.2.2.2.2.2.2.2.2.2.2.2.2.1 _ _)
  | 49, _ => exact lc49  ok h0 hP (hA.2.2.2.2.2.2.2.2.2.2.2.2.2.2.2.2.2.2.2.2.2.2.2.2.2.2.2.2.2.2.2.2.2.2.2.2.2.2.2.2.2.2.2.2.2.2.2.2.2.1)
  | 50, _ => exact lc50  ok h0 hP (hA.2.2.2.2.2.2.2.2.2.2.2.2.2.2.2.2.2.2.2.2.2.2.2.2.2.2.2.2.2.2.2.2.2.2.2.2.2.2.2.2.2.2.2.2.2.2.2.2.2.2.1)
  | 51, _ => exact lc51 hb1 ok h0 hP (hA.2.2.2.2.2.2.2.2.2.2.2.2.2.2.2.2.2.2.2.2.2.2.2.2.2.2.2.2.2.2.2.2.2.2.2.2.2.2.2.2.2.2.2.2.2.2.2.2.2.2.2.1 _)
  | 52, _ => exact lc52 hb1 ok h0 hP (hA.2.2.2.2.2.2.2.2.2.2.2.2.2.2.2.2.2.2.2.2.2.2.2.2.2.2.2.2.2.2.2.2.2.2.2.2.2.2.2.2.2.2.2.2.2.2.2.2.2.2.2.2.1 _)
  | 53, _ => exact lc53 hb1 ok h0 hP (hA.2.2.2.2.2.2.2.2.2.2.2.2.2.2.2.2.2.2.2.2.2.2.2.2.2.2.2.2.2.2.2.2.2.2.2.2.2.2.2.2.2.2.2.2.2.2.2.2.2.2.2.2.2.1 _)
  | 54, _ => exact lc54 hb1 hb2 ok h0 hP (hA.2.2.2.2.2.2.2.2.2.2.2.2.2.2.2.2.2.2.2.2.2.2.2.2.2.2.2.2.2.2.2.2.2.2.2.2.2.2.2.2.2.2.2.2.2.2.2.2.2.2.2.2.2.2.1 _ _)
  | 55, _ => exact lc55 hb1 ok h0 hP (hA.2.2.2.2.2.2.2.2.2.2.2.2.2.2.2.2.2.2.2.2.2.2.2.2.2.2.2.2.2.2.2.2.2.2.2.2.2.2.2.2.2.2.2.2.2.2.2.2.2.2.2.2.2.2.2.1 _)
  | 56, _ => exact lc56 hb1 ok h0 hP (hA.2.2.2.2.2.2.2.2.2.2.2.2.2.2.2.2.2.2.2.2.2.2.2.2.2.2.2.2.2.2.2.2.2.2.2.2.2.2.2.2.2.2.2.2.2.2.2.2.2.2.2.2.2.2.2.2.1 _)
  | 57, _ => exact lc57 hb1 ok h0 hP (hA.2.2.2.2.2.2.2.2.2.2.2.2.2.2.2.2.2.2.2.2.2.2.2.2.2.2.2.2.2.2.2.2.2.2.2.2.2.2.2.2.2.2.2.2.2.2.2.2.2.2.2.2.2.2.2.2.2.1 _)
  | 58, _ => exact lc58 hb1 hb2 ok h0 hP (hA.2.2.2.2.2.2.2.2.2.2.2.2.2.2.2.2.2.2.2.2.2.2.2.2.2.2.2.2.2.2.2.2.2.2.2.2.2.2.2.2.2.2.2.2.2.2.2.2.2.2.2.2.2.2.2.2.2.2.1 _ _)
  | 59, _ => exact lc59  ok h0 hP (hA.2.2.2.2.2.2.2.2.2.2.2.2.2.2.2.2.2.2.2.2.2.2.2.2.2.2.2.2.2.2.2.2.2.2.2.2.2.2.2.2.2.2.2.2.2.2.2.2.2.2.2.2.2.2.2.2.2.2.2.1)
  | 60, _ => exact lc60  ok h0 hP (hA.2.2.2.2.2.2.2.2.2.2.2.2.2.2.2.2.2.2.2.2.2.2.2.2.2.2.2.2.2.2.2.2.2.2.2.2.2.2.2.2.2.2.2.2.2.2.2.2.2.2.2.2.2.2.2.2.2.2.2.2)
  | 61, _ => exact ⟨I, L, R, hP, rfl⟩
  | 62, _ => exact ⟨I, L, R, hP, rfl⟩
  | 63, _ => exact ⟨I, L, R, hP, rfl⟩
  | n + 64, h => exact absurd h (by omega)
set_option maxRecDepth 100000 in
theorem law_loop (hA : CAll scr S P d) (hok : ∀ I L R, P I L R → ok10 S R 2 ∧ ok11 S R 140) (h0 : S[0]? = some (.inl 99)) (hlen : scr.length ≤ 3072) : ∀ (n i : Nat) (I : Nat → Nat → Int32) (L : Nat → Nat → Int64) (R : Nat → Nat → Nat), scr.length < i + n → P I L R → i ≤ 4000 → ∃ (I2 : Nat → Nat → Int32) (L2 : Nat → Nat → Int64) (R2 : Nat → Nat → Nat), hs_R scr (d + 1) 360 18 [some (.ref 0), some (.ref 2), some (.ref 140), some (.int (nI i))] [] (S, I, L, R) = some (some (.int 1), (S, I2, L2, R2))
  | 0, i, I, L, R, hn, hP, hi4 => by
    refine ⟨I, L, R, ?_⟩
    rw [b360_18 h0, if_pos]
    rw [Int32.lt_iff_toInt_lt, nI_toInt (by omega)]
    have e1 : (Int32.ofNat scr.length - 6).toInt = (scr.length : Int) - 6 := pk_sub_toInt (a := scr.length) (b := 6) (by omega) (by omega)
    rw [e1]; omega
  | n + 1, i, I, L, R, hn, hP, hi4 => by
    have e1 : (Int32.ofNat scr.length - 6).toInt = (scr.length : Int) - 6 := pk_sub_toInt (a := scr.length) (b := 6) (by omega) (by omega)
    by_cases hq : i + 6 ≤ scr.length
    · have hne : ¬ Int32.ofNat scr.length - 6 < nI i := by
        rw [Int32.lt_iff_toInt_lt, nI_toInt (by omega), e1]; omega
      have hb0 : hs_ib (nI i) scr.length = true := by
        have := hs_ibn (i := i) (m := 0) (n := scr.length) (by omega) (by omega)
        rw [nI_add] at this
        exact this
      rw [b360_18 h0, if_neg hne, if_pos hb0]
      obtain ⟨k, hk, hke⟩ := pk_andE (List.getD scr (Int32.toNatClampNeg (nI i)) 0) (m := 63) 6 (by decide)
      rw [hke]
      have hsw := hs_swk k hk
      unfold hs_tg at hsw
      rw [hsw]
      obtain ⟨I2, L2, R2, hP2, e2⟩ := law_case hA hlen hq (hok I L R hP) h0 hP k hk
      unfold hs_tg at e2
      rw [e2, b360_1954]
      have e6 : nI i + 6 = nI (i + 6) := nI_add i 6
      rw [e6]
      exact law_loop hA hok h0 hlen n (i + 6) I2 L2 R2 (by omega) hP2 (by omega)
    · refine ⟨I, L, R, ?_⟩
      rw [b360_18 h0, if_pos]
      rw [Int32.lt_iff_toInt_lt, nI_toInt (by omega), e1]; omega
end LL
