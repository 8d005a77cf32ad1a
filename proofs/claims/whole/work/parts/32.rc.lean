/-! the references that never change. Written by gen/mkrel.py -/
def hs_Rc : List (Nat × Nat × Nat) := [(2, 0, 3), (2, 1, 4), (2, 2, 10), (2, 3, 11), (2, 4, 13), (2, 5, 14), (2, 6, 15), (2, 7, 17), (2, 12, 62), (2, 13, 64), (3, 0, 66), (3, 1, 68), (3, 2, 70), (3, 3, 72), (4, 0, 5), (4, 1, 6), (4, 2, 7), (4, 3, 8), (4, 4, 9), (11, 1, 12), (13, 0, 74), (13, 1, 96), (13, 2, 118), (14, 0, 90), (14, 1, 112), (14, 2, 134), (15, 0, 16), (18, 0, 19), (18, 1, 23), (18, 2, 28), (18, 3, 29), (18, 4, 30), (18, 5, 31), (18, 6, 32), (18, 7, 33), (19, 0, 20), (19, 1, 21), (19, 2, 22), (23, 0, 24), (23, 1, 25), (23, 2, 26), (23, 3, 27), (34, 0, 35), (34, 1, 39), (34, 2, 44), (34, 3, 45), (34, 4, 46), (34, 5, 47), (34, 6, 48), (34, 7, 49), (35, 0, 36), (35, 1, 37), (35, 2, 38), (39, 0, 40), (39, 1, 41), (39, 2, 42), (39, 3, 43), (50, 0, 51), (50, 1, 52), (50, 2, 53), (50, 3, 54), (50, 4, 55), (56, 0, 57), (56, 1, 58), (56, 2, 59), (56, 3, 60), (56, 4, 61), (62, 9, 63), (64, 9, 65), (66, 0, 67), (68, 0, 69), (70, 0, 71), (72, 0, 73), (74, 0, 75), (74, 1, 79), (74, 2, 84), (74, 3, 85), (74, 4, 86), (74, 5, 87), (74, 6, 88), (74, 7, 89), (75, 0, 76), (75, 1, 77), (75, 2, 78), (79, 0, 80), (79, 1, 81), (79, 2, 82), (79, 3, 83), (90, 0, 91), (90, 1, 92), (90, 2, 93), (90, 3, 94), (90, 4, 95), (96, 0, 97), (96, 1, 101), (96, 2, 106), (96, 3, 107), (96, 4, 108), (96, 5, 109), (96, 6, 110), (96, 7, 111), (97, 0, 98), (97, 1, 99), (97, 2, 100), (101, 0, 102), (101, 1, 103), (101, 2, 104), (101, 3, 105), (112, 0, 113), (112, 1, 114), (112, 2, 115), (112, 3, 116), (112, 4, 117), (118, 0, 119), (118, 1, 123), (118, 2, 128), (118, 3, 129), (118, 4, 130), (118, 5, 131), (118, 6, 132), (118, 7, 133), (119, 0, 120), (119, 1, 121), (119, 2, 122), (123, 0, 124), (123, 1, 125), (123, 2, 126), (123, 3, 127), (134, 0, 135), (134, 1, 136), (134, 2, 137), (134, 3, 138), (134, 4, 139), (140, 4, 141), (140, 5, 142), (140, 6, 143), (140, 7, 144), (140, 20, 145), (140, 21, 146), (140, 22, 147), (140, 23, 148), (140, 27, 149), (140, 29, 150), (140, 30, 151)]
def Rc (R : Nat → Nat → Nat) : Prop := ∀ e ∈ hs_Rc, R e.1 e.2.1 = e.2.2
theorem Rc_u {R : Nat → Nat → Nat} {a b v : Nat} (h : Rc R) (hk : (hs_Rc.all fun e => !(Nat.beq e.1 a && Nat.beq e.2.1 b)) = true) : Rc (hs_u R a b v) := by
  intro e he
  have h1 := List.all_eq_true.mp hk e he
  unfold hs_u
  rw [if_neg (by rintro ⟨rfl, rfl⟩; simp at h1)]
  exact h e he
section RC
variable {R : Nat → Nat → Nat}
theorem q2_0 (h : Rc R) : R 2 0 = 3 := h (2, 0, 3) (List.mem_of_getElem? (i := 0) rfl)
theorem q2_1 (h : Rc R) : R 2 1 = 4 := h (2, 1, 4) (List.mem_of_getElem? (i := 1) rfl)
theorem q2_2 (h : Rc R) : R 2 2 = 10 := h (2, 2, 10) (List.mem_of_getElem? (i := 2) rfl)
theorem q2_3 (h : Rc R) : R 2 3 = 11 := h (2, 3, 11) (List.mem_of_getElem? (i := 3) rfl)
theorem q2_4 (h : Rc R) : R 2 4 = 13 := h (2, 4, 13) (List.mem_of_getElem? (i := 4) rfl)
theorem q2_5 (h : Rc R) : R 2 5 = 14 := h (2, 5, 14) (List.mem_of_getElem? (i := 5) rfl)
theorem q2_6 (h : Rc R) : R 2 6 = 15 := h (2, 6, 15) (List.mem_of_getElem? (i := 6) rfl)
theorem q2_7 (h : Rc R) : R 2 7 = 17 := h (2, 7, 17) (List.mem_of_getElem? (i := 7) rfl)
theorem q2_12 (h : Rc R) : R 2 12 = 62 := h (2, 12, 62) (List.mem_of_getElem? (i := 8) rfl)
theorem q2_13 (h : Rc R) : R 2 13 = 64 := h (2, 13, 64) (List.mem_of_getElem? (i := 9) rfl)
theorem q3_0 (h : Rc R) : R 3 0 = 66 := h (3, 0, 66) (List.mem_of_getElem? (i := 10) rfl)
theorem q3_1 (h : Rc R) : R 3 1 = 68 := h (3, 1, 68) (List.mem_of_getElem? (i := 11) rfl)
theorem q3_2 (h : Rc R) : R 3 2 = 70 := h (3, 2, 70) (List.mem_of_getElem? (i := 12) rfl)
theorem q3_3 (h : Rc R) : R 3 3 = 72 := h (3, 3, 72) (List.mem_of_getElem? (i := 13) rfl)
theorem q4_0 (h : Rc R) : R 4 0 = 5 := h (4, 0, 5) (List.mem_of_getElem? (i := 14) rfl)
theorem q4_1 (h : Rc R) : R 4 1 = 6 := h (4, 1, 6) (List.mem_of_getElem? (i := 15) rfl)
theorem q4_2 (h : Rc R) : R 4 2 = 7 := h (4, 2, 7) (List.mem_of_getElem? (i := 16) rfl)
theorem q4_3 (h : Rc R) : R 4 3 = 8 := h (4, 3, 8) (List.mem_of_getElem? (i := 17) rfl)
theorem q4_4 (h : Rc R) : R 4 4 = 9 := h (4, 4, 9) (List.mem_of_getElem? (i := 18) rfl)
theorem q11_1 (h : Rc R) : R 11 1 = 12 := h (11, 1, 12) (List.mem_of_getElem? (i := 19) rfl)
theorem q13_0 (h : Rc R) : R 13 0 = 74 := h (13, 0, 74) (List.mem_of_getElem? (i := 20) rfl)
theorem q13_1 (h : Rc R) : R 13 1 = 96 := h (13, 1, 96) (List.mem_of_getElem? (i := 21) rfl)
theorem q13_2 (h : Rc R) : R 13 2 = 118 := h (13, 2, 118) (List.mem_of_getElem? (i := 22) rfl)
theorem q14_0 (h : Rc R) : R 14 0 = 90 := h (14, 0, 90) (List.mem_of_getElem? (i := 23) rfl)
theorem q14_1 (h : Rc R) : R 14 1 = 112 := h (14, 1, 112) (List.mem_of_getElem? (i := 24) rfl)
theorem q14_2 (h : Rc R) : R 14 2 = 134 := h (14, 2, 134) (List.mem_of_getElem? (i := 25) rfl)
theorem q15_0 (h : Rc R) : R 15 0 = 16 := h (15, 0, 16) (List.mem_of_getElem? (i := 26) rfl)
theorem q18_0 (h : Rc R) : R 18 0 = 19 := h (18, 0, 19) (List.mem_of_getElem? (i := 27) rfl)
theorem q18_1 (h : Rc R) : R 18 1 = 23 := h (18, 1, 23) (List.mem_of_getElem? (i := 28) rfl)
theorem q18_2 (h : Rc R) : R 18 2 = 28 := h (18, 2, 28) (List.mem_of_getElem? (i := 29) rfl)
theorem q18_3 (h : Rc R) : R 18 3 = 29 := h (18, 3, 29) (List.mem_of_getElem? (i := 30) rfl)
theorem q18_4 (h : Rc R) : R 18 4 = 30 := h (18, 4, 30) (List.mem_of_getElem? (i := 31) rfl)
theorem q18_5 (h : Rc R) : R 18 5 = 31 := h (18, 5, 31) (List.mem_of_getElem? (i := 32) rfl)
theorem q18_6 (h : Rc R) : R 18 6 = 32 := h (18, 6, 32) (List.mem_of_getElem? (i := 33) rfl)
theorem q18_7 (h : Rc R) : R 18 7 = 33 := h (18, 7, 33) (List.mem_of_getElem? (i := 34) rfl)
theorem q19_0 (h : Rc R) : R 19 0 = 20 := h (19, 0, 20) (List.mem_of_getElem? (i := 35) rfl)
theorem q19_1 (h : Rc R) : R 19 1 = 21 := h (19, 1, 21) (List.mem_of_getElem? (i := 36) rfl)
theorem q19_2 (h : Rc R) : R 19 2 = 22 := h (19, 2, 22) (List.mem_of_getElem? (i := 37) rfl)
theorem q23_0 (h : Rc R) : R 23 0 = 24 := h (23, 0, 24) (List.mem_of_getElem? (i := 38) rfl)
theorem q23_1 (h : Rc R) : R 23 1 = 25 := h (23, 1, 25) (List.mem_of_getElem? (i := 39) rfl)
theorem q23_2 (h : Rc R) : R 23 2 = 26 := h (23, 2, 26) (List.mem_of_getElem? (i := 40) rfl)
theorem q23_3 (h : Rc R) : R 23 3 = 27 := h (23, 3, 27) (List.mem_of_getElem? (i := 41) rfl)
theorem q34_0 (h : Rc R) : R 34 0 = 35 := h (34, 0, 35) (List.mem_of_getElem? (i := 42) rfl)
theorem q34_1 (h : Rc R) : R 34 1 = 39 := h (34, 1, 39) (List.mem_of_getElem? (i := 43) rfl)
theorem q34_2 (h : Rc R) : R 34 2 = 44 := h (34, 2, 44) (List.mem_of_getElem? (i := 44) rfl)
theorem q34_3 (h : Rc R) : R 34 3 = 45 := h (34, 3, 45) (List.mem_of_getElem? (i := 45) rfl)
theorem q34_4 (h : Rc R) : R 34 4 = 46 := h (34, 4, 46) (List.mem_of_getElem? (i := 46) rfl)
theorem q34_5 (h : Rc R) : R 34 5 = 47 := h (34, 5, 47) (List.mem_of_getElem? (i := 47) rfl)
theorem q34_6 (h : Rc R) : R 34 6 = 48 := h (34, 6, 48) (List.mem_of_getElem? (i := 48) rfl)
theorem q34_7 (h : Rc R) : R 34 7 = 49 := h (34, 7, 49) (List.mem_of_getElem? (i := 49) rfl)
theorem q35_0 (h : Rc R) : R 35 0 = 36 := h (35, 0, 36) (List.mem_of_getElem? (i := 50) rfl)
theorem q35_1 (h : Rc R) : R 35 1 = 37 := h (35, 1, 37) (List.mem_of_getElem? (i := 51) rfl)
theorem q35_2 (h : Rc R) : R 35 2 = 38 := h (35, 2, 38) (List.mem_of_getElem? (i := 52) rfl)
theorem q39_0 (h : Rc R) : R 39 0 = 40 := h (39, 0, 40) (List.mem_of_getElem? (i := 53) rfl)
theorem q39_1 (h : Rc R) : R 39 1 = 41 := h (39, 1, 41) (List.mem_of_getElem? (i := 54) rfl)
theorem q39_2 (h : Rc R) : R 39 2 = 42 := h (39, 2, 42) (List.mem_of_getElem? (i := 55) rfl)
theorem q39_3 (h : Rc R) : R 39 3 = 43 := h (39, 3, 43) (List.mem_of_getElem? (i := 56) rfl)
theorem q50_0 (h : Rc R) : R 50 0 = 51 := h (50, 0, 51) (List.mem_of_getElem? (i := 57) rfl)
theorem q50_1 (h : Rc R) : R 50 1 = 52 := h (50, 1, 52) (List.mem_of_getElem? (i := 58) rfl)
theorem q50_2 (h : Rc R) : R 50 2 = 53 := h (50, 2, 53) (List.mem_of_getElem? (i := 59) rfl)
theorem q50_3 (h : Rc R) : R 50 3 = 54 := h (50, 3, 54) (List.mem_of_getElem? (i := 60) rfl)
theorem q50_4 (h : Rc R) : R 50 4 = 55 := h (50, 4, 55) (List.mem_of_getElem? (i := 61) rfl)
theorem q56_0 (h : Rc R) : R 56 0 = 57 := h (56, 0, 57) (List.mem_of_getElem? (i := 62) rfl)
theorem q56_1 (h : Rc R) : R 56 1 = 58 := h (56, 1, 58) (List.mem_of_getElem? (i := 63) rfl)
theorem q56_2 (h : Rc R) : R 56 2 = 59 := h (56, 2, 59) (List.mem_of_getElem? (i := 64) rfl)
theorem q56_3 (h : Rc R) : R 56 3 = 60 := h (56, 3, 60) (List.mem_of_getElem? (i := 65) rfl)
theorem q56_4 (h : Rc R) : R 56 4 = 61 := h (56, 4, 61) (List.mem_of_getElem? (i := 66) rfl)
theorem q62_9 (h : Rc R) : R 62 9 = 63 := h (62, 9, 63) (List.mem_of_getElem? (i := 67) rfl)
theorem q64_9 (h : Rc R) : R 64 9 = 65 := h (64, 9, 65) (List.mem_of_getElem? (i := 68) rfl)
theorem q66_0 (h : Rc R) : R 66 0 = 67 := h (66, 0, 67) (List.mem_of_getElem? (i := 69) rfl)
theorem q68_0 (h : Rc R) : R 68 0 = 69 := h (68, 0, 69) (List.mem_of_getElem? (i := 70) rfl)
theorem q70_0 (h : Rc R) : R 70 0 = 71 := h (70, 0, 71) (List.mem_of_getElem? (i := 71) rfl)
theorem q72_0 (h : Rc R) : R 72 0 = 73 := h (72, 0, 73) (List.mem_of_getElem? (i := 72) rfl)
theorem q74_0 (h : Rc R) : R 74 0 = 75 := h (74, 0, 75) (List.mem_of_getElem? (i := 73) rfl)
theorem q74_1 (h : Rc R) : R 74 1 = 79 := h (74, 1, 79) (List.mem_of_getElem? (i := 74) rfl)
theorem q74_2 (h : Rc R) : R 74 2 = 84 := h (74, 2, 84) (List.mem_of_getElem? (i := 75) rfl)
theorem q74_3 (h : Rc R) : R 74 3 = 85 := h (74, 3, 85) (List.mem_of_getElem? (i := 76) rfl)
theorem q74_4 (h : Rc R) : R 74 4 = 86 := h (74, 4, 86) (List.mem_of_getElem? (i := 77) rfl)
theorem q74_5 (h : Rc R) : R 74 5 = 87 := h (74, 5, 87) (List.mem_of_getElem? (i := 78) rfl)
theorem q74_6 (h : Rc R) : R 74 6 = 88 := h (74, 6, 88) (List.mem_of_getElem? (i := 79) rfl)
theorem q74_7 (h : Rc R) : R 74 7 = 89 := h (74, 7, 89) (List.mem_of_getElem? (i := 80) rfl)
theorem q75_0 (h : Rc R) : R 75 0 = 76 := h (75, 0, 76) (List.mem_of_getElem? (i := 81) rfl)
theorem q75_1 (h : Rc R) : R 75 1 = 77 := h (75, 1, 77) (List.mem_of_getElem? (i := 82) rfl)
theorem q75_2 (h : Rc R) : R 75 2 = 78 := h (75, 2, 78) (List.mem_of_getElem? (i := 83) rfl)
theorem q79_0 (h : Rc R) : R 79 0 = 80 := h (79, 0, 80) (List.mem_of_getElem? (i := 84) rfl)
theorem q79_1 (h : Rc R) : R 79 1 = 81 := h (79, 1, 81) (List.mem_of_getElem? (i := 85) rfl)
theorem q79_2 (h : Rc R) : R 79 2 = 82 := h (79, 2, 82) (List.mem_of_getElem? (i := 86) rfl)
theorem q79_3 (h : Rc R) : R 79 3 = 83 := h (79, 3, 83) (List.mem_of_getElem? (i := 87) rfl)
theorem q90_0 (h : Rc R) : R 90 0 = 91 := h (90, 0, 91) (List.mem_of_getElem? (i := 88) rfl)
theorem q90_1 (h : Rc R) : R 90 1 = 92 := h (90, 1, 92) (List.mem_of_getElem? (i := 89) rfl)
theorem q90_2 (h : Rc R) : R 90 2 = 93 := h (90, 2, 93) (List.mem_of_getElem? (i := 90) rfl)
theorem q90_3 (h : Rc R) : R 90 3 = 94 := h (90, 3, 94) (List.mem_of_getElem? (i := 91) rfl)
theorem q90_4 (h : Rc R) : R 90 4 = 95 := h (90, 4, 95) (List.mem_of_getElem? (i := 92) rfl)
theorem q96_0 (h : Rc R) : R 96 0 = 97 := h (96, 0, 97) (List.mem_of_getElem? (i := 93) rfl)
theorem q96_1 (h : Rc R) : R 96 1 = 101 := h (96, 1, 101) (List.mem_of_getElem? (i := 94) rfl)
theorem q96_2 (h : Rc R) : R 96 2 = 106 := h (96, 2, 106) (List.mem_of_getElem? (i := 95) rfl)
theorem q96_3 (h : Rc R) : R 96 3 = 107 := h (96, 3, 107) (List.mem_of_getElem? (i := 96) rfl)
theorem q96_4 (h : Rc R) : R 96 4 = 108 := h (96, 4, 108) (List.mem_of_getElem? (i := 97) rfl)
theorem q96_5 (h : Rc R) : R 96 5 = 109 := h (96, 5, 109) (List.mem_of_getElem? (i := 98) rfl)
theorem q96_6 (h : Rc R) : R 96 6 = 110 := h (96, 6, 110) (List.mem_of_getElem? (i := 99) rfl)
theorem q96_7 (h : Rc R) : R 96 7 = 111 := h (96, 7, 111) (List.mem_of_getElem? (i := 100) rfl)
theorem q97_0 (h : Rc R) : R 97 0 = 98 := h (97, 0, 98) (List.mem_of_getElem? (i := 101) rfl)
theorem q97_1 (h : Rc R) : R 97 1 = 99 := h (97, 1, 99) (List.mem_of_getElem? (i := 102) rfl)
theorem q97_2 (h : Rc R) : R 97 2 = 100 := h (97, 2, 100) (List.mem_of_getElem? (i := 103) rfl)
theorem q101_0 (h : Rc R) : R 101 0 = 102 := h (101, 0, 102) (List.mem_of_getElem? (i := 104) rfl)
theorem q101_1 (h : Rc R) : R 101 1 = 103 := h (101, 1, 103) (List.mem_of_getElem? (i := 105) rfl)
theorem q101_2 (h : Rc R) : R 101 2 = 104 := h (101, 2, 104) (List.mem_of_getElem? (i := 106) rfl)
theorem q101_3 (h : Rc R) : R 101 3 = 105 := h (101, 3, 105) (List.mem_of_getElem? (i := 107) rfl)
theorem q112_0 (h : Rc R) : R 112 0 = 113 := h (112, 0, 113) (List.mem_of_getElem? (i := 108) rfl)
theorem q112_1 (h : Rc R) : R 112 1 = 114 := h (112, 1, 114) (List.mem_of_getElem? (i := 109) rfl)
theorem q112_2 (h : Rc R) : R 112 2 = 115 := h (112, 2, 115) (List.mem_of_getElem? (i := 110) rfl)
theorem q112_3 (h : Rc R) : R 112 3 = 116 := h (112, 3, 116) (List.mem_of_getElem? (i := 111) rfl)
theorem q112_4 (h : Rc R) : R 112 4 = 117 := h (112, 4, 117) (List.mem_of_getElem? (i := 112) rfl)
theorem q118_0 (h : Rc R) : R 118 0 = 119 := h (118, 0, 119) (List.mem_of_getElem? (i := 113) rfl)
theorem q118_1 (h : Rc R) : R 118 1 = 123 := h (118, 1, 123) (List.mem_of_getElem? (i := 114) rfl)
theorem q118_2 (h : Rc R) : R 118 2 = 128 := h (118, 2, 128) (List.mem_of_getElem? (i := 115) rfl)
theorem q118_3 (h : Rc R) : R 118 3 = 129 := h (118, 3, 129) (List.mem_of_getElem? (i := 116) rfl)
theorem q118_4 (h : Rc R) : R 118 4 = 130 := h (118, 4, 130) (List.mem_of_getElem? (i := 117) rfl)
theorem q118_5 (h : Rc R) : R 118 5 = 131 := h (118, 5, 131) (List.mem_of_getElem? (i := 118) rfl)
theorem q118_6 (h : Rc R) : R 118 6 = 132 := h (118, 6, 132) (List.mem_of_getElem? (i := 119) rfl)
theorem q118_7 (h : Rc R) : R 118 7 = 133 := h (118, 7, 133) (List.mem_of_getElem? (i := 120) rfl)
theorem q119_0 (h : Rc R) : R 119 0 = 120 := h (119, 0, 120) (List.mem_of_getElem? (i := 121) rfl)
theorem q119_1 (h : Rc R) : R 119 1 = 121 := h (119, 1, 121) (List.mem_of_getElem? (i := 122) rfl)
theorem q119_2 (h : Rc R) : R 119 2 = 122 := h (119, 2, 122) (List.mem_of_getElem? (i := 123) rfl)
theorem q123_0 (h : Rc R) : R 123 0 = 124 := h (123, 0, 124) (List.mem_of_getElem? (i := 124) rfl)
theorem q123_1 (h : Rc R) : R 123 1 = 125 := h (123, 1, 125) (List.mem_of_getElem? (i := 125) rfl)
theorem q123_2 (h : Rc R) : R 123 2 = 126 := h (123, 2, 126) (List.mem_of_getElem? (i := 126) rfl)
theorem q123_3 (h : Rc R) : R 123 3 = 127 := h (123, 3, 127) (List.mem_of_getElem? (i := 127) rfl)
theorem q134_0 (h : Rc R) : R 134 0 = 135 := h (134, 0, 135) (List.mem_of_getElem? (i := 128) rfl)
theorem q134_1 (h : Rc R) : R 134 1 = 136 := h (134, 1, 136) (List.mem_of_getElem? (i := 129) rfl)
theorem q134_2 (h : Rc R) : R 134 2 = 137 := h (134, 2, 137) (List.mem_of_getElem? (i := 130) rfl)
theorem q134_3 (h : Rc R) : R 134 3 = 138 := h (134, 3, 138) (List.mem_of_getElem? (i := 131) rfl)
theorem q134_4 (h : Rc R) : R 134 4 = 139 := h (134, 4, 139) (List.mem_of_getElem? (i := 132) rfl)
theorem q140_4 (h : Rc R) : R 140 4 = 141 := h (140, 4, 141) (List.mem_of_getElem? (i := 133) rfl)
theorem q140_5 (h : Rc R) : R 140 5 = 142 := h (140, 5, 142) (List.mem_of_getElem? (i := 134) rfl)
theorem q140_6 (h : Rc R) : R 140 6 = 143 := h (140, 6, 143) (List.mem_of_getElem? (i := 135) rfl)
theorem q140_7 (h : Rc R) : R 140 7 = 144 := h (140, 7, 144) (List.mem_of_getElem? (i := 136) rfl)
theorem q140_20 (h : Rc R) : R 140 20 = 145 := h (140, 20, 145) (List.mem_of_getElem? (i := 137) rfl)
theorem q140_21 (h : Rc R) : R 140 21 = 146 := h (140, 21, 146) (List.mem_of_getElem? (i := 138) rfl)
theorem q140_22 (h : Rc R) : R 140 22 = 147 := h (140, 22, 147) (List.mem_of_getElem? (i := 139) rfl)
theorem q140_23 (h : Rc R) : R 140 23 = 148 := h (140, 23, 148) (List.mem_of_getElem? (i := 140) rfl)
theorem q140_27 (h : Rc R) : R 140 27 = 149 := h (140, 27, 149) (List.mem_of_getElem? (i := 141) rfl)
theorem q140_29 (h : Rc R) : R 140 29 = 150 := h (140, 29, 150) (List.mem_of_getElem? (i := 142) rfl)
theorem q140_30 (h : Rc R) : R 140 30 = 151 := h (140, 30, 151) (List.mem_of_getElem? (i := 143) rfl)
theorem k3_19 (h : Rc R) : ok3 hs_S0 R 19 := ⟨by decide, rfl, q19_0 h, rfl, q19_1 h, rfl, q19_2 h, rfl⟩
theorem k1_23 (h : Rc R) : ok1 hs_S0 R 23 := ⟨by decide, rfl, q23_0 h, rfl, q23_1 h, rfl, q23_2 h, rfl, q23_3 h, rfl⟩
theorem k4_18 (h : Rc R) : ok4 hs_S0 R 18 := ⟨by decide, rfl, q18_0 h, k3_19 h, q18_1 h, k1_23 h, q18_2 h, rfl, q18_3 h, rfl, q18_4 h, rfl, q18_5 h, rfl, q18_6 h, rfl, q18_7 h, rfl⟩
theorem k3_35 (h : Rc R) : ok3 hs_S0 R 35 := ⟨by decide, rfl, q35_0 h, rfl, q35_1 h, rfl, q35_2 h, rfl⟩
theorem k1_39 (h : Rc R) : ok1 hs_S0 R 39 := ⟨by decide, rfl, q39_0 h, rfl, q39_1 h, rfl, q39_2 h, rfl, q39_3 h, rfl⟩
theorem k4_34 (h : Rc R) : ok4 hs_S0 R 34 := ⟨by decide, rfl, q34_0 h, k3_35 h, q34_1 h, k1_39 h, q34_2 h, rfl, q34_3 h, rfl, q34_4 h, rfl, q34_5 h, rfl, q34_6 h, rfl, q34_7 h, rfl⟩
theorem k3_75 (h : Rc R) : ok3 hs_S0 R 75 := ⟨by decide, rfl, q75_0 h, rfl, q75_1 h, rfl, q75_2 h, rfl⟩
theorem k1_79 (h : Rc R) : ok1 hs_S0 R 79 := ⟨by decide, rfl, q79_0 h, rfl, q79_1 h, rfl, q79_2 h, rfl, q79_3 h, rfl⟩
theorem k4_74 (h : Rc R) : ok4 hs_S0 R 74 := ⟨by decide, rfl, q74_0 h, k3_75 h, q74_1 h, k1_79 h, q74_2 h, rfl, q74_3 h, rfl, q74_4 h, rfl, q74_5 h, rfl, q74_6 h, rfl, q74_7 h, rfl⟩
theorem k3_97 (h : Rc R) : ok3 hs_S0 R 97 := ⟨by decide, rfl, q97_0 h, rfl, q97_1 h, rfl, q97_2 h, rfl⟩
theorem k1_101 (h : Rc R) : ok1 hs_S0 R 101 := ⟨by decide, rfl, q101_0 h, rfl, q101_1 h, rfl, q101_2 h, rfl, q101_3 h, rfl⟩
theorem k4_96 (h : Rc R) : ok4 hs_S0 R 96 := ⟨by decide, rfl, q96_0 h, k3_97 h, q96_1 h, k1_101 h, q96_2 h, rfl, q96_3 h, rfl, q96_4 h, rfl, q96_5 h, rfl, q96_6 h, rfl, q96_7 h, rfl⟩
theorem k3_119 (h : Rc R) : ok3 hs_S0 R 119 := ⟨by decide, rfl, q119_0 h, rfl, q119_1 h, rfl, q119_2 h, rfl⟩
theorem k1_123 (h : Rc R) : ok1 hs_S0 R 123 := ⟨by decide, rfl, q123_0 h, rfl, q123_1 h, rfl, q123_2 h, rfl, q123_3 h, rfl⟩
theorem k4_118 (h : Rc R) : ok4 hs_S0 R 118 := ⟨by decide, rfl, q118_0 h, k3_119 h, q118_1 h, k1_123 h, q118_2 h, rfl, q118_3 h, rfl, q118_4 h, rfl, q118_5 h, rfl, q118_6 h, rfl, q118_7 h, rfl⟩
theorem k5_50 (h : Rc R) : ok5 hs_S0 R 50 := ⟨by decide, rfl, q50_0 h, rfl, q50_1 h, rfl, q50_2 h, rfl, q50_3 h, rfl, q50_4 h, rfl⟩
theorem k5_56 (h : Rc R) : ok5 hs_S0 R 56 := ⟨by decide, rfl, q56_0 h, rfl, q56_1 h, rfl, q56_2 h, rfl, q56_3 h, rfl, q56_4 h, rfl⟩
theorem k5_90 (h : Rc R) : ok5 hs_S0 R 90 := ⟨by decide, rfl, q90_0 h, rfl, q90_1 h, rfl, q90_2 h, rfl, q90_3 h, rfl, q90_4 h, rfl⟩
theorem k5_112 (h : Rc R) : ok5 hs_S0 R 112 := ⟨by decide, rfl, q112_0 h, rfl, q112_1 h, rfl, q112_2 h, rfl, q112_3 h, rfl, q112_4 h, rfl⟩
theorem k5_134 (h : Rc R) : ok5 hs_S0 R 134 := ⟨by decide, rfl, q134_0 h, rfl, q134_1 h, rfl, q134_2 h, rfl, q134_3 h, rfl, q134_4 h, rfl⟩
theorem k8_4 (h : Rc R) : ok8 hs_S0 R 4 := ⟨by decide, rfl, q4_0 h, rfl, q4_1 h, rfl, q4_2 h, rfl, q4_3 h, rfl, q4_4 h, rfl⟩
theorem k7_10 (h : Rc R) : ok7 hs_S0 R 10 := ⟨by decide, rfl, trivial⟩
theorem k6_11 (h : Rc R) : ok6 hs_S0 R 11 := ⟨by decide, rfl, q11_1 h, rfl⟩
theorem k0_15 (h : Rc R) : ok0 hs_S0 R 15 := ⟨by decide, rfl, q15_0 h, rfl⟩
theorem k2_62 (h : Rc R) : ok2 hs_S0 R 62 := ⟨by decide, rfl, q62_9 h, rfl⟩
theorem k2_64 (h : Rc R) : ok2 hs_S0 R 64 := ⟨by decide, rfl, q64_9 h, rfl⟩
theorem k9_66 (h : Rc R) : ok9 hs_S0 R 66 := ⟨by decide, rfl, q66_0 h, rfl⟩
theorem k9_68 (h : Rc R) : ok9 hs_S0 R 68 := ⟨by decide, rfl, q68_0 h, rfl⟩
theorem k9_70 (h : Rc R) : ok9 hs_S0 R 70 := ⟨by decide, rfl, q70_0 h, rfl⟩
theorem k9_72 (h : Rc R) : ok9 hs_S0 R 72 := ⟨by decide, rfl, q72_0 h, rfl⟩
theorem k10_2 (h : Rc R) : ok10 hs_S0 R 2 := ⟨by decide, rfl, q2_0 h, rfl, q2_1 h, k8_4 h, q2_2 h, k7_10 h, q2_3 h, k6_11 h, q2_4 h, rfl, q2_5 h, rfl, q2_6 h, k0_15 h, q2_7 h, rfl, q2_12 h, k2_62 h, q2_13 h, k2_64 h, (fun i hi => match i, hi with | 0, _ => ⟨q3_0 h, k9_66 h⟩ | 1, _ => ⟨q3_1 h, k9_68 h⟩ | 2, _ => ⟨q3_2 h, k9_70 h⟩ | 3, _ => ⟨q3_3 h, k9_72 h⟩ | i + 4, hi => absurd hi (by omega)), (fun i hi => match i, hi with | 0, _ => ⟨q13_0 h, k4_74 h⟩ | 1, _ => ⟨q13_1 h, k4_96 h⟩ | 2, _ => ⟨q13_2 h, k4_118 h⟩ | i + 3, hi => absurd hi (by omega)), (fun i hi => match i, hi with | 0, _ => ⟨q14_0 h, k5_90 h⟩ | 1, _ => ⟨q14_1 h, k5_112 h⟩ | 2, _ => ⟨q14_2 h, k5_134 h⟩ | i + 3, hi => absurd hi (by omega))⟩
theorem k11_140 (h : Rc R) : ok11 hs_S0 R 140 := ⟨by decide, rfl, q140_4 h, rfl, q140_5 h, rfl, q140_6 h, rfl, q140_7 h, rfl, q140_20 h, rfl, q140_21 h, rfl, q140_22 h, rfl, q140_23 h, rfl, q140_27 h, rfl, q140_29 h, rfl, q140_30 h, rfl⟩
end RC
