/-! the start, and the law -/
section IN
variable {I : Nat → Nat → Int32} {L : Nat → Nat → Int64} {R : Nat → Nat → Nat}
theorem Rc_0 (hR : ∀ e ∈ hs_R0, R e.1 e.2.1 = e.2.2) : Rc R := by
  have h : (hs_Rc.all fun e => hs_R0.contains e) = true := by decide +kernel
  intro e he
  exact hR e (List.contains_iff_mem.mp (List.all_eq_true.mp h e he))
theorem set_0 (hI : ∀ e ∈ hs_I0, I e.1 e.2.1 = e.2.2) {b : Nat} (hb : b < 48) : I 31 b = 3 := by
  have h : ((List.range 48).all fun b => hs_I0.contains (31, b, (3 : Int32))) = true := by decide +kernel
  exact hI (31, b, 3) (List.contains_iff_mem.mp (List.all_eq_true.mp h b (List.mem_range.mpr hb)))
theorem wrd_0 (hL : ∀ e ∈ hs_L0, L e.1 e.2.1 = e.2.2) {j : Nat} (hj : j < 30) : L 6 j = hs_W0.getD j 0 := by
  have h : ((List.range 30).all fun j => hs_L0.contains (6, j, hs_W0.getD j 0)) = true := by decide +kernel
  exact hL (6, j, hs_W0.getD j 0) (List.contains_iff_mem.mp (List.all_eq_true.mp h j (List.mem_range.mpr hj)))
theorem Rel_init (hR : ∀ e ∈ hs_R0, R e.1 e.2.1 = e.2.2) (hI : ∀ e ∈ hs_I0, I e.1 e.2.1 = e.2.2) (hL : ∀ e ∈ hs_L0, L e.1 e.2.1 = e.2.2) : Rel I L R := by
  have i2_14 : I 2 14 = 0 := hI (2, 14, 0) (by decide +kernel)
  have i2_15 : I 2 15 = 0 := hI (2, 15, 0) (by decide +kernel)
  have i2_16 : I 2 16 = 0 := hI (2, 16, 0) (by decide +kernel)
  have i4_5 : I 4 5 = 0 := hI (4, 5, 0) (by decide +kernel)
  have i4_11 : I 4 11 = (-1) := hI (4, 11, (-1)) (by decide +kernel)
  have i4_12 : I 4 12 = (-1) := hI (4, 12, (-1)) (by decide +kernel)
  have i18_8 : I 18 8 = 0 := hI (18, 8, 0) (by decide +kernel)
  have i18_9 : I 18 9 = 0 := hI (18, 9, 0) (by decide +kernel)
  have i18_10 : I 18 10 = 0 := hI (18, 10, 0) (by decide +kernel)
  have i18_11 : I 18 11 = 0 := hI (18, 11, 0) (by decide +kernel)
  have i18_12 : I 18 12 = 0 := hI (18, 12, 0) (by decide +kernel)
  have i18_13 : I 18 13 = 2 := hI (18, 13, 2) (by decide +kernel)
  have i18_14 : I 18 14 = 20 := hI (18, 14, 20) (by decide +kernel)
  have i18_15 : I 18 15 = 0 := hI (18, 15, 0) (by decide +kernel)
  have i18_16 : I 18 16 = 1 := hI (18, 16, 1) (by decide +kernel)
  have i18_17 : I 18 17 = (-1) := hI (18, 17, (-1)) (by decide +kernel)
  have i19_3 : I 19 3 = 0 := hI (19, 3, 0) (by decide +kernel)
  have i23_4 : I 23 4 = 0 := hI (23, 4, 0) (by decide +kernel)
  have i50_7 : I 50 7 = 0 := hI (50, 7, 0) (by decide +kernel)
  have i66_1 : I 66 1 = 0 := hI (66, 1, 0) (by decide +kernel)
  have i68_1 : I 68 1 = 0 := hI (68, 1, 0) (by decide +kernel)
  have i70_1 : I 70 1 = 0 := hI (70, 1, 0) (by decide +kernel)
  have i72_1 : I 72 1 = 0 := hI (72, 1, 0) (by decide +kernel)
  have i66_2 : I 66 2 = (-1) := hI (66, 2, (-1)) (by decide +kernel)
  have i68_2 : I 68 2 = (-1) := hI (68, 2, (-1)) (by decide +kernel)
  have i70_2 : I 70 2 = (-1) := hI (70, 2, (-1)) (by decide +kernel)
  have i72_2 : I 72 2 = (-1) := hI (72, 2, (-1)) (by decide +kernel)
  have i140_0 : I 140 0 = 0 := hI (140, 0, 0) (by decide +kernel)
  have i140_8 : I 140 8 = 0 := hI (140, 8, 0) (by decide +kernel)
  have i140_10 : I 140 10 = (-1) := hI (140, 10, (-1)) (by decide +kernel)
  have i140_11 : I 140 11 = (-1) := hI (140, 11, (-1)) (by decide +kernel)
  have i140_24 : I 140 24 = 0 := hI (140, 24, 0) (by decide +kernel)
  have i140_31 : I 140 31 = 0 := hI (140, 31, 0) (by decide +kernel)
  have i141_0 : I 141 0 = 0 := hI (141, 0, 0) (by decide +kernel)
  have i141_1 : I 141 1 = 0 := hI (141, 1, 0) (by decide +kernel)
  have i141_2 : I 141 2 = 0 := hI (141, 2, 0) (by decide +kernel)
  have i141_3 : I 141 3 = 0 := hI (141, 3, 0) (by decide +kernel)
  have i142_0 : I 142 0 = (-1) := hI (142, 0, (-1)) (by decide +kernel)
  have i142_1 : I 142 1 = (-1) := hI (142, 1, (-1)) (by decide +kernel)
  have i142_2 : I 142 2 = (-1) := hI (142, 2, (-1)) (by decide +kernel)
  have i142_3 : I 142 3 = (-1) := hI (142, 3, (-1)) (by decide +kernel)
  have i145_0 : I 145 0 = 0 := hI (145, 0, 0) (by decide +kernel)
  have i145_1 : I 145 1 = 0 := hI (145, 1, 0) (by decide +kernel)
  have i145_2 : I 145 2 = 0 := hI (145, 2, 0) (by decide +kernel)
  have i145_3 : I 145 3 = 0 := hI (145, 3, 0) (by decide +kernel)
  have i145_4 : I 145 4 = 0 := hI (145, 4, 0) (by decide +kernel)
  have i145_5 : I 145 5 = 0 := hI (145, 5, 0) (by decide +kernel)
  have i145_6 : I 145 6 = 2 := hI (145, 6, 2) (by decide +kernel)
  have i145_7 : I 145 7 = 20 := hI (145, 7, 20) (by decide +kernel)
  have i145_8 : I 145 8 = 0 := hI (145, 8, 0) (by decide +kernel)
  have i145_9 : I 145 9 = 1 := hI (145, 9, 1) (by decide +kernel)
  have i145_58 : I 145 58 = 0 := hI (145, 58, 0) (by decide +kernel)
  have i145_127 : I 145 127 = 0 := hI (145, 127, 0) (by decide +kernel)
  have l2_17 : L 2 17 = 0 := hL (2, 17, 0) (by decide +kernel)
  have l2_18 : L 2 18 = 1 := hL (2, 18, 1) (by decide +kernel)
  have l140_2 : L 140 2 = 0 := hL (140, 2, 0) (by decide +kernel)
  have l140_3 : L 140 3 = 1 := hL (140, 3, 1) (by decide +kernel)
  have hRc := Rc_0 hR
  have hE : Env R 18 34 50 56 := ⟨hRc, hR (2, 8, 18) (by decide +kernel), hR (2, 9, 34) (by decide +kernel), hR (2, 10, 50) (by decide +kernel), hR (2, 11, 56) (by decide +kernel), Or.inl ⟨rfl, rfl⟩, Or.inl ⟨rfl, rfl⟩⟩
  refine ⟨18, 34, 50, 56, 0, 0, 0, 0, 0, 0, hE, ⟨⟨by omega, i145_0, i23_4, fun k hk => by omega⟩, ⟨by omega, i145_1, i18_8, fun k hk => by omega⟩, ⟨by omega, i145_2, i18_9, fun k hk => by omega, 0, i145_58, Or.inl ⟨rfl, rfl, i18_17⟩⟩, ⟨by omega, i145_3, i18_10, fun l k hl hk => ⟨fun q => by omega, fun _ => set_0 hI (by omega)⟩⟩, ⟨by omega, by omega, i145_4, i18_11, i145_5, i18_12, fun k hk => by omega⟩, ⟨⟨i18_13.trans i145_6.symm, ⟨2, by omega, i145_6⟩⟩, ⟨i18_14.trans i145_7.symm, 20, by omega, by omega, i145_7⟩, ⟨i18_15.trans i145_8.symm, ⟨0, by omega, i145_8⟩⟩, ⟨i18_16.trans i145_9.symm, Or.inr i145_9⟩⟩, ⟨0, by omega, i19_3, fun i hi => by omega, fun s k hs hk => ?_, fun i j hi => by omega⟩, ⟨i50_7.trans i145_127.symm, Or.inl i145_127⟩⟩, ?_, ⟨⟨0, by omega, i4_5, i140_8, fun i hi => by omega⟩, i4_11.trans i140_10.symm, i4_12.trans i140_11.symm, fun j hj => wrd_0 hL hj⟩, ⟨i2_16.trans i140_0.symm, l2_17.trans l140_2.symm, l2_18.trans l140_3.symm, i2_14.trans i140_31.symm, Or.inl i140_31⟩, ⟨0, by omega, i2_15, i140_24, fun i hi => by omega⟩⟩
  · exfalso
    unfold sl5 at hk
    split at hk
    · omega
    · split at hk
      · omega
      · split at hk
        · omega
        · split at hk <;> omega
  · intro j hj
    rcases (show j = 0 ∨ j = 1 ∨ j = 2 ∨ j = 3 by omega) with rfl | rfl | rfl | rfl
    · exact ⟨i66_1.trans i141_0.symm, ⟨0, by omega, i141_0⟩, i66_2.trans i142_0.symm, Or.inl i142_0⟩
    · exact ⟨i68_1.trans i141_1.symm, ⟨0, by omega, i141_1⟩, i68_2.trans i142_1.symm, Or.inl i142_1⟩
    · exact ⟨i70_1.trans i141_2.symm, ⟨0, by omega, i141_2⟩, i70_2.trans i142_2.symm, Or.inl i142_2⟩
    · exact ⟨i72_1.trans i141_3.symm, ⟨0, by omega, i141_3⟩, i72_2.trans i142_3.symm, Or.inl i142_3⟩
end IN
