/-! the tables are what the claim says: checked by the kernel -/
/-- is the first list a part of the second, in its order? -/
def hs_sub : List Cond → List Cond → Bool
  | [], _ => true
  | _ :: _, [] => false
  | a :: as, b :: bs => if a = b then hs_sub as bs else hs_sub (a :: as) bs
theorem hs_sub_ok : ∀ (bs as : List Cond), hs_sub as bs = true → ∀ a ∈ as, a ∈ bs
  | [], [], _, a, h => absurd h List.not_mem_nil
  | [], _ :: _, h, _, _ => by simp [hs_sub] at h
  | b :: bs, [], _, a, h => absurd h List.not_mem_nil
  | b :: bs, c :: as, h, a, ha => by
    rw [hs_sub] at h
    by_cases hc : c = b
    · rw [if_pos hc] at h
      rcases List.mem_cons.mp ha with rfl | ha
      · rw [hc]; exact List.mem_cons_self
      · exact List.mem_cons_of_mem _ (hs_sub_ok bs as h a ha)
    · rw [if_neg hc] at h
      exact List.mem_cons_of_mem _ (hs_sub_ok bs (c :: as) h a ha)
theorem hs_sub_tbl {as : List Cond} (h : hs_sub as tables_1 = true) : ∀ a ∈ as, a ∈ lw_tbl := fun a ha => List.mem_append_right _ (hs_sub_ok _ _ h a ha)
theorem hs_sub_prv {as : List Cond} (h : hs_sub as (k2_sels lw_privs) = true) : ∀ a ∈ as, a ∈ lw_tbl := fun a ha => List.mem_append_left _ (hs_sub_ok _ _ h a ha)
abbrev hs_fc (e : Nat × Nat × Nat × Nat × Nat × Nat) : Cond := Cond.fieldLink (hs_cn e.1) e.2.1 ((hs_cw e.2.2.1).2.1 e.2.2.2.1).1 ((hs_cw e.2.2.1).2.1 e.2.2.2.1).2.1 ((hs_cw e.2.2.1).2.1 e.2.2.2.1).2.2.1
theorem hs_fl_in : ∀ a ∈ hs_fl.map hs_fc, a ∈ lw_tbl := hs_sub_tbl (by decide +kernel)
abbrev hs_fok (e : Nat × Nat × Nat × Nat × Nat × Nat) : Bool :=
  decide (e.2.2.1 < 12) && decide (e.2.2.2.1 < (hs_cw e.2.2.1).2.2) && decide (hs_kd (hs_ty e.2.2.1 e.2.2.2.1) = e.2.2.2.2.1) && decide (e.2.2.2.2.1 < 4) && decide (((hs_cw e.2.2.1).2.1 e.2.2.2.1).2.2.2 = (e.2.2.2.2.2 == 1)) && decide (((hs_cw e.2.2.1).2.1 e.2.2.2.1).1 = (hs_cw e.2.2.1).1) && decide (hs_cn e.2.2.1 = (hs_cw e.2.2.1).1)
theorem hs_fl_ok : hs_fl.all hs_fok = true := by decide +kernel
theorem hs_mem_fm {big ws : List Cond} (ps : List Nat) (h : ws = ps.filterMap (fun i => big[i]?)) : ∀ a ∈ ws, a ∈ big := fun a ha => by
  rw [h] at ha
  obtain ⟨i, -, hi⟩ := List.mem_filterMap.mp ha
  exact List.mem_of_getElem? hi
abbrev hs_mc (e : hs_MI) : Cond := Cond.code e.1 e.2.1 e.2.2.1 e.2.2.2.1
set_option maxRecDepth 100000 in
theorem hs_mlc_1 : ∀ a ∈ hs_ml_1.map hs_mc, a ∈ tables_1_1 := hs_mem_fm [24, 34, 87, 142, 161, 187, 202, 208, 228] rfl
set_option maxRecDepth 100000 in
theorem hs_mlc_2 : ∀ a ∈ hs_ml_2.map hs_mc, a ∈ tables_1_2 := hs_mem_fm [24, 117, 164, 201] rfl
set_option maxRecDepth 100000 in
theorem hs_mlc_3 : ∀ a ∈ hs_ml_3.map hs_mc, a ∈ tables_1_3 := hs_mem_fm [37, 41, 45, 49, 52, 56, 60, 64, 68, 72, 76, 80, 84, 89, 93, 97, 101, 105, 112, 116, 120, 124, 128, 134, 138, 142, 146, 149, 153, 157, 161, 166, 170, 174, 178, 182, 186, 192, 197, 201, 205, 209, 213, 217, 220, 224, 228, 232, 236] rfl
set_option maxRecDepth 100000 in
theorem hs_mlc_4 : ∀ a ∈ hs_ml_4.map hs_mc, a ∈ tables_1_4 := hs_mem_fm [0, 4, 8, 12, 16, 20, 24, 28, 32, 39, 43, 47, 51, 57, 62, 66, 70, 74, 78, 82, 86, 90, 94, 99, 103, 107, 111, 115, 119, 123, 127, 131, 135, 139, 143, 147, 151, 155, 159, 163, 167, 172, 180, 184, 188, 192, 196, 200, 204, 208, 212, 219, 223, 227, 231, 235, 239] rfl
set_option maxRecDepth 100000 in
theorem hs_mlc_5 : ∀ a ∈ hs_ml_5.map hs_mc, a ∈ tables_1_5 := hs_mem_fm [4, 9, 13, 19, 23, 27, 31, 35, 40, 44, 48, 52, 56, 60, 64, 68, 73, 77, 81, 85, 89, 96, 100, 104, 108, 112, 116, 120, 124, 129, 133, 137, 143, 147, 151, 155, 159, 163, 167, 172, 176, 180, 184, 188, 195, 199, 204, 208, 211, 215, 218, 222, 227, 231, 235, 239] rfl
set_option maxRecDepth 100000 in
theorem hs_mlc_6 : ∀ a ∈ hs_ml_6.map hs_mc, a ∈ tables_1_6 := hs_mem_fm [3, 9, 14, 20, 24, 29, 33, 38, 42, 46, 50, 54, 59, 65, 69, 74, 79, 84, 209, 213, 217, 221, 225, 229, 233, 237] rfl
set_option maxRecDepth 100000 in
theorem hs_mlc_7 : ∀ a ∈ hs_ml_7.map hs_mc, a ∈ tables_1_7 := hs_mem_fm [0, 4, 9, 13, 17, 21, 25, 29, 33, 37, 40, 45, 49, 53, 57, 60, 64, 68, 71, 75, 79, 83, 86, 90, 94, 98, 102, 106, 110, 114, 118, 122, 126, 130, 134, 138, 142, 146, 150, 154, 158, 162, 166, 170, 174, 177, 181, 185, 189, 193, 197, 201, 205, 209, 213, 217, 222, 226, 230, 234, 238] rfl
set_option maxRecDepth 100000 in
theorem hs_mlc_8 : ∀ a ∈ hs_ml_8.map hs_mc, a ∈ tables_1_8 := hs_mem_fm [2, 6, 10, 15, 19, 23, 28, 32, 36, 40, 44, 49, 53, 57, 61, 65, 69, 73, 77, 81, 85, 90, 95, 99, 103, 107, 111, 115, 119, 123, 127, 132, 136, 140, 145, 149, 156, 160, 165, 169, 173, 177, 181, 185, 189, 193, 197, 201, 206, 210, 214, 218, 221, 226, 230, 234, 238] rfl
set_option maxRecDepth 100000 in
theorem hs_mlc_9 : ∀ a ∈ hs_ml_9.map hs_mc, a ∈ tables_1_9 := hs_mem_fm [2, 6, 10, 14, 18, 22, 26, 30, 34, 38, 42, 46, 50, 54, 59, 63, 67, 71, 75, 79, 83, 87, 91, 95, 99, 104, 111, 115, 120, 124, 128, 132, 136, 140, 144, 148, 153, 157, 161, 165, 169] rfl
theorem hs_ml_in : ∀ a ∈ hs_ml.map hs_mc, a ∈ lw_tbl := by
  intro a ha
  refine List.mem_append_right _ ?_
  simp only [hs_ml, List.map_append, List.mem_append] at ha
  simp only [tables_1, List.mem_append]
  rcases ha with h | h | h | h | h | h | h | h | h
  · exact Or.inl (hs_mlc_1 a h)
  · exact Or.inr (Or.inl (hs_mlc_2 a h))
  · exact Or.inr (Or.inr (Or.inl (hs_mlc_3 a h)))
  · exact Or.inr (Or.inr (Or.inr (Or.inl (hs_mlc_4 a h))))
  · exact Or.inr (Or.inr (Or.inr (Or.inr (Or.inl (hs_mlc_5 a h)))))
  · exact Or.inr (Or.inr (Or.inr (Or.inr (Or.inr (Or.inl (hs_mlc_6 a h))))))
  · exact Or.inr (Or.inr (Or.inr (Or.inr (Or.inr (Or.inr (Or.inl (hs_mlc_7 a h)))))))
  · exact Or.inr (Or.inr (Or.inr (Or.inr (Or.inr (Or.inr (Or.inr (Or.inl (hs_mlc_8 a h))))))))
  · exact Or.inr (Or.inr (Or.inr (Or.inr (Or.inr (Or.inr (Or.inr (Or.inr ((hs_mlc_9 a h)))))))))
theorem hs_mt : Cond.static Lib.Math.max.name ∈ tables_1 ∧ Cond.static Lib.Math.min.name ∈ tables_1 ∧ Cond.static Lib.Math.abs.name ∈ tables_1 ∧ Cond.static Lib.MathLoose.abs_long.x ∈ tables_1 ∧ Cond.initialized "java/lang/Math" ∈ tables_1 ∧ Cond.code Lib.Math.max.name Lib.Math.max.code 2 (some .int) ∈ tables_1 ∧ Cond.code Lib.Math.min.name Lib.Math.min.code 2 (some .int) ∈ tables_1 ∧ Cond.code Lib.Math.abs.name Lib.Math.abs.code 1 (some .int) ∈ tables_1 ∧ Cond.code Lib.MathLoose.abs_long.x Lib.MathLoose.abs_long.code 2 (some .long) ∈ tables_1 := by decide +kernel
theorem hs_ac : Cond.native arraycopyName ∈ tables_1 ∧ Cond.static arraycopyName ∈ tables_1 ∧ Cond.initialized "java/lang/System" ∈ tables_1 ∧ Cond.instanceMethod objectInit ∈ tables_1 ∧ Cond.code objectInit ⟨#[0xb1]⟩ 1 none ∈ tables_1 := by decide +kernel
theorem hs_im_in : ∀ a ∈ (hs_ml.filter (fun e => e.2.2.2.2.2.2 != 2)).map (fun e => Cond.instanceMethod e.1), a ∈ lw_tbl := hs_sub_tbl (by decide +kernel)
theorem hs_st_in : ∀ a ∈ (hs_ml.filter (fun e => e.2.2.2.2.2.2 == 2)).map (fun e => Cond.static e.1), a ∈ lw_tbl := hs_sub_tbl (by decide +kernel)
theorem hs_se_in : ∀ a ∈ (hs_ml.filter (fun e => e.2.2.2.2.2.2 == 0)).map (fun e => Cond.selects e.1.cls e.1 e.1), a ∈ lw_tbl := hs_sub_tbl (by decide +kernel)
theorem hs_sp_in : ∀ a ∈ (hs_ml.filter (fun e => e.2.2.2.2.2.2 == 1)).map (fun e => Cond.selects e.1.cls e.1 e.1), a ∈ lw_tbl := hs_sub_prv (by decide +kernel)
theorem hs_ci_in : ∀ ci, ci < 14 → Cond.initialized (hs_cn ci) ∈ lw_tbl := fun ci h => List.mem_append_right _ ((show ∀ ci, ci < 14 → Cond.initialized (hs_cn ci) ∈ tables_1_1.take 20 from by decide +kernel) ci h |> List.mem_of_mem_take |> fun h => List.mem_append_left _ h)
theorem hs_cp : ∀ ci, ci < 14 → plainName (hs_cn ci) = true ∧ hs_cn ci ≠ "java/lang/invoke/MethodHandle" ∧ hs_cn ci ≠ "java/lang/invoke/VarHandle" := by decide +kernel
abbrev hs_mok (e : hs_MI) : Bool :=
  decide ((parseMethodDescriptor e.1.desc).map (fun d => d.parameters.length) = some e.2.2.2.2.2.1) && decide (e.1.cls = hs_cn e.2.2.2.2.1) && decide (e.2.2.2.2.1 < 14) && decide (e.2.2.1 ≤ 20) && decide (e.2.2.2.2.2.2 < 4) && (e.2.2.2.2.2.2 != 3 || (decide (e.1.name = "<init>") && decide (e.2.2.2.1 = none)))
theorem hs_ml_ok : hs_ml.all hs_mok = true := by decide +kernel
abbrev hs_kc (e : Nat × Nat × Nat × Nat) : Cond := Cond.methodLink (hs_cn e.1) e.2.1 (if e.2.2.1 = 4 then objectInit else if e.2.2.1 = 5 then arraycopyName else if e.2.2.1 = 6 then Lib.Math.max.name else if e.2.2.1 = 7 then Lib.Math.min.name else if e.2.2.1 = 8 then Lib.Math.abs.name else if e.2.2.1 = 9 then Lib.MathLoose.abs_long.x else if e.2.2.1 = 10 then yJ0_length_8abf5 else if e.2.2.1 = 11 then yJ0_charAt_5068e else (hs_m e.2.2.2).1)
theorem hs_kl_in : ∀ a ∈ hs_kl.map hs_kc, a ∈ lw_tbl := hs_sub_tbl (by decide +kernel)
abbrev hs_kok (e : Nat × Nat × Nat × Nat) : Bool := decide (e.2.2.2 < hs_ml.length) && (match e.2.2.1 with
  | 0 => decide (hs_kind e.2.2.2 < 2)
  | 1 => decide (hs_kind e.2.2.2 = 2)
  | 2 => decide (hs_kind e.2.2.2 = 3)
  | 4 => true
  | 5 => true
  | 6 => true
  | 7 => true
  | 8 => true
  | 9 => true
  | 10 => true
  | 11 => true
  | _ => false)
theorem hs_kl_ok : hs_kl.all hs_kok = true := by decide +kernel
abbrev hs_nc (e : Nat × Nat × Nat × Nat) : Cond := Cond.methodLinkNest (hs_cn e.1) e.2.1 (hs_m e.2.2.2).1 "MoustacheState"
theorem hs_nk_in : ∀ e ∈ hs_nk, hs_nc e ∈ lw_tbl := fun e h => List.mem_append_right _ ((show ∀ e ∈ hs_nk, hs_nc e ∈ tables_1 from by decide +kernel) e h)
theorem hs_nk_ok : hs_nk.all (fun e => decide (e.2.2.2 < hs_ml.length) && decide (e.2.2.1 = 3) && decide (hs_kind e.2.2.2 = 3)) = true := by decide +kernel
theorem hs_nl_in : ∀ e ∈ hs_nl, Cond.classLink (hs_cn e.1) e.2.1 (hs_cn e.2.2) ∈ lw_tbl := fun e h => List.mem_append_right _ ((show ∀ e ∈ hs_nl, Cond.classLink (hs_cn e.1) e.2.1 (hs_cn e.2.2) ∈ tables_1 from by decide +kernel) e h)
theorem hs_nl_i2 : ∀ ci, ci < 12 → Cond.instantiable (hs_cn ci) (hs_cw ci).2.2 ∈ lw_tbl := fun e h => List.mem_append_right _ ((show ∀ ci, ci < 12 → Cond.instantiable (hs_cn ci) (hs_cw ci).2.2 ∈ tables_1 from by decide +kernel) e h)
theorem hs_nl_ok : ∀ e ∈ hs_nl, e.2.2 < 12 := by decide +kernel
theorem hs_il_in : ∀ e ∈ hs_il, Cond.constant (hs_cn e.1) e.2.1 e.2.2 ∈ lw_tbl := fun e h => List.mem_append_right _ ((show ∀ e ∈ hs_il, Cond.constant (hs_cn e.1) e.2.1 e.2.2 ∈ tables_1 from by decide +kernel) e h)
theorem hs_jl_in : ∀ e ∈ hs_jl, Cond.constantLong (hs_cn e.1) e.2.1 e.2.2 ∈ lw_tbl := fun e h => List.mem_append_right _ ((show ∀ e ∈ hs_jl, Cond.constantLong (hs_cn e.1) e.2.1 e.2.2 ∈ tables_1 from by decide +kernel) e h)
theorem hs_in : ∀ ci, ci < 12 → ∀ w ∈ u_ws (hs_cw ci).1 (hs_cw ci).2.1 (hs_cw ci).2.2, w ∈ lw_tbl := fun ci h w hw => List.mem_append_right _ ((show ∀ ci, ci < 12 → ∀ w ∈ u_ws (hs_cw ci).1 (hs_cw ci).2.1 (hs_cw ci).2.2, w ∈ tables_1 from by decide +kernel) ci h w hw)
theorem hs_nm : ∀ ci, ci < 12 → ∀ a, a < (hs_cw ci).2.2 → ∀ b, b < (hs_cw ci).2.2 → a ≠ b → ((hs_cw ci).2.1 a).2.1 ≠ ((hs_cw ci).2.1 b).2.1 := by decide +kernel
theorem hs_tyok : ∀ ci, ci < 12 → ∀ k, k < (hs_cw ci).2.2 → parseFieldDescriptor ((hs_cw ci).2.1 k).2.2.1 = some (hs_ty ci k) := by decide +kernel
theorem hs_cwn : ∀ ci, ci < 12 → hs_cn ci = (hs_cw ci).1 := by decide +kernel
theorem hs_cwg : ∀ ci, ci < 12 → vwCl[ci]? = some (hs_cw ci) := fun ci h => by
  have h9 : ci < vwCl.length := h
  rw [hs_cw, List.getD_eq_getElem?_getD, List.getElem?_eq_getElem h9]; rfl
