/-! length() and charAt() of the one text: the JDK's own members, walked -/
def hs_jw : List Cond := [.code yJ0_coder_7d493 cJ0_coder_7d493 1 (some .byte),
  .code yJ0_length_8abf5 cJ0_length_8abf5 1 (some .int),
  .code yJ0_isLatin1_aae02 cJ0_isLatin1_aae02 1 (some .boolean),
  .code yJ0_charAt_5068e cJ0_charAt_5068e 2 (some .char),
  .code yJ1_charAt_3b067 cJ1_charAt_3b067 2 (some .char),
  .code yJ0_checkIndex_df160 cJ0_checkIndex_df160 2 none,
  .code yJ3_checkIndex_8e157 cJ3_checkIndex_8e157 3 (some .int),
  .fieldLink RJ0 38 "java/lang/String" "COMPACT_STRINGS" "Z",
  .fieldLink RJ0 9 "java/lang/String" "value" "[B",
  .fieldLink RJ0 15 "java/lang/String" "coder" "B",
  .fieldLink RJ0 1053 "jdk/internal/util/Preconditions" "SIOOBE_FORMATTER" "Ljava/util/function/BiFunction;",
  .methodLink RJ0 335 yJ0_coder_7d493,
  .instanceMethod yJ0_coder_7d493,
  .selects RJ0 yJ0_coder_7d493 yJ0_coder_7d493,
  .methodLink RJ0 492 yJ0_isLatin1_aae02,
  .instanceMethod yJ0_isLatin1_aae02,
  .selects RJ0 yJ0_isLatin1_aae02 yJ0_isLatin1_aae02,
  .methodLink RJ0 495 yJ1_charAt_3b067,
  .static yJ1_charAt_3b067,
  .methodLink RJ1 9 yJ0_checkIndex_df160,
  .static yJ0_checkIndex_df160,
  .methodLink RJ0 1059 yJ3_checkIndex_8e157,
  .static yJ3_checkIndex_8e157,
  .instanceMethod yJ0_length_8abf5,
  .selects RJ0 yJ0_length_8abf5 yJ0_length_8abf5,
  .instanceMethod yJ0_charAt_5068e,
  .selects RJ0 yJ0_charAt_5068e yJ0_charAt_5068e,
  .initialized RJ0,
  .initialized RJ1,
  .initialized RJ3]
theorem hs_jin : ∀ w ∈ hs_jw, w ∈ tables_1 := by decide +kernel
theorem hs_jgo : hs_jw.all goodWord = true := by decide +kernel
theorem hs_jg {w : Cond} (h : w ∈ hs_jw) : w ∈ hs_g := hs_ing (List.mem_append_right _ (hs_jin w h)) (List.all_eq_true.mp hs_jgo w h)
theorem hs_jgd {c : Cond} (h : c ∈ hs_g) : GoodIn hs_g (c :: hs_g) := fun w hw => by
  rcases List.mem_cons.mp hw with rfl | hw
  · exact hs_goodg _ h
  · exact hs_goodg _ hw
theorem td_cJ0_coder_7d493_0 : decode cJ0_coder_7d493 0 = .ok (.getstatic 38, 3) := by decide +kernel
theorem td_cJ0_coder_7d493_3 : decode cJ0_coder_7d493 3 = .ok (.ifCond .eq 10, 3) := by decide +kernel
theorem td_cJ0_coder_7d493_6 : decode cJ0_coder_7d493 6 = .ok (.aload_n 0, 1) := by decide +kernel
theorem td_cJ0_coder_7d493_7 : decode cJ0_coder_7d493 7 = .ok (.getfield 15, 3) := by decide +kernel
theorem td_cJ0_coder_7d493_10 : decode cJ0_coder_7d493 10 = .ok (.goto 4, 3) := by decide +kernel
theorem td_cJ0_coder_7d493_14 : decode cJ0_coder_7d493 14 = .ok (.ireturn, 1) := by decide +kernel
theorem td_cJ0_isLatin1_aae02_0 : decode cJ0_isLatin1_aae02 0 = .ok (.getstatic 38, 3) := by decide +kernel
theorem td_cJ0_isLatin1_aae02_3 : decode cJ0_isLatin1_aae02 3 = .ok (.ifCond .eq 14, 3) := by decide +kernel
theorem td_cJ0_isLatin1_aae02_6 : decode cJ0_isLatin1_aae02 6 = .ok (.aload_n 0, 1) := by decide +kernel
theorem td_cJ0_isLatin1_aae02_7 : decode cJ0_isLatin1_aae02 7 = .ok (.getfield 15, 3) := by decide +kernel
theorem td_cJ0_isLatin1_aae02_10 : decode cJ0_isLatin1_aae02 10 = .ok (.ifCond .ne 7, 3) := by decide +kernel
theorem td_cJ0_isLatin1_aae02_13 : decode cJ0_isLatin1_aae02 13 = .ok (.iconst 1, 1) := by decide +kernel
theorem td_cJ0_isLatin1_aae02_14 : decode cJ0_isLatin1_aae02 14 = .ok (.goto 4, 3) := by decide +kernel
theorem td_cJ0_isLatin1_aae02_18 : decode cJ0_isLatin1_aae02 18 = .ok (.ireturn, 1) := by decide +kernel
theorem td_cJ3_checkIndex_8e157_0 : decode cJ3_checkIndex_8e157 0 = .ok (.iload_n 0, 1) := by decide +kernel
theorem td_cJ3_checkIndex_8e157_1 : decode cJ3_checkIndex_8e157 1 = .ok (.ifCond .lt 8, 3) := by decide +kernel
theorem td_cJ3_checkIndex_8e157_4 : decode cJ3_checkIndex_8e157 4 = .ok (.iload_n 0, 1) := by decide +kernel
theorem td_cJ3_checkIndex_8e157_5 : decode cJ3_checkIndex_8e157 5 = .ok (.iload_n 1, 1) := by decide +kernel
theorem td_cJ3_checkIndex_8e157_6 : decode cJ3_checkIndex_8e157 6 = .ok (.if_icmp .lt 10, 3) := by decide +kernel
theorem td_cJ3_checkIndex_8e157_16 : decode cJ3_checkIndex_8e157 16 = .ok (.iload_n 0, 1) := by decide +kernel
theorem td_cJ3_checkIndex_8e157_17 : decode cJ3_checkIndex_8e157 17 = .ok (.ireturn, 1) := by decide +kernel
theorem td_cJ0_checkIndex_df160_0 : decode cJ0_checkIndex_df160 0 = .ok (.iload_n 0, 1) := by decide +kernel
theorem td_cJ0_checkIndex_df160_1 : decode cJ0_checkIndex_df160 1 = .ok (.iload_n 1, 1) := by decide +kernel
theorem td_cJ0_checkIndex_df160_5 : decode cJ0_checkIndex_df160 5 = .ok (.invokestatic 1059, 3) := by decide +kernel
theorem td_cJ0_checkIndex_df160_8 : decode cJ0_checkIndex_df160 8 = .ok (.pop, 1) := by decide +kernel
theorem td_cJ0_checkIndex_df160_9 : decode cJ0_checkIndex_df160 9 = .ok (.return_, 1) := by decide +kernel
theorem td_cJ0_checkIndex_df160_2 : decode cJ0_checkIndex_df160 2 = .ok (.getstatic 1053, 3) := by decide +kernel
theorem td_cJ1_charAt_3b067_0 : decode cJ1_charAt_3b067 0 = .ok (.iload_n 1, 1) := by decide +kernel
theorem td_cJ1_charAt_3b067_1 : decode cJ1_charAt_3b067 1 = .ok (.aload_n 0, 1) := by decide +kernel
theorem td_cJ1_charAt_3b067_2 : decode cJ1_charAt_3b067 2 = .ok (.arraylength, 1) := by decide +kernel
theorem td_cJ1_charAt_3b067_3 : decode cJ1_charAt_3b067 3 = .ok (.invokestatic 9, 3) := by decide +kernel
theorem td_cJ1_charAt_3b067_6 : decode cJ1_charAt_3b067 6 = .ok (.aload_n 0, 1) := by decide +kernel
theorem td_cJ1_charAt_3b067_7 : decode cJ1_charAt_3b067 7 = .ok (.iload_n 1, 1) := by decide +kernel
theorem td_cJ1_charAt_3b067_8 : decode cJ1_charAt_3b067 8 = .ok (.baload, 1) := by decide +kernel
theorem td_cJ1_charAt_3b067_9 : decode cJ1_charAt_3b067 9 = .ok (.sipush 255, 3) := by decide +kernel
theorem td_cJ1_charAt_3b067_12 : decode cJ1_charAt_3b067 12 = .ok (.iand, 1) := by decide +kernel
theorem td_cJ1_charAt_3b067_13 : decode cJ1_charAt_3b067 13 = .ok (.i2c, 1) := by decide +kernel
theorem td_cJ1_charAt_3b067_14 : decode cJ1_charAt_3b067 14 = .ok (.ireturn, 1) := by decide +kernel
theorem td_cJ0_length_8abf5_0 : decode cJ0_length_8abf5 0 = .ok (.aload_n 0, 1) := by decide +kernel
theorem td_cJ0_length_8abf5_1 : decode cJ0_length_8abf5 1 = .ok (.getfield 9, 3) := by decide +kernel
theorem td_cJ0_length_8abf5_4 : decode cJ0_length_8abf5 4 = .ok (.arraylength, 1) := by decide +kernel
theorem td_cJ0_length_8abf5_5 : decode cJ0_length_8abf5 5 = .ok (.aload_n 0, 1) := by decide +kernel
theorem td_cJ0_length_8abf5_6 : decode cJ0_length_8abf5 6 = .ok (.invokevirtual 335, 3) := by decide +kernel
theorem td_cJ0_length_8abf5_9 : decode cJ0_length_8abf5 9 = .ok (.ishr, 1) := by decide +kernel
theorem td_cJ0_length_8abf5_10 : decode cJ0_length_8abf5 10 = .ok (.ireturn, 1) := by decide +kernel
theorem td_cJ0_charAt_5068e_0 : decode cJ0_charAt_5068e 0 = .ok (.aload_n 0, 1) := by decide +kernel
theorem td_cJ0_charAt_5068e_1 : decode cJ0_charAt_5068e 1 = .ok (.invokevirtual 492, 3) := by decide +kernel
theorem td_cJ0_charAt_5068e_4 : decode cJ0_charAt_5068e 4 = .ok (.ifCond .eq 12, 3) := by decide +kernel
theorem td_cJ0_charAt_5068e_7 : decode cJ0_charAt_5068e 7 = .ok (.aload_n 0, 1) := by decide +kernel
theorem td_cJ0_charAt_5068e_8 : decode cJ0_charAt_5068e 8 = .ok (.getfield 9, 3) := by decide +kernel
theorem td_cJ0_charAt_5068e_11 : decode cJ0_charAt_5068e 11 = .ok (.iload_n 1, 1) := by decide +kernel
theorem td_cJ0_charAt_5068e_12 : decode cJ0_charAt_5068e 12 = .ok (.invokestatic 495, 3) := by decide +kernel
theorem td_cJ0_charAt_5068e_15 : decode cJ0_charAt_5068e 15 = .ok (.ireturn, 1) := by decide +kernel
def hs_rj (k : Nat) : Room := { frames := k, cells := 0, slots := 0, locals := 60 * k }
def hs_Pt (bs a : Nat) (as : List Value) : Array Value → State → Prop := fun v U => v = as.toArray ∧ hs_St bs a U U.heap
def hs_Q0 : Array Value → State → Outcome → State → Prop := fun _ st o t => o = .returned none ∧ t.heap = st.heap
theorem hs_Ptb {bs a : Nat} {as : List Value} : FrameBlind (hs_Pt bs a as) := fun a U g mk q => ⟨q.1, q.2.same (U := U.calling g mk a) rfl rfl⟩
theorem hs_txc : ∀ k, k < hs_tx.length → ((hs_tx.getD k 0 &&& 255).toUInt32 % 65536).toInt32 = hs_tx.getD k 0 ∧ narrow .char (.int (hs_tx.getD k 0)) = .int (hs_tx.getD k 0) := by decide +kernel
theorem hs_recv {p : Program} {s : State} {H : Heap} {locs : List Loc} {bs a : Nat} (hSt : hs_St bs a s s.heap) (hS : va_S (hs_A bs) s.heap H locs) : ∃ cell : Cell, H[a]? = some cell ∧ cell.vm.isStatics = false ∧ s.vm.findClass "java/lang/String" = some cell.cls := by
  obtain ⟨-, ⟨v, h2⟩, -, -⟩ := hSt
  exact vk_recv (i := 0) h2 (by decide) hS
set_option maxRecDepth 100000 in
theorem hs_c_coder (l : Launch) (bs a : Nat) : Met l yJ0_coder_7d493 (Cond.code yJ0_coder_7d493 cJ0_coder_7d493 1 (some .byte) :: hs_g) (hs_rj 1) (hs_Pt bs a [.ref a]) (QcRead 0) 0 0 (fun _ => False) := by
  refine Met.ofW (cc := cJ0_coder_7d493) (maxL := 1) (ret := (some .byte)) (by decide) rfl ?_
  intro p e s m args below meth c s₁ B hml hv
  obtain ⟨rfl, hSt⟩ := hv
  have hx := B.exec
  have hb := B.bytes
  have hr := B.returns
  have hts0 := atoms_spec (ws := Cond.code yJ0_coder_7d493 cJ0_coder_7d493 1 (some .byte) :: hs_g) B.pre
  have hts : ∀ w ∈ hs_g, w.before _ s = true := fun w hw => hts0 w (List.mem_cons_of_mem _ hw)
  have hown : s.vm.findClass RJ0 = some m.cls := findClass_of_methodNamed B.named
  have hlocks := B.notSynchronized
  have hS : va_S (hs_A bs) s.heap s.heap [] := va_S.rf
  have hl := lv_entry ([.ref a]) (n := 1) (Nat.le_of_ble_eq_true rfl)
  rw [lg_entry_eq]
  generalize (lg_sl ([.ref a]) ++ List.replicate (1 - (lg_sl ([.ref a])).length) Slot.unset).toArray = ls at hl ⊢
  replace hl : lv_has ls 1 [(0, .ref a)] := hl
  obtain ⟨-, ⟨v, h2⟩, h3, h4⟩ := hSt
  refine va_gets hx hb h3 hS hown (hts _ (hs_jg (List.mem_of_getElem? (i := 7) rfl))) (fun _ q => q) td_cJ0_coder_7d493_0 ?_
  refine lv_if_eq (tgt := 13) hx hb td_cJ0_coder_7d493_3 (by decide) (fun q => absurd q (by decide)) (fun _ => ?_)
  refine lv_aload_n hx hb td_cJ0_coder_7d493_6 rfl (lv_at hl 0 rfl) ?_
  refine vk_getf hx hb (h2.1 0 (by decide)).2.1 hS hown (hts _ (hs_jg (List.mem_of_getElem? (i := 9) rfl))) (fun _ q => q) td_cJ0_coder_7d493_7 ?_
  refine lv_goto (tgt := 14) hx hb td_cJ0_coder_7d493_10 (by decide) ?_
  exact W.zret (v := 0) hx hb hr rfl (fun t ht hW => ⟨rfl, ht⟩) (fun q h => absurd h List.not_mem_nil) td_cJ0_coder_7d493_14
set_option maxRecDepth 100000 in
theorem hs_c_lat (l : Launch) (bs a : Nat) : Met l yJ0_isLatin1_aae02 (Cond.code yJ0_isLatin1_aae02 cJ0_isLatin1_aae02 1 (some .boolean) :: hs_g) (hs_rj 1) (hs_Pt bs a [.ref a]) (QcRead 1) 0 0 (fun _ => False) := by
  refine Met.ofW (cc := cJ0_isLatin1_aae02) (maxL := 1) (ret := (some .boolean)) (by decide) rfl ?_
  intro p e s m args below meth c s₁ B hml hv
  obtain ⟨rfl, hSt⟩ := hv
  have hx := B.exec
  have hb := B.bytes
  have hr := B.returns
  have hts0 := atoms_spec (ws := Cond.code yJ0_isLatin1_aae02 cJ0_isLatin1_aae02 1 (some .boolean) :: hs_g) B.pre
  have hts : ∀ w ∈ hs_g, w.before _ s = true := fun w hw => hts0 w (List.mem_cons_of_mem _ hw)
  have hown : s.vm.findClass RJ0 = some m.cls := findClass_of_methodNamed B.named
  have hlocks := B.notSynchronized
  have hS : va_S (hs_A bs) s.heap s.heap [] := va_S.rf
  have hl := lv_entry ([.ref a]) (n := 1) (Nat.le_of_ble_eq_true rfl)
  rw [lg_entry_eq]
  generalize (lg_sl ([.ref a]) ++ List.replicate (1 - (lg_sl ([.ref a])).length) Slot.unset).toArray = ls at hl ⊢
  replace hl : lv_has ls 1 [(0, .ref a)] := hl
  obtain ⟨-, ⟨v, h2⟩, h3, h4⟩ := hSt
  refine va_gets hx hb h3 hS hown (hts _ (hs_jg (List.mem_of_getElem? (i := 7) rfl))) (fun _ q => q) td_cJ0_isLatin1_aae02_0 ?_
  refine lv_if_eq (tgt := 17) hx hb td_cJ0_isLatin1_aae02_3 (by decide) (fun q => absurd q (by decide)) (fun _ => ?_)
  refine lv_aload_n hx hb td_cJ0_isLatin1_aae02_6 rfl (lv_at hl 0 rfl) ?_
  refine vk_getf hx hb (h2.1 0 (by decide)).2.1 hS hown (hts _ (hs_jg (List.mem_of_getElem? (i := 9) rfl))) (fun _ q => q) td_cJ0_isLatin1_aae02_7 ?_
  refine lv_if_ne (tgt := 17) hx hb td_cJ0_isLatin1_aae02_10 (by decide) (fun q => absurd rfl q) (fun _ => ?_)
  refine lv_iconst (v := 1) hx hb td_cJ0_isLatin1_aae02_13 (by decide) ?_
  refine lv_goto (tgt := 18) hx hb td_cJ0_isLatin1_aae02_14 (by decide) ?_
  exact W.zret (v := 1) hx hb hr rfl (fun t ht hW => ⟨rfl, ht⟩) (fun q h => absurd h List.not_mem_nil) td_cJ0_isLatin1_aae02_18
set_option maxRecDepth 100000 in
theorem hs_c_pre (l : Launch) (i n : Int32) (hi : ¬ i < 0) (hn : i < n) (fv : Value) (hf : fv = .null ∨ ∃ t, fv = .ref t) : Met l yJ3_checkIndex_8e157 (Cond.code yJ3_checkIndex_8e157 cJ3_checkIndex_8e157 3 (some .int) :: hs_g) (hs_rj 1) (fun v _ => v = [.int i, .int n, fv].toArray) (QcRead i) 0 0 (fun _ => False) := by
  refine Met.ofW (cc := cJ3_checkIndex_8e157) (maxL := 3) (ret := (some .int)) (by decide) rfl ?_
  intro p e s m args below meth c s₁ B hml hv
  subst hv
  have hx := B.exec
  have hb := B.bytes
  have hr := B.returns
  have hlocks := B.notSynchronized
  have hlen : (lg_sl [.int i, .int n, fv]).length ≤ 3 := by rcases hf with rfl | ⟨t, rfl⟩ <;> exact Nat.le_of_ble_eq_true rfl
  have hl := lv_entry ([.int i, .int n, fv]) (n := 3) hlen
  rw [lg_entry_eq]
  generalize (lg_sl ([.int i, .int n, fv]) ++ List.replicate (3 - (lg_sl ([.int i, .int n, fv])).length) Slot.unset).toArray = ls at hl ⊢
  replace hl : lv_has ls 3 [(0, .int i), (1, .int n), (2, fv)] := hl
  refine lv_iload_n hx hb td_cJ3_checkIndex_8e157_0 rfl (lv_at hl 0 rfl) ?_
  refine lv_if_lt (tgt := 9) hx hb td_cJ3_checkIndex_8e157_1 (by decide) (fun q => absurd q hi) (fun _ => ?_)
  refine lv_iload_n hx hb td_cJ3_checkIndex_8e157_4 rfl (lv_at hl 0 rfl) ?_
  refine lv_iload_n hx hb td_cJ3_checkIndex_8e157_5 rfl (lv_at hl 1 rfl) ?_
  refine lv_icmp_lt (tgt := 16) hx hb td_cJ3_checkIndex_8e157_6 (by decide) (fun _ => ?_) (fun q => absurd hn q)
  refine lv_iload_n hx hb td_cJ3_checkIndex_8e157_16 rfl (lv_at hl 0 rfl) ?_
  exact W.iret hx hb hr (fun t ht hW => ⟨rfl, ht⟩) (fun q h => absurd h List.not_mem_nil) td_cJ3_checkIndex_8e157_17
set_option maxRecDepth 100000 in
theorem hs_c_chk (l : Launch) (bs a : Nat) (i n : Int32) (hi : ¬ i < 0) (hn : i < n) : Met l yJ0_checkIndex_df160 (Cond.code yJ0_checkIndex_df160 cJ0_checkIndex_df160 2 none :: hs_g) (hs_rj 2) (hs_Pt bs a [.int i, .int n]) hs_Q0 0 0 (fun _ => False) := by
  refine Met.ofW (cc := cJ0_checkIndex_df160) (maxL := 2) (ret := none) (by decide) rfl ?_
  intro p e s m args below meth c s₁ B hml hv
  obtain ⟨rfl, hSt⟩ := hv
  have hx := B.exec
  have hb := B.bytes
  have hr := B.returns
  have hts0 := atoms_spec (ws := Cond.code yJ0_checkIndex_df160 cJ0_checkIndex_df160 2 none :: hs_g) B.pre
  have hts : ∀ w ∈ hs_g, w.before _ s = true := fun w hw => hts0 w (List.mem_cons_of_mem _ hw)
  have hown : s.vm.findClass RJ0 = some m.cls := findClass_of_methodNamed B.named
  have hlocks := B.notSynchronized
  have hS : va_S (hs_A bs) s.heap s.heap [] := va_S.rf
  have hl := lv_entry ([.int i, .int n]) (n := 2) (Nat.le_of_ble_eq_true rfl)
  rw [lg_entry_eq]
  generalize (lg_sl ([.int i, .int n]) ++ List.replicate (2 - (lg_sl ([.int i, .int n])).length) Slot.unset).toArray = ls at hl ⊢
  replace hl : lv_has ls 2 [(0, .int i), (1, .int n)] := hl
  obtain ⟨-, -, -, h4⟩ := hSt
  refine lv_iload_n hx hb td_cJ0_checkIndex_df160_0 rfl (lv_at hl 0 rfl) ?_
  refine lv_iload_n hx hb td_cJ0_checkIndex_df160_1 rfl (lv_at hl 1 rfl) ?_
  have key : ∀ fv : Value, (fv = .null ∨ ∃ t, fv = .ref t) → W p l e (hs_rj 2) s m ([Value.int i, Value.int n]).toArray below meth c s.heap [] 0 0 (MQ below hs_Q0 ([Value.int i, Value.int n]).toArray s 0 0 (fun _ => False)) (F0 m 5 ls [fv, .int n, .int i]) := by
    intro fv hf
    refine W.callR (g := F0 m 5 ls [fv, .int n, .int i]) (W.runS (As := [.int i, .int n, fv]) (rest := []) (n := 3) ⟨hx, hb, hml, hown, hts⟩ (hs_c_pre l i n hi hn fv hf) ⟨callB_of (ws' := hs_g) 3 hts (hs_jgd (hs_jg (List.mem_of_getElem? (i := 6) rfl))) rfl rfl rfl (hts _ (hs_jg (List.mem_of_getElem? (i := 29) rfl))) (hts _ (hs_jg (List.mem_of_getElem? (i := 21) rfl))) (by decide +kernel) ⟨Nat.le_of_ble_eq_true rfl, Nat.le_of_ble_eq_true rfl⟩, (hts _ (hs_jg (List.mem_of_getElem? (i := 22) rfl)))⟩ ⟨fun _ _ _ _ q => q, fun _ _ _ => rfl⟩ rfl rfl hl.1 rfl (lv_room (Nat.le_of_ble_eq_true rfl)) td_cJ0_checkIndex_df160_5 ⟨Nat.le_refl _, Nat.le_refl _⟩) ?_
    refine lv_pop hx hb td_cJ0_checkIndex_df160_8 rfl ?_
    exact W.vret hx hb hr (fun t ht hW => ⟨rfl, ht⟩) (fun q h => absurd h List.not_mem_nil) td_cJ0_checkIndex_df160_9
  rcases h4 with h4 | ⟨t, h4⟩
  · exact va_gets hx hb h4 hS hown (hts _ (hs_jg (List.mem_of_getElem? (i := 10) rfl))) (fun _ q => q) td_cJ0_checkIndex_df160_2 (key _ (Or.inl rfl))
  · exact va_gets hx hb h4 hS hown (hts _ (hs_jg (List.mem_of_getElem? (i := 10) rfl))) (fun _ q => q) td_cJ0_checkIndex_df160_2 (key _ (Or.inr ⟨t, rfl⟩))
set_option maxRecDepth 100000 in
theorem hs_c_lch (l : Launch) (bs a v : Nat) (k : Nat) (hk : k < hs_tx.length) : Met l yJ1_charAt_3b067 (Cond.code yJ1_charAt_3b067 cJ1_charAt_3b067 2 (some .char) :: hs_g) (hs_rj 3) (fun w U => w = [.ref v, .int (nI k)].toArray ∧ hs_St bs a U U.heap ∧ vk_S 1 [hs_tx.length] [hs_tx] (fun _ => a) (fun _ => v) (hs_A bs) U U.heap) (QcRead (hs_tx.getD k 0)) 0 0 (fun _ => False) := by
  refine Met.ofW (cc := cJ1_charAt_3b067) (maxL := 2) (ret := (some .char)) (by decide) rfl ?_
  intro p e s m args below meth c s₁ B hml hv
  obtain ⟨rfl, hSt, h2⟩ := hv
  have hx := B.exec
  have hb := B.bytes
  have hr := B.returns
  have hts0 := atoms_spec (ws := Cond.code yJ1_charAt_3b067 cJ1_charAt_3b067 2 (some .char) :: hs_g) B.pre
  have hts : ∀ w ∈ hs_g, w.before _ s = true := fun w hw => hts0 w (List.mem_cons_of_mem _ hw)
  have hown : s.vm.findClass RJ1 = some m.cls := findClass_of_methodNamed B.named
  have hlocks := B.notSynchronized
  have hS : va_S (hs_A bs) s.heap s.heap [] := va_S.rf
  have hl := lv_entry ([.ref v, .int (nI k)]) (n := 2) (Nat.le_of_ble_eq_true rfl)
  rw [lg_entry_eq]
  generalize (lg_sl ([.ref v, .int (nI k)]) ++ List.replicate (2 - (lg_sl ([.ref v, .int (nI k)])).length) Slot.unset).toArray = ls at hl ⊢
  replace hl : lv_has ls 2 [(0, .ref v), (1, .int (nI k))] := hl
  have hT := (h2.1 0 (by decide)).2.2.2
  have hlen : hs_tx.length < 2 ^ 31 := by decide
  have hcl : (nI k).toNatClampNeg = k := nI_clamp (by omega)
  refine lv_iload_n hx hb td_cJ1_charAt_3b067_0 rfl (lv_at hl 1 rfl) ?_
  refine lv_aload_n hx hb td_cJ1_charAt_3b067_1 rfl (lv_at hl 0 rfl) ?_
  refine va_tlen (v := nI hs_tx.length) hx hb hT hS rfl td_cJ1_charAt_3b067_2 ?_
  refine W.callX (g := F0 m 3 ls [.int (nI hs_tx.length), .int (nI k)]) (W.runS (As := [.int (nI k), .int (nI hs_tx.length)]) (rest := []) (n := 2) ⟨hx, hb, hml, hown, hts⟩ (hs_c_chk l bs a (nI k) (nI hs_tx.length) (nI_pos (by omega)) (nI_lt hk hlen)) ⟨callB_of (ws' := hs_g) 2 hts (hs_jgd (hs_jg (List.mem_of_getElem? (i := 5) rfl))) rfl rfl rfl (hts _ (hs_jg (List.mem_of_getElem? (i := 27) rfl))) (hts _ (hs_jg (List.mem_of_getElem? (i := 19) rfl))) (by decide +kernel) ⟨Nat.le_of_ble_eq_true rfl, Nat.le_of_ble_eq_true rfl⟩, (hts _ (hs_jg (List.mem_of_getElem? (i := 20) rfl)))⟩ ⟨hs_Ptb, fun U hU hW => ⟨rfl, hSt.go hW hU hS⟩⟩ rfl rfl hl.1 rfl (lv_room (Nat.le_of_ble_eq_true rfl)) td_cJ1_charAt_3b067_3 ⟨Nat.le_refl _, Nat.le_refl _⟩) (fun _ h => h.elim) (fun w st₀ t g1 g2 => ?_)
  obtain ⟨g2, g3⟩ := g2
  cases g2
  rw [g3, g1]
  refine lv_aload_n hx hb td_cJ1_charAt_3b067_6 rfl (lv_at hl 0 rfl) ?_
  refine lv_iload_n hx hb td_cJ1_charAt_3b067_7 rfl (lv_at hl 1 rfl) ?_
  refine va_tb (v := .int (hs_tx.getD k 0)) hx hb hT hS (vp_in_nI hk hlen) (by rw [hcl]; rfl) td_cJ1_charAt_3b067_8 ?_
  refine lv_sipush (v := 255) hx hb td_cJ1_charAt_3b067_9 (by decide) ?_
  refine lv_iand hx hb td_cJ1_charAt_3b067_12 ?_
  refine lv_i2c (v := hs_tx.getD k 0) hx hb td_cJ1_charAt_3b067_13 (hs_txc k hk).1 ?_
  exact W.zret hx hb hr (hs_txc k hk).2 (fun t ht hW => ⟨rfl, ht⟩) (fun q h => absurd h List.not_mem_nil) td_cJ1_charAt_3b067_14
set_option maxRecDepth 100000 in
theorem hs_c_len (l : Launch) (bs a : Nat) : Met l yJ0_length_8abf5 (Cond.code yJ0_length_8abf5 cJ0_length_8abf5 1 (some .int) :: hs_g) (hs_rj 2) (hs_Pt bs a [.ref a]) (QcRead (Int32.ofNat hs_tx.length)) 0 0 (fun _ => False) := by
  refine Met.ofW (cc := cJ0_length_8abf5) (maxL := 1) (ret := (some .int)) (by decide) rfl ?_
  intro p e s m args below meth c s₁ B hml hv
  obtain ⟨rfl, hSt⟩ := hv
  have hx := B.exec
  have hb := B.bytes
  have hr := B.returns
  have hts0 := atoms_spec (ws := Cond.code yJ0_length_8abf5 cJ0_length_8abf5 1 (some .int) :: hs_g) B.pre
  have hts : ∀ w ∈ hs_g, w.before _ s = true := fun w hw => hts0 w (List.mem_cons_of_mem _ hw)
  have hown : s.vm.findClass RJ0 = some m.cls := findClass_of_methodNamed B.named
  have hlocks := B.notSynchronized
  have hS : va_S (hs_A bs) s.heap s.heap [] := va_S.rf
  have hl := lv_entry ([.ref a]) (n := 1) (Nat.le_of_ble_eq_true rfl)
  rw [lg_entry_eq]
  generalize (lg_sl ([.ref a]) ++ List.replicate (1 - (lg_sl ([.ref a])).length) Slot.unset).toArray = ls at hl ⊢
  replace hl : lv_has ls 1 [(0, .ref a)] := hl
  obtain ⟨-, ⟨v, h2⟩, h3, h4⟩ := id hSt
  refine lv_aload_n hx hb td_cJ0_length_8abf5_0 rfl (lv_at hl 0 rfl) ?_
  refine vk_getf hx hb (h2.1 0 (by decide)).2.2.1 hS hown (hts _ (hs_jg (List.mem_of_getElem? (i := 8) rfl))) (fun _ q => q) td_cJ0_length_8abf5_1 ?_
  refine va_tlen (v := Int32.ofNat hs_tx.length) hx hb (h2.1 0 (by decide)).2.2.2 hS rfl td_cJ0_length_8abf5_4 ?_
  refine lv_aload_n hx hb td_cJ0_length_8abf5_5 rfl (lv_at hl 0 rfl) ?_
  refine W.callR (g := F0 m 6 ls [.ref a, .int (Int32.ofNat hs_tx.length)]) (W.runV (C := RJ0) (As := []) (rest := [.int (Int32.ofNat hs_tx.length)]) (n := 0) ⟨hx, hb, hml, hown, hts⟩ (hs_c_coder l bs a) ⟨callB_of (ws' := hs_g) 0 hts (hs_jgd (hs_jg (List.mem_of_getElem? (i := 0) rfl))) rfl rfl rfl (hts _ (hs_jg (List.mem_of_getElem? (i := 27) rfl))) (hts _ (hs_jg (List.mem_of_getElem? (i := 11) rfl))) (by decide +kernel) ⟨Nat.le_of_ble_eq_true rfl, Nat.le_of_ble_eq_true rfl⟩, (hts _ (hs_jg (List.mem_of_getElem? (i := 12) rfl))), (hts _ (hs_jg (List.mem_of_getElem? (i := 13) rfl)))⟩ ⟨hs_Ptb, hs_recv (p := p) hSt hS, fun U hU hW => ⟨rfl, hSt.go hW hU hS⟩⟩ rfl rfl hl.1 rfl (lv_room (Nat.le_of_ble_eq_true rfl)) td_cJ0_length_8abf5_6 ⟨Nat.le_refl _, Nat.le_refl _⟩) ?_
  refine lv_ishr hx hb td_cJ0_length_8abf5_9 ?_
  have e1 : Int32.ofNat hs_tx.length >>> ((0 : Int32) &&& 31) = Int32.ofNat hs_tx.length := by decide +kernel
  exact W.iret (v := Int32.ofNat hs_tx.length >>> ((0 : Int32) &&& 31)) hx hb hr (fun t ht hW => ⟨by rw [e1], ht⟩) (fun q h => absurd h List.not_mem_nil) td_cJ0_length_8abf5_10
set_option maxRecDepth 100000 in
theorem hs_c_chr (l : Launch) (bs a : Nat) (k : Nat) (hk : k < hs_tx.length) : Met l yJ0_charAt_5068e (Cond.code yJ0_charAt_5068e cJ0_charAt_5068e 2 (some .char) :: hs_g) (hs_rj 4) (hs_Pt bs a [.ref a, .int (nI k)]) (QcRead (hs_tx.getD k 0)) 0 0 (fun _ => False) := by
  refine Met.ofW (cc := cJ0_charAt_5068e) (maxL := 2) (ret := (some .char)) (by decide) rfl ?_
  intro p e s m args below meth c s₁ B hml hv
  obtain ⟨rfl, hSt⟩ := hv
  have hx := B.exec
  have hb := B.bytes
  have hr := B.returns
  have hts0 := atoms_spec (ws := Cond.code yJ0_charAt_5068e cJ0_charAt_5068e 2 (some .char) :: hs_g) B.pre
  have hts : ∀ w ∈ hs_g, w.before _ s = true := fun w hw => hts0 w (List.mem_cons_of_mem _ hw)
  have hown : s.vm.findClass RJ0 = some m.cls := findClass_of_methodNamed B.named
  have hlocks := B.notSynchronized
  have hS : va_S (hs_A bs) s.heap s.heap [] := va_S.rf
  have hl := lv_entry ([.ref a, .int (nI k)]) (n := 2) (Nat.le_of_ble_eq_true rfl)
  rw [lg_entry_eq]
  generalize (lg_sl ([.ref a, .int (nI k)]) ++ List.replicate (2 - (lg_sl ([.ref a, .int (nI k)])).length) Slot.unset).toArray = ls at hl ⊢
  replace hl : lv_has ls 2 [(0, .ref a), (1, .int (nI k))] := hl
  obtain ⟨-, ⟨v, h2⟩, h3, h4⟩ := id hSt
  refine lv_aload_n hx hb td_cJ0_charAt_5068e_0 rfl (lv_at hl 0 rfl) ?_
  refine W.callR (g := F0 m 1 ls [.ref a]) (W.runV (C := RJ0) (As := []) (rest := []) (n := 0) ⟨hx, hb, hml, hown, hts⟩ (hs_c_lat l bs a) ⟨callB_of (ws' := hs_g) 0 hts (hs_jgd (hs_jg (List.mem_of_getElem? (i := 2) rfl))) rfl rfl rfl (hts _ (hs_jg (List.mem_of_getElem? (i := 27) rfl))) (hts _ (hs_jg (List.mem_of_getElem? (i := 14) rfl))) (by decide +kernel) ⟨Nat.le_of_ble_eq_true rfl, Nat.le_of_ble_eq_true rfl⟩, (hts _ (hs_jg (List.mem_of_getElem? (i := 15) rfl))), (hts _ (hs_jg (List.mem_of_getElem? (i := 16) rfl)))⟩ ⟨hs_Ptb, hs_recv (p := p) hSt hS, fun U hU hW => ⟨rfl, hSt.go hW hU hS⟩⟩ rfl rfl hl.1 rfl (lv_room (Nat.le_of_ble_eq_true rfl)) td_cJ0_charAt_5068e_1 ⟨Nat.le_refl _, Nat.le_refl _⟩) ?_
  refine lv_if_eq (pc := 4) (tgt := 16) hx hb td_cJ0_charAt_5068e_4 (by decide) (fun q => absurd q (by decide)) (fun _ => ?_)
  refine lv_aload_n hx hb td_cJ0_charAt_5068e_7 rfl (lv_at hl 0 rfl) ?_
  refine vk_getf hx hb (h2.1 0 (by decide)).2.2.1 hS hown (hts _ (hs_jg (List.mem_of_getElem? (i := 8) rfl))) (fun _ q => q) td_cJ0_charAt_5068e_8 ?_
  refine lv_iload_n hx hb td_cJ0_charAt_5068e_11 rfl (lv_at hl 1 rfl) ?_
  refine W.callR (g := F0 m 12 ls [.int (nI k), .ref v]) (W.runS (As := [.ref v, .int (nI k)]) (rest := []) (n := 2) ⟨hx, hb, hml, hown, hts⟩ (hs_c_lch l bs a v k hk) ⟨callB_of (ws' := hs_g) 2 hts (hs_jgd (hs_jg (List.mem_of_getElem? (i := 4) rfl))) rfl rfl rfl (hts _ (hs_jg (List.mem_of_getElem? (i := 28) rfl))) (hts _ (hs_jg (List.mem_of_getElem? (i := 17) rfl))) (by decide +kernel) ⟨Nat.le_of_ble_eq_true rfl, Nat.le_of_ble_eq_true rfl⟩, (hts _ (hs_jg (List.mem_of_getElem? (i := 18) rfl)))⟩ ⟨fun a U g mk q => ⟨q.1, q.2.1.same (U := U.calling g mk a) rfl rfl, (q.2.2.moved (U := U.calling g mk a) (Vm.Alike.refl U.vm))⟩, fun U hU hW => ⟨rfl, hSt.go hW hU hS, (h2.moved hW.alike).kept (fun q g1 g2 => by rw [hU])⟩⟩ rfl rfl hl.1 rfl (lv_room (Nat.le_of_ble_eq_true rfl)) td_cJ0_charAt_5068e_12 ⟨Nat.le_refl _, Nat.le_refl _⟩) ?_
  exact W.zret hx hb hr (hs_txc k hk).2 (fun t ht hW => ⟨rfl, ht⟩) (fun q h => absurd h List.not_mem_nil) td_cJ0_charAt_5068e_15
section HT
variable {p : Program} {l : Launch} {e : Env} {R : Room} {s : State} {m : MethodId} {args : Array Value} {below : List Frame} {meth : Method} {c : Code} {H : Heap} {locs : List Loc} {cells slots : Nat} {Q : State → Prop}
variable {D : va_G} {bs : Nat} {b : Nat × Nat} {ac : FieldType → ClassId} {scr : List Int32} {j pc : Nat} {ls : Array Slot} {rest : List Value} {h : hs_H}
set_option maxRecDepth 100000 in
theorem hs_wlen (hC : hs_Cx p s m args meth c D bs b ac scr j) {idx : Nat} (hlink : Cond.methodLink (hs_cn (hs_own j)) idx yJ0_length_8abf5 ∈ hs_g) (hls : ls.size = hs_mL j) (hS : va_S (hs_A bs) s.heap H locs) (hR : 8 ≤ R.frames ∧ 480 ≤ R.locals) (h8 : (rest.map fun v => v.category).sum ≤ 8) (hcap : cells ≤ R.cells ∧ slots ≤ R.slots) (hd : decode (hs_code j) pc = .ok (.invokevirtual idx, 3))
    (K : W p l e R s m args below meth c H locs cells slots Q (F0 m (pc + 3) ls (.int (Int32.ofNat hs_tx.length) :: rest))) : W p l e R s m args below meth c H locs cells slots Q (F0 m pc ls (.ref b.2 :: rest)) := by
  obtain ⟨hx, hb, hml, hown, hts, hKn, -, -, hSt⟩ := hC
  have hf : (hs_rj 2).frames + 1 ≤ R.frames ∧ 8 + (1 + 11) + (hs_rj 2).locals ≤ R.locals := ⟨Nat.le_trans (Nat.le_of_ble_eq_true rfl) hR.1, Nat.le_trans (Nat.le_of_ble_eq_true rfl) hR.2⟩
  exact W.callR (g := F0 m pc ls (.ref b.2 :: rest)) (W.runV (C := RJ0) (As := []) (rest := rest) (n := 0) ⟨hx, hb, hml, hown, hts⟩ (hs_c_len l bs b.2) ⟨callB_of (ws' := hs_g) 0 hts (hs_jgd (hs_jg (List.mem_of_getElem? (i := 1) rfl))) rfl rfl rfl (hts _ (hs_jg (List.mem_of_getElem? (i := 27) rfl))) (hts _ hlink) (by decide +kernel) hf, (hts _ (hs_jg (List.mem_of_getElem? (i := 23) rfl))), (hts _ (hs_jg (List.mem_of_getElem? (i := 24) rfl)))⟩ ⟨hs_Ptb, hs_recv (p := p) hSt hS, fun U hU hW => ⟨rfl, hSt.go hW hU hS⟩⟩ rfl rfl hls rfl (lv_room h8) hd hcap) K
set_option maxRecDepth 100000 in
theorem hs_wchr (hC : hs_Cx p s m args meth c D bs b ac scr j) {idx : Nat} {i : Int32} (hlink : Cond.methodLink (hs_cn (hs_own j)) idx yJ0_charAt_5068e ∈ hs_g) (hls : ls.size = hs_mL j) (hS : va_S (hs_A bs) s.heap H locs) (hR : 8 ≤ R.frames ∧ 480 ≤ R.locals) (h8 : (rest.map fun v => v.category).sum ≤ 8) (hcap : cells ≤ R.cells ∧ slots ≤ R.slots) (hi : hs_ib i hs_tx.length = true) (hd : decode (hs_code j) pc = .ok (.invokevirtual idx, 3))
    (K : W p l e R s m args below meth c H locs cells slots Q (F0 m (pc + 3) ls (.int (hs_tx.getD i.toNatClampNeg 0) :: rest))) : W p l e R s m args below meth c H locs cells slots Q (F0 m pc ls (.int i :: .ref b.2 :: rest)) := by
  obtain ⟨hx, hb, hml, hown, hts, hKn, -, -, hSt⟩ := hC
  have hlt := hs_ib_lt hi
  have hlen : hs_tx.length < 2 ^ 31 := by decide
  obtain ⟨k, hk, rfl⟩ := vp_in_of (hs_ib_ok hi) hlen
  have hcl : (nI k).toNatClampNeg = k := nI_clamp (by omega)
  rw [hcl] at K
  have hf : (hs_rj 4).frames + 1 ≤ R.frames ∧ 8 + (2 + 11) + (hs_rj 4).locals ≤ R.locals := ⟨Nat.le_trans (Nat.le_of_ble_eq_true rfl) hR.1, Nat.le_trans (Nat.le_of_ble_eq_true rfl) hR.2⟩
  exact W.callR (g := F0 m pc ls (.int (nI k) :: .ref b.2 :: rest)) (W.runV (C := RJ0) (As := [.int (nI k)]) (rest := rest) (n := 1) ⟨hx, hb, hml, hown, hts⟩ (hs_c_chr l bs b.2 k hk) ⟨callB_of (ws' := hs_g) 1 hts (hs_jgd (hs_jg (List.mem_of_getElem? (i := 3) rfl))) rfl rfl rfl (hts _ (hs_jg (List.mem_of_getElem? (i := 27) rfl))) (hts _ hlink) (by decide +kernel) hf, (hts _ (hs_jg (List.mem_of_getElem? (i := 25) rfl))), (hts _ (hs_jg (List.mem_of_getElem? (i := 26) rfl)))⟩ ⟨hs_Ptb, hs_recv (p := p) hSt hS, fun U hU hW => ⟨rfl, hSt.go hW hU hS⟩⟩ rfl rfl hls rfl (lv_room h8) hd hcap) K
end HT
