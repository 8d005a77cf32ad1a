/-! what a look into the tables gives -/
def hs_g : List Cond := lw_tbl.filter goodWord
theorem hs_ing {c : Cond} (h : c ∈ lw_tbl) (hg : goodWord c = true) : c ∈ hs_g := List.mem_filter.mpr ⟨h, hg⟩
theorem hs_goodg : GoodIn hs_g hs_g := fun w hw => ⟨hw, good_of_word (List.mem_filter.mp hw).2⟩
theorem hs_fld_ok {own idx ci f kd fin : Nat} (h : hs_fld own idx = some (ci, f, kd, fin)) :
    ci < 12 ∧ f < (hs_cw ci).2.2 ∧ Cond.fieldLink (hs_cn own) idx ((hs_cw ci).2.1 f).1 ((hs_cw ci).2.1 f).2.1 ((hs_cw ci).2.1 f).2.2.1 ∈ hs_g ∧ hs_kd (hs_ty ci f) = kd ∧ kd < 4 ∧ (((hs_cw ci).2.1 f).2.2.2 = (fin == 1)) ∧ ((hs_cw ci).2.1 f).1 = (hs_cw ci).1 ∧ hs_cn ci = (hs_cw ci).1 := by
  unfold hs_fld at h
  cases hq : hs_fl.find? (fun e => e.1 == own && e.2.1 == idx) with
  | none => rw [hq] at h; cases h
  | some e =>
    rw [hq] at h
    have he : e.2.2 = (ci, f, kd, fin) := Option.some.inj h
    have hm := List.mem_of_find?_eq_some hq
    have hp := List.find?_some hq
    simp only [Bool.and_eq_true, beq_iff_eq] at hp
    obtain ⟨o, x, r⟩ := e
    dsimp only at hp he
    obtain ⟨rfl, rfl⟩ := hp
    subst he
    have h1 := hs_fl_in _ (List.mem_map.mpr ⟨_, hm, rfl⟩)
    have h2 := List.all_eq_true.mp hs_fl_ok _ hm
    simp only [hs_fok, Bool.and_eq_true, decide_eq_true_eq] at h2
    obtain ⟨⟨⟨⟨⟨⟨a1, a2⟩, a3⟩, a4⟩, a5⟩, a6⟩, a7⟩ := h2
    exact ⟨a1, a2, hs_ing h1 rfl, a3, a4, a5, a6, a7⟩
theorem hs_new_ok {own idx ci : Nat} (h : hs_new own idx = some ci) : ci < 12 ∧ Cond.classLink (hs_cn own) idx (hs_cn ci) ∈ hs_g := by
  unfold hs_new at h
  cases hq : hs_nl.find? (fun e => e.1 == own && e.2.1 == idx) with
  | none => rw [hq] at h; cases h
  | some e =>
    rw [hq] at h
    have he : e.2.2 = ci := Option.some.inj h
    have hm := List.mem_of_find?_eq_some hq
    have hp := List.find?_some hq
    simp only [Bool.and_eq_true, beq_iff_eq] at hp
    obtain ⟨o, x, r⟩ := e
    dsimp only at hp he
    obtain ⟨rfl, rfl⟩ := hp
    subst he
    exact ⟨hs_nl_ok _ hm, hs_ing (hs_nl_in _ hm) rfl⟩
theorem hs_kI_ok {own idx : Nat} {v : Int32} (h : hs_kI own idx = some v) : Cond.constant (hs_cn own) idx v ∈ hs_g := by
  unfold hs_kI at h
  cases hq : hs_il.find? (fun e => e.1 == own && e.2.1 == idx) with
  | none => rw [hq] at h; cases h
  | some e =>
    rw [hq] at h
    have he : e.2.2 = v := Option.some.inj h
    have hm := List.mem_of_find?_eq_some hq
    have hp := List.find?_some hq
    simp only [Bool.and_eq_true, beq_iff_eq] at hp
    obtain ⟨o, x, r⟩ := e
    dsimp only at hp he
    obtain ⟨rfl, rfl⟩ := hp
    subst he
    exact hs_ing (hs_il_in _ hm) rfl
theorem hs_kL_ok {own idx : Nat} {v : Int64} (h : hs_kL own idx = some v) : Cond.constantLong (hs_cn own) idx v ∈ hs_g := by
  unfold hs_kL at h
  cases hq : hs_jl.find? (fun e => e.1 == own && e.2.1 == idx) with
  | none => rw [hq] at h; cases h
  | some e =>
    rw [hq] at h
    have he : e.2.2 = v := Option.some.inj h
    have hm := List.mem_of_find?_eq_some hq
    have hp := List.find?_some hq
    simp only [Bool.and_eq_true, beq_iff_eq] at hp
    obtain ⟨o, x, r⟩ := e
    dsimp only at hp he
    obtain ⟨rfl, rfl⟩ := hp
    subst he
    exact hs_ing (hs_jl_in _ hm) rfl
/-- what stands of a method in the tables -/
def hs_Mk (j : Nat) : Prop := hs_mc (hs_m j) ∈ hs_g ∧ (parseMethodDescriptor (hs_m j).1.desc).map (fun d => d.parameters.length) = some (hs_np j) ∧ (hs_m j).1.cls = hs_cn (hs_own j) ∧ hs_own j < 14 ∧ hs_mL j ≤ 20 ∧ hs_kind j < 4 ∧ (hs_kind j = 3 → (hs_m j).1.name = "<init>" ∧ hs_ret j = none) ∧
  (hs_kind j = 2 → Cond.static (hs_m j).1 ∈ hs_g) ∧ (hs_kind j ≠ 2 → Cond.instanceMethod (hs_m j).1 ∈ hs_g) ∧ (hs_kind j < 2 → Cond.selects (hs_m j).1.cls (hs_m j).1 (hs_m j).1 ∈ hs_g)
theorem hs_m_ok {j : Nat} (hj : j < hs_ml.length) : hs_Mk j := by
  have hm : hs_m j ∈ hs_ml := by
    rw [hs_m, List.getD_eq_getElem?_getD, List.getElem?_eq_getElem hj]
    exact List.getElem_mem hj
  have h2 := List.all_eq_true.mp hs_ml_ok _ hm
  simp only [hs_mok, Bool.and_eq_true, Bool.or_eq_true, decide_eq_true_eq, bne_iff_ne] at h2
  obtain ⟨⟨⟨⟨⟨a1, a2⟩, a3⟩, a4⟩, a5⟩, a6⟩ := h2
  refine ⟨hs_ing (hs_ml_in _ (List.mem_map.mpr ⟨_, hm, rfl⟩)) rfl, a1, a2, a3, a4, a5, fun h => ?_, fun h => ?_, fun h => ?_, fun h => ?_⟩
  · rcases a6 with a6 | a6
    · exact absurd h a6
    · exact a6
  · exact hs_ing (hs_st_in _ (List.mem_map.mpr ⟨_, List.mem_filter.mpr ⟨hm, beq_iff_eq.mpr h⟩, rfl⟩)) rfl
  · exact hs_ing (hs_im_in _ (List.mem_map.mpr ⟨_, List.mem_filter.mpr ⟨hm, bne_iff_ne.mpr h⟩, rfl⟩)) rfl
  · rcases (show hs_kind j = 0 ∨ hs_kind j = 1 by omega) with h0 | h0
    · exact hs_ing (hs_se_in _ (List.mem_map.mpr ⟨_, List.mem_filter.mpr ⟨hm, beq_iff_eq.mpr h0⟩, rfl⟩)) rfl
    · exact hs_ing (hs_sp_in _ (List.mem_map.mpr ⟨_, List.mem_filter.mpr ⟨hm, beq_iff_eq.mpr h0⟩, rfl⟩)) rfl
/-- what stands of a call in the tables -/
def hs_Ck (own idx k j : Nat) : Prop := (k = 0 ∧ j < hs_ml.length ∧ hs_kind j < 2 ∧ Cond.methodLink (hs_cn own) idx (hs_m j).1 ∈ hs_g) ∨ (k = 1 ∧ j < hs_ml.length ∧ hs_kind j = 2 ∧ Cond.methodLink (hs_cn own) idx (hs_m j).1 ∈ hs_g) ∨
  (k = 2 ∧ j < hs_ml.length ∧ hs_kind j = 3 ∧ Cond.methodLink (hs_cn own) idx (hs_m j).1 ∈ hs_g) ∨ (k = 3 ∧ j < hs_ml.length ∧ hs_kind j = 3 ∧ (own, idx, k, j) ∈ hs_nk) ∨ (k = 4 ∧ Cond.methodLink (hs_cn own) idx objectInit ∈ hs_g) ∨ (k = 5 ∧ Cond.methodLink (hs_cn own) idx arraycopyName ∈ hs_g) ∨
  (k = 6 ∧ Cond.methodLink (hs_cn own) idx Lib.Math.max.name ∈ hs_g) ∨ (k = 7 ∧ Cond.methodLink (hs_cn own) idx Lib.Math.min.name ∈ hs_g) ∨ (k = 8 ∧ Cond.methodLink (hs_cn own) idx Lib.Math.abs.name ∈ hs_g) ∨ (k = 9 ∧ Cond.methodLink (hs_cn own) idx Lib.MathLoose.abs_long.x ∈ hs_g) ∨ (k = 10 ∧ Cond.methodLink (hs_cn own) idx yJ0_length_8abf5 ∈ hs_g) ∨ (k = 11 ∧ Cond.methodLink (hs_cn own) idx yJ0_charAt_5068e ∈ hs_g)
theorem hs_cal_ok {own idx k j : Nat} (h : hs_cal own idx = some (k, j)) : hs_Ck own idx k j := by
  unfold hs_cal at h
  cases hq : (hs_kl ++ hs_nk).find? (fun e => e.1 == own && e.2.1 == idx) with
  | none => rw [hq] at h; cases h
  | some e =>
    rw [hq] at h
    have he : e.2.2 = (k, j) := Option.some.inj h
    have hm := List.mem_of_find?_eq_some hq
    have hp := List.find?_some hq
    simp only [Bool.and_eq_true, beq_iff_eq] at hp
    obtain ⟨o, x, r⟩ := e
    dsimp only at hp he
    obtain ⟨rfl, rfl⟩ := hp
    subst he
    rcases List.mem_append.mp hm with hm | hm
    · have h1 := hs_ing (hs_kl_in _ (List.mem_map.mpr ⟨_, hm, rfl⟩)) rfl
      have h2 := List.all_eq_true.mp hs_kl_ok _ hm
      simp only [hs_kok, Bool.and_eq_true, decide_eq_true_eq] at h2
      obtain ⟨h3, h4⟩ := h2
      unfold hs_Ck
      split at h4
      · exact Or.inl ⟨rfl, h3, by simpa using h4, h1⟩
      · exact Or.inr (Or.inl ⟨rfl, h3, by simpa using h4, h1⟩)
      · exact Or.inr (Or.inr (Or.inl ⟨rfl, h3, by simpa using h4, h1⟩))
      · exact Or.inr (Or.inr (Or.inr (Or.inr (Or.inl ⟨rfl, h1⟩))))
      · exact Or.inr (Or.inr (Or.inr (Or.inr (Or.inr (Or.inl ⟨rfl, h1⟩)))))
      · exact Or.inr (Or.inr (Or.inr (Or.inr (Or.inr (Or.inr (Or.inl ⟨rfl, h1⟩))))))
      · exact Or.inr (Or.inr (Or.inr (Or.inr (Or.inr (Or.inr (Or.inr (Or.inl ⟨rfl, h1⟩)))))))
      · exact Or.inr (Or.inr (Or.inr (Or.inr (Or.inr (Or.inr (Or.inr (Or.inr (Or.inl ⟨rfl, h1⟩))))))))
      · exact Or.inr (Or.inr (Or.inr (Or.inr (Or.inr (Or.inr (Or.inr (Or.inr (Or.inr (Or.inl ⟨rfl, h1⟩)))))))))
      · exact Or.inr (Or.inr (Or.inr (Or.inr (Or.inr (Or.inr (Or.inr (Or.inr (Or.inr (Or.inr (Or.inl ⟨rfl, h1⟩))))))))))
      · exact Or.inr (Or.inr (Or.inr (Or.inr (Or.inr (Or.inr (Or.inr (Or.inr (Or.inr (Or.inr (Or.inr ⟨rfl, h1⟩))))))))))
      · cases h4
    · have h2 := List.all_eq_true.mp hs_nk_ok _ hm
      simp only [Bool.and_eq_true, decide_eq_true_eq] at h2
      obtain ⟨⟨h3, h4⟩, h5⟩ := h2
      exact Or.inr (Or.inr (Or.inr (Or.inl ⟨h4, h3, h5, hm⟩)))
/-! what the machine knows at a method's entry -/
def hs_A (bs : Nat) : Nat → Prop := fun q => bs + 1 < q
/-- the one text, and what its members read: it stands below the system's cells -/
def hs_St (bs a : Nat) (U : State) (H : Heap) : Prop := vk_R (hs_cn 8) hs_sk hs_stx a U ∧ (∃ v : Nat, vk_S 1 [hs_tx.length] [hs_tx] (fun _ => a) (fun _ => v) (hs_A bs) U H) ∧ va_Z "java/lang/String" "COMPACT_STRINGS" "Z" (.int 1) (hs_A bs) U H ∧ va_Zq "jdk/internal/util/Preconditions" "SIOOBE_FORMATTER" "Ljava/util/function/BiFunction;" (hs_A bs) U H
theorem hs_St.go {bs a : Nat} {s U : State} {H : Heap} {locs : List Loc} (h : hs_St bs a s s.heap) (hW : s.WarmedH U.vm) (hU : U.heap = H) (hS : va_S (hs_A bs) s.heap H locs) : hs_St bs a U U.heap := by
  obtain ⟨h1, ⟨v, h2⟩, h3, h4⟩ := h
  have hq : ∀ q : Nat, q < s.heap.size → ¬ hs_A bs q → U.heap[q]? = s.heap[q]? := fun q g1 g2 => by rw [hU]; exact hS.2.1 q g1 g2
  refine ⟨h1.warm hW, ⟨v, (h2.moved hW.alike).kept hq⟩, (h3.moved hW.alike).kept hq, ?_⟩
  rcases h4 with h4 | ⟨t, h4⟩
  · exact Or.inl ((h4.moved hW.alike).kept hq)
  · exact Or.inr ⟨t, (h4.moved hW.alike).kept hq⟩
theorem hs_St.same {bs a : Nat} {s U : State} (h : hs_St bs a s s.heap) (hv : U.vm = s.vm) (hh : U.heap = s.heap) : hs_St bs a U U.heap := by
  obtain ⟨h1, ⟨v, h2⟩, h3, h4⟩ := h
  have hal : s.vm.Alike U.vm := by rw [hv]; exact Vm.Alike.refl _
  have hq : ∀ q : Nat, q < s.heap.size → ¬ hs_A bs q → U.heap[q]? = s.heap[q]? := fun q g1 g2 => by rw [hh]
  refine ⟨h1.same hv, ⟨v, (h2.moved hal).kept hq⟩, (h3.moved hal).kept hq, ?_⟩
  rcases h4 with h4 | ⟨t, h4⟩
  · exact Or.inl ((h4.moved hal).kept hq)
  · exact Or.inr ⟨t, (h4.moved hal).kept hq⟩
def hs_at6 : List FieldType := [.int, .long, .byte, .object (hs_cn 9), .object (hs_cn 4), .object (hs_cn 5)]
def hs_Kn (D : va_G) (ac : FieldType → ClassId) (s : State) : Prop := va_K D vwCl (hs_at6.map fun ty => (ac ty, ty)) s ∧ (∀ e ∈ hs_nk, va_Nw (hs_nc e) s) ∧ ∀ ci, (ci = 9 ∨ ci = 4 ∨ ci = 5) → va_AO (hs_cn ci) s
theorem hs_Kn.warm {D : va_G} {ac : FieldType → ClassId} {s U : State} (h : hs_Kn D ac s) (hW : s.WarmedH U.vm) : hs_Kn D ac U := ⟨va_K.moved hW.alike h.1, fun e he => va_Nw.warmM hW (h.2.1 e he), fun ci hc => (h.2.2 ci hc).moved hW.alike⟩
theorem hs_Kn.same {D : va_G} {ac : FieldType → ClassId} {s U : State} (h : hs_Kn D ac s) (hv : s.vm = U.vm) : hs_Kn D ac U := ⟨va_K.moved (by rw [hv]; exact Vm.Alike.refl _) h.1, fun e he => va_Nw.same rfl hv (h.2.1 e he), fun ci hc => (h.2.2 ci hc).moved (by rw [hv]; exact Vm.Alike.refl _)⟩
theorem hs_Kn.arr {D : va_G} {ac : FieldType → ClassId} {s : State} (h : hs_Kn D ac s) {ty : FieldType} (ht : ty ∈ hs_at6) : ArrOfT s (ac ty) ty ∧ va_RA s (ac ty) ty := by
  obtain ⟨k, hk, he⟩ := List.getElem_of_mem ht
  exact h.1.2 k (ac ty, ty) (by rw [List.getElem?_map, List.getElem?_eq_getElem hk, he]; rfl)
/-- a method's frame: the machine, its code, its class, the tables' words, what is known; the law has its script -/
def hs_Cx (p : Program) (s : State) (m : MethodId) (args : Array Value) (meth : Method) (c : Code) (D : va_G) (bs : Nat) (b : Nat × Nat) (ac : FieldType → ClassId) (scr : List Int32) (j : Nat) : Prop :=
  p.tables.exec = Jvm.exec ∧ c.code = hs_code j ∧ c.maxLocals = hs_mL j ∧ s.vm.findClass (hs_cn (hs_own j)) = some m.cls ∧ (∀ w ∈ hs_g, w.before args s = true) ∧ hs_Kn D ac s ∧ (hs_kind j = 3 → meth.name = "<init>") ∧ (j = hs_jL → va_X b.1 scr.length (fun i => scr.getD i 0) s s.heap ∧ b.1 < s.heap.size ∧ b.1 ≤ bs + 1) ∧ hs_St bs b.2 s s.heap
theorem hs_lnd {cc : ByteArray} {pc len n : Nat} {i : Instr} (hd : decode cc pc = .ok (i, len)) (h : hs_ln i = 0 ∨ len = hs_ln i) (e : hs_ln i = n + 1) : decode cc pc = .ok (i, n + 1) := by
  rcases h with h | h
  · omega
  · rw [← e, ← h]; exact hd
theorem hs_ib_ok {i : Int32} {n : Nat} (h : hs_ib i n = true) : vp_in i n := by
  simp only [hs_ib, Bool.and_eq_true, decide_eq_true_eq] at h
  exact fun q => q.elim h.1 (fun q => by omega)
theorem hs_ib_lt {i : Int32} {n : Nat} (h : hs_ib i n = true) : i.toNatClampNeg < n := by
  simp only [hs_ib, Bool.and_eq_true, decide_eq_true_eq] at h
  exact h.2
theorem hs_j_ok {pc t : Nat} {off : Int} (h : hs_j pc off = some t) : (pc : Int) + off = (t : Int) := by
  unfold hs_j at h
  split at h
  · rename_i n hn
    cases h
    exact hn
  · cases h
