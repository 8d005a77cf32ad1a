/-! the whole run -/
def hs_isRet (j pc : Nat) (v : Option Value) : Prop := match v with
  | none => hs_ret j = none ∧ decode (hs_code j) pc = .ok (.return_, 1)
  | some (.int x) => (hs_ret j = some .int ∨ (hs_ret j = some .boolean ∧ (x = 0 ∨ x = 1))) ∧ decode (hs_code j) pc = .ok (.ireturn, 1)
  | some (.long _) => hs_ret j = some .long ∧ decode (hs_code j) pc = .ok (.lreturn, 1)
  | _ => False
set_option maxHeartbeats 4000000 in
theorem hs_ret_inv {scr : List Int32} {j pc len : Nat} {i : Instr} {loc : hs_L} {st : List Value} {h : hs_H} {o : hs_O} (hd : decode (hs_code j) pc = .ok (i, len)) (hln : hs_ln i = 0 ∨ len = hs_ln i) (hxi : hs_xi scr j i pc loc st h = some (.inr (.inl o))) : o.2 = h ∧ st = o.1.toList ∧ hs_isRet j pc o.1 := by
  cases i
  case ireturn =>
    replace hd := hs_lnd hd hln (n := 0) rfl
    replace hxi : hs_ri j st h = some (.inr (.inl o)) := hxi
    unfold hs_ri hs_re at hxi
    split at hxi
    · rename_i x hr
      cases hxi
      exact ⟨rfl, rfl, Or.inl hr, hd⟩
    · rename_i x hr
      split at hxi
      · rename_i hq
        cases hxi
        exact ⟨rfl, rfl, Or.inr ⟨hr, hq⟩, hd⟩
      · cases hxi
    · cases hxi
  case lreturn =>
    replace hd := hs_lnd hd hln (n := 0) rfl
    replace hxi : hs_rl j st h = some (.inr (.inl o)) := hxi
    unfold hs_rl hs_re at hxi
    split at hxi
    · rename_i x hr
      cases hxi
      exact ⟨rfl, rfl, hr, hd⟩
    · cases hxi
  case return_ =>
    replace hd := hs_lnd hd hln (n := 0) rfl
    replace hxi : hs_rv j st h = some (.inr (.inl o)) := hxi
    unfold hs_rv hs_re at hxi
    split at hxi
    · rename_i hr
      cases hxi
      exact ⟨rfl, rfl, hr, hd⟩
    · cases hxi
  case newarray at_ =>
    exfalso
    cases at_
    case int | long | byte =>
      replace hxi : hs_na _ (pc + 2) loc st h = some (.inr (.inl o)) := hxi
      unfold hs_na at hxi
      repeat' split at hxi
      all_goals cases hxi
    all_goals (replace hxi : (none : Option hs_X) = some (.inr (.inl o)) := hxi; cases hxi)
  case new k =>
    obtain ⟨ci, -, h2⟩ := hs_bind_inl hxi
    replace h2 : hs_nw ci pc loc st h = some (.inr (.inl o)) := h2
    cases h2
  case anewarray k =>
    exfalso
    obtain ⟨ci, -, h2⟩ := hs_bind_inl hxi
    replace h2 : (if ci = 9 ∨ ci = 4 ∨ ci = 5 then hs_na (.object (hs_cn ci)) (pc + 3) loc st h else none) = some (.inr (.inl o)) := h2
    unfold hs_na at h2
    repeat' split at h2
    all_goals cases h2
  case ldc k =>
    exfalso
    replace hxi : (if hs_own j = 8 ∧ k = hs_sk then hs_go (pc + 2) loc (.ref 1 :: st) h else (hs_kI (hs_own j) k).bind fun v => hs_go (pc + 2) loc (.int v :: st) h) = some (.inr (.inl o)) := hxi
    split at hxi
    · cases hxi
    · obtain ⟨v, -, h2⟩ := hs_bind_inl hxi
      cases h2
  case ldc_w | ldc2_w | goto =>
    obtain ⟨v, -, h2⟩ := hs_bind_inl hxi
    cases h2
  case getfield k =>
    exfalso
    obtain ⟨v, -, h2⟩ := hs_bind_inl hxi
    unfold hs_gf at h2
    repeat' split at h2
    all_goals cases h2
  case putfield k =>
    exfalso
    obtain ⟨v, -, h2⟩ := hs_bind_inl hxi
    unfold hs_pf at h2
    repeat' split at h2
    all_goals cases h2
  case invokevirtual k =>
    exfalso
    obtain ⟨v, -, h2⟩ := hs_bind_inl hxi
    unfold hs_iv at h2
    repeat' split at h2
    all_goals cases h2
  case invokespecial k =>
    exfalso
    obtain ⟨v, -, h2⟩ := hs_bind_inl hxi
    unfold hs_ip at h2
    repeat' split at h2
    all_goals cases h2
  case invokestatic k =>
    exfalso
    obtain ⟨v, -, h2⟩ := hs_bind_inl hxi
    unfold hs_is hs_acp hs_bi at h2
    repeat' split at h2
    all_goals cases h2
  case tableswitch df lo hi offs =>
    exfalso
    replace hxi : (match st with
    | .int x :: r => if x.toInt < lo ∨ hi < x.toInt then (hs_j pc df).bind fun t => hs_go t loc r h else (offs[(x.toInt - lo).toNat]?).bind fun o => (hs_j pc o).bind fun t => hs_go t loc r h
    | _ => none) = some (.inr (.inl o)) := hxi
    split at hxi
    · split at hxi
      · obtain ⟨v, -, h2⟩ := hs_bind_inl hxi
        cases h2
      · obtain ⟨v, -, h2⟩ := hs_bind_inl hxi
        obtain ⟨w, -, h3⟩ := hs_bind_inl h2
        cases h3
    · cases hxi
  case lookupswitch df ps =>
    exfalso
    replace hxi : (match st with
    | .int x :: r => if (ps.toList.zip (ps.toList.drop 1)).all (fun (a, next) => a.1 < next.1) = true then (hs_j pc (Op.lookupswitch.offset ps.toList df x.toInt)).bind fun t => hs_go t loc r h else none
    | _ => none) = some (.inr (.inl o)) := hxi
    split at hxi
    · split at hxi
      · obtain ⟨v, -, h2⟩ := hs_bind_inl hxi
        cases h2
      · cases hxi
    · cases hxi
  case astore k | astore_n k =>
    exfalso
    replace hxi : hs_sa _ _ loc st h = some (.inr (.inl o)) := hxi
    unfold hs_sa at hxi
    split at hxi
    · obtain ⟨v, -, h2⟩ := hs_bind_inl hxi
      cases h2
    · cases hxi
  case istore k | istore_n k =>
    exfalso
    replace hxi : hs_si _ _ loc st h = some (.inr (.inl o)) := hxi
    unfold hs_si at hxi
    split at hxi
    · obtain ⟨v, -, h2⟩ := hs_bind_inl hxi
      cases h2
    · cases hxi
  case lstore k | lstore_n k =>
    exfalso
    replace hxi : hs_sl _ _ loc st h = some (.inr (.inl o)) := hxi
    unfold hs_sl at hxi
    split at hxi
    · obtain ⟨v, -, h2⟩ := hs_bind_inl hxi
      cases h2
    · cases hxi
  case iinc k c =>
    exfalso
    replace hxi : hs_inc k c pc loc st h = some (.inr (.inl o)) := hxi
    unfold hs_inc at hxi
    split at hxi
    · obtain ⟨v, -, h2⟩ := hs_bind_inl hxi
      cases h2
    · cases hxi
  all_goals first
    | (replace hxi : (none : Option hs_X) = some (.inr (.inl o)) := hxi; cases hxi; done)
    | (exfalso
       simp only [hs_xi, hs_la, hs_li, hs_ll, hs_i2, hs_i2d, hs_i1, hs_l2, hs_l2d, hs_br, hs_al, hs_aal, hs_asi, hs_asb, hs_asl, hs_aas, hs_len] at hxi
       (repeat' split at hxi) <;> cases hxi)
theorem hs_jL_ml : hs_jL = hs_ml.length := by decide +kernel
/-- the walk of a frame whose evaluation ends -/
def hs_Wk (l : Launch) (D : va_G) (bs : Nat) (b : Nat × Nat) (ac : FieldType → ClassId) (scr : List Int32) (d j pc : Nat) (loc : hs_L) (st : List Value) (h : hs_H) (v : Option Value) (h' : hs_H) : Prop :=
  ∀ {p : Program} {e : Env} {R : Room} {s : State} {m : MethodId} {args : Array Value} {below : List Frame} {meth : Method} {c : Code} {H : Heap} {locs : List Loc} {Q : State → Prop} {nc0 ns0 : Nat} {ls : Array Slot},
    hs_Cx p s m args meth c D bs b ac scr j → hs_lr bs b ls (hs_mL j) loc → hs_Sim D bs ac h H → va_S (hs_A bs) s.heap H locs → d + 8 ≤ R.frames → 60 * (d + 8) ≤ R.locals → nc0 ≤ hs_nn h → ns0 ≤ hs_ns h → hs_nn h' - nc0 ≤ R.cells → hs_ns h' - ns0 ≤ R.slots →
    (∀ (H' : Heap) (locs' : List Loc) (ls' : Array Slot) (pc' : Nat), hs_Sim D bs ac h' H' → va_S (hs_A bs) s.heap H' locs' → hs_isRet j pc' v → W p l e R s m args below meth c H' locs' (hs_nn h' - nc0) (hs_ns h' - ns0) Q (F0 m pc' ls' (v.toList.map (hs_cv bs b)))) →
    W p l e R s m args below meth c H locs (hs_nn h - nc0) (hs_ns h - ns0) Q (F0 m pc ls (st.map (hs_cv bs b)))
set_option maxHeartbeats 4000000 in
/-- a method's contract out of its walk -/
theorem hs_met_of {l : Launch} {D : va_G} {bs : Nat} {b : Nat × Nat} {ac : FieldType → ClassId} {scr : List Int32} {d j : Nat} {as : List Value} {h h' : hs_H} {v : Option Value} (hj : j < hs_ml.length) (hf : hs_fitn j as = true) (hup : hs_Up h h') (hw : hs_Wk l D bs b ac scr d j 0 (hs_en (hs_mL j) as) [] h v h') : hs_Met l D bs b ac d j as h v h' := by
  have hM := hs_m_ok hj
  have hpl := (hs_cp _ hM.2.2.2.1).1
  refine Met.ofW (cc := hs_code j) (maxL := hs_mL j) (ret := hs_ret j) (by rw [hM.2.2.1]; exact hpl) rfl ?_
  intro p e s m args below meth c s₁ B hml hv
  obtain ⟨rfl, hSim, hKn, hSt⟩ := hv
  have hts := atoms_spec (ws := hs_mc (hs_m j) :: hs_g) B.pre
  have hown : s.vm.findClass (hs_m j).1.cls = some m.cls := findClass_of_methodNamed B.named
  rw [hM.2.2.1] at hown
  have hlocks := B.notSynchronized
  have hnm : meth.name = (hs_m j).1.name := (name_of_methodNamed B.named B.method).1
  have hr := B.returns
  have hC : hs_Cx p s m (as.map (hs_cv bs b)).toArray meth c D bs b ac scr j := ⟨B.exec, B.bytes, hml, hown, fun w hw => hts w (List.mem_cons_of_mem _ hw), hKn, fun hk => hnm.trans (hM.2.2.2.2.2.2.1 hk).1, fun hq => (by rw [hs_jL_ml] at hq; omega), hSt⟩
  rw [lg_entry_eq]
  have hz : s.heap.size = bs + h.1.length := hSim.1
  have h00 := (List.getElem?_eq_some_iff.mp hSim.2.1.2).1
  have key := hw (R := hs_rm d h h') (Q := MQ below (hs_Qc D bs b ac v h') (as.map (hs_cv bs b)).toArray s (hs_nn h' - hs_nn h) (hs_ns h' - hs_ns h) (hs_A bs)) (e := e) (below := below) (nc0 := hs_nn h) (ns0 := hs_ns h) hC (hs_en_lr hf) hSim (va_S.rf) (Nat.le_refl _) (Nat.le_refl _) (Nat.le_refl _) (Nat.le_refl _) (Nat.le_refl _) (Nat.le_refl _) (fun H' locs' ls' pc' hs2 hS2 hret => ?_)
  · rw [Nat.sub_self, Nat.sub_self] at key
    exact key
  · have hq : ∀ o : Option Value, o = v.map (hs_cv bs b) → ∀ t : State, t.heap = H' → s.WarmedH t.vm → hs_Qc D bs b ac v h' (as.map (hs_cv bs b)).toArray s (.returned o) t := fun o ho t ht _ => ⟨by rw [ho], by rw [ht]; exact hs2, fun q hq => by rw [ht]; exact hS2.2.1 q (by omega) (Nat.not_lt.mpr hq)⟩
    match v, hret with
    | none, hret => exact W.vret B.exec B.bytes (hr.trans hret.1) (fun t ht hW => hq _ rfl t ht hW) hS2.2.2 hret.2
    | some (.int x), hret =>
      rcases hret.1 with h1 | h1
      · exact W.iret B.exec B.bytes (hr.trans h1) (fun t ht hW => hq _ rfl t ht hW) hS2.2.2 hret.2
      · exact W.zret B.exec B.bytes (hr.trans h1.1) (by rcases h1.2 with q | q <;> rw [q] <;> rfl) (fun t ht hW => hq _ rfl t ht hW) hS2.2.2 hret.2
    | some (.long x), hret => exact W.lret B.exec B.bytes (hr.trans hret.1) (fun t ht hW => hq _ rfl t ht hW) hS2.2.2 hret.2
    | some (.float x), hret => exact hret.elim
    | some (.double x), hret => exact hret.elim
    | some .null, hret => exact hret.elim
    | some (.ref x), hret => exact hret.elim
    | some (.retAddr x), hret => exact hret.elim
