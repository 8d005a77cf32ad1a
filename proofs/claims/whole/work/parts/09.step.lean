/-! one step of the evaluator is one step of the machine: every instruction that goes on -/
theorem hs_acl : Cond.arrayClass .int ∈ tables_1 ∧ Cond.arrayClass .long ∈ tables_1 ∧ Cond.arrayClass .byte ∈ tables_1 := by decide +kernel
theorem hs_rs_ok {r : List Value} (bs : Nat) (b : Nat × Nat) (h : hs_rs r = true) : ((r.map (hs_cv bs b)).map fun v => v.category).sum ≤ 8 := by
  simp only [hs_rs, decide_eq_true_eq] at h
  have e : ((r.map (hs_cv bs b)).map fun v => v.category) = r.map fun v => v.category := by
    rw [List.map_map]
    congr 1
    funext v
    exact hs_cv_cat bs b v
  rw [e]
  exact h
theorem hs_ns_add (s : hs_S) (h : hs_H) : hs_ns (hs_add s h) = hs_ns h + hs_sz s := by simp [hs_ns, hs_add]
theorem hs_nn_add (s : hs_S) (h : hs_H) : hs_nn (hs_add s h) = hs_nn h + 1 := by simp [hs_nn, hs_add]
theorem hs_Sput {bs : Nat} {H0 H H' : Heap} {locs : List Loc} {k x : Nat} (hS : va_S (hs_A bs) H0 H locs) (hz : H'.size = H.size) (oq : ∀ q : Nat, q ≠ bs + k → H'[q]? = H[q]?) (hk : 2 ≤ k) : va_S (hs_A bs) H0 H' (locs ++ [⟨bs + k, x⟩]) := hS.put hz oq (show bs + 1 < bs + k by omega)
theorem hs_Snew {bs : Nat} {H0 H H' : Heap} {locs : List Loc} (hS : va_S (hs_A bs) H0 H locs) (hz : H'.size = H.size + 1) (oq : ∀ q : Nat, q < H.size → H'[q]? = H[q]?) : va_S (hs_A bs) H0 H' locs := ⟨by have := hS.1; omega, fun q h1 h2 => (oq q (Nat.lt_of_lt_of_le h1 hS.1)).trans (hS.2.1 q h1 h2), hS.2.2⟩
theorem hs_Scpy {bs : Nat} {H0 H H' : Heap} {locs L : List Loc} {k : Nat} (hS : va_S (hs_A bs) H0 H locs) (hz : H'.size = H.size) (oq : ∀ q : Nat, q ≠ bs + k → H'[q]? = H[q]?) (hk : 2 ≤ k) (hL : ∀ q ∈ L, q.base = bs + k) : va_S (hs_A bs) H0 H' (locs ++ L) := by
  refine ⟨by rw [hz]; exact hS.1, fun q h1 h2 => ?_, fun q hq => ?_⟩
  · rw [oq q (fun e => h2 (by rw [e]; show bs + 1 < bs + k; omega))]
    exact hS.2.1 q h1 h2
  · rcases List.mem_append.mp hq with h1 | h1
    · exact hS.2.2 q h1
    · show bs + 1 < q.base
      rw [hL q h1]; omega
set_option maxHeartbeats 4000000 in
set_option maxRecDepth 100000 in
theorem hs_step {p : Program} {l : Launch} {e : Env} {R : Room} {s : State} {m : MethodId} {args : Array Value} {below : List Frame} {meth : Method} {c : Code} {H : Heap} {locs : List Loc} {Q : State → Prop} {D : va_G} {bs : Nat} {b : Nat × Nat} {ac : FieldType → ClassId} {scr : List Int32} {j pc len nc0 ns0 : Nat} {ls : Array Slot} {loc : hs_L} {st : List Value} {h : hs_H} {i : Instr} {t : hs_T}
    (hC : hs_Cx p s m args meth c D bs b ac scr j) (hd : decode (hs_code j) pc = .ok (i, len)) (hln : hs_ln i = 0 ∨ len = hs_ln i) (hxi : hs_xi scr j i pc loc st h = some (.inl t)) (hl : hs_lr bs b ls (hs_mL j) loc) (hSim : hs_Sim D bs ac h H) (hS : va_S (hs_A bs) s.heap H locs) (hR : 8 ≤ R.frames ∧ 480 ≤ R.locals) (h0 : nc0 ≤ hs_nn h ∧ ns0 ≤ hs_ns h) (hcap : hs_nn t.2.2.2 - nc0 ≤ R.cells ∧ hs_ns t.2.2.2 - ns0 ≤ R.slots)
    (K : ∀ (H1 : Heap) (locs1 : List Loc) (ls1 : Array Slot), hs_lr bs b ls1 (hs_mL j) t.2.1 → hs_Sim D bs ac t.2.2.2 H1 → va_S (hs_A bs) s.heap H1 locs1 → W p l e R s m args below meth c H1 locs1 (hs_nn t.2.2.2 - nc0) (hs_ns t.2.2.2 - ns0) Q (F0 m t.1 ls1 (t.2.2.1.map (hs_cv bs b)))) :
    W p l e R s m args below meth c H locs (hs_nn h - nc0) (hs_ns h - ns0) Q (F0 m pc ls (st.map (hs_cv bs b))) := by
  obtain ⟨hx, hb, hml, hown, hts, hKn, hini, hscr, hSt⟩ := id hC
  have hk1 : ∀ {k n : Nat} {ty : FieldType}, h.1[k]? = some (.inr (ty, n)) → 2 ≤ k := fun hk => hs_k0 hSim.2.1 hk ⟨fun e => (by cases e), fun e => (by cases e)⟩
  have hk2 : ∀ {k ci : Nat}, h.1[k]? = some (.inl ci) → ci < 12 → 2 ≤ k := fun hk hc => hs_k0 hSim.2.1 hk ⟨fun e => (by cases e; omega), fun e => (by cases e; omega)⟩
  cases i
  case aload_n k =>
    replace hd := hs_lnd hd hln (n := 0) rfl
    replace hxi : hs_la k.val (pc + 1) loc st h = some (.inl t) := hxi
    unfold hs_la at hxi
    split at hxi
    · rename_i a ha
      cases hxi
      exact lv_aload_n hx hb hd rfl (hl.2.2.2 _ _ ha) (K _ _ _ hl hSim hS)
    · cases hxi
  case aload k =>
    replace hd := hs_lnd hd hln (n := 1) rfl
    replace hxi : hs_la k (pc + 2) loc st h = some (.inl t) := hxi
    unfold hs_la at hxi
    split at hxi
    · rename_i a ha
      cases hxi
      exact lv_aload hx hb hd (hl.2.2.2 _ _ ha) (K _ _ _ hl hSim hS)
    · cases hxi
  case iload_n k =>
    replace hd := hs_lnd hd hln (n := 0) rfl
    replace hxi : hs_li k.val (pc + 1) loc st h = some (.inl t) := hxi
    unfold hs_li at hxi
    split at hxi
    · rename_i a ha
      cases hxi
      exact lv_iload_n hx hb hd rfl (hl.2.2.2 _ _ ha) (K _ _ _ hl hSim hS)
    · cases hxi
  case iload k =>
    replace hd := hs_lnd hd hln (n := 1) rfl
    replace hxi : hs_li k (pc + 2) loc st h = some (.inl t) := hxi
    unfold hs_li at hxi
    split at hxi
    · rename_i a ha
      cases hxi
      exact lv_iload hx hb hd (hl.2.2.2 _ _ ha) (K _ _ _ hl hSim hS)
    · cases hxi
  case lload_n k =>
    replace hd := hs_lnd hd hln (n := 0) rfl
    replace hxi : hs_ll k.val (pc + 1) loc st h = some (.inl t) := hxi
    unfold hs_ll at hxi
    split at hxi
    · rename_i a ha
      cases hxi
      exact lv_lload_n hx hb hd rfl (hl.2.2.2 _ _ ha) (K _ _ _ hl hSim hS)
    · cases hxi
  case lload k =>
    replace hd := hs_lnd hd hln (n := 1) rfl
    replace hxi : hs_ll k (pc + 2) loc st h = some (.inl t) := hxi
    unfold hs_ll at hxi
    split at hxi
    · rename_i a ha
      cases hxi
      exact lv_lload hx hb hd (hl.2.2.2 _ _ ha) (K _ _ _ hl hSim hS)
    · cases hxi
  case astore_n k =>
    replace hd := hs_lnd hd hln (n := 0) rfl
    replace hxi : hs_sa k.val (pc + 1) loc st h = some (.inl t) := hxi
    unfold hs_sa at hxi
    split at hxi
    · rename_i a r
      cases hp : hs_put loc k.val (.ref a) with
      | none => rw [hp] at hxi; cases hxi
      | some l' =>
        rw [hp] at hxi
        cases hxi
        exact lv_astore_n (lv' := _) hx hb hd rfl (hs_lr_has hl) (hs_put1 (bs := bs) (b := b) (ls' := ls) hp rfl hl.1).1 rfl (fun ls' hl' => K _ _ _ ((hs_put1 hp rfl hl.1).2 hl') hSim hS)
    · cases hxi
  case astore k =>
    replace hd := hs_lnd hd hln (n := 1) rfl
    replace hxi : hs_sa k (pc + 2) loc st h = some (.inl t) := hxi
    unfold hs_sa at hxi
    split at hxi
    · rename_i a r
      cases hp : hs_put loc k (.ref a) with
      | none => rw [hp] at hxi; cases hxi
      | some l' =>
        rw [hp] at hxi
        cases hxi
        exact lv_astore (lv' := _) hx hb hd (hs_lr_has hl) (hs_put1 (bs := bs) (b := b) (ls' := ls) hp rfl hl.1).1 rfl (fun ls' hl' => K _ _ _ ((hs_put1 hp rfl hl.1).2 hl') hSim hS)
    · cases hxi
  case istore_n k =>
    replace hd := hs_lnd hd hln (n := 0) rfl
    replace hxi : hs_si k.val (pc + 1) loc st h = some (.inl t) := hxi
    unfold hs_si at hxi
    split at hxi
    · rename_i a r
      cases hp : hs_put loc k.val (.int a) with
      | none => rw [hp] at hxi; cases hxi
      | some l' =>
        rw [hp] at hxi
        cases hxi
        exact lv_istore_n (lv' := _) hx hb hd rfl (hs_lr_has hl) (hs_put1 (bs := bs) (b := b) (ls' := ls) hp rfl hl.1).1 rfl (fun ls' hl' => K _ _ _ ((hs_put1 hp rfl hl.1).2 hl') hSim hS)
    · cases hxi
  case istore k =>
    replace hd := hs_lnd hd hln (n := 1) rfl
    replace hxi : hs_si k (pc + 2) loc st h = some (.inl t) := hxi
    unfold hs_si at hxi
    split at hxi
    · rename_i a r
      cases hp : hs_put loc k (.int a) with
      | none => rw [hp] at hxi; cases hxi
      | some l' =>
        rw [hp] at hxi
        cases hxi
        exact lv_istore (lv' := _) hx hb hd (hs_lr_has hl) (hs_put1 (bs := bs) (b := b) (ls' := ls) hp rfl hl.1).1 rfl (fun ls' hl' => K _ _ _ ((hs_put1 hp rfl hl.1).2 hl') hSim hS)
    · cases hxi
  case lstore_n k =>
    replace hd := hs_lnd hd hln (n := 0) rfl
    replace hxi : hs_sl k.val (pc + 1) loc st h = some (.inl t) := hxi
    unfold hs_sl at hxi
    split at hxi
    · rename_i a r
      cases hp : hs_put loc k.val (.long a) with
      | none => rw [hp] at hxi; cases hxi
      | some l' =>
        rw [hp] at hxi
        cases hxi
        exact lv_lstore_n (lv' := _) hx hb hd rfl (hs_lr_has hl) (hs_put2 (bs := bs) (b := b) (ls' := ls) hp rfl hl.1).1 rfl (fun ls' hl' => K _ _ _ ((hs_put2 hp rfl hl.1).2 hl') hSim hS)
    · cases hxi
  case lstore k =>
    replace hd := hs_lnd hd hln (n := 1) rfl
    replace hxi : hs_sl k (pc + 2) loc st h = some (.inl t) := hxi
    unfold hs_sl at hxi
    split at hxi
    · rename_i a r
      cases hp : hs_put loc k (.long a) with
      | none => rw [hp] at hxi; cases hxi
      | some l' =>
        rw [hp] at hxi
        cases hxi
        exact lv_lstore (lv' := _) hx hb hd (hs_lr_has hl) (hs_put2 (bs := bs) (b := b) (ls' := ls) hp rfl hl.1).1 rfl (fun ls' hl' => K _ _ _ ((hs_put2 hp rfl hl.1).2 hl') hSim hS)
    · cases hxi
  case iinc k n =>
    replace hd := hs_lnd hd hln (n := 2) rfl
    replace hxi : hs_inc k n pc loc st h = some (.inl t) := hxi
    unfold hs_inc at hxi
    split at hxi
    · rename_i x hg
      cases hp : hs_put loc k (.int (x + Int32.ofInt n)) with
      | none => rw [hp] at hxi; cases hxi
      | some l' =>
        rw [hp] at hxi
        cases hxi
        obtain ⟨q, hq1, hq2⟩ := List.getElem_of_mem (show (k, Value.int x) ∈ hs_lv bs b loc from List.mem_filterMap.mpr ⟨k, List.mem_range.mpr (hs_get_lt _ _ _ hg), by rw [hg]; rfl⟩)
        exact lv_iinc (lv' := _) (k := q) hx hb hd (hs_lr_has hl) (by rw [List.getElem?_eq_getElem hq1, hq2]) rfl (hs_put1 (bs := bs) (b := b) (ls' := ls) hp rfl hl.1).1 rfl (fun ls' hl' => K _ _ _ ((hs_put1 hp rfl hl.1).2 hl') hSim hS)
    · cases hxi
  case iconst n =>
    replace hd := hs_lnd hd hln (n := 0) rfl
    cases hxi
    exact lv_iconst hx hb hd rfl (K _ _ _ hl hSim hS)
  case bipush n =>
    replace hd := hs_lnd hd hln (n := 1) rfl
    cases hxi
    exact lv_bipush hx hb hd rfl (K _ _ _ hl hSim hS)
  case sipush n =>
    replace hd := hs_lnd hd hln (n := 2) rfl
    cases hxi
    exact lv_sipush hx hb hd rfl (K _ _ _ hl hSim hS)
  case lconst n =>
    replace hd := hs_lnd hd hln (n := 0) rfl
    cases hxi
    exact lv_lconst hx hb hd rfl (K _ _ _ hl hSim hS)
  case ldc k =>
    replace hd := hs_lnd hd hln (n := 1) rfl
    replace hxi : (if hs_own j = 8 ∧ k = hs_sk then hs_go (pc + 2) loc (.ref 1 :: st) h else (hs_kI (hs_own j) k).bind fun v => hs_go (pc + 2) loc (.int v :: st) h) = some (.inl t) := hxi
    split at hxi
    · rename_i hq
      cases hxi
      rw [hq.1] at hown
      have hd2 : decode (hs_code j) pc = .ok (.ldc hs_sk, 2) := by rw [← hq.2]; exact hd
      exact va_ldcS hx hb hown hSt.1 hd2 (K _ _ _ hl hSim hS)
    · cases hp : hs_kI (hs_own j) k with
      | none => rw [hp] at hxi; cases hxi
      | some v =>
        rw [hp] at hxi
        cases hxi
        exact lv_ldc hx hb hown (hts _ (hs_kI_ok hp)) hd (K _ _ _ hl hSim hS)
  case ldc_w k =>
    replace hd := hs_lnd hd hln (n := 2) rfl
    replace hxi : ((hs_kI (hs_own j) k).bind fun v => hs_go (pc + 3) loc (.int v :: st) h) = some (.inl t) := hxi
    cases hp : hs_kI (hs_own j) k with
    | none => rw [hp] at hxi; cases hxi
    | some v =>
      rw [hp] at hxi
      cases hxi
      exact lv_ldcw hx hb hown (hts _ (hs_kI_ok hp)) hd (K _ _ _ hl hSim hS)
  case ldc2_w k =>
    replace hd := hs_lnd hd hln (n := 2) rfl
    replace hxi : ((hs_kL (hs_own j) k).bind fun v => hs_go (pc + 3) loc (.long v :: st) h) = some (.inl t) := hxi
    cases hp : hs_kL (hs_own j) k with
    | none => rw [hp] at hxi; cases hxi
    | some v =>
      rw [hp] at hxi
      cases hxi
      exact lv_ldc2 hx hb hown (hts _ (hs_kL_ok hp)) hd (K _ _ _ hl hSim hS)
  case iadd =>
    replace hd := hs_lnd hd hln (n := 0) rfl
    replace hxi : hs_i2 (fun x y => x + y) pc loc st h = some (.inl t) := hxi
    unfold hs_i2 at hxi
    split at hxi
    · cases hxi
      exact lv_iadd hx hb hd (K _ _ _ hl hSim hS)
    · cases hxi
  case isub =>
    replace hd := hs_lnd hd hln (n := 0) rfl
    replace hxi : hs_i2 (fun x y => x - y) pc loc st h = some (.inl t) := hxi
    unfold hs_i2 at hxi
    split at hxi
    · cases hxi
      exact lv_isub hx hb hd (K _ _ _ hl hSim hS)
    · cases hxi
  case imul =>
    replace hd := hs_lnd hd hln (n := 0) rfl
    replace hxi : hs_i2 (fun x y => x * y) pc loc st h = some (.inl t) := hxi
    unfold hs_i2 at hxi
    split at hxi
    · cases hxi
      exact lv_imul hx hb hd (K _ _ _ hl hSim hS)
    · cases hxi
  case iand =>
    replace hd := hs_lnd hd hln (n := 0) rfl
    replace hxi : hs_i2 (fun x y => x &&& y) pc loc st h = some (.inl t) := hxi
    unfold hs_i2 at hxi
    split at hxi
    · cases hxi
      exact lv_iand hx hb hd (K _ _ _ hl hSim hS)
    · cases hxi
  case ior =>
    replace hd := hs_lnd hd hln (n := 0) rfl
    replace hxi : hs_i2 (fun x y => x ||| y) pc loc st h = some (.inl t) := hxi
    unfold hs_i2 at hxi
    split at hxi
    · cases hxi
      exact lv_ior hx hb hd (K _ _ _ hl hSim hS)
    · cases hxi
  case ixor =>
    replace hd := hs_lnd hd hln (n := 0) rfl
    replace hxi : hs_i2 (fun x y => x ^^^ y) pc loc st h = some (.inl t) := hxi
    unfold hs_i2 at hxi
    split at hxi
    · cases hxi
      exact lv_ixor hx hb hd (K _ _ _ hl hSim hS)
    · cases hxi
  case ishl =>
    replace hd := hs_lnd hd hln (n := 0) rfl
    replace hxi : hs_i2 (fun x y => x <<< (y &&& 31)) pc loc st h = some (.inl t) := hxi
    unfold hs_i2 at hxi
    split at hxi
    · cases hxi
      exact lv_ishl hx hb hd (K _ _ _ hl hSim hS)
    · cases hxi
  case ishr =>
    replace hd := hs_lnd hd hln (n := 0) rfl
    replace hxi : hs_i2 (fun x y => x >>> (y &&& 31)) pc loc st h = some (.inl t) := hxi
    unfold hs_i2 at hxi
    split at hxi
    · cases hxi
      exact lv_ishr hx hb hd (K _ _ _ hl hSim hS)
    · cases hxi
  case iushr =>
    replace hd := hs_lnd hd hln (n := 0) rfl
    replace hxi : hs_i2 (fun x y => (x.toUInt32 >>> (y.toUInt32 &&& Int32.toUInt32 31)).toInt32) pc loc st h = some (.inl t) := hxi
    unfold hs_i2 at hxi
    split at hxi
    · cases hxi
      exact lv_iushr hx hb hd rfl (K _ _ _ hl hSim hS)
    · cases hxi
  case idiv =>
    replace hd := hs_lnd hd hln (n := 0) rfl
    replace hxi : hs_i2d (fun x y => x / y) pc loc st h = some (.inl t) := hxi
    unfold hs_i2d at hxi
    split at hxi
    · split at hxi
      · cases hxi
      · rename_i hne
        cases hxi
        exact lv_idiv hx hb hd hne (K _ _ _ hl hSim hS)
    · cases hxi
  case irem =>
    replace hd := hs_lnd hd hln (n := 0) rfl
    replace hxi : hs_i2d (fun x y => x - x / y * y) pc loc st h = some (.inl t) := hxi
    unfold hs_i2d at hxi
    split at hxi
    · split at hxi
      · cases hxi
      · rename_i hne
        cases hxi
        exact lv_irem hx hb hd hne (K _ _ _ hl hSim hS)
    · cases hxi
  case ineg =>
    replace hd := hs_lnd hd hln (n := 0) rfl
    replace hxi : hs_i1 (fun x => -x) pc loc st h = some (.inl t) := hxi
    unfold hs_i1 at hxi
    split at hxi
    · cases hxi
      exact lv_ineg hx hb hd (K _ _ _ hl hSim hS)
    · cases hxi
  case i2b =>
    replace hd := hs_lnd hd hln (n := 0) rfl
    replace hxi : hs_i1 (fun x => x.toInt8.toInt32) pc loc st h = some (.inl t) := hxi
    unfold hs_i1 at hxi
    split at hxi
    · cases hxi
      exact lv_i2b hx hb hd rfl (K _ _ _ hl hSim hS)
    · cases hxi
  case i2s =>
    replace hd := hs_lnd hd hln (n := 0) rfl
    replace hxi : hs_i1 (fun x => x.toInt16.toInt32) pc loc st h = some (.inl t) := hxi
    unfold hs_i1 at hxi
    split at hxi
    · cases hxi
      exact lv_i2s hx hb hd rfl (K _ _ _ hl hSim hS)
    · cases hxi
  case i2c =>
    replace hd := hs_lnd hd hln (n := 0) rfl
    replace hxi : hs_i1 (fun x => (x.toUInt32 % 65536).toInt32) pc loc st h = some (.inl t) := hxi
    unfold hs_i1 at hxi
    split at hxi
    · cases hxi
      exact lv_i2c hx hb hd rfl (K _ _ _ hl hSim hS)
    · cases hxi
  case ladd =>
    replace hd := hs_lnd hd hln (n := 0) rfl
    replace hxi : hs_l2 (fun x y => x + y) pc loc st h = some (.inl t) := hxi
    unfold hs_l2 at hxi
    split at hxi
    · cases hxi
      exact lv_ladd hx hb hd (K _ _ _ hl hSim hS)
    · cases hxi
  case lsub =>
    replace hd := hs_lnd hd hln (n := 0) rfl
    replace hxi : hs_l2 (fun x y => x - y) pc loc st h = some (.inl t) := hxi
    unfold hs_l2 at hxi
    split at hxi
    · cases hxi
      exact lv_lsub hx hb hd (K _ _ _ hl hSim hS)
    · cases hxi
  case lmul =>
    replace hd := hs_lnd hd hln (n := 0) rfl
    replace hxi : hs_l2 (fun x y => x * y) pc loc st h = some (.inl t) := hxi
    unfold hs_l2 at hxi
    split at hxi
    · cases hxi
      exact lv_lmul hx hb hd (K _ _ _ hl hSim hS)
    · cases hxi
  case land =>
    replace hd := hs_lnd hd hln (n := 0) rfl
    replace hxi : hs_l2 (fun x y => x &&& y) pc loc st h = some (.inl t) := hxi
    unfold hs_l2 at hxi
    split at hxi
    · cases hxi
      exact lv_land hx hb hd (K _ _ _ hl hSim hS)
    · cases hxi
  case lor =>
    replace hd := hs_lnd hd hln (n := 0) rfl
    replace hxi : hs_l2 (fun x y => x ||| y) pc loc st h = some (.inl t) := hxi
    unfold hs_l2 at hxi
    split at hxi
    · cases hxi
      exact lv_lor hx hb hd (K _ _ _ hl hSim hS)
    · cases hxi
  case ldiv =>
    replace hd := hs_lnd hd hln (n := 0) rfl
    replace hxi : hs_l2d (fun x y => x / y) pc loc st h = some (.inl t) := hxi
    unfold hs_l2d at hxi
    split at hxi
    · split at hxi
      · cases hxi
      · rename_i hne
        cases hxi
        exact lv_ldiv hx hb hd hne (K _ _ _ hl hSim hS)
    · cases hxi
  case lrem =>
    replace hd := hs_lnd hd hln (n := 0) rfl
    replace hxi : hs_l2d (fun x y => x - x / y * y) pc loc st h = some (.inl t) := hxi
    unfold hs_l2d at hxi
    split at hxi
    · split at hxi
      · cases hxi
      · rename_i hne
        cases hxi
        exact lv_lrem hx hb hd hne (K _ _ _ hl hSim hS)
    · cases hxi
  case lneg =>
    replace hd := hs_lnd hd hln (n := 0) rfl
    replace hxi : (match st with
    | .long x :: r => hs_go (pc + 1) loc (.long (-x) :: r) h
    | _ => none) = some (.inl t) := hxi
    split at hxi
    · cases hxi
      exact lv_lneg hx hb hd (K _ _ _ hl hSim hS)
    · cases hxi
  case lshl =>
    replace hd := hs_lnd hd hln (n := 0) rfl
    replace hxi : (match st with
    | .int y :: .long x :: r => hs_go (pc + 1) loc (.long (x <<< (y.toInt64 &&& 63)) :: r) h
    | _ => none) = some (.inl t) := hxi
    split at hxi
    · cases hxi
      exact lv_lshl hx hb hd rfl (K _ _ _ hl hSim hS)
    · cases hxi
  case lcmp =>
    replace hd := hs_lnd hd hln (n := 0) rfl
    replace hxi : (match st with
    | .long y :: .long x :: r => hs_go (pc + 1) loc (.int (lg_cmp x y) :: r) h
    | _ => none) = some (.inl t) := hxi
    split at hxi
    · cases hxi
      exact W.lcmp hx hb hd (K _ _ _ hl hSim hS)
    · cases hxi
  case i2l =>
    replace hd := hs_lnd hd hln (n := 0) rfl
    replace hxi : (match st with
    | .int x :: r => hs_go (pc + 1) loc (.long x.toInt64 :: r) h
    | _ => none) = some (.inl t) := hxi
    split at hxi
    · cases hxi
      exact lv_i2l hx hb hd rfl (K _ _ _ hl hSim hS)
    · cases hxi
  case l2i =>
    replace hd := hs_lnd hd hln (n := 0) rfl
    replace hxi : (match st with
    | .long x :: r => hs_go (pc + 1) loc (.int x.toInt32 :: r) h
    | _ => none) = some (.inl t) := hxi
    split at hxi
    · cases hxi
      exact lv_l2i hx hb hd rfl (K _ _ _ hl hSim hS)
    · cases hxi
  case dup =>
    replace hd := hs_lnd hd hln (n := 0) rfl
    replace hxi : (match st with
    | v :: r => if v.category = 1 then hs_go (pc + 1) loc (v :: v :: r) h else none
    | _ => none) = some (.inl t) := hxi
    split at hxi
    · split at hxi
      · rename_i hc
        cases hxi
        exact lv_dup hx hb hd (by rw [hs_cv_cat]; exact hc) (K _ _ _ hl hSim hS)
      · cases hxi
    · cases hxi
  case dup2 =>
    replace hd := hs_lnd hd hln (n := 0) rfl
    replace hxi : (match st with
    | a :: b :: r => if a.category = 1 ∧ b.category = 1 then hs_go (pc + 1) loc (a :: b :: a :: b :: r) h else none
    | _ => none) = some (.inl t) := hxi
    split at hxi
    · split at hxi
      · rename_i hc
        cases hxi
        exact lv_dup2_11 hx hb hd (by rw [hs_cv_cat]; exact hc.1) (by rw [hs_cv_cat]; exact hc.2) (K _ _ _ hl hSim hS)
      · cases hxi
    · cases hxi
  case pop =>
    replace hd := hs_lnd hd hln (n := 0) rfl
    replace hxi : (match st with
    | v :: r => if v.category = 1 then hs_go (pc + 1) loc r h else none
    | _ => none) = some (.inl t) := hxi
    split at hxi
    · split at hxi
      · rename_i hc
        cases hxi
        exact lv_pop hx hb hd (by rw [hs_cv_cat]; exact hc) (K _ _ _ hl hSim hS)
      · cases hxi
    · cases hxi
  case if_icmp co off =>
    replace hd := hs_lnd hd hln (n := 2) rfl
    replace hxi : (match hs_j pc off, st with
    | some t, .int y :: .int x :: r => hs_br (hs_c2 co x y) t (pc + 3) loc r h
    | _, _ => none) = some (.inl t) := hxi
    split at hxi
    · rename_i tg y x r hj0
      have hj := hs_j_ok hj0
      unfold hs_br at hxi
      cases co
      · refine lv_icmp_eq hx hb hd hj (fun q => ?_) (fun q => ?_)
        · have q2 : hs_c2 .eq _ _ = true := decide_eq_true q
          rw [q2] at hxi
          cases hxi
          exact K _ _ _ hl hSim hS
        · have q2 : hs_c2 .eq _ _ = false := decide_eq_false q
          rw [q2] at hxi
          cases hxi
          exact K _ _ _ hl hSim hS
      · refine lv_icmp_ne hx hb hd hj (fun q => ?_) (fun q => ?_)
        · have q2 : hs_c2 .ne x y = true := by simp only [hs_c2]; simpa using q
          rw [q2] at hxi
          cases hxi
          exact K _ _ _ hl hSim hS
        · have q2 : hs_c2 .ne x y = false := by simp only [hs_c2]; simpa using q
          rw [q2] at hxi
          cases hxi
          exact K _ _ _ hl hSim hS
      · refine lv_icmp_lt hx hb hd hj (fun q => ?_) (fun q => ?_)
        · have q2 : hs_c2 .lt _ _ = true := decide_eq_true q
          rw [q2] at hxi
          cases hxi
          exact K _ _ _ hl hSim hS
        · have q2 : hs_c2 .lt _ _ = false := decide_eq_false q
          rw [q2] at hxi
          cases hxi
          exact K _ _ _ hl hSim hS
      · refine lv_icmp_ge hx hb hd hj (fun q => ?_) (fun q => ?_)
        · have q2 : hs_c2 .ge _ _ = true := decide_eq_true q
          rw [q2] at hxi
          cases hxi
          exact K _ _ _ hl hSim hS
        · have q2 : hs_c2 .ge _ _ = false := decide_eq_false q
          rw [q2] at hxi
          cases hxi
          exact K _ _ _ hl hSim hS
      · refine lv_icmp_gt hx hb hd hj (fun q => ?_) (fun q => ?_)
        · have q2 : hs_c2 .gt _ _ = true := decide_eq_true q
          rw [q2] at hxi
          cases hxi
          exact K _ _ _ hl hSim hS
        · have q2 : hs_c2 .gt _ _ = false := decide_eq_false q
          rw [q2] at hxi
          cases hxi
          exact K _ _ _ hl hSim hS
      · refine lv_icmp_le hx hb hd hj (fun q => ?_) (fun q => ?_)
        · have q2 : hs_c2 .le _ _ = true := decide_eq_true q
          rw [q2] at hxi
          cases hxi
          exact K _ _ _ hl hSim hS
        · have q2 : hs_c2 .le _ _ = false := decide_eq_false q
          rw [q2] at hxi
          cases hxi
          exact K _ _ _ hl hSim hS
    · cases hxi
  case ifCond co off =>
    replace hd := hs_lnd hd hln (n := 2) rfl
    replace hxi : (match hs_j pc off, st with
    | some t, .int x :: r => hs_br (hs_c2 co x 0) t (pc + 3) loc r h
    | _, _ => none) = some (.inl t) := hxi
    split at hxi
    · rename_i tg x r hj0
      have hj := hs_j_ok hj0
      unfold hs_br at hxi
      cases co
      · refine lv_if_eq hx hb hd hj (fun q => ?_) (fun q => ?_)
        · have q2 : hs_c2 .eq _ _ = true := decide_eq_true q
          rw [q2] at hxi
          cases hxi
          exact K _ _ _ hl hSim hS
        · have q2 : hs_c2 .eq _ _ = false := decide_eq_false q
          rw [q2] at hxi
          cases hxi
          exact K _ _ _ hl hSim hS
      · refine lv_if_ne hx hb hd hj (fun q => ?_) (fun q => ?_)
        · have q2 : hs_c2 .ne x 0 = true := by simp only [hs_c2]; simpa using q
          rw [q2] at hxi
          cases hxi
          exact K _ _ _ hl hSim hS
        · have q2 : hs_c2 .ne x 0 = false := by simp only [hs_c2]; simpa using q
          rw [q2] at hxi
          cases hxi
          exact K _ _ _ hl hSim hS
      · refine lv_if_lt hx hb hd hj (fun q => ?_) (fun q => ?_)
        · have q2 : hs_c2 .lt _ _ = true := decide_eq_true q
          rw [q2] at hxi
          cases hxi
          exact K _ _ _ hl hSim hS
        · have q2 : hs_c2 .lt _ _ = false := decide_eq_false q
          rw [q2] at hxi
          cases hxi
          exact K _ _ _ hl hSim hS
      · refine lv_if_ge hx hb hd hj (fun q => ?_) (fun q => ?_)
        · have q2 : hs_c2 .ge _ _ = true := decide_eq_true q
          rw [q2] at hxi
          cases hxi
          exact K _ _ _ hl hSim hS
        · have q2 : hs_c2 .ge _ _ = false := decide_eq_false q
          rw [q2] at hxi
          cases hxi
          exact K _ _ _ hl hSim hS
      · refine lv_if_gt hx hb hd hj (fun q => ?_) (fun q => ?_)
        · have q2 : hs_c2 .gt _ _ = true := decide_eq_true q
          rw [q2] at hxi
          cases hxi
          exact K _ _ _ hl hSim hS
        · have q2 : hs_c2 .gt _ _ = false := decide_eq_false q
          rw [q2] at hxi
          cases hxi
          exact K _ _ _ hl hSim hS
      · refine lv_if_le hx hb hd hj (fun q => ?_) (fun q => ?_)
        · have q2 : hs_c2 .le _ _ = true := decide_eq_true q
          rw [q2] at hxi
          cases hxi
          exact K _ _ _ hl hSim hS
        · have q2 : hs_c2 .le _ _ = false := decide_eq_false q
          rw [q2] at hxi
          cases hxi
          exact K _ _ _ hl hSim hS
    · cases hxi
  case goto off =>
    replace hd := hs_lnd hd hln (n := 2) rfl
    replace hxi : ((hs_j pc off).bind fun t => hs_go t loc st h) = some (.inl t) := hxi
    cases hp : hs_j pc off with
    | none => rw [hp] at hxi; cases hxi
    | some v =>
      rw [hp] at hxi
      cases hxi
      exact lv_goto hx hb hd (hs_j_ok hp) (K _ _ _ hl hSim hS)
  case tableswitch df lo hi offs =>
    replace hxi : (match st with
    | .int x :: r => if x.toInt < lo ∨ hi < x.toInt then (hs_j pc df).bind fun t => hs_go t loc r h else (offs[(x.toInt - lo).toNat]?).bind fun o => (hs_j pc o).bind fun t => hs_go t loc r h
    | _ => none) = some (.inl t) := hxi
    split at hxi
    · split at hxi
      · rename_i hout
        cases hp : hs_j pc df with
        | none => rw [hp] at hxi; cases hxi
        | some v =>
          rw [hp] at hxi
          cases hxi
          exact lv_tableOut hx hb hd hout (hs_j_ok hp) (K _ _ _ hl hSim hS)
      · rename_i x r hout
        cases ho : offs[(x.toInt - lo).toNat]? with
        | none => rw [ho] at hxi; cases hxi
        | some o =>
          rw [ho] at hxi
          replace hxi : ((hs_j pc o).bind fun t => hs_go t loc r h) = some (.inl t) := hxi
          cases hp : hs_j pc o with
          | none => rw [hp] at hxi; cases hxi
          | some v =>
            rw [hp] at hxi
            cases hxi
            exact lv_tableIn hx hb hd (fun q => hout (Or.inl q)) (fun q => hout (Or.inr q)) ho (hs_j_ok hp) (K _ _ _ hl hSim hS)
    · cases hxi
  case lookupswitch df ps =>
    replace hxi : (match st with
    | .int x :: r => if (ps.toList.zip (ps.toList.drop 1)).all (fun (a, next) => a.1 < next.1) = true then (hs_j pc (Op.lookupswitch.offset ps.toList df x.toInt)).bind fun t => hs_go t loc r h else none
    | _ => none) = some (.inl t) := hxi
    split at hxi
    · split at hxi
      · rename_i x r hall
        cases hp : hs_j pc (Op.lookupswitch.offset ps.toList df x.toInt) with
        | none => rw [hp] at hxi; cases hxi
        | some v =>
          rw [hp] at hxi
          cases hxi
          exact lv_lookup hx hb hd hall rfl (hs_j_ok hp) (K _ _ _ hl hSim hS)
      · cases hxi
    · cases hxi
  case getfield k =>
    replace hd := hs_lnd hd hln (n := 2) rfl
    replace hxi : ((hs_fld (hs_own j) k).bind fun e => hs_gf e pc loc st h) = some (.inl t) := hxi
    cases hp : hs_fld (hs_own j) k with
    | none => rw [hp] at hxi; cases hxi
    | some q =>
      rw [hp] at hxi
      obtain ⟨ci, f, kd, fin⟩ := q
      replace hxi : hs_gf (ci, f, kd, fin) pc loc st h = some (.inl t) := hxi
      obtain ⟨h1, h2, h3, h4, h5, h6, h7, h8⟩ := hs_fld_ok hp
      unfold hs_gf at hxi
      split at hxi
      · split at hxi
        · rename_i a r hk
          refine hs_wget hC hSim hp hk hd ?_
          split at hxi
          · rename_i hkd
            have hkd : kd = 2 := hkd
            subst hkd
            cases hxi
            rw [hs_fv_l h4]
            exact K _ _ _ hl hSim hS
          · rename_i hkd
            have hkd : kd = 3 := hkd
            subst hkd
            split at hxi
            · cases hxi
            · rename_i hne
              replace hne := Nat.not_lt.mp hne
              cases hxi
              rw [hs_fv_r h4 hne]
              have hK := K _ _ _ hl hSim hS
              rw [List.map_cons, hs_cv_ref hne] at hK
              exact hK
          · rename_i n2 n3
            cases hxi
            have n2 : kd ≠ 2 := n2
            have n3 : kd ≠ 3 := n3
            rw [hs_fv_i (by omega)]
            exact K _ _ _ hl hSim hS
        · cases hxi
      · cases hxi
  case putfield k =>
    replace hd := hs_lnd hd hln (n := 2) rfl
    replace hxi : ((hs_fld (hs_own j) k).bind fun e => hs_pf j e pc loc st h) = some (.inl t) := hxi
    cases hp : hs_fld (hs_own j) k with
    | none => rw [hp] at hxi; cases hxi
    | some q =>
      rw [hp] at hxi
      obtain ⟨ci, f, kd, fin⟩ := q
      replace hxi : hs_pf j (ci, f, kd, fin) pc loc st h = some (.inl t) := hxi
      obtain ⟨h1, h2, h3, h4, h5, h6, h7, h8⟩ := hs_fld_ok hp
      unfold hs_pf at hxi
      split at hxi
      · rename_i hfin
        dsimp only at hxi hfin
        split at hxi
        · rename_i x a r
          split at hxi
          · rename_i hk
            cases hxi
            refine hs_wput hC hSim hp hk hfin (v := .int x) (by rw [hs_kd0 h4]; rfl) (by rw [hs_kd0 h4]; rfl) hd fun H' y ho hz oq => ?_
            exact K _ _ _ hl (hs_SimI hSim h1 hk h2 (Or.inl h4) ho hz oq) (hs_Sput hS hz oq (hk2 hk h1))
          · cases hxi
        · rename_i x a r
          split at hxi
          · rename_i hk
            cases hxi
            refine hs_wput hC hSim hp hk.1 hfin (v := .int x) (by rw [hs_kd1 h4]; rcases hk.2 with q | q <;> rw [q] <;> rfl) (by rw [hs_kd1 h4]; rcases hk.2 with q | q <;> rw [q] <;> rfl) hd fun H' y ho hz oq => ?_
            exact K _ _ _ hl (hs_SimI hSim h1 hk.1 h2 (Or.inr h4) ho hz oq) (hs_Sput hS hz oq (hk2 hk.1 h1))
          · cases hxi
        · rename_i x a r
          split at hxi
          · rename_i hk
            cases hxi
            refine hs_wput hC hSim hp hk hfin (v := .long x) (by rw [hs_kd2 h4]; rfl) (by rw [hs_kd2 h4]; rfl) hd fun H' y ho hz oq => ?_
            exact K _ _ _ hl (hs_SimL hSim h1 hk h2 h4 ho hz oq) (hs_Sput hS hz oq (hk2 hk h1))
          · cases hxi
        · rename_i x a r
          split at hxi
          · rename_i hk
            cases hxi
            have h9 := hs_kd3 h4 (bs + x)
            show W _ _ _ _ _ _ _ _ _ _ _ _ _ _ _ (F0 m pc ls (hs_cv bs b (.ref x) :: hs_cv bs b (.ref a) :: r.map (hs_cv bs b)))
            rw [hs_cv_ref hk.2]
            refine hs_wput hC hSim hp hk.1 hfin (v := .ref (bs + x)) h9.1 h9.2 hd fun H' y ho hz oq => ?_
            exact K _ _ _ hl (hs_SimR hSim h1 hk.1 h2 h4 hk.2 ho hz oq) (hs_Sput hS hz oq (hk2 hk.1 h1))
          · cases hxi
        · cases hxi
      · cases hxi
  case iaload =>
    replace hd := hs_lnd hd hln (n := 0) rfl
    replace hxi : hs_al scr j .int pc loc st h = some (.inl t) := hxi
    unfold hs_al at hxi
    split at hxi
    · rename_i i k r
      split at hxi
      · rename_i q hk
        obtain ⟨ty0, n0⟩ := q
        dsimp only at hxi
        split at hxi
        · rename_i hq
          obtain ⟨rfl, hin⟩ := hq
          cases hxi
          exact hs_wiald hC hSim hk hin hd (K _ _ _ hl hSim hS)
        · cases hxi
      · split at hxi
        · rename_i hq
          obtain ⟨rfl, hj, hty, hin⟩ := hq
          cases hxi
          obtain ⟨hX, hbl, hbb⟩ := hscr hj
          show W _ _ _ _ _ _ _ _ _ _ _ _ _ _ _ (F0 m pc ls (.int i :: .ref b.1 :: r.map (hs_cv bs b)))
          exact va_sld hx hb hX hbl (show ¬ bs + 1 < b.1 by omega) hS (hs_ib_ok hin) hd (K _ _ _ hl hSim hS)
        · cases hxi
    · cases hxi
  case baload =>
    replace hd := hs_lnd hd hln (n := 0) rfl
    replace hxi : hs_al scr j .byte pc loc st h = some (.inl t) := hxi
    unfold hs_al at hxi
    split at hxi
    · rename_i i k r
      split at hxi
      · rename_i q hk
        obtain ⟨ty0, n0⟩ := q
        dsimp only at hxi
        split at hxi
        · rename_i hq
          obtain ⟨rfl, hin⟩ := hq
          cases hxi
          exact hs_wbald hC hSim hk hin hd (K _ _ _ hl hSim hS)
        · cases hxi
      · split at hxi
        · rename_i hq
          obtain ⟨rfl, hj, hty, hin⟩ := hq
          cases hty
        · cases hxi
    · cases hxi
  case laload =>
    replace hd := hs_lnd hd hln (n := 0) rfl
    replace hxi : hs_al scr j .long pc loc st h = some (.inl t) := hxi
    unfold hs_al at hxi
    split at hxi
    · rename_i i k r
      split at hxi
      · rename_i q hk
        obtain ⟨ty0, n0⟩ := q
        dsimp only at hxi
        split at hxi
        · rename_i hq
          obtain ⟨rfl, hin⟩ := hq
          cases hxi
          exact hs_wlald hC hSim hk hin hd (K _ _ _ hl hSim hS)
        · cases hxi
      · split at hxi
        · rename_i hq
          obtain ⟨rfl, hj, hty, hin⟩ := hq
          cases hty
        · cases hxi
    · cases hxi
  case aaload =>
    replace hd := hs_lnd hd hln (n := 0) rfl
    replace hxi : hs_aal pc loc st h = some (.inl t) := hxi
    unfold hs_aal at hxi
    split at hxi
    · rename_i i k r
      split at hxi
      · rename_i C n0 hk
        split at hxi
        · rename_i hq
          obtain ⟨hcn, hin, hne⟩ := hq
          cases hxi
          have hK := K _ _ _ hl hSim hS
          rw [List.map_cons, hs_cv_ref hne] at hK
          rcases hcn with rfl | rfl | rfl
          · exact hs_waald (ci := 9) hC hSim (Or.inl rfl) hk hin hne hd hK
          · exact hs_waald (ci := 4) hC hSim (Or.inr (Or.inl rfl)) hk hin hne hd hK
          · exact hs_waald (ci := 5) hC hSim (Or.inr (Or.inr rfl)) hk hin hne hd hK
        · cases hxi
      · cases hxi
    · cases hxi
  case iastore =>
    replace hd := hs_lnd hd hln (n := 0) rfl
    replace hxi : hs_asi pc loc st h = some (.inl t) := hxi
    unfold hs_asi at hxi
    split at hxi
    · rename_i x i k r
      split at hxi
      · rename_i n0 hk
        split at hxi
        · rename_i hin
          cases hxi
          exact hs_wiast hC hSim hk hin hd fun H' y hs2 hz oq => K _ _ _ hl hs2 (hs_Sput hS hz oq (hk1 hk))
        · cases hxi
      · cases hxi
    · cases hxi
  case bastore =>
    replace hd := hs_lnd hd hln (n := 0) rfl
    replace hxi : hs_asb pc loc st h = some (.inl t) := hxi
    unfold hs_asb at hxi
    split at hxi
    · rename_i x i k r
      split at hxi
      · rename_i n0 hk
        split at hxi
        · rename_i hin
          cases hxi
          exact hs_wbast hC hSim hk hin hd fun H' y hs2 hz oq => K _ _ _ hl hs2 (hs_Sput hS hz oq (hk1 hk))
        · cases hxi
      · cases hxi
    · cases hxi
  case lastore =>
    replace hd := hs_lnd hd hln (n := 0) rfl
    replace hxi : hs_asl pc loc st h = some (.inl t) := hxi
    unfold hs_asl at hxi
    split at hxi
    · rename_i x i k r
      split at hxi
      · rename_i n0 hk
        split at hxi
        · rename_i hin
          cases hxi
          exact hs_wlast hC hSim hk hin hd fun H' y hs2 hz oq => K _ _ _ hl hs2 (hs_Sput hS hz oq (hk1 hk))
        · cases hxi
      · cases hxi
    · cases hxi
  case aastore =>
    replace hd := hs_lnd hd hln (n := 0) rfl
    replace hxi : hs_aas pc loc st h = some (.inl t) := hxi
    unfold hs_aas at hxi
    split at hxi
    · rename_i a i k r
      split at hxi
      · rename_i C n0 ci hk ha
        split at hxi
        · rename_i hq
          obtain ⟨hin, h12, rfl, hci⟩ := hq
          cases hxi
          exact hs_waast hC hSim hci hk ha hin hd fun H' y hs2 hz oq => K _ _ _ hl hs2 (hs_Sput hS hz oq (hk1 hk))
        · cases hxi
      · cases hxi
    · cases hxi
  case arraylength =>
    replace hd := hs_lnd hd hln (n := 0) rfl
    replace hxi : hs_len scr j pc loc st h = some (.inl t) := hxi
    unfold hs_len at hxi
    split at hxi
    · rename_i k r
      split at hxi
      · rename_i n0 hk
        cases hxi
        show W _ _ _ _ _ _ _ _ _ _ _ _ _ _ _ (F0 m pc ls (hs_cv bs b (.ref k) :: r.map (hs_cv bs b)))
        rw [hs_cv_ref (hk1 hk)]
        exact va_alen hx hb hKn.1 (hs_P1 (hSim.2.2 k _ (hk1 hk) hk)) 0 0 rfl (hs_m6 hKn 0 rfl) rfl hd (K _ _ _ hl hSim hS)
      · split at hxi
        · rename_i hq
          obtain ⟨rfl, hj⟩ := hq
          cases hxi
          obtain ⟨hX, hbl, hbb⟩ := hscr hj
          show W _ _ _ _ _ _ _ _ _ _ _ _ _ _ _ (F0 m pc ls (.ref b.1 :: r.map (hs_cv bs b)))
          exact va_slen hx hb hX hbl (show ¬ bs + 1 < b.1 by omega) hS hd (K _ _ _ hl hSim hS)
        · cases hxi
    · cases hxi
  case new k =>
    replace hd := hs_lnd hd hln (n := 2) rfl
    replace hxi : ((hs_new (hs_own j) k).bind fun ci => hs_nw ci pc loc st h) = some (.inl t) := hxi
    cases hp : hs_new (hs_own j) k with
    | none => rw [hp] at hxi; cases hxi
    | some ci =>
      rw [hp] at hxi
      replace hxi : hs_nw ci pc loc st h = some (.inl t) := hxi
      cases hxi
      have hl0 : 2 ≤ h.1.length := by have := (List.getElem?_eq_some_iff.mp hSim.2.1.2).1; omega
      dsimp only at hcap K
      rw [hs_nn_add, hs_ns_add] at hcap
      have e1 : hs_nn h + 1 - nc0 = hs_nn h - nc0 + 1 := by omega
      have e2 : hs_ns h + hs_sz (.inl ci) - ns0 = hs_ns h - ns0 + (hs_cw ci).2.2 := by show hs_ns h + (hs_cw ci).2.2 - ns0 = _; omega
      refine hs_wnew hC hSim hp (by rw [← e1]; exact hcap.1) (by rw [← e2]; exact hcap.2) hd fun H' hs2 hz oq => ?_
      have hK := K _ _ _ hl hs2 (hs_Snew hS hz oq)
      rw [hs_nn_add, hs_ns_add, e1, e2, List.map_cons, hs_cv_ref hl0] at hK
      exact hK
  case newarray at_ =>
    replace hd := hs_lnd hd hln (n := 1) rfl
    have key : ∀ ty : FieldType, newarray.typeOf at_ = ty → (ty = .int ∨ ty = .long ∨ ty = .byte) → Cond.arrayClass ty ∈ tables_1 → hs_na ty (pc + 2) loc st h = some (.inl t) → W p l e R s m args below meth c H locs (hs_nn h - nc0) (hs_ns h - ns0) Q (F0 m pc ls (st.map (hs_cv bs b))) := by
      clear hxi
      intro ty hty h3 hin hxi
      unfold hs_na at hxi
      split at hxi
      · split at hxi
        · rename_i n r hq
          cases hxi
          have hl0 : 2 ≤ h.1.length := by have := (List.getElem?_eq_some_iff.mp hSim.2.1.2).1; omega
          dsimp only at hcap K
          rw [hs_nn_add, hs_ns_add] at hcap
          have e1 : hs_nn h + 1 - nc0 = hs_nn h - nc0 + 1 := by omega
          have e2 : hs_ns h + hs_sz (.inr (ty, n.toNatClampNeg)) - ns0 = hs_ns h - ns0 + n.toNatClampNeg := by show hs_ns h + n.toNatClampNeg - ns0 = _; omega
          refine hs_wna hC hSim hty h3 hq.1 hq.2 (by rw [← e1]; exact hcap.1) (by rw [← e2]; exact hcap.2) (hts _ (hs_ing (List.mem_append_right _ hin) rfl)) hd fun H' hs2 hz oq => ?_
          have hK := K _ _ _ hl hs2 (hs_Snew hS hz oq)
          rw [hs_nn_add, hs_ns_add, e1, e2, List.map_cons, hs_cv_ref hl0] at hK
          exact hK
        · cases hxi
      · cases hxi
    cases at_
    case int => exact key .int rfl (Or.inl rfl) hs_acl.1 hxi
    case long => exact key .long rfl (Or.inr (Or.inl rfl)) hs_acl.2.1 hxi
    case byte => exact key .byte rfl (Or.inr (Or.inr rfl)) hs_acl.2.2 hxi
    all_goals (replace hxi : (none : Option hs_X) = some (.inl t) := hxi; cases hxi)
  case anewarray k =>
    replace hd := hs_lnd hd hln (n := 2) rfl
    replace hxi : ((hs_new (hs_own j) k).bind fun ci => if ci = 9 ∨ ci = 4 ∨ ci = 5 then hs_na (.object (hs_cn ci)) (pc + 3) loc st h else none) = some (.inl t) := hxi
    cases hp : hs_new (hs_own j) k with
    | none => rw [hp] at hxi; cases hxi
    | some ci =>
      rw [hp] at hxi
      replace hxi : (if ci = 9 ∨ ci = 4 ∨ ci = 5 then hs_na (.object (hs_cn ci)) (pc + 3) loc st h else none) = some (.inl t) := hxi
      split at hxi
      · rename_i hci
        unfold hs_na at hxi
        split at hxi
        · split at hxi
          · rename_i n r hq
            cases hxi
            have hl0 : 2 ≤ h.1.length := by have := (List.getElem?_eq_some_iff.mp hSim.2.1.2).1; omega
            dsimp only at hcap K
            rw [hs_nn_add, hs_ns_add] at hcap
            have e1 : hs_nn h + 1 - nc0 = hs_nn h - nc0 + 1 := by omega
            have e2 : hs_ns h + hs_sz (.inr (.object (hs_cn ci), n.toNatClampNeg)) - ns0 = hs_ns h - ns0 + n.toNatClampNeg := by show hs_ns h + n.toNatClampNeg - ns0 = _; omega
            refine hs_wnq hC hSim hci hp hq.1 hq.2 (by rw [← e1]; exact hcap.1) (by rw [← e2]; exact hcap.2) hd fun H' hs2 hz oq => ?_
            have hK := K _ _ _ hl hs2 (hs_Snew hS hz oq)
            rw [hs_nn_add, hs_ns_add, e1, e2, List.map_cons, hs_cv_ref hl0] at hK
            exact hK
          · cases hxi
        · cases hxi
      · cases hxi
  case invokevirtual k =>
    replace hd := hs_lnd hd hln (n := 2) rfl
    replace hxi : ((hs_cal (hs_own j) k).bind fun e => hs_iv e pc loc st h) = some (.inl t) := hxi
    cases hp : hs_cal (hs_own j) k with
    | none => rw [hp] at hxi; cases hxi
    | some q =>
      rw [hp] at hxi
      obtain ⟨kk, jj⟩ := q
      replace hxi : hs_iv (kk, jj) pc loc st h = some (.inl t) := hxi
      have hck := hs_cal_ok hp
      unfold hs_iv at hxi
      split at hxi
      · split at hxi
        · split at hxi <;> cases hxi
        · cases hxi
      · rename_i hkk
        have hkk : kk = 10 := hkk
        subst hkk
        have hlink : Cond.methodLink (hs_cn (hs_own j)) k yJ0_length_8abf5 ∈ hs_g := by
          rcases hck with q | q | q | q | q | q | q | q | q | q | q | q
          · exact absurd q.1 (by decide)
          · exact absurd q.1 (by decide)
          · exact absurd q.1 (by decide)
          · exact absurd q.1 (by decide)
          · exact absurd q.1 (by decide)
          · exact absurd q.1 (by decide)
          · exact absurd q.1 (by decide)
          · exact absurd q.1 (by decide)
          · exact absurd q.1 (by decide)
          · exact absurd q.1 (by decide)
          · exact q.2
          · exact absurd q.1 (by decide)
        split at hxi
        · split at hxi
          · rename_i a r hq
            obtain ⟨rfl, hrs⟩ := hq
            cases hxi
            exact hs_wlen hC hlink hl.2.1 hS hR (hs_rs_ok bs b hrs) hcap hd (K _ _ _ hl hSim hS)
          · cases hxi
        · cases hxi
      · rename_i hkk
        have hkk : kk = 11 := hkk
        subst hkk
        have hlink : Cond.methodLink (hs_cn (hs_own j)) k yJ0_charAt_5068e ∈ hs_g := by
          rcases hck with q | q | q | q | q | q | q | q | q | q | q | q
          · exact absurd q.1 (by decide)
          · exact absurd q.1 (by decide)
          · exact absurd q.1 (by decide)
          · exact absurd q.1 (by decide)
          · exact absurd q.1 (by decide)
          · exact absurd q.1 (by decide)
          · exact absurd q.1 (by decide)
          · exact absurd q.1 (by decide)
          · exact absurd q.1 (by decide)
          · exact absurd q.1 (by decide)
          · exact absurd q.1 (by decide)
          · exact q.2
        split at hxi
        · split at hxi
          · rename_i i0 a r hq
            obtain ⟨rfl, hrs, hi⟩ := hq
            cases hxi
            exact hs_wchr hC hlink hl.2.1 hS hR (hs_rs_ok bs b hrs) hcap hi hd (K _ _ _ hl hSim hS)
          · cases hxi
        · cases hxi
      · cases hxi
  case invokespecial k =>
    replace hd := hs_lnd hd hln (n := 2) rfl
    replace hxi : ((hs_cal (hs_own j) k).bind fun e => hs_ip e pc loc st h) = some (.inl t) := hxi
    cases hp : hs_cal (hs_own j) k with
    | none => rw [hp] at hxi; cases hxi
    | some q =>
      rw [hp] at hxi
      obtain ⟨kk, jj⟩ := q
      replace hxi : hs_ip (kk, jj) pc loc st h = some (.inl t) := hxi
      have hck := hs_cal_ok hp
      unfold hs_ip at hxi
      split at hxi
      · split at hxi <;> cases hxi
      · split at hxi <;> cases hxi
      · rename_i hk4
        have hk4 : kk = 4 := hk4
        subst hk4
        split at hxi
        · split at hxi
          · rename_i a r hrs
            cases hxi
            have hlink : Cond.methodLink (hs_cn (hs_own j)) k objectInit ∈ hs_g := by
              rcases hck with q | q | q | q | q | q | q | q | q | q | q | q
              · exact absurd q.1 (by decide)
              · exact absurd q.1 (by decide)
              · exact absurd q.1 (by decide)
              · exact absurd q.1 (by decide)
              · exact q.2
              all_goals exact absurd q.1 (by decide)
            have h8 := hs_rs_ok bs b hrs
            exact W.objInit hx hb hown (hts _ hlink) (hts _ (hs_ing (List.mem_append_right _ hs_ac.2.2.2.1) rfl)) (hts _ (hs_ing (List.mem_append_right _ hs_ac.2.2.2.2) rfl)) rfl (by rw [hml]; exact hl.2.1) rfl hd (by omega) (by show 2 * 0 + _ + 12 ≤ _; omega) (K _ _ _ hl hSim hS)
          · cases hxi
        · cases hxi
      · cases hxi
  case invokestatic k =>
    replace hd := hs_lnd hd hln (n := 2) rfl
    replace hxi : ((hs_cal (hs_own j) k).bind fun e => hs_is e pc loc st h) = some (.inl t) := hxi
    cases hp : hs_cal (hs_own j) k with
    | none => rw [hp] at hxi; cases hxi
    | some q =>
      rw [hp] at hxi
      obtain ⟨kk, jj⟩ := q
      replace hxi : hs_is (kk, jj) pc loc st h = some (.inl t) := hxi
      have hck := hs_cal_ok hp
      have hmt := hs_mt
      unfold hs_is at hxi
      split at hxi
      · split at hxi <;> cases hxi
      · rename_i hk5
        have hk5 : kk = 5 := hk5
        subst hk5
        have hlink : Cond.methodLink (hs_cn (hs_own j)) k arraycopyName ∈ hs_g := by
          rcases hck with q | q | q | q | q | q | q | q | q | q | q | q
          · exact absurd q.1 (by decide)
          · exact absurd q.1 (by decide)
          · exact absurd q.1 (by decide)
          · exact absurd q.1 (by decide)
          · exact absurd q.1 (by decide)
          · exact q.2
          all_goals exact absurd q.1 (by decide)
        unfold hs_acp at hxi
        split at hxi
        · rename_i n dp d sp a r
          split at hxi
          · rename_i n0 n1 ha hdd
            split at hxi
            · rename_i hq
              obtain ⟨hrs, q1, q2, q3, q4, q5⟩ := hq
              cases hxi
              have h8 := hs_rs_ok bs b hrs
              have hnf : nativeFrameWords "java/lang/System" "arraycopy" 5 ≤ 30 := by decide +kernel
              exact hs_wcpI hC hSim hl.2.1 hlink ha hdd q1 q2 q3 q4 q5 (by omega) (by omega) hd fun H' L hL hs2 hz oq => K _ _ _ hl hs2 (hs_Scpy hS hz oq (hk1 hdd) hL)
            · cases hxi
          · rename_i n0 n1 ha hdd
            split at hxi
            · rename_i hq
              obtain ⟨hrs, q1, q2, q3, q4, q5⟩ := hq
              cases hxi
              have h8 := hs_rs_ok bs b hrs
              have hnf : nativeFrameWords "java/lang/System" "arraycopy" 5 ≤ 30 := by decide +kernel
              exact hs_wcpL hC hSim hl.2.1 hlink ha hdd q1 q2 q3 q4 q5 (by omega) (by omega) hd fun H' L hL hs2 hz oq => K _ _ _ hl hs2 (hs_Scpy hS hz oq (hk1 hdd) hL)
            · cases hxi
          · cases hxi
        · cases hxi
      · rename_i n1 n5
        dsimp only at hxi
        unfold hs_bi at hxi
        split at hxi
        · split at hxi
          · rename_i y x r hrs
            cases hxi
            have h8 := hs_rs_ok bs b hrs
            have hlink : Cond.methodLink (hs_cn (hs_own j)) k Lib.Math.max.name ∈ hs_g := by
              rcases hck with q | q | q | q | q | q | q | q | q | q | q | q
              · exact absurd q.1 (by decide)
              · exact absurd q.1 (by decide)
              · exact absurd q.1 (by decide)
              · exact absurd q.1 (by decide)
              · exact absurd q.1 (by decide)
              · exact absurd q.1 (by decide)
              · exact q.2
              · exact absurd q.1 (by decide)
              · exact absurd q.1 (by decide)
              · exact absurd q.1 (by decide)
              · exact absurd q.1 (by decide)
              · exact absurd q.1 (by decide)
            exact va_mmax hx hb (by rw [hml, hl.2.1]) hown (hts _ hlink) (hts _ (hs_ing (List.mem_append_right _ hmt.1) rfl)) (hts _ (hs_ing (List.mem_append_right _ hmt.2.2.2.2.1) rfl)) (hts _ (hs_ing (List.mem_append_right _ hmt.2.2.2.2.2.1) rfl)) (by omega) (by omega) hcap.1 hcap.2 hd (K _ _ _ hl hSim hS)
          · cases hxi
        · split at hxi
          · rename_i y x r hrs
            cases hxi
            have h8 := hs_rs_ok bs b hrs
            have hlink : Cond.methodLink (hs_cn (hs_own j)) k Lib.Math.min.name ∈ hs_g := by
              rcases hck with q | q | q | q | q | q | q | q | q | q | q | q
              · exact absurd q.1 (by decide)
              · exact absurd q.1 (by decide)
              · exact absurd q.1 (by decide)
              · exact absurd q.1 (by decide)
              · exact absurd q.1 (by decide)
              · exact absurd q.1 (by decide)
              · exact absurd q.1 (by decide)
              · exact q.2
              · exact absurd q.1 (by decide)
              · exact absurd q.1 (by decide)
              · exact absurd q.1 (by decide)
              · exact absurd q.1 (by decide)
            exact va_mmin hx hb (by rw [hml, hl.2.1]) hown (hts _ hlink) (hts _ (hs_ing (List.mem_append_right _ hmt.2.1) rfl)) (hts _ (hs_ing (List.mem_append_right _ hmt.2.2.2.2.1) rfl)) (hts _ (hs_ing (List.mem_append_right _ hmt.2.2.2.2.2.2.1) rfl)) (by omega) (by omega) hcap.1 hcap.2 hd (K _ _ _ hl hSim hS)
          · cases hxi
        · split at hxi
          · rename_i x r hrs
            cases hxi
            have h8 := hs_rs_ok bs b hrs
            have hlink : Cond.methodLink (hs_cn (hs_own j)) k Lib.Math.abs.name ∈ hs_g := by
              rcases hck with q | q | q | q | q | q | q | q | q | q | q | q
              · exact absurd q.1 (by decide)
              · exact absurd q.1 (by decide)
              · exact absurd q.1 (by decide)
              · exact absurd q.1 (by decide)
              · exact absurd q.1 (by decide)
              · exact absurd q.1 (by decide)
              · exact absurd q.1 (by decide)
              · exact absurd q.1 (by decide)
              · exact q.2
              · exact absurd q.1 (by decide)
              · exact absurd q.1 (by decide)
              · exact absurd q.1 (by decide)
            exact va_mabs hx hb (by rw [hml, hl.2.1]) hown (hts _ hlink) (hts _ (hs_ing (List.mem_append_right _ hmt.2.2.1) rfl)) (hts _ (hs_ing (List.mem_append_right _ hmt.2.2.2.2.1) rfl)) (hts _ (hs_ing (List.mem_append_right _ hmt.2.2.2.2.2.2.2.1) rfl)) (by omega) (by omega) hcap.1 hcap.2 hd (K _ _ _ hl hSim hS)
          · cases hxi
        · split at hxi
          · rename_i x r hrs
            cases hxi
            have h8 := hs_rs_ok bs b hrs
            have hlink : Cond.methodLink (hs_cn (hs_own j)) k Lib.MathLoose.abs_long.x ∈ hs_g := by
              rcases hck with q | q | q | q | q | q | q | q | q | q | q | q
              · exact absurd q.1 (by decide)
              · exact absurd q.1 (by decide)
              · exact absurd q.1 (by decide)
              · exact absurd q.1 (by decide)
              · exact absurd q.1 (by decide)
              · exact absurd q.1 (by decide)
              · exact absurd q.1 (by decide)
              · exact absurd q.1 (by decide)
              · exact absurd q.1 (by decide)
              · exact q.2
              · exact absurd q.1 (by decide)
              · exact absurd q.1 (by decide)
            exact va_mabs_long hx hb (by rw [hml, hl.2.1]) hown (hts _ hlink) (hts _ (hs_ing (List.mem_append_right _ hmt.2.2.2.1) rfl)) (hts _ (hs_ing (List.mem_append_right _ hmt.2.2.2.2.1) rfl)) (hts _ (hs_ing (List.mem_append_right _ hmt.2.2.2.2.2.2.2.2) rfl)) (by omega) (by omega) hcap.1 hcap.2 hd (K _ _ _ hl hSim hS)
          · cases hxi
        · cases hxi
  case ireturn =>
    replace hxi : hs_ri j st h = some (.inl t) := hxi
    unfold hs_ri hs_re at hxi
    split at hxi
    · cases hxi
    · split at hxi <;> cases hxi
    · cases hxi
  case lreturn =>
    replace hxi : hs_rl j st h = some (.inl t) := hxi
    unfold hs_rl hs_re at hxi
    split at hxi <;> cases hxi
  case return_ =>
    replace hxi : hs_rv j st h = some (.inl t) := hxi
    unfold hs_rv hs_re at hxi
    split at hxi <;> cases hxi
  all_goals (replace hxi : (none : Option hs_X) = some (.inl t) := hxi; cases hxi)
