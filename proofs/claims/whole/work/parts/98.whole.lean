/-! the start: what the machine knows at the law's entry -/
theorem hs_m_law : hs_m hs_jL = hs_law := by
  rw [hs_m, List.getD_eq_getElem?_getD, List.getElem?_eq_none (by rw [hs_jL_ml]; exact Nat.le_refl _)]
  rfl
set_option maxRecDepth 100000 in
theorem hs_n_el : ∀ j, j < 156 → Cond.eq (.elem (.field (.string "MoustacheState$Text" 39) "java/lang/String" "value" "[B") (.int (Int32.ofNat j))) (.int (hs_tx.getD j 0)) ∈ flatC (Jvm.Cond.and given_1 narrow_1) := fun j hj => hs_sub_ok _ ((List.range 156).map fun j => Cond.eq (.elem (.field (.string "MoustacheState$Text" 39) "java/lang/String" "value" "[B") (.int (Int32.ofNat j))) (.int (hs_tx.getD j 0))) (by decide +kernel) _ (List.mem_map.mpr ⟨j, List.mem_range.mpr hj, rfl⟩)
theorem hs_n_ex : Cond.exactly (.string "MoustacheState$Text" 39) "java/lang/String" ∈ flatC (Jvm.Cond.and given_1 narrow_1) ∧ Cond.eq (.field (.string "MoustacheState$Text" 39) "java/lang/String" "coder" "B") (.int 0) ∈ flatC (Jvm.Cond.and given_1 narrow_1) ∧ Cond.arrayOf (.field (.string "MoustacheState$Text" 39) "java/lang/String" "value" "[B") .byte ∈ flatC (Jvm.Cond.and given_1 narrow_1) ∧ Cond.eq (.length (.field (.string "MoustacheState$Text" 39) "java/lang/String" "value" "[B")) (.int (Int32.ofNat 156)) ∈ flatC (Jvm.Cond.and given_1 narrow_1) ∧
    Cond.eq (.static "java/lang/String" "COMPACT_STRINGS" "Z") (.int 1) ∈ flatC (Jvm.Cond.and given_1 narrow_1) ∧ Cond.isRef (.static "jdk/internal/util/Preconditions" "SIOOBE_FORMATTER" "Ljava/util/function/BiFunction;") ∈ flatC (Jvm.Cond.and given_1 narrow_1) := by decide +kernel
theorem hs_t_ex : Cond.laysStatic "java/lang/String" "COMPACT_STRINGS" "Z" ∈ tables_1 ∧ Cond.laysStatic "jdk/internal/util/Preconditions" "SIOOBE_FORMATTER" "Ljava/util/function/BiFunction;" ∈ tables_1 ∧ Cond.initialized "java/lang/String" ∈ tables_1 ∧ Cond.initialized "jdk/internal/util/Preconditions" ∈ tables_1 ∧ Cond.stringRef (hs_cn 8) hs_sk hs_stx ∈ tables_1 ∧ Cond.arrayOver (.object (hs_cn 9)) ∈ tables_1 ∧ Cond.arrayOver (.object (hs_cn 4)) ∈ tables_1 ∧ Cond.arrayOver (.object (hs_cn 5)) ∈ tables_1 := by decide +kernel
theorem hs_tb {c : Cond} (h : c ∈ tables_1) : c ∈ lw_tbl := List.mem_append_right _ h
set_option maxRecDepth 100000 in
/-- the text at the start -/
theorem hs_start_St {args : Array Value} {s : State} (hts : ∀ w ∈ lw_tbl, w.before args s = true) (hgv : (Jvm.Cond.and given_1 narrow_1).before args s = true) : ∃ bs a : Nat, s.heap.size = bs + 2 ∧ hs_St bs a s s.heap := by
  have hfl := flat_of_before _ hgv
  obtain ⟨n1, n2, n3, n4, n5, n6⟩ := hs_n_ex
  obtain ⟨t1, t2, t3, t4, t5, -⟩ := hs_t_ex
  have key : ∀ A : Nat → Prop, (∀ a : Nat, a < s.heap.size → ¬ A a) → ∃ a v : Nat, vk_S 1 [hs_tx.length] [hs_tx] (fun _ => a) (fun _ => v) A s s.heap ∧ (Term.string "MoustacheState$Text" 39).eval args s none [] s = some (.ref a) := by
    intro A hA
    obtain ⟨adK, adV, h1, h2⟩ := vk_Sof (args := args) (s := s) (N := 1) (tm := fun _ => Term.string "MoustacheState$Text" 39) (len := [hs_tx.length]) (byt := [hs_tx]) (A := A)
      (fun i hi => by rw [show i = 0 by omega]; decide)
      (fun i hi => hfl _ n1) (fun i hi => hfl _ n2) (fun i hi => hfl _ n3)
      (fun i hi => by rw [show i = 0 by omega]; exact hfl _ n4)
      (fun i hi j hj => by
        rw [show i = 0 by omega] at hj ⊢
        exact hfl _ (hs_n_el j hj))
      (fun i j hi hj hij => absurd (show i = j by omega) hij) hA
    refine ⟨adK 0, adV 0, ⟨fun i hi => ?_, fun i j hi hj _ => by omega⟩, h2 0 (by decide)⟩
    have h3 := h1.1 i hi
    rw [show i = 0 by omega] at h3 ⊢
    exact h3
  have hz : ∀ A : Nat → Prop, (∀ a : Nat, a < s.heap.size → ¬ A a) → va_Z "java/lang/String" "COMPACT_STRINGS" "Z" (.int 1) A s s.heap := fun A hA => va_Zof (hts _ (hs_tb t1)) (hts _ (hs_tb t3)) (va_eqt (hfl _ n5)) hA
  have hsz : 2 ≤ s.heap.size := by
    obtain ⟨a, v, h1, -⟩ := key (fun _ => False) (fun _ _ h => h)
    obtain ⟨cf, kf, fi, f, q, cell, -, -, -, -, g5, g6, -, -⟩ := hz (fun _ => False) (fun _ _ h => h)
    obtain ⟨cell2, k1, k2, -, -⟩ := (h1.1 0 (by decide)).1
    have l1 := (Array.getElem?_eq_some_iff.mp g5).1
    have l2 := (Array.getElem?_eq_some_iff.mp k1).1
    dsimp only at l2 k1
    rcases Nat.lt_trichotomy q a with h | h | h
    · omega
    · subst h
      rw [g5] at k1
      cases k1
      rw [g6] at k2
      cases k2
    · omega
  obtain ⟨bs, hbs⟩ : ∃ bs, s.heap.size = bs + 2 := ⟨s.heap.size - 2, by omega⟩
  have hA : ∀ a : Nat, a < s.heap.size → ¬ hs_A bs a := fun a h g => by
    have g : bs + 1 < a := g
    omega
  obtain ⟨a, v, h1, h2⟩ := key (hs_A bs) hA
  exact ⟨bs, a, hbs, vk_R.of (hts _ (hs_tb t5)) h2, ⟨v, h1⟩, hz _ hA, va_Zqof (hts _ (hs_tb t2)) (hts _ (hs_tb t4)) (hfl _ n6) hA⟩
theorem hs_ra {s : State} {C : String} (h : (Cond.arrayOver (.object C)).before #[] s = true) : ∃ cA : ClassId, s.vm.findClass ("[" ++ (FieldType.object C).toString) = some cA ∧ ArrOfT s cA (.object C) ∧ va_RA s cA (.object C) := by
  obtain ⟨comp, cA, kA, h1, h2, h3, h4, h5⟩ := Cond.arrayOver_spec h
  exact ⟨cA, h5, fun n z => ⟨(fun k h => by cases h), kA, h3, comp, h4⟩, kA, comp, h3, h4, h1, h5⟩
theorem hs_start_Kn {args : Array Value} {s : State} (hts : ∀ w ∈ lw_tbl, w.before args s = true) : ∃ (D : va_G) (ac : FieldType → ClassId), hs_Kn D ac s := by
  have hgw : ∀ w ∈ hs_g, w.before args s = true := fun w hw => hts w (List.mem_filter.mp hw).1
  have h0 : ∀ ci : Nat, ∃ q : ClassId × (Nat → Nat), ci < 12 → u_Kn s (hs_cw ci).1 (hs_cw ci).2.1 (hs_cw ci).2.2 q.1 q.2 := by
    intro ci
    by_cases hi : ci < 12
    · have hin := hts _ (hs_nl_i2 ci hi)
      rw [hs_cwn ci hi] at hin
      obtain ⟨c0, iS, h⟩ := u_known hgw (hs_ug hi) hin
      exact ⟨(c0, iS), fun _ => h⟩
    · exact ⟨(0, fun _ => 0), fun h => absurd h hi⟩
  obtain ⟨q, hq⟩ := Classical.axiomOfChoice h0
  refine ⟨(fun ci => (q ci).1, fun ci => (q ci).2), fun ty => (s.vm.findClass ("[" ++ ty.toString)).getD 0, ⟨fun c r hr => ?_, fun k r hr => ?_⟩, fun e he => va_Nw.of rfl (hts _ (hs_nk_in e he)), fun ci hci => ?_⟩
  · have hc : c < 12 := (List.getElem?_eq_some_iff.mp hr).1
    have e1 := (hs_cwg c hc).symm.trans hr
    cases e1
    exact hq c hc
  · have prim : ∀ ty : FieldType, Cond.arrayClass ty ∈ tables_1 → (∀ cA, s.vm.findClass ("[" ++ ty.toString) = some cA → va_RA s cA ty) → ArrOfT s ((s.vm.findClass ("[" ++ ty.toString)).getD 0) ty ∧ va_RA s ((s.vm.findClass ("[" ++ ty.toString)).getD 0) ty := by
      intro ty hm hra
      obtain ⟨cA, kA, comp, g1, g2, g3⟩ := Cond.arrayClass_spec (hts _ (hs_tb hm))
      rw [g1]
      exact ⟨fun n z => ⟨(fun k h => by cases h), kA, g2, comp, g3⟩, hra cA g1⟩
    have obj : ∀ C : String, Cond.arrayOver (.object C) ∈ tables_1 → ArrOfT s ((s.vm.findClass ("[" ++ (FieldType.object C).toString)).getD 0) (.object C) ∧ va_RA s ((s.vm.findClass ("[" ++ (FieldType.object C).toString)).getD 0) (.object C) := by
      intro C hm
      obtain ⟨cA, g1, g2, g3⟩ := hs_ra (va_AO.of (hts _ (hs_tb hm)))
      rw [g1]
      exact ⟨g2, g3⟩
    rw [List.getElem?_map] at hr
    have hk : k < 6 := by
      rcases Nat.lt_or_ge k 6 with g | g
      · exact g
      · rw [List.getElem?_eq_none (by exact g)] at hr; cases hr
    rcases (show k = 0 ∨ k = 1 ∨ k = 2 ∨ k = 3 ∨ k = 4 ∨ k = 5 by omega) with rfl | rfl | rfl | rfl | rfl | rfl
    · cases hr; exact prim .int hs_acl.1 (fun _ h => h)
    · cases hr; exact prim .long hs_acl.2.1 (fun _ h => h)
    · cases hr; exact prim .byte hs_acl.2.2 (fun _ h => h)
    · cases hr; exact obj _ hs_t_ex.2.2.2.2.2.1
    · cases hr; exact obj _ hs_t_ex.2.2.2.2.2.2.1
    · cases hr; exact obj _ hs_t_ex.2.2.2.2.2.2.2
  · rcases hci with rfl | rfl | rfl
    · exact va_AO.of (hts _ (hs_tb hs_t_ex.2.2.2.2.2.1))
    · exact va_AO.of (hts _ (hs_tb hs_t_ex.2.2.2.2.2.2.1))
    · exact va_AO.of (hts _ (hs_tb hs_t_ex.2.2.2.2.2.2.2))
/-! THE CLAIM OUT OF ONE WALK OF THE LAW'S BODY. Your part is whole_start (and what it stands on); all else here is the same for every law, but numbers. -/
def R_law : String := "MoustacheStateLaw"
def lw_P (b : Addr) (xs : List Int32) (args : Array Value) (s : State) : Prop := args = #[.ref b] ∧ s.IntsAt b xs ∧ xs.length ≤ 3072 ∧ (Jvm.Cond.and given_1 narrow_1).before args s = true
def lw_Q (_ : Array Value) (s : State) (o : Outcome) (t : State) : Prop := o = .returned (some (.int 1)) ∧ Framed s o t [] 600000 7302250
def lw_Z (below : List Frame) (a : Array Value) (s : State) : State → Prop := fun t => ∃ o, t.status = .running ∧ Ended t below o ∧ lw_Q a s o t
/-- the law's own end, with 1 on the stack, nothing written that was there before, its room as the claim has it -/
theorem lw_ret {p : Program} {l : Launch} {e : Jvm.Env} {s : State} {m : MethodId} {below : List Frame} {meth : Method} {c : Code} {b : Nat} (hx : p.tables.exec = Jvm.exec) (hb : c.code = code) (hr : meth.sig.returnType = ret) (hlocks : meth.locks = false) {pc : Nat} {H : Heap} {ls : Array Slot} (hdg : decode code pc = .ok (.ireturn, 1)) : W p l e room_1 s m #[Value.ref b] below meth c H [] 600000 7302250 (lw_Z below #[Value.ref b] s) (F0 m pc ls [.int 1]) := by
  intro T hT X
  obtain ⟨fs, hret, hrun, hended, hW, hframe⟩ := X.leave (v := some (.int 1)) (hlocks := hlocks) (fun h => by rw [hr] at h; cases h)
  have hmeth' : T.vm.method? m = some meth := X.method'
  refine ⟨T.setFrames fs, ?_, .returned (some (.int 1)), hrun, hended, rfl, ⟨_, rfl⟩, hW, hframe⟩
  jvm_step X.here [X.here.top, hx, hb, hdg, hmeth', hr, ret, narrow_b1]
  (try refine ⟨rfl, ?_⟩); (try refine ⟨rfl, ?_⟩)
  first | (intro acts; rw [hret _ acts rfl rfl rfl]) | rw [hret _ _ rfl rfl rfl]
  exact Steps.refl _
/-- what holds at the law's entry: the machine, the code, the tables' words (any of lw_tbl by 'hts w (by decide +kernel)'), the script of L ints xs at the cell b, what the Statement gives of the start (any of its parts by flat_of_before) -/
def lw_At (p : Program) (s : State) (m : MethodId) (meth : Method) (c : Code) (b L : Nat) (xs : Nat → Int32) : Prop :=
  p.tables.exec = Jvm.exec ∧ c.code = code ∧ meth.sig.returnType = ret ∧ c.maxLocals = 4 ∧ s.vm.findClass R_law = some m.cls ∧ (∀ w ∈ lw_tbl, w.before #[Value.ref b] s = true) ∧ va_X b L xs s s.heap ∧ b < s.heap.size ∧ meth.locks = false ∧ (Jvm.Cond.and given_1 narrow_1).before #[Value.ref b] s = true
set_option maxHeartbeats 4000000 in
set_option maxRecDepth 100000 in
theorem whole_start {p : Program} {e : Jvm.Env} {s : State} {m : MethodId} {below : List Frame} {meth : Method} {c : Code} (l : Launch) {b L : Nat} {xs : Nat → Int32} (hL : L ≤ 3072) (C0 : lw_At p s m meth c b L xs) : W p l e room_1 s m #[Value.ref b] below meth c s.heap [] 0 0 (lw_Z below #[Value.ref b] s) (entryFrame m ([Value.ref b] : List Value).toArray 4) := by
  obtain ⟨hx, hb, hr, hml, hown, hts, hX, hbl, hlocks, hgv⟩ := id C0
  obtain ⟨bs, a, hsz, hSt⟩ := hs_start_St hts hgv
  obtain ⟨D, ac, hKn⟩ := hs_start_Kn hts
  have hlen : ((List.range L).map xs).length = L := by rw [List.length_map, List.length_range]
  obtain ⟨n, h', hrun, hc1, hc2⟩ := hs_owed ((List.range L).map xs) (by rw [hlen]; exact hL)
  obtain ⟨hu, hw⟩ := hs_sound (l := l) (D := D) (bs := bs) (b := (b, a)) (ac := ac) n 100 hs_jL 0 _ _ _ _ _ hrun
  have hX2 : va_X b ((List.range L).map xs).length (fun i => ((List.range L).map xs).getD i 0) s s.heap := by
    obtain ⟨cell, g1, g2, g3, g4, g5⟩ := hX
    refine ⟨cell, g1, g2, g3, by rw [hlen]; exact g4, fun j hj => ?_⟩
    rw [hlen] at hj
    rw [g5 j hj]
    show some (Value.int (xs j)) = some (Value.int (((List.range L).map xs).getD j 0))
    rw [List.getD_eq_getElem?_getD, List.getElem?_map, List.getElem?_range hj]
    rfl
  have hC : hs_Cx p s m #[Value.ref b] meth c D bs (b, a) ac ((List.range L).map xs) hs_jL := by
    refine ⟨hx, ?_, ?_, ?_, fun w hw => hts w (List.mem_filter.mp hw).1, hKn, fun hk => ?_, fun _ => ⟨hX2, hbl, by show b ≤ bs + 1; omega⟩, hSt⟩
    · rw [hb, hs_code, hs_m_law]; rfl
    · rw [hml, hs_mL, hs_m_law]; rfl
    · rw [hs_own, hs_m_law]; exact hown
    · rw [hs_kind, hs_m_law] at hk; cases hk
  have hmL : hs_mL hs_jL = 4 := by rw [hs_mL, hs_m_law]; rfl
  have hlr := hs_en_lr (bs := bs) (b := (b, a)) (j := hs_jL) (as := [.ref 0]) (by rw [hs_fitn, hmL]; rfl)
  rw [lg_entry_eq]
  rw [hmL] at hlr
  have hSim : hs_Sim D bs ac hs_h0 s.heap := ⟨hsz, ⟨rfl, rfl⟩, fun k s' h2 hk => by
    have : k < 2 := (List.getElem?_eq_some_iff.mp hk).1
    omega⟩
  have h00 : hs_nn hs_h0 = 2 := rfl
  have h01 : hs_ns hs_h0 = 0 := by decide +kernel
  refine hw (R := room_1) (nc0 := 2) (ns0 := 0) (e := e) (below := below) hC (by rw [hmL]; exact hlr) hSim va_S.rf (Nat.le_of_ble_eq_true rfl) (Nat.le_of_ble_eq_true rfl) (by rw [h00]; exact Nat.le_refl _) (Nat.zero_le _) (Nat.le_trans (Nat.sub_le _ _) hc1) (Nat.le_trans (Nat.sub_le _ _) hc2) (fun H' locs' ls' pc' hs2 hS2 hret => ?_)
  refine va_forget (fun q hq => ?_) ?_
  · have := hS2.2.2 q hq
    have : bs + 1 < q.base := this
    omega
  · refine W.widen (k := 600000) (n := 7302250) (Nat.le_trans (Nat.sub_le _ _) hc1) (Nat.le_trans (Nat.sub_le _ _) hc2) ?_
    refine lw_ret hx hb hr hlocks ?_
    have hd := hret.2
    rw [hs_code, hs_m_law] at hd
    exact hd
set_option maxHeartbeats 4000000 in
theorem lw_walk (l : Launch) (b : Addr) (xs : List Int32) : MetFree l x (headSpec (Jvm.Cond.code x code maxLocals ret :: tables_1) room_1) (lw_P b xs) (fun _ _ _ _ _ => True) lw_Q := by
  refine MetFree.of_bodyS (code := code) (maxLocals := maxLocals) (ret := ret) (by decide) ?_ ?_
  · intro args s m h hn
    obtain ⟨meth, c, h1, h2, h3, h4, h5, h6, -, -⟩ := Cond.code_spec hn (atoms_spec (ws := Jvm.Cond.code x code maxLocals ret :: tables_1) h _ List.mem_cons_self)
    exact ⟨meth, c, h1, h2, h3, h4, h5, h6⟩
  · intro p e s m args below meth c s₁ B hml0 hP _
    obtain ⟨rfl, hx, hbd, hgv⟩ := hP
    obtain ⟨scr, harrAt, hlist, hof, hsmall⟩ := hx
    obtain ⟨hcb, hkn, -, -⟩ := State.arrayAt?_spec harrAt
    have hown : s.vm.findClass R_law = some m.cls := findClass_of_methodNamed B.named
    have hts0 : ∀ c ∈ (Jvm.Cond.code x code maxLocals ret :: tables_1), c.before #[Value.ref b] s = true := atoms_spec (ws := Jvm.Cond.code x code maxLocals ret :: tables_1) B.pre
    have hts : ∀ w ∈ lw_tbl, w.before #[Value.ref b] s = true := k2_hts_sels lw_privs (fun w hw => hts0 w (List.mem_cons_of_mem _ hw)) lw_privs_ok
    have hml : c.maxLocals = 4 := B.maxLocals_eq (hts0 _ List.mem_cons_self)
    have X₀ : Stand p l e room_1 s m #[Value.ref b] below meth c s₁ [] 0 0 := Stand.of_body B
    have hh0 : s₁.heap = s.heap := by rw [B.state]; rfl
    have hsz : scr.slots.size = xs.length := by rw [← Array.length_toList, hlist, List.length_map]
    have hval : ∀ j : Nat, j < xs.length → scr.slots[j]? = some (.int (xs.getD j 0)) := fun j hj => by
      rw [← Array.getElem?_toList, hlist]
      simp [hj]
    have hbl : b < s.heap.size := (Array.getElem?_eq_some_iff.mp hcb).1
    have hX : va_X b xs.length (fun j => xs.getD j 0) s s.heap := ⟨scr, hcb, hof, hkn, hsz, hval⟩
    have K : W p l e room_1 s m #[Value.ref b] below meth c s₁.heap [] 0 0 (lw_Z below #[Value.ref b] s) (entryFrame m ([Value.ref b] : List Value).toArray 4) := by
      rw [hh0]
      exact whole_start l hbd ⟨B.exec, B.bytes, B.returns, hml, hown, hts, hX, hbl, B.notSynchronized, hgv⟩
    obtain ⟨t, a1, o, b1, b2, b3⟩ := K s₁ rfl X₀
    exact ⟨t, o, a1, b1, b2, b3⟩
theorem lw_pre_spec {args : Array Value} {s : State} (h : (Jvm.Cond.and given_1 narrow_1).before args s = true) (hr : rest_1_c.before args s = true) : ∃ (b : Addr) (xs : List Int32), lw_P b xs args s := by
  have hs := flat_of_before _ h
  have hq := flat_of_before _ hr
  have hc : (Cond.count 1).before args s = true := hs _ (by decide +kernel)
  have harr : (Cond.arrayOf (.arg 0) .int).before args s = true := hs _ (by decide +kernel)
  have hle : (Cond.le (.length (.arg 0)) (.int 3072)).before args s = true := hs _ (by decide +kernel)
  have hlen : (Cond.isInt (.length (.arg 0))).before args s = true := hq _ (by decide +kernel)
  have hall : (Cond.all (.arg 0) (.isInt (.elem (.arg 0) (.index 0)))).before args s = true := hq _ (by decide +kernel)
  obtain ⟨b, xs, hb, hx⟩ := State.ints_of_pre rfl harr hlen hall
  have hsm : xs.length < 2 ^ 31 := hx.choose_spec.2.2.2
  have hev : (Term.length (.arg 0)).eval args s none [] s = some (.int xs.length.toInt32) := hx.length_eval hb
  have hv := Cond.le_ints hev (show (Term.int 3072).eval args s none [] s = some (.int 3072) from rfl)
  have hd : xs.length.toInt32 ≤ 3072 := by
    simpa [Cond.before, Cond.holds, hv] using hle
  have hN : xs.length ≤ 3072 := (Int32.ofNat_le_ofNat hsm (by decide)).mp (show Int32.ofNat xs.length ≤ Int32.ofNat 3072 from hd)
  exact ⟨b, xs, Cond.one_arg hc (show args[0]? = some (.ref b) from hb), hx, hN, h⟩
theorem lw_comes (l : Launch) : Comes l x (Jvm.Cond.code x code maxLocals ret :: tables_1) room_1 (fun tb e args s => Calls_1 tb e args s ∧ rest_1 tb e args s ∧ Pre_1 tb e args s)
    (fun _ _ args s o t => lw_Q args s o t) := by
  intro p e ha hc hk s m args below hf hfit hheap happ hpre
  obtain ⟨b, xs, hP⟩ := lw_pre_spec hpre.2.2 hpre.2.1
  obtain ⟨k, o, h1, h2, h3, hQ⟩ := lw_walk l b xs p e ha hc hk s m args below hf ((Spec.applies_iff_loose hf).mp happ).1 hP trivial
  exact ⟨k, o, h1, h2, h3, hQ⟩
theorem lw_frame {s t : State} {o : Outcome} {args : Array Value} (h : Framed s o t [] 600000 7302250) :
    Framed s o t (fieldLocs frame_1_writes args s ++ arrayLocs frame_1_arrays args s ++ staticLocs frame_1_statics s) 600000 7302250 := h
theorem lw_limb (L : Cond) (hL : ∀ (args : Array Value) (s t : State), L.after args s (.returned (some (.int 1))) t = true) :
    ArmFor flags0 classFile x code maxLocals ret World_1 tables_1 room_1 Calls_1 rest_1 Pre_1
      (fun tb e a s o t => postC L tb e a s o t ∧ Framed s o t (fieldLocs frame_1_writes a s ++ arrayLocs frame_1_arrays a s ++ staticLocs frame_1_statics s) 600000 7302250) := by
  intro l _ _ _ p e ha hc hk s m args below hf hfit hheap happ hpre
  obtain ⟨k, o, h1, h2, h3, rfl, hF⟩ := lw_comes l p e ha hc hk s m args below hf hfit hheap happ hpre
  exact ⟨k, _, h1, h2, h3, hL args s _, lw_frame hF⟩
theorem i_vc : Claimed_1_1 ∧ Claimed_1_2 := ⟨lw_limb limb_1_1 (fun args s t => by simp [limb_1_1, Cond.after, Cond.holds, Cond.value]), lw_limb limb_1_2 (fun args s t => Cond.after_iff.mpr (by
  first | (rw [show limb_1_2 = Cond.eq .result (.int 1) from rfl, Cond.eq_ints (x := 1) (y := 1) rfl rfl]; simp; done) | (simp [limb_1_2, Cond.value, Term.eval]; done)))⟩
