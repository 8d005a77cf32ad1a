/-! calls, and the whole run -/
def hs_Pc (D : va_G) (bs : Nat) (b : Nat × Nat) (ac : FieldType → ClassId) (as : List Value) (h : hs_H) : Array Value → State → Prop := va_Pc (as.map (hs_cv bs b)) (fun U => hs_Sim D bs ac h U.heap ∧ hs_Kn D ac U ∧ hs_St bs b.2 U U.heap)
def hs_Qc (D : va_G) (bs : Nat) (b : Nat × Nat) (ac : FieldType → ClassId) (v : Option Value) (h' : hs_H) : Array Value → State → Outcome → State → Prop := fun _ st oc t => oc = .returned (v.map (hs_cv bs b)) ∧ hs_Sim D bs ac h' t.heap ∧ ∀ q : Nat, q ≤ bs + 1 → t.heap[q]? = st.heap[q]?
def hs_rm (d : Nat) (h h' : hs_H) : Room := { frames := d + 8, cells := hs_nn h' - hs_nn h, slots := hs_ns h' - hs_ns h, locals := 60 * (d + 8) }
theorem hs_rm_f (d : Nat) (h h' : hs_H) : (hs_rm d h h').frames = d + 8 := rfl
theorem hs_rm_l (d : Nat) (h h' : hs_H) : (hs_rm d h h').locals = 60 * (d + 8) := rfl
set_option maxRecDepth 100000 in
theorem hs_lo {d a r : Nat} (ha : a ≤ 20) (hlo : 60 * (d + 9) ≤ r) : 8 + (a + 11) + 60 * (d + 8) ≤ r := by omega
/-- method j's contract at these arguments and this heap, at depth d -/
def hs_Met (l : Launch) (D : va_G) (bs : Nat) (b : Nat × Nat) (ac : FieldType → ClassId) (d j : Nat) (as : List Value) (h : hs_H) (v : Option Value) (h' : hs_H) : Prop :=
  Met l (hs_m j).1 (hs_mc (hs_m j) :: hs_g) (hs_rm d h h') (hs_Pc D bs b ac as h) (hs_Qc D bs b ac v h') (hs_nn h' - hs_nn h) (hs_ns h' - hs_ns h) (hs_A bs)
theorem hs_blind {D : va_G} {bs : Nat} {b : Nat × Nat} {ac : FieldType → ClassId} {as : List Value} {h : hs_H} : FrameBlind (hs_Pc D bs b ac as h) := fun a U g mk q => by
  obtain ⟨q0, q1, q2, q3⟩ := q
  exact ⟨q0, q1, q2.same (U := U.calling g mk a) rfl, q3.same (U := U.calling g mk a) rfl rfl⟩
theorem hs_gmc {j : Nat} (hM : hs_Mk j) : GoodIn hs_g (hs_mc (hs_m j) :: hs_g) := fun w hw => by
  rcases List.mem_cons.mp hw with rfl | hw
  · exact hs_goodg _ hM.1
  · exact hs_goodg _ hw
section HC
variable {p : Program} {l : Launch} {e : Env} {R : Room} {s : State} {m : MethodId} {args : Array Value} {below : List Frame} {meth : Method} {c : Code} {H : Heap} {locs : List Loc} {cells slots : Nat} {Q : State → Prop}
variable {D : va_G} {bs : Nat} {b : Nat × Nat} {ac : FieldType → ClassId} {scr : List Int32} {j pc : Nat} {ls : Array Slot} {rest : List Value} {h h' : hs_H} {v : Option Value}
theorem hs_callW {a : Array Value} {st0 : List Value} {mc ms : Nat} (hr : va_Run p l e R s m args below meth c H locs cells slots mc ms (F0 m pc ls st0) rest (hs_Qc D bs b ac v h' a) (hs_A bs)) (hSim : hs_Sim D bs ac h H) (hS : va_S (hs_A bs) s.heap H locs) (hup : hs_Up h h')
    (K : ∀ (H1 : Heap) (locs1 : List Loc), hs_Sim D bs ac h' H1 → va_S (hs_A bs) s.heap H1 locs1 → W p l e R s m args below meth c H1 locs1 (cells + mc) (slots + ms) Q (F0 m (pc + 3) ls ((v.map (hs_cv bs b)).toList ++ rest))) : W p l e R s m args below meth c H locs cells slots Q (F0 m pc ls st0) := by
  intro T hT X
  obtain ⟨v', st₀, t, T', L, h0, X', hL, e1, e2, ⟨hv, hs2, hk⟩, st⟩ := hr T hT X
  cases hv
  rw [h0] at hk
  obtain ⟨t2, a1, b1⟩ := K T'.heap (locs ++ L) (by rw [e1]; exact hs2) ⟨by
      have h1 := hS.1
      have h2 := hSim.1
      have h3 := hs2.1
      have h4 := hup.1
      unfold hs_nn at h4
      rw [e1]; omega, fun q h1 h2 => by
      rw [e1, hk q (Nat.not_lt.mp h2)]
      exact hS.2.1 q h1 h2, fun q hq => by
      rcases List.mem_append.mp hq with h | h
      · exact hS.2.2 q h
      · exact hL q h⟩ T' rfl X'
  exact ⟨t2, st t2 a1, b1⟩
theorem hs_cB {idx d jj n : Nat} (hC : hs_Cx p s m args meth c D bs b ac scr j) (hM : hs_Mk jj) (hlink : Cond.methodLink (hs_cn (hs_own j)) idx (hs_m jj).1 ∈ hs_g) (hn : hs_np jj = n) (hf : d + 9 ≤ R.frames) (hlo : 60 * (d + 9) ≤ R.locals) :
    CallB R s args (hs_cn (hs_own j)) idx (hs_m jj).1 (hs_code jj) (hs_mL jj) (hs_ret jj) (hs_mc (hs_m jj) :: hs_g) (hs_rm d h h') (hs_nn h' - hs_nn h) (hs_ns h' - hs_ns h) n := by
  obtain ⟨hx, hb, hml, hown, hts, hKn, -, -, -⟩ := hC
  have hp := hs_cp (hs_own jj)
  refine callB_of (ws' := hs_g) n hts (hs_gmc hM) rfl rfl rfl ?_ (hts _ hlink) ?_ ⟨by rw [hs_rm_f]; exact hf, by rw [hs_rm_l]; exact hs_lo hM.2.2.2.2.1 hlo⟩
  · rw [hM.2.2.1]
    exact hts _ (hs_ing (hs_ci_in _ hM.2.2.2.1) rfl)
  · rw [hM.2.2.1, ← hn]
    exact ⟨(hp hM.2.2.2.1).2.1, (hp hM.2.2.2.1).2.2, hM.2.1⟩
theorem hs_pre {as : List Value} (hC : hs_Cx p s m args meth c D bs b ac scr j) (hSim : hs_Sim D bs ac h H) (hS : va_S (hs_A bs) s.heap H locs) : ∀ U : State, U.heap = H → s.WarmedH U.vm → hs_Pc D bs b ac as h (as.map (hs_cv bs b)).toArray U := fun U hU hW => ⟨rfl, by rw [hU]; exact hSim, hC.2.2.2.2.2.1.warm hW, hC.2.2.2.2.2.2.2.2.go hW hU hS⟩
/-- what a call of the evaluator says -/
theorem hs_call_inv {i : Instr} {loc : hs_L} {st : List Value} {cc : Nat × List Value × Nat × hs_L × List Value × hs_H} (hxi : hs_xi scr j i pc loc st h = some (.inr (.inr cc))) : ∃ (idx jj : Nat) (as r : List Value), cc = (jj, as, pc + 3, loc, r, h) ∧ hs_rs r = true ∧
    ((i = .invokestatic idx ∧ hs_cal (hs_own j) idx = some (1, jj) ∧ st = as.reverse ++ r ∧ as.length = hs_np jj) ∨
     (∃ k as', as = .ref k :: as' ∧ st = as'.reverse ++ .ref k :: r ∧ as'.length = hs_np jj ∧ ((i = .invokevirtual idx ∧ hs_cal (hs_own j) idx = some (0, jj) ∧ h.1[k]? = some (.inl (hs_own jj))) ∨ (i = .invokespecial idx ∧ 2 ≤ k ∧ (hs_cal (hs_own j) idx = some (2, jj) ∨ hs_cal (hs_own j) idx = some (3, jj)))))) := by
  have cut : ∀ (n k : Nat) (r : List Value), st.drop n = .ref k :: r → st = ((st.take n).reverse).reverse ++ .ref k :: r ∧ ((st.take n).reverse).length = n := by
    intro n k r hh
    refine ⟨by rw [List.reverse_reverse, ← hh, List.take_append_drop], ?_⟩
    rw [List.length_reverse, List.length_take]
    have : n < st.length := by
      rcases Nat.lt_or_ge n st.length with q | q
      · exact q
      · rw [List.drop_eq_nil_of_le q] at hh; cases hh
    omega
  cases i
  case invokevirtual k =>
    obtain ⟨⟨kk, jj⟩, h1, h2⟩ := hs_bind_inl hxi
    replace h2 : hs_iv (kk, jj) pc loc st h = some (.inr (.inr cc)) := h2
    unfold hs_iv at h2
    split at h2
    · rename_i hk
      have hk : kk = 0 := hk
      subst hk
      split at h2
      · rename_i b0 r hdr
        split at h2
        · rename_i hq
          cases h2
          exact ⟨k, jj, _, r, rfl, hq.2, Or.inr ⟨b0, _, rfl, (cut _ _ _ hdr).1, (cut _ _ _ hdr).2, Or.inl ⟨rfl, h1, hq.1⟩⟩⟩
        · cases h2
      · cases h2
    · exfalso
      repeat' split at h2
      all_goals cases h2
    · exfalso
      repeat' split at h2
      all_goals cases h2
    · cases h2
  case invokespecial k =>
    obtain ⟨⟨kk, jj⟩, h1, h2⟩ := hs_bind_inl hxi
    replace h2 : hs_ip (kk, jj) pc loc st h = some (.inr (.inr cc)) := h2
    unfold hs_ip at h2
    split at h2
    · rename_i b0 r hk hdr
      split at h2
      · rename_i hq
        have hk : kk = 2 := hk
        subst hk
        cases h2
        exact ⟨k, jj, _, r, rfl, hq.1, Or.inr ⟨b0, _, rfl, (cut _ _ _ hdr).1, (cut _ _ _ hdr).2, Or.inr ⟨rfl, hq.2, Or.inl h1⟩⟩⟩
      · cases h2
    · rename_i b0 r hk hdr
      split at h2
      · rename_i hq
        have hk : kk = 3 := hk
        subst hk
        cases h2
        exact ⟨k, jj, _, r, rfl, hq.1, Or.inr ⟨b0, _, rfl, (cut _ _ _ hdr).1, (cut _ _ _ hdr).2, Or.inr ⟨rfl, hq.2, Or.inr h1⟩⟩⟩
      · cases h2
    · split at h2
      · split at h2 <;> cases h2
      · cases h2
    · cases h2
  case invokestatic k =>
    obtain ⟨⟨kk, jj⟩, h1, h2⟩ := hs_bind_inl hxi
    replace h2 : hs_is (kk, jj) pc loc st h = some (.inr (.inr cc)) := h2
    unfold hs_is at h2
    split at h2
    · rename_i hk
      split at h2
      · rename_i hq
        have hk : kk = 1 := hk
        subst hk
        cases h2
        exact ⟨k, jj, _, _, rfl, hq.2, Or.inl ⟨rfl, h1, by rw [List.reverse_reverse, List.take_append_drop], by rw [List.length_reverse, List.length_take]; exact Nat.min_eq_left hq.1⟩⟩
      · cases h2
    · exfalso
      unfold hs_acp at h2
      repeat' split at h2
      all_goals cases h2
    · exfalso
      unfold hs_bi at h2
      repeat' split at h2
      all_goals cases h2
  case newarray at_ =>
    exfalso
    cases at_
    case int | long | byte =>
      replace hxi : hs_na _ (pc + 2) loc st h = some (.inr (.inr cc)) := hxi
      unfold hs_na at hxi
      repeat' split at hxi
      all_goals cases hxi
    all_goals (replace hxi : (none : Option hs_X) = some (.inr (.inr cc)) := hxi; cases hxi)
  case new k =>
    obtain ⟨ci, -, h2⟩ := hs_bind_inl hxi
    replace h2 : hs_nw ci pc loc st h = some (.inr (.inr cc)) := h2
    cases h2
  case anewarray k =>
    exfalso
    obtain ⟨ci, -, h2⟩ := hs_bind_inl hxi
    replace h2 : (if ci = 9 ∨ ci = 4 ∨ ci = 5 then hs_na (.object (hs_cn ci)) (pc + 3) loc st h else none) = some (.inr (.inr cc)) := h2
    unfold hs_na at h2
    repeat' split at h2
    all_goals cases h2
  case ldc k =>
    exfalso
    replace hxi : (if hs_own j = 8 ∧ k = hs_sk then hs_go (pc + 2) loc (.ref 1 :: st) h else (hs_kI (hs_own j) k).bind fun v => hs_go (pc + 2) loc (.int v :: st) h) = some (.inr (.inr cc)) := hxi
    split at hxi
    · cases hxi
    · obtain ⟨v, -, h2⟩ := hs_bind_inl hxi
      cases h2
  case ldc_w | ldc2_w | goto =>
    obtain ⟨v, -, h2⟩ := hs_bind_inl hxi
    cases h2
  case getfield k =>
    exfalso
    obtain ⟨v, -, h2⟩ := hs_bind_inl hxi
    unfold hs_gf at h2
    repeat' split at h2
    all_goals cases h2
  case putfield k =>
    exfalso
    obtain ⟨v, -, h2⟩ := hs_bind_inl hxi
    unfold hs_pf at h2
    repeat' split at h2
    all_goals cases h2
  case tableswitch df lo hi offs =>
    exfalso
    replace hxi : (match st with
    | .int x :: r => if x.toInt < lo ∨ hi < x.toInt then (hs_j pc df).bind fun t => hs_go t loc r h else (offs[(x.toInt - lo).toNat]?).bind fun o => (hs_j pc o).bind fun t => hs_go t loc r h
    | _ => none) = some (.inr (.inr cc)) := hxi
    split at hxi
    · split at hxi
      · obtain ⟨v, -, h2⟩ := hs_bind_inl hxi
        cases h2
      · obtain ⟨v, -, h2⟩ := hs_bind_inl hxi
        obtain ⟨w, -, h3⟩ := hs_bind_inl h2
        cases h3
    · cases hxi
  case lookupswitch df ps =>
    exfalso
    replace hxi : (match st with
    | .int x :: r => if (ps.toList.zip (ps.toList.drop 1)).all (fun (a, next) => a.1 < next.1) = true then (hs_j pc (Op.lookupswitch.offset ps.toList df x.toInt)).bind fun t => hs_go t loc r h else none
    | _ => none) = some (.inr (.inr cc)) := hxi
    split at hxi
    · split at hxi
      · obtain ⟨v, -, h2⟩ := hs_bind_inl hxi
        cases h2
      · cases hxi
    · cases hxi
  case astore k | astore_n k =>
    exfalso
    replace hxi : hs_sa _ _ loc st h = some (.inr (.inr cc)) := hxi
    unfold hs_sa at hxi
    split at hxi
    · obtain ⟨v, -, h2⟩ := hs_bind_inl hxi
      cases h2
    · cases hxi
  case istore k | istore_n k =>
    exfalso
    replace hxi : hs_si _ _ loc st h = some (.inr (.inr cc)) := hxi
    unfold hs_si at hxi
    split at hxi
    · obtain ⟨v, -, h2⟩ := hs_bind_inl hxi
      cases h2
    · cases hxi
  case lstore k | lstore_n k =>
    exfalso
    replace hxi : hs_sl _ _ loc st h = some (.inr (.inr cc)) := hxi
    unfold hs_sl at hxi
    split at hxi
    · obtain ⟨v, -, h2⟩ := hs_bind_inl hxi
      cases h2
    · cases hxi
  case iinc k c =>
    exfalso
    replace hxi : hs_inc k c pc loc st h = some (.inr (.inr cc)) := hxi
    unfold hs_inc at hxi
    split at hxi
    · obtain ⟨v, -, h2⟩ := hs_bind_inl hxi
      cases h2
    · cases hxi
  all_goals first
    | (replace hxi : (none : Option hs_X) = some (.inr (.inr cc)) := hxi; cases hxi; done)
    | (exfalso
       simp only [hs_xi, hs_la, hs_li, hs_ll, hs_i2, hs_i2d, hs_i1, hs_l2, hs_l2d, hs_br, hs_al, hs_aal, hs_asi, hs_asb, hs_asl, hs_aas, hs_len, hs_ri, hs_rl, hs_rv, hs_re] at hxi
       (repeat' split at hxi) <;> cases hxi)
end HC
