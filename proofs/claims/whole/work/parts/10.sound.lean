/-! a run of the evaluator is a run of the machine -/
theorem hs_get_at : ∀ (l : hs_L) (i : Nat) (v : Value), hs_get l i = some v → l[i]? = some (some v)
  | [], _, _, h => by simp [hs_get] at h
  | a :: l, 0, v, h => by
    have h : a = some v := h
    rw [h]; rfl
  | a :: l, n + 1, v, h => by
    have h : hs_get l n = some v := h
    rw [List.getElem?_cons_succ]
    exact hs_get_at l n v h
def hs_f1 (v : Value) : hs_L := if v.category = 2 then [some v, none] else [some v]
def hs_slot (bs : Nat) (b : Nat × Nat) : Option Value → Slot
  | some v => .val (hs_cv bs b v)
  | none => .second
theorem hs_sl_map (bs : Nat) (b : Nat × Nat) : ∀ as : List Value, (as.flatMap hs_f1).map (hs_slot bs b) = lg_sl (as.map (hs_cv bs b))
  | [] => rfl
  | v :: as => by
    rw [List.flatMap_cons, List.map_append, hs_sl_map bs b as, List.map_cons]
    show _ = (if (hs_cv bs b v).category = 2 then [Slot.val (hs_cv bs b v), .second] else [.val (hs_cv bs b v)]) ++ _
    rw [hs_cv_cat]
    congr 1
    unfold hs_f1
    split <;> rfl
theorem hs_en_lr {bs j : Nat} {b : Nat × Nat} {as : List Value} (hf : hs_fitn j as = true) : hs_lr bs b ((lg_sl (as.map (hs_cv bs b)) ++ List.replicate (hs_mL j - (lg_sl (as.map (hs_cv bs b))).length) Slot.unset).toArray) (hs_mL j) (hs_en (hs_mL j) as) := by
  have hf2 : (as.flatMap hs_f1).length ≤ hs_mL j := by simpa [hs_fitn, hs_f1] using hf
  have hlen : (lg_sl (as.map (hs_cv bs b))).length = (as.flatMap hs_f1).length := by rw [← hs_sl_map, List.length_map]
  have he := lv_entry (as.map (hs_cv bs b)) (n := hs_mL j) (by rw [hlen]; exact hf2)
  refine ⟨?_, he.1, he.2.1, fun i v hv => ?_⟩
  · show ((as.flatMap hs_f1) ++ List.replicate (hs_mL j - (as.flatMap hs_f1).length) none).length = _
    rw [List.length_append, List.length_replicate]; omega
  · have h1 := hs_get_at _ _ _ hv
    have h1 : ((as.flatMap hs_f1) ++ List.replicate (hs_mL j - (as.flatMap hs_f1).length) none)[i]? = some (some v) := h1
    by_cases hi : i < (as.flatMap hs_f1).length
    · rw [List.getElem?_append_left hi] at h1
      rw [List.getElem?_toArray, List.getElem?_append_left (by rw [hlen]; exact hi), ← hs_sl_map, List.getElem?_map, h1]
      rfl
    · rw [List.getElem?_append_right (by omega), List.getElem?_replicate] at h1
      split at h1 <;> cases h1
/-- a step keeps the cells, or adds one -/
def hs_Up (h h' : hs_H) : Prop := hs_nn h ≤ hs_nn h' ∧ hs_ns h ≤ hs_ns h'
theorem hs_Up.rf {h h' : hs_H} (e : h'.1 = h.1) : hs_Up h h' := by
  unfold hs_Up hs_nn hs_ns
  rw [e]
  exact ⟨Nat.le_refl _, Nat.le_refl _⟩
theorem hs_Up.ad (s : hs_S) (h : hs_H) : hs_Up h (hs_add s h) := by
  unfold hs_Up
  rw [hs_nn_add, hs_ns_add]
  exact ⟨by omega, by omega⟩
theorem hs_Up.tr {a b c : hs_H} (h1 : hs_Up a b) (h2 : hs_Up b c) : hs_Up a c := ⟨Nat.le_trans h1.1 h2.1, Nat.le_trans h1.2 h2.2⟩
theorem hs_bind_inl {α : Type} {o : Option α} {f : α → Option hs_X} {x : hs_X} (h : o.bind f = some x) : ∃ a, o = some a ∧ f a = some x := by
  cases o with
  | none => cases h
  | some a => exact ⟨a, rfl, h⟩
set_option maxHeartbeats 4000000 in
theorem hs_up {scr : List Int32} {j pc : Nat} {i : Instr} {loc : hs_L} {st : List Value} {h : hs_H} {t : hs_T} (hxi : hs_xi scr j i pc loc st h = some (.inl t)) : hs_Up h t.2.2.2 := by
  cases i
  case newarray at_ =>
    cases at_
    case int | long | byte =>
      replace hxi : hs_na _ (pc + 2) loc st h = some (.inl t) := hxi
      unfold hs_na at hxi
      split at hxi
      · split at hxi
        · cases hxi; exact hs_Up.ad _ _
        · cases hxi
      · cases hxi
    all_goals (replace hxi : (none : Option hs_X) = some (.inl t) := hxi; cases hxi)
  case new k =>
    obtain ⟨ci, -, h2⟩ := hs_bind_inl hxi
    replace h2 : hs_nw ci pc loc st h = some (.inl t) := h2
    cases h2
    exact hs_Up.ad _ _
  case anewarray k =>
    obtain ⟨ci, -, h2⟩ := hs_bind_inl hxi
    replace h2 : (if ci = 9 ∨ ci = 4 ∨ ci = 5 then hs_na (.object (hs_cn ci)) (pc + 3) loc st h else none) = some (.inl t) := h2
    unfold hs_na at h2
    split at h2
    · split at h2
      · split at h2
        · cases h2; exact hs_Up.ad _ _
        · cases h2
      · cases h2
    · cases h2
  case ldc k =>
    replace hxi : (if hs_own j = 8 ∧ k = hs_sk then hs_go (pc + 2) loc (.ref 1 :: st) h else (hs_kI (hs_own j) k).bind fun v => hs_go (pc + 2) loc (.int v :: st) h) = some (.inl t) := hxi
    split at hxi
    · cases hxi
      exact hs_Up.rf rfl
    · obtain ⟨v, -, h2⟩ := hs_bind_inl hxi
      cases h2
      exact hs_Up.rf rfl
  case ldc_w | ldc2_w | goto =>
    obtain ⟨v, -, h2⟩ := hs_bind_inl hxi
    cases h2
    exact hs_Up.rf rfl
  case getfield k =>
    obtain ⟨v, -, h2⟩ := hs_bind_inl hxi
    unfold hs_gf at h2
    repeat' split at h2
    all_goals first | (cases h2; exact hs_Up.rf rfl) | cases h2
  case putfield k =>
    obtain ⟨v, -, h2⟩ := hs_bind_inl hxi
    unfold hs_pf at h2
    repeat' split at h2
    all_goals first | (cases h2; exact hs_Up.rf rfl) | cases h2
  case invokevirtual k =>
    obtain ⟨v, -, h2⟩ := hs_bind_inl hxi
    unfold hs_iv at h2
    repeat' split at h2
    all_goals first | (cases h2; exact hs_Up.rf rfl) | cases h2
  case invokespecial k =>
    obtain ⟨v, -, h2⟩ := hs_bind_inl hxi
    unfold hs_ip at h2
    repeat' split at h2
    all_goals first | (cases h2; exact hs_Up.rf rfl) | cases h2
  case invokestatic k =>
    obtain ⟨v, -, h2⟩ := hs_bind_inl hxi
    unfold hs_is hs_acp hs_bi at h2
    repeat' split at h2
    all_goals first | (cases h2; exact hs_Up.rf rfl) | cases h2
  case tableswitch df lo hi offs =>
    replace hxi : (match st with
    | .int x :: r => if x.toInt < lo ∨ hi < x.toInt then (hs_j pc df).bind fun t => hs_go t loc r h else (offs[(x.toInt - lo).toNat]?).bind fun o => (hs_j pc o).bind fun t => hs_go t loc r h
    | _ => none) = some (.inl t) := hxi
    split at hxi
    · split at hxi
      · obtain ⟨v, -, h2⟩ := hs_bind_inl hxi
        cases h2
        exact hs_Up.rf rfl
      · obtain ⟨v, -, h2⟩ := hs_bind_inl hxi
        obtain ⟨w, -, h3⟩ := hs_bind_inl h2
        cases h3
        exact hs_Up.rf rfl
    · cases hxi
  case lookupswitch df ps =>
    replace hxi : (match st with
    | .int x :: r => if (ps.toList.zip (ps.toList.drop 1)).all (fun (a, next) => a.1 < next.1) = true then (hs_j pc (Op.lookupswitch.offset ps.toList df x.toInt)).bind fun t => hs_go t loc r h else none
    | _ => none) = some (.inl t) := hxi
    split at hxi
    · split at hxi
      · obtain ⟨v, -, h2⟩ := hs_bind_inl hxi
        cases h2
        exact hs_Up.rf rfl
      · cases hxi
    · cases hxi
  case astore k | astore_n k =>
    replace hxi : hs_sa _ _ loc st h = some (.inl t) := hxi
    unfold hs_sa at hxi
    split at hxi
    · obtain ⟨v, -, h2⟩ := hs_bind_inl hxi
      cases h2
      exact hs_Up.rf rfl
    · cases hxi
  case istore k | istore_n k =>
    replace hxi : hs_si _ _ loc st h = some (.inl t) := hxi
    unfold hs_si at hxi
    split at hxi
    · obtain ⟨v, -, h2⟩ := hs_bind_inl hxi
      cases h2
      exact hs_Up.rf rfl
    · cases hxi
  case lstore k | lstore_n k =>
    replace hxi : hs_sl _ _ loc st h = some (.inl t) := hxi
    unfold hs_sl at hxi
    split at hxi
    · obtain ⟨v, -, h2⟩ := hs_bind_inl hxi
      cases h2
      exact hs_Up.rf rfl
    · cases hxi
  case iinc k c =>
    replace hxi : hs_inc k c pc loc st h = some (.inl t) := hxi
    unfold hs_inc at hxi
    split at hxi
    · obtain ⟨v, -, h2⟩ := hs_bind_inl hxi
      cases h2
      exact hs_Up.rf rfl
    · cases hxi
  all_goals first
    | (replace hxi : (none : Option hs_X) = some (.inl t) := hxi; cases hxi; done)
    | (simp only [hs_xi, hs_la, hs_li, hs_ll, hs_i2, hs_i2d, hs_i1, hs_l2, hs_l2d, hs_br, hs_al, hs_aal, hs_asi, hs_asb, hs_asl, hs_aas, hs_len, hs_ri, hs_rl, hs_rv, hs_re] at hxi
       (repeat' split at hxi) <;> first | (cases hxi; exact hs_Up.rf rfl) | cases hxi)
