/-! the abstract heap and the machine's: worlds, locals -/
def hs_cv (bs : Nat) (b : Nat × Nat) : Value → Value
  | .ref k => .ref (if k = 0 then b.1 else if k = 1 then b.2 else bs + k)
  | v => v
theorem hs_cv_cat (bs : Nat) (b : Nat × Nat) (v : Value) : (hs_cv bs b v).category = v.category := by cases v <;> rfl
theorem hs_cv_ref {bs k : Nat} {b : Nat × Nat} (h : 2 ≤ k) : hs_cv bs b (.ref k) = .ref (bs + k) := by
  show Value.ref (if k = 0 then b.1 else if k = 1 then b.2 else bs + k) = _
  rw [if_neg (by omega), if_neg (by omega)]
def hs_lr (bs : Nat) (b : Nat × Nat) (ls : Array Slot) (n : Nat) (loc : hs_L) : Prop := loc.length = n ∧ ls.size = n ∧ lv_wf ls ∧ ∀ (i : Nat) (v : Value), hs_get loc i = some v → ls[i]? = some (.val (hs_cv bs b v))
def hs_lv (bs : Nat) (b : Nat × Nat) (loc : hs_L) : List (Nat × Value) := (List.range loc.length).filterMap (fun i => (hs_get loc i).map (fun v => (i, hs_cv bs b v)))
theorem hs_get_lt : ∀ (l : hs_L) (i : Nat) (v : Value), hs_get l i = some v → i < l.length
  | [], _, _, h => by simp [hs_get] at h
  | _ :: _, 0, _, _ => Nat.zero_lt_succ _
  | _ :: l, n + 1, v, h => Nat.succ_lt_succ (hs_get_lt l n v h)
theorem hs_lr_has {bs : Nat} {b : Nat × Nat} {ls : Array Slot} {n : Nat} {loc : hs_L} (h : hs_lr bs b ls n loc) : lv_has ls n (hs_lv bs b loc) := by
  refine ⟨h.2.1, h.2.2.1, fun q hq => ?_⟩
  obtain ⟨i, -, hi⟩ := List.mem_filterMap.mp hq
  cases hg : hs_get loc i with
  | none => rw [hg] at hi; cases hi
  | some v => rw [hg] at hi; cases hi; exact h.2.2.2 i v hg
theorem hs_get_set : ∀ (l : hs_L) (i j : Nat) (x : Option Value), hs_get (l.set i x) j = if i = j then (if i < l.length then x else none) else hs_get l j
  | [], i, j, x => by
    show none = _
    by_cases h : i = j <;> simp [h, hs_get]
  | a :: l, 0, 0, x => by simp [hs_get]
  | a :: l, 0, j + 1, x => by simp [hs_get]
  | a :: l, i + 1, 0, x => by simp [hs_get]
  | a :: l, i + 1, j + 1, x => by
    show hs_get (l.set i x) j = _
    rw [hs_get_set l i j x]
    simp [hs_get]
theorem hs_kill_len (l : hs_L) (i : Nat) : (hs_kill l i).length = l.length := by
  cases i with
  | zero => rfl
  | succ i =>
    rw [hs_kill]
    split
    · split <;> simp
    · rfl
theorem hs_kill_get {l : hs_L} {i j : Nat} {v : Value} (h : hs_get (hs_kill l i) j = some v) : hs_get l j = some v ∧ ¬ (j + 1 = i ∧ v.category = 2) := by
  cases i with
  | zero => exact ⟨h, fun q => by omega⟩
  | succ i =>
    rw [hs_kill] at h
    split at h
    · rename_i w hw
      split at h
      · rw [hs_get_set] at h
        by_cases e : i = j
        · rw [if_pos e] at h
          split at h <;> cases h
        · rw [if_neg e] at h
          exact ⟨h, fun q => e (by omega)⟩
      · rename_i hc
        refine ⟨h, fun q => hc ?_⟩
        have e : j = i := by omega
        subst e
        rw [hw] at h
        cases h
        exact q.2
    · rename_i hw
      refine ⟨h, fun q => ?_⟩
      have e : j = i := by omega
      subst e
      rw [hw] at h
      cases h
theorem hs_put1 {bs n i : Nat} {b : Nat × Nat} {ls' : Array Slot} {loc loc' : hs_L} {v : Value} (hp : hs_put loc i v = some loc') (hc : v.category = 1) (hn : loc.length = n) :
    i < n ∧ (lv_has ls' n ((i, hs_cv bs b v) :: (hs_lv bs b loc).filter (fun q => !(q.1 == i) && !(q.1 + 1 == i && q.2.category == 2))) → hs_lr bs b ls' n loc') := by
  rw [hs_put, if_neg (by omega)] at hp
  split at hp
  · rename_i hi
    cases hp
    refine ⟨by omega, fun hh => ⟨by simp [hs_kill_len, hn], hh.1, hh.2.1, fun k w hk => ?_⟩⟩
    rw [hs_get_set] at hk
    by_cases e : i = k
    · subst e
      rw [if_pos rfl, hs_kill_len, if_pos hi] at hk
      cases hk
      exact hh.2.2 _ List.mem_cons_self
    · rw [if_neg e] at hk
      obtain ⟨h1, h2⟩ := hs_kill_get hk
      refine hh.2.2 (k, hs_cv bs b w) (List.mem_cons_of_mem _ (List.mem_filter.mpr ⟨List.mem_filterMap.mpr ⟨k, List.mem_range.mpr (hs_get_lt _ _ _ h1), by rw [h1]; rfl⟩, ?_⟩))
      simp only [hs_cv_cat, Bool.and_eq_true, Bool.not_eq_true', beq_eq_false_iff_ne, ne_eq, Bool.and_eq_false_iff]
      refine ⟨fun q => e q.symm, ?_⟩
      by_cases h3 : k + 1 = i
      · exact Or.inr fun h4 => h2 ⟨h3, h4⟩
      · exact Or.inl h3
  · cases hp
theorem hs_put2 {bs n i : Nat} {b : Nat × Nat} {ls' : Array Slot} {loc loc' : hs_L} {v : Value} (hp : hs_put loc i v = some loc') (hc : v.category = 2) (hn : loc.length = n) :
    i + 1 < n ∧ (lv_has ls' n ((i, hs_cv bs b v) :: (hs_lv bs b loc).filter (fun q => !(q.1 == i) && (!(q.1 == i + 1) && !(q.1 + 1 == i && q.2.category == 2)))) → hs_lr bs b ls' n loc') := by
  rw [hs_put, if_pos hc] at hp
  split at hp
  · rename_i hi
    cases hp
    refine ⟨by omega, fun hh => ⟨by simp [hs_kill_len, hn], hh.1, hh.2.1, fun k w hk => ?_⟩⟩
    rw [hs_get_set] at hk
    by_cases e1 : i + 1 = k
    · rw [if_pos e1] at hk
      split at hk <;> cases hk
    · rw [if_neg e1, hs_get_set] at hk
      by_cases e : i = k
      · subst e
        rw [if_pos rfl, hs_kill_len, if_pos (by omega)] at hk
        cases hk
        exact hh.2.2 _ List.mem_cons_self
      · rw [if_neg e] at hk
        obtain ⟨h1, h2⟩ := hs_kill_get hk
        refine hh.2.2 (k, hs_cv bs b w) (List.mem_cons_of_mem _ (List.mem_filter.mpr ⟨List.mem_filterMap.mpr ⟨k, List.mem_range.mpr (hs_get_lt _ _ _ h1), by rw [h1]; rfl⟩, ?_⟩))
        simp only [hs_cv_cat, Bool.and_eq_true, Bool.not_eq_true', beq_eq_false_iff_ne, ne_eq, Bool.and_eq_false_iff]
        refine ⟨fun q => e q.symm, fun q => e1 q.symm, ?_⟩
        by_cases h3 : k + 1 = i
        · exact Or.inr fun h4 => h2 ⟨h3, h4⟩
        · exact Or.inl h3
  · cases hp
/-! the world -/
def hs_rq (bs k : Nat) : Option Nat := if k = 0 then none else some (bs + k)
theorem hs_rq_ne {bs k : Nat} (h : k ≠ 0) : va_rf (hs_rq bs k) = .ref (bs + k) := by rw [hs_rq, if_neg h]; rfl
def hs_fv (bs ci : Nat) (I : Nat → Int32) (L : Nat → Int64) (R : Nat → Nat) (f : Nat) : Value := match hs_kd (hs_ty ci f) with
  | 2 => .long (L f)
  | 3 => va_rf (hs_rq bs (R f))
  | _ => .int (I f)
def hs_fs (bs ci : Nat) (I : Nat → Int32) (L : Nat → Int64) (R : Nat → Nat) : List Value := (List.range (hs_cw ci).2.2).map (hs_fv bs ci I L R)
def hs_arr (bs : Nat) (ty : FieldType) (n : Nat) (I : Nat → Int32) (L : Nat → Int64) (R : Nat → Nat) : vp_A := match ty with
  | .long => (n, .inr (.inl L))
  | .object _ => (n, .inr (.inr (.inr (.inr (fun j => hs_rq bs (R j))))))
  | _ => (n, .inl I)
def hs_ent (bs : Nat) (ac : FieldType → ClassId) (s : hs_S) (I : Nat → Int32) (L : Nat → Int64) (R : Nat → Nat) : va_E := match s with
  | .inl ci => .inr (ci, hs_fs bs ci I L R)
  | .inr q => .inl (ac q.1, hs_arr bs q.1 q.2 I L R)
/-- every cell of the abstract heap but the first stands in the machine's, at its address; the machine's heap ends with them -/
def hs_Sim (D : va_G) (bs : Nat) (ac : FieldType → ClassId) (h : hs_H) (H : Heap) : Prop :=
  H.size = bs + h.1.length ∧ (h.1[0]? = some (.inl 99) ∧ h.1[1]? = some (.inl 98)) ∧ ∀ (k : Nat) (s : hs_S), 2 ≤ k → h.1[k]? = some s → va_at D vwCl (bs + k, hs_ent bs ac s (h.2.1 k) (h.2.2.1 k) (h.2.2.2 k)) H
theorem hs_u_ne {α : Type} (m : Nat → Nat → α) (k f : Nat) (x : α) {i : Nat} (h : i ≠ k) : hs_u m k f x i = m i := by
  funext j
  simp [hs_u, h]
theorem hs_u_eq {α : Type} (m : Nat → Nat → α) (k f : Nat) (x : α) : hs_u m k f x k = fun j => if j = f then x else m k j := by
  funext j
  simp [hs_u]
theorem hs_z_ne {α : Type} (m : Nat → Nat → α) (k : Nat) (x : Nat → α) {i : Nat} (h : i ≠ k) : hs_z m k x i = m i := by
  funext j
  simp [hs_z, h]
theorem hs_z_eq {α : Type} (m : Nat → Nat → α) (k : Nat) (x : Nat → α) : hs_z m k x k = x := by
  funext j
  simp [hs_z]
theorem hs_k0 {h : hs_H} {k : Nat} {s : hs_S} (h0 : h.1[0]? = some (.inl 99) ∧ h.1[1]? = some (.inl 98)) (hk : h.1[k]? = some s) (hs : s ≠ .inl 99 ∧ s ≠ .inl 98) : 2 ≤ k := by
  rcases (show k = 0 ∨ k = 1 ∨ 2 ≤ k by omega) with e | e | e
  · subst e
    rw [h0.1] at hk
    exact absurd (Option.some.inj hk).symm hs.1
  · subst e
    rw [h0.2] at hk
    exact absurd (Option.some.inj hk).symm hs.2
  · exact e
/-- one cell changes -/
theorem hs_Sim.put {D : va_G} {bs : Nat} {ac : FieldType → ClassId} {h h' : hs_H} {H H' : Heap} {k : Nat} {s : hs_S} (hS : hs_Sim D bs ac h H) (h1 : h'.1 = h.1) (hk : h.1[k]? = some s) (hz : H'.size = H.size) (ho : ∀ q : Nat, q ≠ bs + k → H'[q]? = H[q]?)
    (hI : ∀ i, i ≠ k → h'.2.1 i = h.2.1 i) (hL : ∀ i, i ≠ k → h'.2.2.1 i = h.2.2.1 i) (hR : ∀ i, i ≠ k → h'.2.2.2 i = h.2.2.2 i) (ha : va_at D vwCl (bs + k, hs_ent bs ac s (h'.2.1 k) (h'.2.2.1 k) (h'.2.2.2 k)) H') : hs_Sim D bs ac h' H' := by
  refine ⟨by rw [hz, h1]; exact hS.1, by rw [h1]; exact hS.2.1, fun i s' hi hs' => ?_⟩
  rw [h1] at hs'
  by_cases e : i = k
  · subst e
    rw [hk] at hs'
    cases hs'
    exact ha
  · rw [hI i e, hL i e, hR i e]
    exact (hS.2.2 i s' hi hs').kept (ho _ (by show bs + i ≠ bs + k; omega))
/-- a cell comes -/
theorem hs_Sim.push {D : va_G} {bs : Nat} {ac : FieldType → ClassId} {h : hs_H} {H H' : Heap} {s : hs_S} (hS : hs_Sim D bs ac h H) (hz : H'.size = H.size + 1) (ho : ∀ q : Nat, q < H.size → H'[q]? = H[q]?) (ha : va_at D vwCl (bs + h.1.length, hs_ent bs ac s (fun _ => 0) (fun _ => 0) (fun _ => 0)) H') : hs_Sim D bs ac (hs_add s h) H' := by
  have hlen : 1 < h.1.length := (List.getElem?_eq_some_iff.mp hS.2.1.2).1
  refine ⟨by show H'.size = bs + (h.1 ++ [s]).length; rw [hz, hS.1, List.length_append]; simp; omega, ?_, fun i s' hi hs' => ?_⟩
  · show (h.1 ++ [s])[0]? = _ ∧ (h.1 ++ [s])[1]? = _
    rw [List.getElem?_append_left (by omega), List.getElem?_append_left hlen]
    exact hS.2.1
  · have hs2 : (h.1 ++ [s])[i]? = some s' := hs'
    by_cases e : i < h.1.length
    · rw [List.getElem?_append_left e] at hs2
      show va_at D vwCl (bs + i, hs_ent bs ac s' (hs_z h.2.1 h.1.length _ i) (hs_z h.2.2.1 h.1.length _ i) (hs_z h.2.2.2 h.1.length _ i)) H'
      rw [hs_z_ne _ _ _ (by omega), hs_z_ne _ _ _ (by omega), hs_z_ne _ _ _ (by omega)]
      exact (hS.2.2 i s' hi hs2).kept (ho _ (by show bs + i < H.size; rw [hS.1]; omega))
    · rw [List.getElem?_append_right (by omega)] at hs2
      have e2 : i - h.1.length < 1 := (List.getElem?_eq_some_iff.mp hs2).1
      have e3 : i = h.1.length := by omega
      subst e3
      simp at hs2
      subst hs2
      show va_at D vwCl (bs + h.1.length, hs_ent bs ac s (hs_z h.2.1 h.1.length _ h.1.length) (hs_z h.2.2.1 h.1.length _ h.1.length) (hs_z h.2.2.2 h.1.length _ h.1.length)) H'
      rw [hs_z_eq, hs_z_eq, hs_z_eq]
      exact ha
theorem hs_fs_at {bs ci f : Nat} {I : Nat → Int32} {L : Nat → Int64} {R : Nat → Nat} (hf : f < (hs_cw ci).2.2) : (hs_fs bs ci I L R)[f]? = some (hs_fv bs ci I L R f) := by
  rw [hs_fs, List.getElem?_map, List.getElem?_range hf]
  rfl
theorem hs_fs_set {bs ci f : Nat} {I I' : Nat → Int32} {L L' : Nat → Int64} {R R' : Nat → Nat} (h : ∀ g, g ≠ f → hs_fv bs ci I' L' R' g = hs_fv bs ci I L R g) (hf : f < (hs_cw ci).2.2) : ∀ j, j < (hs_cw ci).2.2 → updV (vp_V (hs_fs bs ci I L R)) f (hs_fv bs ci I' L' R' f) j = vp_V (hs_fs bs ci I' L' R') j := by
  intro j hj
  have e1 : vp_V (hs_fs bs ci I' L' R') j = hs_fv bs ci I' L' R' j := by simp [vp_V, hs_fs_at hj]
  rw [e1]
  by_cases e : j = f
  · subst e
    simp [updV]
  · simp [updV, e, vp_V, hs_fs_at hj, h j e]
