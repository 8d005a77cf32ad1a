/-! one step of the evaluator is one step of the machine: heap rows -/
theorem hs_ug {ci : Nat} (h : ci < 12) : ∀ w ∈ u_ws (hs_cw ci).1 (hs_cw ci).2.1 (hs_cw ci).2.2, w ∈ hs_g := fun w hw => by
  refine hs_ing (hs_in ci h w hw) ?_
  obtain ⟨k, -, rfl⟩ := List.mem_map.mp hw
  unfold u_lay
  split <;> rfl
theorem hs_P1 {D : va_G} {q : Nat × va_E} {H : Heap} (h : va_at D vwCl q H) : va_P D vwCl [q] H := fun k x hx => by
  have hk : k < 1 := (List.getElem?_eq_some_iff.mp hx).1
  rw [show k = 0 by omega] at hx
  cases hx
  exact h
theorem hs_kd0 {ty : FieldType} (h : hs_kd ty = 0) : ty = .int := by cases ty <;> simp [hs_kd] at h ⊢
theorem hs_kd1 {ty : FieldType} (h : hs_kd ty = 1) : ty = .boolean := by cases ty <;> simp [hs_kd] at h ⊢
theorem hs_kd2 {ty : FieldType} (h : hs_kd ty = 2) : ty = .long := by cases ty <;> simp [hs_kd] at h ⊢
theorem hs_kd3 {ty : FieldType} (h : hs_kd ty = 3) (a : Nat) : narrow ty (.ref a) = .ref a ∧ fits ty (.ref a) = true := by cases ty <;> first | exact ⟨rfl, rfl⟩ | simp [hs_kd] at h
theorem hs_fv_i {bs ci f : Nat} {I : Nat → Int32} {L : Nat → Int64} {R : Nat → Nat} (h : hs_kd (hs_ty ci f) = 0 ∨ hs_kd (hs_ty ci f) = 1) : hs_fv bs ci I L R f = .int (I f) := by
  unfold hs_fv
  rcases h with h | h <;> rw [h] <;> rfl
theorem hs_fv_l {bs ci f : Nat} {I : Nat → Int32} {L : Nat → Int64} {R : Nat → Nat} (h : hs_kd (hs_ty ci f) = 2) : hs_fv bs ci I L R f = .long (L f) := by
  unfold hs_fv
  rw [h]; rfl
theorem hs_fv_r {bs ci f : Nat} {I : Nat → Int32} {L : Nat → Int64} {R : Nat → Nat} (h : hs_kd (hs_ty ci f) = 3) (hn : 2 ≤ R f) : hs_fv bs ci I L R f = .ref (bs + R f) := by
  unfold hs_fv
  rw [h]
  exact hs_rq_ne (by omega)
section HR
variable {p : Program} {l : Launch} {e : Env} {R : Room} {s : State} {m : MethodId} {args : Array Value} {below : List Frame} {meth : Method} {c : Code} {H : Heap} {locs : List Loc} {cells slots : Nat} {Q : State → Prop}
variable {D : va_G} {bs : Nat} {b : Nat × Nat} {ac : FieldType → ClassId} {scr : List Int32} {j pc : Nat} {ls : Array Slot} {rest : List Value} {h : hs_H}
theorem hs_wget (hC : hs_Cx p s m args meth c D bs b ac scr j) (hSim : hs_Sim D bs ac h H) {idx k ci f kd fin : Nat} (hf : hs_fld (hs_own j) idx = some (ci, f, kd, fin)) (hk : h.1[k]? = some (.inl ci)) (hd : decode (hs_code j) pc = .ok (.getfield idx, 3))
    (K : W p l e R s m args below meth c H locs cells slots Q (F0 m (pc + 3) ls (hs_fv bs ci (h.2.1 k) (h.2.2.1 k) (h.2.2.2 k) f :: rest))) : W p l e R s m args below meth c H locs cells slots Q (F0 m pc ls (hs_cv bs b (.ref k) :: rest)) := by
  obtain ⟨hx, hb, hml, hown, hts, hKn, -, -, -⟩ := hC
  obtain ⟨h1, h2, h3, h4, h5, h6, h7, h8⟩ := hs_fld_ok hf
  have hk0 : 2 ≤ k := hs_k0 hSim.2.1 hk ⟨fun e => (by cases e; omega), fun e => (by cases e; omega)⟩
  rw [hs_cv_ref hk0]
  exact va_get (D := D) (cl := vwCl) (ci := ci) (C := (hs_cw ci).1) (T := (hs_cw ci).2.1) (N := (hs_cw ci).2.2) hx hb hts (hs_ug h1) hown hKn.1 (hs_P1 (hSim.2.2 k _ hk0 hk)) 0 rfl (hs_cwg ci h1) f h2 (hts _ h3) (fun _ q => q) (hs_fs_at h2) hd K
theorem hs_wput (hC : hs_Cx p s m args meth c D bs b ac scr j) (hSim : hs_Sim D bs ac h H) {idx k ci f kd fin : Nat} (hf : hs_fld (hs_own j) idx = some (ci, f, kd, fin)) (hk : h.1[k]? = some (.inl ci)) (hfin : fin = 0 ∨ (hs_kind j = 3 ∧ hs_own j = ci)) {v : Value} (hn : narrow (hs_ty ci f) v = v) (hfit : fits (hs_ty ci f) v = true) (hd : decode (hs_code j) pc = .ok (.putfield idx, 3))
    (K : ∀ (H' : Heap) (x : Nat), t_OB (bs + k) (D.1 ci) (hs_cw ci).2.2 (D.2 ci) H' (updV (vp_V (hs_fs bs ci (h.2.1 k) (h.2.2.1 k) (h.2.2.2 k))) f v) → H'.size = H.size → (∀ q : Nat, q ≠ bs + k → H'[q]? = H[q]?) → W p l e R s m args below meth c H' (locs ++ [⟨bs + k, x⟩]) cells slots Q (F0 m (pc + 3) ls rest)) : W p l e R s m args below meth c H locs cells slots Q (F0 m pc ls (v :: hs_cv bs b (.ref k) :: rest)) := by
  obtain ⟨hx, hb, hml, hown, hts, hKn, hini, -, -⟩ := hC
  obtain ⟨h1, h2, h3, h4, h5, h6, h7, h8⟩ := hs_fld_ok hf
  have hk0 : 2 ≤ k := hs_k0 hSim.2.1 hk ⟨fun e => (by cases e; omega), fun e => (by cases e; omega)⟩
  rw [hs_cv_ref hk0]
  have hap := va_apart (own := hs_cn (hs_own j)) (D := D) (cl := vwCl) hts (hs_ug h1) (hs_ty ci) (hs_tyok ci h1) (hs_nm ci h1) hKn.1 (hs_cwg ci h1)
  obtain ⟨r, hr, cell, q1, q2, q3, q4⟩ := hSim.2.2 k _ hk0 hk
  have hr2 : r = hs_cw ci := Option.some.inj (hr.symm.trans (hs_cwg ci h1))
  subst hr2
  obtain ⟨hS, hfc, kC, hkC, hkind⟩ := hKn.1.1 ci _ (hs_cwg ci h1)
  obtain ⟨cf, kf, fi, fd, hi, hsl⟩ := hS f h2
  have hst := (u_facts hfc hkC (u_lays hts (hs_ug h1) h2) hi).1
  have hlay := hts _ (hs_ug h1 _ (u_in_lay h2))
  by_cases hfl : ((hs_cw ci).2.1 f).2.2.2 = true
  · unfold u_lay at hlay
    rw [if_pos hfl] at hlay
    have hf1 : fin = 1 := by rw [h6] at hfl; exact beq_iff_eq.mp hfl
    obtain ⟨hk3, how⟩ : hs_kind j = 3 ∧ hs_own j = ci := by
      rcases hfin with q | q
      · omega
      · exact q
    have hcf : m.cls = cf := by
      obtain ⟨_, _, c', _, _, _, -, -, hf', -, -, -, hown2, -⟩ := Cond.laysFinal_spec hlay
      have e1 : c' = cf := by have := hi.symm.trans hf'; simp at this; exact this.1.symm
      rw [h7, ← h8, ← how] at hown2
      rw [← e1]; exact Option.some.inj (hown.symm.trans hown2)
    have h9 := u_fits hfc hkC hkind (Or.inr hlay) hi (hs_tyok ci h1 f h2) hn hfit
    refine W.putFinK hx hb hown (hts _ h3) hi hst hcf (hini hk3) (by rw [q2]; exact h9) q1 q3 (by rw [hsl]; exact k2_hasslot (q4 f h2)) rfl rfl hd fun H' e1 e2 e3 => ?_
    rw [hsl] at e1
    exact K H' _ ⟨_, e1, q2, q3, t_set q4 hap h2 v⟩ e2 e3
  · have hfl2 : ((hs_cw ci).2.1 f).2.2.2 = false := by simpa using hfl
    unfold u_lay at hlay
    rw [if_neg hfl] at hlay
    have h9 := u_store hfc hkC hkind hlay hi (hs_tyok ci h1 f h2) hn hfit
    refine W.putK hx hb (f := fd) ⟨hown, hts _ h3, ⟨_, _, _, hi⟩, hst⟩ (by rw [q2]; exact h9) q1 q3 (by rw [hsl]; exact k2_hasslot (q4 f h2)) rfl rfl hd fun H' e1 e2 e3 => ?_
    rw [hsl] at e1
    exact K H' _ ⟨_, e1, q2, q3, t_set q4 hap h2 v⟩ e2 e3
/-- a field of int kind is set -/
theorem hs_SimI {D : va_G} {bs : Nat} {ac : FieldType → ClassId} {h : hs_H} {H H' : Heap} {k ci f : Nat} {x : Int32} (hSim : hs_Sim D bs ac h H) (hci : ci < 12) (hk : h.1[k]? = some (.inl ci)) (hf : f < (hs_cw ci).2.2) (hkd : hs_kd (hs_ty ci f) = 0 ∨ hs_kd (hs_ty ci f) = 1)
    (ho : t_OB (bs + k) (D.1 ci) (hs_cw ci).2.2 (D.2 ci) H' (updV (vp_V (hs_fs bs ci (h.2.1 k) (h.2.2.1 k) (h.2.2.2 k))) f (.int x))) (hz : H'.size = H.size) (oq : ∀ q : Nat, q ≠ bs + k → H'[q]? = H[q]?) : hs_Sim D bs ac (h.1, hs_u h.2.1 k f x, h.2.2.1, h.2.2.2) H' := by
  refine hSim.put rfl hk hz oq (fun i hi => hs_u_ne _ _ _ _ hi) (fun _ _ => rfl) (fun _ _ => rfl) ⟨_, hs_cwg ci hci, t_OB.to ho ?_⟩
  have hv : (Value.int x) = hs_fv bs ci (hs_u h.2.1 k f x k) (h.2.2.1 k) (h.2.2.2 k) f := by
    rw [hs_fv_i hkd, hs_u_eq]
    simp
  rw [hv]
  refine hs_fs_set (fun g hg => ?_) hf
  unfold hs_fv
  split <;> simp [hs_u_eq, hg]
theorem hs_SimL {D : va_G} {bs : Nat} {ac : FieldType → ClassId} {h : hs_H} {H H' : Heap} {k ci f : Nat} {x : Int64} (hSim : hs_Sim D bs ac h H) (hci : ci < 12) (hk : h.1[k]? = some (.inl ci)) (hf : f < (hs_cw ci).2.2) (hkd : hs_kd (hs_ty ci f) = 2)
    (ho : t_OB (bs + k) (D.1 ci) (hs_cw ci).2.2 (D.2 ci) H' (updV (vp_V (hs_fs bs ci (h.2.1 k) (h.2.2.1 k) (h.2.2.2 k))) f (.long x))) (hz : H'.size = H.size) (oq : ∀ q : Nat, q ≠ bs + k → H'[q]? = H[q]?) : hs_Sim D bs ac (h.1, h.2.1, hs_u h.2.2.1 k f x, h.2.2.2) H' := by
  refine hSim.put rfl hk hz oq (fun _ _ => rfl) (fun i hi => hs_u_ne _ _ _ _ hi) (fun _ _ => rfl) ⟨_, hs_cwg ci hci, t_OB.to ho ?_⟩
  have hv : (Value.long x) = hs_fv bs ci (h.2.1 k) (hs_u h.2.2.1 k f x k) (h.2.2.2 k) f := by
    rw [hs_fv_l hkd, hs_u_eq]
    simp
  rw [hv]
  refine hs_fs_set (fun g hg => ?_) hf
  unfold hs_fv
  split <;> simp [hs_u_eq, hg]
theorem hs_SimR {D : va_G} {bs : Nat} {ac : FieldType → ClassId} {h : hs_H} {H H' : Heap} {k ci f x : Nat} (hSim : hs_Sim D bs ac h H) (hci : ci < 12) (hk : h.1[k]? = some (.inl ci)) (hf : f < (hs_cw ci).2.2) (hkd : hs_kd (hs_ty ci f) = 3) (hx : 2 ≤ x)
    (ho : t_OB (bs + k) (D.1 ci) (hs_cw ci).2.2 (D.2 ci) H' (updV (vp_V (hs_fs bs ci (h.2.1 k) (h.2.2.1 k) (h.2.2.2 k))) f (.ref (bs + x)))) (hz : H'.size = H.size) (oq : ∀ q : Nat, q ≠ bs + k → H'[q]? = H[q]?) : hs_Sim D bs ac (h.1, h.2.1, h.2.2.1, hs_u h.2.2.2 k f x) H' := by
  refine hSim.put rfl hk hz oq (fun _ _ => rfl) (fun _ _ => rfl) (fun i hi => hs_u_ne _ _ _ _ hi) ⟨_, hs_cwg ci hci, t_OB.to ho ?_⟩
  have hv : (Value.ref (bs + x)) = hs_fv bs ci (h.2.1 k) (h.2.2.1 k) (hs_u h.2.2.2 k f x k) f := by
    rw [hs_fv_r hkd (by rw [hs_u_eq]; simpa using hx), hs_u_eq]
    simp
  rw [hv]
  refine hs_fs_set (fun g hg => ?_) hf
  unfold hs_fv
  split <;> simp [hs_u_eq, hg]
/-! arrays -/
theorem hs_m6 {D : va_G} {ac : FieldType → ClassId} {s : State} (hKn : hs_Kn D ac s) (t : Nat) {ty : FieldType} (h : hs_at6[t]? = some ty) : (hs_at6.map fun ty => (ac ty, ty))[t]? = some (ac ty, ty) := by rw [List.getElem?_map, h]; rfl
theorem hs_wiald (hC : hs_Cx p s m args meth c D bs b ac scr j) (hSim : hs_Sim D bs ac h H) {k n : Nat} {i : Int32} (hk : h.1[k]? = some (.inr (.int, n))) (hin : hs_ib i n = true) (hd : decode (hs_code j) pc = .ok (.iaload, 1))
    (K : W p l e R s m args below meth c H locs cells slots Q (F0 m (pc + 1) ls (.int (h.2.1 k i.toNatClampNeg) :: rest))) : W p l e R s m args below meth c H locs cells slots Q (F0 m pc ls (.int i :: hs_cv bs b (.ref k) :: rest)) := by
  obtain ⟨hx, hb, hml, hown, hts, hKn, -, -, -⟩ := hC
  have hk0 : 2 ≤ k := hs_k0 hSim.2.1 hk ⟨fun e => (by cases e), fun e => (by cases e)⟩
  rw [hs_cv_ref hk0]
  exact va_iald hx hb hKn.1 (hs_P1 (hSim.2.2 k _ hk0 hk)) 0 0 rfl (hs_m6 hKn 0 rfl) (hs_ib_ok hin) hd K
theorem hs_wbald (hC : hs_Cx p s m args meth c D bs b ac scr j) (hSim : hs_Sim D bs ac h H) {k n : Nat} {i : Int32} (hk : h.1[k]? = some (.inr (.byte, n))) (hin : hs_ib i n = true) (hd : decode (hs_code j) pc = .ok (.baload, 1))
    (K : W p l e R s m args below meth c H locs cells slots Q (F0 m (pc + 1) ls (.int (h.2.1 k i.toNatClampNeg) :: rest))) : W p l e R s m args below meth c H locs cells slots Q (F0 m pc ls (.int i :: hs_cv bs b (.ref k) :: rest)) := by
  obtain ⟨hx, hb, hml, hown, hts, hKn, -, -, -⟩ := hC
  have hk0 : 2 ≤ k := hs_k0 hSim.2.1 hk ⟨fun e => (by cases e), fun e => (by cases e)⟩
  rw [hs_cv_ref hk0]
  exact va_bald hx hb hKn.1 (hs_P1 (hSim.2.2 k _ hk0 hk)) 0 2 rfl (hs_m6 hKn 2 rfl) (hs_ib_ok hin) hd K
theorem hs_wlald (hC : hs_Cx p s m args meth c D bs b ac scr j) (hSim : hs_Sim D bs ac h H) {k n : Nat} {i : Int32} (hk : h.1[k]? = some (.inr (.long, n))) (hin : hs_ib i n = true) (hd : decode (hs_code j) pc = .ok (.laload, 1))
    (K : W p l e R s m args below meth c H locs cells slots Q (F0 m (pc + 1) ls (.long (h.2.2.1 k i.toNatClampNeg) :: rest))) : W p l e R s m args below meth c H locs cells slots Q (F0 m pc ls (.int i :: hs_cv bs b (.ref k) :: rest)) := by
  obtain ⟨hx, hb, hml, hown, hts, hKn, -, -, -⟩ := hC
  have hk0 : 2 ≤ k := hs_k0 hSim.2.1 hk ⟨fun e => (by cases e), fun e => (by cases e)⟩
  rw [hs_cv_ref hk0]
  exact va_lald hx hb hKn.1 (hs_P1 (hSim.2.2 k _ hk0 hk)) 0 1 rfl (hs_m6 hKn 1 rfl) (hs_ib_ok hin) hd K
theorem hs_obj {D : va_G} {ac : FieldType → ClassId} {h : hs_H} {H : Heap} {s : State} {bs k n : Nat} {C : String} (hSim : hs_Sim D bs ac h H) (hk : h.1[k]? = some (.inr (.object C, n))) : H[bs + k]? = some (vp_cell (ac (.object C)) (n, .inr (.inr (.inr (.inr (fun j => hs_rq bs (h.2.2.2 k j))))))) :=
  hSim.2.2 k _ (hs_k0 hSim.2.1 hk ⟨fun e => (by cases e), fun e => (by cases e)⟩) hk
theorem hs_wiast (hC : hs_Cx p s m args meth c D bs b ac scr j) (hSim : hs_Sim D bs ac h H) {k n : Nat} {i x : Int32} (hk : h.1[k]? = some (.inr (.int, n))) (hin : hs_ib i n = true) (hd : decode (hs_code j) pc = .ok (.iastore, 1))
    (K : ∀ (H' : Heap) (y : Nat), hs_Sim D bs ac (h.1, hs_u h.2.1 k i.toNatClampNeg x, h.2.2.1, h.2.2.2) H' → H'.size = H.size → (∀ q : Nat, q ≠ bs + k → H'[q]? = H[q]?) → W p l e R s m args below meth c H' (locs ++ [⟨bs + k, y⟩]) cells slots Q (F0 m (pc + 1) ls rest)) : W p l e R s m args below meth c H locs cells slots Q (F0 m pc ls (.int x :: .int i :: hs_cv bs b (.ref k) :: rest)) := by
  obtain ⟨hx, hb, hml, hown, hts, hKn, -, -, -⟩ := hC
  have hk0 : 2 ≤ k := hs_k0 hSim.2.1 hk ⟨fun e => (by cases e), fun e => (by cases e)⟩
  rw [hs_cv_ref hk0]
  refine W.iast hx hb (hSim.2.2 k _ hk0 hk) ((hKn.arr (ty := .int) (by simp [hs_at6])).1 n (fun j => .int (h.2.1 k j))) (fun q => by cases q) (by show ¬ (i < 0 ∨ (arrV _ _ _).slots.size ≤ _); rw [arrV_size]; exact hs_ib_ok hin) rfl rfl hd fun H' e1 e2 e3 => ?_
  refine K H' _ (hSim.put rfl hk e2 e3 (fun i hi => hs_u_ne _ _ _ _ hi) (fun _ _ => rfl) (fun _ _ => rfl) ?_) e2 e3
  show H'[bs + k]? = some (vp_cell _ (n, .inl _))
  rw [e1]
  show some ((vp_cell (ac .int) (n, .inl (h.2.1 k))).setSlot _ _) = _
  rw [vp_cell_i, vp_cell_i, arrV_store]
  congr 2
  funext q
  by_cases hq : q = i.toNatClampNeg
  · subst hq
    simp [updV, hs_u_eq]
  · simp [updV, hs_u_eq, hq]
theorem hs_wbast (hC : hs_Cx p s m args meth c D bs b ac scr j) (hSim : hs_Sim D bs ac h H) {k n : Nat} {i x : Int32} (hk : h.1[k]? = some (.inr (.byte, n))) (hin : hs_ib i n = true) (hd : decode (hs_code j) pc = .ok (.bastore, 1))
    (K : ∀ (H' : Heap) (y : Nat), hs_Sim D bs ac (h.1, hs_u h.2.1 k i.toNatClampNeg (vp_nar .byte x), h.2.2.1, h.2.2.2) H' → H'.size = H.size → (∀ q : Nat, q ≠ bs + k → H'[q]? = H[q]?) → W p l e R s m args below meth c H' (locs ++ [⟨bs + k, y⟩]) cells slots Q (F0 m (pc + 1) ls rest)) : W p l e R s m args below meth c H locs cells slots Q (F0 m pc ls (.int x :: .int i :: hs_cv bs b (.ref k) :: rest)) := by
  obtain ⟨hx, hb, hml, hown, hts, hKn, -, -, -⟩ := hC
  have hk0 : 2 ≤ k := hs_k0 hSim.2.1 hk ⟨fun e => (by cases e), fun e => (by cases e)⟩
  rw [hs_cv_ref hk0]
  refine W.bast hx hb (hSim.2.2 k _ hk0 hk) ((hKn.arr (ty := .byte) (by simp [hs_at6])).1 n (fun j => .int (h.2.1 k j))) (fun q => by cases q) (by show ¬ (i < 0 ∨ (arrV _ _ _).slots.size ≤ _); rw [arrV_size]; exact hs_ib_ok hin) rfl rfl hd fun H' e1 e2 e3 => ?_
  refine K H' _ (hSim.put rfl hk e2 e3 (fun i hi => hs_u_ne _ _ _ _ hi) (fun _ _ => rfl) (fun _ _ => rfl) ?_) e2 e3
  show H'[bs + k]? = some (vp_cell _ (n, .inl _))
  rw [e1]
  show some ((vp_cell (ac .byte) (n, .inl (h.2.1 k))).setSlot _ _) = _
  rw [vp_cell_i, vp_cell_i, arrV_store]
  congr 2
  funext q
  by_cases hq : q = i.toNatClampNeg
  · subst hq
    simp [updV, hs_u_eq, vp_nar, narrow]
  · simp [updV, hs_u_eq, hq]
theorem hs_wlast (hC : hs_Cx p s m args meth c D bs b ac scr j) (hSim : hs_Sim D bs ac h H) {k n : Nat} {i : Int32} {x : Int64} (hk : h.1[k]? = some (.inr (.long, n))) (hin : hs_ib i n = true) (hd : decode (hs_code j) pc = .ok (.lastore, 1))
    (K : ∀ (H' : Heap) (y : Nat), hs_Sim D bs ac (h.1, h.2.1, hs_u h.2.2.1 k i.toNatClampNeg x, h.2.2.2) H' → H'.size = H.size → (∀ q : Nat, q ≠ bs + k → H'[q]? = H[q]?) → W p l e R s m args below meth c H' (locs ++ [⟨bs + k, y⟩]) cells slots Q (F0 m (pc + 1) ls rest)) : W p l e R s m args below meth c H locs cells slots Q (F0 m pc ls (.long x :: .int i :: hs_cv bs b (.ref k) :: rest)) := by
  obtain ⟨hx, hb, hml, hown, hts, hKn, -, -, -⟩ := hC
  have hk0 : 2 ≤ k := hs_k0 hSim.2.1 hk ⟨fun e => (by cases e), fun e => (by cases e)⟩
  rw [hs_cv_ref hk0]
  refine W.last hx hb (hSim.2.2 k _ hk0 hk) ((hKn.arr (ty := .long) (by simp [hs_at6])).1 n (fun j => .long (h.2.2.1 k j))) (fun q => by cases q) (by show ¬ (i < 0 ∨ (arrV _ _ _).slots.size ≤ _); rw [arrV_size]; exact hs_ib_ok hin) rfl rfl hd fun H' e1 e2 e3 => ?_
  refine K H' _ (hSim.put rfl hk e2 e3 (fun _ _ => rfl) (fun i hi => hs_u_ne _ _ _ _ hi) (fun _ _ => rfl) ?_) e2 e3
  show H'[bs + k]? = some (vp_cell _ (n, .inr (.inl _)))
  rw [e1]
  show some ((vp_cell (ac .long) (n, .inr (.inl (h.2.2.1 k)))).setSlot _ _) = _
  rw [vp_cell_l, vp_cell_l, arrV_store]
  congr 2
  funext q
  by_cases hq : q = i.toNatClampNeg
  · subst hq
    simp [updV, hs_u_eq]
  · simp [updV, hs_u_eq, hq]
theorem hs_waald (hC : hs_Cx p s m args meth c D bs b ac scr j) (hSim : hs_Sim D bs ac h H) {k n ci : Nat} {i : Int32} (hci : ci = 9 ∨ ci = 4 ∨ ci = 5) (hk : h.1[k]? = some (.inr (.object (hs_cn ci), n))) (hin : hs_ib i n = true) (hr : 2 ≤ h.2.2.2 k i.toNatClampNeg) (hd : decode (hs_code j) pc = .ok (.aaload, 1))
    (K : W p l e R s m args below meth c H locs cells slots Q (F0 m (pc + 1) ls (.ref (bs + h.2.2.2 k i.toNatClampNeg) :: rest))) : W p l e R s m args below meth c H locs cells slots Q (F0 m pc ls (.int i :: hs_cv bs b (.ref k) :: rest)) := by
  obtain ⟨hx, hb, hml, hown, hts, hKn, -, -, -⟩ := hC
  have hk0 : 2 ≤ k := hs_k0 hSim.2.1 hk ⟨fun e => (by cases e), fun e => (by cases e)⟩
  rw [hs_cv_ref hk0]
  have K2 : W p l e R s m args below meth c H locs cells slots Q (F0 m (pc + 1) ls (va_rf (hs_rq bs (h.2.2.2 k i.toNatClampNeg)) :: rest)) := by rw [hs_rq_ne (by omega)]; exact K
  rcases hci with rfl | rfl | rfl
  · exact va_aldq (C := hs_cn 9) hx hb hKn.1 (hs_P1 (hSim.2.2 k _ hk0 hk)) 0 3 rfl (hs_m6 hKn 3 rfl) (hs_ib_ok hin) hd K2
  · exact va_aldq (C := hs_cn 4) hx hb hKn.1 (hs_P1 (hSim.2.2 k _ hk0 hk)) 0 4 rfl (hs_m6 hKn 4 rfl) (hs_ib_ok hin) hd K2
  · exact va_aldq (C := hs_cn 5) hx hb hKn.1 (hs_P1 (hSim.2.2 k _ hk0 hk)) 0 5 rfl (hs_m6 hKn 5 rfl) (hs_ib_ok hin) hd K2
theorem hs_o6 {ci : Nat} (h : ci = 9 ∨ ci = 4 ∨ ci = 5) : FieldType.object (hs_cn ci) ∈ hs_at6 := by
  rcases h with rfl | rfl | rfl <;> simp [hs_at6]
theorem hs_waast (hC : hs_Cx p s m args meth c D bs b ac scr j) (hSim : hs_Sim D bs ac h H) {k n ci a : Nat} {i : Int32} (hci : ci = 9 ∨ ci = 4 ∨ ci = 5) (hk : h.1[k]? = some (.inr (.object (hs_cn ci), n))) (ha : h.1[a]? = some (.inl ci)) (hin : hs_ib i n = true) (hd : decode (hs_code j) pc = .ok (.aastore, 1))
    (K : ∀ (H' : Heap) (y : Nat), hs_Sim D bs ac (h.1, h.2.1, h.2.2.1, hs_u h.2.2.2 k i.toNatClampNeg a) H' → H'.size = H.size → (∀ q : Nat, q ≠ bs + k → H'[q]? = H[q]?) → W p l e R s m args below meth c H' (locs ++ [⟨bs + k, y⟩]) cells slots Q (F0 m (pc + 1) ls rest)) : W p l e R s m args below meth c H locs cells slots Q (F0 m pc ls (hs_cv bs b (.ref a) :: .int i :: hs_cv bs b (.ref k) :: rest)) := by
  obtain ⟨hx, hb, hml, hown, hts, hKn, -, -, -⟩ := hC
  have hk0 : 2 ≤ k := hs_k0 hSim.2.1 hk ⟨fun e => (by cases e), fun e => (by cases e)⟩
  have h12 : ci < 12 := by omega
  have ha0 : 2 ≤ a := hs_k0 hSim.2.1 ha ⟨fun e => (by cases e; omega), fun e => (by cases e; omega)⟩
  rw [hs_cv_ref hk0, hs_cv_ref ha0]
  have hlt := hs_ib_lt hin
  have h0 : ¬ i < 0 := fun q => hs_ib_ok hin (Or.inl q)
  obtain ⟨r', hr', cellV, g1, g2, g3, -⟩ := hSim.2.2 a _ ha0 ha
  have hcls := (hKn.1.1 ci _ (hs_cwg ci h12)).2
  obtain ⟨kA, comp, k1, k2, k3, -⟩ := (hKn.arr (hs_o6 hci)).2
  have hcomp : comp = D.1 ci := by
    rw [hs_cwn ci h12] at k3
    exact Option.some.inj (k3.symm.trans hcls.1)
  subst hcomp
  obtain ⟨kC, hkC, -⟩ := id hcls.2
  refine W.aast hx hb (hSim.2.2 k _ hk0 hk) (fun q h => by cases h) (fun h => by cases h) k1 k2 rfl hkC ⟨h0, by show _ < (arrV _ _ _).slots.size; rw [arrV_size]; exact hlt⟩ g1 (fun q h => by rw [g3] at h; cases h) (by rw [g2]; exact hkC) (by rw [g2]; exact va_assign hcls) rfl rfl hd fun H' e1 e2 e3 => ?_
  refine K H' _ (hSim.put rfl hk e2 e3 (fun _ _ => rfl) (fun _ _ => rfl) (fun i hi => hs_u_ne _ _ _ _ hi) ?_) e2 e3
  show H'[bs + k]? = some (vp_cell _ (n, .inr (.inr (.inr (.inr _)))))
  rw [e1]
  show some ((vp_cell (ac (.object (hs_cn ci))) (n, .inr (.inr (.inr (.inr (fun j => hs_rq bs (h.2.2.2 k j))))))).setSlot _ _) = _
  rw [vp_cell_q, vp_cell_q, arrV_store]
  congr 2
  funext q
  by_cases hq : q = i.toNatClampNeg
  · subst hq
    simp [updV, hs_u_eq, hs_rq_ne (show a ≠ 0 by omega)]
  · simp [updV, hs_u_eq, hq]
theorem hs_wnew (hC : hs_Cx p s m args meth c D bs b ac scr j) (hSim : hs_Sim D bs ac h H) {idx ci : Nat} (hn : hs_new (hs_own j) idx = some ci) (hcells : cells + 1 ≤ R.cells) (hslots : slots + (hs_cw ci).2.2 ≤ R.slots) (hd : decode (hs_code j) pc = .ok (.new idx, 3))
    (K : ∀ (H' : Heap), hs_Sim D bs ac (hs_add (.inl ci) h) H' → H'.size = H.size + 1 → (∀ q : Nat, q < H.size → H'[q]? = H[q]?) → W p l e R s m args below meth c H' locs (cells + 1) (slots + (hs_cw ci).2.2) Q (F0 m (pc + 3) ls (.ref (bs + h.1.length) :: rest))) : W p l e R s m args below meth c H locs cells slots Q (F0 m pc ls rest) := by
  obtain ⟨hx, hb, hml, hown, hts, hKn, -, -, -⟩ := hC
  obtain ⟨h1, h2⟩ := hs_new_ok hn
  have hKc := hKn.1.1 ci _ (hs_cwg ci h1)
  have hfc := hKc.2.1
  rw [← hs_cwn ci h1] at hfc
  refine W.newcK hx hb hown (hts _ h2) (hts _ (hs_ing (hs_nl_i2 ci h1) rfl)) (hts _ (hs_ing (hs_ci_in ci (by omega)) rfl)) rfl hd hcells hslots hfc hSim.1 fun H' kC hkC e1 z1 o1 => ?_
  refine K H' (hSim.push (by rw [z1, hSim.1]) (fun q hq => o1 q (by rw [← hSim.1]; exact hq)) ⟨_, hs_cwg ci h1, ?_⟩) (by rw [z1, hSim.1]) (fun q hq => o1 q (by rw [← hSim.1]; exact hq))
  refine t_OB.to (u_born (hs_ty ci) hts (hs_ug h1) hKc hkC e1 (hs_tyok ci h1)) (fun k hk => ?_)
  have e2 : vp_V (hs_fs bs ci (fun _ => 0) (fun _ => 0) (fun _ => 0)) k = hs_fv bs ci (fun _ => 0) (fun _ => 0) (fun _ => 0) k := by simp [vp_V, hs_fs_at hk]
  rw [e2]
  have h3 : ∀ ci, ci < 12 → ∀ k, k < (hs_cw ci).2.2 → hs_kd (hs_ty ci k) < 4 := by decide +kernel
  have h4 := h3 ci h1 k hk
  rcases (show hs_kd (hs_ty ci k) = 0 ∨ hs_kd (hs_ty ci k) = 1 ∨ hs_kd (hs_ty ci k) = 2 ∨ hs_kd (hs_ty ci k) = 3 by omega) with h5 | h5 | h5 | h5
  · rw [hs_fv_i (Or.inl h5), hs_kd0 h5]; rfl
  · rw [hs_fv_i (Or.inr h5), hs_kd1 h5]; rfl
  · rw [hs_fv_l h5, hs_kd2 h5]; rfl
  · unfold hs_fv
    rw [h5]
    show _ = va_rf (hs_rq bs 0)
    generalize hs_ty ci k = ty at h5
    cases ty <;> first | rfl | simp [hs_kd] at h5
theorem hs_wna (hC : hs_Cx p s m args meth c D bs b ac scr j) (hSim : hs_Sim D bs ac h H) {at_ : ArrayType} {ty : FieldType} (hty : newarray.typeOf at_ = ty) (h3 : ty = .int ∨ ty = .long ∨ ty = .byte) {n : Int32} (hn : ¬ n < 0) (hle : n.toNatClampNeg ≤ 100000) (hcells : cells + 1 ≤ R.cells) (hslots : slots + n.toNatClampNeg ≤ R.slots) (hac : (Cond.arrayClass ty).before args s = true) (hd : decode (hs_code j) pc = .ok (.newarray at_, 2))
    (K : ∀ (H' : Heap), hs_Sim D bs ac (hs_add (.inr (ty, n.toNatClampNeg)) h) H' → H'.size = H.size + 1 → (∀ q : Nat, q < H.size → H'[q]? = H[q]?) → W p l e R s m args below meth c H' locs (cells + 1) (slots + n.toNatClampNeg) Q (F0 m (pc + 2) ls (.ref (bs + h.1.length) :: rest))) : W p l e R s m args below meth c H locs cells slots Q (F0 m pc ls (.int n :: rest)) := by
  obtain ⟨hx, hb, hml, hown, hts, hKn, -, -, -⟩ := hC
  subst hty
  have h8 : componentBytes (newarray.typeOf at_) ≤ 8 := by cases at_ <;> decide
  have h9 : n.toNatClampNeg * componentBytes (newarray.typeOf at_) ≤ 536870912 := Nat.le_trans (Nat.mul_le_mul hle h8) (by decide)
  refine va_newaK hx hb hac rfl hd rfl hn rfl h9 hcells hslots hSim.1 fun H' cA e1 z1 o1 hAr hNm => ?_
  refine K H' (hSim.push (by rw [z1, hSim.1]) (fun q hq => o1 q (by rw [← hSim.1]; exact hq)) ?_) (by rw [z1, hSim.1]) (fun q hq => o1 q (by rw [← hSim.1]; exact hq))
  have hcA : cA = ac (newarray.typeOf at_) := by
    have h6 := (hKn.arr (ty := newarray.typeOf at_) (by rcases h3 with h | h | h <;> rw [h] <;> simp [hs_at6])).2
    rcases h3 with h | h | h <;> rw [h] at h6 hNm ⊢ <;> exact Option.some.inj (hNm.symm.trans h6)
  subst hcA
  show H'[bs + h.1.length]? = some (vp_cell _ _)
  rw [e1]
  rcases h3 with h | h | h <;> rw [h] <;> rfl
theorem hs_wnq (hC : hs_Cx p s m args meth c D bs b ac scr j) (hSim : hs_Sim D bs ac h H) {idx ci : Nat} (hci : ci = 9 ∨ ci = 4 ∨ ci = 5) (hnw : hs_new (hs_own j) idx = some ci) {n : Int32} (hn : ¬ n < 0) (hle : n.toNatClampNeg ≤ 100000) (hcells : cells + 1 ≤ R.cells) (hslots : slots + n.toNatClampNeg ≤ R.slots) (hd : decode (hs_code j) pc = .ok (.anewarray idx, 3))
    (K : ∀ (H' : Heap), hs_Sim D bs ac (hs_add (.inr (.object (hs_cn ci), n.toNatClampNeg)) h) H' → H'.size = H.size + 1 → (∀ q : Nat, q < H.size → H'[q]? = H[q]?) → W p l e R s m args below meth c H' locs (cells + 1) (slots + n.toNatClampNeg) Q (F0 m (pc + 3) ls (.ref (bs + h.1.length) :: rest))) : W p l e R s m args below meth c H locs cells slots Q (F0 m pc ls (.int n :: rest)) := by
  obtain ⟨hx, hb, hml, hown, hts, hKn, -, -, -⟩ := hC
  obtain ⟨h1, h2⟩ := hs_new_ok hnw
  refine W.anew hx hb hown (hts _ h2) (va_AO.use (hKn.2.2 ci hci)) rfl hd rfl hn (by omega) hcells hslots fun cA kA comp f1 f2 f3 f4 => ?_
  generalize hH1 : H.push ({ cls := cA, slots := Array.replicate n.toNatClampNeg .null, vm := .none } : Cell) = H1
  have z1 : H1.size = H.size + 1 := by rw [← hH1, Array.size_push]
  have e1 : H1[H.size]? = some (arrV cA n.toNatClampNeg (fun _ => .null)) := by rw [← hH1, Array.getElem?_push_size, ← arrV_new]
  have o1 : ∀ q : Nat, q < H.size → H1[q]? = H[q]? := fun q hq => by rw [← hH1, Array.getElem?_push, if_neg (Nat.ne_of_lt hq)]
  obtain ⟨kA2, comp2, -, -, -, k4⟩ := (hKn.arr (hs_o6 hci)).2
  have hcA : cA = ac (.object (hs_cn ci)) := Option.some.inj (f1.symm.trans k4)
  subst hcA
  have hK := K H1 (hSim.push z1 o1 (by
    show H1[bs + h.1.length]? = some (vp_cell _ _)
    rw [← hSim.1, e1]
    rfl)) z1 o1
  rw [← hSim.1] at hK
  exact hK
theorem hs_nnc {z : Int32} (hz : ¬ z < 0) : z.toInt = (z.toNatClampNeg : Int) := by
  have hz0 : (0 : Int) ≤ z.toInt := by
    have := Int32.not_lt.mp hz
    simpa using Int32.le_iff_toInt_le.mp this
  show z.toInt = ((z.toInt.toNat : Nat) : Int)
  omega
theorem hs_wcpI (hC : hs_Cx p s m args meth c D bs b ac scr j) (hSim : hs_Sim D bs ac h H) (hls : ls.size = hs_mL j) {idx a d n0 n1 : Nat} (hlink : Cond.methodLink (hs_cn (hs_own j)) idx arraycopyName ∈ hs_g) (ha : h.1[a]? = some (.inr (.int, n0))) (hdd : h.1[d]? = some (.inr (.int, n1))) {sp dp n : Int32} (h1 : ¬ sp < 0) (h2 : ¬ dp < 0) (h3 : ¬ n < 0) (h4 : sp.toNatClampNeg + n.toNatClampNeg ≤ n0) (h5 : dp.toNatClampNeg + n.toNatClampNeg ≤ n1)
    (hframes : 1 ≤ R.frames) (hlocals : (rest.map fun v => v.category).sum + (nativeFrameWords "java/lang/System" "arraycopy" 5 + 11) ≤ R.locals) (hd : decode (hs_code j) pc = .ok (.invokestatic idx, 3))
    (K : ∀ (H' : Heap) (L : List Loc), (∀ q ∈ L, q.base = bs + d) → hs_Sim D bs ac (h.1, hs_cpy h.2.1 a d sp.toNatClampNeg dp.toNatClampNeg n.toNatClampNeg, h.2.2.1, h.2.2.2) H' → H'.size = H.size → (∀ q : Nat, q ≠ bs + d → H'[q]? = H[q]?) → W p l e R s m args below meth c H' (locs ++ L) cells slots Q (F0 m (pc + 3) ls rest)) :
    W p l e R s m args below meth c H locs cells slots Q (F0 m pc ls (.int n :: .int dp :: hs_cv bs b (.ref d) :: .int sp :: hs_cv bs b (.ref a) :: rest)) := by
  obtain ⟨hx, hb, hml, hown, hts, hKn, -, -, -⟩ := hC
  have ha0 : 2 ≤ a := hs_k0 hSim.2.1 ha ⟨fun e => (by cases e), fun e => (by cases e)⟩
  have hd0 : 2 ≤ d := hs_k0 hSim.2.1 hdd ⟨fun e => (by cases e), fun e => (by cases e)⟩
  rw [hs_cv_ref ha0, hs_cv_ref hd0]
  have hc0 : H[bs + a]? = some (vp_cell (ac .int) (n0, .inl (h.2.1 a))) := hSim.2.2 a _ ha0 ha
  have hc1 : H[bs + d]? = some (vp_cell (ac .int) (n1, .inl (h.2.1 d))) := hSim.2.2 d _ hd0 hdd
  have hAr := (hKn.arr (ty := .int) (by simp [hs_at6])).1
  obtain ⟨-, k0, hk0, cm0, hkk0⟩ := hAr n0 (fun j => .int (h.2.1 a j))
  obtain ⟨-, k1, hk1, cm1, hkk1⟩ := hAr n1 (fun j => .int (h.2.1 d j))
  have g1 := hts _ (hs_ing (List.mem_append_right _ hs_ac.1) rfl)
  have g2 := hts _ (hs_ing (List.mem_append_right _ hs_ac.2.1) rfl)
  have g3 := hts _ (hs_ing (List.mem_append_right _ hs_ac.2.2.1) rfl)
  intro T hT X
  obtain ⟨vm', X', step⟩ := X.arraycopy hx hown (hts _ hlink) g1 g2 g3 (src := bs + a) (dst := bs + d) (cs := vp_cell (ac .int) (n0, .inl (h.2.1 a))) (cd := vp_cell (ac .int) (n1, .inl (h.2.1 d))) (srcPos := sp) (destPos := dp) (n := n) (by rw [hT]; exact hc0) (by rw [hT]; exact hc1)
    (fun _ h => by cases h) (fun _ h => by cases h) (fun h => by cases h) (fun h => by cases h) hk0 hk1 hkk0 hkk1 (by simp [refKind]) h1 h2 h3
    (by rw [hs_nnc h1, hs_nnc h3]; show ¬ _ > ((arrV (ac .int) n0 (fun j => .int (h.2.1 a j))).slots.size : Int); rw [arrV_size]; omega)
    (by rw [hs_nnc h2, hs_nnc h3]; show ¬ _ > ((arrV (ac .int) n1 (fun j => .int (h.2.1 d j))).slots.size : Int); rw [arrV_size]; omega)
    (fun vm₁ _ i hi => by
      have e : (vp_cell (ac .int) (n0, .inl (h.2.1 a))).slots.getD (sp.toNatClampNeg + i) .null = .int (h.2.1 a (sp.toNatClampNeg + i)) := by
        show (arrV (ac .int) n0 (fun j => .int (h.2.1 a j))).slots.getD _ _ = _
        rw [Array.getD_eq_getD_getElem?, arrV_read _ _ (by omega)]
        rfl
      refine ⟨?_, ?_⟩
      · rw [e]
        rfl
      · rw [e]
        exact trivial)
    (g := F0 m pc ls (.int n :: .int dp :: .ref (bs + d) :: .int sp :: .ref (bs + a) :: rest)) rfl (by rw [hml, hls]) (rest := rest) rfl (by rw [hb]; exact hd) hframes (by show 2 * 0 + _ + _ ≤ _; omega)
  have e1 : copied (vp_cell (ac .int) (n0, .inl (h.2.1 a))) (vp_cell (ac .int) (n1, .inl (h.2.1 d))) sp dp n = vp_cell (ac .int) (n1, .inl (va_cpy (h.2.1 a) (h.2.1 d) sp.toNatClampNeg dp.toNatClampNeg n.toNatClampNeg)) := va_copied (fun z => .int z) (ac .int) (ac .int) (h.2.1 a) (h.2.1 d) h4
  rw [e1] at X' step
  have hl : bs + d < H.size := (Array.getElem?_eq_some_iff.mp hc1).1
  generalize hH1 : H.setIfInBounds (bs + d) (vp_cell (ac .int) (n1, .inl (va_cpy (h.2.1 a) (h.2.1 d) sp.toNatClampNeg dp.toNatClampNeg n.toNatClampNeg))) = H1
  have hheap : ((T.setVm vm').setCell (bs + d) (vp_cell (ac .int) (n1, .inl (va_cpy (h.2.1 a) (h.2.1 d) sp.toNatClampNeg dp.toNatClampNeg n.toNatClampNeg)))).heap = H1 := by rw [← hH1, ← hT]; rfl
  have oq : ∀ q : Nat, q ≠ bs + d → H1[q]? = H[q]? := fun q hq => by rw [← hH1]; simp [Array.getElem?_setIfInBounds, Ne.symm hq]
  have z1 : H1.size = H.size := by rw [← hH1]; simp
  have ed : H1[bs + d]? = some (vp_cell (ac .int) (n1, .inl (va_cpy (h.2.1 a) (h.2.1 d) sp.toNatClampNeg dp.toNatClampNeg n.toNatClampNeg))) := by rw [← hH1]; simp [Array.getElem?_setIfInBounds, hl]
  obtain ⟨t, a1, b1⟩ := K H1 _ (fun q hq => by obtain ⟨z, -, hz⟩ := List.mem_map.mp hq; rw [← hz]) (hSim.put rfl hdd z1 oq (fun i hi => hs_z_ne _ _ _ hi) (fun _ _ => rfl) (fun _ _ => rfl) (by show H1[bs + d]? = some (vp_cell _ (n1, .inl (hs_z _ _ _ d))); rw [hs_z_eq]; exact ed)) z1 oq _ hheap X'
  exact ⟨t, step t a1, b1⟩
theorem hs_wcpL (hC : hs_Cx p s m args meth c D bs b ac scr j) (hSim : hs_Sim D bs ac h H) (hls : ls.size = hs_mL j) {idx a d n0 n1 : Nat} (hlink : Cond.methodLink (hs_cn (hs_own j)) idx arraycopyName ∈ hs_g) (ha : h.1[a]? = some (.inr (.long, n0))) (hdd : h.1[d]? = some (.inr (.long, n1))) {sp dp n : Int32} (h1 : ¬ sp < 0) (h2 : ¬ dp < 0) (h3 : ¬ n < 0) (h4 : sp.toNatClampNeg + n.toNatClampNeg ≤ n0) (h5 : dp.toNatClampNeg + n.toNatClampNeg ≤ n1)
    (hframes : 1 ≤ R.frames) (hlocals : (rest.map fun v => v.category).sum + (nativeFrameWords "java/lang/System" "arraycopy" 5 + 11) ≤ R.locals) (hd : decode (hs_code j) pc = .ok (.invokestatic idx, 3))
    (K : ∀ (H' : Heap) (L : List Loc), (∀ q ∈ L, q.base = bs + d) → hs_Sim D bs ac (h.1, h.2.1, hs_cpy h.2.2.1 a d sp.toNatClampNeg dp.toNatClampNeg n.toNatClampNeg, h.2.2.2) H' → H'.size = H.size → (∀ q : Nat, q ≠ bs + d → H'[q]? = H[q]?) → W p l e R s m args below meth c H' (locs ++ L) cells slots Q (F0 m (pc + 3) ls rest)) :
    W p l e R s m args below meth c H locs cells slots Q (F0 m pc ls (.int n :: .int dp :: hs_cv bs b (.ref d) :: .int sp :: hs_cv bs b (.ref a) :: rest)) := by
  obtain ⟨hx, hb, hml, hown, hts, hKn, -, -, -⟩ := hC
  have ha0 : 2 ≤ a := hs_k0 hSim.2.1 ha ⟨fun e => (by cases e), fun e => (by cases e)⟩
  have hd0 : 2 ≤ d := hs_k0 hSim.2.1 hdd ⟨fun e => (by cases e), fun e => (by cases e)⟩
  rw [hs_cv_ref ha0, hs_cv_ref hd0]
  have hc0 : H[bs + a]? = some (vp_cell (ac .long) (n0, .inr (.inl (h.2.2.1 a)))) := hSim.2.2 a _ ha0 ha
  have hc1 : H[bs + d]? = some (vp_cell (ac .long) (n1, .inr (.inl (h.2.2.1 d)))) := hSim.2.2 d _ hd0 hdd
  have hAr := (hKn.arr (ty := .long) (by simp [hs_at6])).1
  obtain ⟨-, k0, hk0, cm0, hkk0⟩ := hAr n0 (fun j => .long (h.2.2.1 a j))
  obtain ⟨-, k1, hk1, cm1, hkk1⟩ := hAr n1 (fun j => .long (h.2.2.1 d j))
  have g1 := hts _ (hs_ing (List.mem_append_right _ hs_ac.1) rfl)
  have g2 := hts _ (hs_ing (List.mem_append_right _ hs_ac.2.1) rfl)
  have g3 := hts _ (hs_ing (List.mem_append_right _ hs_ac.2.2.1) rfl)
  intro T hT X
  obtain ⟨vm', X', step⟩ := X.arraycopy hx hown (hts _ hlink) g1 g2 g3 (src := bs + a) (dst := bs + d) (cs := vp_cell (ac .long) (n0, .inr (.inl (h.2.2.1 a)))) (cd := vp_cell (ac .long) (n1, .inr (.inl (h.2.2.1 d)))) (srcPos := sp) (destPos := dp) (n := n) (by rw [hT]; exact hc0) (by rw [hT]; exact hc1)
    (fun _ h => by cases h) (fun _ h => by cases h) (fun h => by cases h) (fun h => by cases h) hk0 hk1 hkk0 hkk1 (by simp [refKind]) h1 h2 h3
    (by rw [hs_nnc h1, hs_nnc h3]; show ¬ _ > ((arrV (ac .long) n0 (fun j => .long (h.2.2.1 a j))).slots.size : Int); rw [arrV_size]; omega)
    (by rw [hs_nnc h2, hs_nnc h3]; show ¬ _ > ((arrV (ac .long) n1 (fun j => .long (h.2.2.1 d j))).slots.size : Int); rw [arrV_size]; omega)
    (fun vm₁ _ i hi => by
      have e : (vp_cell (ac .long) (n0, .inr (.inl (h.2.2.1 a)))).slots.getD (sp.toNatClampNeg + i) .null = .long (h.2.2.1 a (sp.toNatClampNeg + i)) := by
        show (arrV (ac .long) n0 (fun j => .long (h.2.2.1 a j))).slots.getD _ _ = _
        rw [Array.getD_eq_getD_getElem?, arrV_read _ _ (by omega)]
        rfl
      refine ⟨?_, ?_⟩
      · rw [e]
        rfl
      · rw [e]
        exact trivial)
    (g := F0 m pc ls (.int n :: .int dp :: .ref (bs + d) :: .int sp :: .ref (bs + a) :: rest)) rfl (by rw [hml, hls]) (rest := rest) rfl (by rw [hb]; exact hd) hframes (by show 2 * 0 + _ + _ ≤ _; omega)
  have e1 : copied (vp_cell (ac .long) (n0, .inr (.inl (h.2.2.1 a)))) (vp_cell (ac .long) (n1, .inr (.inl (h.2.2.1 d)))) sp dp n = vp_cell (ac .long) (n1, .inr (.inl (va_cpy (h.2.2.1 a) (h.2.2.1 d) sp.toNatClampNeg dp.toNatClampNeg n.toNatClampNeg))) := va_copied (fun z => .long z) (ac .long) (ac .long) (h.2.2.1 a) (h.2.2.1 d) h4
  rw [e1] at X' step
  have hl : bs + d < H.size := (Array.getElem?_eq_some_iff.mp hc1).1
  generalize hH1 : H.setIfInBounds (bs + d) (vp_cell (ac .long) (n1, .inr (.inl (va_cpy (h.2.2.1 a) (h.2.2.1 d) sp.toNatClampNeg dp.toNatClampNeg n.toNatClampNeg)))) = H1
  have hheap : ((T.setVm vm').setCell (bs + d) (vp_cell (ac .long) (n1, .inr (.inl (va_cpy (h.2.2.1 a) (h.2.2.1 d) sp.toNatClampNeg dp.toNatClampNeg n.toNatClampNeg))))).heap = H1 := by rw [← hH1, ← hT]; rfl
  have oq : ∀ q : Nat, q ≠ bs + d → H1[q]? = H[q]? := fun q hq => by rw [← hH1]; simp [Array.getElem?_setIfInBounds, Ne.symm hq]
  have z1 : H1.size = H.size := by rw [← hH1]; simp
  have ed : H1[bs + d]? = some (vp_cell (ac .long) (n1, .inr (.inl (va_cpy (h.2.2.1 a) (h.2.2.1 d) sp.toNatClampNeg dp.toNatClampNeg n.toNatClampNeg)))) := by rw [← hH1]; simp [Array.getElem?_setIfInBounds, hl]
  obtain ⟨t, a1, b1⟩ := K H1 _ (fun q hq => by obtain ⟨z, -, hz⟩ := List.mem_map.mp hq; rw [← hz]) (hSim.put rfl hdd z1 oq (fun _ _ => rfl) (fun i hi => hs_z_ne _ _ _ hi) (fun _ _ => rfl) (by show H1[bs + d]? = some (vp_cell _ (n1, .inr (.inl (hs_z _ _ _ d)))); rw [hs_z_eq]; exact ed)) z1 oq _ hheap X'
  exact ⟨t, step t a1, b1⟩
end HR
