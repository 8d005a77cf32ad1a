/-! SOUNDNESS: what the evaluator answers, the machine answers -/
theorem hs_Ck_V {own idx j : Nat} (h : hs_Ck own idx 0 j) : j < hs_ml.length ∧ hs_kind j < 2 ∧ Cond.methodLink (hs_cn own) idx (hs_m j).1 ∈ hs_g := by
  rcases h with q | q | q | q | q | q | q | q | q | q | q | q
  · exact q.2
  all_goals exact absurd q.1 (by decide)
theorem hs_Ck_S {own idx j : Nat} (h : hs_Ck own idx 1 j) : j < hs_ml.length ∧ hs_kind j = 2 ∧ Cond.methodLink (hs_cn own) idx (hs_m j).1 ∈ hs_g := by
  rcases h with q | q | q | q | q | q | q | q | q | q | q | q
  · exact absurd q.1 (by decide)
  · exact q.2
  all_goals exact absurd q.1 (by decide)
theorem hs_Ck_I {own idx j : Nat} (h : hs_Ck own idx 2 j) : j < hs_ml.length ∧ hs_kind j = 3 ∧ Cond.methodLink (hs_cn own) idx (hs_m j).1 ∈ hs_g := by
  rcases h with q | q | q | q | q | q | q | q | q | q | q | q
  · exact absurd q.1 (by decide)
  · exact absurd q.1 (by decide)
  · exact q.2
  all_goals exact absurd q.1 (by decide)
theorem hs_Ck_N {own idx j : Nat} (h : hs_Ck own idx 3 j) : j < hs_ml.length ∧ hs_kind j = 3 ∧ (own, idx, 3, j) ∈ hs_nk := by
  rcases h with q | q | q | q | q | q | q | q | q | q | q | q
  · exact absurd q.1 (by decide)
  · exact absurd q.1 (by decide)
  · exact absurd q.1 (by decide)
  · exact q.2
  all_goals exact absurd q.1 (by decide)
theorem hs_cal_j {own idx k j : Nat} (h : hs_cal own idx = some (k, j)) (hk : k < 4) : j < hs_ml.length := by
  have hc := hs_cal_ok h
  rcases hc with q | q | q | q | q | q | q | q | q | q | q | q
  · exact q.2.1
  · exact q.2.1
  · exact q.2.1
  · exact q.2.1
  all_goals exact absurd q.1 (by omega)
theorem hs_ar {a b c : Nat} (h1 : c ≤ a) (h2 : a ≤ b) : a - c + (b - a) = b - c := by omega
theorem hs_cN {p : Program} {R : Room} {s : State} {m : MethodId} {args : Array Value} {meth : Method} {c : Code} {D : va_G} {bs : Nat} {b : Nat × Nat} {ac : FieldType → ClassId} {scr : List Int32} {j : Nat} {h h' : hs_H} {idx d jj n : Nat} (hC : hs_Cx p s m args meth c D bs b ac scr j) (hM : hs_Mk jj) (hlink : (hs_own j, idx, 3, jj) ∈ hs_nk) (hn : hs_np jj = n) (hf : d + 9 ≤ R.frames) (hlo : 60 * (d + 9) ≤ R.locals) :
    va_CN R s args (hs_cn (hs_own j)) idx (hs_m jj).1 "MoustacheState" (hs_code jj) (hs_mL jj) (hs_ret jj) (hs_mc (hs_m jj) :: hs_g) (hs_rm d h h') (hs_nn h' - hs_nn h) (hs_ns h' - hs_ns h) n := by
  obtain ⟨hx, hb, hml, hown, hts, hKn, -, -, -⟩ := hC
  have hp := hs_cp (hs_own jj)
  have hl := hKn.2.1 _ hlink
  refine va_cnB (ws' := hs_g) n hts (hs_gmc hM) rfl rfl rfl hl ?_ ?_ ⟨by rw [hs_rm_f]; exact hf, by rw [hs_rm_l]; exact hs_lo hM.2.2.2.2.1 hlo⟩
  · rw [hM.2.2.1]
    exact hts _ (hs_ing (hs_ci_in _ hM.2.2.2.1) rfl)
  · rw [hM.2.2.1, ← hn]
    exact ⟨(hp hM.2.2.2.1).2.1, (hp hM.2.2.2.1).2.2, hM.2.1⟩
set_option maxHeartbeats 4000000 in
/-- one call -/
theorem hs_call_step {p : Program} {l : Launch} {e : Env} {R : Room} {s : State} {m : MethodId} {args : Array Value} {below : List Frame} {meth : Method} {c : Code} {H : Heap} {locs : List Loc} {Q : State → Prop} {D : va_G} {bs : Nat} {b : Nat × Nat} {ac : FieldType → ClassId} {scr : List Int32} {j pc len nc0 ns0 d jj idx : Nat} {ls : Array Slot} {as r st : List Value} {h h1 : hs_H} {v1 : Option Value} {i : Instr}
    (hC : hs_Cx p s m args meth c D bs b ac scr j) (hd : decode (hs_code j) pc = .ok (i, len)) (hln : hs_ln i = 0 ∨ len = hs_ln i) (hls : ls.size = hs_mL j) (hSim : hs_Sim D bs ac h H) (hS : va_S (hs_A bs) s.heap H locs) (hf : d + 9 ≤ R.frames) (hlo : 60 * (d + 9) ≤ R.locals) (h0 : nc0 ≤ hs_nn h ∧ ns0 ≤ hs_ns h) (hcap : hs_nn h1 - nc0 ≤ R.cells ∧ hs_ns h1 - ns0 ≤ R.slots) (hup : hs_Up h h1) (hM : hs_Met l D bs b ac d jj as h v1 h1) (hrs : hs_rs r = true)
    (hk : (i = .invokestatic idx ∧ hs_cal (hs_own j) idx = some (1, jj) ∧ st = as.reverse ++ r ∧ as.length = hs_np jj) ∨
     (∃ k as', as = .ref k :: as' ∧ st = as'.reverse ++ .ref k :: r ∧ as'.length = hs_np jj ∧ ((i = .invokevirtual idx ∧ hs_cal (hs_own j) idx = some (0, jj) ∧ h.1[k]? = some (.inl (hs_own jj))) ∨ (i = .invokespecial idx ∧ 2 ≤ k ∧ (hs_cal (hs_own j) idx = some (2, jj) ∨ hs_cal (hs_own j) idx = some (3, jj))))))
    (K : ∀ (H1 : Heap) (locs1 : List Loc), hs_Sim D bs ac h1 H1 → va_S (hs_A bs) s.heap H1 locs1 → W p l e R s m args below meth c H1 locs1 (hs_nn h1 - nc0) (hs_ns h1 - ns0) Q (F0 m (pc + 3) ls ((v1.toList ++ r).map (hs_cv bs b)))) :
    W p l e R s m args below meth c H locs (hs_nn h - nc0) (hs_ns h - ns0) Q (F0 m pc ls (st.map (hs_cv bs b))) := by
  obtain ⟨hx, hb, hml, hown, hts, hKn, hini, hscr, -⟩ := id hC
  have hu1 := hup.1
  have hu2 := hup.2
  have e1 : hs_nn h - nc0 + (hs_nn h1 - hs_nn h) = hs_nn h1 - nc0 := hs_ar h0.1 hu1
  have e2 : hs_ns h - ns0 + (hs_ns h1 - hs_ns h) = hs_ns h1 - ns0 := hs_ar h0.2 hu2
  have hf2 : hs_nn h - nc0 + (hs_nn h1 - hs_nn h) ≤ R.cells ∧ hs_ns h - ns0 + (hs_ns h1 - hs_ns h) ≤ R.slots := by rw [e1, e2]; exact hcap
  have h8 := hs_rs_ok bs b hrs
  have K2 : ∀ (H1 : Heap) (locs1 : List Loc), hs_Sim D bs ac h1 H1 → va_S (hs_A bs) s.heap H1 locs1 → W p l e R s m args below meth c H1 locs1 (hs_nn h - nc0 + (hs_nn h1 - hs_nn h)) (hs_ns h - ns0 + (hs_ns h1 - hs_ns h)) Q (F0 m (pc + 3) ls ((v1.map (hs_cv bs b)).toList ++ r.map (hs_cv bs b))) := by
    intro H1 locs1 a1 a2
    rw [e1, e2]
    have := K H1 locs1 a1 a2
    rw [List.map_append] at this
    cases v1 <;> exact this
  rcases hk with ⟨rfl, hcal, rfl, hlen⟩ | ⟨k, as', rfl, rfl, hlen, hkk⟩
  · replace hd := hs_lnd hd hln (n := 2) rfl
    obtain ⟨hj, hkind, hlink⟩ := hs_Ck_S (hs_cal_ok hcal)
    have hMk := hs_m_ok hj
    exact hs_callW (va_runS (As := as.map (hs_cv bs b)) (rest := r.map (hs_cv bs b)) (n := hs_np jj) ⟨hx, hb, hml, hown, hts⟩ hM ⟨hs_cB hC hMk hlink rfl hf hlo, hts _ (hMk.2.2.2.2.2.2.2.1 hkind)⟩ ⟨hs_blind, hs_pre hC hSim hS⟩ rfl (by rw [List.length_map]; exact hlen) hls (by show List.map _ _ = _; rw [List.map_append, List.map_reverse]) (lv_room h8) hd hf2) hSim hS hup K2
  · rcases hkk with ⟨rfl, hcal, hko⟩ | ⟨rfl, hk0, hcal⟩
    · replace hd := hs_lnd hd hln (n := 2) rfl
      obtain ⟨hj, hkind, hlink⟩ := hs_Ck_V (hs_cal_ok hcal)
      have hMk := hs_m_ok hj
      have hk0 : 2 ≤ k := hs_k0 hSim.2.1 hko ⟨fun q => (by
        have q2 : hs_own jj = 99 := Sum.inl.inj q
        have := hMk.2.2.2.1
        omega), fun q => (by
        have q2 : hs_own jj = 98 := Sum.inl.inj q
        have := hMk.2.2.2.1
        omega)⟩
      have hat := hSim.2.2 k _ hk0 hko
      have h12 : hs_own jj < 12 := by
        obtain ⟨r9, hr9, -⟩ := hat
        exact (List.getElem?_eq_some_iff.mp hr9).1
      have hrec := va_recv hKn.1 (hs_P1 hat) (hs_cwg _ h12) (q0 := 0) rfl
      rw [← hs_cwn _ h12, ← hMk.2.2.1] at hrec
      have hst : (List.map (hs_cv bs b) (as'.reverse ++ .ref k :: r)) = (as'.map (hs_cv bs b)).reverse ++ .ref (bs + k) :: r.map (hs_cv bs b) := by rw [List.map_append, List.map_reverse, List.map_cons, hs_cv_ref hk0]
      have hpc : (Value.ref (bs + k) :: as'.map (hs_cv bs b)) = (Value.ref k :: as').map (hs_cv bs b) := by rw [List.map_cons, hs_cv_ref hk0]
      refine hs_callW (va_runV (C := (hs_m jj).1.cls) (b := bs + k) (As := as'.map (hs_cv bs b)) (rest := r.map (hs_cv bs b)) (n := hs_np jj) ⟨hx, hb, hml, hown, hts⟩ hM ⟨hs_cB hC hMk hlink rfl hf hlo, hts _ (hMk.2.2.2.2.2.2.2.2.1 (by omega)), hts _ (hMk.2.2.2.2.2.2.2.2.2 hkind)⟩ ⟨hs_blind, hrec, fun U hU hW => ?_⟩ rfl (by rw [List.length_map]; exact hlen) hls hst (lv_room h8) hd hf2) hSim hS hup K2
      rw [hpc]
      exact hs_pre hC hSim hS U hU hW
    · replace hd := hs_lnd hd hln (n := 2) rfl
      have hst : (List.map (hs_cv bs b) (as'.reverse ++ .ref k :: r)) = (as'.map (hs_cv bs b)).reverse ++ .ref (bs + k) :: r.map (hs_cv bs b) := by rw [List.map_append, List.map_reverse, List.map_cons, hs_cv_ref hk0]
      have hpc : (Value.ref (bs + k) :: as'.map (hs_cv bs b)) = (Value.ref k :: as').map (hs_cv bs b) := by rw [List.map_cons, hs_cv_ref hk0]
      rcases hcal with hcal | hcal
      · obtain ⟨hj, hkind, hlink⟩ := hs_Ck_I (hs_cal_ok hcal)
        have hMk := hs_m_ok hj
        have hin3 := hMk.2.2.2.2.2.2.1 hkind
        have hcb := hs_cB (h := h) (h' := h1) hC hMk hlink rfl hf hlo
        rw [hin3.2] at hcb
        refine hs_callW (va_runI (b := bs + k) (As := as'.map (hs_cv bs b)) (rest := r.map (hs_cv bs b)) (n := hs_np jj) ⟨hx, hb, hml, hown, hts⟩ hM ⟨hcb, hin3.1, hts _ (hMk.2.2.2.2.2.2.2.2.1 (by omega))⟩ ⟨hs_blind, fun U hU hW => ?_⟩ rfl (by rw [List.length_map]; exact hlen) hls hst (lv_room h8) hd hf2) hSim hS hup K2
        rw [hpc]
        exact hs_pre hC hSim hS U hU hW
      · obtain ⟨hj, hkind, hnk⟩ := hs_Ck_N (hs_cal_ok hcal)
        have hMk := hs_m_ok hj
        have hin3 := hMk.2.2.2.2.2.2.1 hkind
        have hcb := hs_cN (h := h) (h' := h1) hC hMk hnk rfl hf hlo
        rw [hin3.2] at hcb
        refine hs_callW (va_runIN (host := "MoustacheState") (b := bs + k) (As := as'.map (hs_cv bs b)) (rest := r.map (hs_cv bs b)) (n := hs_np jj) ⟨hx, hb, hml, hown, hts⟩ hM ⟨hcb, hin3.1, hts _ (hMk.2.2.2.2.2.2.2.2.1 (by omega))⟩ ⟨hs_blind, fun U hU hW => ?_⟩ rfl (by rw [List.length_map]; exact hlen) hls hst (lv_room h8) hd hf2) hSim hS hup K2
        rw [hpc]
        exact hs_pre hC hSim hS U hU hW
set_option maxHeartbeats 4000000 in
theorem hs_sound {l : Launch} {D : va_G} {bs : Nat} {b : Nat × Nat} {ac : FieldType → ClassId} {scr : List Int32} :
    ∀ (n d j pc : Nat) (loc : hs_L) (st : List Value) (h : hs_H) (v : Option Value) (h' : hs_H), hs_run scr n d j pc loc st h = some (v, h') → hs_Up h h' ∧ hs_Wk l D bs b ac scr d j pc loc st h v h'
  | 0, d, j, pc, loc, st, h, v, h', hr => by cases hr
  | n + 1, d, j, pc, loc, st, h, v, h', hr => by
    have ih := hs_sound (l := l) (D := D) (bs := bs) (b := b) (ac := ac) (scr := scr) n
    rw [hs_run] at hr
    cases hst : hs_stp scr j pc loc st h with
    | none => rw [hst] at hr; cases hr
    | some x =>
      rw [hst] at hr
      have hst2 := hst
      unfold hs_stp at hst2
      split at hst2
      · rename_i q hd
        obtain ⟨i, len⟩ := q
        split at hst2
        · rename_i hln
          dsimp only at hln hst2
          match x, hr, hst2 with
          | .inl t, hr, hxi =>
            obtain ⟨hu, hw⟩ := ih d j t.1 t.2.1 t.2.2.1 t.2.2.2 v h' hr
            have hu0 := hs_up hxi
            refine ⟨hu0.tr hu, ?_⟩
            intro p e R s m args below meth c H locs Q nc0 ns0 ls hC hl hSim hS hf hlo hn0 hs0 hcc hcs K
            have a1 := hu.1
            have a2 := hu.2
            have a3 := hu0.1
            have a4 := hu0.2
            exact hs_step hC hd hln hxi hl hSim hS ⟨by omega, by omega⟩ ⟨hn0, hs0⟩ ⟨by omega, by omega⟩ (fun H1 locs1 ls1 hl1 hs1 hS1 => hw hC hl1 hs1 hS1 hf hlo (by omega) (by omega) hcc hcs K)
          | .inr (.inl o), hr, hxi =>
            have hr : o = (v, h') := Option.some.inj hr
            subst hr
            obtain ⟨g1, g2, g3⟩ := hs_ret_inv hd hln hxi
            dsimp only at g1 g2 g3
            subst g1
            subst g2
            exact ⟨hs_Up.rf rfl, fun {p e R s m args below meth c H locs Q nc0 ns0 ls} hC hl hSim hS hf hlo hn0 hs0 hcc hcs K => K H locs ls pc hSim hS g3⟩
          | .inr (.inr cc), hr, hxi =>
            obtain ⟨idx, jj, as, r, hcc0, hrs, hk⟩ := hs_call_inv hxi
            subst hcc0
            have hjj : jj < hs_ml.length := by
              rcases hk with q | ⟨k, as', -, -, -, q⟩
              · exact hs_cal_j q.2.1 (by decide)
              · rcases q with q | q
                · exact hs_cal_j q.2.1 (by decide)
                · rcases q.2.2 with q | q
                  · exact hs_cal_j q (by decide)
                  · exact hs_cal_j q (by decide)
            cases d with
            | zero => cases hr
            | succ d =>
              dsimp only at hr
              split at hr
              · rename_i hfit
                split at hr
                · cases hr
                · rename_i o1 ho1
                  obtain ⟨v1, h1⟩ := o1
                  dsimp only at hr
                  have hM : hs_Up h h1 ∧ hs_Met l D bs b ac d jj as h v1 h1 := by
                    obtain ⟨hu, hw⟩ := ih d jj 0 (hs_en (hs_mL jj) as) [] h v1 h1 ho1
                    exact ⟨hu, hs_met_of hjj hfit hu hw⟩
                  obtain ⟨hu, hw⟩ := ih (d + 1) j (pc + 3) loc (v1.toList ++ r) h1 v h' hr
                  refine ⟨hM.1.tr hu, ?_⟩
                  intro p e R s m args below meth c H locs Q nc0 ns0 ls hC hl hSim hS hf hlo hn0 hs0 hcc hcs K
                  have a1 := hu.1
                  have a2 := hu.2
                  have a3 := hM.1.1
                  have a4 := hM.1.2
                  exact hs_call_step hC hd hln hl.2.1 hSim hS hf hlo ⟨hn0, hs0⟩ ⟨by omega, by omega⟩ hM.1 hM.2 hrs hk (fun H1 locs1 hs1 hS1 => hw hC hl hs1 hS1 hf hlo (by omega) (by omega) hcc hcs K)
              · cases hr
        · cases hst2
      · cases hst2
