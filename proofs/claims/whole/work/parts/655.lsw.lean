/-! lookupswitch: written by gen/mklsw.py -/
def hs_lsw (x : Int32) : List (Int × Nat) → Nat → Nat
  | [], df => df
  | (k, t) :: l, df => if k = x.toInt then t else hs_lsw x l df
section LS
variable {scr : List Int32} {d j pc : Nat} {loc : List (Option Value)} {r : List Value} {h : hs_H}
theorem lsw_j {x : Int32} {dd : Int} {df : Nat} (hdf : hs_j pc dd = some df) : ∀ (ps : List (Int × Int)) (ts : List (Int × Nat)), ps.map (fun q => (q.1, hs_j pc q.2)) = ts.map (fun q => (q.1, some q.2)) → hs_j pc (Op.lookupswitch.offset ps dd x.toInt) = some (hs_lsw x ts df)
  | [], [], _ => hdf
  | [], _ :: _, e => by simp at e
  | _ :: _, [], e => by simp at e
  | (a, o) :: ps, (b, t) :: ts, e => by
    simp only [List.map_cons, List.cons.injEq, Prod.mk.injEq] at e
    obtain ⟨⟨rfl, e2⟩, e3⟩ := e
    rw [Op.lookupswitch.offset_cons, hs_lsw]
    by_cases q : a = x.toInt
    · rw [if_pos q, if_pos q, e2]
    · rw [if_neg q, if_neg q]; exact lsw_j hdf ps ts e3
theorem r_lsw {x : Int32} {dd : Int} {ps : Array (Int × Int)} {len df : Nat} {ts : List (Int × Nat)} (hd : decode (hs_code j) pc = .ok (.lookupswitch dd ps, len)) (hdf : hs_j pc dd = some df) (ho : ps.toList.map (fun q => (q.1, hs_j pc q.2)) = ts.map (fun q => (q.1, some q.2))) (ha : (ps.toList.zip (ps.toList.drop 1)).all (fun (a, next) => a.1 < next.1) = true) : hs_R scr d j pc loc (.int x :: r) h = hs_R scr d j (hs_lsw x ts df) loc r h :=
  hs_R_go (t := (hs_lsw x ts df, loc, r, h)) ((hs_stp_of hd (Or.inl rfl)).trans (by show (if _ then (hs_j pc (Op.lookupswitch.offset ps.toList dd x.toInt)).bind _ else none) = _; rw [if_pos ha, lsw_j hdf _ _ ho]; rfl))
end LS
theorem d181_0 : decode (hs_code 181) 0 = .ok (.aload_n 0, 1) := by decide +kernel
theorem d181_1 : decode (hs_code 181) 1 = .ok (.getfield 34, 3) := by decide +kernel
theorem d181_10 : decode (hs_code 181) 10 = .ok (.aload_n 0, 1) := by decide +kernel
theorem d181_11 : decode (hs_code 181) 11 = .ok (.getfield 34, 3) := by decide +kernel
theorem d181_14 : decode (hs_code 181) 14 = .ok (.getfield 71, 3) := by decide +kernel
theorem d181_17 : decode (hs_code 181) 17 = .ok (.iload_n 1, 1) := by decide +kernel
theorem d181_18 : decode (hs_code 181) 18 = .ok (.iaload, 1) := by decide +kernel
theorem d181_19 : decode (hs_code 181) 19 = .ok (.istore_n 3, 1) := by decide +kernel
theorem d181_20 : decode (hs_code 181) 20 = .ok (.aload_n 0, 1) := by decide +kernel
theorem d181_21 : decode (hs_code 181) 21 = .ok (.getfield 34, 3) := by decide +kernel
theorem d181_24 : decode (hs_code 181) 24 = .ok (.getfield 77, 3) := by decide +kernel
theorem d181_27 : decode (hs_code 181) 27 = .ok (.iload_n 1, 1) := by decide +kernel
theorem d181_28 : decode (hs_code 181) 28 = .ok (.iaload, 1) := by decide +kernel
theorem d181_29 : decode (hs_code 181) 29 = .ok (.lookupswitch 119 #[(26, 43), (34, 53), (35, 75), (36, 97)], 43) := by decide +kernel
theorem d181_4 : decode (hs_code 181) 4 = .ok (.getfield 74, 3) := by decide +kernel
theorem d181_7 : decode (hs_code 181) 7 = .ok (.iload_n 1, 1) := by decide +kernel
theorem d181_8 : decode (hs_code 181) 8 = .ok (.iaload, 1) := by decide +kernel
theorem d181_9 : decode (hs_code 181) 9 = .ok (.istore_n 2, 1) := by decide +kernel
theorem d77_11 : decode (hs_code 77) 11 = .ok (.getfield 108, 3) := by decide +kernel
theorem d77_14 : decode (hs_code 77) 14 = .ok (.iload_n 1, 1) := by decide +kernel
theorem d77_15 : decode (hs_code 77) 15 = .ok (.aload_n 0, 1) := by decide +kernel
theorem d77_16 : decode (hs_code 77) 16 = .ok (.getfield 15, 3) := by decide +kernel
theorem d77_19 : decode (hs_code 77) 19 = .ok (.getfield 41, 3) := by decide +kernel
theorem d77_22 : decode (hs_code 77) 22 = .ok (.iastore, 1) := by decide +kernel
theorem d77_23 : decode (hs_code 77) 23 = .ok (.aload_n 0, 1) := by decide +kernel
theorem d77_24 : decode (hs_code 77) 24 = .ok (.getfield 15, 3) := by decide +kernel
theorem d77_27 : decode (hs_code 77) 27 = .ok (.getfield 41, 3) := by decide +kernel
theorem d77_30 : decode (hs_code 77) 30 = .ok (.lookupswitch 78 #[(3, 44), (18, 34), (26, 36)], 34) := by decide +kernel
theorem d77_7 : decode (hs_code 77) 7 = .ok (.aload_n 0, 1) := by decide +kernel
theorem d77_8 : decode (hs_code 77) 8 = .ok (.getfield 19, 3) := by decide +kernel
theorem f181_34 : hs_fld (hs_own 181) 34 = some (2, 7, 3, 0) := by decide +kernel
theorem f181_71 : hs_fld (hs_own 181) 71 = some (5, 3, 3, 1) := by decide +kernel
theorem f181_74 : hs_fld (hs_own 181) 74 = some (5, 2, 3, 1) := by decide +kernel
theorem f181_77 : hs_fld (hs_own 181) 77 = some (5, 1, 3, 1) := by decide +kernel
theorem f77_108 : hs_fld (hs_own 77) 108 = some (5, 1, 3, 1) := by decide +kernel
theorem f77_19 : hs_fld (hs_own 77) 19 = some (6, 2, 3, 0) := by decide +kernel
theorem f77_41 : hs_fld (hs_own 77) 41 = some (8, 8, 0, 0) := by decide +kernel
section BB
variable {scr : List Int32} {d : Nat} {h : hs_H} {S : List hs_S} {I : Nat → Nat → Int32} {L : Nat → Nat → Int64} {R : Nat → Nat → Nat}
theorem b77_7 {t0 t0_2 t0_0 : Nat} {x1 : Int32} (o_t0 : ok6 S R t0) (e_t0_2 : R t0 2 = t0_2) (o_t0_2 : ok5 S R t0_2) (e_t0_0 : R t0 0 = t0_0) (o_t0_0 : ok8 S R t0_0) : hs_R scr d 77 7 [some (.ref t0), some (.int x1)] [] (S, I, L, R) = (if hs_ib x1 60 = true then hs_R scr d 77 (hs_lsw ((hs_u I (t0_2 + 2) (Int32.toNatClampNeg x1) (I t0_0 8)) t0_0 8) [(3, 74), (18, 64), (26, 66)] 108) [some (.ref t0), some (.int x1)] [] (S, (hs_u I (t0_2 + 2) (Int32.toNatClampNeg x1) (I t0_0 8)), L, R) else none) := Eq.trans (r_al_n d77_7 rfl) (Eq.trans (r_getRe d77_8 f77_19 o_t0.2.1 e_t0_2 o_t0_2.1) (Eq.trans (r_getRe d77_11 f77_108 o_t0_2.2.1 (o_t0_2.2.2.2.2.1) (Nat.le_trans o_t0_2.1 (Nat.le_add_right _ _))) (Eq.trans (r_il_n d77_14 rfl) (Eq.trans (r_al_n d77_15 rfl) (Eq.trans (r_getRe d77_16 f77_15 o_t0.2.1 e_t0_0 o_t0_0.1) (Eq.trans (r_getI d77_19 f77_41 o_t0_0.2.1) (Eq.trans (r_iast d77_22 (o_t0_2.2.2.2.2.2.1)) (q_ite (Eq.trans (r_al_n d77_23 rfl) (Eq.trans (r_getRe d77_24 f77_15 o_t0.2.1 e_t0_0 o_t0_0.1) (Eq.trans (r_getI d77_27 f77_41 o_t0_0.2.1) (r_lsw d77_30 rfl rfl rfl)))) rfl))))))))
theorem b181_0 {t0 t0_7 : Nat} {x1 : Int32} (o_t0 : ok2 S R t0) (e_t0_7 : R t0 7 = t0_7) (o_t0_7 : ok5 S R t0_7) : hs_R scr d 181 0 [some (.ref t0), some (.int x1), none, none] [] (S, I, L, R) = (if hs_ib x1 60 = true then (if hs_ib x1 60 = true then (if hs_ib x1 60 = true then hs_R scr d 181 (hs_lsw (I (t0_7 + 2) (Int32.toNatClampNeg x1)) [(26, 72), (34, 82), (35, 104), (36, 126)] 148) [some (.ref t0), some (.int x1), some (.int (I (t0_7 + 3) (Int32.toNatClampNeg x1))), some (.int (I (t0_7 + 4) (Int32.toNatClampNeg x1)))] [] (S, I, L, R) else none) else none) else none) := Eq.trans (r_al_n d181_0 rfl) (Eq.trans (r_getRe d181_1 f181_34 o_t0.2.1 e_t0_7 o_t0_7.1) (Eq.trans (r_getRe d181_4 f181_74 o_t0_7.2.1 (o_t0_7.2.2.2.2.2.2.1) (Nat.le_trans o_t0_7.1 (Nat.le_add_right _ _))) (Eq.trans (r_il_n d181_7 rfl) (Eq.trans (r_iald d181_8 (o_t0_7.2.2.2.2.2.2.2.1)) (q_ite (Eq.trans (r_is_n (loc' := [some (.ref t0), some (.int x1), some (.int (I (t0_7 + 3) (Int32.toNatClampNeg x1))), none]) d181_9 rfl) (Eq.trans (r_al_n d181_10 rfl) (Eq.trans (r_getRe d181_11 f181_34 o_t0.2.1 e_t0_7 o_t0_7.1) (Eq.trans (r_getRe d181_14 f181_71 o_t0_7.2.1 (o_t0_7.2.2.2.2.2.2.2.2.1) (Nat.le_trans o_t0_7.1 (Nat.le_add_right _ _))) (Eq.trans (r_il_n d181_17 rfl) (Eq.trans (r_iald d181_18 (o_t0_7.2.2.2.2.2.2.2.2.2.1)) (q_ite (Eq.trans (r_is_n (loc' := [some (.ref t0), some (.int x1), some (.int (I (t0_7 + 3) (Int32.toNatClampNeg x1))), some (.int (I (t0_7 + 4) (Int32.toNatClampNeg x1)))]) d181_19 rfl) (Eq.trans (r_al_n d181_20 rfl) (Eq.trans (r_getRe d181_21 f181_34 o_t0.2.1 e_t0_7 o_t0_7.1) (Eq.trans (r_getRe d181_24 f181_77 o_t0_7.2.1 (o_t0_7.2.2.2.2.1) (Nat.le_trans o_t0_7.1 (Nat.le_add_right _ _))) (Eq.trans (r_il_n d181_27 rfl) (Eq.trans (r_iald d181_28 (o_t0_7.2.2.2.2.2.1)) (q_ite (r_lsw d181_29 rfl rfl rfl) rfl))))))) rfl))))))) rfl)))))
end BB
