/-! parts of a state's text: look, hair -/
section P4
variable {scr : List Int32} {dX dM d E N j j1 c a k v t s p p1 most n np nr nl nb nq l0 len gr : Nat} {o g : Bool} {B K A V H cn : Nat → Nat} {q q' : Nat → Int32} {l l' : Nat → Int64} {w : Nat → Int64} {y : Int64} {I J I' J' : Nat → Nat → Int32} {L M L' M' : Nat → Nat → Int64} {R R' : Nat → Nat → Nat}
theorem x57 {S : List hs_S} (hk : k ≤ 38) : hs_C scr d 57 [.int (nI k)] (S, I, L, R) = some (some (.int (swv k)), (S, I, L, R)) := by
  have h1 : ∀ k, k ≤ 38 → ¬ (5 ≤ k ∧ k ≤ 8) → hs_swt (nI k) 5 8 [32, 34, 36, 38] 40 = 40 ∧ swv k = -1 := by decide
  rw [e57, b57_0]
  by_cases g : 5 ≤ k ∧ k ≤ 8
  · rcases (show k = 5 ∨ k = 6 ∨ k = 7 ∨ k = 8 by omega) with rfl | rfl | rfl | rfl
    · rw [show hs_swt (nI 5) 5 8 [32, 34, 36, 38] 40 = 32 by decide, b57_32]; rfl
    · rw [show hs_swt (nI 6) 5 8 [32, 34, 36, 38] 40 = 34 by decide, b57_34]; rfl
    · rw [show hs_swt (nI 7) 5 8 [32, 34, 36, 38] 40 = 36 by decide, b57_36]; rfl
    · rw [show hs_swt (nI 8) 5 8 [32, 34, 36, 38] 40 = 38 by decide, b57_38]; rfl
  · rw [(h1 k hk g).1, b57_40, (h1 k hk g).2]
theorem swv_bd (h : 5 ≤ k ∧ k ≤ 8) : bd (swv k) 3 := by
  rcases (show k = 5 ∨ k = 6 ∨ k = 7 ∨ k = 8 by omega) with rfl | rfl | rfl | rfl
  · exact ⟨2, by omega, rfl⟩
  · exact ⟨1, by omega, rfl⟩
  · exact ⟨0, by omega, rfl⟩
  · exact ⟨3, by omega, rfl⟩
def RLt (n t : Nat) (I J : Nat → Nat → Int32) : Prop := ∀ l k, l < 6 → k < 8 → (k < n → I (t + 13) (l * 8 + k) = J 145 (1596 + (59 + 8 * l + k)) ∧ bd (J 145 (1596 + (59 + 8 * l + k))) 3) ∧ (n ≤ k → I (t + 13) (l * 8 + k) = 3)
theorem ad1655 (k : Nat) : (1655 : Int32) + nI k = nI (1655 + k) := nI_add 1655 k
theorem lookL (o11 : ok11 hs_S0 R 140) (o7 : ok7 hs_S0 R' 10) (r0 : R' 10 0 = 4) (r1 : R' 10 1 = t) (o8 : ok8 hs_S0 R' 4) (o4 : ok4 hs_S0 R' t) (ht : 11 ≤ t) (hK : TKS E N B K A V H) (hn : n ≤ 8) (hl0 : l0 < 6) : ∀ m k {p : Nat} {I : Nat → Nat → Int32} {L : Nat → Nat → Int64} {J : Nat → Nat → Int32} {q : Nat → Int32} {l : Nat → Int64} {w3 : Option Value}, k + m = n → TC N K A V p I L → MC E K A V H p q l → p < N → JB E B J → I (t + 5) 4 = nI n → J 145 1596 = nI n → RLt n t I J → ∃ (I' : Nat → Nat → Int32) (L' : Nat → Nat → Int64) (J' : Nat → Nat → Int32) (q' : Nat → Int32) (l' : Nat → Int64), hs_R scr (d + 9) 252 10 [some (.ref 140), some (.int (nI l0)), some (.int (nI k))] [] (hs_S0, hs_z J 140 q, hs_z M 140 l, R) = some (none, (hs_S0, hs_z J' 140 q', hs_z M 140 l', R)) ∧ (∀ x, x ≠ 4 → x ≠ t + 13 → I' x = I x) ∧ (∀ x, x ≠ 4 → L' x = L x) ∧ I' 4 5 = I 4 5 ∧ (∀ x, x ≠ 145 → J' x = J x) ∧ (∀ f, ¬ (1655 ≤ f ∧ f < 1703) → f ≠ 1599 → J' 145 f = J 145 f) ∧ T140 q l q' l' ∧ ((∃ p1, p ≤ p1 ∧ p1 < N ∧ MC E K A V H p1 q' l' ∧ hs_R scr (d + 8) 61 51 [some (.ref 10), some (.int (nI l0)), some (.int (nI k)), w3] [] (hs_S0, I, L, R') = some (some (.int (if K p1 = 33 then 1 else 0)), (hs_S0, I', L', R')) ∧ (K p1 = 33 → TC N K A V (p1 + 1) I' L') ∧ (K p1 ≠ 33 → BC (fk (K p1) 2) (A p1) I') ∧ RLt n t I' J' ∧ J' 145 1599 = J 145 1599 + 1) ∨ (∃ c a, hs_R scr (d + 8) 61 51 [some (.ref 10), some (.int (nI l0)), some (.int (nI k)), w3] [] (hs_S0, I, L, R') = some (some (.int 0), (hs_S0, I', L', R')) ∧ BC c a I' ∧ BM c a q')) := by
  intro m
  induction m with
  | zero =>
    intro k p I L J q l w3 hk hT hM hp hJ h5 hJ5 hL
    have hkp := (hK.2.2.2.2.2 p hp).1
    obtain ⟨I1, L1, e1, t1, c1, f1⟩ := x44 (scr := scr) (d := d + 7) (R := R') o8 hK.2.1 hT hp
    have m239' := m239 (scr := scr) (d := d + 7) (J := J) (M := M) o11 hM.2.2.2.1
    have eX : hs_R scr (d + 8) 61 51 [some (.ref 10), some (.int (nI l0)), some (.int (nI k)), w3] [] (hs_S0, I, L, R') = hs_R scr (d + 8) 61 64 [some (.ref 10), some (.int (nI l0)), some (.int (nI k)), w3] [] (hs_S0, I1, L1, R') := by
      rw [b61_51 o7 r0 o8, if_neg (show ¬ (8 : Int32) < nI k from nI_nlt (a := 8) (b := k) (by omega) (by omega)), e1]; rfl
    by_cases gt : 5 ≤ K p ∧ K p ≤ 8
    · obtain ⟨I2, z1, z2, z3, z4⟩ := x47 (scr := scr) (d := d + 7) (c := 6) (R := R') o8 c1 hkp
      rw [fk_n (by omega)] at z2
      have ff := T4_tr f1 z3
      refine ⟨I2, L1, J, up (up q 12 (nI 6)) 13 (nI (A p)), l, ?_, fun x h1 _ => ff.1 x h1, ff.2.1, ff.2.2, fun _ _ => rfl, fun _ _ _ => rfl, ⟨fun f hf => by rw [up_n _ _ (by omega), up_n _ _ (by omega)], fun _ _ => rfl⟩, Or.inr ⟨6, A p, ?_, z2, ⟨rfl, rfl, by omega, by omega⟩⟩⟩
      · rw [b252_10 o11, hz_s, hM.2.2.2.2, if_pos rfl, m239']
        simp only [Option.bind_some, Option.toList_some, Option.toList_none, List.append_nil, List.cons_append, List.nil_append]
        rw [b252_21 o11, if_neg (fun q => (swv_0 _ hkp).mp q gt), show (140 + 5 : Nat) = 145 from rfl, hz_row _ _ (by omega), hJ5, if_pos (by rw [show k = n by omega]), hz_s, hM.2.1, show (6 : Int32) = nI 6 from rfl, m220 o11 hM.2.2.2.2]
        simp only [Option.bind_some, Option.toList_some, Option.toList_none, List.append_nil, List.cons_append, List.nil_append]
        rw [b252_46 o11, hz_s, if_neg (show ¬ up (up q 12 (nI 6)) 13 (nI (A p)) 12 ≤ 0 by show ¬ nI 6 ≤ 0; decide)]
      · rw [eX, b61_64 o7 r0 o8, c1.1, if_neg (show ¬ nI (K p) = 33 from fun q => by have := (nI_eq (b := 33) (by omega) (by omega)).mp q; omega), x57 hkp]
        simp only [Option.bind_some, Option.toList_some, Option.toList_none, List.append_nil, List.cons_append, List.nil_append]
        rw [b61_88 o7 r1 o4 r0 o8, if_pos ((i32_nlt _ _).mp (fun q => (swv_0 _ hkp).mp q gt)), f1.1 _ (by omega), h5, if_neg (nI_nlt (by omega) (by omega)), show (6 : Int32) = nI 6 from rfl, z1]
        simp only [Option.bind_some, Option.toList_some, Option.toList_none, List.append_nil, List.cons_append, List.nil_append]
        rw [b61_125]; rfl
    · have eM : hs_R scr (d + 9) 252 10 [some (.ref 140), some (.int (nI l0)), some (.int (nI k))] [] (hs_S0, hs_z J 140 q, hs_z M 140 l, R) = some (none, (hs_S0, hs_z (hs_u J 145 1599 (J 145 1599 + 1)) 140 q, hs_z M 140 l, R)) := by
        rw [b252_10 o11, hz_s, hM.2.2.2.2, if_pos rfl, m239']
        simp only [Option.bind_some, Option.toList_some, Option.toList_none, List.append_nil, List.cons_append, List.nil_append]
        rw [b252_21 o11, if_pos ((swv_0 _ hkp).mpr gt), b252_83 o11, hz_s, hM.2.2.2.2, if_pos rfl, show (140 + 5 : Nat) = 145 from rfl, hz_row _ _ (by omega), hz_cm _ _ _ (by omega), b252_102]
      by_cases g33 : K p = 33
      · refine ⟨I1, L1, hs_u J 145 1599 (J 145 1599 + 1), q, l, eM, fun x h1 _ => f1.1 x h1, f1.2.1, f1.2.2, fun x hx => hu_row _ _ hx, fun f h1 h2 => hu_at _ _ (by omega), T140_rf, Or.inl ⟨p, Nat.le_refl _, hp, hM, ?_, fun _ => t1, fun q => absurd g33 q, fun a b ha hb => ?_, hu_same _ _ _ _⟩⟩
        · rw [eX, b61_64 o7 r0 o8, c1.1, if_pos (show nI (K p) = 33 by rw [g33]; rfl), if_pos g33]
        · rw [f1.1 _ (by omega), hu_at _ _ (by omega)]; exact hL a b ha hb
      · obtain ⟨I2, z1, z2, z3, z4⟩ := x47 (scr := scr) (d := d + 7) (c := 2) (R := R') o8 c1 hkp
        have ff := T4_tr f1 z3
        refine ⟨I2, L1, hs_u J 145 1599 (J 145 1599 + 1), q, l, eM, fun x h1 _ => ff.1 x h1, ff.2.1, ff.2.2, fun x hx => hu_row _ _ hx, fun f h1 h2 => hu_at _ _ (by omega), T140_rf, Or.inl ⟨p, Nat.le_refl _, hp, hM, ?_, fun q => absurd q g33, fun _ => z2, fun a b ha hb => ?_, hu_same _ _ _ _⟩⟩
        · rw [eX, b61_64 o7 r0 o8, c1.1, if_neg (show ¬ nI (K p) = 33 from fun q => g33 ((nI_eq (b := 33) (by omega) (by omega)).mp q)), x57 hkp]
          simp only [Option.bind_some, Option.toList_some, Option.toList_none, List.append_nil, List.cons_append, List.nil_append]
          rw [b61_88 o7 r1 o4 r0 o8, if_neg (fun q => (i32_nlt _ _).mpr q ((swv_0 _ hkp).mpr gt)), show (2 : Int32) = nI 2 from rfl, z1]
          simp only [Option.bind_some, Option.toList_some, Option.toList_none, List.append_nil, List.cons_append, List.nil_append]
          rw [b61_101, if_neg g33]; rfl
        · rw [ff.1 _ (by omega), hu_at _ _ (by omega)]; exact hL a b ha hb
  | succ m ih =>
    intro k p I L J q l w3 hk hT hM hp hJ h5 hJ5 hL
    have hkp := (hK.2.2.2.2.2 p hp).1
    obtain ⟨I1, L1, e1, t1, c1, f1⟩ := x44 (scr := scr) (d := d + 7) (R := R') o8 hK.2.1 hT hp
    have m239' := m239 (scr := scr) (d := d + 7) (J := J) (M := M) o11 hM.2.2.2.1
    have eX : hs_R scr (d + 8) 61 51 [some (.ref 10), some (.int (nI l0)), some (.int (nI k)), w3] [] (hs_S0, I, L, R') = hs_R scr (d + 8) 61 64 [some (.ref 10), some (.int (nI l0)), some (.int (nI k)), w3] [] (hs_S0, I1, L1, R') := by
      rw [b61_51 o7 r0 o8, if_neg (show ¬ (8 : Int32) < nI k from nI_nlt (a := 8) (b := k) (by omega) (by omega)), e1]; rfl
    by_cases gt : 5 ≤ K p ∧ K p ≤ 8
    · have hp1 : p + 1 < N := hK.2.2.2.2.1 p hp (by omega)
      obtain ⟨q1, l1, e2, m2, f2⟩ := m209a (scr := scr) (d := d + 7) (M := M) (J := hs_u J 145 (1655 + (8 * l0 + k)) (swv (K p))) o11 hK (fun i hi => by rw [hu_row _ _ (by omega)]; exact hJ i hi) hp1 hM
      have eM : hs_R scr (d + 9) 252 10 [some (.ref 140), some (.int (nI l0)), some (.int (nI k))] [] (hs_S0, hs_z J 140 q, hs_z M 140 l, R) = hs_R scr (d + 9) 252 10 [some (.ref 140), some (.int (nI l0)), some (.int (nI (k + 1)))] [] (hs_S0, hs_z (hs_u J 145 (1655 + (8 * l0 + k)) (swv (K p))) 140 q1, hs_z M 140 l1, R) := by
        rw [b252_10 o11, hz_s, hM.2.2.2.2, if_pos rfl, m239']
        simp only [Option.bind_some, Option.toList_some, Option.toList_none, List.append_nil, List.cons_append, List.nil_append]
        rw [b252_21 o11, if_neg (fun q => (swv_0 _ hkp).mp q gt), show (140 + 5 : Nat) = 145 from rfl, hz_row _ _ (by omega), hJ5, if_neg (fun q => by have := (nI_eq (by omega) (by omega)).mp q; omega), b252_46 o11, hz_s, hM.2.2.2.2, if_pos (by decide), m239']
        simp only [Option.bind_some, Option.toList_some, Option.toList_none, List.append_nil, List.cons_append, List.nil_append]
        rw [show (140 + 5 : Nat) = 145 from rfl, b252_72 (S := hs_S0) (u0 := 145) (n_u0 := 1995) (a_u0 := rfl) (o_t0 := o11), ml8, ad1655, nI_add, if_pos (ib_nI (by omega) (by omega)), nI_clamp (by omega), hz_cm _ _ _ (by omega), Nat.add_assoc, e2]
        simp only [Option.bind_some, Option.toList_some, Option.toList_none, List.append_nil, List.cons_append, List.nil_append]
        rw [b252_80, nI_1]
      have eX2 : hs_R scr (d + 8) 61 51 [some (.ref 10), some (.int (nI l0)), some (.int (nI k)), w3] [] (hs_S0, I, L, R') = hs_R scr (d + 8) 61 51 [some (.ref 10), some (.int (nI l0)), some (.int (nI (k + 1))), some (.int (swv (K p)))] [] (hs_S0, hs_u I1 (t + 13) (l0 * 8 + k) (swv (K p)), L1, R') := by
        rw [eX, b61_64 o7 r0 o8, c1.1, if_neg (show ¬ nI (K p) = 33 from fun q => by have := (nI_eq (b := 33) (by omega) (by omega)).mp q; omega), x57 hkp]
        simp only [Option.bind_some, Option.toList_some, Option.toList_none, List.append_nil, List.cons_append, List.nil_append]
        rw [b61_88 o7 r1 o4 r0 o8, if_pos ((i32_nlt _ _).mp (fun q => (swv_0 _ hkp).mp q gt)), f1.1 _ (by omega), h5, if_pos (nI_lt (by omega) (by omega)), e62, b62_0 o4, mr8, nI_add, if_pos (ib_nI (by omega) (by omega)), nI_clamp (by omega)]
        simp only [Option.bind_some, Option.toList_some, Option.toList_none, List.append_nil, List.cons_append, List.nil_append]
        rw [b61_136, nI_1]
      obtain ⟨I', L', J', q', l', a1, a2, a3, a4, a5, a6, a7, a8⟩ := ih (k + 1) (p := p + 1) (I := hs_u I1 (t + 13) (l0 * 8 + k) (swv (K p))) (L := L1) (J := hs_u J 145 (1655 + (8 * l0 + k)) (swv (K p))) (q := q1) (l := l1) (w3 := some (.int (swv (K p)))) (by omega) (TC_r t1 (fun x hx => hu_row _ _ (by omega)) rfl) m2 hp1 (fun i hi => by rw [hu_row _ _ (by omega)]; exact hJ i hi) (by rw [hu_row _ _ (by omega), f1.1 _ (by omega)]; exact h5) (by rw [hu_at _ _ (by omega)]; exact hJ5) (fun a b ha hb => by
        by_cases ge : a = l0 ∧ b = k
        · obtain ⟨rfl, rfl⟩ := ge
          rw [hu_same, show 1596 + (59 + 8 * a + b) = 1655 + (8 * a + b) by omega, hu_same]
          exact ⟨fun _ => ⟨rfl, swv_bd gt⟩, fun q => by omega⟩
        · rw [hu_at _ _ (by omega), hu_at _ _ (by omega), f1.1 _ (by omega)]; exact hL a b ha hb)
      refine ⟨I', L', J', q', l', eM.trans a1, fun x h1 h2 => by rw [a2 x h1 h2, hu_row _ _ h2, f1.1 x h1], fun x h1 => by rw [a3 x h1, f1.2.1 x h1], by rw [a4, hu_row _ _ (by omega)]; exact f1.2.2, fun x hx => by rw [a5 x hx, hu_row _ _ hx], fun f h1 h2 => by rw [a6 f h1 h2, hu_at _ _ (by omega)], T140_tr f2 a7, ?_⟩
      rcases a8 with ⟨p1, b1, b2, b3, b4, b5, b6, b7, b8⟩ | ⟨c, a, b1, b2, b3⟩
      · exact Or.inl ⟨p1, by omega, b2, b3, eX2.trans b4, b5, b6, b7, by rw [b8, hu_at _ _ (by omega)]⟩
      · exact Or.inr ⟨c, a, eX2.trans b1, b2, b3⟩
    · have eM : hs_R scr (d + 9) 252 10 [some (.ref 140), some (.int (nI l0)), some (.int (nI k))] [] (hs_S0, hs_z J 140 q, hs_z M 140 l, R) = some (none, (hs_S0, hs_z (hs_u J 145 1599 (J 145 1599 + 1)) 140 q, hs_z M 140 l, R)) := by
        rw [b252_10 o11, hz_s, hM.2.2.2.2, if_pos rfl, m239']
        simp only [Option.bind_some, Option.toList_some, Option.toList_none, List.append_nil, List.cons_append, List.nil_append]
        rw [b252_21 o11, if_pos ((swv_0 _ hkp).mpr gt), b252_83 o11, hz_s, hM.2.2.2.2, if_pos rfl, show (140 + 5 : Nat) = 145 from rfl, hz_row _ _ (by omega), hz_cm _ _ _ (by omega), b252_102]
      by_cases g33 : K p = 33
      · refine ⟨I1, L1, hs_u J 145 1599 (J 145 1599 + 1), q, l, eM, fun x h1 _ => f1.1 x h1, f1.2.1, f1.2.2, fun x hx => hu_row _ _ hx, fun f h1 h2 => hu_at _ _ (by omega), T140_rf, Or.inl ⟨p, Nat.le_refl _, hp, hM, ?_, fun _ => t1, fun q => absurd g33 q, fun a b ha hb => ?_, hu_same _ _ _ _⟩⟩
        · rw [eX, b61_64 o7 r0 o8, c1.1, if_pos (show nI (K p) = 33 by rw [g33]; rfl), if_pos g33]
        · rw [f1.1 _ (by omega), hu_at _ _ (by omega)]; exact hL a b ha hb
      · obtain ⟨I2, z1, z2, z3, z4⟩ := x47 (scr := scr) (d := d + 7) (c := 2) (R := R') o8 c1 hkp
        have ff := T4_tr f1 z3
        refine ⟨I2, L1, hs_u J 145 1599 (J 145 1599 + 1), q, l, eM, fun x h1 _ => ff.1 x h1, ff.2.1, ff.2.2, fun x hx => hu_row _ _ hx, fun f h1 h2 => hu_at _ _ (by omega), T140_rf, Or.inl ⟨p, Nat.le_refl _, hp, hM, ?_, fun q => absurd q g33, fun _ => z2, fun a b ha hb => ?_, hu_same _ _ _ _⟩⟩
        · rw [eX, b61_64 o7 r0 o8, c1.1, if_neg (show ¬ nI (K p) = 33 from fun q => g33 ((nI_eq (b := 33) (by omega) (by omega)).mp q)), x57 hkp]
          simp only [Option.bind_some, Option.toList_some, Option.toList_none, List.append_nil, List.cons_append, List.nil_append]
          rw [b61_88 o7 r1 o4 r0 o8, if_neg (fun q => (i32_nlt _ _).mpr q ((swv_0 _ hkp).mpr gt)), show (2 : Int32) = nI 2 from rfl, z1]
          simp only [Option.bind_some, Option.toList_some, Option.toList_none, List.append_nil, List.cons_append, List.nil_append]
          rw [b61_101, if_neg g33]; rfl
        · rw [ff.1 _ (by omega), hu_at _ _ (by omega)]; exact hL a b ha hb
theorem rdLook (hP : PH E N B K A V H R R' t j I L J q M l n np nr nl nb nq o g) (hk : K j ≠ 38) : PRes scr (d + 8) (d + 9) E N B K A V H R R' t j 61 252 [] I L J q M l := by
  obtain ⟨o11, o7, r0, r1, o8, o4, ht, hK, hJ, hj, hT, hC, hM, hS⟩ := hP; obtain ⟨hcn, hcnt⟩ := SP_cnb hS; have hkj := (hK.2.2.2.2.2 j (by omega)).1; obtain ⟨sH, sP, sU, sL, sB, sD, sN, sZ, so, sg, sq⟩ := id hS
  have hnr := sL.1
  have eI : I t 10 = nI nl := sL.2.2.1
  have eJ : J 145 1599 = nI nl := sL.2.1
  have eM : hs_C scr (d + 9) 252 [.ref 140] (hs_S0, hs_z J 140 q, hs_z M 140 l, R) = ((hs_C scr (d + 8) 227 [.ref 140, .int (nI 3), .int (nI 6)] (hs_S0, hs_z J 140 q, hs_z M 140 l, R)).bind fun o => hs_R scr (d + 9) 252 7 [some (.ref 140), none, none] (o.1.toList ++ []) o.2) := by
    rw [e252, b252_0 o11]; rfl
  have eMb : ∀ {q1 : Nat → Int32} {l1 : Nat → Int64} {M1 : Nat → Nat → Int64} {x : Int32} {c a : Nat}, BM c a q1 → hs_R scr (d + 9) 252 7 [some (.ref 140), none, none] [.int x] (hs_S0, hs_z J 140 q1, hs_z M1 140 l1, R) = some (none, (hs_S0, hs_z J 140 q1, hs_z M1 140 l1, R)) := by
    intro q1 l1 M1 x c a hb
    rw [b252_7, b252_10 o11, hz_s, if_neg (BM_n hb).2.1, b252_83 o11, hz_s, if_neg (BM_n hb).2.1, b252_102]
  by_cases g6 : nl < 6
  · have e4 : sl5 n np nr nl nb 3 = nl := sl5_3
    have hcn' : cnb (up (sl5 n np nr nl nb) 3 (sl5 n np nr nl nb 3 + 1)) := by
      obtain ⟨b0, b1, b2, b3, b4⟩ := hcn
      exact ⟨b0, b1, b2, by rw [up_s, e4]; omega, b4⟩
    obtain ⟨I1, L1, q1, l1, M1, f1, f2, f3, f4, f5, f6, hor⟩ := jNew (scr := scr) (d := d + 4) (dm := d + 2) (s := 3) (most := 6) o11 o7 r0 r1 o8 o4 (by omega) (by omega) hK hJ hj hT hM (by omega) hcn hcn' hcnt sN (by rw [e4]; exact g6) (by omega)
    rw [e4] at hor
    have eX : hs_C scr (d + 8) 61 [.ref 10] (hs_S0, I, L, R') = ((hs_C scr (d + 7) 53 [.ref 10, .int (kd 3), .int (nI nl)] (hs_S0, I, L, R')).bind fun o => hs_R scr (d + 8) 61 31 [some (.ref 10), some (.int (nI nl)), none, none] (o.1.toList ++ []) o.2) := by
      rw [e61, b61_0 o7 r1 o4 r0 o8, eI, if_pos (show nI nl < (6 : Int32) from nI_lt (b := 6) g6 (by omega))]; rfl
    have hF1 : FX t I L I1 L1 := ⟨fun k a b c => f1 k a (by omega) (by omega) (by omega), fun k a b => f2 k a b, f3⟩
    rcases hor with ⟨a1, a2, a3, a4, a5, a6⟩ | ⟨c, a, a1, a2, a3, a4⟩
    · have eN := a6
      have eI1 : I1 t 10 = nI nl := by rw [f1 t (by omega) (by omega) (by omega) (by omega)]; exact eI
      have eX1 : hs_C scr (d + 8) 61 [.ref 10] (hs_S0, I, L, R') = hs_R scr (d + 8) 61 51 [some (.ref 10), some (.int (nI nl)), some (.int (nI 0)), none] [] (hs_S0, hs_u I1 t 10 (nI (nl + 1)), L1, R') := by
        rw [eX, a1]
        simp only [Option.bind_some, Option.toList_some, Option.toList_none, List.append_nil, List.cons_append, List.nil_append]
        rw [b61_31 o7 r1 o4, if_neg (by decide), eI1, nI_1, nI_0]
      have eM1 : hs_C scr (d + 9) 252 [.ref 140] (hs_S0, hs_z J 140 q, hs_z M 140 l, R) = hs_R scr (d + 9) 252 10 [some (.ref 140), some (.int (nI nl)), some (.int (nI 0))] [] (hs_S0, hs_z J 140 q1, hs_z M1 140 l1, R) := by
        rw [eM, a2]
        simp only [Option.bind_some, Option.toList_some, Option.toList_none, List.append_nil, List.cons_append, List.nil_append]
        rw [b252_7, nI_0]
      obtain ⟨I2, L2, J2, q2, l2, b1, b2, b3, b4, b5, b6, b7, b8⟩ := lookL (scr := scr) (d := d) (M := M1) (l0 := nl) (R := R) (R' := R') o11 o7 r0 r1 o8 o4 (by omega) hK sH.1 g6 n 0 (p := j + 2) (I := hs_u I1 t 10 (nI (nl + 1))) (L := L1) (J := J) (q := q1) (l := l1) (w3 := none) (by omega) (TC_r a4 (fun x hx => hu_row _ _ (by omega)) rfl) a5 a3 hJ (by rw [hu_row _ _ (by omega), f1 _ (by omega) (by omega) (by omega) (by omega)]; exact sH.2.2.1) sH.2.1 (fun a b ha hb => by
        rw [hu_row _ _ (by omega), f1 _ (by omega) (by omega) (by omega) (by omega)]; exact sL.2.2.2 a b ha hb)
      have hF2 : FX t I L I2 L2 := FX_tr hF1 ⟨fun k h1 h2 h3 => by rw [b2 k h1 (by omega), hu_row _ _ (by omega)], fun k h1 h2 => b3 k h1, by rw [b4, hu_row _ _ (by omega)]⟩
      have hM2 : FM J q M l J2 q2 M1 l2 := FM_tr (FM_q (T140_tr f4 b7)) (FM_tr (FM_M f5 f6) ⟨b5, fun f hf => b6 f (by omega) (by omega), fun _ _ => rfl, fun _ _ => rfl, fun _ _ => rfl, fun _ _ => rfl⟩)
      refine ⟨I2, L2, J2, q2, M1, l2, hF2, hM2, eM1.trans b1, ?_⟩
      rcases b8 with ⟨p1, c1, c2, c3, c4, c5, c6, c7, c8⟩ | ⟨c, a, c1, c2, c3⟩
      · refine Or.inl ⟨p1, by omega, c2, c3, eX1.trans c4, fun q => ⟨c5 q, n, np, nr, nl + 1, nb, nq, o, g, ?_⟩, c6⟩
        have hq25 : q2 25 = tld o g := (b7.1 25 (by omega)).trans ((f4.1 25 (by omega)).trans sq)
        have hcc : ∀ s, s < 5 → sl5 n np nr (nl + 1) nb s = up (sl5 n np nr nl nb) 3 (nl + 1) s := by intro s hs; rcases (show s = 0 ∨ s = 1 ∨ s = 2 ∨ s = 3 ∨ s = 4 by omega) with rfl | rfl | rfl | rfl | rfl <;> first | rfl | (rw [up_s]; rfl)
        refine ⟨RH_cg sH (fun k hk => b6 _ (by omega) (by omega)) (by simp (disch := omega) only [b2, hu_same, hu_row, hu_at, hu_hu, f1]) (by simp (disch := omega) only [b2, hu_same, hu_row, hu_at, hu_hu, f1]) (by simp (disch := omega) only [b2, hu_same, hu_row, hu_at, hu_hu, f1]) (by simp (disch := omega) only [b2, hu_same, hu_row, hu_at, hu_hu, f1]) (by simp (disch := omega) only [b2, hu_same, hu_row, hu_at, hu_hu, f1]), RP_cg sP (fun k hk => b6 _ (by omega) (by omega)) (by simp (disch := omega) only [b2, hu_same, hu_row, hu_at, hu_hu, f1]) (by simp (disch := omega) only [b2, hu_same, hu_row, hu_at, hu_hu, f1]) (by simp (disch := omega) only [b2, hu_same, hu_row, hu_at, hu_hu, f1]), RU0_cg sU (fun k hk => b6 _ (by omega) (by omega)) (by simp (disch := omega) only [b2, hu_same, hu_row, hu_at, hu_hu, f1]) (by simp (disch := omega) only [b2, hu_same, hu_row, hu_at, hu_hu, f1]), ⟨by omega, ?_, ?_, fun a b ha hb => c7 a b ha hb⟩, RB_cg sB (fun k hk => b6 _ (by omega) (by omega)) (by simp (disch := omega) only [b2, hu_same, hu_row, hu_at, hu_hu, f1]) (by simp (disch := omega) only [b2, hu_same, hu_row, hu_at, hu_hu, f1]) (by simp (disch := omega) only [b2, hu_same, hu_row, hu_at, hu_hu, f1]) (by simp (disch := omega) only [b2, hu_same, hu_row, hu_at, hu_hu, f1]), RD_cg sD (fun k hk => b6 _ (by omega) (by omega)) (by simp (disch := omega) only [b2, hu_same, hu_row, hu_at, hu_hu, f1]) (by simp (disch := omega) only [b2, hu_same, hu_row, hu_at, hu_hu, f1]) (by simp (disch := omega) only [b2, hu_same, hu_row, hu_at, hu_hu, f1]) (by simp (disch := omega) only [b2, hu_same, hu_row, hu_at, hu_hu, f1]), RN_cg (RN_cn eN hcc) (fun k hk => rfl) (by simp (disch := omega) only [b2, hu_same, hu_row, hu_at, hu_hu]) (by simp (disch := omega) only [b2, hu_same, hu_row, hu_at, hu_hu]) (by simp (disch := omega) only [b2, hu_same, hu_row, hu_at, hu_hu]) (b3 _ (by omega)), Z0_cg sZ (fun k hk => b6 _ (by omega) (by omega)), by simp (disch := omega) only [b2, hu_same, hu_row, hu_at, hu_hu, f1]; exact so, by simp (disch := omega) only [b2, hu_same, hu_row, hu_at, hu_hu, f1]; exact sg, hq25⟩
        · show J2 145 1599 = nI (nl + 1)
          rw [c8, eJ, nI_1]
        · rw [b2 t (by omega) (by omega), hu_same]
      · exact Or.inr ⟨c, a, eX1.trans c1, c2, c3⟩
    · refine ⟨I1, L1, J, q1, M1, l1, hF1, FM_tr (FM_q f4) (FM_M f5 f6), ?_, Or.inr ⟨c, a, ?_, a2, a4⟩⟩
      · rw [eM, a3]
        simp only [Option.bind_some, Option.toList_some, Option.toList_none, List.append_nil, List.cons_append, List.nil_append]
        exact eMb a4
      · rw [eX, a1]
        simp only [Option.bind_some, Option.toList_some, Option.toList_none, List.append_nil, List.cons_append, List.nil_append]
        rw [b61_31 o7 r1 o4, if_pos rfl]
  · have e6 : nl = 6 := by omega
    obtain ⟨q1, a1, a2, a3⟩ := m227f (scr := scr) (d := d + 6) (s := 3) (most := 6) (J := J) (M := M) o11 hM (by omega) (by rw [hcnt 3 (by omega), sl5_3, e6])
    obtain ⟨I1, z1, z2, z3, z4⟩ := x47 (scr := scr) (d := d + 7) (c := 6) (R := R') o8 hC hkj
    rw [fk_n hk] at z2
    refine ⟨I1, L, J, q1, M, l, FX_4 z3, FM_q a3, ?_, Or.inr ⟨6, A j, ?_, z2, a2⟩⟩
    · rw [eM, a1]
      simp only [Option.bind_some, Option.toList_some, Option.toList_none, List.append_nil, List.cons_append, List.nil_append]
      exact eMb a2
    · rw [e61, b61_0 o7 r1 o4 r0 o8, eI, if_neg (show ¬ nI nl < (6 : Int32) from nI_nlt (a := nl) (b := 6) (by omega) (by omega)), show (6 : Int32) = nI 6 from rfl, z1]
      simp only [Option.bind_some, Option.toList_some, Option.toList_none, List.append_nil, List.cons_append, List.nil_append]
      rw [b61_23]; rfl
end P4
