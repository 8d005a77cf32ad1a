/-! state -/
section S2
variable {scr : List Int32} {d E N j r c a k v t s rt st pt qt n np nr nl nb nq : Nat} {o g : Bool} {B K A V H cn : Nat → Nat} {q q' : Nat → Int32} {l l' : Nat → Int64} {x1 : Int32} {I J I' J' X : Nat → Nat → Int32} {L M L' M' LX : Nat → Nat → Int64} {R R' : Nat → Nat → Nat}
theorem x9_l (o4 : ok4 hs_S0 R t) : ∀ m i, i + m = 48 → hs_R scr d 9 69 [some (.ref t), some (.int (nI i))] [] (hs_S0, wr I (t + 13) 0 i (fun _ => 3), L, R) = some (none, (hs_S0, wr I (t + 13) 0 48 (fun _ => 3), L, R))
  | 0, i, e => by
    have : i = 48 := by omega
    subst this
    rw [b9_69 o4, if_pos (show (48 : Int32) ≤ nI 48 by decide)]
  | m + 1, i, e => by
    have hw := wr_s I (t + 13) 0 i (fun _ => (3 : Int32))
    rw [Nat.zero_add] at hw
    rw [b9_69 o4, if_neg (show ¬ (48 : Int32) ≤ nI i from nI_ge (b := 48) (by omega) (by omega)), if_pos (ib_nI (by omega) (by omega)), nI_clamp (by omega), nI_1, hw]
    exact x9_l o4 m (i + 1) (by omega)
theorem x9 (o4 : ok4 hs_S0 R t) : hs_C scr d 9 [.ref t] (hs_S0, I, L, R) = some (none, (hs_S0, wr (hs_u (hs_u (hs_u (hs_u (hs_u (hs_u (hs_u (hs_u (hs_u (hs_u (hs_u (hs_u I (t + 1) 3 0) (t + 5) 4 0) t 8 0) t 9 0) t 10 0) t 11 0) t 12 0) t 13 2) t 14 20) t 15 0) t 16 1) t 17 (-1)) (t + 13) 0 48 (fun _ => 3), L, R)) := by
  rw [e9, b9_0 o4]
  have := x9_l (scr := scr) (d := d) (I := hs_u (hs_u (hs_u (hs_u (hs_u (hs_u (hs_u (hs_u (hs_u (hs_u (hs_u (hs_u I (t + 1) 3 0) (t + 5) 4 0) t 8 0) t 9 0) t 10 0) t 11 0) t 12 0) t 13 2) t 14 20) t 15 0) t 16 1) t 17 (-1)) (L := L) o4 48 0 rfl
  rw [wr_0, nI_0] at this
  exact this
def em4 (X : Nat → Nat → Int32) : Nat → Nat → Int32 := hs_u (hs_u (hs_u (wr X 145 1596 399 (fun _ => 0)) 145 1602 2) 145 1603 20) 145 1605 1
theorem m192_l (o11 : ok11 hs_S0 R 140) {ML : Nat → Nat → Int64} : ∀ m i, i + m = 399 → hs_R scr d 192 8 [some (.ref 140), some (.int 4), some (.int (nI 1596)), some (.int (nI i))] [] (hs_S0, hs_z (wr X 145 1596 i (fun _ => 0)) 140 q, ML, R) = some (none, (hs_S0, hs_z (em4 X) 140 q, ML, R))
  | 0, i, e => by
    have : i = 399 := by omega
    subst this
    rw [b192_8 o11, if_pos (show (399 : Int32) ≤ nI 399 by decide), show nI 1596 + 6 = nI 1602 from nI_add 1596 6, show nI 1596 + 7 = nI 1603 from nI_add 1596 7, show nI 1596 + 9 = nI 1605 from nI_add 1596 9, if_pos (ib_nI (by omega) (by omega)), if_pos (ib_nI (by omega) (by omega)), if_pos (ib_nI (by omega) (by omega)), nI_clamp (by omega), nI_clamp (by omega), nI_clamp (by omega), show (140 + 5 : Nat) = 145 from rfl, hz_cm _ _ _ (by omega), hz_cm _ _ _ (by omega), hz_cm _ _ _ (by omega)]; rfl
  | m + 1, i, e => by
    have hw := wr_s X 145 1596 i (fun _ => (0 : Int32))
    rw [b192_8 o11, if_neg (show ¬ (399 : Int32) ≤ nI i from nI_ge (b := 399) (by omega) (by omega)), nI_add, if_pos (ib_nI (by omega) (by omega)), nI_clamp (by omega), show (140 + 5 : Nat) = 145 from rfl, hz_cm _ _ _ (by omega), nI_1, hw]
    exact m192_l o11 m (i + 1) (by omega)
theorem em4_r (h : k ≠ 145) : em4 X k = X k := by
  unfold em4; simp (disch := omega) only [hu_row, wr_row]
theorem em4_lo (h : k < 1596) : em4 X 145 k = X 145 k := by
  unfold em4; simp (disch := omega) only [hu_at]; exact wr_out _ _ (by omega) _
theorem em4_0 (h : k < 399) (h6 : k ≠ 6 ∧ k ≠ 7 ∧ k ≠ 9) : em4 X 145 (1596 + k) = 0 := by
  unfold em4; simp (disch := omega) only [hu_at]; exact wr_in _ _ (by omega)
theorem em4_6 : em4 X 145 1602 = 2 ∧ em4 X 145 1603 = 20 ∧ em4 X 145 1605 = 1 := by
  unfold em4; simp (disch := omega) only [hu_at, hu_same, and_self]
/-- the reference begins a text -/
theorem m208 (o11 : ok11 hs_S0 R 140) (hK : TKS E N B K A V H) (hN : 0 < N) (h0 : H 0 = 0) (hJ : JB E B J) {ts mo : Nat} (h8 : q 8 = nI ts) (hts : ts ≤ 900) (hE : E ≤ ts) (hEm : E ≤ mo) (hmo : mo ≤ 900) : ∃ q' l', hs_C scr (d + 2) 208 [.ref 140, .int (nI E), .int (nI mo)] (hs_S0, hs_z J 140 q, hs_z M 140 l, R) = some (some (.int 1), (hs_S0, hs_z J 140 q', hs_z M 140 l', R)) ∧ MC E K A V H 0 q' l' ∧ q' 8 = 0 ∧ (∀ f, f ≠ 8 → f ≠ 9 → f < 12 ∨ 18 < f → q' f = q f) ∧ (∀ f, f ≠ 19 → l' f = l f) := by
  obtain ⟨k1, k2, k3, k4, k5, k6⟩ := hK
  obtain ⟨q', l', a1, a2, a3, a4, a5, a6⟩ := m209 (scr := scr) (d := d) (q := up (up (up (up q 9 (nI E)) 8 0) 16 0) 12 0) (M := M) (l := l) (h := 0) o11 rfl rfl k1 hJ k3 (h0 ▸ k4 0 hN)
  refine ⟨q', l', ?_, ⟨(a5 9 (by omega)).trans rfl, a2, a3, a4, (a5 12 (by omega)).trans rfl⟩, (a5 8 (by omega)).trans rfl, fun f f1 f2 f3 => by rw [a5 f (by omega), up_n _ _ (by omega), up_n _ _ (by omega), up_n _ _ (by omega), up_n _ _ (by omega)], a6⟩
  rw [e208, b208_0 o11, if_neg (nI_pos (by omega)), hz_s, h8, if_neg (nI_nlt hE (by omega)), if_pos (nI_le hEm (by omega)), hz_u, hz_u, hz_u, hz_u, a1]
  simp only [Option.bind_some, Option.toList_some, Option.toList_none, List.append_nil, List.cons_append, List.nil_append]
  rw [b208_47]
theorem m258g (o11 : ok11 hs_S0 R 140) (h : q 12 = 0) : hs_C scr (d + 1) 258 [.ref 140] (hs_S0, hs_z J 140 q, hs_z M 140 l, R) = some (some (.int 1), (hs_S0, hs_z J 140 (up (up q 10 0) 11 (-1)), hs_z M 140 l, R)) := by
  rw [e258, b258_0 o11, hz_s, h, hz_u, hz_s, up_n _ _ (by omega), h, if_pos rfl, b258_24 o11 o11, hz_u, hz_s, up_n _ _ (by omega), up_n _ _ (by omega), h, if_pos rfl, b258_43, b258_48]; rfl
theorem m258b (o11 : ok11 hs_S0 R 140) (h : BM c a q) : hs_C scr (d + 1) 258 [.ref 140] (hs_S0, hs_z J 140 q, hs_z M 140 l, R) = some (some (.int 0), (hs_S0, hs_z J 140 (up (up (up q 10 (nI c)) 11 (nI a)) 0 10), hs_z M 140 l, R)) := by
  have hn := (BM_n h).2.1
  rw [e258, b258_0 o11, hz_s, h.1, hz_u, hz_s, up_n _ _ (by omega), if_neg hn, up_n _ _ (by omega), h.2.1, b258_24 o11 o11, hz_u, hz_s, up_n _ _ (by omega), up_n _ _ (by omega), if_neg hn, e197, b197_0 o11, hz_u]
  simp only [Option.bind_some, Option.toList_some, Option.toList_none, List.append_nil, List.cons_append, List.nil_append]
  rw [b258_40, if_pos rfl, b258_48]; rfl
/-- class and reference read the same text -/
theorem stBoth (o11 : ok11 hs_S0 R 140) (o7 : ok7 hs_S0 R' 10) (r0 : R' 10 0 = 4) (r1 : R' 10 1 = t) (o8 : ok8 hs_S0 R' 4) (o4 : ok4 hs_S0 R' t) (ht : t = 18 ∨ t = 34) (hK : TKS E N B K A V H) (hN : 0 < N) (h0 : H 0 = 0) (hJ : JB E B X) {ts : Nat} (h8 : X 140 8 = nI ts) (hts : ts ≤ 900) (hE : E ≤ ts) (hT : TC N K A V 0 I L) : ∃ (I' : Nat → Nat → Int32) (L' : Nat → Nat → Int64) (J' : Nat → Nat → Int32) (q' : Nat → Int32) (M' : Nat → Nat → Int64) (l' : Nat → Int64), FX t (hs_u (hs_u (wr (hs_u (hs_u (hs_u (hs_u (hs_u (hs_u (hs_u (hs_u (hs_u (hs_u (hs_u (hs_u I (t + 1) 3 0) (t + 5) 4 0) t 8 0) t 9 0) t 10 0) t 11 0) t 12 0) t 13 2) t 14 20) t 15 0) t 16 1) t 17 (-1)) (t + 13) 0 48 (fun _ => 3)) 10 2 0) 10 3 0) L I' L' ∧ (∀ k, k ≠ 145 → J' k = X k) ∧ (∀ f, f < 1596 → J' 145 f = X 145 f) ∧ (∀ k, k ≠ 148 → M' k = LX k) ∧ (∀ f, f < 124 → M' 148 f = LX 148 f) ∧ (∀ f, f ≠ 0 → f ≠ 1 → f ≠ 8 → f ≠ 9 → f < 12 ∨ (18 < f ∧ f ≠ 25) → q' f = X 140 f) ∧ q' 8 = 0 ∧ q' 0 = 0 ∧ (∀ f, f ≠ 19 → l' f = LX 140 f) ∧ hs_C scr 99 207 [.ref 140, .int (nI E)] (hs_S0, X, LX, R) = hs_R scr 99 207 64 [some (.ref 140), some (.int (nI E))] [] (hs_S0, hs_z J' 140 q', hs_z M' 140 l', R) ∧ ((hs_R scr 98 43 10 [some (.ref 10), some (.ref 4), some (.ref t), none] [] (hs_S0, I, L, R') = some (some (.int 1), (hs_S0, I', L', R')) ∧ q' 12 = 0 ∧ I' 4 11 = 0 ∧ I' 4 12 = -1 ∧ ∃ n np nr nl nb nq o g, SP n np nr nl nb nq o g t I' L' J' M' q' ∧ I' t 17 = (if nr = 0 then -1 else 0)) ∨ (∃ c a, hs_R scr 98 43 10 [some (.ref 10), some (.ref 4), some (.ref t), none] [] (hs_S0, I, L, R') = some (some (.int 0), (hs_S0, I', L', R')) ∧ BC c a I' ∧ BM c a q')) := by
  obtain ⟨q1, l1, a1, a2, a3, a4, a5⟩ := m208 (scr := scr) (d := 96) (q := up (up (X 140) 1 0) 0 0) (l := LX 140) (J := X) (M := LX) (mo := 900) o11 hK hN h0 hJ h8 hts hE (by omega) (by omega)
  have hT2 : TC N K A V 0 (hs_u (hs_u (wr (hs_u (hs_u (hs_u (hs_u (hs_u (hs_u (hs_u (hs_u (hs_u (hs_u (hs_u (hs_u I (t + 1) 3 0) (t + 5) 4 0) t 8 0) t 9 0) t 10 0) t 11 0) t 12 0) t 13 2) t 14 20) t 15 0) t 16 1) t 17 (-1)) (t + 13) 0 48 (fun _ => 3)) 10 2 0) 10 3 0) L := TC_r hT (fun k hk => by simp (disch := omega) only [hu_row, wr_row]) rfl
  have hSP : SP 0 0 0 0 0 0 false false t (hs_u (hs_u (wr (hs_u (hs_u (hs_u (hs_u (hs_u (hs_u (hs_u (hs_u (hs_u (hs_u (hs_u (hs_u I (t + 1) 3 0) (t + 5) 4 0) t 8 0) t 9 0) t 10 0) t 11 0) t 12 0) t 13 2) t 14 20) t 15 0) t 16 1) t 17 (-1)) (t + 13) 0 48 (fun _ => 3)) 10 2 0) 10 3 0) L (em4 X) LX (up q1 25 0) := by
    have z0 : ∀ k, k < 399 → k ≠ 6 ∧ k ≠ 7 ∧ k ≠ 9 → em4 X 145 (1596 + k) = 0 := fun k h1 h2 => em4_0 h1 h2
    refine ⟨⟨by omega, z0 0 (by omega) (by omega), ?_, fun k hk => by omega⟩, ⟨by omega, z0 1 (by omega) (by omega), ?_, fun k hk => by omega⟩, ⟨by omega, z0 2 (by omega) (by omega), ?_, fun k hk => by omega⟩, ⟨by omega, z0 3 (by omega) (by omega), ?_, fun a b ha hb => ⟨fun q => by omega, fun _ => ?_⟩⟩, ⟨by omega, by omega, z0 4 (by omega) (by omega), ?_, z0 5 (by omega) (by omega), ?_, fun k hk => by omega⟩, ⟨⟨?_, 2, by omega, em4_6.1⟩, ⟨?_, 20, by omega, by omega, em4_6.2.1⟩, ⟨?_, 0, by omega, z0 8 (by omega) (by omega)⟩, ⟨?_, Or.inr em4_6.2.2⟩⟩, ⟨0, by omega, ?_, fun i hi => by omega, fun s k hs hk => ?_, fun i j hi => by omega⟩, ⟨z0 58 (by omega) (by omega), z0 127 (by omega) (by omega), fun k hk => z0 (34 + k) (by omega) (by omega)⟩, ?_, ?_, ?_⟩
    · simp (disch := omega) only [hu_same, hu_row, hu_at, hu_hu, wr_row]; rfl
    · simp (disch := omega) only [hu_same, hu_row, hu_at, hu_hu, wr_row]; rfl
    · simp (disch := omega) only [hu_same, hu_row, hu_at, hu_hu, wr_row]; rfl
    · simp (disch := omega) only [hu_same, hu_row, hu_at, hu_hu, wr_row]; rfl
    · simp (disch := omega) only [hu_row]; exact wr_in _ _ (by omega)
    · simp (disch := omega) only [hu_same, hu_row, hu_at, hu_hu, wr_row]; rfl
    · simp (disch := omega) only [hu_same, hu_row, hu_at, hu_hu, wr_row]; rfl
    · simp (disch := omega) only [hu_same, hu_row, hu_at, hu_hu, wr_row]; exact em4_6.1.symm
    · simp (disch := omega) only [hu_same, hu_row, hu_at, hu_hu, wr_row]; exact em4_6.2.1.symm
    · simp (disch := omega) only [hu_same, hu_row, hu_at, hu_hu, wr_row]; exact (z0 8 (by omega) (by omega)).symm
    · simp (disch := omega) only [hu_same, hu_row, hu_at, hu_hu, wr_row]; exact em4_6.2.2.symm
    · simp (disch := omega) only [hu_same, hu_row, hu_at, hu_hu, wr_row]; rfl
    · exfalso
      rcases (show s = 0 ∨ s = 1 ∨ s = 2 ∨ s = 3 ∨ s = 4 by omega) with rfl | rfl | rfl | rfl | rfl
      · rw [sl5_0] at hk; omega
      · rw [sl5_1] at hk; omega
      · rw [sl5_2] at hk; omega
      · rw [sl5_3] at hk; omega
      · rw [sl5_4] at hk; omega
    · simp (disch := omega) only [hu_same, hu_row, hu_at, hu_hu]; rfl
    · simp (disch := omega) only [hu_same, hu_row, hu_at, hu_hu]; rfl
    · rfl
  obtain ⟨I', L', J', q', M', l', b1, b2, b3, b4⟩ := stLoop (scr := scr) (d := 88) (x1 := nI E) (R := R) (R' := R') o11 o7 r0 r1 o8 o4 ht hK N (j := 0) (r := 0) (q := up q1 25 0) (l := l1) (M := LX) (by omega) hN (by omega) (show JB E B (em4 X) from fun i hi => by rw [em4_r (by omega)]; exact hJ i hi) hT2 (MC_25 a2) hSP
  refine ⟨I', L', J', q', M', l', b1, fun k hk => by rw [b2.1 k hk, em4_r hk], fun f hf => by rw [b2.2.1 f hf, em4_lo hf], b2.2.2.1, b2.2.2.2.1, fun f f0 f1 f2 f3 f4 => by rw [b2.2.2.2.2.1 f f4, up_n _ _ (by omega), a4 f f2 f3 (by omega), up_n _ _ f0, up_n _ _ f1], by rw [b2.2.2.2.2.1 8 (by omega), up_n _ _ (by omega)]; exact a3, by rw [b2.2.2.2.2.1 0 (by omega), up_n _ _ (by omega), a4 0 (by omega) (by omega) (by omega), up_s], fun f hf => by rw [b2.2.2.2.2.2 f hf, a5 f hf], ?_, ?_⟩
  · have hX : (hs_S0, hs_u (hs_u X 140 1 0) 140 0 0, LX, R) = (hs_S0, hs_z X 140 (up (up (X 140) 1 0) 0 0), hs_z LX 140 (LX 140), R) := by
      rw [hz_id LX 140, ← hz_u, ← hz_u, hz_id X 140]
    have hl := m192_l (scr := scr) (d := 98) (X := X) (q := q1) (ML := hs_z LX 140 l1) (R := R) o11 399 0 rfl
    rw [wr_0, nI_0] at hl
    rw [e207, b207_0 o11, hX, show (900 : Int32) = nI 900 from rfl, a1]
    simp only [Option.bind_some, Option.toList_some, Option.toList_none, List.append_nil, List.cons_append, List.nil_append]
    rw [b207_18 o11, if_neg (by decide), e192, b192_0, show (399 : Int32) * 4 = nI 1596 by decide, hl]
    simp only [Option.bind_some, Option.toList_some, Option.toList_none, List.append_nil, List.cons_append, List.nil_append]
    rw [b207_28 o11, hz_u]
    exact b3
  · have eX : hs_R scr 98 43 10 [some (.ref 10), some (.ref 4), some (.ref t), none] [] (hs_S0, I, L, R') = hs_R scr 98 43 29 [some (.ref 10), some (.ref 4), some (.ref t), some (.int (nI 0))] [] (hs_S0, hs_u (hs_u (wr (hs_u (hs_u (hs_u (hs_u (hs_u (hs_u (hs_u (hs_u (hs_u (hs_u (hs_u (hs_u I (t + 1) 3 0) (t + 5) 4 0) t 8 0) t 9 0) t 10 0) t 11 0) t 12 0) t 13 2) t 14 20) t 15 0) t 16 1) t 17 (-1)) (t + 13) 0 48 (fun _ => 3)) 10 2 0) 10 3 0, L, R') := by
      rw [b43_10 o7 r1 o4, x9 o4]
      simp only [Option.bind_some, Option.toList_some, Option.toList_none, List.append_nil, List.cons_append, List.nil_append]
      rw [b43_17 o7, nI_0]
    rw [eX]; exact b4
end S2
