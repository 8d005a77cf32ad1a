/-! the words of a text, in the reference -/
section TV
variable {scr : List Int32} {d E a h' m k v p h : Nat} {B : Nat → Nat} {x1 : Int32} {q : Nat → Int32} {l : Nat → Int64} {J : Nat → Nat → Int32} {M : Nat → Nat → Int64} {R : Nat → Nat → Nat} {S : List hs_S} {I : Nat → Nat → Int32} {L : Nat → Nat → Int64}
theorem m217w (o11 : ok11 hs_S0 R 140) {k0 : Nat} (h0 : k0 < 30) (ht : TokR k v q l) : hs_C scr d 217 [.ref 140, .long (hs_W0.getD k0 0)] (hs_S0, hs_z J 140 q, hs_z M 140 l, R) = some (some (.int (if k = k0 then 1 else 0)), (hs_S0, hs_z J 140 q, hs_z M 140 l, R)) := by
  rw [e217, b217_0 o11, hz_s, hz_s]
  rcases ht with ⟨a, b⟩ | ⟨a, b⟩ | ⟨a, b, _⟩ | ⟨a, b, _⟩ | ⟨a, b, _⟩ | ⟨a, b, _⟩ | ⟨a, b, _⟩ | ⟨a, b, c⟩ | ⟨a, b, c, _, _, e, _⟩ | ⟨a, b, c, _⟩
  · rw [b, if_neg (by decide), b217_21, b217_22, if_neg (show ¬ k = k0 by omega)]; rfl
  · rw [b, if_neg (by decide), b217_21, b217_22, if_neg (show ¬ k = k0 by omega)]; rfl
  · rw [b, if_neg (by decide), b217_21, b217_22, if_neg (show ¬ k = k0 by omega)]; rfl
  · rw [b, if_neg (by decide), b217_21, b217_22, if_neg (show ¬ k = k0 by omega)]; rfl
  · rw [b, if_neg (by decide), b217_21, b217_22, if_neg (show ¬ k = k0 by omega)]; rfl
  · rw [b, if_neg (by decide), b217_21, b217_22, if_neg (show ¬ k = k0 by omega)]; rfl
  · rw [b, if_neg (by decide), b217_21, b217_22, if_neg (show ¬ k = k0 by omega)]; rfl
  · rw [b, if_pos rfl, c]
    by_cases g : k = k0
    · subst g; rw [if_pos ((lgc_e _ _).mpr rfl), b217_22, if_pos rfl]; rfl
    · rw [if_neg (fun q => g (W0_inj k a k0 h0 ((lgc_e _ _).mp q))), b217_21, b217_22, if_neg g]; rfl
  · rw [b, if_pos rfl, c, if_neg (fun q => e k0 h0 ((lgc_e _ _).mp q).symm), b217_21, b217_22, if_neg (show ¬ k = k0 by omega)]; rfl
  · rw [b, if_pos rfl, c, if_neg (fun q => W0_m1 k0 h0 ((lgc_e _ _).mp q).symm), b217_21, b217_22, if_neg (show ¬ k = k0 by omega)]; rfl
theorem s216_0 : hs_C scr d 216 [.int 111, .int 100, .int 100, .int 115, .int 0, .int 0] (S, I, L, R) = some (some (.long (hs_W0.getD 0 0)), (S, I, L, R)) := by
  rw [e216, b216_0, if_neg (by decide), b216_41, if_neg (by decide), b216_65, if_pos (by decide), b216_91, if_pos (by decide), b216_117, show ((((((((((Int32.toInt64 111) - 96) * 32) + (Int32.toInt64 100)) - 96) * 32) + (Int32.toInt64 100)) - 96) * 32) + (Int32.toInt64 115)) - 96 = hs_W0.getD 0 0 by decide +kernel]
theorem s216_1 : hs_C scr d 216 [.int 103, .int 114, .int 101, .int 121, .int 115, .int 0] (S, I, L, R) = some (some (.long (hs_W0.getD 1 0)), (S, I, L, R)) := by
  rw [e216, b216_0, if_neg (by decide), b216_41, if_neg (by decide), b216_65, if_neg (by decide), b216_91, if_pos (by decide), b216_117, show (((((((((((((Int32.toInt64 103) - 96) * 32) + (Int32.toInt64 114)) - 96) * 32) + (Int32.toInt64 101)) - 96) * 32) + (Int32.toInt64 121)) - 96) * 32) + (Int32.toInt64 115)) - 96 = hs_W0.getD 1 0 by decide +kernel]
theorem s216_2 : hs_C scr d 216 [.int 104, .int 97, .int 105, .int 114, .int 0, .int 0] (S, I, L, R) = some (some (.long (hs_W0.getD 2 0)), (S, I, L, R)) := by
  rw [e216, b216_0, if_neg (by decide), b216_41, if_neg (by decide), b216_65, if_pos (by decide), b216_91, if_pos (by decide), b216_117, show ((((((((((Int32.toInt64 104) - 96) * 32) + (Int32.toInt64 97)) - 96) * 32) + (Int32.toInt64 105)) - 96) * 32) + (Int32.toInt64 114)) - 96 = hs_W0.getD 2 0 by decide +kernel]
theorem s216_3 : hs_C scr d 216 [.int 108, .int 101, .int 110, .int 103, .int 116, .int 104] (S, I, L, R) = some (some (.long (hs_W0.getD 3 0)), (S, I, L, R)) := by
  rw [e216, b216_0, if_neg (by decide), b216_41, if_neg (by decide), b216_65, if_neg (by decide), b216_91, if_neg (by decide), b216_117, show ((((((((((((((((Int32.toInt64 108) - 96) * 32) + (Int32.toInt64 101)) - 96) * 32) + (Int32.toInt64 110)) - 96) * 32) + (Int32.toInt64 103)) - 96) * 32) + (Int32.toInt64 116)) - 96) * 32) + (Int32.toInt64 104)) - 96 = hs_W0.getD 3 0 by decide +kernel]
theorem s216_4 : hs_C scr d 216 [.int 103, .int 114, .int 111, .int 119, .int 115, .int 0] (S, I, L, R) = some (some (.long (hs_W0.getD 4 0)), (S, I, L, R)) := by
  rw [e216, b216_0, if_neg (by decide), b216_41, if_neg (by decide), b216_65, if_neg (by decide), b216_91, if_pos (by decide), b216_117, show (((((((((((((Int32.toInt64 103) - 96) * 32) + (Int32.toInt64 114)) - 96) * 32) + (Int32.toInt64 111)) - 96) * 32) + (Int32.toInt64 119)) - 96) * 32) + (Int32.toInt64 115)) - 96 = hs_W0.getD 4 0 by decide +kernel]
theorem s216_5 : hs_C scr d 216 [.int 117, .int 112, .int 0, .int 0, .int 0, .int 0] (S, I, L, R) = some (some (.long (hs_W0.getD 5 0)), (S, I, L, R)) := by
  rw [e216, b216_0, if_pos (by decide), b216_41, if_pos (by decide), b216_65, if_pos (by decide), b216_91, if_pos (by decide), b216_117, show ((((Int32.toInt64 117) - 96) * 32) + (Int32.toInt64 112)) - 96 = hs_W0.getD 5 0 by decide +kernel]
theorem s216_6 : hs_C scr d 216 [.int 102, .int 108, .int 97, .int 116, .int 0, .int 0] (S, I, L, R) = some (some (.long (hs_W0.getD 6 0)), (S, I, L, R)) := by
  rw [e216, b216_0, if_neg (by decide), b216_41, if_neg (by decide), b216_65, if_pos (by decide), b216_91, if_pos (by decide), b216_117, show ((((((((((Int32.toInt64 102) - 96) * 32) + (Int32.toInt64 108)) - 96) * 32) + (Int32.toInt64 97)) - 96) * 32) + (Int32.toInt64 116)) - 96 = hs_W0.getD 6 0 by decide +kernel]
theorem s216_7 : hs_C scr d 216 [.int 100, .int 111, .int 119, .int 110, .int 0, .int 0] (S, I, L, R) = some (some (.long (hs_W0.getD 7 0)), (S, I, L, R)) := by
  rw [e216, b216_0, if_neg (by decide), b216_41, if_neg (by decide), b216_65, if_pos (by decide), b216_91, if_pos (by decide), b216_117, show ((((((((((Int32.toInt64 100) - 96) * 32) + (Int32.toInt64 111)) - 96) * 32) + (Int32.toInt64 119)) - 96) * 32) + (Int32.toInt64 110)) - 96 = hs_W0.getD 7 0 by decide +kernel]
theorem s216_8 : hs_C scr d 216 [.int 101, .int 105, .int 116, .int 104, .int 101, .int 114] (S, I, L, R) = some (some (.long (hs_W0.getD 8 0)), (S, I, L, R)) := by
  rw [e216, b216_0, if_neg (by decide), b216_41, if_neg (by decide), b216_65, if_neg (by decide), b216_91, if_neg (by decide), b216_117, show ((((((((((((((((Int32.toInt64 101) - 96) * 32) + (Int32.toInt64 105)) - 96) * 32) + (Int32.toInt64 116)) - 96) * 32) + (Int32.toInt64 104)) - 96) * 32) + (Int32.toInt64 101)) - 96) * 32) + (Int32.toInt64 114)) - 96 = hs_W0.getD 8 0 by decide +kernel]
theorem s216_9 : hs_C scr d 216 [.int 112, .int 97, .int 114, .int 116, .int 121, .int 0] (S, I, L, R) = some (some (.long (hs_W0.getD 9 0)), (S, I, L, R)) := by
  rw [e216, b216_0, if_neg (by decide), b216_41, if_neg (by decide), b216_65, if_neg (by decide), b216_91, if_pos (by decide), b216_117, show (((((((((((((Int32.toInt64 112) - 96) * 32) + (Int32.toInt64 97)) - 96) * 32) + (Int32.toInt64 114)) - 96) * 32) + (Int32.toInt64 116)) - 96) * 32) + (Int32.toInt64 121)) - 96 = hs_W0.getD 9 0 by decide +kernel]
theorem s216_10 : hs_C scr d 216 [.int 115, .int 101, .int 97, .int 116, .int 115, .int 0] (S, I, L, R) = some (some (.long (hs_W0.getD 10 0)), (S, I, L, R)) := by
  rw [e216, b216_0, if_neg (by decide), b216_41, if_neg (by decide), b216_65, if_neg (by decide), b216_91, if_pos (by decide), b216_117, show (((((((((((((Int32.toInt64 115) - 96) * 32) + (Int32.toInt64 101)) - 96) * 32) + (Int32.toInt64 97)) - 96) * 32) + (Int32.toInt64 116)) - 96) * 32) + (Int32.toInt64 115)) - 96 = hs_W0.getD 10 0 by decide +kernel]
theorem s216_11 : hs_C scr d 216 [.int 119, .int 97, .int 110, .int 116, .int 115, .int 0] (S, I, L, R) = some (some (.long (hs_W0.getD 11 0)), (S, I, L, R)) := by
  rw [e216, b216_0, if_neg (by decide), b216_41, if_neg (by decide), b216_65, if_neg (by decide), b216_91, if_pos (by decide), b216_117, show (((((((((((((Int32.toInt64 119) - 96) * 32) + (Int32.toInt64 97)) - 96) * 32) + (Int32.toInt64 110)) - 96) * 32) + (Int32.toInt64 116)) - 96) * 32) + (Int32.toInt64 115)) - 96 = hs_W0.getD 11 0 by decide +kernel]
theorem s216_12 : hs_C scr d 216 [.int 114, .int 117, .int 108, .int 101, .int 114, .int 0] (S, I, L, R) = some (some (.long (hs_W0.getD 12 0)), (S, I, L, R)) := by
  rw [e216, b216_0, if_neg (by decide), b216_41, if_neg (by decide), b216_65, if_neg (by decide), b216_91, if_pos (by decide), b216_117, show (((((((((((((Int32.toInt64 114) - 96) * 32) + (Int32.toInt64 117)) - 96) * 32) + (Int32.toInt64 108)) - 96) * 32) + (Int32.toInt64 101)) - 96) * 32) + (Int32.toInt64 114)) - 96 = hs_W0.getD 12 0 by decide +kernel]
theorem s216_13 : hs_C scr d 216 [.int 108, .int 105, .int 112, .int 0, .int 0, .int 0] (S, I, L, R) = some (some (.long (hs_W0.getD 13 0)), (S, I, L, R)) := by
  rw [e216, b216_0, if_neg (by decide), b216_41, if_pos (by decide), b216_65, if_pos (by decide), b216_91, if_pos (by decide), b216_117, show (((((((Int32.toInt64 108) - 96) * 32) + (Int32.toInt64 105)) - 96) * 32) + (Int32.toInt64 112)) - 96 = hs_W0.getD 13 0 by decide +kernel]
theorem s216_14 : hs_C scr d 216 [.int 108, .int 111, .int 111, .int 107, .int 0, .int 0] (S, I, L, R) = some (some (.long (hs_W0.getD 14 0)), (S, I, L, R)) := by
  rw [e216, b216_0, if_neg (by decide), b216_41, if_neg (by decide), b216_65, if_pos (by decide), b216_91, if_pos (by decide), b216_117, show ((((((((((Int32.toInt64 108) - 96) * 32) + (Int32.toInt64 111)) - 96) * 32) + (Int32.toInt64 111)) - 96) * 32) + (Int32.toInt64 107)) - 96 = hs_W0.getD 14 0 by decide +kernel]
theorem s216_15 : hs_C scr d 216 [.int 98, .int 97, .int 114, .int 98, .int 101, .int 114] (S, I, L, R) = some (some (.long (hs_W0.getD 15 0)), (S, I, L, R)) := by
  rw [e216, b216_0, if_neg (by decide), b216_41, if_neg (by decide), b216_65, if_neg (by decide), b216_91, if_neg (by decide), b216_117, show ((((((((((((((((Int32.toInt64 98) - 96) * 32) + (Int32.toInt64 97)) - 96) * 32) + (Int32.toInt64 114)) - 96) * 32) + (Int32.toInt64 98)) - 96) * 32) + (Int32.toInt64 101)) - 96) * 32) + (Int32.toInt64 114)) - 96 = hs_W0.getD 15 0 by decide +kernel]
theorem s216_16 : hs_C scr d 216 [.int 112, .int 97, .int 105, .int 114, .int 0, .int 0] (S, I, L, R) = some (some (.long (hs_W0.getD 16 0)), (S, I, L, R)) := by
  rw [e216, b216_0, if_neg (by decide), b216_41, if_neg (by decide), b216_65, if_pos (by decide), b216_91, if_pos (by decide), b216_117, show ((((((((((Int32.toInt64 112) - 96) * 32) + (Int32.toInt64 97)) - 96) * 32) + (Int32.toInt64 105)) - 96) * 32) + (Int32.toInt64 114)) - 96 = hs_W0.getD 16 0 by decide +kernel]
theorem s216_17 : hs_C scr d 216 [.int 100, .int 97, .int 121, .int 0, .int 0, .int 0] (S, I, L, R) = some (some (.long (hs_W0.getD 17 0)), (S, I, L, R)) := by
  rw [e216, b216_0, if_neg (by decide), b216_41, if_pos (by decide), b216_65, if_pos (by decide), b216_91, if_pos (by decide), b216_117, show (((((((Int32.toInt64 100) - 96) * 32) + (Int32.toInt64 97)) - 96) * 32) + (Int32.toInt64 121)) - 96 = hs_W0.getD 17 0 by decide +kernel]
theorem s216_18 : hs_C scr d 216 [.int 112, .int 101, .int 97, .int 99, .int 101, .int 0] (S, I, L, R) = some (some (.long (hs_W0.getD 18 0)), (S, I, L, R)) := by
  rw [e216, b216_0, if_neg (by decide), b216_41, if_neg (by decide), b216_65, if_neg (by decide), b216_91, if_pos (by decide), b216_117, show (((((((((((((Int32.toInt64 112) - 96) * 32) + (Int32.toInt64 101)) - 96) * 32) + (Int32.toInt64 97)) - 96) * 32) + (Int32.toInt64 99)) - 96) * 32) + (Int32.toInt64 101)) - 96 = hs_W0.getD 18 0 by decide +kernel]
theorem s216_19 : hs_C scr d 216 [.int 119, .int 97, .int 114, .int 0, .int 0, .int 0] (S, I, L, R) = some (some (.long (hs_W0.getD 19 0)), (S, I, L, R)) := by
  rw [e216, b216_0, if_neg (by decide), b216_41, if_pos (by decide), b216_65, if_pos (by decide), b216_91, if_pos (by decide), b216_117, show (((((((Int32.toInt64 119) - 96) * 32) + (Int32.toInt64 97)) - 96) * 32) + (Int32.toInt64 114)) - 96 = hs_W0.getD 19 0 by decide +kernel]
theorem s216_20 : hs_C scr d 216 [.int 119, .int 97, .int 120, .int 0, .int 0, .int 0] (S, I, L, R) = some (some (.long (hs_W0.getD 20 0)), (S, I, L, R)) := by
  rw [e216, b216_0, if_neg (by decide), b216_41, if_pos (by decide), b216_65, if_pos (by decide), b216_91, if_pos (by decide), b216_117, show (((((((Int32.toInt64 119) - 96) * 32) + (Int32.toInt64 97)) - 96) * 32) + (Int32.toInt64 120)) - 96 = hs_W0.getD 20 0 by decide +kernel]
theorem s216_21 : hs_C scr d 216 [.int 116, .int 114, .int 105, .int 109, .int 0, .int 0] (S, I, L, R) = some (some (.long (hs_W0.getD 21 0)), (S, I, L, R)) := by
  rw [e216, b216_0, if_neg (by decide), b216_41, if_neg (by decide), b216_65, if_pos (by decide), b216_91, if_pos (by decide), b216_117, show ((((((((((Int32.toInt64 116) - 96) * 32) + (Int32.toInt64 114)) - 96) * 32) + (Int32.toInt64 105)) - 96) * 32) + (Int32.toInt64 109)) - 96 = hs_W0.getD 21 0 by decide +kernel]
theorem s216_22 : hs_C scr d 216 [.int 118, .int 111, .int 116, .int 101, .int 0, .int 0] (S, I, L, R) = some (some (.long (hs_W0.getD 22 0)), (S, I, L, R)) := by
  rw [e216, b216_0, if_neg (by decide), b216_41, if_neg (by decide), b216_65, if_pos (by decide), b216_91, if_pos (by decide), b216_117, show ((((((((((Int32.toInt64 118) - 96) * 32) + (Int32.toInt64 111)) - 96) * 32) + (Int32.toInt64 116)) - 96) * 32) + (Int32.toInt64 101)) - 96 = hs_W0.getD 22 0 by decide +kernel]
theorem s216_23 : hs_C scr d 216 [.int 104, .int 97, .int 110, .int 100, .int 0, .int 0] (S, I, L, R) = some (some (.long (hs_W0.getD 23 0)), (S, I, L, R)) := by
  rw [e216, b216_0, if_neg (by decide), b216_41, if_neg (by decide), b216_65, if_pos (by decide), b216_91, if_pos (by decide), b216_117, show ((((((((((Int32.toInt64 104) - 96) * 32) + (Int32.toInt64 97)) - 96) * 32) + (Int32.toInt64 110)) - 96) * 32) + (Int32.toInt64 100)) - 96 = hs_W0.getD 23 0 by decide +kernel]
theorem s216_24 : hs_C scr d 216 [.int 97, .int 110, .int 121, .int 0, .int 0, .int 0] (S, I, L, R) = some (some (.long (hs_W0.getD 24 0)), (S, I, L, R)) := by
  rw [e216, b216_0, if_neg (by decide), b216_41, if_pos (by decide), b216_65, if_pos (by decide), b216_91, if_pos (by decide), b216_117, show (((((((Int32.toInt64 97) - 96) * 32) + (Int32.toInt64 110)) - 96) * 32) + (Int32.toInt64 121)) - 96 = hs_W0.getD 24 0 by decide +kernel]
theorem s216_25 : hs_C scr d 216 [.int 119, .int 104, .int 101, .int 110, .int 0, .int 0] (S, I, L, R) = some (some (.long (hs_W0.getD 25 0)), (S, I, L, R)) := by
  rw [e216, b216_0, if_neg (by decide), b216_41, if_neg (by decide), b216_65, if_pos (by decide), b216_91, if_pos (by decide), b216_117, show ((((((((((Int32.toInt64 119) - 96) * 32) + (Int32.toInt64 104)) - 96) * 32) + (Int32.toInt64 101)) - 96) * 32) + (Int32.toInt64 110)) - 96 = hs_W0.getD 25 0 by decide +kernel]
theorem s216_26 : hs_C scr d 216 [.int 115, .int 104, .int 111, .int 119, .int 115, .int 0] (S, I, L, R) = some (some (.long (hs_W0.getD 26 0)), (S, I, L, R)) := by
  rw [e216, b216_0, if_neg (by decide), b216_41, if_neg (by decide), b216_65, if_neg (by decide), b216_91, if_pos (by decide), b216_117, show (((((((((((((Int32.toInt64 115) - 96) * 32) + (Int32.toInt64 104)) - 96) * 32) + (Int32.toInt64 111)) - 96) * 32) + (Int32.toInt64 119)) - 96) * 32) + (Int32.toInt64 115)) - 96 = hs_W0.getD 26 0 by decide +kernel]
theorem s216_27 : hs_C scr d 216 [.int 108, .int 111, .int 111, .int 112, .int 0, .int 0] (S, I, L, R) = some (some (.long (hs_W0.getD 27 0)), (S, I, L, R)) := by
  rw [e216, b216_0, if_neg (by decide), b216_41, if_neg (by decide), b216_65, if_pos (by decide), b216_91, if_pos (by decide), b216_117, show ((((((((((Int32.toInt64 108) - 96) * 32) + (Int32.toInt64 111)) - 96) * 32) + (Int32.toInt64 111)) - 96) * 32) + (Int32.toInt64 112)) - 96 = hs_W0.getD 27 0 by decide +kernel]
theorem s216_28 : hs_C scr d 216 [.int 101, .int 110, .int 100, .int 0, .int 0, .int 0] (S, I, L, R) = some (some (.long (hs_W0.getD 28 0)), (S, I, L, R)) := by
  rw [e216, b216_0, if_neg (by decide), b216_41, if_pos (by decide), b216_65, if_pos (by decide), b216_91, if_pos (by decide), b216_117, show (((((((Int32.toInt64 101) - 96) * 32) + (Int32.toInt64 110)) - 96) * 32) + (Int32.toInt64 100)) - 96 = hs_W0.getD 28 0 by decide +kernel]
theorem s216_29 : hs_C scr d 216 [.int 115, .int 116, .int 111, .int 112, .int 0, .int 0] (S, I, L, R) = some (some (.long (hs_W0.getD 29 0)), (S, I, L, R)) := by
  rw [e216, b216_0, if_neg (by decide), b216_41, if_neg (by decide), b216_65, if_pos (by decide), b216_91, if_pos (by decide), b216_117, show ((((((((((Int32.toInt64 115) - 96) * 32) + (Int32.toInt64 116)) - 96) * 32) + (Int32.toInt64 111)) - 96) * 32) + (Int32.toInt64 112)) - 96 = hs_W0.getD 29 0 by decide +kernel]
theorem m215 (o11 : ok11 hs_S0 R 140) (ht : TokR k v q l) : hs_C scr (d + 1) 215 [.ref 140] (hs_S0, hs_z J 140 q, hs_z M 140 l, R) = some (some (.int (if k = 0 then 1 else 0)), (hs_S0, hs_z J 140 q, hs_z M 140 l, R)) := by
  rw [e215, b215_0, s216_0]
  simp only [Option.bind_some, Option.toList_some, Option.toList_none, List.append_nil, List.cons_append, List.nil_append, ↓reduceIte, true_or, or_true, Nat.reduceAdd, Nat.add_assoc]
  rw [b215_14 o11, m217w o11 (by omega) ht]
  simp only [Option.bind_some, Option.toList_some, Option.toList_none, List.append_nil, List.cons_append, List.nil_append, ↓reduceIte, true_or, or_true, Nat.reduceAdd, Nat.add_assoc, b215_17, ib01]
theorem m224 (o11 : ok11 hs_S0 R 140) (ht : TokR k v q l) : hs_C scr (d + 1) 224 [.ref 140] (hs_S0, hs_z J 140 q, hs_z M 140 l, R) = some (some (.int (if k = 1 then 1 else 0)), (hs_S0, hs_z J 140 q, hs_z M 140 l, R)) := by
  rw [e224, b224_0, s216_1]
  simp only [Option.bind_some, Option.toList_some, Option.toList_none, List.append_nil, List.cons_append, List.nil_append, ↓reduceIte, true_or, or_true, Nat.reduceAdd, Nat.add_assoc]
  rw [b224_15 o11, m217w o11 (by omega) ht]
  simp only [Option.bind_some, Option.toList_some, Option.toList_none, List.append_nil, List.cons_append, List.nil_append, ↓reduceIte, true_or, or_true, Nat.reduceAdd, Nat.add_assoc, b224_18, ib01]
theorem m225 (o11 : ok11 hs_S0 R 140) (ht : TokR k v q l) : hs_C scr (d + 1) 225 [.ref 140] (hs_S0, hs_z J 140 q, hs_z M 140 l, R) = some (some (.int (if k = 2 then 1 else 0)), (hs_S0, hs_z J 140 q, hs_z M 140 l, R)) := by
  rw [e225, b225_0, s216_2]
  simp only [Option.bind_some, Option.toList_some, Option.toList_none, List.append_nil, List.cons_append, List.nil_append, ↓reduceIte, true_or, or_true, Nat.reduceAdd, Nat.add_assoc]
  rw [b225_14 o11, m217w o11 (by omega) ht]
  simp only [Option.bind_some, Option.toList_some, Option.toList_none, List.append_nil, List.cons_append, List.nil_append, ↓reduceIte, true_or, or_true, Nat.reduceAdd, Nat.add_assoc, b225_17, ib01]
theorem m242 (o11 : ok11 hs_S0 R 140) (ht : TokR k v q l) : hs_C scr (d + 1) 242 [.ref 140] (hs_S0, hs_z J 140 q, hs_z M 140 l, R) = some (some (.int (if k = 3 then 1 else 0)), (hs_S0, hs_z J 140 q, hs_z M 140 l, R)) := by
  rw [e242, b242_0, s216_3]
  simp only [Option.bind_some, Option.toList_some, Option.toList_none, List.append_nil, List.cons_append, List.nil_append, ↓reduceIte, true_or, or_true, Nat.reduceAdd, Nat.add_assoc]
  rw [b242_16 o11, m217w o11 (by omega) ht]
  simp only [Option.bind_some, Option.toList_some, Option.toList_none, List.append_nil, List.cons_append, List.nil_append, ↓reduceIte, true_or, or_true, Nat.reduceAdd, Nat.add_assoc, b242_19, ib01]
theorem m230 (o11 : ok11 hs_S0 R 140) (ht : TokR k v q l) : hs_C scr (d + 1) 230 [.ref 140] (hs_S0, hs_z J 140 q, hs_z M 140 l, R) = some (some (.int (if k = 4 then 1 else 0)), (hs_S0, hs_z J 140 q, hs_z M 140 l, R)) := by
  rw [e230, b230_0, s216_4]
  simp only [Option.bind_some, Option.toList_some, Option.toList_none, List.append_nil, List.cons_append, List.nil_append, ↓reduceIte, true_or, or_true, Nat.reduceAdd, Nat.add_assoc]
  rw [b230_15 o11, m217w o11 (by omega) ht]
  simp only [Option.bind_some, Option.toList_some, Option.toList_none, List.append_nil, List.cons_append, List.nil_append, ↓reduceIte, true_or, or_true, Nat.reduceAdd, Nat.add_assoc, b230_18, ib01]
theorem m231 (o11 : ok11 hs_S0 R 140) (ht : TokR k v q l) : hs_C scr (d + 1) 231 [.ref 140] (hs_S0, hs_z J 140 q, hs_z M 140 l, R) = some (some (.int (if k = 9 then 1 else 0)), (hs_S0, hs_z J 140 q, hs_z M 140 l, R)) := by
  rw [e231, b231_0, s216_9]
  simp only [Option.bind_some, Option.toList_some, Option.toList_none, List.append_nil, List.cons_append, List.nil_append, ↓reduceIte, true_or, or_true, Nat.reduceAdd, Nat.add_assoc]
  rw [b231_15 o11, m217w o11 (by omega) ht]
  simp only [Option.bind_some, Option.toList_some, Option.toList_none, List.append_nil, List.cons_append, List.nil_append, ↓reduceIte, true_or, or_true, Nat.reduceAdd, Nat.add_assoc, b231_18, ib01]
theorem m232 (o11 : ok11 hs_S0 R 140) (ht : TokR k v q l) : hs_C scr (d + 1) 232 [.ref 140] (hs_S0, hs_z J 140 q, hs_z M 140 l, R) = some (some (.int (if k = 10 then 1 else 0)), (hs_S0, hs_z J 140 q, hs_z M 140 l, R)) := by
  rw [e232, b232_0, s216_10]
  simp only [Option.bind_some, Option.toList_some, Option.toList_none, List.append_nil, List.cons_append, List.nil_append, ↓reduceIte, true_or, or_true, Nat.reduceAdd, Nat.add_assoc]
  rw [b232_15 o11, m217w o11 (by omega) ht]
  simp only [Option.bind_some, Option.toList_some, Option.toList_none, List.append_nil, List.cons_append, List.nil_append, ↓reduceIte, true_or, or_true, Nat.reduceAdd, Nat.add_assoc, b232_18, ib01]
theorem m233 (o11 : ok11 hs_S0 R 140) (ht : TokR k v q l) : hs_C scr (d + 1) 233 [.ref 140] (hs_S0, hs_z J 140 q, hs_z M 140 l, R) = some (some (.int (if k = 11 then 1 else 0)), (hs_S0, hs_z J 140 q, hs_z M 140 l, R)) := by
  rw [e233, b233_0, s216_11]
  simp only [Option.bind_some, Option.toList_some, Option.toList_none, List.append_nil, List.cons_append, List.nil_append, ↓reduceIte, true_or, or_true, Nat.reduceAdd, Nat.add_assoc]
  rw [b233_15 o11, m217w o11 (by omega) ht]
  simp only [Option.bind_some, Option.toList_some, Option.toList_none, List.append_nil, List.cons_append, List.nil_append, ↓reduceIte, true_or, or_true, Nat.reduceAdd, Nat.add_assoc, b233_18, ib01]
theorem m234 (o11 : ok11 hs_S0 R 140) (ht : TokR k v q l) : hs_C scr (d + 1) 234 [.ref 140] (hs_S0, hs_z J 140 q, hs_z M 140 l, R) = some (some (.int (if k = 12 then 1 else 0)), (hs_S0, hs_z J 140 q, hs_z M 140 l, R)) := by
  rw [e234, b234_0, s216_12]
  simp only [Option.bind_some, Option.toList_some, Option.toList_none, List.append_nil, List.cons_append, List.nil_append, ↓reduceIte, true_or, or_true, Nat.reduceAdd, Nat.add_assoc]
  rw [b234_15 o11, m217w o11 (by omega) ht]
  simp only [Option.bind_some, Option.toList_some, Option.toList_none, List.append_nil, List.cons_append, List.nil_append, ↓reduceIte, true_or, or_true, Nat.reduceAdd, Nat.add_assoc, b234_18, ib01]
theorem m235 (o11 : ok11 hs_S0 R 140) (ht : TokR k v q l) : hs_C scr (d + 1) 235 [.ref 140] (hs_S0, hs_z J 140 q, hs_z M 140 l, R) = some (some (.int (if k = 13 then 1 else 0)), (hs_S0, hs_z J 140 q, hs_z M 140 l, R)) := by
  rw [e235, b235_0, s216_13]
  simp only [Option.bind_some, Option.toList_some, Option.toList_none, List.append_nil, List.cons_append, List.nil_append, ↓reduceIte, true_or, or_true, Nat.reduceAdd, Nat.add_assoc]
  rw [b235_13 o11, m217w o11 (by omega) ht]
  simp only [Option.bind_some, Option.toList_some, Option.toList_none, List.append_nil, List.cons_append, List.nil_append, ↓reduceIte, true_or, or_true, Nat.reduceAdd, Nat.add_assoc, b235_16, ib01]
theorem m236 (o11 : ok11 hs_S0 R 140) (ht : TokR k v q l) : hs_C scr (d + 1) 236 [.ref 140] (hs_S0, hs_z J 140 q, hs_z M 140 l, R) = some (some (.int (if k = 14 then 1 else 0)), (hs_S0, hs_z J 140 q, hs_z M 140 l, R)) := by
  rw [e236, b236_0, s216_14]
  simp only [Option.bind_some, Option.toList_some, Option.toList_none, List.append_nil, List.cons_append, List.nil_append, ↓reduceIte, true_or, or_true, Nat.reduceAdd, Nat.add_assoc]
  rw [b236_14 o11, m217w o11 (by omega) ht]
  simp only [Option.bind_some, Option.toList_some, Option.toList_none, List.append_nil, List.cons_append, List.nil_append, ↓reduceIte, true_or, or_true, Nat.reduceAdd, Nat.add_assoc, b236_17, ib01]
theorem m237 (o11 : ok11 hs_S0 R 140) (ht : TokR k v q l) : hs_C scr (d + 1) 237 [.ref 140] (hs_S0, hs_z J 140 q, hs_z M 140 l, R) = some (some (.int (if k = 15 then 1 else 0)), (hs_S0, hs_z J 140 q, hs_z M 140 l, R)) := by
  rw [e237, b237_0, s216_15]
  simp only [Option.bind_some, Option.toList_some, Option.toList_none, List.append_nil, List.cons_append, List.nil_append, ↓reduceIte, true_or, or_true, Nat.reduceAdd, Nat.add_assoc]
  rw [b237_16 o11, m217w o11 (by omega) ht]
  simp only [Option.bind_some, Option.toList_some, Option.toList_none, List.append_nil, List.cons_append, List.nil_append, ↓reduceIte, true_or, or_true, Nat.reduceAdd, Nat.add_assoc, b237_19, ib01]
theorem m238 (o11 : ok11 hs_S0 R 140) (ht : TokR k v q l) : hs_C scr (d + 1) 238 [.ref 140] (hs_S0, hs_z J 140 q, hs_z M 140 l, R) = some (some (.int (if k = 16 then 1 else 0)), (hs_S0, hs_z J 140 q, hs_z M 140 l, R)) := by
  rw [e238, b238_0, s216_16]
  simp only [Option.bind_some, Option.toList_some, Option.toList_none, List.append_nil, List.cons_append, List.nil_append, ↓reduceIte, true_or, or_true, Nat.reduceAdd, Nat.add_assoc]
  rw [b238_14 o11, m217w o11 (by omega) ht]
  simp only [Option.bind_some, Option.toList_some, Option.toList_none, List.append_nil, List.cons_append, List.nil_append, ↓reduceIte, true_or, or_true, Nat.reduceAdd, Nat.add_assoc, b238_17, ib01]
theorem m243 (o11 : ok11 hs_S0 R 140) (ht : TokR k v q l) : hs_C scr (d + 1) 243 [.ref 140] (hs_S0, hs_z J 140 q, hs_z M 140 l, R) = some (some (.int (if k = 28 then 1 else 0)), (hs_S0, hs_z J 140 q, hs_z M 140 l, R)) := by
  rw [e243, b243_0, s216_28]
  simp only [Option.bind_some, Option.toList_some, Option.toList_none, List.append_nil, List.cons_append, List.nil_append, ↓reduceIte, true_or, or_true, Nat.reduceAdd, Nat.add_assoc]
  rw [b243_13 o11, m217w o11 (by omega) ht]
  simp only [Option.bind_some, Option.toList_some, Option.toList_none, List.append_nil, List.cons_append, List.nil_append, ↓reduceIte, true_or, or_true, Nat.reduceAdd, Nat.add_assoc, b243_16, ib01]
def swv (k : Nat) : Int32 := if k = 7 then 0 else if k = 6 then 1 else if k = 5 then 2 else if k = 8 then 3 else -1
theorem m239 (o11 : ok11 hs_S0 R 140) (ht : TokR k v q l) : hs_C scr (d + 1) 239 [.ref 140] (hs_S0, hs_z J 140 q, hs_z M 140 l, R) = some (some (.int (swv k)), (hs_S0, hs_z J 140 q, hs_z M 140 l, R)) := by
  rw [e239, b239_0, s216_7]
  simp only [Option.bind_some, Option.toList_some, Option.toList_none, List.append_nil, List.cons_append, List.nil_append, ↓reduceIte, true_or, or_true, Nat.reduceAdd, Nat.add_assoc]
  rw [b239_14 o11, m217w o11 (by omega) ht]
  simp only [Option.bind_some, Option.toList_some, Option.toList_none, List.append_nil, List.cons_append, List.nil_append, ↓reduceIte, true_or, or_true, Nat.reduceAdd, Nat.add_assoc]
  rw [b239_17]
  by_cases g7 : k = 7
  · rw [if_pos g7, if_neg (by decide)]; subst g7; rfl
  rw [if_neg g7, if_pos rfl, s216_6]
  simp only [Option.bind_some, Option.toList_some, Option.toList_none, List.append_nil, List.cons_append, List.nil_append, ↓reduceIte, true_or, or_true, Nat.reduceAdd, Nat.add_assoc]
  rw [b239_36 o11, m217w o11 (by omega) ht]
  simp only [Option.bind_some, Option.toList_some, Option.toList_none, List.append_nil, List.cons_append, List.nil_append, ↓reduceIte, true_or, or_true, Nat.reduceAdd, Nat.add_assoc]
  rw [b239_39]
  by_cases g6 : k = 6
  · rw [if_pos g6, if_neg (by decide)]; subst g6; rfl
  rw [if_neg g6, if_pos rfl, s216_5]
  simp only [Option.bind_some, Option.toList_some, Option.toList_none, List.append_nil, List.cons_append, List.nil_append, ↓reduceIte, true_or, or_true, Nat.reduceAdd, Nat.add_assoc]
  rw [b239_56 o11, m217w o11 (by omega) ht]
  simp only [Option.bind_some, Option.toList_some, Option.toList_none, List.append_nil, List.cons_append, List.nil_append, ↓reduceIte, true_or, or_true, Nat.reduceAdd, Nat.add_assoc]
  rw [b239_59]
  by_cases g5 : k = 5
  · rw [if_pos g5, if_neg (by decide)]; subst g5; rfl
  rw [if_neg g5, if_pos rfl, s216_8]
  simp only [Option.bind_some, Option.toList_some, Option.toList_none, List.append_nil, List.cons_append, List.nil_append, ↓reduceIte, true_or, or_true, Nat.reduceAdd, Nat.add_assoc]
  rw [b239_80 o11, m217w o11 (by omega) ht]
  simp only [Option.bind_some, Option.toList_some, Option.toList_none, List.append_nil, List.cons_append, List.nil_append, ↓reduceIte, true_or, or_true, Nat.reduceAdd, Nat.add_assoc]
  rw [b239_83]
  by_cases g8 : k = 8
  · rw [if_pos g8, if_neg (by decide), b239_91]; subst g8; rfl
  rw [if_neg g8, if_pos rfl, b239_91]
  unfold swv
  rw [if_neg g7, if_neg g6, if_neg g5, if_neg g8]
def stv (k : Nat) : Int32 := if k = 17 then 0 else if k = 18 then 1 else if k = 19 then 2 else if k = 20 then 3 else if k = 21 then 4 else if k = 22 then 5 else if k = 23 then 6 else if k = 24 then 7 else if k = 25 then 8 else if k = 27 then 9 else if k = 29 then 10 else -1
theorem m240 (o11 : ok11 hs_S0 R 140) (ht : TokR k v q l) : hs_C scr (d + 1) 240 [.ref 140] (hs_S0, hs_z J 140 q, hs_z M 140 l, R) = some (some (.int (stv k)), (hs_S0, hs_z J 140 q, hs_z M 140 l, R)) := by
  rw [e240, b240_0, s216_17]
  simp only [Option.bind_some, Option.toList_some, Option.toList_none, List.append_nil, List.cons_append, List.nil_append, ↓reduceIte, true_or, or_true, Nat.reduceAdd, Nat.add_assoc]
  rw [b240_13 o11, m217w o11 (by omega) ht]
  simp only [Option.bind_some, Option.toList_some, Option.toList_none, List.append_nil, List.cons_append, List.nil_append, ↓reduceIte, true_or, or_true, Nat.reduceAdd, Nat.add_assoc]
  rw [b240_16]
  by_cases g17 : k = 17
  · rw [if_pos g17, if_neg (by decide)]; subst g17; rfl
  rw [if_neg g17, if_pos rfl, s216_18]
  simp only [Option.bind_some, Option.toList_some, Option.toList_none, List.append_nil, List.cons_append, List.nil_append, ↓reduceIte, true_or, or_true, Nat.reduceAdd, Nat.add_assoc]
  rw [b240_36 o11, m217w o11 (by omega) ht]
  simp only [Option.bind_some, Option.toList_some, Option.toList_none, List.append_nil, List.cons_append, List.nil_append, ↓reduceIte, true_or, or_true, Nat.reduceAdd, Nat.add_assoc]
  rw [b240_39]
  by_cases g18 : k = 18
  · rw [if_pos g18, if_neg (by decide)]; subst g18; rfl
  rw [if_neg g18, if_pos rfl, s216_19]
  simp only [Option.bind_some, Option.toList_some, Option.toList_none, List.append_nil, List.cons_append, List.nil_append, ↓reduceIte, true_or, or_true, Nat.reduceAdd, Nat.add_assoc]
  rw [b240_57 o11, m217w o11 (by omega) ht]
  simp only [Option.bind_some, Option.toList_some, Option.toList_none, List.append_nil, List.cons_append, List.nil_append, ↓reduceIte, true_or, or_true, Nat.reduceAdd, Nat.add_assoc]
  rw [b240_60]
  by_cases g19 : k = 19
  · rw [if_pos g19, if_neg (by decide)]; subst g19; rfl
  rw [if_neg g19, if_pos rfl, s216_20]
  simp only [Option.bind_some, Option.toList_some, Option.toList_none, List.append_nil, List.cons_append, List.nil_append, ↓reduceIte, true_or, or_true, Nat.reduceAdd, Nat.add_assoc]
  rw [b240_78 o11, m217w o11 (by omega) ht]
  simp only [Option.bind_some, Option.toList_some, Option.toList_none, List.append_nil, List.cons_append, List.nil_append, ↓reduceIte, true_or, or_true, Nat.reduceAdd, Nat.add_assoc]
  rw [b240_81]
  by_cases g20 : k = 20
  · rw [if_pos g20, if_neg (by decide)]; subst g20; rfl
  rw [if_neg g20, if_pos rfl, s216_21]
  simp only [Option.bind_some, Option.toList_some, Option.toList_none, List.append_nil, List.cons_append, List.nil_append, ↓reduceIte, true_or, or_true, Nat.reduceAdd, Nat.add_assoc]
  rw [b240_100 o11, m217w o11 (by omega) ht]
  simp only [Option.bind_some, Option.toList_some, Option.toList_none, List.append_nil, List.cons_append, List.nil_append, ↓reduceIte, true_or, or_true, Nat.reduceAdd, Nat.add_assoc]
  rw [b240_103]
  by_cases g21 : k = 21
  · rw [if_pos g21, if_neg (by decide)]; subst g21; rfl
  rw [if_neg g21, if_pos rfl, s216_22]
  simp only [Option.bind_some, Option.toList_some, Option.toList_none, List.append_nil, List.cons_append, List.nil_append, ↓reduceIte, true_or, or_true, Nat.reduceAdd, Nat.add_assoc]
  rw [b240_122 o11, m217w o11 (by omega) ht]
  simp only [Option.bind_some, Option.toList_some, Option.toList_none, List.append_nil, List.cons_append, List.nil_append, ↓reduceIte, true_or, or_true, Nat.reduceAdd, Nat.add_assoc]
  rw [b240_125]
  by_cases g22 : k = 22
  · rw [if_pos g22, if_neg (by decide)]; subst g22; rfl
  rw [if_neg g22, if_pos rfl, s216_23]
  simp only [Option.bind_some, Option.toList_some, Option.toList_none, List.append_nil, List.cons_append, List.nil_append, ↓reduceIte, true_or, or_true, Nat.reduceAdd, Nat.add_assoc]
  rw [b240_144 o11, m217w o11 (by omega) ht]
  simp only [Option.bind_some, Option.toList_some, Option.toList_none, List.append_nil, List.cons_append, List.nil_append, ↓reduceIte, true_or, or_true, Nat.reduceAdd, Nat.add_assoc]
  rw [b240_147]
  by_cases g23 : k = 23
  · rw [if_pos g23, if_neg (by decide)]; subst g23; rfl
  rw [if_neg g23, if_pos rfl, s216_24]
  simp only [Option.bind_some, Option.toList_some, Option.toList_none, List.append_nil, List.cons_append, List.nil_append, ↓reduceIte, true_or, or_true, Nat.reduceAdd, Nat.add_assoc]
  rw [b240_166 o11, m217w o11 (by omega) ht]
  simp only [Option.bind_some, Option.toList_some, Option.toList_none, List.append_nil, List.cons_append, List.nil_append, ↓reduceIte, true_or, or_true, Nat.reduceAdd, Nat.add_assoc]
  rw [b240_169]
  by_cases g24 : k = 24
  · rw [if_pos g24, if_neg (by decide)]; subst g24; rfl
  rw [if_neg g24, if_pos rfl, s216_25]
  simp only [Option.bind_some, Option.toList_some, Option.toList_none, List.append_nil, List.cons_append, List.nil_append, ↓reduceIte, true_or, or_true, Nat.reduceAdd, Nat.add_assoc]
  rw [b240_189 o11, m217w o11 (by omega) ht]
  simp only [Option.bind_some, Option.toList_some, Option.toList_none, List.append_nil, List.cons_append, List.nil_append, ↓reduceIte, true_or, or_true, Nat.reduceAdd, Nat.add_assoc]
  rw [b240_192]
  by_cases g25 : k = 25
  · rw [if_pos g25, if_neg (by decide)]; subst g25; rfl
  rw [if_neg g25, if_pos rfl, s216_27]
  simp only [Option.bind_some, Option.toList_some, Option.toList_none, List.append_nil, List.cons_append, List.nil_append, ↓reduceIte, true_or, or_true, Nat.reduceAdd, Nat.add_assoc]
  rw [b240_212 o11, m217w o11 (by omega) ht]
  simp only [Option.bind_some, Option.toList_some, Option.toList_none, List.append_nil, List.cons_append, List.nil_append, ↓reduceIte, true_or, or_true, Nat.reduceAdd, Nat.add_assoc]
  rw [b240_215]
  by_cases g27 : k = 27
  · rw [if_pos g27, if_neg (by decide)]; subst g27; rfl
  rw [if_neg g27, if_pos rfl, s216_29]
  simp only [Option.bind_some, Option.toList_some, Option.toList_none, List.append_nil, List.cons_append, List.nil_append, ↓reduceIte, true_or, or_true, Nat.reduceAdd, Nat.add_assoc]
  rw [b240_235 o11, m217w o11 (by omega) ht]
  simp only [Option.bind_some, Option.toList_some, Option.toList_none, List.append_nil, List.cons_append, List.nil_append, ↓reduceIte, true_or, or_true, Nat.reduceAdd, Nat.add_assoc]
  rw [b240_238]
  by_cases g29 : k = 29
  · rw [if_pos g29, if_neg (by decide), b240_247]; subst g29; rfl
  rw [if_neg g29, if_pos rfl, b240_247]
  unfold stv
  rw [if_neg g17, if_neg g18, if_neg g19, if_neg g20, if_neg g21, if_neg g22, if_neg g23, if_neg g24, if_neg g25, if_neg g27, if_neg g29]
def tsv (k : Nat) : Int32 := if k = 26 then 0 else if k = 3 then 1 else if k = 18 then 2 else -1
theorem stv_1 (hk : k ≤ 38) : (stv k = 1) = (k = 18) := by
  have : ∀ k, k ≤ 38 → (stv k = 1 ↔ k = 18) := by decide
  exact propext (this k hk)
theorem TokR_k (ht : TokR k v q l) : k ≤ 38 := by
  rcases ht with ⟨a, _⟩ | ⟨a, _⟩ | ⟨a, _⟩ | ⟨a, _⟩ | ⟨a, _⟩ | ⟨a, _⟩ | ⟨a, _⟩ | ⟨a, _⟩ | ⟨a, _⟩ | ⟨a, _⟩ <;> omega
theorem m241 (o11 : ok11 hs_S0 R 140) (ht : TokR k v q l) : hs_C scr (d + 2) 241 [.ref 140] (hs_S0, hs_z J 140 q, hs_z M 140 l, R) = some (some (.int (tsv k)), (hs_S0, hs_z J 140 q, hs_z M 140 l, R)) := by
  rw [e241, b241_0, s216_26]
  simp only [Option.bind_some, Option.toList_some, Option.toList_none, List.append_nil, List.cons_append, List.nil_append, ↓reduceIte, true_or, or_true, Nat.reduceAdd, Nat.add_assoc]
  rw [b241_15 o11, m217w o11 (by omega) ht]
  simp only [Option.bind_some, Option.toList_some, Option.toList_none, List.append_nil, List.cons_append, List.nil_append, ↓reduceIte, true_or, or_true, Nat.reduceAdd, Nat.add_assoc]
  rw [b241_18 o11]
  by_cases g26 : k = 26
  · rw [if_pos g26, if_neg (by decide)]; subst g26; rfl
  rw [if_neg g26, if_pos rfl, m242 o11 ht]
  simp only [Option.bind_some, Option.toList_some, Option.toList_none, List.append_nil, List.cons_append, List.nil_append, ↓reduceIte, true_or, or_true, Nat.reduceAdd, Nat.add_assoc]
  rw [b241_27 o11]
  by_cases g3 : k = 3
  · rw [if_pos g3, if_neg (by decide), b241_47]; subst g3; rfl
  rw [if_neg g3, if_pos rfl, m240 o11 ht]
  simp only [Option.bind_some, Option.toList_some, Option.toList_none, List.append_nil, List.cons_append, List.nil_append, ↓reduceIte, true_or, or_true, Nat.reduceAdd, Nat.add_assoc]
  rw [b241_38]
  by_cases g18 : k = 18
  · subst g18; rw [if_pos (by decide), b241_47]; rfl
  rw [if_neg (by rw [stv_1 (TokR_k ht)]; exact g18), b241_47]
  unfold tsv
  rw [if_neg g26, if_neg g3, if_neg g18]
end TV
