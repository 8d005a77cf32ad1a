/-! rows that all calls use: loops, fillings; clear and empties -/
section BA
variable {scr : List Int32} {d : Nat} {S : List hs_S} {I : Nat → Nat → Int32} {L : Nat → Nat → Int64} {R : Nat → Nat → Nat}
theorem ib_nI {i n : Nat} (h : i < n) (hn : n < 2 ^ 31) : hs_ib (nI i) n = true := by
  have := nI_clamp (n := i) (by omega)
  simp only [hs_ib, Bool.and_eq_true, decide_eq_true_eq, this]
  exact ⟨nI_pos (by omega), h⟩
theorem hu_same {α : Type} (m : Nat → Nat → α) (k f : Nat) (x : α) : hs_u m k f x k f = x := by simp [hs_u]
theorem hu_row {α : Type} (m : Nat → Nat → α) {k f a : Nat} (x : α) (h : a ≠ k) : hs_u m k f x a = m a := by
  funext b; simp [hs_u, h]
theorem hu_ne {α : Type} (m : Nat → Nat → α) {k f b : Nat} (x : α) (h : b ≠ f) : hs_u m k f x k b = m k b := by simp [hs_u, h]
/-- a stretch of a row set to one value -/
def fill {α : Type} (m : Nat → Nat → α) (k lo n : Nat) (v : α) : Nat → Nat → α := fun a b => if a = k ∧ lo ≤ b ∧ b < lo + n then v else m a b
theorem fill_0 {α : Type} (m : Nat → Nat → α) (k lo : Nat) (v : α) : fill m k lo 0 v = m := by
  funext a b; unfold fill; rw [if_neg (by omega)]
theorem fill_s {α : Type} (m : Nat → Nat → α) (k lo n : Nat) (v : α) : hs_u (fill m k lo n v) k (lo + n) v = fill m k lo (n + 1) v := by
  funext a b
  simp only [hs_u, fill]
  by_cases h1 : a = k
  · by_cases h2 : b = lo + n
    · rw [if_pos ⟨h1, h2⟩, if_pos ⟨h1, by omega, by omega⟩]
    · rw [if_neg (fun q => h2 q.2)]
      by_cases h3 : lo ≤ b ∧ b < lo + n
      · rw [if_pos ⟨h1, h3.1, h3.2⟩, if_pos ⟨h1, h3.1, by omega⟩]
      · rw [if_neg (fun q => h3 q.2), if_neg (fun q => h3 ⟨q.2.1, by omega⟩)]
  · rw [if_neg (fun q => h1 q.1), if_neg (fun q => h1 q.1), if_neg (fun q => h1 q.1)]
theorem fill_row {α : Type} (m : Nat → Nat → α) {k lo n a : Nat} (v : α) (h : a ≠ k) : fill m k lo n v a = m a := by
  funext b; simp [fill, h]
theorem fill_in {α : Type} (m : Nat → Nat → α) {k lo n b : Nat} (v : α) (h1 : lo ≤ b) (h2 : b < lo + n) : fill m k lo n v k b = v := by simp [fill, h1, h2]
theorem fill_out {α : Type} (m : Nat → Nat → α) {k lo n b : Nat} (v : α) (h : b < lo ∨ lo + n ≤ b) : fill m k lo n v k b = m k b := by
  unfold fill; rw [if_neg (by omega)]
/-- a loop that runs up -/
def fo {α : Type} (g : Nat → α → α) : Nat → α → α
  | 0, s => s
  | n + 1, s => g n (fo g n s)
theorem fo_up {α β : Type} {head : Nat → α → β} {g : Nat → α → α} {n : Nat} {P : Nat → α → Prop} (hs : ∀ i s, i < n → P i s → head i s = head (i + 1) (g i s) ∧ P (i + 1) (g i s)) {s : α} (h0 : P 0 s) : ∀ m, m ≤ n → head 0 s = head m (fo g m s) ∧ P m (fo g m s)
  | 0, _ => ⟨rfl, h0⟩
  | m + 1, hm => by
    have h1 := fo_up hs h0 m (by omega)
    have h2 := hs m (fo g m s) (by omega) h1.2
    exact ⟨h1.1.trans h2.1, h2.2⟩
/-- without a premise on the state -/
theorem fo_upT {α β : Type} {head : Nat → α → β} {g : Nat → α → α} {n : Nat} (hs : ∀ i s, i < n → head i s = head (i + 1) (g i s)) (s : α) : head 0 s = head n (fo g n s) :=
  (fo_up (P := fun _ _ => True) (fun i s hi _ => ⟨hs i s hi, trivial⟩) trivial n (Nat.le_refl n)).1
def clI (t : Nat) (I : Nat → Nat → Int32) : Nat → Nat → Int32 := fill (hs_u (hs_u (hs_u (hs_u (hs_u (hs_u (hs_u (hs_u (hs_u (hs_u (hs_u (hs_u I (t + 1) 3 0) (t + 5) 4 0) t 8 0) t 9 0) t 10 0) t 11 0) t 12 0) t 13 2) t 14 20) t 15 0) t 16 1) t 17 (-1)) (t + 13) 0 48 3
theorem s9_loop {t : Nat} (o : ok4 S R t) : ∀ m i, i + m = 48 → hs_R scr d 9 69 [some (.ref t), some (.int (nI i))] [] (S, fill I (t + 13) 0 i 3, L, R) = some (none, (S, fill I (t + 13) 0 48 3, L, R))
  | 0, i, h => by
    obtain rfl : i = 48 := by omega
    rw [b9_69 o]; exact if_pos (by decide)
  | m + 1, i, h => by
    have hf := fill_s I (t + 13) 0 i (3 : Int32)
    rw [Nat.zero_add] at hf
    rw [b9_69 o, if_neg (show ¬ (48 : Int32) ≤ nI i from nI_ge (a := i) (b := 48) (by omega) (by decide)), if_pos (ib_nI (by omega) (by decide)), nI_clamp (by omega), hf, nI_1]
    exact s9_loop o m (i + 1) (by omega)
theorem s9 {t : Nat} (o : ok4 S R t) : hs_C scr d 9 [.ref t] (S, I, L, R) = some (none, (S, clI t I, L, R)) := by
  rw [e9, b9_0 o]
  have := s9_loop (scr := scr) (d := d) (L := L) (I := hs_u (hs_u (hs_u (hs_u (hs_u (hs_u (hs_u (hs_u (hs_u (hs_u (hs_u (hs_u I (t + 1) 3 0) (t + 5) 4 0) t 8 0) t 9 0) t 10 0) t 11 0) t 12 0) t 13 2) t 14 20) t 15 0) t 16 1) t 17 (-1)) o 48 0 rfl
  rw [fill_0] at this
  exact this
def emI (t b : Nat) (I : Nat → Nat → Int32) : Nat → Nat → Int32 := hs_u (hs_u (hs_u (fill I (t + 5) (399 * b) 399 0) (t + 5) (399 * b + 6) 2) (t + 5) (399 * b + 7) 20) (t + 5) (399 * b + 9) 1
theorem s192_loop {t b : Nat} (o : ok11 S R t) (hb : b ≤ 4) : ∀ m i, i + m = 399 → hs_R scr d 192 8 [some (.ref t), some (.int (nI b)), some (.int (nI (399 * b))), some (.int (nI i))] [] (S, fill I (t + 5) (399 * b) i 0, L, R) = some (none, (S, emI t b I, L, R))
  | 0, i, h => by
    obtain rfl : i = 399 := by omega
    rw [b192_8 o, if_pos (by decide)]
    have e6 : nI (399 * b) + 6 = nI (399 * b + 6) := nI_add _ 6
    have e7 : nI (399 * b) + 7 = nI (399 * b + 7) := nI_add _ 7
    have e9 : nI (399 * b) + 9 = nI (399 * b + 9) := nI_add _ 9
    rw [e6, e7, e9, if_pos (ib_nI (by omega) (by decide)), if_pos (ib_nI (by omega) (by decide)), if_pos (ib_nI (by omega) (by decide)), nI_clamp (by omega), nI_clamp (by omega), nI_clamp (by omega)]
    rfl
  | m + 1, i, h => by
    rw [b192_8 o, if_neg (show ¬ (399 : Int32) ≤ nI i from nI_ge (a := i) (b := 399) (by omega) (by decide)), nI_add, if_pos (ib_nI (by omega) (by decide)), nI_clamp (by omega), fill_s, nI_1]
    exact s192_loop o hb m (i + 1) (by omega)
theorem s192 {t b : Nat} (o : ok11 S R t) (hb : b ≤ 4) : hs_C scr d 192 [.ref t, .int (nI b)] (S, I, L, R) = some (none, (S, emI t b I, L, R)) := by
  have em : (399 : Int32) * nI b = nI (399 * b) := pk_mul 399 b
  rw [e192, b192_0, em]
  have := s192_loop (scr := scr) (d := d) (L := L) (I := I) o hb 399 0 rfl
  rw [fill_0] at this
  exact this
end BA
