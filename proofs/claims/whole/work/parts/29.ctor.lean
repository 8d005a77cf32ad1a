/-! the constructors, evaluated by the kernel over a table of their instructions. Written by gen/mkctor.py -/
def hs_h0 : hs_H := ([.inl 99, .inl 98], fun _ _ => 0, fun _ _ => 0, fun _ _ => 0)
def ct_f {α : Type} : List (Nat × α) → Nat → Option α
  | [], _ => none
  | e :: l, k => if Nat.beq e.1 k = true then some e.2 else ct_f l k
theorem ct_f_mem {α : Type} : ∀ {l : List (Nat × α)} {k : Nat} {a : α}, ct_f l k = some a → (k, a) ∈ l
  | [], _, _, h => by cases h
  | e :: l, k, a, h => by
    rw [ct_f] at h
    split at h
    · rename_i hq; cases h; rw [← Nat.eq_of_beq_eq_true hq]; exact List.mem_cons_self
    · exact List.mem_cons_of_mem _ (ct_f_mem h)
def ct_m1 : List (Nat × Instr × Nat) := [(0, .aload_n 0, 1), (1, .invokespecial 3, 3), (4, .aload_n 0, 1), (5, .sipush 900, 3), (8, .newarray .byte, 2), (10, .putfield 9, 3), (13, .aload_n 0, 1), (14, .bipush 30, 2), (16, .newarray .long, 2), (18, .putfield 15, 3), (21, .aload_n 0, 1), (22, .sipush 901, 3), (25, .newarray .int, 2), (27, .putfield 19, 3), (30, .aload_n 0, 1), (31, .sipush 901, 3), (34, .newarray .int, 2), (36, .putfield 23, 3), (39, .aload_n 0, 1), (40, .sipush 901, 3), (43, .newarray .long, 2), (45, .putfield 26, 3), (48, .aload_n 0, 1), (49, .bipush 37, 2), (51, .putfield 29, 3), (54, .aload_n 0, 1), (55, .iconst (-1), 1), (56, .putfield 33, 3), (59, .aload_n 0, 1), (60, .iconst (-1), 1), (61, .putfield 36, 3), (64, .iconst 0, 1), (65, .istore_n 1, 1), (66, .lconst 0, 1), (67, .lstore_n 2, 1), (68, .iconst 0, 1), (69, .istore 4, 2), (71, .iload 4, 2), (73, .ldc 39, 2), (75, .invokevirtual 41, 3), (78, .if_icmp .ge 53, 3), (81, .iload_n 1, 1), (82, .bipush 30, 2), (84, .if_icmp .ge 47, 3), (87, .ldc 39, 2), (89, .iload 4, 2), (91, .invokevirtual 47, 3), (94, .istore 5, 2), (96, .iload 5, 2), (98, .bipush 32, 2), (100, .if_icmp .ne 18, 3), (103, .aload_n 0, 1), (104, .getfield 15, 3), (107, .iload_n 1, 1), (108, .lload_n 2, 1), (109, .lastore, 1), (110, .iinc 1 1, 3), (113, .lconst 0, 1), (114, .lstore_n 2, 1), (115, .goto 10, 3), (118, .lload_n 2, 1), (119, .iload 5, 2), (121, .invokestatic 51, 3), (124, .lstore_n 2, 1), (125, .iinc 4 1, 3), (128, .goto (-57), 3), (131, .return_, 1)]
def ct_m2 : List (Nat × Instr × Nat) := [(0, .lload_n 0, 1), (1, .ldc2_w 55, 3), (4, .lmul, 1), (5, .iload_n 2, 1), (6, .bipush 97, 2), (8, .isub, 1), (9, .iconst 1, 1), (10, .iadd, 1), (11, .i2l, 1), (12, .ladd, 1), (13, .lreturn, 1)]
def ct_m0 : List (Nat × Instr × Nat) := [(0, .aload_n 0, 1), (1, .invokespecial 3, 3), (4, .aload_n 0, 1), (5, .iconst 4, 1), (6, .anewarray 9, 3), (9, .putfield 11, 3), (12, .aload_n 0, 1), (13, .new 15, 3), (16, .dup, 1), (17, .invokespecial 17, 3), (20, .putfield 18, 3), (23, .aload_n 0, 1), (24, .new 22, 3), (27, .dup, 1), (28, .invokespecial 24, 3), (31, .putfield 25, 3), (34, .aload_n 0, 1), (35, .new 29, 3), (38, .dup, 1), (39, .invokespecial 31, 3), (42, .putfield 32, 3), (45, .aload_n 0, 1), (46, .iconst 3, 1), (47, .anewarray 36, 3), (50, .putfield 38, 3), (53, .aload_n 0, 1), (54, .iconst 3, 1), (55, .anewarray 42, 3), (58, .putfield 44, 3), (61, .aload_n 0, 1), (62, .new 48, 3), (65, .dup, 1), (66, .invokespecial 50, 3), (69, .putfield 51, 3), (72, .aload_n 0, 1), (73, .sipush 1024, 3), (76, .newarray .int, 2), (78, .putfield 55, 3), (81, .aload_n 0, 1), (82, .new 36, 3), (85, .dup, 1), (86, .invokespecial 59, 3), (89, .putfield 60, 3), (92, .aload_n 0, 1), (93, .new 36, 3), (96, .dup, 1), (97, .invokespecial 59, 3), (100, .putfield 64, 3), (103, .aload_n 0, 1), (104, .new 42, 3), (107, .dup, 1), (108, .invokespecial 67, 3), (111, .putfield 68, 3), (114, .aload_n 0, 1), (115, .new 42, 3), (118, .dup, 1), (119, .invokespecial 67, 3), (122, .putfield 72, 3), (125, .aload_n 0, 1), (126, .new 75, 3), (129, .dup, 1), (130, .invokespecial 77, 3), (133, .putfield 78, 3), (136, .aload_n 0, 1), (137, .new 75, 3), (140, .dup, 1), (141, .invokespecial 77, 3), (144, .putfield 82, 3), (147, .aload_n 0, 1), (148, .lconst 1, 1), (149, .putfield 85, 3), (152, .iconst 0, 1), (153, .istore_n 1, 1), (154, .iload_n 1, 1), (155, .iconst 4, 1), (156, .if_icmp .ge 22, 3), (159, .aload_n 0, 1), (160, .getfield 11, 3), (163, .iload_n 1, 1), (164, .new 9, 3), (167, .dup, 1), (168, .invokespecial 89, 3), (171, .aastore, 1), (172, .iinc 1 1, 3), (175, .goto (-21), 3), (178, .iconst 0, 1), (179, .istore_n 1, 1), (180, .iload_n 1, 1), (181, .iconst 3, 1), (182, .if_icmp .ge 35, 3), (185, .aload_n 0, 1), (186, .getfield 38, 3), (189, .iload_n 1, 1), (190, .new 36, 3), (193, .dup, 1), (194, .invokespecial 59, 3), (197, .aastore, 1), (198, .aload_n 0, 1), (199, .getfield 44, 3), (202, .iload_n 1, 1), (203, .new 42, 3), (206, .dup, 1), (207, .invokespecial 67, 3), (210, .aastore, 1), (211, .iinc 1 1, 3), (214, .goto (-34), 3), (217, .return_, 1)]
def ct_m6 : List (Nat × Instr × Nat) := [(0, .aload_n 0, 1), (1, .invokespecial 3, 3), (4, .aload_n 0, 1), (5, .new 9, 3), (8, .dup, 1), (9, .invokespecial 11, 3), (12, .putfield 12, 3), (15, .aload_n 0, 1), (16, .new 18, 3), (19, .dup, 1), (20, .invokespecial 20, 3), (23, .putfield 21, 3), (26, .aload_n 0, 1), (27, .iconst 5, 1), (28, .newarray .int, 2), (30, .putfield 25, 3), (33, .aload_n 0, 1), (34, .iconst 5, 1), (35, .newarray .int, 2), (37, .putfield 29, 3), (40, .aload_n 0, 1), (41, .bipush 6, 2), (43, .newarray .int, 2), (45, .putfield 32, 3), (48, .aload_n 0, 1), (49, .bipush 48, 2), (51, .newarray .int, 2), (53, .putfield 35, 3), (56, .aload_n 0, 1), (57, .bipush 10, 2), (59, .newarray .int, 2), (61, .putfield 38, 3), (64, .aload_n 0, 1), (65, .bipush 10, 2), (67, .newarray .int, 2), (69, .putfield 41, 3), (72, .aload_n 0, 1), (73, .invokevirtual 44, 3), (76, .return_, 1)]
def ct_m7 : List (Nat × Instr × Nat) := [(0, .aload_n 0, 1), (1, .invokespecial 3, 3), (4, .aload_n 0, 1), (5, .bipush 31, 2), (7, .newarray .long, 2), (9, .putfield 9, 3), (12, .aload_n 0, 1), (13, .bipush 31, 2), (15, .newarray .int, 2), (17, .putfield 15, 3), (20, .aload_n 0, 1), (21, .bipush 31, 2), (23, .newarray .int, 2), (25, .putfield 19, 3), (28, .return_, 1)]
def ct_m8 : List (Nat × Instr × Nat) := [(0, .aload_n 0, 1), (1, .invokespecial 3, 3), (4, .aload_n 0, 1), (5, .bipush 8, 2), (7, .newarray .int, 2), (9, .putfield 9, 3), (12, .aload_n 0, 1), (13, .bipush 8, 2), (15, .newarray .int, 2), (17, .putfield 15, 3), (20, .aload_n 0, 1), (21, .bipush 8, 2), (23, .newarray .int, 2), (25, .putfield 18, 3), (28, .aload_n 0, 1), (29, .bipush 8, 2), (31, .newarray .int, 2), (33, .putfield 21, 3), (36, .return_, 1)]
def ct_m10 : List (Nat × Instr × Nat) := [(0, .aload_n 0, 1), (1, .invokespecial 3, 3), (4, .aload_n 0, 1), (5, .bipush 60, 2), (7, .newarray .int, 2), (9, .putfield 11, 3), (12, .aload_n 0, 1), (13, .bipush 60, 2), (15, .newarray .int, 2), (17, .putfield 15, 3), (20, .aload_n 0, 1), (21, .bipush 60, 2), (23, .newarray .int, 2), (25, .putfield 18, 3), (28, .aload_n 0, 1), (29, .bipush 60, 2), (31, .newarray .int, 2), (33, .putfield 21, 3), (36, .aload_n 0, 1), (37, .bipush 60, 2), (39, .newarray .int, 2), (41, .putfield 24, 3), (44, .return_, 1)]
def ct_m12 : List (Nat × Instr × Nat) := [(0, .aload_n 0, 1), (1, .invokespecial 3, 3), (4, .aload_n 0, 1), (5, .bipush 60, 2), (7, .newarray .long, 2), (9, .putfield 9, 3), (12, .aload_n 0, 1), (13, .iconst (-1), 1), (14, .putfield 15, 3), (17, .return_, 1)]
def ct_m3 : List (Nat × Instr × Nat) := [(0, .aload_n 0, 1), (1, .invokespecial 3, 3), (4, .return_, 1)]
def ct_m4 : List (Nat × Instr × Nat) := [(0, .aload_n 0, 1), (1, .invokespecial 3, 3), (4, .aload_n 0, 1), (5, .iconst 3, 1), (6, .newarray .int, 2), (8, .putfield 9, 3), (11, .return_, 1)]
def ct_m5 : List (Nat × Instr × Nat) := [(0, .aload_n 0, 1), (1, .invokespecial 3, 3), (4, .aload_n 0, 1), (5, .bipush 8, 2), (7, .newarray .int, 2), (9, .putfield 9, 3), (12, .return_, 1)]
def ct_m11 : List (Nat × Instr × Nat) := [(0, .aload_n 0, 1), (1, .invokespecial 3, 3), (4, .aload_n 0, 1), (5, .bipush 60, 2), (7, .newarray .int, 2), (9, .putfield 11, 3), (12, .return_, 1)]
def ct_m191 : List (Nat × Instr × Nat) := [(0, .aload_n 0, 1), (1, .invokespecial 1, 3), (4, .aload_n 0, 1), (5, .lconst 1, 1), (6, .putfield 7, 3), (9, .aload_n 0, 1), (10, .iconst 4, 1), (11, .newarray .int, 2), (13, .putfield 13, 3), (16, .aload_n 0, 1), (17, .iconst 4, 1), (18, .newarray .int, 2), (20, .putfield 17, 3), (23, .aload_n 0, 1), (24, .sipush 240, 3), (27, .newarray .long, 2), (29, .putfield 20, 3), (32, .aload_n 0, 1), (33, .sipush 900, 3), (36, .newarray .byte, 2), (38, .putfield 24, 3), (41, .aload_n 0, 1), (42, .iconst (-1), 1), (43, .putfield 28, 3), (46, .aload_n 0, 1), (47, .iconst (-1), 1), (48, .putfield 32, 3), (51, .aload_n 0, 1), (52, .sipush 1995, 3), (55, .newarray .int, 2), (57, .putfield 35, 3), (60, .aload_n 0, 1), (61, .bipush 127, 2), (63, .newarray .int, 2), (65, .putfield 38, 3), (68, .aload_n 0, 1), (69, .bipush 127, 2), (71, .newarray .int, 2), (73, .putfield 41, 3), (76, .aload_n 0, 1), (77, .sipush 155, 3), (80, .newarray .long, 2), (82, .putfield 44, 3), (85, .aload_n 0, 1), (86, .sipush 508, 3), (89, .newarray .int, 2), (91, .putfield 47, 3), (94, .aload_n 0, 1), (95, .bipush 9, 2), (97, .newarray .long, 2), (99, .putfield 50, 3), (102, .aload_n 0, 1), (103, .iconst 5, 1), (104, .newarray .int, 2), (106, .putfield 53, 3), (109, .iconst 0, 1), (110, .istore_n 1, 1), (111, .iload_n 1, 1), (112, .iconst 4, 1), (113, .if_icmp .ge 16, 3), (116, .aload_n 0, 1), (117, .getfield 17, 3), (120, .iload_n 1, 1), (121, .iconst (-1), 1), (122, .iastore, 1), (123, .iinc 1 1, 3), (126, .goto (-15), 3), (129, .aload_n 0, 1), (130, .iconst 0, 1), (131, .invokevirtual 56, 3), (134, .return_, 1)]
def ct_tb : List (Nat × List (Nat × Instr × Nat)) := [(1, ct_m1), (2, ct_m2), (0, ct_m0), (6, ct_m6), (7, ct_m7), (8, ct_m8), (10, ct_m10), (12, ct_m12), (3, ct_m3), (4, ct_m4), (5, ct_m5), (11, ct_m11), (191, ct_m191)]
theorem ct_ok1 : ∀ f ∈ ct_m1, decode (hs_code 1) f.1 = .ok (f.2.1, f.2.2) := by decide +kernel
theorem ct_ok2 : ∀ f ∈ ct_m2, decode (hs_code 2) f.1 = .ok (f.2.1, f.2.2) := by decide +kernel
theorem ct_ok0 : ∀ f ∈ ct_m0, decode (hs_code 0) f.1 = .ok (f.2.1, f.2.2) := by decide +kernel
theorem ct_ok6 : ∀ f ∈ ct_m6, decode (hs_code 6) f.1 = .ok (f.2.1, f.2.2) := by decide +kernel
theorem ct_ok7 : ∀ f ∈ ct_m7, decode (hs_code 7) f.1 = .ok (f.2.1, f.2.2) := by decide +kernel
theorem ct_ok8 : ∀ f ∈ ct_m8, decode (hs_code 8) f.1 = .ok (f.2.1, f.2.2) := by decide +kernel
theorem ct_ok10 : ∀ f ∈ ct_m10, decode (hs_code 10) f.1 = .ok (f.2.1, f.2.2) := by decide +kernel
theorem ct_ok12 : ∀ f ∈ ct_m12, decode (hs_code 12) f.1 = .ok (f.2.1, f.2.2) := by decide +kernel
theorem ct_ok3 : ∀ f ∈ ct_m3, decode (hs_code 3) f.1 = .ok (f.2.1, f.2.2) := by decide +kernel
theorem ct_ok4 : ∀ f ∈ ct_m4, decode (hs_code 4) f.1 = .ok (f.2.1, f.2.2) := by decide +kernel
theorem ct_ok5 : ∀ f ∈ ct_m5, decode (hs_code 5) f.1 = .ok (f.2.1, f.2.2) := by decide +kernel
theorem ct_ok11 : ∀ f ∈ ct_m11, decode (hs_code 11) f.1 = .ok (f.2.1, f.2.2) := by decide +kernel
theorem ct_ok191 : ∀ f ∈ ct_m191, decode (hs_code 191) f.1 = .ok (f.2.1, f.2.2) := by decide +kernel
theorem ct_ok : ∀ e ∈ ct_tb, e.1 ≠ hs_jL ∧ ∀ f ∈ e.2, decode (hs_code e.1) f.1 = .ok (f.2.1, f.2.2) := by
  intro e he
  simp only [ct_tb, List.mem_cons, List.not_mem_nil, or_false] at he
  rcases he with rfl | rfl | rfl | rfl | rfl | rfl | rfl | rfl | rfl | rfl | rfl | rfl | rfl
  · exact ⟨by decide, ct_ok1⟩
  · exact ⟨by decide, ct_ok2⟩
  · exact ⟨by decide, ct_ok0⟩
  · exact ⟨by decide, ct_ok6⟩
  · exact ⟨by decide, ct_ok7⟩
  · exact ⟨by decide, ct_ok8⟩
  · exact ⟨by decide, ct_ok10⟩
  · exact ⟨by decide, ct_ok12⟩
  · exact ⟨by decide, ct_ok3⟩
  · exact ⟨by decide, ct_ok4⟩
  · exact ⟨by decide, ct_ok5⟩
  · exact ⟨by decide, ct_ok11⟩
  · exact ⟨by decide, ct_ok191⟩
def ct_lk (j pc : Nat) : Option (Instr × Nat) := match ct_f ct_tb j with
  | none => none
  | some l => ct_f l pc
theorem ct_lk_ok {j pc : Nat} {q : Instr × Nat} (h : ct_lk j pc = some q) : j ≠ hs_jL ∧ decode (hs_code j) pc = .ok q := by
  unfold ct_lk at h
  cases e : ct_f ct_tb j with
  | none => rw [e] at h; cases h
  | some l =>
    rw [e] at h
    have h' : ct_f l pc = some q := h
    have h1 := ct_ok (j, l) (ct_f_mem e)
    have h2 : decode (hs_code j) pc = .ok (q.1, q.2) := h1.2 (pc, q) (ct_f_mem h')
    exact ⟨h1.1, h2⟩
def ct_stp (j pc : Nat) (loc : hs_L) (st : List Value) (h : hs_H) : Option hs_X := match ct_lk j pc with
  | none => none
  | some q => if hs_ln q.1 = 0 ∨ q.2 = hs_ln q.1 then hs_xi [] j q.1 pc loc st h else none
def okd4 (S : List hs_S) (R : Nat → Nat → Nat) (t : Nat) : Decidable (ok4 S R t) := by unfold ok4 ok3 ok1; repeat' (first | refine @instDecidableAnd _ _ ?_ ?_ | infer_instance)
def okd11 (S : List hs_S) (R : Nat → Nat → Nat) (t : Nat) : Decidable (ok11 S R t) := by unfold ok11; repeat' (first | refine @instDecidableAnd _ _ ?_ ?_ | infer_instance)
/-- clear and empties at one stroke -/
def ct_sc (j : Nat) (as : List Value) (h : hs_H) : Option hs_O := match j, as with
  | 9, [.ref t] => if @decide (ok4 h.1 h.2.2.2 t) (okd4 _ _ _) = true then some (none, (h.1, clI t h.2.1, h.2.2.1, h.2.2.2)) else none
  | 192, [.ref t, .int b] => if b = nI 0 ∧ @decide (ok11 h.1 h.2.2.2 t) (okd11 _ _ _) = true then some (none, (h.1, emI t 0 h.2.1, h.2.2.1, h.2.2.2)) else none
  | _, _ => none
theorem ct_sc_ok {scr : List Int32} {d j : Nat} {as : List Value} {h : hs_H} {o : hs_O} (e : ct_sc j as h = some o) : hs_C scr d j as h = some o := by
  unfold ct_sc at e
  split at e
  · split at e
    · rename_i t hq
      cases e
      exact s9 (@of_decide_eq_true _ (okd4 _ _ _) hq)
    · cases e
  · split at e
    · rename_i t b hq
      cases e
      rw [hq.1]
      exact s192 (@of_decide_eq_true _ (okd11 _ _ _) hq.2) (by omega)
    · cases e
  · cases e
def ct_run : Nat → Nat → Nat → Nat → hs_L → List Value → hs_H → Option hs_O
  | 0, _, _, _, _, _, _ => none
  | n + 1, d, j, pc, loc, st, h => match ct_stp j pc loc st h with
    | none => none
    | some (.inl t) => ct_run n d j t.1 t.2.1 t.2.2.1 t.2.2.2
    | some (.inr (.inl o)) => some o
    | some (.inr (.inr c)) => match d with
      | 0 => none
      | d + 1 => if hs_fitn c.1 c.2.1 = true then
          (match (if c.1 = 9 ∨ c.1 = 192 then ct_sc c.1 c.2.1 c.2.2.2.2.2 else ct_run n d c.1 0 (hs_en (hs_mL c.1) c.2.1) [] c.2.2.2.2.2) with
          | none => none
          | some o => ct_run n (d + 1) j c.2.2.1 c.2.2.2.1 (o.1.toList ++ c.2.2.2.2.1) o.2) else none
theorem ct_al {scr : List Int32} {j : Nat} {ty : FieldType} {pc : Nat} {loc : hs_L} {st : List Value} {h : hs_H} (hj : j ≠ hs_jL) : hs_al scr j ty pc loc st h = hs_al [] j ty pc loc st h := by
  unfold hs_al
  split
  · split
    · rfl
    · rw [if_neg (fun q => hj q.2.1), if_neg (fun q => hj q.2.1)]
  · rfl
theorem ct_len {scr : List Int32} {j pc : Nat} {loc : hs_L} {st : List Value} {h : hs_H} (hj : j ≠ hs_jL) : hs_len scr j pc loc st h = hs_len [] j pc loc st h := by
  unfold hs_len
  split
  · split
    · rfl
    · rw [if_neg (fun q => hj q.2), if_neg (fun q => hj q.2)]
  · rfl
theorem ct_xi {scr : List Int32} {j : Nat} {i : Instr} {pc : Nat} {loc : hs_L} {st : List Value} {h : hs_H} (hj : j ≠ hs_jL) : hs_xi scr j i pc loc st h = hs_xi [] j i pc loc st h := by
  cases i <;> first | rfl | exact ct_al hj | exact ct_len hj | (simp only [hs_xi]; done) | (rename_i a; cases a <;> first | rfl | (simp only [hs_xi]; done))
theorem ct_stp_ok {scr : List Int32} {j pc : Nat} {loc : hs_L} {st : List Value} {h : hs_H} {x : hs_X} (e : ct_stp j pc loc st h = some x) : hs_stp scr j pc loc st h = some x := by
  unfold ct_stp at e
  cases hl : ct_lk j pc with
  | none => rw [hl] at e; cases e
  | some q =>
    rw [hl] at e
    have := ct_lk_ok hl
    rw [hs_stp, this.2]
    dsimp only at e ⊢
    split at e
    · rename_i hq; rw [if_pos hq, ct_xi this.1]; exact e
    · cases e
theorem ct_run_ok {scr : List Int32} : ∀ (n d j pc : Nat) (loc : hs_L) (st : List Value) (h : hs_H) (o : hs_O), ct_run n d j pc loc st h = some o → hs_R scr d j pc loc st h = some o
  | 0, _, _, _, _, _, _, _, hr => by cases hr
  | n + 1, d, j, pc, loc, st, h, o, hr => by
    rw [ct_run] at hr
    cases hst : ct_stp j pc loc st h with
    | none => rw [hst] at hr; cases hr
    | some x =>
      rw [hst] at hr
      have hs := ct_stp_ok (scr := scr) hst
      match x, hr, hs with
      | .inl t, hr, hs => exact (hs_R_go hs).trans (ct_run_ok n d j t.1 t.2.1 t.2.2.1 t.2.2.2 o hr)
      | .inr (.inl o'), hr, hs => exact (hs_R_ret hs).trans hr
      | .inr (.inr (jj, as, pc', loc', r, h')), hr, hs =>
        cases d with
        | zero => cases hr
        | succ d =>
          dsimp only at hr
          split at hr
          · rename_i hf
            rw [hs_R_call hs hf]
            have hc : ∀ o1, (if jj = 9 ∨ jj = 192 then ct_sc jj as h' else ct_run n d jj 0 (hs_en (hs_mL jj) as) [] h') = some o1 → hs_C scr d jj as h' = some o1 := by
              intro o1 e1
              split at e1
              · exact ct_sc_ok e1
              · exact ct_run_ok n d jj 0 _ _ _ o1 e1
            cases hd : (if jj = 9 ∨ jj = 192 then ct_sc jj as h' else ct_run n d jj 0 (hs_en (hs_mL jj) as) [] h') with
            | none => rw [hd] at hr; cases hr
            | some o1 =>
              rw [hd] at hr
              rw [hc o1 hd]
              exact ct_run_ok n (d + 1) j _ _ _ _ o hr
          · cases hr
