/-! the evaluator: the bytecode over an abstract heap -/
abbrev hs_S : Type := Nat ⊕ (FieldType × Nat)
abbrev hs_H : Type := List hs_S × (Nat → Nat → Int32) × (Nat → Nat → Int64) × (Nat → Nat → Nat)
abbrev hs_L : Type := List (Option Value)
abbrev hs_O : Type := Option Value × hs_H
abbrev hs_T : Type := Nat × hs_L × List Value × hs_H
abbrev hs_X : Type := hs_T ⊕ (hs_O ⊕ (Nat × List Value × Nat × hs_L × List Value × hs_H))
def hs_u {α : Type} (m : Nat → Nat → α) (k f : Nat) (x : α) : Nat → Nat → α := fun a b => if a = k ∧ b = f then x else m a b
def hs_z {α : Type} (m : Nat → Nat → α) (k : Nat) (x : Nat → α) : Nat → Nat → α := fun a b => if a = k then x b else m a b
def hs_get : hs_L → Nat → Option Value
  | [], _ => none
  | a :: _, 0 => a
  | _ :: l, n + 1 => hs_get l n
def hs_kill : hs_L → Nat → hs_L
  | l, 0 => l
  | l, i + 1 => match hs_get l i with
    | some v => if v.category = 2 then l.set i none else l
    | none => l
def hs_put (l : hs_L) (i : Nat) (v : Value) : Option hs_L :=
  if v.category = 2 then (if i + 1 < l.length then some (((hs_kill l i).set i (some v)).set (i + 1) none) else none)
  else (if i < l.length then some ((hs_kill l i).set i (some v)) else none)
def hs_j (pc : Nat) (off : Int) : Option Nat := match (pc : Int) + off with
  | .ofNat n => some n
  | .negSucc _ => none
def hs_sz : hs_S → Nat
  | .inl ci => (hs_cw ci).2.2
  | .inr q => q.2
def hs_nn (h : hs_H) : Nat := h.1.length
def hs_ns (h : hs_H) : Nat := (h.1.map hs_sz).sum
/-- an index within -/
def hs_ib (i : Int32) (n : Nat) : Bool := decide (¬ i < 0) && decide (i.toNatClampNeg < n)
abbrev hs_go (pc : Nat) (loc : hs_L) (st : List Value) (h : hs_H) : Option hs_X := some (.inl (pc, loc, st, h))
def hs_la (k pc : Nat) (loc : hs_L) (st : List Value) (h : hs_H) : Option hs_X := match hs_get loc k with
  | some (.ref a) => hs_go pc loc (.ref a :: st) h
  | _ => none
def hs_li (k pc : Nat) (loc : hs_L) (st : List Value) (h : hs_H) : Option hs_X := match hs_get loc k with
  | some (.int a) => hs_go pc loc (.int a :: st) h
  | _ => none
def hs_ll (k pc : Nat) (loc : hs_L) (st : List Value) (h : hs_H) : Option hs_X := match hs_get loc k with
  | some (.long a) => hs_go pc loc (.long a :: st) h
  | _ => none
def hs_sa (k pc : Nat) (loc : hs_L) (st : List Value) (h : hs_H) : Option hs_X := match st with
  | .ref a :: r => (hs_put loc k (.ref a)).bind fun l => hs_go pc l r h
  | _ => none
def hs_si (k pc : Nat) (loc : hs_L) (st : List Value) (h : hs_H) : Option hs_X := match st with
  | .int a :: r => (hs_put loc k (.int a)).bind fun l => hs_go pc l r h
  | _ => none
def hs_sl (k pc : Nat) (loc : hs_L) (st : List Value) (h : hs_H) : Option hs_X := match st with
  | .long a :: r => (hs_put loc k (.long a)).bind fun l => hs_go pc l r h
  | _ => none
def hs_inc (k : Nat) (c : Int) (pc : Nat) (loc : hs_L) (st : List Value) (h : hs_H) : Option hs_X := match hs_get loc k with
  | some (.int x) => (hs_put loc k (.int (x + Int32.ofInt c))).bind fun l => hs_go (pc + 3) l st h
  | _ => none
def hs_i2 (f : Int32 → Int32 → Int32) (pc : Nat) (loc : hs_L) (st : List Value) (h : hs_H) : Option hs_X := match st with
  | .int y :: .int x :: r => hs_go (pc + 1) loc (.int (f x y) :: r) h
  | _ => none
def hs_i2d (f : Int32 → Int32 → Int32) (pc : Nat) (loc : hs_L) (st : List Value) (h : hs_H) : Option hs_X := match st with
  | .int y :: .int x :: r => if y = 0 then none else hs_go (pc + 1) loc (.int (f x y) :: r) h
  | _ => none
def hs_i1 (f : Int32 → Int32) (pc : Nat) (loc : hs_L) (st : List Value) (h : hs_H) : Option hs_X := match st with
  | .int x :: r => hs_go (pc + 1) loc (.int (f x) :: r) h
  | _ => none
def hs_l2 (f : Int64 → Int64 → Int64) (pc : Nat) (loc : hs_L) (st : List Value) (h : hs_H) : Option hs_X := match st with
  | .long y :: .long x :: r => hs_go (pc + 1) loc (.long (f x y) :: r) h
  | _ => none
def hs_l2d (f : Int64 → Int64 → Int64) (pc : Nat) (loc : hs_L) (st : List Value) (h : hs_H) : Option hs_X := match st with
  | .long y :: .long x :: r => if y = 0 then none else hs_go (pc + 1) loc (.long (f x y) :: r) h
  | _ => none
def hs_c2 (c : ClassFile.Cond) (x y : Int32) : Bool := match c with
  | .eq => decide (x = y)
  | .ne => !decide (x = y)
  | .lt => decide (x < y)
  | .ge => decide (y ≤ x)
  | .gt => decide (y < x)
  | .le => decide (x ≤ y)
def hs_br (c : Bool) (t e : Nat) (loc : hs_L) (st : List Value) (h : hs_H) : Option hs_X := if c = true then hs_go t loc st h else hs_go e loc st h
def hs_gf (e : Nat × Nat × Nat × Nat) (pc : Nat) (loc : hs_L) (st : List Value) (h : hs_H) : Option hs_X := match st with
  | .ref k :: r => if h.1[k]? = some (.inl e.1) then
      (match e.2.2.1 with
      | 2 => hs_go (pc + 3) loc (.long (h.2.2.1 k e.2.1) :: r) h
      | 3 => if h.2.2.2 k e.2.1 < 2 then none else hs_go (pc + 3) loc (.ref (h.2.2.2 k e.2.1) :: r) h
      | _ => hs_go (pc + 3) loc (.int (h.2.1 k e.2.1) :: r) h) else none
  | _ => none
def hs_pf (j : Nat) (e : Nat × Nat × Nat × Nat) (pc : Nat) (loc : hs_L) (st : List Value) (h : hs_H) : Option hs_X :=
  if e.2.2.2 = 0 ∨ (hs_kind j = 3 ∧ hs_own j = e.1) then (match e.2.2.1, st with
  | 0, .int x :: .ref k :: r => if h.1[k]? = some (.inl e.1) then hs_go (pc + 3) loc r (h.1, hs_u h.2.1 k e.2.1 x, h.2.2.1, h.2.2.2) else none
  | 1, .int x :: .ref k :: r => if h.1[k]? = some (.inl e.1) ∧ (x = 0 ∨ x = 1) then hs_go (pc + 3) loc r (h.1, hs_u h.2.1 k e.2.1 x, h.2.2.1, h.2.2.2) else none
  | 2, .long x :: .ref k :: r => if h.1[k]? = some (.inl e.1) then hs_go (pc + 3) loc r (h.1, h.2.1, hs_u h.2.2.1 k e.2.1 x, h.2.2.2) else none
  | 3, .ref x :: .ref k :: r => if h.1[k]? = some (.inl e.1) ∧ 2 ≤ x then hs_go (pc + 3) loc r (h.1, h.2.1, h.2.2.1, hs_u h.2.2.2 k e.2.1 x) else none
  | _, _ => none) else none
def hs_al (scr : List Int32) (j : Nat) (ty : FieldType) (pc : Nat) (loc : hs_L) (st : List Value) (h : hs_H) : Option hs_X := match st with
  | .int i :: .ref k :: r => match h.1[k]? with
    | some (.inr q) => if q.1 = ty ∧ hs_ib i q.2 = true then (match ty with
        | .long => hs_go (pc + 1) loc (.long (h.2.2.1 k i.toNatClampNeg) :: r) h
        | .int => hs_go (pc + 1) loc (.int (h.2.1 k i.toNatClampNeg) :: r) h
        | .byte => hs_go (pc + 1) loc (.int (h.2.1 k i.toNatClampNeg) :: r) h
        | _ => none) else none
    | _ => if k = 0 ∧ j = hs_jL ∧ ty = .int ∧ hs_ib i scr.length = true then hs_go (pc + 1) loc (.int (scr.getD i.toNatClampNeg 0) :: r) h else none
  | _ => none
def hs_aal (pc : Nat) (loc : hs_L) (st : List Value) (h : hs_H) : Option hs_X := match st with
  | .int i :: .ref k :: r => match h.1[k]? with
    | some (.inr (.object C, n)) => if (C = hs_cn 9 ∨ C = hs_cn 4 ∨ C = hs_cn 5) ∧ hs_ib i n = true ∧ 2 ≤ h.2.2.2 k i.toNatClampNeg then hs_go (pc + 1) loc (.ref (h.2.2.2 k i.toNatClampNeg) :: r) h else none
    | _ => none
  | _ => none
def hs_asi (pc : Nat) (loc : hs_L) (st : List Value) (h : hs_H) : Option hs_X := match st with
  | .int x :: .int i :: .ref k :: r => match h.1[k]? with
    | some (.inr (.int, n)) => if hs_ib i n = true then hs_go (pc + 1) loc r (h.1, hs_u h.2.1 k i.toNatClampNeg x, h.2.2.1, h.2.2.2) else none
    | _ => none
  | _ => none
def hs_asb (pc : Nat) (loc : hs_L) (st : List Value) (h : hs_H) : Option hs_X := match st with
  | .int x :: .int i :: .ref k :: r => match h.1[k]? with
    | some (.inr (.byte, n)) => if hs_ib i n = true then hs_go (pc + 1) loc r (h.1, hs_u h.2.1 k i.toNatClampNeg (vp_nar .byte x), h.2.2.1, h.2.2.2) else none
    | _ => none
  | _ => none
def hs_asl (pc : Nat) (loc : hs_L) (st : List Value) (h : hs_H) : Option hs_X := match st with
  | .long x :: .int i :: .ref k :: r => match h.1[k]? with
    | some (.inr (.long, n)) => if hs_ib i n = true then hs_go (pc + 1) loc r (h.1, h.2.1, hs_u h.2.2.1 k i.toNatClampNeg x, h.2.2.2) else none
    | _ => none
  | _ => none
def hs_aas (pc : Nat) (loc : hs_L) (st : List Value) (h : hs_H) : Option hs_X := match st with
  | .ref a :: .int i :: .ref k :: r => match h.1[k]?, h.1[a]? with
    | some (.inr (.object C, n)), some (.inl ci) => if hs_ib i n = true ∧ ci < 12 ∧ hs_cn ci = C ∧ (ci = 9 ∨ ci = 4 ∨ ci = 5) then hs_go (pc + 1) loc r (h.1, h.2.1, h.2.2.1, hs_u h.2.2.2 k i.toNatClampNeg a) else none
    | _, _ => none
  | _ => none
def hs_len (scr : List Int32) (j pc : Nat) (loc : hs_L) (st : List Value) (h : hs_H) : Option hs_X := match st with
  | .ref k :: r => match h.1[k]? with
    | some (.inr (.int, n)) => hs_go (pc + 1) loc (.int (Int32.ofNat n) :: r) h
    | _ => if k = 0 ∧ j = hs_jL then hs_go (pc + 1) loc (.int (Int32.ofNat scr.length) :: r) h else none
  | _ => none
def hs_add (s : hs_S) (h : hs_H) : hs_H := (h.1 ++ [s], hs_z h.2.1 h.1.length (fun _ => 0), hs_z h.2.2.1 h.1.length (fun _ => 0), hs_z h.2.2.2 h.1.length (fun _ => 0))
def hs_nw (ci pc : Nat) (loc : hs_L) (st : List Value) (h : hs_H) : Option hs_X := hs_go (pc + 3) loc (.ref h.1.length :: st) (hs_add (.inl ci) h)
def hs_na (ty : FieldType) (pc : Nat) (loc : hs_L) (st : List Value) (h : hs_H) : Option hs_X := match st with
  | .int n :: r => if ¬ n < 0 ∧ n.toNatClampNeg ≤ 100000 then hs_go pc loc (.ref h.1.length :: r) (hs_add (.inr (ty, n.toNatClampNeg)) h) else none
  | _ => none
def hs_rs (r : List Value) : Bool := decide ((r.map fun v => v.category).sum ≤ 8)
def hs_cpy {α : Type} (m : Nat → Nat → α) (a d sp dp n : Nat) : Nat → Nat → α := hs_z m d (va_cpy (m a) (m d) sp dp n)
def hs_acp (pc : Nat) (loc : hs_L) (st : List Value) (h : hs_H) : Option hs_X := match st with
  | .int n :: .int dp :: .ref d :: .int sp :: .ref a :: r => match h.1[a]?, h.1[d]? with
    | some (.inr (.int, n0)), some (.inr (.int, n1)) => if hs_rs r = true ∧ ¬ sp < 0 ∧ ¬ dp < 0 ∧ ¬ n < 0 ∧ sp.toNatClampNeg + n.toNatClampNeg ≤ n0 ∧ dp.toNatClampNeg + n.toNatClampNeg ≤ n1 then hs_go (pc + 3) loc r (h.1, hs_cpy h.2.1 a d sp.toNatClampNeg dp.toNatClampNeg n.toNatClampNeg, h.2.2.1, h.2.2.2) else none
    | some (.inr (.long, n0)), some (.inr (.long, n1)) => if hs_rs r = true ∧ ¬ sp < 0 ∧ ¬ dp < 0 ∧ ¬ n < 0 ∧ sp.toNatClampNeg + n.toNatClampNeg ≤ n0 ∧ dp.toNatClampNeg + n.toNatClampNeg ≤ n1 then hs_go (pc + 3) loc r (h.1, h.2.1, hs_cpy h.2.2.1 a d sp.toNatClampNeg dp.toNatClampNeg n.toNatClampNeg, h.2.2.2) else none
    | _, _ => none
  | _ => none
def hs_bi (k pc : Nat) (loc : hs_L) (st : List Value) (h : hs_H) : Option hs_X := match k, st with
  | 6, .int y :: .int x :: r => if hs_rs r = true then hs_go (pc + 3) loc (.int (if x < y then y else x) :: r) h else none
  | 7, .int y :: .int x :: r => if hs_rs r = true then hs_go (pc + 3) loc (.int (if y < x then y else x) :: r) h else none
  | 8, .int x :: r => if hs_rs r = true then hs_go (pc + 3) loc (.int (if 0 ≤ x then x else 0 - x) :: r) h else none
  | 9, .long x :: r => if hs_rs r = true then hs_go (pc + 3) loc (.long (if 0 < x then x else -x) :: r) h else none
  | _, _ => none
abbrev hs_ca (j : Nat) (as : List Value) (pc : Nat) (loc : hs_L) (r : List Value) (h : hs_H) : Option hs_X := some (.inr (.inr (j, as, pc, loc, r, h)))
def hs_iv (e : Nat × Nat) (pc : Nat) (loc : hs_L) (st : List Value) (h : hs_H) : Option hs_X := match e.1 with
  | 0 => (match st.drop (hs_np e.2) with
    | .ref b :: r => if h.1[b]? = some (.inl (hs_own e.2)) ∧ hs_rs r = true then hs_ca e.2 (.ref b :: (st.take (hs_np e.2)).reverse) (pc + 3) loc r h else none
    | _ => none)
  | 10 => (match st with
    | .ref k :: r => if k = 1 ∧ hs_rs r = true then hs_go (pc + 3) loc (.int (Int32.ofNat hs_tx.length) :: r) h else none
    | _ => none)
  | 11 => (match st with
    | .int i :: .ref k :: r => if k = 1 ∧ hs_rs r = true ∧ hs_ib i hs_tx.length = true then hs_go (pc + 3) loc (.int (hs_tx.getD i.toNatClampNeg 0) :: r) h else none
    | _ => none)
  | _ => none
def hs_ip (e : Nat × Nat) (pc : Nat) (loc : hs_L) (st : List Value) (h : hs_H) : Option hs_X := match e.1, st.drop (hs_np e.2) with
  | 2, .ref b :: r => if hs_rs r = true ∧ 2 ≤ b then hs_ca e.2 (.ref b :: (st.take (hs_np e.2)).reverse) (pc + 3) loc r h else none
  | 3, .ref b :: r => if hs_rs r = true ∧ 2 ≤ b then hs_ca e.2 (.ref b :: (st.take (hs_np e.2)).reverse) (pc + 3) loc r h else none
  | 4, _ => (match st with
    | .ref _ :: r => if hs_rs r = true then hs_go (pc + 3) loc r h else none
    | _ => none)
  | _, _ => none
def hs_is (e : Nat × Nat) (pc : Nat) (loc : hs_L) (st : List Value) (h : hs_H) : Option hs_X := match e.1 with
  | 1 => if hs_np e.2 ≤ st.length ∧ hs_rs (st.drop (hs_np e.2)) = true then hs_ca e.2 (st.take (hs_np e.2)).reverse (pc + 3) loc (st.drop (hs_np e.2)) h else none
  | 5 => hs_acp pc loc st h
  | k => hs_bi k pc loc st h
def hs_re (v : Option Value) (h : hs_H) : Option hs_X := some (.inr (.inl (v, h)))
def hs_ri (j : Nat) (st : List Value) (h : hs_H) : Option hs_X := match hs_ret j, st with
  | some .int, [.int x] => hs_re (some (.int x)) h
  | some .boolean, [.int x] => if x = 0 ∨ x = 1 then hs_re (some (.int x)) h else none
  | _, _ => none
def hs_rl (j : Nat) (st : List Value) (h : hs_H) : Option hs_X := match hs_ret j, st with
  | some .long, [.long x] => hs_re (some (.long x)) h
  | _, _ => none
def hs_rv (j : Nat) (st : List Value) (h : hs_H) : Option hs_X := match hs_ret j, st with
  | none, [] => hs_re none h
  | _, _ => none
/-- how long an instruction is; 0: as it says itself -/
def hs_ln : Instr → Nat
  | .aload_n _ | .iload_n _ | .lload_n _ | .astore_n _ | .istore_n _ | .lstore_n _ | .iconst _ | .lconst _ => 1
  | .aload _ | .iload _ | .lload _ | .astore _ | .istore _ | .lstore _ | .bipush _ | .ldc _ | .newarray _ => 2
  | .iinc .. | .sipush _ | .ldc_w _ | .ldc2_w _ | .getfield _ | .putfield _ | .if_icmp .. | .ifCond .. | .goto _ | .new _ | .anewarray _ | .invokevirtual _ | .invokestatic _ | .invokespecial _ => 3
  | .tableswitch .. | .lookupswitch .. => 0
  | _ => 1
def hs_xi (scr : List Int32) (j : Nat) (i : Instr) (pc : Nat) (loc : hs_L) (st : List Value) (h : hs_H) : Option hs_X := match i with
  | .aload_n k => hs_la k.val (pc + 1) loc st h
  | .aload k => hs_la k (pc + 2) loc st h
  | .iload_n k => hs_li k.val (pc + 1) loc st h
  | .iload k => hs_li k (pc + 2) loc st h
  | .lload_n k => hs_ll k.val (pc + 1) loc st h
  | .lload k => hs_ll k (pc + 2) loc st h
  | .astore_n k => hs_sa k.val (pc + 1) loc st h
  | .astore k => hs_sa k (pc + 2) loc st h
  | .istore_n k => hs_si k.val (pc + 1) loc st h
  | .istore k => hs_si k (pc + 2) loc st h
  | .lstore_n k => hs_sl k.val (pc + 1) loc st h
  | .lstore k => hs_sl k (pc + 2) loc st h
  | .iinc k c => hs_inc k c pc loc st h
  | .iconst n => hs_go (pc + 1) loc (.int (Int32.ofInt n) :: st) h
  | .bipush n => hs_go (pc + 2) loc (.int (Int8.ofInt n).toInt32 :: st) h
  | .sipush n => hs_go (pc + 3) loc (.int (Int16.ofInt n).toInt32 :: st) h
  | .lconst n => hs_go (pc + 1) loc (.long (Int64.ofNat n.val) :: st) h
  | .ldc k => if hs_own j = 8 ∧ k = hs_sk then hs_go (pc + 2) loc (.ref 1 :: st) h else (hs_kI (hs_own j) k).bind fun v => hs_go (pc + 2) loc (.int v :: st) h
  | .ldc_w k => (hs_kI (hs_own j) k).bind fun v => hs_go (pc + 3) loc (.int v :: st) h
  | .ldc2_w k => (hs_kL (hs_own j) k).bind fun v => hs_go (pc + 3) loc (.long v :: st) h
  | .iadd => hs_i2 (fun x y => x + y) pc loc st h
  | .isub => hs_i2 (fun x y => x - y) pc loc st h
  | .imul => hs_i2 (fun x y => x * y) pc loc st h
  | .iand => hs_i2 (fun x y => x &&& y) pc loc st h
  | .ior => hs_i2 (fun x y => x ||| y) pc loc st h
  | .ixor => hs_i2 (fun x y => x ^^^ y) pc loc st h
  | .ishl => hs_i2 (fun x y => x <<< (y &&& 31)) pc loc st h
  | .ishr => hs_i2 (fun x y => x >>> (y &&& 31)) pc loc st h
  | .iushr => hs_i2 (fun x y => (x.toUInt32 >>> (y.toUInt32 &&& Int32.toUInt32 31)).toInt32) pc loc st h
  | .idiv => hs_i2d (fun x y => x / y) pc loc st h
  | .irem => hs_i2d (fun x y => x - x / y * y) pc loc st h
  | .ineg => hs_i1 (fun x => -x) pc loc st h
  | .i2b => hs_i1 (fun x => x.toInt8.toInt32) pc loc st h
  | .i2s => hs_i1 (fun x => x.toInt16.toInt32) pc loc st h
  | .i2c => hs_i1 (fun x => (x.toUInt32 % 65536).toInt32) pc loc st h
  | .ladd => hs_l2 (fun x y => x + y) pc loc st h
  | .lsub => hs_l2 (fun x y => x - y) pc loc st h
  | .lmul => hs_l2 (fun x y => x * y) pc loc st h
  | .land => hs_l2 (fun x y => x &&& y) pc loc st h
  | .lor => hs_l2 (fun x y => x ||| y) pc loc st h
  | .ldiv => hs_l2d (fun x y => x / y) pc loc st h
  | .lrem => hs_l2d (fun x y => x - x / y * y) pc loc st h
  | .lneg => (match st with
    | .long x :: r => hs_go (pc + 1) loc (.long (-x) :: r) h
    | _ => none)
  | .lshl => (match st with
    | .int y :: .long x :: r => hs_go (pc + 1) loc (.long (x <<< (y.toInt64 &&& 63)) :: r) h
    | _ => none)
  | .lcmp => (match st with
    | .long y :: .long x :: r => hs_go (pc + 1) loc (.int (lg_cmp x y) :: r) h
    | _ => none)
  | .i2l => (match st with
    | .int x :: r => hs_go (pc + 1) loc (.long x.toInt64 :: r) h
    | _ => none)
  | .l2i => (match st with
    | .long x :: r => hs_go (pc + 1) loc (.int x.toInt32 :: r) h
    | _ => none)
  | .dup => (match st with
    | v :: r => if v.category = 1 then hs_go (pc + 1) loc (v :: v :: r) h else none
    | _ => none)
  | .dup2 => (match st with
    | a :: b :: r => if a.category = 1 ∧ b.category = 1 then hs_go (pc + 1) loc (a :: b :: a :: b :: r) h else none
    | _ => none)
  | .pop => (match st with
    | v :: r => if v.category = 1 then hs_go (pc + 1) loc r h else none
    | _ => none)
  | .if_icmp c off => (match hs_j pc off, st with
    | some t, .int y :: .int x :: r => hs_br (hs_c2 c x y) t (pc + 3) loc r h
    | _, _ => none)
  | .ifCond c off => (match hs_j pc off, st with
    | some t, .int x :: r => hs_br (hs_c2 c x 0) t (pc + 3) loc r h
    | _, _ => none)
  | .goto off => (hs_j pc off).bind fun t => hs_go t loc st h
  | .tableswitch d lo hi offs => (match st with
    | .int x :: r => if x.toInt < lo ∨ hi < x.toInt then (hs_j pc d).bind fun t => hs_go t loc r h else (offs[(x.toInt - lo).toNat]?).bind fun o => (hs_j pc o).bind fun t => hs_go t loc r h
    | _ => none)
  | .lookupswitch d ps => (match st with
    | .int x :: r => if (ps.toList.zip (ps.toList.drop 1)).all (fun (a, next) => a.1 < next.1) = true then (hs_j pc (Op.lookupswitch.offset ps.toList d x.toInt)).bind fun t => hs_go t loc r h else none
    | _ => none)
  | .getfield k => (hs_fld (hs_own j) k).bind fun e => hs_gf e pc loc st h
  | .putfield k => (hs_fld (hs_own j) k).bind fun e => hs_pf j e pc loc st h
  | .iaload => hs_al scr j .int pc loc st h
  | .baload => hs_al scr j .byte pc loc st h
  | .laload => hs_al scr j .long pc loc st h
  | .aaload => hs_aal pc loc st h
  | .iastore => hs_asi pc loc st h
  | .bastore => hs_asb pc loc st h
  | .lastore => hs_asl pc loc st h
  | .aastore => hs_aas pc loc st h
  | .arraylength => hs_len scr j pc loc st h
  | .new k => (hs_new (hs_own j) k).bind fun ci => hs_nw ci pc loc st h
  | .newarray .int => hs_na .int (pc + 2) loc st h
  | .newarray .long => hs_na .long (pc + 2) loc st h
  | .newarray .byte => hs_na .byte (pc + 2) loc st h
  | .anewarray k => (hs_new (hs_own j) k).bind fun ci => if ci = 9 ∨ ci = 4 ∨ ci = 5 then hs_na (.object (hs_cn ci)) (pc + 3) loc st h else none
  | .invokevirtual k => (hs_cal (hs_own j) k).bind fun e => hs_iv e pc loc st h
  | .invokespecial k => (hs_cal (hs_own j) k).bind fun e => hs_ip e pc loc st h
  | .invokestatic k => (hs_cal (hs_own j) k).bind fun e => hs_is e pc loc st h
  | .ireturn => hs_ri j st h
  | .lreturn => hs_rl j st h
  | .return_ => hs_rv j st h
  | _ => none
def hs_stp (scr : List Int32) (j pc : Nat) (loc : hs_L) (st : List Value) (h : hs_H) : Option hs_X := match decode (hs_code j) pc with
  | .ok q => if hs_ln q.1 = 0 ∨ q.2 = hs_ln q.1 then hs_xi scr j q.1 pc loc st h else none
  | .error _ => none
/-- the locals at a method's entry -/
def hs_en (n : Nat) (as : List Value) : hs_L := (as.flatMap fun v => if v.category = 2 then [some v, none] else [some v]) ++ List.replicate (n - (as.flatMap fun v => if v.category = 2 then [some v, (none : Option Value)] else [some v]).length) none
def hs_fitn (j : Nat) (as : List Value) : Bool := decide ((as.flatMap fun v => if v.category = 2 then [some v, (none : Option Value)] else [some v]).length ≤ hs_mL j)
def hs_run (scr : List Int32) : Nat → Nat → Nat → Nat → hs_L → List Value → hs_H → Option hs_O
  | 0, _, _, _, _, _, _ => none
  | n + 1, d, j, pc, loc, st, h => match hs_stp scr j pc loc st h with
    | none => none
    | some (.inl t) => hs_run scr n d j t.1 t.2.1 t.2.2.1 t.2.2.2
    | some (.inr (.inl o)) => some o
    | some (.inr (.inr c)) => match d with
      | 0 => none
      | d + 1 => if hs_fitn c.1 c.2.1 = true then
          (match hs_run scr n d c.1 0 (hs_en (hs_mL c.1) c.2.1) [] c.2.2.2.2.2 with
          | none => none
          | some o => hs_run scr n (d + 1) j c.2.2.1 c.2.2.2.1 (o.1.toList ++ c.2.2.2.2.1) o.2) else none
