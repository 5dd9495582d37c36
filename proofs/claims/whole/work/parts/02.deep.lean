/-! THE DEEP MACHINE. Memory by cells and places; a frame is (pc, locals, stack, memory); one step; runs; calls by depth. No heap, no tables: pure. -/
abbrev dx_M : Type := (Nat → Nat → Int32) × (Nat → Nat → Int64)
abbrev dx_F : Type := Nat × List Value × List Value × dx_M
/-- a cell of a layout: an object (class, its fields: kind 0 int, 1 boolean, 2 long, 3 a reference to a cell), or an array (kind 0 int, 1 byte, 2 boolean, 3 objects, 4 byte rows; length; the cells it refers to) -/
abbrev dx_Cell : Type := (Nat × List (Nat × Nat)) ⊕ (Nat × Nat × List Nat)
/-- an instruction's row: itself, its length, a constant, three numbers, a switch's pairs -/
abbrev dx_I : Type := Instr × Nat × Value × Nat × Nat × Nat × List (Int32 × Nat)
/-- a method: name, bytes, locals, what it returns; its rows by pc; its pool by index -/
abbrev dx_K : Type := (MethodName × ByteArray × Nat × Option FieldType) × List (Nat × dx_I) × List (Nat × Nat × Nat × Nat)
def dx_look {α : Type} : List (Nat × α) → Nat → Option α
  | [], _ => none
  | (k, v) :: t, n => match Nat.beq k n with
    | true => some v
    | false => dx_look t n
def dx_pR (m : dx_M) (k : Nat) (f : Nat → Int32) : dx_M := (fun a => if a = k then f else m.1 a, m.2)
def dx_pI (m : dx_M) (k j : Nat) (v : Int32) : dx_M := dx_pR m k (upd (m.1 k) j v)
def dx_pL (m : dx_M) (k j : Nat) (v : Int64) : dx_M := (m.1, fun a => if a = k then vp_updL (m.2 k) j v else m.2 a)
def dx_kill : Value → Value
  | .long _ => .null
  | .double _ => .null
  | v => v
def dx_st1 : List Value → Nat → Value → List Value
  | [], _, _ => []
  | _ :: t, 0, v => v :: t
  | w :: t, 1, v => dx_kill w :: dx_st1 t 0 v
  | w :: t, n + 2, v => w :: dx_st1 t (n + 1) v
def dx_tl0 : List Value → List Value
  | [] => []
  | _ :: t => .null :: t
def dx_st2 : List Value → Nat → Value → List Value
  | [], _, _ => []
  | _ :: t, 0, v => v :: dx_tl0 t
  | w :: t, 1, v => dx_kill w :: dx_st2 t 0 v
  | w :: t, n + 2, v => w :: dx_st2 t (n + 1) v
def dx_ld : List Value → Nat → Value
  | [], _ => .null
  | w :: _, 0 => w
  | _ :: t, n + 1 => dx_ld t n
def dx_sw : List (Int32 × Nat) → Int32 → Nat → Nat
  | [], _, d => d
  | (k, t) :: r, x, d => if x = k then t else dx_sw r x d
def dx_loI (pc : Nat) (L st : List Value) (m : dx_M) (i : Nat) : Option dx_F := match dx_ld L i with
  | .int x => some (pc, L, .int x :: st, m)
  | _ => none
def dx_loL (pc : Nat) (L st : List Value) (m : dx_M) (i : Nat) : Option dx_F := match dx_ld L i with
  | .long x => some (pc, L, .long x :: st, m)
  | _ => none
def dx_loA (pc : Nat) (L st : List Value) (m : dx_M) (i : Nat) : Option dx_F := match dx_ld L i with
  | .ref x => some (pc, L, .ref x :: st, m)
  | _ => none
def dx_stI (pc : Nat) (L st : List Value) (m : dx_M) (i : Nat) : Option dx_F := match st with
  | .int x :: t => if i < L.length then some (pc, dx_st1 L i (.int x), t, m) else none
  | _ => none
def dx_stL (pc : Nat) (L st : List Value) (m : dx_M) (i : Nat) : Option dx_F := match st with
  | .long x :: t => if i + 1 < L.length then some (pc, dx_st2 L i (.long x), t, m) else none
  | _ => none
def dx_stA (pc : Nat) (L st : List Value) (m : dx_M) (i : Nat) : Option dx_F := match st with
  | .ref x :: t => if i < L.length then some (pc, dx_st1 L i (.ref x), t, m) else none
  | _ => none
def dx_inc (pc : Nat) (L st : List Value) (m : dx_M) (i : Nat) (v : Value) : Option dx_F := match dx_ld L i, v with
  | .int x, .int y => if i < L.length then some (pc, dx_st1 L i (.int (x + y)), st, m) else none
  | _, _ => none
def dx_bI (f : Int32 → Int32 → Int32) (pc : Nat) (L st : List Value) (m : dx_M) : Option dx_F := match st with
  | .int y :: .int x :: t => some (pc, L, .int (f x y) :: t, m)
  | _ => none
def dx_bL (f : Int64 → Int64 → Int64) (pc : Nat) (L st : List Value) (m : dx_M) : Option dx_F := match st with
  | .long y :: .long x :: t => some (pc, L, .long (f x y) :: t, m)
  | _ => none
def dx_dI (f : Int32 → Int32 → Int32) (pc : Nat) (L st : List Value) (m : dx_M) : Option dx_F := match st with
  | .int y :: .int x :: t => if ¬ y = 0 then some (pc, L, .int (f x y) :: t, m) else none
  | _ => none
def dx_dL (f : Int64 → Int64 → Int64) (pc : Nat) (L st : List Value) (m : dx_M) : Option dx_F := match st with
  | .long y :: .long x :: t => if ¬ y = 0 then some (pc, L, .long (f x y) :: t, m) else none
  | _ => none
def dx_if1 (f : Int32 → Nat) (L st : List Value) (m : dx_M) : Option dx_F := match st with
  | .int x :: t => some (f x, L, t, m)
  | _ => none
def dx_if2 (f : Int32 → Int32 → Nat) (L st : List Value) (m : dx_M) : Option dx_F := match st with
  | .int y :: .int x :: t => some (f x y, L, t, m)
  | _ => none
def dx_fld (m : dx_M) (k b : Nat) : Option (Nat × Nat) → Option Value
  | some (0, _) => some (.int (m.1 k b))
  | some (1, _) => some (.int (m.1 k b))
  | some (2, _) => some (.long (m.2 k b))
  | some (3, q) => some (.ref q)
  | _ => none
def dx_get (lay : List dx_Cell) (a b pc : Nat) (L st : List Value) (m : dx_M) : Option dx_F := match st with
  | .ref k :: t => match lay[k]? with
    | some (.inl (ci, fl)) => match Nat.beq ci a with
      | true => match dx_fld m k b fl[b]? with
        | some v => some (pc, L, v :: t, m)
        | none => none
      | false => none
    | _ => none
  | _ => none
def dx_put (lay : List dx_Cell) (a b pc : Nat) (L st : List Value) (m : dx_M) : Option dx_F := match st with
  | .int x :: .ref k :: t => match lay[k]? with
    | some (.inl (ci, fl)) => match Nat.beq ci a with
      | true => match fl[b]? with
        | some (0, _) => some (pc, L, t, dx_pI m k b x)
        | some (1, _) => if x = 0 ∨ x = 1 then some (pc, L, t, dx_pI m k b x) else none
        | _ => none
      | false => none
    | _ => none
  | .long x :: .ref k :: t => match lay[k]? with
    | some (.inl (ci, fl)) => match Nat.beq ci a with
      | true => match fl[b]? with
        | some (2, _) => some (pc, L, t, dx_pL m k b x)
        | _ => none
      | false => none
    | _ => none
  | _ => none
def dx_ald (lay : List dx_Cell) (pc : Nat) (L st : List Value) (m : dx_M) : Option dx_F := match st with
  | .int i :: .ref k :: t => match lay[k]? with
    | some (.inr (0, n, _)) => if ¬ (i < 0 ∨ n ≤ i.toNatClampNeg) then some (pc, L, .int (m.1 k i.toNatClampNeg) :: t, m) else none
    | _ => none
  | _ => none
def dx_bld (lay : List dx_Cell) (pc : Nat) (L st : List Value) (m : dx_M) : Option dx_F := match st with
  | .int i :: .ref k :: t => match lay[k]? with
    | some (.inr (1, n, _)) => if ¬ (i < 0 ∨ n ≤ i.toNatClampNeg) then some (pc, L, .int (m.1 k i.toNatClampNeg) :: t, m) else none
    | some (.inr (2, n, _)) => if ¬ (i < 0 ∨ n ≤ i.toNatClampNeg) then some (pc, L, .int (m.1 k i.toNatClampNeg) :: t, m) else none
    | _ => none
  | _ => none
def dx_rld (pc : Nat) (L t : List Value) (m : dx_M) (n : Nat) (rs : List Nat) (i : Int32) : Option dx_F :=
  if ¬ (i < 0 ∨ n ≤ i.toNatClampNeg) then (match rs[i.toNatClampNeg]? with
    | some q => some (pc, L, .ref q :: t, m)
    | none => none) else none
def dx_aad (lay : List dx_Cell) (pc : Nat) (L st : List Value) (m : dx_M) : Option dx_F := match st with
  | .int i :: .ref k :: t => match lay[k]? with
    | some (.inr (3, n, rs)) => dx_rld pc L t m n rs i
    | some (.inr (4, n, rs)) => dx_rld pc L t m n rs i
    | _ => none
  | _ => none
def dx_ast (lay : List dx_Cell) (pc : Nat) (L st : List Value) (m : dx_M) : Option dx_F := match st with
  | .int x :: .int i :: .ref k :: t => match lay[k]? with
    | some (.inr (0, n, _)) => if ¬ (i < 0 ∨ n ≤ i.toNatClampNeg) then some (pc, L, t, dx_pI m k i.toNatClampNeg x) else none
    | _ => none
  | _ => none
def dx_bst (lay : List dx_Cell) (pc : Nat) (L st : List Value) (m : dx_M) : Option dx_F := match st with
  | .int x :: .int i :: .ref k :: t => match lay[k]? with
    | some (.inr (1, n, _)) => if ¬ (i < 0 ∨ n ≤ i.toNatClampNeg) then some (pc, L, t, dx_pI m k i.toNatClampNeg (vp_nar .byte x)) else none
    | some (.inr (2, n, _)) => if ¬ (i < 0 ∨ n ≤ i.toNatClampNeg) then some (pc, L, t, dx_pI m k i.toNatClampNeg (vp_nar .boolean x)) else none
    | _ => none
  | _ => none
def dx_dup (pc : Nat) (L st : List Value) (m : dx_M) : Option dx_F := match st with
  | .int x :: t => some (pc, L, .int x :: .int x :: t, m)
  | .ref x :: t => some (pc, L, .ref x :: .ref x :: t, m)
  | _ => none
def dx_dup2 (pc : Nat) (L st : List Value) (m : dx_M) : Option dx_F := match st with
  | .int x :: .ref y :: t => some (pc, L, .int x :: .ref y :: .int x :: .ref y :: t, m)
  | _ => none
def dx_unI (f : Int32 → Value) (pc : Nat) (L st : List Value) (m : dx_M) : Option dx_F := match st with
  | .int x :: t => some (pc, L, f x :: t, m)
  | _ => none
def dx_unL (f : Int64 → Value) (pc : Nat) (L st : List Value) (m : dx_M) : Option dx_F := match st with
  | .long x :: t => some (pc, L, f x :: t, m)
  | _ => none
def dx_lcm (pc : Nat) (L st : List Value) (m : dx_M) : Option dx_F := match st with
  | .long y :: .long x :: t => some (pc, L, .int (lg_cmp x y) :: t, m)
  | _ => none
def dx_ex (lay : List dx_Cell) (r : dx_I) (pc : Nat) (L st : List Value) (m : dx_M) : Option dx_F :=
  match r.1 with
  | .iconst _ => some (pc + 1, L, r.2.2.1 :: st, m)
  | .bipush _ => some (pc + 2, L, r.2.2.1 :: st, m)
  | .sipush _ => some (pc + 3, L, r.2.2.1 :: st, m)
  | .lconst _ => some (pc + 1, L, r.2.2.1 :: st, m)
  | .ldc_w _ => some (pc + 3, L, r.2.2.1 :: st, m)
  | .ldc2_w _ => some (pc + 3, L, r.2.2.1 :: st, m)
  | .iload_n k => dx_loI (pc + 1) L st m k.val
  | .iload k => dx_loI (pc + 2) L st m k
  | .lload_n k => dx_loL (pc + 1) L st m k.val
  | .lload k => dx_loL (pc + 2) L st m k
  | .aload_n k => dx_loA (pc + 1) L st m k.val
  | .aload k => dx_loA (pc + 2) L st m k
  | .istore_n k => dx_stI (pc + 1) L st m k.val
  | .istore k => dx_stI (pc + 2) L st m k
  | .lstore_n k => dx_stL (pc + 1) L st m k.val
  | .lstore k => dx_stL (pc + 2) L st m k
  | .astore_n k => dx_stA (pc + 1) L st m k.val
  | .astore k => dx_stA (pc + 2) L st m k
  | .iinc k _ => dx_inc (pc + 3) L st m k r.2.2.1
  | .iadd => dx_bI (fun x y => x + y) (pc + 1) L st m
  | .isub => dx_bI (fun x y => x - y) (pc + 1) L st m
  | .imul => dx_bI (fun x y => x * y) (pc + 1) L st m
  | .iand => dx_bI (fun x y => x &&& y) (pc + 1) L st m
  | .ior => dx_bI (fun x y => x ||| y) (pc + 1) L st m
  | .ixor => dx_bI (fun x y => x ^^^ y) (pc + 1) L st m
  | .ishl => dx_bI (fun x y => x <<< (y &&& 31)) (pc + 1) L st m
  | .ishr => dx_bI (fun x y => x >>> (y &&& 31)) (pc + 1) L st m
  | .iushr => dx_bI (fun x y => (x.toUInt32 >>> (y.toUInt32 &&& Int32.toUInt32 31)).toInt32) (pc + 1) L st m
  | .idiv => dx_dI (fun x y => x / y) (pc + 1) L st m
  | .irem => dx_dI (fun x y => x - x / y * y) (pc + 1) L st m
  | .ladd => dx_bL (fun x y => x + y) (pc + 1) L st m
  | .lsub => dx_bL (fun x y => x - y) (pc + 1) L st m
  | .lmul => dx_bL (fun x y => x * y) (pc + 1) L st m
  | .ldiv => dx_dL (fun x y => x / y) (pc + 1) L st m
  | .lrem => dx_dL (fun x y => x - x / y * y) (pc + 1) L st m
  | .lneg => dx_unL (fun x => .long (-x)) (pc + 1) L st m
  | .i2l => dx_unI (fun x => .long x.toInt64) (pc + 1) L st m
  | .i2b => dx_unI (fun x => .int x.toInt8.toInt32) (pc + 1) L st m
  | .lcmp => dx_lcm (pc + 1) L st m
  | .dup => dx_dup (pc + 1) L st m
  | .dup2 => dx_dup2 (pc + 1) L st m
  | .goto _ => some (r.2.2.2.1, L, st, m)
  | .ifCond .eq _ => dx_if1 (fun x => if x = 0 then r.2.2.2.1 else pc + 3) L st m
  | .ifCond .ne _ => dx_if1 (fun x => if x = 0 then pc + 3 else r.2.2.2.1) L st m
  | .ifCond .lt _ => dx_if1 (fun x => if x < 0 then r.2.2.2.1 else pc + 3) L st m
  | .ifCond .ge _ => dx_if1 (fun x => if 0 ≤ x then r.2.2.2.1 else pc + 3) L st m
  | .ifCond .gt _ => dx_if1 (fun x => if 0 < x then r.2.2.2.1 else pc + 3) L st m
  | .ifCond .le _ => dx_if1 (fun x => if x ≤ 0 then r.2.2.2.1 else pc + 3) L st m
  | .if_icmp .eq _ => dx_if2 (fun x y => if x = y then r.2.2.2.1 else pc + 3) L st m
  | .if_icmp .ne _ => dx_if2 (fun x y => if x = y then pc + 3 else r.2.2.2.1) L st m
  | .if_icmp .lt _ => dx_if2 (fun x y => if x < y then r.2.2.2.1 else pc + 3) L st m
  | .if_icmp .ge _ => dx_if2 (fun x y => if y ≤ x then r.2.2.2.1 else pc + 3) L st m
  | .if_icmp .gt _ => dx_if2 (fun x y => if y < x then r.2.2.2.1 else pc + 3) L st m
  | .if_icmp .le _ => dx_if2 (fun x y => if x ≤ y then r.2.2.2.1 else pc + 3) L st m
  | .tableswitch _ _ _ _ => dx_if1 (fun x => dx_sw r.2.2.2.2.2.2 x r.2.2.2.1) L st m
  | .getfield _ => dx_get lay r.2.2.2.1 r.2.2.2.2.1 (pc + 3) L st m
  | .putfield _ => dx_put lay r.2.2.2.1 r.2.2.2.2.1 (pc + 3) L st m
  | .iaload => dx_ald lay (pc + 1) L st m
  | .baload => dx_bld lay (pc + 1) L st m
  | .aaload => dx_aad lay (pc + 1) L st m
  | .iastore => dx_ast lay (pc + 1) L st m
  | .bastore => dx_bst lay (pc + 1) L st m
  | _ => none
/-- one plain step -/
def dx_stp (lay : List dx_Cell) (K : dx_K) (c : dx_F) : Option dx_F := match dx_look K.2.1 c.1 with
  | some r => dx_ex lay r c.1 c.2.1 c.2.2.1 c.2.2.2
  | none => none
/-- k plain steps -/
def dx_run (lay : List dx_Cell) (K : dx_K) : Nat → dx_F → Option dx_F
  | 0, c => some c
  | n + 1, c => match dx_stp lay K c with
    | some c' => dx_run lay K n c'
    | none => none
/-- a return: what is answered -/
def dx_rx (ret : Option FieldType) (i : Instr) (st : List Value) : Option (Option Value) := match i, ret, st with
  | .return_, none, [] => some none
  | .ireturn, some .int, [.int v] => some (some (.int v))
  | .ireturn, some .boolean, [.int v] => if v = 0 ∨ v = 1 then some (some (.int v)) else none
  | .lreturn, some .long, [.long v] => some (some (.long v))
  | _, _, _ => none
def dx_rt (K : dx_K) (c : dx_F) : Option (Option Value) := match dx_look K.2.1 c.1 with
  | some r => dx_rx K.1.2.2.2 r.1 c.2.2.1
  | none => none
/-- a call: which method, its arguments, what stays on the stack -/
def dx_cS (r : dx_I) (st : List Value) : Option (Nat × List Value × List Value) :=
  if (st.take r.2.2.2.2.2.1).length = r.2.2.2.2.2.1 ∧ ((st.drop r.2.2.2.2.2.1).map fun v => v.category).sum ≤ 8 then some (r.2.2.2.2.1, (st.take r.2.2.2.2.2.1).reverse, st.drop r.2.2.2.2.2.1) else none
def dx_cV (lay : List dx_Cell) (r : dx_I) (st : List Value) : Option (Nat × List Value × List Value) := match st.drop r.2.2.2.2.2.1, r.2.2.1 with
  | .ref k :: t, .ref ci => match lay[k]? with
    | some (.inl (cj, _)) => if cj = ci ∧ (st.take r.2.2.2.2.2.1).length = r.2.2.2.2.2.1 ∧ (t.map fun v => v.category).sum ≤ 8 then some (r.2.2.2.2.1, .ref k :: (st.take r.2.2.2.2.2.1).reverse, t) else none
    | _ => none
  | _, _ => none
def dx_cx (lay : List dx_Cell) (r : dx_I) (st : List Value) : Option (Nat × List Value × List Value) := match r.1, r.2.2.2.1 with
  | .invokevirtual _, 1 => dx_cV lay r st
  | .invokestatic _, 2 => dx_cS r st
  | .invokestatic _, 3 => dx_cS r st
  | _, _ => none
def dx_cl (lay : List dx_Cell) (K : dx_K) (c : dx_F) : Option (Nat × List Value × List Value) := match dx_look K.2.1 c.1 with
  | some r => dx_cx lay r c.2.2.1
  | none => none
/-- System.arraycopy of bytes -/
def dx_cpx (lay : List dx_Cell) (r : dx_I) (pc : Nat) (L st : List Value) (m : dx_M) : Option dx_F := match r.1, r.2.2.2.1, st with
  | .invokestatic _, 4, .int n :: .int j :: .ref k :: .int i :: .ref h :: t => match lay[h]?, lay[k]? with
    | some (.inr (1, n0, _)), some (.inr (1, n1, _)) => if ¬ i < 0 ∧ ¬ j < 0 ∧ ¬ n < 0 ∧ i.toNatClampNeg + n.toNatClampNeg ≤ n0 ∧ j.toNatClampNeg + n.toNatClampNeg ≤ n1 ∧ (∀ q, q < n.toNatClampNeg → fits .byte (.int (m.1 h (i.toNatClampNeg + q))) = true) ∧ (t.map fun v => v.category).sum ≤ 8 then some (pc + 3, L, t, dx_pR m k (va_cpy (m.1 h) (m.1 k) i.toNatClampNeg j.toNatClampNeg n.toNatClampNeg)) else none
    | _, _ => none
  | _, _, _ => none
/-- Math.max, Math.min, Math.abs of longs -/
def dx_mth (r : dx_I) (pc : Nat) (L st : List Value) (m : dx_M) : Option dx_F := match r.1, r.2.2.2.1, st with
  | .invokestatic _, 7, .int y :: .int x :: t => if (t.map fun v => v.category).sum ≤ 8 then some (pc + 3, L, .int (if x < y then y else x) :: t, m) else none
  | .invokestatic _, 8, .int y :: .int x :: t => if (t.map fun v => v.category).sum ≤ 8 then some (pc + 3, L, .int (if y < x then y else x) :: t, m) else none
  | .invokestatic _, 9, .long x :: t => if (t.map fun v => v.category).sum ≤ 8 then some (pc + 3, L, .long (if 0 < x then x else -x) :: t, m) else none
  | _, _, _ => none
def dx_cp (lay : List dx_Cell) (K : dx_K) (c : dx_F) : Option dx_F := match dx_look K.2.1 c.1 with
  | some r => match dx_mth r c.1 c.2.1 c.2.2.1 c.2.2.2 with
    | some c' => some c'
    | none => dx_cpx lay r c.1 c.2.1 c.2.2.1 c.2.2.2
  | none => none
/-- one move of a run that is to end with Z: a step, a return, a call, a copy -/
def dx_one (d : Nat) (C : Nat → List Value → dx_M → (Option Value → dx_M → Prop) → Prop) (lay : List dx_Cell) (K : dx_K) (Z : Option Value → dx_M → Prop) (X : dx_F → Prop) (c : dx_F) : Prop :=
  (∃ c', dx_stp lay K c = some c' ∧ X c') ∨ (∃ r, dx_rt K c = some r ∧ Z r c.2.2.2) ∨
  (∃ (id : Nat) (as rest : List Value), dx_cl lay K c = some (id, as, rest) ∧ C id as c.2.2.2 (fun r m' => X (c.1 + 3, c.2.1, r.toList ++ rest, m'))) ∨
  (1 ≤ d ∧ ∃ c', dx_cp lay K c = some c' ∧ X c')
def dx_Go (d : Nat) (C : Nat → List Value → dx_M → (Option Value → dx_M → Prop) → Prop) (lay : List dx_Cell) (K : dx_K) (Z : Option Value → dx_M → Prop) (c : dx_F) : Prop :=
  ∀ X : dx_F → Prop, (∀ c, dx_one d C lay K Z X c → X c) → X c
/-- the locals at a method's entry -/
def dx_ent : Nat → List Value → List Value
  | n, [] => List.replicate n .null
  | n, .long x :: t => .long x :: .null :: dx_ent (n - 2) t
  | n, .double x :: t => .double x :: .null :: dx_ent (n - 2) t
  | n, v :: t => v :: dx_ent (n - 1) t
/-- method id, with these arguments and this memory, at most d calls deep, returns with Z -/
def dx_Sem (P : List dx_K) (lay : List dx_Cell) : Nat → Nat → List Value → dx_M → (Option Value → dx_M → Prop) → Prop
  | 0, _, _, _, _ => False
  | d + 1, id, as, m, Z => ∃ K, P[id]? = some K ∧ (dx_ent K.1.2.2.1 as).length = K.1.2.2.1 ∧ dx_Go d (dx_Sem P lay d) lay K Z (0, dx_ent K.1.2.2.1 as, [], m)
def dx_mono (C : Nat → List Value → dx_M → (Option Value → dx_M → Prop) → Prop) : Prop := ∀ id as m Z Z', (∀ r m', Z r m' → Z' r m') → C id as m Z → C id as m Z'
theorem dx_Go_mono {d : Nat} {C : Nat → List Value → dx_M → (Option Value → dx_M → Prop) → Prop} {lay : List dx_Cell} {K : dx_K} {Z Z' : Option Value → dx_M → Prop} {c : dx_F} (h : ∀ r m', Z r m' → Z' r m') (g : dx_Go d C lay K Z c) : dx_Go d C lay K Z' c := by
  intro X hX
  refine g X (fun c hc => hX c ?_)
  rcases hc with a | ⟨r, a, b⟩ | a | a
  · exact Or.inl a
  · exact Or.inr (Or.inl ⟨r, a, h _ _ b⟩)
  · exact Or.inr (Or.inr (Or.inl a))
  · exact Or.inr (Or.inr (Or.inr a))
theorem dx_Sem_mono (P : List dx_K) (lay : List dx_Cell) : ∀ d, dx_mono (dx_Sem P lay d)
  | 0 => fun _ _ _ _ _ _ h => h
  | d + 1 => fun id as m Z Z' h ⟨K, hK, hn, g⟩ => ⟨K, hK, hn, dx_Go_mono h g⟩
section DXG
variable {d : Nat} {C : Nat → List Value → dx_M → (Option Value → dx_M → Prop) → Prop} {lay : List dx_Cell} {K : dx_K} {Z : Option Value → dx_M → Prop} {c : dx_F}
theorem dx_step {c' : dx_F} (h : dx_stp lay K c = some c') (k : dx_Go d C lay K Z c') : dx_Go d C lay K Z c := fun X hX => hX c (Or.inl ⟨c', h, k X hX⟩)
theorem dx_blk (n : Nat) {c' : dx_F} (h : dx_run lay K n c = some c') (k : dx_Go d C lay K Z c') : dx_Go d C lay K Z c := by
  induction n generalizing c with
  | zero => cases h; exact k
  | succ n ih =>
    unfold dx_run at h
    split at h
    · next c1 h1 => exact dx_step h1 (ih h)
    · cases h
theorem dx_ret {r : Option Value} (h : dx_rt K c = some r) (k : Z r c.2.2.2) : dx_Go d C lay K Z c := fun X hX => hX c (Or.inr (Or.inl ⟨r, h, k⟩))
theorem dx_copy {c' : dx_F} (h : dx_cp lay K c = some c') (k : dx_Go (d + 1) C lay K Z c') : dx_Go (d + 1) C lay K Z c := fun X hX => hX c (Or.inr (Or.inr (Or.inr ⟨Nat.le_add_left 1 d, c', h, k X hX⟩)))
theorem dx_br {q : Prop} [Decidable q] {a b : Nat} {L st : List Value} {m : dx_M} (h : dx_stp lay K c = some (if q then a else b, L, st, m)) (kt : q → dx_Go d C lay K Z (a, L, st, m)) (kf : ¬ q → dx_Go d C lay K Z (b, L, st, m)) : dx_Go d C lay K Z c := by
  by_cases hq : q
  · rw [if_pos hq] at h
    exact dx_step h (kt hq)
  · rw [if_neg hq] at h
    exact dx_step h (kf hq)
end DXG
theorem dx_call {P : List dx_K} {d d' : Nat} {lay : List dx_Cell} {K : dx_K} {Z : Option Value → dx_M → Prop} {c : dx_F} {id : Nat} {as rest : List Value} (h : dx_cl lay K c = some (id, as, rest)) (k : dx_Sem P lay d id as c.2.2.2 (fun r m' => dx_Go d' (dx_Sem P lay d) lay K Z (c.1 + 3, c.2.1, r.toList ++ rest, m'))) : dx_Go d' (dx_Sem P lay d) lay K Z c :=
  fun X hX => hX c (Or.inr (Or.inr (Or.inl ⟨id, as, rest, h, dx_Sem_mono P lay d _ _ _ _ _ (fun r m' g => g X hX) k⟩)))
theorem dx_sem {P : List dx_K} {d : Nat} {lay : List dx_Cell} {id : Nat} {as : List Value} {m : dx_M} {Z : Option Value → dx_M → Prop} (K : dx_K) (h : P[id]? = some K) (hn : (dx_ent K.1.2.2.1 as).length = K.1.2.2.1) (k : dx_Go d (dx_Sem P lay d) lay K Z (0, dx_ent K.1.2.2.1 as, [], m)) : dx_Sem P lay (d + 1) id as m Z := ⟨K, h, hn, k⟩
