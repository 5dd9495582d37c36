/-! inversions of the deep steps, and each as a row of the machine -/
def dx_ty : Nat → FieldType
  | 0 => .int
  | 1 => .byte
  | 2 => .boolean
  | 3 => .object "LogsAfloat$Load"
  | _ => .array .byte
def dx_len : Instr → Nat
  | .bipush _ => 2
  | .sipush _ => 3
  | .ldc_w _ => 3
  | .ldc2_w _ => 3
  | .iload _ => 2
  | .lload _ => 2
  | .aload _ => 2
  | .istore _ => 2
  | .lstore _ => 2
  | .astore _ => 2
  | .iinc _ _ => 3
  | .goto _ => 3
  | .ifCond _ _ => 3
  | .if_icmp _ _ => 3
  | .getfield _ => 3
  | .putfield _ => 3
  | .invokevirtual _ => 3
  | .invokestatic _ => 3
  | _ => 1
def dx_rc2 (K : dx_K) (pc : Nat) (r : dx_I) : Bool := match r.1 with
  | .iconst z => decide (r.2.2.1 = .int (Int32.ofInt z))
  | .bipush z => decide (r.2.2.1 = .int (Int8.ofInt z).toInt32)
  | .sipush z => decide (r.2.2.1 = .int (Int16.ofInt z).toInt32)
  | .lconst z => decide (r.2.2.1 = .long (Int64.ofNat z))
  | .ldc_w x => match dx_look K.2.2 x with
    | some (5, z, _) => decide (r.2.2.1 = .int (Int32.ofInt ((z : Int) - 1000)))
    | _ => false
  | .ldc2_w x => match dx_look K.2.2 x with
    | some (6, z, _) => decide (r.2.2.1 = .long (Int64.ofInt ((z : Int) - 1000)))
    | _ => false
  | .iinc _ z => decide (r.2.2.1 = .int (Int32.ofInt z))
  | .goto off => decide ((pc : Int) + off = (r.2.2.2.1 : Int))
  | .ifCond _ off => decide ((pc : Int) + off = (r.2.2.2.1 : Int))
  | .if_icmp _ off => decide ((pc : Int) + off = (r.2.2.2.1 : Int))
  | .tableswitch dflt lo hi offs => decide ((pc : Int) + dflt = (r.2.2.2.1 : Int)) && (r.2.2.2.2.2.2.all (fun q => decide (¬ q.1.toInt < lo) && decide (¬ hi < q.1.toInt) && (match offs[(q.1.toInt - lo).toNat]? with
    | some off => decide ((pc : Int) + off = (q.2 : Int))
    | none => false)) && (List.range (hi - lo + 1).toNat).all (fun (j : Nat) => r.2.2.2.2.2.2.any (fun q => decide (q.1.toInt = lo + (j : Int)))))
  | .getfield x => decide (dx_look K.2.2 x = some (0, r.2.2.2.1, r.2.2.2.2.1))
  | .putfield x => decide (dx_look K.2.2 x = some (0, r.2.2.2.1, r.2.2.2.2.1))
  | .invokevirtual x => match r.2.2.1 with
    | .ref ci => decide (dx_look K.2.2 x = some (r.2.2.2.1, r.2.2.2.2.1, r.2.2.2.2.2.1 + 16 * ci)) && decide (r.2.2.2.2.2.1 < 16)
    | _ => false
  | .invokestatic x => decide (dx_look K.2.2 x = some (r.2.2.2.1, r.2.2.2.2.1, r.2.2.2.2.2.1))
  | _ => true
def dx_rch (K : dx_K) (pc : Nat) (r : dx_I) : Bool := (match r.1 with
  | .tableswitch _ _ _ _ => true
  | i => decide (r.2.1 = dx_len i)) && dx_rc2 K pc r
def dx_pok (P : List dx_K) (own : String) (x : Nat) (e : Nat × Nat × Nat) : Prop := match e with
  | (0, a, b) => ∃ (C : String) (T : u_T) (N : Nat), vwCl[a]? = some (C, T, N) ∧ b < N ∧ Cond.fieldLink own x (T b).1 (T b).2.1 (T b).2.2.1 ∈ dx_T
  | (1, id, e) => ∃ (K : dx_K) (q : vw_C), P[id]? = some K ∧ vwCl[e / 16]? = some q ∧ q.1 = K.1.1.cls ∧ Cond.methodLink own x K.1.1 ∈ dx_T ∧ Cond.instanceMethod K.1.1 ∈ dx_T ∧ Cond.selects K.1.1.cls K.1.1 K.1.1 ∈ dx_T ∧ Cond.initialized K.1.1.cls ∈ dx_T ∧ Cond.code K.1.1 K.1.2.1 K.1.2.2.1 K.1.2.2.2 ∈ dx_T ∧ K.1.1.cls ≠ "java/lang/invoke/MethodHandle" ∧ K.1.1.cls ≠ "java/lang/invoke/VarHandle" ∧ (parseMethodDescriptor K.1.1.desc).map (fun d => d.parameters.length) = some (e % 16)
  | (2, id, n) => ∃ K : dx_K, P[id]? = some K ∧ Cond.methodLink own x K.1.1 ∈ dx_T ∧ Cond.static K.1.1 ∈ dx_T ∧ Cond.initialized K.1.1.cls ∈ dx_T ∧ Cond.code K.1.1 K.1.2.1 K.1.2.2.1 K.1.2.2.2 ∈ dx_T ∧ K.1.1.cls ≠ "java/lang/invoke/MethodHandle" ∧ K.1.1.cls ≠ "java/lang/invoke/VarHandle" ∧ (parseMethodDescriptor K.1.1.desc).map (fun d => d.parameters.length) = some n
  | (3, id, n) => ∃ (K : dx_K) (host : String), P[id]? = some K ∧ (own, x, K.1.1, host) ∈ dx_nest ∧ Cond.static K.1.1 ∈ dx_T ∧ Cond.initialized K.1.1.cls ∈ dx_T ∧ Cond.code K.1.1 K.1.2.1 K.1.2.2.1 K.1.2.2.2 ∈ dx_T ∧ K.1.1.cls ≠ "java/lang/invoke/MethodHandle" ∧ K.1.1.cls ≠ "java/lang/invoke/VarHandle" ∧ (parseMethodDescriptor K.1.1.desc).map (fun d => d.parameters.length) = some n
  | (4, _, _) => Cond.methodLink own x arraycopyName ∈ dx_T ∧ Cond.native arraycopyName ∈ dx_T ∧ Cond.static arraycopyName ∈ dx_T ∧ Cond.initialized "java/lang/System" ∈ dx_T
  | (7, _, _) => Cond.methodLink own x Lib.Math.max.name ∈ dx_T ∧ Cond.static Lib.Math.max.name ∈ dx_T ∧ Cond.initialized "java/lang/Math" ∈ dx_T ∧ Cond.code Lib.Math.max.name Lib.Math.max.code 2 (some .int) ∈ dx_T
  | (8, _, _) => Cond.methodLink own x Lib.Math.min.name ∈ dx_T ∧ Cond.static Lib.Math.min.name ∈ dx_T ∧ Cond.initialized "java/lang/Math" ∈ dx_T ∧ Cond.code Lib.Math.min.name Lib.Math.min.code 2 (some .int) ∈ dx_T
  | (9, _, _) => Cond.methodLink own x Lib.MathLoose.abs_long.x ∈ dx_T ∧ Cond.static Lib.MathLoose.abs_long.x ∈ dx_T ∧ Cond.initialized "java/lang/Math" ∈ dx_T ∧ Cond.code Lib.MathLoose.abs_long.x Lib.MathLoose.abs_long.code 2 (some .long) ∈ dx_T
  | (5, z, _) => Cond.constant own x (Int32.ofInt ((z : Int) - 1000)) ∈ dx_T
  | (6, z, _) => Cond.constantLong own x (Int64.ofInt ((z : Int) - 1000)) ∈ dx_T
  | _ => False
/-- a method's tables are right -/
def dx_Kok (P : List dx_K) (K : dx_K) : Prop := plainName K.1.1.cls = true ∧ K.1.2.2.1 ≤ 19 ∧ (∀ (pc : Nat) (r : dx_I), dx_look K.2.1 pc = some r → decode K.1.2.1 pc = .ok (r.1, r.2.1) ∧ dx_rch K pc r = true) ∧ ∀ (x : Nat) (e : Nat × Nat × Nat), dx_look K.2.2 x = some e → dx_pok P K.1.1.cls x e
def dx_clsok (C : String) (T : u_T) (N : Nat) : Prop := (∃ ty0 : Nat → FieldType, ∀ k, k < N → parseFieldDescriptor (T k).2.2.1 = some (ty0 k)) ∧ (∀ a, a < N → ∀ b, b < N → a ≠ b → (T a).2.1 ≠ (T b).2.1) ∧ ∀ w ∈ u_ws C T N, w ∈ dx_T
/-- a layout fits the classes -/
def dx_layok (lay : List dx_Cell) : Prop := ∀ (k ci : Nat) (fl : List (Nat × Nat)), lay[k]? = some (.inl (ci, fl)) → ∃ (C : String) (T : u_T) (N : Nat), vwCl[ci]? = some (C, T, N) ∧ dx_clsok C T N ∧ fl.length = N ∧ ∀ (b κ q : Nat), fl[b]? = some (κ, q) → (κ = 0 → (T b).2.2 = ("I", false)) ∧ (κ = 1 → (T b).2.2 = ("Z", false)) ∧ (κ = 2 → (T b).2.2 = ("J", false))
/-- what stands fast in a method's run -/
def dx_Cx (p : Program) (s : State) (m : MethodId) (args : Array Value) (c : Code) (K : dx_K) (D : va_G) (cA : Nat → ClassId) (tys : List (ClassId × FieldType)) (lay : List dx_Cell) : Prop :=
  p.tables.exec = Jvm.exec ∧ c.code = K.1.2.1 ∧ c.maxLocals = K.1.2.2.1 ∧ s.vm.findClass K.1.1.cls = some m.cls ∧ (∀ w ∈ dx_T, w.before args s = true) ∧ va_K D vwCl tys s ∧ ∀ (k t n : Nat) (rs : List Nat), lay[k]? = some (.inr (t, n, rs)) → ∃ t0 : Nat, tys[t0]? = some (cA t, dx_ty t)
/-- the heap as the memory tells it -/
def dx_Wd (D : va_G) (cA : Nat → ClassId) (ad : Nat → Nat) (lay : List dx_Cell) (A : Nat → Prop) (H0 : Heap) (mm : dx_M) (H : Heap) (locs : List Loc) : Prop := va_P D vwCl (dx_W ad cA lay mm) H ∧ va_D A (dx_W ad cA lay mm) ∧ va_S A H0 H locs
theorem dx_loI_inv {pc : Nat} {L st : List Value} {m : dx_M} {i : Nat} {c' : dx_F} (h : dx_loI pc L st m i = some c') : ∃ x, dx_ld L i = .int x ∧ c' = (pc, L, .int x :: st, m) := by
  unfold dx_loI at h
  split at h
  · next x e => exact ⟨x, e, (Option.some.inj h).symm⟩
  · cases h
theorem dx_loL_inv {pc : Nat} {L st : List Value} {m : dx_M} {i : Nat} {c' : dx_F} (h : dx_loL pc L st m i = some c') : ∃ x, dx_ld L i = .long x ∧ c' = (pc, L, .long x :: st, m) := by
  unfold dx_loL at h
  split at h
  · next x e => exact ⟨x, e, (Option.some.inj h).symm⟩
  · cases h
theorem dx_loA_inv {pc : Nat} {L st : List Value} {m : dx_M} {i : Nat} {c' : dx_F} (h : dx_loA pc L st m i = some c') : ∃ x, dx_ld L i = .ref x ∧ c' = (pc, L, .ref x :: st, m) := by
  unfold dx_loA at h
  split at h
  · next x e => exact ⟨x, e, (Option.some.inj h).symm⟩
  · cases h
theorem dx_if_some {α : Type} {q : Prop} [Decidable q] {x y : α} (h : (if q then some x else none) = some y) : q ∧ y = x := by
  by_cases hq : q
  · rw [if_pos hq] at h; exact ⟨hq, (Option.some.inj h).symm⟩
  · rw [if_neg hq] at h; cases h
theorem dx_stI_inv {pc : Nat} {L st : List Value} {m : dx_M} {i : Nat} {c' : dx_F} (h : dx_stI pc L st m i = some c') : ∃ x t, st = .int x :: t ∧ i < L.length ∧ c' = (pc, dx_st1 L i (.int x), t, m) := by
  unfold dx_stI at h
  split at h
  · next x t => exact ⟨x, t, rfl, (dx_if_some h).1, (dx_if_some h).2⟩
  · cases h
theorem dx_stL_inv {pc : Nat} {L st : List Value} {m : dx_M} {i : Nat} {c' : dx_F} (h : dx_stL pc L st m i = some c') : ∃ x t, st = .long x :: t ∧ i + 1 < L.length ∧ c' = (pc, dx_st2 L i (.long x), t, m) := by
  unfold dx_stL at h
  split at h
  · next x t => exact ⟨x, t, rfl, (dx_if_some h).1, (dx_if_some h).2⟩
  · cases h
theorem dx_stA_inv {pc : Nat} {L st : List Value} {m : dx_M} {i : Nat} {c' : dx_F} (h : dx_stA pc L st m i = some c') : ∃ x t, st = .ref x :: t ∧ i < L.length ∧ c' = (pc, dx_st1 L i (.ref x), t, m) := by
  unfold dx_stA at h
  split at h
  · next x t => exact ⟨x, t, rfl, (dx_if_some h).1, (dx_if_some h).2⟩
  · cases h
theorem dx_inc_inv {pc : Nat} {L st : List Value} {m : dx_M} {i : Nat} {v : Value} {c' : dx_F} (h : dx_inc pc L st m i v = some c') : ∃ x y, dx_ld L i = .int x ∧ v = .int y ∧ i < L.length ∧ c' = (pc, dx_st1 L i (.int (x + y)), st, m) := by
  unfold dx_inc at h
  split at h
  · next x y e => exact ⟨x, y, e, rfl, (dx_if_some h).1, (dx_if_some h).2⟩
  · cases h
theorem dx_bI_inv {f : Int32 → Int32 → Int32} {pc : Nat} {L st : List Value} {m : dx_M} {c' : dx_F} (h : dx_bI f pc L st m = some c') : ∃ x y t, st = .int y :: .int x :: t ∧ c' = (pc, L, .int (f x y) :: t, m) := by
  unfold dx_bI at h
  split at h
  · next y x t => exact ⟨x, y, t, rfl, (Option.some.inj h).symm⟩
  · cases h
theorem dx_bL_inv {f : Int64 → Int64 → Int64} {pc : Nat} {L st : List Value} {m : dx_M} {c' : dx_F} (h : dx_bL f pc L st m = some c') : ∃ x y t, st = .long y :: .long x :: t ∧ c' = (pc, L, .long (f x y) :: t, m) := by
  unfold dx_bL at h
  split at h
  · next y x t => exact ⟨x, y, t, rfl, (Option.some.inj h).symm⟩
  · cases h
theorem dx_dI_inv {f : Int32 → Int32 → Int32} {pc : Nat} {L st : List Value} {m : dx_M} {c' : dx_F} (h : dx_dI f pc L st m = some c') : ∃ x y t, st = .int y :: .int x :: t ∧ ¬ y = 0 ∧ c' = (pc, L, .int (f x y) :: t, m) := by
  unfold dx_dI at h
  split at h
  · next y x t => exact ⟨x, y, t, rfl, (dx_if_some h).1, (dx_if_some h).2⟩
  · cases h
theorem dx_dL_inv {f : Int64 → Int64 → Int64} {pc : Nat} {L st : List Value} {m : dx_M} {c' : dx_F} (h : dx_dL f pc L st m = some c') : ∃ x y t, st = .long y :: .long x :: t ∧ ¬ y = 0 ∧ c' = (pc, L, .long (f x y) :: t, m) := by
  unfold dx_dL at h
  split at h
  · next y x t => exact ⟨x, y, t, rfl, (dx_if_some h).1, (dx_if_some h).2⟩
  · cases h
theorem dx_if1_inv {f : Int32 → Nat} {L st : List Value} {m : dx_M} {c' : dx_F} (h : dx_if1 f L st m = some c') : ∃ x t, st = .int x :: t ∧ c' = (f x, L, t, m) := by
  unfold dx_if1 at h
  split at h
  · next x t => exact ⟨x, t, rfl, (Option.some.inj h).symm⟩
  · cases h
theorem dx_if2_inv {f : Int32 → Int32 → Nat} {L st : List Value} {m : dx_M} {c' : dx_F} (h : dx_if2 f L st m = some c') : ∃ x y t, st = .int y :: .int x :: t ∧ c' = (f x y, L, t, m) := by
  unfold dx_if2 at h
  split at h
  · next y x t => exact ⟨x, y, t, rfl, (Option.some.inj h).symm⟩
  · cases h
theorem dx_unI_inv {f : Int32 → Value} {pc : Nat} {L st : List Value} {m : dx_M} {c' : dx_F} (h : dx_unI f pc L st m = some c') : ∃ x t, st = .int x :: t ∧ c' = (pc, L, f x :: t, m) := by
  unfold dx_unI at h
  split at h
  · next x t => exact ⟨x, t, rfl, (Option.some.inj h).symm⟩
  · cases h
theorem dx_unL_inv {f : Int64 → Value} {pc : Nat} {L st : List Value} {m : dx_M} {c' : dx_F} (h : dx_unL f pc L st m = some c') : ∃ x t, st = .long x :: t ∧ c' = (pc, L, f x :: t, m) := by
  unfold dx_unL at h
  split at h
  · next x t => exact ⟨x, t, rfl, (Option.some.inj h).symm⟩
  · cases h
theorem dx_lcm_inv {pc : Nat} {L st : List Value} {m : dx_M} {c' : dx_F} (h : dx_lcm pc L st m = some c') : ∃ x y t, st = .long y :: .long x :: t ∧ c' = (pc, L, .int (lg_cmp x y) :: t, m) := by
  unfold dx_lcm at h
  split at h
  · next y x t => exact ⟨x, y, t, rfl, (Option.some.inj h).symm⟩
  · cases h
theorem dx_dup_inv {pc : Nat} {L st : List Value} {m : dx_M} {c' : dx_F} (h : dx_dup pc L st m = some c') : ∃ v t, st = v :: t ∧ v.category = 1 ∧ c' = (pc, L, v :: v :: t, m) := by
  unfold dx_dup at h
  split at h
  · next x t => exact ⟨_, t, rfl, rfl, (Option.some.inj h).symm⟩
  · next x t => exact ⟨_, t, rfl, rfl, (Option.some.inj h).symm⟩
  · cases h
theorem dx_dup2_inv {pc : Nat} {L st : List Value} {m : dx_M} {c' : dx_F} (h : dx_dup2 pc L st m = some c') : ∃ x y t, st = .int x :: .ref y :: t ∧ c' = (pc, L, .int x :: .ref y :: .int x :: .ref y :: t, m) := by
  unfold dx_dup2 at h
  split at h
  · next x y t => exact ⟨x, y, t, rfl, (Option.some.inj h).symm⟩
  · cases h
theorem dx_get_inv {lay : List dx_Cell} {a b pc : Nat} {L st : List Value} {m : dx_M} {c' : dx_F} (h : dx_get lay a b pc L st m = some c') : ∃ k t fl v, st = .ref k :: t ∧ lay[k]? = some (.inl (a, fl)) ∧ dx_fld m k b fl[b]? = some v ∧ c' = (pc, L, v :: t, m) := by
  unfold dx_get at h
  split at h
  · next k t =>
    split at h
    · next ci fl e =>
      split at h
      · next e2 =>
        have e3 : ci = a := Nat.eq_of_beq_eq_true e2
        subst e3
        split at h
        · next v e4 => exact ⟨k, t, fl, v, rfl, e, e4, (Option.some.inj h).symm⟩
        · cases h
      · cases h
    · cases h
  · cases h
theorem dx_fld_cv {ad : Nat → Nat} {m : dx_M} {k b : Nat} {fl : List (Nat × Nat)} {v : Value} (h : dx_fld m k b fl[b]? = some v) : (fl.mapIdx (fun j q => dx_fv ad (m.1 k j) (m.2 k j) q))[b]? = some (dx_cv ad v) := by
  rw [List.getElem?_mapIdx]
  cases e : fl[b]? with
  | none => rw [e] at h; cases h
  | some q =>
    rw [e] at h
    obtain ⟨κ, q⟩ := q
    match κ, h with
    | 0, h => cases h; rfl
    | 1, h => cases h; rfl
    | 2, h => cases h; rfl
    | 3, h => cases h; rfl
    | n + 4, h => cases h
theorem dx_put_inv {lay : List dx_Cell} {a b pc : Nat} {L st : List Value} {m : dx_M} {c' : dx_F} (h : dx_put lay a b pc L st m = some c') :
    (∃ x k t fl κ q, st = .int x :: .ref k :: t ∧ lay[k]? = some (.inl (a, fl)) ∧ fl[b]? = some (κ, q) ∧ (κ = 0 ∨ (κ = 1 ∧ (x = 0 ∨ x = 1))) ∧ c' = (pc, L, t, dx_pI m k b x)) ∨
    (∃ x k t fl q, st = .long x :: .ref k :: t ∧ lay[k]? = some (.inl (a, fl)) ∧ fl[b]? = some (2, q) ∧ c' = (pc, L, t, dx_pL m k b x)) := by
  unfold dx_put at h
  split at h
  · next x k t =>
    split at h
    · next ci fl e =>
      split at h
      · next e2 =>
        have e3 : ci = a := Nat.eq_of_beq_eq_true e2
        subst e3
        split at h
        · next q e4 => exact Or.inl ⟨x, k, t, fl, 0, q, rfl, e, e4, Or.inl rfl, (Option.some.inj h).symm⟩
        · next q e4 => exact Or.inl ⟨x, k, t, fl, 1, q, rfl, e, e4, Or.inr ⟨rfl, (dx_if_some h).1⟩, (dx_if_some h).2⟩
        · cases h
      · cases h
    · cases h
  · next x k t =>
    split at h
    · next ci fl e =>
      split at h
      · next e2 =>
        have e3 : ci = a := Nat.eq_of_beq_eq_true e2
        subst e3
        split at h
        · next q e4 => exact Or.inr ⟨x, k, t, fl, q, rfl, e, e4, (Option.some.inj h).symm⟩
        · cases h
      · cases h
    · cases h
  · cases h
theorem dx_ald_inv {lay : List dx_Cell} {pc : Nat} {L st : List Value} {m : dx_M} {c' : dx_F} (h : dx_ald lay pc L st m = some c') : ∃ i k t n rs, st = .int i :: .ref k :: t ∧ lay[k]? = some (.inr (0, n, rs)) ∧ vp_in i n ∧ c' = (pc, L, .int (m.1 k i.toNatClampNeg) :: t, m) := by
  unfold dx_ald at h
  split at h
  · next i k t =>
    split at h
    · next n rs e => exact ⟨i, k, t, n, rs, rfl, e, (dx_if_some h).1, (dx_if_some h).2⟩
    · cases h
  · cases h
theorem dx_bld_inv {lay : List dx_Cell} {pc : Nat} {L st : List Value} {m : dx_M} {c' : dx_F} (h : dx_bld lay pc L st m = some c') : ∃ i k t n rs, st = .int i :: .ref k :: t ∧ (lay[k]? = some (.inr (1, n, rs)) ∨ lay[k]? = some (.inr (2, n, rs))) ∧ vp_in i n ∧ c' = (pc, L, .int (m.1 k i.toNatClampNeg) :: t, m) := by
  unfold dx_bld at h
  split at h
  · next i k t =>
    split at h
    · next n rs e => exact ⟨i, k, t, n, rs, rfl, Or.inl e, (dx_if_some h).1, (dx_if_some h).2⟩
    · next n rs e => exact ⟨i, k, t, n, rs, rfl, Or.inr e, (dx_if_some h).1, (dx_if_some h).2⟩
    · cases h
  · cases h
theorem dx_rld_inv {pc : Nat} {L t : List Value} {m : dx_M} {n : Nat} {rs : List Nat} {i : Int32} {c' : dx_F} (h : dx_rld pc L t m n rs i = some c') : vp_in i n ∧ ∃ q, rs[i.toNatClampNeg]? = some q ∧ c' = (pc, L, .ref q :: t, m) := by
  unfold dx_rld at h
  by_cases hq : ¬ (i < 0 ∨ n ≤ i.toNatClampNeg)
  · rw [if_pos hq] at h
    split at h
    · next q e => exact ⟨hq, q, e, (Option.some.inj h).symm⟩
    · cases h
  · rw [if_neg hq] at h; cases h
theorem dx_aad_inv {lay : List dx_Cell} {pc : Nat} {L st : List Value} {m : dx_M} {c' : dx_F} (h : dx_aad lay pc L st m = some c') : ∃ i k t n rs q, st = .int i :: .ref k :: t ∧ (lay[k]? = some (.inr (3, n, rs)) ∨ lay[k]? = some (.inr (4, n, rs))) ∧ vp_in i n ∧ rs[i.toNatClampNeg]? = some q ∧ c' = (pc, L, .ref q :: t, m) := by
  unfold dx_aad at h
  split at h
  · next i k t =>
    split at h
    · next n rs e =>
      obtain ⟨h1, q, h2, h3⟩ := dx_rld_inv h
      exact ⟨i, k, t, n, rs, q, rfl, Or.inl e, h1, h2, h3⟩
    · next n rs e =>
      obtain ⟨h1, q, h2, h3⟩ := dx_rld_inv h
      exact ⟨i, k, t, n, rs, q, rfl, Or.inr e, h1, h2, h3⟩
    · cases h
  · cases h
theorem dx_ast_inv {lay : List dx_Cell} {pc : Nat} {L st : List Value} {m : dx_M} {c' : dx_F} (h : dx_ast lay pc L st m = some c') : ∃ x i k t n rs, st = .int x :: .int i :: .ref k :: t ∧ lay[k]? = some (.inr (0, n, rs)) ∧ vp_in i n ∧ c' = (pc, L, t, dx_pI m k i.toNatClampNeg x) := by
  unfold dx_ast at h
  split at h
  · next x i k t =>
    split at h
    · next n rs e => exact ⟨x, i, k, t, n, rs, rfl, e, (dx_if_some h).1, (dx_if_some h).2⟩
    · cases h
  · cases h
theorem dx_bst_inv {lay : List dx_Cell} {pc : Nat} {L st : List Value} {m : dx_M} {c' : dx_F} (h : dx_bst lay pc L st m = some c') : ∃ x i k t n rs, st = .int x :: .int i :: .ref k :: t ∧ vp_in i n ∧ ((lay[k]? = some (.inr (1, n, rs)) ∧ c' = (pc, L, t, dx_pI m k i.toNatClampNeg (vp_nar .byte x))) ∨ (lay[k]? = some (.inr (2, n, rs)) ∧ c' = (pc, L, t, dx_pI m k i.toNatClampNeg (vp_nar .boolean x)))) := by
  unfold dx_bst at h
  split at h
  · next x i k t =>
    split at h
    · next n rs e => exact ⟨x, i, k, t, n, rs, rfl, (dx_if_some h).1, Or.inl ⟨e, (dx_if_some h).2⟩⟩
    · next n rs e => exact ⟨x, i, k, t, n, rs, rfl, (dx_if_some h).1, Or.inr ⟨e, (dx_if_some h).2⟩⟩
    · cases h
  · cases h
