/-! rules of the deep machine, for runs -/
section DXR
variable {d : Nat} {C : Nat → List Value → dx_M → (Option Value → dx_M → Prop) → Prop} {lay : List dx_Cell} {K : dx_K} {Z : Option Value → dx_M → Prop} {pc : Nat} {L t : List Value} {m : dx_M} {k n : Nat} {rs : List Nat} {r : dx_I}
theorem dx_row (h : dx_look K.2.1 pc = some r) (st : List Value) : dx_stp lay K (pc, L, st, m) = dx_ex lay r pc L st m := by simp [dx_stp, h]
theorem dx_inN {e n : Nat} (he : e < n) (hn : n < 2147483648) : ¬ (nI e < 0 ∨ n ≤ (nI e).toNatClampNeg) := vp_in_nI he hn
theorem dx_clN {e n : Nat} (he : e < n) (hn : n < 2147483648) : (nI e).toNatClampNeg = e := nI_clamp (Nat.lt_trans he hn)
theorem dx_aldN (e : Nat) {x : Int32} (hrow : dx_look K.2.1 pc = some r) (hr : r.1 = .iaload) (hl : lay[k]? = some (.inr (0, n, rs))) (hi : x = nI e) (he : e < n) (kk : dx_Go d C lay K Z (pc + 1, L, .int (m.1 k e) :: t, m)) (hn : n < 2147483648 := by decide) : dx_Go d C lay K Z (pc, L, .int x :: .ref k :: t, m) := by
  subst hi
  refine dx_step (c' := (pc + 1, L, .int (m.1 k e) :: t, m)) ?_ kk
  rw [dx_row hrow]
  unfold dx_ex
  rw [hr]
  simp only [dx_ald, hl]
  rw [if_pos (dx_inN he hn), dx_clN he hn]
theorem dx_bldN (e : Nat) {x : Int32} (hrow : dx_look K.2.1 pc = some r) (hr : r.1 = .baload) (hl : lay[k]? = some (.inr (1, n, rs)) ∨ lay[k]? = some (.inr (2, n, rs))) (hi : x = nI e) (he : e < n) (kk : dx_Go d C lay K Z (pc + 1, L, .int (m.1 k e) :: t, m)) (hn : n < 2147483648 := by decide) : dx_Go d C lay K Z (pc, L, .int x :: .ref k :: t, m) := by
  subst hi
  refine dx_step (c' := (pc + 1, L, .int (m.1 k e) :: t, m)) ?_ kk
  rw [dx_row hrow]
  unfold dx_ex
  rw [hr]
  rcases hl with hl | hl
  · simp only [dx_bld, hl]
    rw [if_pos (dx_inN he hn), dx_clN he hn]
  · simp only [dx_bld, hl]
    rw [if_pos (dx_inN he hn), dx_clN he hn]
theorem dx_astN (e : Nat) {x v : Int32} (hrow : dx_look K.2.1 pc = some r) (hr : r.1 = .iastore) (hl : lay[k]? = some (.inr (0, n, rs))) (hi : x = nI e) (he : e < n) (kk : dx_Go d C lay K Z (pc + 1, L, t, dx_pI m k e v)) (hn : n < 2147483648 := by decide) : dx_Go d C lay K Z (pc, L, .int v :: .int x :: .ref k :: t, m) := by
  subst hi
  refine dx_step (c' := (pc + 1, L, t, dx_pI m k e v)) ?_ kk
  rw [dx_row hrow]
  unfold dx_ex
  rw [hr]
  simp only [dx_ast, hl]
  rw [if_pos (dx_inN he hn), dx_clN he hn]
theorem dx_bstB (e : Nat) {x v : Int32} (hrow : dx_look K.2.1 pc = some r) (hr : r.1 = .bastore) (hl : lay[k]? = some (.inr (1, n, rs))) (hi : x = nI e) (he : e < n) (kk : dx_Go d C lay K Z (pc + 1, L, t, dx_pI m k e v.toInt8.toInt32)) (hn : n < 2147483648 := by decide) : dx_Go d C lay K Z (pc, L, .int v :: .int x :: .ref k :: t, m) := by
  subst hi
  refine dx_step (c' := (pc + 1, L, t, dx_pI m k e v.toInt8.toInt32)) ?_ kk
  rw [dx_row hrow]
  unfold dx_ex
  rw [hr]
  simp only [dx_bst, hl]
  rw [if_pos (dx_inN he hn), dx_clN he hn, vp_nar_byte]
theorem dx_bstZ (e : Nat) {x v : Int32} (hrow : dx_look K.2.1 pc = some r) (hr : r.1 = .bastore) (hl : lay[k]? = some (.inr (2, n, rs))) (hi : x = nI e) (he : e < n) (hv : v = 0 ∨ v = 1) (kk : dx_Go d C lay K Z (pc + 1, L, t, dx_pI m k e v)) (hn : n < 2147483648 := by decide) : dx_Go d C lay K Z (pc, L, .int v :: .int x :: .ref k :: t, m) := by
  subst hi
  refine dx_step (c' := (pc + 1, L, t, dx_pI m k e v)) ?_ kk
  rw [dx_row hrow]
  unfold dx_ex
  rw [hr]
  simp only [dx_bst, hl]
  rw [if_pos (dx_inN he hn), dx_clN he hn]
  rcases hv with rfl | rfl <;> rfl
theorem dx_aadN (e : Nat) {x : Int32} {q : Nat} (hrow : dx_look K.2.1 pc = some r) (hr : r.1 = .aaload) (hl : lay[k]? = some (.inr (3, n, rs)) ∨ lay[k]? = some (.inr (4, n, rs))) (hi : x = nI e) (he : e < n) (hq : rs[e]? = some q) (kk : dx_Go d C lay K Z (pc + 1, L, .ref q :: t, m)) (hn : n < 2147483648 := by decide) : dx_Go d C lay K Z (pc, L, .int x :: .ref k :: t, m) := by
  subst hi
  refine dx_step (c' := (pc + 1, L, .ref q :: t, m)) ?_ kk
  rw [dx_row hrow]
  unfold dx_ex
  rw [hr]
  rcases hl with hl | hl
  · simp only [dx_aad, hl, dx_rld]
    rw [if_pos (dx_inN he hn), dx_clN he hn, hq]
  · simp only [dx_aad, hl, dx_rld]
    rw [if_pos (dx_inN he hn), dx_clN he hn, hq]
theorem dx_getS {a b x : Nat} {fl : List (Nat × Nat)} {v : Value} (hrow : dx_look K.2.1 pc = some r) (hr : r.1 = .getfield x) (ha : r.2.2.2.1 = a) (hb : r.2.2.2.2.1 = b) (hl : lay[k]? = some (.inl (a, fl))) (hf : dx_fld m k b fl[b]? = some v) (kk : dx_Go d C lay K Z (pc + 3, L, v :: t, m)) : dx_Go d C lay K Z (pc, L, .ref k :: t, m) := by
  subst ha; subst hb
  refine dx_step (c' := (pc + 3, L, v :: t, m)) ?_ kk
  rw [dx_row hrow]
  unfold dx_ex
  rw [hr]
  simp only [dx_get, hl, Nat.beq_refl, hf]
theorem dx_putS {a b x : Nat} {fl : List (Nat × Nat)} {q : Nat} {v : Int32} (hrow : dx_look K.2.1 pc = some r) (hr : r.1 = .putfield x) (ha : r.2.2.2.1 = a) (hb : r.2.2.2.2.1 = b) (hl : lay[k]? = some (.inl (a, fl))) (hf : fl[b]? = some (0, q) ∨ (fl[b]? = some (1, q) ∧ (v = 0 ∨ v = 1))) (kk : dx_Go d C lay K Z (pc + 3, L, t, dx_pI m k b v)) : dx_Go d C lay K Z (pc, L, .int v :: .ref k :: t, m) := by
  subst ha; subst hb
  refine dx_step (c' := (pc + 3, L, t, dx_pI m k r.2.2.2.2.1 v)) ?_ kk
  rw [dx_row hrow]
  unfold dx_ex
  rw [hr]
  rcases hf with hf | ⟨hf, hv⟩
  · simp only [dx_put, hl, Nat.beq_refl, hf]
  · simp only [dx_put, hl, Nat.beq_refl, hf]
    rw [if_pos hv]
theorem dx_nmI {x : Int32} {st : List Value} (h : ∀ y : Int32, y = x → dx_Go d C lay K Z (pc, L, .int y :: st, m)) : dx_Go d C lay K Z (pc, L, .int x :: st, m) := h x rfl
theorem dx_nmL {x : Int64} {st : List Value} (h : ∀ y : Int64, y = x → dx_Go d C lay K Z (pc, L, .long y :: st, m)) : dx_Go d C lay K Z (pc, L, .long x :: st, m) := h x rfl
theorem dx_sp {q : Prop} [Decidable q] {a b : Nat} {st : List Value} (kt : q → dx_Go d C lay K Z (a, L, st, m)) (kf : ¬ q → dx_Go d C lay K Z (b, L, st, m)) : dx_Go d C lay K Z (if q then a else b, L, st, m) := by
  by_cases h : q
  · rw [if_pos h]; exact kt h
  · rw [if_neg h]; exact kf h
/-- the memory may be told otherwise -/
theorem dx_mem {m' : dx_M} {st : List Value} (e : m = m') (k : dx_Go d C lay K Z (pc, L, st, m')) : dx_Go d C lay K Z (pc, L, st, m) := e ▸ k
end DXR
/-- f, n times: at 0, 1, .. n - 1 -/
def nf {σ : Type} (f : Nat → σ → σ) : Nat → σ → σ
  | 0, s => s
  | n + 1, s => f n (nf f n s)
theorem nf_succ {σ : Type} (f : Nat → σ → σ) (n : Nat) (s : σ) : nf f (n + 1) s = f n (nf f n s) := rfl
/-- a loop that counts from 0 to N -/
theorem dx_for {σ : Type} {G : dx_F → Prop} (c : Nat → σ → dx_F) (f : Nat → σ → σ) (I : Nat → σ → Prop) (N : Nat) (s : σ) (h0 : I 0 s) (hs : ∀ i s, i < N → I i s → G (c (i + 1) (f i s)) → G (c i s)) (hi : ∀ i s, i < N → I i s → I (i + 1) (f i s)) (hk : I N (nf f N s) → G (c N (nf f N s))) : G (c 0 s) := by
  have key : ∀ k, k ≤ N → (I k (nf f k s)) ∧ (G (c k (nf f k s)) → G (c 0 s)) := by
    intro k
    induction k with
    | zero => exact fun _ => ⟨h0, fun h => h⟩
    | succ k ih =>
      intro hk
      obtain ⟨h1, h2⟩ := ih (by omega)
      exact ⟨hi k _ (by omega) h1, fun h => h2 (hs k _ (by omega) h1 h)⟩
  exact (key N (Nat.le_refl N)).2 (hk (key N (Nat.le_refl N)).1)
theorem nf_cong {σ : Type} {f g : Nat → σ → σ} {n : Nat} (s : σ) (h : ∀ i s, i < n → f i s = g i s) : nf f n s = nf g n s := by
  induction n with
  | zero => rfl
  | succ n ih => rw [nf_succ, nf_succ, ih (fun i s hi => h i s (by omega)), h n _ (by omega)]
theorem nI_geI {a b : Nat} (ha : a < 2 ^ 31) (hb : b < 2 ^ 31) : (nI a ≤ nI b) = (a ≤ b) := propext (nI_leI ha hb)
/-- a ≤ n ≤ b, as the programs ask it -/
def inI (n a b : Int32) : Bool := decide (a ≤ n) && decide (n ≤ b)
theorem inI_t {n a b : Int32} : inI n a b = true ↔ a ≤ n ∧ n ≤ b := by simp [inI]
theorem inI_f {n a b : Int32} : inI n a b = false ↔ ¬ (a ≤ n ∧ n ≤ b) := by rw [← inI_t]; simp
def bI (b : Bool) : Int32 := if b then 1 else 0
theorem bI_t {b : Bool} (h : b = true) : bI b = 1 := by rw [h]; rfl
theorem bI_f {b : Bool} (h : b = false) : bI b = 0 := by rw [h]; rfl
theorem bI_01 (b : Bool) : bI b = 0 ∨ bI b = 1 := by cases b <;> simp [bI]
theorem inI_lt {n a b : Int32} (h : n < a) : inI n a b = false := inI_f.mpr (by rw [fa_le, fa_le]; rw [fa_lt] at h; omega)
theorem inI_gt {n a b : Int32} (h : b < n) : inI n a b = false := inI_f.mpr (by rw [fa_le, fa_le]; rw [fa_lt] at h; omega)
theorem inI_in {n a b : Int32} (h : ¬ n < a) (h2 : ¬ b < n) : inI n a b = true := inI_t.mpr (by rw [fa_le, fa_le]; rw [fa_lt] at h h2; omega)
theorem bI_ne {b : Bool} (h : ¬ bI b = 0) : b = true := by cases b <;> simp_all [bI]
theorem bI_eq {b : Bool} (h : bI b = 0) : b = false := by cases b <;> simp_all [bI]
/-- a loop that counts from 0 to N, its frame told by the count alone -/
theorem dx_for0 {G : dx_F → Prop} (c : Nat → dx_F) (N : Nat) (hs : ∀ i, i < N → G (c (i + 1)) → G (c i)) (hk : G (c N)) : G (c 0) := by
  have key : ∀ k, k ≤ N → G (c k) → G (c 0) := by
    intro k
    induction k with
    | zero => exact fun _ h => h
    | succ k ih => exact fun hk h => ih (by omega) (hs k (by omega) h)
  exact key N (Nat.le_refl N) hk
theorem dx_pI_pR (m : dx_M) (k j : Nat) (f : Nat → Int32) (v : Int32) : dx_pI (dx_pR m k f) k j v = dx_pR m k (upd f j v) := by
  unfold dx_pI dx_pR
  refine Prod.ext (funext fun a => ?_) rfl
  by_cases h : a = k <;> simp [h]
theorem dx_pR_pR (m : dx_M) (k : Nat) (f g : Nat → Int32) : dx_pR (dx_pR m k f) k g = dx_pR m k g := by
  unfold dx_pR
  refine Prod.ext (funext fun a => ?_) rfl
  by_cases h : a = k <;> simp [h]
theorem dx_pR_self (m : dx_M) (k : Nat) : dx_pR m k (m.1 k) = m := by
  unfold dx_pR
  refine Prod.ext (funext fun a => ?_) rfl
  by_cases h : a = k <;> simp [h]
theorem nI_ix (b a : Nat) : nI b * 12 + nI a = nI (b * 12 + a) := by
  rw [show (12 : Int32) = nI 12 from rfl, pk_mul, nI_add]
theorem nI_ix2 (b a : Nat) : 12 * nI b + nI a = nI (12 * b + a) := by
  rw [show (12 : Int32) = nI 12 from rfl, pk_mul, nI_add]
section DXB
variable {d : Nat} {C : Nat → List Value → dx_M → (Option Value → dx_M → Prop) → Prop} {lay : List dx_Cell} {K : dx_K} {Z : Option Value → dx_M → Prop} {c : dx_F} {a b : Nat} {L st : List Value} {m : dx_M}
/-- a branch on a truth value -/
theorem dx_brB {B : Bool} (h : dx_stp lay K c = some (if bI B = 0 then a else b, L, st, m)) (kt : B = false → dx_Go d C lay K Z (a, L, st, m)) (kf : B = true → dx_Go d C lay K Z (b, L, st, m)) : dx_Go d C lay K Z c :=
  dx_br h (fun q => kt (bI_eq q)) (fun q => kf (bI_ne q))
/-- a branch, its question told otherwise -/
theorem dx_brQ {q q' : Prop} [Decidable q] (e : q ↔ q') (h : dx_stp lay K c = some (if q then a else b, L, st, m)) (kt : q' → dx_Go d C lay K Z (a, L, st, m)) (kf : ¬ q' → dx_Go d C lay K Z (b, L, st, m)) : dx_Go d C lay K Z c :=
  dx_br h (fun z => kt (e.mp z)) (fun z => kf (fun y => z (e.mpr y)))
end DXB
theorem lc_eq (x y : Int64) : lg_cmp x y = 0 ↔ x = y := by
  unfold lg_cmp
  by_cases h : x > y
  · rw [if_pos h]
    exact ⟨fun q => absurd q (by decide), fun q => by subst q; exact absurd (Int64.lt_iff_toInt_lt.mp h) (Int.lt_irrefl _)⟩
  · rw [if_neg h]
    by_cases h2 : x = y
    · rw [if_pos h2]; exact ⟨fun _ => h2, fun _ => rfl⟩
    · rw [if_neg h2]; exact ⟨fun q => absurd q (by decide), fun q => absurd q h2⟩
theorem lc_ge (x y : Int64) : 0 ≤ lg_cmp x y ↔ y ≤ x := lg_cmp_ge x y
theorem lc_le (x y : Int64) : lg_cmp x y ≤ 0 ↔ x ≤ y := lg_cmp_le x y
theorem lc_lt (x y : Int64) : lg_cmp x y < 0 ↔ x < y := by
  have h := lg_cmp_ge x y
  rw [fa_lt, fa_lt64]
  rw [fa_le, fa_le64] at h
  have e : (0 : Int32).toInt = 0 := rfl
  omega
theorem lc_gt (x y : Int64) : 0 < lg_cmp x y ↔ y < x := by
  have h := lg_cmp_le x y
  rw [fa_lt, fa_lt64]
  rw [fa_le, fa_le64] at h
  have e : (0 : Int32).toInt = 0 := rfl
  omega
theorem dx_rd {m : dx_M} {k i : Nat} {f : Nat → Int32} (h : i ≠ k) (j : Nat) : (dx_pR m k f).1 i j = m.1 i j := by
  show (if i = k then f else m.1 i) j = m.1 i j
  rw [if_neg h]
theorem dx_rdI {m : dx_M} {k i b : Nat} {v : Int32} (h : i ≠ k) (j : Nat) : (dx_pI m k b v).1 i j = m.1 i j := dx_rd h j
/-- a call on a cell that is told by a number -/
theorem dx_clV {lay : List dx_Cell} {K : dx_K} {pc : Nat} {L st as rest : List Value} {m : dx_M} {r : dx_I} {x k ci id : Nat} {fl : List (Nat × Nat)} (hrow : dx_look K.2.1 pc = some r) (hr : r.1 = .invokevirtual x) (ha : r.2.2.2.1 = 1) (hv : r.2.2.1 = .ref ci) (hl : lay[k]? = some (.inl (ci, fl))) (hid : r.2.2.2.2.1 = id) (hst : st = as.reverse ++ .ref k :: rest) (hn : r.2.2.2.2.2.1 = as.length) (hs : (rest.map fun v => v.category).sum ≤ 8) : dx_cl lay K (pc, L, st, m) = some (id, .ref k :: as, rest) := by
  subst hst
  subst hid
  have e1 : (as.reverse ++ Value.ref k :: rest).drop as.length = .ref k :: rest := by
    rw [List.drop_append_of_le_length (by simp)]
    simp
  have e2 : (as.reverse ++ Value.ref k :: rest).take as.length = as.reverse := by
    rw [List.take_append_of_le_length (by simp)]
    exact List.take_of_length_le (by simp)
  simp only [dx_cl, hrow, dx_cx, hr, ha, dx_cV, hn, e1, e2, hv, hl]
  rw [if_pos ⟨trivial, by simp, hs⟩, List.reverse_reverse]
