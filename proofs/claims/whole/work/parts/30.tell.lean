/-! the greatest common divisor, tell, compare (printed by wip/whole/g30.py) -/
def eu : Nat → Int64 → Int64 → Int64
  | 0, a, _ => a
  | n + 1, a, b => if b = 0 then a else eu n b (a - a / b * b)
def euT : Nat → Int64 → Int64 → Prop
  | 0, _, b => b = 0
  | n + 1, a, b => b = 0 ∨ euT n b (a - a / b * b)
theorem eu_0 (n : Nat) (a : Int64) : eu n a 0 = a := by cases n <;> rfl
theorem eu_s {n : Nat} {a b : Int64} (h : ¬ b = 0) : eu (n + 1) a b = eu n b (a - a / b * b) := if_neg h
theorem lZ_div {u : Int} {g : Nat} (h1 : -9223372036854775807 ≤ u) (h2 : u ≤ 9223372036854775807) (hg : g < 9223372036854775808) : lZ u / lZ g = lZ (u.tdiv g) := by
  have hb : (u.tdiv g).natAbs ≤ u.natAbs := by rw [Int.natAbs_tdiv]; exact Nat.div_le_self _ _
  refine Int64.toInt_inj.mp ?_
  rw [Int64.toInt_div, lZ_to (by omega) (by omega), lZ_to (by omega) (by omega), lZ_to (by omega) (by omega)]
  exact fb_bmodL (by omega) (by omega)
theorem lZ_rem {A B : Nat} (hA : A < 9223372036854775808) (hB : B < 9223372036854775808) : lZ A - lZ A / lZ B * lZ B = lZ (A % B : Nat) := by
  rw [lZ_div (by omega) (by omega) hB, lZ_mul, lZ_sub]
  congr 1
  rw [show ((A : Int).tdiv B) = ((A / B : Nat) : Int) from rfl]
  have h := Nat.div_add_mod A B
  have h2 : (A / B) * B = B * (A / B) := Nat.mul_comm _ _
  have h3 : ((A / B : Nat) : Int) * (B : Int) = ((A / B * B : Nat) : Int) := (Int.natCast_mul _ _).symm
  rw [h3, h2]
  omega
theorem lZ_n0 {B : Nat} (hB : B < 9223372036854775808) (h : B ≠ 0) : ¬ lZ B = 0 := fun e => by
  have := (lZ_inj (a := (B : Int)) (b := 0) (by omega) (by omega) (by decide) (by decide)).mp e
  omega
theorem eu_ok : ∀ (j A B k : Nat), B < 2 ^ j → 2 * j + 1 ≤ k → A < 9223372036854775808 → B < 9223372036854775808 → euT k (lZ A) (lZ B) ∧ eu k (lZ A) (lZ B) = lZ (Nat.gcd A B)
  | 0, A, B, k, hB, hk, hA, _ => by
    have e : B = 0 := by have : (2 : Nat) ^ 0 = 1 := rfl; omega
    subst e
    obtain ⟨k, rfl⟩ : ∃ n, k = n + 1 := ⟨k - 1, by omega⟩
    rw [Nat.gcd_zero_right]
    exact ⟨Or.inl rfl, eu_0 _ _⟩
  | j + 1, A, B, k, hB, hk, hA, hB2 => by
    obtain ⟨k, rfl⟩ : ∃ n, k = n + 2 := ⟨k - 2, by omega⟩
    by_cases h0 : B = 0
    · subst h0
      rw [Nat.gcd_zero_right]
      exact ⟨Or.inl rfl, eu_0 _ _⟩
    · have hr : A % B < B := Nat.mod_lt _ (by omega)
      rw [eu_s (lZ_n0 hB2 h0), lZ_rem hA hB2]
      have g1 : Nat.gcd A B = Nat.gcd B (A % B) := by rw [Nat.gcd_comm A B, Nat.gcd_rec B A, Nat.gcd_comm]
      rw [g1]
      suffices hs : euT (k + 1) (lZ B) (lZ (A % B : Nat)) ∧ eu (k + 1) (lZ B) (lZ (A % B : Nat)) = lZ (Nat.gcd B (A % B)) from
        ⟨Or.inr (by rw [lZ_rem hA hB2]; exact hs.1), hs.2⟩
      generalize A % B = R at hr
      by_cases h1 : R = 0
      · subst h1
        rw [Nat.gcd_zero_right]
        exact ⟨Or.inl rfl, eu_0 _ _⟩
      · have hr2 : B % R < R := Nat.mod_lt _ (by omega)
        have hr3 : B % R < 2 ^ j := by
          have e := Nat.div_add_mod B R
          have e2 : 1 ≤ B / R := Nat.div_pos (by omega) (by omega)
          have e3 : R * 1 ≤ R * (B / R) := Nat.mul_le_mul_left R e2
          have e4 : 2 ^ (j + 1) = 2 ^ j * 2 := Nat.pow_succ 2 j
          omega
        rw [eu_s (lZ_n0 (by omega) h1), lZ_rem (by omega) (by omega)]
        have g2 : Nat.gcd B R = Nat.gcd R (B % R) := by rw [Nat.gcd_comm B R, Nat.gcd_rec R B, Nat.gcd_comm]
        rw [g2]
        have ih := eu_ok j R (B % R) k hr3 (by omega) (by omega) (by omega)
        exact ⟨Or.inr (by rw [lZ_rem (by omega) (by omega)]; exact ih.1), ih.2⟩
def gN (u l : Int) : Nat := Nat.gcd u.natAbs l.natAbs
def tU (u l : Int) : Int64 := lZ (u.tdiv (gN u l))
def tL (u l : Int) : Int64 := lZ (l.tdiv (gN u l))
theorem gN_pos {u l : Int} (h : 0 < l) : 0 < gN u l := Nat.gcd_pos_of_pos_right _ (by omega)
theorem gN_le {u l : Int} (h : 0 < l) : (gN u l : Int) ≤ l := by
  have := Nat.gcd_le_right u.natAbs (show 0 < l.natAbs by omega)
  unfold gN
  omega
/-- numbers that may be told -/
def tlP (u l : Int) : Prop := -9223372036854775807 ≤ u ∧ u ≤ 9223372036854775807 ∧ 0 < l ∧ l < 562949953421312
theorem eu_gN {u l : Int} (h : tlP u l) : euT 100 (lZ u.natAbs) (lZ l) ∧ eu 100 (lZ u.natAbs) (lZ l) = lZ (gN u l) := by
  obtain ⟨h1, h2, h3, h4⟩ := h
  have e : l = (l.natAbs : Int) := by omega
  have h := eu_ok 49 u.natAbs l.natAbs 100 (by rw [show (2 : Nat) ^ 49 = 562949953421312 from rfl]; omega) (by decide) (by omega) (by omega)
  rw [← e] at h
  exact h
theorem abs_X {u : Int} (h1 : -9223372036854775807 ≤ u) (h2 : u ≤ 9223372036854775807) : (if 0 < lZ u then lZ u else -(lZ u)) = lZ u.natAbs := by
  have e : (0 < lZ u) ↔ 0 < u := lZ_lt (a := 0) (b := u) (by decide) (by decide) (by omega) (by omega)
  by_cases h : 0 < u
  · rw [if_pos (e.mpr h)]
    congr 1
    omega
  · rw [if_neg (fun z => h (e.mp z)), lZ_neg]
    congr 1
    omega
def cmL (a b : Int64) : Int32 := if a < b then -1 else if a = b then 0 else 1
set_option maxRecDepth 20000 in
theorem sJ13_compare {lay : List dx_Cell} {d : Nat} (a b : Int64) (m : dx_M) {Z : Option Value → dx_M → Prop} (h : Z (some (.int (cmL a b))) m) : dx_Sem dx_P lay (d + 1) 144 [.long a, .long b] m Z := by
  refine dx_sem km_J13_compare_74951 rfl rfl ?_
  refine dx_blk 0 (c' := (0, [.long a, .null, .long b, .null], [], m)) rfl ?_
  refine dx_blk 3 (c' := (3, [.long a, .null, .long b, .null], [.int (lg_cmp a b)], m)) rfl ?_
  refine dx_brQ (q := 0 ≤ (lg_cmp a b)) (a := 10) (b := 6) (L := [.long a, .null, .long b, .null]) (st := []) (m := m) (lc_ge _ _) rfl (fun h3 => ?_) (fun h3 => ?_)
  · refine dx_blk 3 (c' := (13, [.long a, .null, .long b, .null], [.int (lg_cmp a b)], m)) rfl ?_
    refine dx_brQ (q := (lg_cmp a b) = 0) (a := 16) (b := 20) (L := [.long a, .null, .long b, .null]) (st := []) (m := m) (lc_eq _ _) rfl (fun h13 => ?_) (fun h13 => ?_)
    · refine dx_blk 2 (c' := (21, [.long a, .null, .long b, .null], [.int 0], m)) rfl ?_
      exact dx_ret (r := some (.int 0)) rfl (by
    have e : cmL a b = 0 := by unfold cmL; rw [if_neg (by rw [fa_lt64]; rw [fa_le64] at h3; omega), if_pos h13]
    rw [e] at h; exact h)
    · refine dx_blk 1 (c' := (21, [.long a, .null, .long b, .null], [.int 1], m)) rfl ?_
      exact dx_ret (r := some (.int 1)) rfl (by
    have e : cmL a b = 1 := by unfold cmL; rw [if_neg (by rw [fa_lt64]; rw [fa_le64] at h3; omega), if_neg h13]
    rw [e] at h; exact h)
  · refine dx_blk 2 (c' := (21, [.long a, .null, .long b, .null], [.int (-1)], m)) rfl ?_
    exact dx_ret (r := some (.int (-1))) rfl (by
    have e : cmL a b = -1 := by unfold cmL; rw [if_pos (by rw [fa_lt64]; rw [fa_le64] at h3; omega)]
    rw [e] at h; exact h)
set_option maxRecDepth 20000 in
theorem lp_comm {lay : List dx_Cell} {d : Nat} {Z : Option Value → dx_M → Prop} (m : dx_M) (a0 b0 : Int64) : ∀ (k n : Nat) (a b : Int64), n + k = 100 → Z (some (.long (eu k a b))) m → dx_Go d (dx_Sem dx_P lay d) lay km_X3_commonDivisor Z (9, [.long a0, .null, .long b0, .null, .long a, .null, .long b, .null, .int (nI n), .null, .null], [], m) := by
  intro k
  induction k with
  | zero =>
    intro n a b hn h
    obtain rfl : n = 100 := by omega
    refine dx_blk 0 (c' := (9, [.long a0, .null, .long b0, .null, .long a, .null, .long b, .null, .int (nI 100), .null, .null], [], m)) rfl ?_
    refine dx_blk 2 (c' := (13, [.long a0, .null, .long b0, .null, .long a, .null, .long b, .null, .int (nI 100), .null, .null], [.int 100, .int (nI 100)], m)) rfl ?_
    refine dx_br (q := 100 ≤ (nI 100)) (a := 44) (b := 16) (L := [.long a0, .null, .long b0, .null, .long a, .null, .long b, .null, .int (nI 100), .null, .null]) (st := []) (m := m) rfl (fun _ => ?_) (fun h => absurd (by decide) h)
    refine dx_blk 1 (c' := (46, [.long a0, .null, .long b0, .null, .long a, .null, .long b, .null, .int (nI 100), .null, .null], [.long a], m)) rfl ?_
    exact dx_ret (r := some (.long a)) rfl h
  | succ k ih =>
    intro n a b hn h
    refine dx_blk 0 (c' := (9, [.long a0, .null, .long b0, .null, .long a, .null, .long b, .null, .int (nI n), .null, .null], [], m)) rfl ?_
    refine dx_blk 2 (c' := (13, [.long a0, .null, .long b0, .null, .long a, .null, .long b, .null, .int (nI n), .null, .null], [.int 100, .int (nI n)], m)) rfl ?_
    refine dx_br (q := 100 ≤ (nI n)) (a := 44) (b := 16) (L := [.long a0, .null, .long b0, .null, .long a, .null, .long b, .null, .int (nI n), .null, .null]) (st := []) (m := m) rfl (fun h => absurd h (nI_ge (a := n) (b := 100) (by omega) (by decide))) (fun _ => ?_)
    refine dx_blk 3 (c' := (20, [.long a0, .null, .long b0, .null, .long a, .null, .long b, .null, .int (nI n), .null, .null], [.int (lg_cmp b 0)], m)) rfl ?_
    refine dx_brQ (q := (lg_cmp b 0) = 0) (a := 44) (b := 23) (L := [.long a0, .null, .long b0, .null, .long a, .null, .long b, .null, .int (nI n), .null, .null]) (st := []) (m := m) (lc_eq _ _) rfl (fun h20 => ?_) (fun h20 => ?_)
    · refine dx_blk 1 (c' := (46, [.long a0, .null, .long b0, .null, .long a, .null, .long b, .null, .int (nI n), .null, .null], [.long a], m)) rfl ?_
      exact dx_ret (r := some (.long a)) rfl (by rw [h20, eu_0] at h; exact h)
    · refine dx_blk 2 (c' := (27, [.long a0, .null, .long b0, .null, .long a, .null, .long b, .null, .int (nI n), .null, .null], [.long b, .long a], m)) rfl ?_
      refine dx_step (c' := (28, [.long a0, .null, .long b0, .null, .long a, .null, .long b, .null, .int (nI n), .null, .null], [.long (a - a / b * b)], m)) (if_pos h20) ?_
      refine dx_blk 7 (c' := (9, [.long a0, .null, .long b0, .null, .long b, .null, .long (a - a / b * b), .null, .int ((nI n) + 1), .long (a - a / b * b), .null], [], m)) rfl ?_
      refine dx_fgt [.long a0, .null, .long b0, .null, .long b, .null, .long (a - a / b * b), .null, .int ((nI n) + 1), .null, .null] (And.intro (Or.inr rfl) (And.intro (Or.inl rfl) (And.intro (Or.inr rfl) (And.intro (Or.inl rfl) (And.intro (Or.inr rfl) (And.intro (Or.inl rfl) (And.intro (Or.inr rfl) (And.intro (Or.inl rfl) (And.intro (Or.inr rfl) (And.intro (Or.inl rfl) (And.intro (Or.inl rfl) trivial))))))))))) ?_
      rw [← nI_succ]
      exact ih (n + 1) _ _ (by omega) (by rw [eu_s h20] at h; exact h)
theorem sX3_commonDivisor {lay : List dx_Cell} {d : Nat} (a b : Int64) (m : dx_M) {Z : Option Value → dx_M → Prop} (h : Z (some (.long (eu 100 a b))) m) : dx_Sem dx_P lay (d + 1) 72 [.long a, .long b] m Z := by
  refine dx_sem km_X3_commonDivisor rfl rfl ?_
  refine dx_blk 6 (c' := (9, [.long a, .null, .long b, .null, .long a, .null, .long b, .null, .int 0, .null, .null], [], m)) rfl ?_
  exact lp_comm m a b 100 0 a b rfl h
set_option maxRecDepth 20000 in
theorem sX3_tell {d : Nat} (m : dx_M) {u l : Int} (ht : tlP u l) {Z : Option Value → dx_M → Prop} (h : Z (some (.int 1)) (dx_pL (dx_pL m 0 9 (tU u l)) 0 10 (tL u l))) : dx_Sem dx_P lx_X (d + 2) 71 [.ref 0, .long (lZ u), .long (lZ l)] m Z := by
  have g0 := gN_pos (u := u) ht.2.2.1
  have g1 := gN_le (u := u) ht.2.2.1
  have g2 := ht.2.2.2
  have gn : ¬ lZ (gN u l) = 0 := lZ_n0 (by omega) (by omega)
  refine dx_sem km_X3_tell rfl rfl ?_
  refine dx_blk 0 (c' := (0, [.ref 0, .long (lZ u), .null, .long (lZ l), .null, .null, .null], [], m)) rfl ?_
  refine dx_blk 1 (c' := (1, [.ref 0, .long (lZ u), .null, .long (lZ l), .null, .null, .null], [.long (lZ u)], m)) rfl ?_
  refine dx_copy (c' := (4, [.ref 0, .long (lZ u), .null, .long (lZ l), .null, .null, .null], [.long (if 0 < (lZ u) then (lZ u) else -(lZ u))], m)) rfl ?_
  refine dx_blk 1 (c' := (5, [.ref 0, .long (lZ u), .null, .long (lZ l), .null, .null, .null], [.long (lZ l), .long (if 0 < (lZ u) then (lZ u) else -(lZ u))], m)) rfl ?_
  refine dx_call (id := 72) (as := [.long (if 0 < (lZ u) then (lZ u) else -(lZ u)), .long (lZ l)]) (rest := []) rfl ?_
  refine sX3_commonDivisor _ _ _ ?_
  rw [abs_X ht.1 ht.2.1, (eu_gN ht).2]
  refine dx_blk 0 (c' := (8, [.ref 0, .long (lZ u), .null, .long (lZ l), .null, .null, .null], [.long (lZ (gN u l))], m)) rfl ?_
  refine dx_blk 4 (c' := (14, [.ref 0, .long (lZ u), .null, .long (lZ l), .null, .long (lZ (gN u l)), .null], [.int (lg_cmp (lZ (gN u l)) 0)], m)) rfl ?_
  refine dx_brQ (q := (lg_cmp (lZ (gN u l)) 0) ≤ 0) (a := 33) (b := 17) (L := [.ref 0, .long (lZ u), .null, .long (lZ l), .null, .long (lZ (gN u l)), .null]) (st := []) (m := m) (lc_le _ _) rfl (fun h => absurd h (by rw [fa_le64, lZ_to (by omega) (by omega)]; have e : (0 : Int64).toInt = 0 := rfl; omega)) (fun _ => ?_)
  refine dx_blk 3 (c' := (21, [.ref 0, .long (lZ u), .null, .long (lZ l), .null, .long (lZ (gN u l)), .null], [.long (lZ (gN u l)), .long (lZ u), .ref 0], m)) rfl ?_
  refine dx_step (c' := (22, [.ref 0, .long (lZ u), .null, .long (lZ l), .null, .long (lZ (gN u l)), .null], [.long ((lZ u) / (lZ (gN u l))), .ref 0], m)) (if_pos gn) ?_
  refine dx_blk 4 (c' := (29, [.ref 0, .long (lZ u), .null, .long (lZ l), .null, .long (lZ (gN u l)), .null], [.long (lZ (gN u l)), .long (lZ l), .ref 0], dx_pL m 0 9 ((lZ u) / (lZ (gN u l))))) rfl ?_
  refine dx_step (c' := (30, [.ref 0, .long (lZ u), .null, .long (lZ l), .null, .long (lZ (gN u l)), .null], [.long ((lZ l) / (lZ (gN u l))), .ref 0], dx_pL m 0 9 ((lZ u) / (lZ (gN u l))))) (if_pos gn) ?_
  refine dx_blk 2 (c' := (34, [.ref 0, .long (lZ u), .null, .long (lZ l), .null, .long (lZ (gN u l)), .null], [.int 1], dx_pL (dx_pL m 0 9 ((lZ u) / (lZ (gN u l)))) 0 10 ((lZ l) / (lZ (gN u l))))) rfl ?_
  exact dx_ret (r := some (.int 1)) rfl (by rw [lZ_div ht.1 ht.2.1 (by omega), lZ_div (u := l) (by omega) (by omega) (by omega)]; exact h)
set_option maxRecDepth 20000 in
theorem lp_gcd {lay : List dx_Cell} {d : Nat} {Z : Option Value → dx_M → Prop} (m : dx_M) (a0 b0 : Int64) : ∀ (k : Nat) (a b : Int64), euT k a b → Z (some (.long (eu k a b))) m → dx_Go d (dx_Sem dx_P lay d) lay km_X4_gcd Z (17, [.long a0, .null, .long b0, .null, .long a, .null, .long b, .null, .null, .null], [], m) := by
  intro k
  induction k with
  | zero =>
    intro a b ht h
    obtain rfl : b = 0 := ht
    refine dx_blk 0 (c' := (17, [.long a0, .null, .long b0, .null, .long a, .null, .long 0, .null, .null, .null], [], m)) rfl ?_
    refine dx_blk 3 (c' := (21, [.long a0, .null, .long b0, .null, .long a, .null, .long 0, .null, .null, .null], [.int (lg_cmp 0 0)], m)) rfl ?_
    refine dx_brQ (q := (lg_cmp 0 0) = 0) (a := 42) (b := 24) (L := [.long a0, .null, .long b0, .null, .long a, .null, .long 0, .null, .null, .null]) (st := []) (m := m) (lc_eq _ _) rfl (fun _ => ?_) (fun h => absurd rfl h)
    refine dx_blk 1 (c' := (44, [.long a0, .null, .long b0, .null, .long a, .null, .long 0, .null, .null, .null], [.long a], m)) rfl ?_
    exact dx_ret (r := some (.long a)) rfl h
  | succ k ih =>
    intro a b ht h
    refine dx_blk 0 (c' := (17, [.long a0, .null, .long b0, .null, .long a, .null, .long b, .null, .null, .null], [], m)) rfl ?_
    refine dx_blk 3 (c' := (21, [.long a0, .null, .long b0, .null, .long a, .null, .long b, .null, .null, .null], [.int (lg_cmp b 0)], m)) rfl ?_
    refine dx_brQ (q := (lg_cmp b 0) = 0) (a := 42) (b := 24) (L := [.long a0, .null, .long b0, .null, .long a, .null, .long b, .null, .null, .null]) (st := []) (m := m) (lc_eq _ _) rfl (fun h21 => ?_) (fun h21 => ?_)
    · refine dx_blk 1 (c' := (44, [.long a0, .null, .long b0, .null, .long a, .null, .long b, .null, .null, .null], [.long a], m)) rfl ?_
      exact dx_ret (r := some (.long a)) rfl (by rw [h21, eu_0] at h; exact h)
    · refine dx_blk 2 (c' := (28, [.long a0, .null, .long b0, .null, .long a, .null, .long b, .null, .null, .null], [.long b, .long a], m)) rfl ?_
      refine dx_step (c' := (29, [.long a0, .null, .long b0, .null, .long a, .null, .long b, .null, .null, .null], [.long (a - a / b * b)], m)) (if_pos h21) ?_
      refine dx_blk 6 (c' := (17, [.long a0, .null, .long b0, .null, .long b, .null, .long (a - a / b * b), .null, .long (a - a / b * b), .null], [], m)) rfl ?_
      refine dx_fgt [.long a0, .null, .long b0, .null, .long b, .null, .long (a - a / b * b), .null, .null, .null] (And.intro (Or.inr rfl) (And.intro (Or.inl rfl) (And.intro (Or.inr rfl) (And.intro (Or.inl rfl) (And.intro (Or.inr rfl) (And.intro (Or.inl rfl) (And.intro (Or.inr rfl) (And.intro (Or.inl rfl) (And.intro (Or.inl rfl) (And.intro (Or.inl rfl) trivial)))))))))) ?_
      exact ih _ _ (ht.resolve_left h21) (by rw [eu_s h21] at h; exact h)
set_option maxRecDepth 20000 in
theorem sX4_gcd {lay : List dx_Cell} {d : Nat} {u l : Int} (ht : tlP u l) (m : dx_M) {Z : Option Value → dx_M → Prop} (h : Z (some (.long (lZ (gN u l)))) m) : dx_Sem dx_P lay (d + 1) 86 [.long (lZ u), .long (lZ l)] m Z := by
  refine dx_sem km_X4_gcd rfl rfl ?_
  refine dx_blk 0 (c' := (0, [.long (lZ u), .null, .long (lZ l), .null, .null, .null, .null, .null, .null, .null], [], m)) rfl ?_
  refine dx_blk 3 (c' := (3, [.long (lZ u), .null, .long (lZ l), .null, .null, .null, .null, .null, .null, .null], [.int (lg_cmp (lZ u) 0)], m)) rfl ?_
  refine dx_brQ (q := 0 ≤ (lg_cmp (lZ u) 0)) (a := 11) (b := 6) (L := [.long (lZ u), .null, .long (lZ l), .null, .null, .null, .null, .null, .null, .null]) (st := []) (m := m) (lc_ge _ _) rfl (fun h3 => ?_) (fun h3 => ?_)
  · refine dx_blk 4 (c' := (17, [.long (lZ u), .null, .long (lZ l), .null, .long (lZ u), .null, .long (lZ l), .null, .null, .null], [], m)) rfl ?_
    rw [show lZ u = lZ u.natAbs from ?_]
    · exact lp_gcd m _ _ 100 _ _ (eu_gN ht).1 (by rw [(eu_gN ht).2]; exact h)
    · rw [← abs_X ht.1 ht.2.1]
      rw [fa_le64] at h3
      have e : (0 : Int64).toInt = 0 := rfl
      have e2 := lZ_to (z := u) (by have := ht.1; omega) (by have := ht.2.1; omega)
      first | rw [if_pos (by rw [fa_lt64]; omega)] | (by_cases q : 0 < lZ u <;> first | rw [if_pos q] | (rw [if_neg q]; rw [fa_lt64] at q; first | omega | (have u0 : u = 0 := by omega); subst u0; rfl)) | rw [if_neg (by rw [fa_lt64]; omega)]
  · refine dx_blk 6 (c' := (17, [.long (lZ u), .null, .long (lZ l), .null, .long (-(lZ u)), .null, .long (lZ l), .null, .null, .null], [], m)) rfl ?_
    rw [show -(lZ u) = lZ u.natAbs from ?_]
    · exact lp_gcd m _ _ 100 _ _ (eu_gN ht).1 (by rw [(eu_gN ht).2]; exact h)
    · rw [← abs_X ht.1 ht.2.1]
      rw [fa_le64] at h3
      have e : (0 : Int64).toInt = 0 := rfl
      have e2 := lZ_to (z := u) (by have := ht.1; omega) (by have := ht.2.1; omega)
      first | rw [if_pos (by rw [fa_lt64]; omega)] | (by_cases q : 0 < lZ u <;> first | rw [if_pos q] | (rw [if_neg q]; rw [fa_lt64] at q; first | omega | (have u0 : u = 0 := by omega); subst u0; rfl)) | rw [if_neg (by rw [fa_lt64]; omega)]
set_option maxRecDepth 20000 in
theorem sX4_tells {d : Nat} (m : dx_M) {u l : Int} (ht : tlP u l) {Z : Option Value → dx_M → Prop} (h : Z (some (.int 1)) (dx_pL (dx_pL m 0 2 (tU u l)) 0 3 (tL u l))) : dx_Sem dx_P lx_M (d + 2) 87 [.ref 0, .long (lZ u), .long (lZ l)] m Z := by
  have g0 := gN_pos (u := u) ht.2.2.1
  have g1 := gN_le (u := u) ht.2.2.1
  have g2 := ht.2.2.2
  have gn : ¬ lZ (gN u l) = 0 := lZ_n0 (by omega) (by omega)
  refine dx_sem km_X4_tells rfl rfl ?_
  refine dx_blk 0 (c' := (0, [.ref 0, .long (lZ u), .null, .long (lZ l), .null, .null, .null], [], m)) rfl ?_
  refine dx_blk 2 (c' := (2, [.ref 0, .long (lZ u), .null, .long (lZ l), .null, .null, .null], [.long (lZ l), .long (lZ u)], m)) rfl ?_
  refine dx_call (id := 86) (as := [.long (lZ u), .long (lZ l)]) (rest := []) rfl ?_
  refine sX4_gcd ht _ ?_
  refine dx_blk 0 (c' := (5, [.ref 0, .long (lZ u), .null, .long (lZ l), .null, .null, .null], [.long (lZ (gN u l))], m)) rfl ?_
  refine dx_blk 4 (c' := (11, [.ref 0, .long (lZ u), .null, .long (lZ l), .null, .long (lZ (gN u l)), .null], [.long (lZ (gN u l)), .long (lZ u), .ref 0], m)) rfl ?_
  refine dx_step (c' := (12, [.ref 0, .long (lZ u), .null, .long (lZ l), .null, .long (lZ (gN u l)), .null], [.long ((lZ u) / (lZ (gN u l))), .ref 0], m)) (if_pos gn) ?_
  refine dx_blk 4 (c' := (19, [.ref 0, .long (lZ u), .null, .long (lZ l), .null, .long (lZ (gN u l)), .null], [.long (lZ (gN u l)), .long (lZ l), .ref 0], dx_pL m 0 2 ((lZ u) / (lZ (gN u l))))) rfl ?_
  refine dx_step (c' := (20, [.ref 0, .long (lZ u), .null, .long (lZ l), .null, .long (lZ (gN u l)), .null], [.long ((lZ l) / (lZ (gN u l))), .ref 0], dx_pL m 0 2 ((lZ u) / (lZ (gN u l))))) (if_pos gn) ?_
  refine dx_blk 2 (c' := (24, [.ref 0, .long (lZ u), .null, .long (lZ l), .null, .long (lZ (gN u l)), .null], [.int 1], dx_pL (dx_pL m 0 2 ((lZ u) / (lZ (gN u l)))) 0 3 ((lZ l) / (lZ (gN u l))))) rfl ?_
  exact dx_ret (r := some (.int 1)) rfl (by rw [lZ_div ht.1 ht.2.1 (by omega), lZ_div (u := l) (by omega) (by omega) (by omega)]; exact h)
