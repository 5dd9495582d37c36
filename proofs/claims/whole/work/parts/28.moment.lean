/-! long numbers as integers; moments, the line (printed by wip/whole/g28.py) -/
def lZ (z : Int) : Int64 := Int64.ofInt z
theorem lZ_add (a b : Int) : lZ a + lZ b = lZ (a + b) := (Int64.ofInt_add a b).symm
theorem lZ_sub (a b : Int) : lZ a - lZ b = lZ (a - b) := (Int64.ofInt_sub a b).symm
theorem lZ_mul (a b : Int) : lZ a * lZ b = lZ (a * b) := (Int64.ofInt_mul a b).symm
theorem lZ_neg (a : Int) : -lZ a = lZ (-a) := (Int64.ofInt_neg a).symm
theorem lZ_to {z : Int} (h1 : -9223372036854775808 ≤ z) (h2 : z < 9223372036854775808) : (lZ z).toInt = z := by
  unfold lZ
  rw [Int64.toInt_ofInt]
  exact fb_bmodL h1 h2
theorem lZ_of (x : Int64) : lZ x.toInt = x := Int64.ofInt_toInt x
theorem lZ_I (x : Int32) : x.toInt64 = lZ x.toInt := by
  rw [← lZ_of x.toInt64, Int32.toInt_toInt64]
theorem lZ_n {n : Nat} (h : n < 2 ^ 31) : (nI n).toInt64 = lZ n := by rw [lZ_I, nI_toInt h]
theorem lZ_lit (n : Nat) : (OfNat.ofNat n : Int64) = lZ n := by
  show Int64.ofNat n = Int64.ofInt n
  rfl
theorem lZ_inj {a b : Int} (h1 : -9223372036854775808 ≤ a) (h2 : a < 9223372036854775808) (h3 : -9223372036854775808 ≤ b) (h4 : b < 9223372036854775808) : lZ a = lZ b ↔ a = b := by
  rw [fa_eq64, lZ_to h1 h2, lZ_to h3 h4]
theorem lZ_lt {a b : Int} (h1 : -9223372036854775808 ≤ a) (h2 : a < 9223372036854775808) (h3 : -9223372036854775808 ≤ b) (h4 : b < 9223372036854775808) : lZ a < lZ b ↔ a < b := by
  rw [fa_lt64, lZ_to h1 h2, lZ_to h3 h4]
theorem sub_I {a b : Nat} (ha : a < 2 ^ 30) (hb : b < 2 ^ 30) : (nI a - nI b).toInt64 = lZ ((a : Int) - b) := by
  rw [lZ_I, pk_sub_toInt (by omega) (by omega)]
/-- the firm places of row y with water up to row r -/
noncomputable def fmB (op : Nat → Nat → Bool) (w r y x : Nat) : Bool := !wetB op w r y x
noncomputable def sXN (op : Nat → Nat → Bool) (w r : Nat) : Nat := fb_sm (fun y => hvS (fmB op w r y) w) r
noncomputable def rXN (op : Nat → Nat → Bool) (w r : Nat) : Nat := hvS (fmB op w r r) w
noncomputable def sYN (op : Nat → Nat → Bool) (w r : Nat) : Nat := fb_sm (fun y => fb_ct (fmB op w r y) w * (2 * y + 1)) r
def thZ (p : Nat → Bool) (w : Nat) : Nat := thS p w
/-- the line's breadth in row r -/
noncomputable def bUZ (op : Nat → Nat → Bool) (w r : Nat) : Int := 4 * (fA op w r : Int) * thS (fmB op w r r) w - 3 * rXN op w r * rXN op w r
noncomputable def bLZ (op : Nat → Nat → Bool) (w r : Nat) : Int := if fA op w r = 0 then 1 else 12 * (fA op w r : Int)
theorem hvS_le {p : Nat → Bool} {w : Nat} (hw : w ≤ 12) : hvS p w ≤ 300 := by
  have h := fb_sm_bound (f := fun x => if p x = true then 2 * x + 1 else 0) (c := 25) (n := w) (fun k hk => by by_cases q : p k = true <;> simp [q] <;> omega)
  unfold hvS
  omega
theorem thS_le {p : Nat → Bool} {w : Nat} (hw : w ≤ 12) : thS p w ≤ 6000 := by
  have h := fb_sm_bound (f := fun x => if p x = true then 3 * x * x + 3 * x + 1 else 0) (c := 500) (n := w) (fun k hk => by
    have h1 : 3 * k * k ≤ 3 * 12 * 12 := Nat.mul_le_mul (Nat.mul_le_mul_left 3 (by omega)) (by omega)
    by_cases q : p k = true <;> simp [q] <;> omega)
  unfold thS
  omega
theorem LF_hv {op : Nat → Nat → Bool} {w h r : Nat} {m : dx_M} (hl : LF m op w h r) {y : Nat} (hy : y ≤ r) : (nf (st_hv (fmI (m.1 3 2) (m.1 5 y))) w 0).toInt64 = lZ (hvS (fmB op w r y) w) := by
  have a2 := hl.1.2.1
  rw [LF_wet hl hy, hv_IM a2 w (Nat.le_refl w)]
  have := hvS_le (p := fun x => !wetB op w r y x) a2
  exact lZ_n (by omega)
theorem mA_ok {op : Nat → Nat → Bool} {w h r : Nat} {m : dx_M} (hl : LF m op w h r) : ∀ n, n ≤ r → nf (fun y s => s + (nf (st_hv (fmI (m.1 3 2) (m.1 5 y))) w 0).toInt64) n 0 = lZ (fb_sm (fun y => hvS (fmB op w r y) w) n)
  | 0, _ => rfl
  | n + 1, hn => by
    rw [nf_succ, mA_ok hl n (by omega)]
    try dsimp only
    rw [LF_hv hl (by omega), lZ_add, fb_sm_succ]
    rfl
theorem ct_I {p : Nat → Bool} {w y : Nat} (hw : w ≤ 12) (hy : y < 12) : (bcI (IM p w) * (2 * nI y + 1)).toInt64 = lZ (fb_ct p w * (2 * y + 1) : Nat) := by
  rw [bc_IM hw, show (2 : Int32) * nI y + 1 = nI (2 * y + 1) by rw [show (2 : Int32) = nI 2 from rfl, pk_mul, nI_1], pk_mul]
  have h1 := fb_ct_le p w
  have h2 : fb_ct p w * (2 * y + 1) ≤ 12 * 25 := Nat.mul_le_mul (by omega) (by omega)
  exact lZ_n (by omega)
theorem mU_ok {op : Nat → Nat → Bool} {w h r : Nat} {m : dx_M} (hl : LF m op w h r) : ∀ n, n ≤ r → nf (fun y s => s + (bcI (fmI (m.1 3 2) (m.1 5 y)) * (2 * nI y + 1)).toInt64) n 0 = lZ (fb_sm (fun y => fb_ct (fmB op w r y) w * (2 * y + 1)) n)
  | 0, _ => rfl
  | n + 1, hn => by
    have a := hl.1
    rw [nf_succ, mU_ok hl n (by omega)]
    try dsimp only
    rw [LF_wet hl (by omega), ct_I a.2.1 (by have := a.2.2.1; have := a.2.2.2.1; omega), lZ_add, fb_sm_succ]
    rfl
theorem th_ok {p : Nat → Bool} {w : Nat} (hw : w ≤ 12) : ∀ n, n ≤ w → nf (fun x s => s + ((IM p w >>> (nI x &&& 31) &&& 1) * (3 * nI x * nI x + 3 * nI x + 1)).toInt64) n 0 = lZ (thS p n)
  | 0, _ => rfl
  | n + 1, hn => by
    rw [nf_succ, th_ok hw n (by omega)]
    try dsimp only
    have e : (3 : Int32) * nI n * nI n + 3 * nI n + 1 = nI (3 * n * n + 3 * n + 1) := by rw [show (3 : Int32) = nI 3 from rfl, pk_mul, pk_mul, nI_add, nI_1]
    have h1 : 3 * n * n ≤ 3 * 12 * 12 := Nat.mul_le_mul (Nat.mul_le_mul_left 3 (by omega)) (by omega)
    rw [bit_IM hw (by omega), e, bI_mul, lZ_n (by by_cases q : p n = true <;> simp [q] <;> omega), lZ_add]
    rfl
set_option maxRecDepth 20000 in
theorem sX1_momentAcross {d : Nat} (m : dx_M) {Z : Option Value → dx_M → Prop} {op : Nat → Nat → Bool} {w h r : Nat} (hl : LF m op w h r) {p Q : Int} (e7 : m.2 3 7 = lZ p) (e8 : m.2 3 8 = lZ Q) (h1 : Z (some (.long (lZ (sXN op w r * Q + rXN op w r * p)))) m) : dx_Sem dx_P lx_X (d + 2) 20 [.ref 3] m Z := by
  obtain ⟨a1, a2, a3, a4, a5, a6, a7, a8, a9⟩ := id hl.1
  have er : m.1 3 4 = nI r := LF_row hl
  have hw : w ≤ 12 := a2
  have ew : m.1 3 2 = nI w := a5
  refine dx_sem km_X1_momentAcross rfl rfl ?_
  refine dx_blk 0 (c' := (0, [.ref 3, .null, .null, .null, .null], [], m)) rfl ?_
  refine dx_blk 4 (c' := (4, [.ref 3, .long 0, .null, .int 0, .null], [], m)) rfl ?_
  refine dx_blk 0 (c' := (4, [.ref 3, .long 0, .null, .int (nI 0), .null], [], m)) rfl ?_
  refine dx_for (fun (y : Nat) (s : Int64) => ((4, [.ref 3, .long s, .null, .int (nI y), .null], [], m) : dx_F)) (fun (y : Nat) (s : Int64) => s + (nf (st_hv (fmI (m.1 3 2) (m.1 5 y))) w 0).toInt64) (fun _ _ => True) r 0 trivial (fun y s hi hI hk => ?_) (fun _ _ _ _ => trivial) (fun hN => ?_)
  · refine dx_blk 0 (c' := (4, [.ref 3, .long s, .null, .int (nI y), .null], [], m)) rfl ?_
    refine dx_blk 3 (c' := (9, [.ref 3, .long s, .null, .int (nI y), .null], [.int (m.1 3 4), .int (nI y)], m)) rfl ?_
    refine dx_br (q := (m.1 3 4) ≤ (nI y)) (a := 31) (b := 12) (L := [.ref 3, .long s, .null, .int (nI y), .null]) (st := []) (m := m) rfl (fun h => absurd h (by rw [er]; exact nI_ge hi (by omega))) (fun _ => ?_)
    refine dx_blk 4 (c' := (16, [.ref 3, .long s, .null, .int (nI y), .null], [.int (nI y), .ref 3, .ref 3, .long s], m)) rfl ?_
    refine dx_call (id := 14) (as := [.ref 3, .int (nI y)]) (rest := [.ref 3, .long s]) rfl ?_
    refine sX1_firm _ (b := y) (by omega) ?_
    refine dx_blk 0 (c' := (19, [.ref 3, .long s, .null, .int (nI y), .null], [.int (fmI (m.1 3 2) (m.1 5 y)), .ref 3, .long s], m)) rfl ?_
    refine dx_call (id := 19) (as := [.ref 3, .int (fmI (m.1 3 2) (m.1 5 y))]) (rest := [.long s]) rfl ?_
    refine sX1_halves _ hw (by first | exact ew | assumption) (fmI (m.1 3 2) (m.1 5 y)) ?_
    refine dx_blk 0 (c' := (22, [.ref 3, .long s, .null, .int (nI y), .null], [.int (nf (st_hv (fmI (m.1 3 2) (m.1 5 y))) w 0), .long s], m)) rfl ?_
    refine dx_blk 5 (c' := (4, [.ref 3, .long (s + ((nf (st_hv (fmI (m.1 3 2) (m.1 5 y))) w 0).toInt64)), .null, .int ((nI y) + 1), .null], [], m)) rfl ?_
    rw [← nI_succ]
    exact hk
  · refine dx_blk 0 (c' := (4, [.ref 3, .long (nf (fun (y : Nat) (s : Int64) => s + (nf (st_hv (fmI (m.1 3 2) (m.1 5 y))) w 0).toInt64) r 0), .null, .int (nI r), .null], [], m)) rfl ?_
    refine dx_blk 3 (c' := (9, [.ref 3, .long (nf (fun (y : Nat) (s : Int64) => s + (nf (st_hv (fmI (m.1 3 2) (m.1 5 y))) w 0).toInt64) r 0), .null, .int (nI r), .null], [.int (m.1 3 4), .int (nI r)], m)) rfl ?_
    refine dx_br (q := (m.1 3 4) ≤ (nI r)) (a := 31) (b := 12) (L := [.ref 3, .long (nf (fun (y : Nat) (s : Int64) => s + (nf (st_hv (fmI (m.1 3 2) (m.1 5 y))) w 0).toInt64) r 0), .null, .int (nI r), .null]) (st := []) (m := m) rfl (fun _ => ?_) (fun h => absurd (by rw [er]; exact nI_le (Nat.le_refl _) (by omega)) h)
    refine dx_blk 2 (c' := (35, [.ref 3, .long (nf (fun (y : Nat) (s : Int64) => s + (nf (st_hv (fmI (m.1 3 2) (m.1 5 y))) w 0).toInt64) r 0), .null, .int (nI r), .null], [.int (m.1 3 4)], m)) rfl ?_
    refine dx_br (q := 0 ≤ (m.1 3 4)) (a := 42) (b := 38) (L := [.ref 3, .long (nf (fun (y : Nat) (s : Int64) => s + (nf (st_hv (fmI (m.1 3 2) (m.1 5 y))) w 0).toInt64) r 0), .null, .int (nI r), .null]) (st := []) (m := m) rfl (fun _ => ?_) (fun h => absurd (by rw [er]; exact nI_pos' (by omega)) h)
    refine dx_blk 4 (c' := (48, [.ref 3, .long (nf (fun (y : Nat) (s : Int64) => s + (nf (st_hv (fmI (m.1 3 2) (m.1 5 y))) w 0).toInt64) r 0), .null, .int (nI r), .null], [.int (m.1 3 4), .ref 3, .ref 3], m)) rfl ?_
    refine dx_call (id := 14) (as := [.ref 3, .int (m.1 3 4)]) (rest := [.ref 3]) rfl ?_
    rw [er]
    refine sX1_firm _ (b := r) (by omega) ?_
    refine dx_blk 0 (c' := (51, [.ref 3, .long (nf (fun (y : Nat) (s : Int64) => s + (nf (st_hv (fmI (m.1 3 2) (m.1 5 y))) w 0).toInt64) r 0), .null, .int (nI r), .null], [.int (fmI (m.1 3 2) (m.1 5 r)), .ref 3], m)) rfl ?_
    refine dx_call (id := 19) (as := [.ref 3, .int (fmI (m.1 3 2) (m.1 5 r))]) (rest := []) rfl ?_
    refine sX1_halves _ hw (by first | exact ew | assumption) (fmI (m.1 3 2) (m.1 5 r)) ?_
    refine dx_blk 0 (c' := (54, [.ref 3, .long (nf (fun (y : Nat) (s : Int64) => s + (nf (st_hv (fmI (m.1 3 2) (m.1 5 y))) w 0).toInt64) r 0), .null, .int (nI r), .null], [.int (nf (st_hv (fmI (m.1 3 2) (m.1 5 r))) w 0)], m)) rfl ?_
    refine dx_blk 11 (c' := (69, [.ref 3, .long (nf (fun (y : Nat) (s : Int64) => s + (nf (st_hv (fmI (m.1 3 2) (m.1 5 y))) w 0).toInt64) r 0), .null, .long ((nf (st_hv (fmI (m.1 3 2) (m.1 5 r))) w 0).toInt64), .null], [.long (((nf (fun (y : Nat) (s : Int64) => s + (nf (st_hv (fmI (m.1 3 2) (m.1 5 y))) w 0).toInt64) r 0) * (m.2 3 8)) + (((nf (st_hv (fmI (m.1 3 2) (m.1 5 r))) w 0).toInt64) * (m.2 3 7)))], m)) rfl ?_
    exact dx_ret (r := some (.long (((nf (fun (y : Nat) (s : Int64) => s + (nf (st_hv (fmI (m.1 3 2) (m.1 5 y))) w 0).toInt64) r 0) * (m.2 3 8)) + (((nf (st_hv (fmI (m.1 3 2) (m.1 5 r))) w 0).toInt64) * (m.2 3 7))))) rfl (by rw [mA_ok hl r (Nat.le_refl r), LF_hv hl (Nat.le_refl r), e7, e8, lZ_mul, lZ_mul, lZ_add]; exact h1)
set_option maxRecDepth 20000 in
theorem sX1_momentUp {d : Nat} (m : dx_M) {Z : Option Value → dx_M → Prop} {op : Nat → Nat → Bool} {w h r : Nat} (hl : LF m op w h r) {p Q : Int} (e7 : m.2 3 7 = lZ p) (e8 : m.2 3 8 = lZ Q) (h1 : Z (some (.long (lZ (sYN op w r * Q * Q + fA op w r * p * ((2 * r : Nat) * Q + p))))) m) : dx_Sem dx_P lx_X (d + 2) 21 [.ref 3] m Z := by
  obtain ⟨a1, a2, a3, a4, a5, a6, a7, a8, a9⟩ := id hl.1
  have er : m.1 3 4 = nI r := LF_row hl
  have hw : w ≤ 12 := a2
  have ew : m.1 3 2 = nI w := a5
  refine dx_sem km_X1_momentUp rfl rfl ?_
  refine dx_blk 0 (c' := (0, [.ref 3, .null, .null, .null], [], m)) rfl ?_
  refine dx_blk 4 (c' := (4, [.ref 3, .long 0, .null, .int 0], [], m)) rfl ?_
  refine dx_blk 0 (c' := (4, [.ref 3, .long 0, .null, .int (nI 0)], [], m)) rfl ?_
  refine dx_for (fun (y : Nat) (s : Int64) => ((4, [.ref 3, .long s, .null, .int (nI y)], [], m) : dx_F)) (fun (y : Nat) (s : Int64) => s + (bcI (fmI (m.1 3 2) (m.1 5 y)) * (2 * nI y + 1)).toInt64) (fun _ _ => True) r 0 trivial (fun y s hi hI hk => ?_) (fun _ _ _ _ => trivial) (fun hN => ?_)
  · refine dx_blk 0 (c' := (4, [.ref 3, .long s, .null, .int (nI y)], [], m)) rfl ?_
    refine dx_blk 3 (c' := (9, [.ref 3, .long s, .null, .int (nI y)], [.int (m.1 3 4), .int (nI y)], m)) rfl ?_
    refine dx_br (q := (m.1 3 4) ≤ (nI y)) (a := 36) (b := 12) (L := [.ref 3, .long s, .null, .int (nI y)]) (st := []) (m := m) rfl (fun h => absurd h (by rw [er]; exact nI_ge hi (by omega))) (fun _ => ?_)
    refine dx_blk 3 (c' := (15, [.ref 3, .long s, .null, .int (nI y)], [.int (nI y), .ref 3, .long s], m)) rfl ?_
    refine dx_call (id := 14) (as := [.ref 3, .int (nI y)]) (rest := [.long s]) rfl ?_
    refine sX1_firm _ (b := y) (by omega) ?_
    refine dx_blk 0 (c' := (18, [.ref 3, .long s, .null, .int (nI y)], [.int (fmI (m.1 3 2) (m.1 5 y)), .long s], m)) rfl ?_
    refine dx_call (id := 143) (as := [.int (fmI (m.1 3 2) (m.1 5 y))]) (rest := [.long s]) rfl ?_
    refine sJ6_bitCount (fmI (m.1 3 2) (m.1 5 y)) _ ?_
    refine dx_blk 0 (c' := (21, [.ref 3, .long s, .null, .int (nI y)], [.int (bcI (fmI (m.1 3 2) (m.1 5 y))), .long s], m)) rfl ?_
    refine dx_blk 11 (c' := (4, [.ref 3, .long (s + (((bcI (fmI (m.1 3 2) (m.1 5 y))) * ((2 * (nI y)) + 1)).toInt64)), .null, .int ((nI y) + 1)], [], m)) rfl ?_
    rw [← nI_succ]
    exact hk
  · refine dx_blk 0 (c' := (4, [.ref 3, .long (nf (fun (y : Nat) (s : Int64) => s + (bcI (fmI (m.1 3 2) (m.1 5 y)) * (2 * nI y + 1)).toInt64) r 0), .null, .int (nI r)], [], m)) rfl ?_
    refine dx_blk 3 (c' := (9, [.ref 3, .long (nf (fun (y : Nat) (s : Int64) => s + (bcI (fmI (m.1 3 2) (m.1 5 y)) * (2 * nI y + 1)).toInt64) r 0), .null, .int (nI r)], [.int (m.1 3 4), .int (nI r)], m)) rfl ?_
    refine dx_br (q := (m.1 3 4) ≤ (nI r)) (a := 36) (b := 12) (L := [.ref 3, .long (nf (fun (y : Nat) (s : Int64) => s + (bcI (fmI (m.1 3 2) (m.1 5 y)) * (2 * nI y + 1)).toInt64) r 0), .null, .int (nI r)]) (st := []) (m := m) rfl (fun _ => ?_) (fun h => absurd (by rw [er]; exact nI_le (Nat.le_refl _) (by omega)) h)
    refine dx_blk 26 (c' := (76, [.ref 3, .long (nf (fun (y : Nat) (s : Int64) => s + (bcI (fmI (m.1 3 2) (m.1 5 y)) * (2 * nI y + 1)).toInt64) r 0), .null, .int (nI r)], [.long ((((nf (fun (y : Nat) (s : Int64) => s + (bcI (fmI (m.1 3 2) (m.1 5 y)) * (2 * nI y + 1)).toInt64) r 0) * (m.2 3 8)) * (m.2 3 8)) + ((((m.1 3 6).toInt64) * (m.2 3 7)) * ((((2 * (m.1 3 4)).toInt64) * (m.2 3 8)) + (m.2 3 7))))], m)) rfl ?_
    exact dx_ret (r := some (.long ((((nf (fun (y : Nat) (s : Int64) => s + (bcI (fmI (m.1 3 2) (m.1 5 y)) * (2 * nI y + 1)).toInt64) r 0) * (m.2 3 8)) * (m.2 3 8)) + ((((m.1 3 6).toInt64) * (m.2 3 7)) * ((((2 * (m.1 3 4)).toInt64) * (m.2 3 8)) + (m.2 3 7)))))) rfl (by rw [mU_ok hl r (Nat.le_refl r), er, hl.2.2, lZ_n (by have := fA_le op r hw; omega), show (2 : Int32) * nI r = nI (2 * r) from pk_mul 2 r, lZ_n (by omega), e7, e8, lZ_mul, lZ_mul, lZ_mul, lZ_mul, lZ_add, lZ_mul, lZ_add]; exact h1)
set_option maxRecDepth 20000 in
theorem sX1_measureRow {d : Nat} (m : dx_M) {Z : Option Value → dx_M → Prop} {op : Nat → Nat → Bool} {w h r : Nat} (hl : LF m op w h r) (h1 : Z none (dx_pL (dx_pL m 3 9 (lZ (bUZ op w r))) 3 10 (lZ (bLZ op w r)))) : dx_Sem dx_P lx_X (d + 2) 23 [.ref 3] m Z := by
  obtain ⟨a1, a2, a3, a4, a5, a6, a7, a8, a9⟩ := id hl.1
  have er : m.1 3 4 = nI r := LF_row hl
  have hw : w ≤ 12 := a2
  have ew : m.1 3 2 = nI w := a5
  refine dx_sem km_X1_measureRow rfl rfl ?_
  refine dx_blk 0 (c' := (0, [.ref 3, .null, .null, .null, .null, .null, .null, .null], [], m)) rfl ?_
  refine dx_blk 2 (c' := (4, [.ref 3, .null, .null, .null, .null, .null, .null, .null], [.int (m.1 3 4)], m)) rfl ?_
  refine dx_br (q := 0 ≤ (m.1 3 4)) (a := 11) (b := 7) (L := [.ref 3, .null, .null, .null, .null, .null, .null, .null]) (st := []) (m := m) rfl (fun _ => ?_) (fun h => absurd (by rw [er]; exact nI_pos' (by omega)) h)
  refine dx_blk 3 (c' := (16, [.ref 3, .null, .null, .null, .null, .null, .null, .null], [.int (m.1 3 4), .ref 3], m)) rfl ?_
  refine dx_call (id := 14) (as := [.ref 3, .int (m.1 3 4)]) (rest := []) rfl ?_
  rw [er]
  refine sX1_firm _ (b := r) (by omega) ?_
  rw [LF_wet hl (Nat.le_refl r)]
  refine dx_blk 0 (c' := (19, [.ref 3, .null, .null, .null, .null, .null, .null, .null], [.int (IM (fmB op w r r) w)], m)) rfl ?_
  refine dx_blk 2 (c' := (21, [.ref 3, .int (IM (fmB op w r r) w), .null, .null, .null, .null, .null, .null], [.int (IM (fmB op w r r) w)], m)) rfl ?_
  refine dx_call (id := 143) (as := [.int (IM (fmB op w r r) w)]) (rest := []) rfl ?_
  refine sJ6_bitCount (IM (fmB op w r r) w) _ ?_
  refine dx_blk 0 (c' := (24, [.ref 3, .int (IM (fmB op w r r) w), .null, .null, .null, .null, .null, .null], [.int (bcI (IM (fmB op w r r) w))], m)) rfl ?_
  refine dx_blk 6 (c' := (32, [.ref 3, .int (IM (fmB op w r r) w), .long ((bcI (IM (fmB op w r r) w)).toInt64), .null, .long 0, .null, .int 0, .null], [], m)) rfl ?_
  rw [show bcI (IM (fmB op w r r) w) = nI (fA op w r) from bc_IM hw, lZ_n (by have := fA_le op r hw; omega)]
  refine dx_blk 0 (c' := (32, [.ref 3, .int (IM (fmB op w r r) w), .long (lZ (fA op w r)), .null, .long 0, .null, .int (nI 0), .null], [], m)) rfl ?_
  refine dx_for (fun (x : Nat) (s : Int64) => ((32, [.ref 3, .int (IM (fmB op w r r) w), .long (lZ (fA op w r)), .null, .long s, .null, .int (nI x), .null], [], m) : dx_F)) (fun (x : Nat) (s : Int64) => s + (((IM (fmB op w r r) w) >>> (nI x &&& 31) &&& 1) * (3 * nI x * nI x + 3 * nI x + 1)).toInt64) (fun _ _ => True) w 0 trivial (fun x s hi hI hk => ?_) (fun _ _ _ _ => trivial) (fun hN => ?_)
  · refine dx_blk 0 (c' := (32, [.ref 3, .int (IM (fmB op w r r) w), .long (lZ (fA op w r)), .null, .long s, .null, .int (nI x), .null], [], m)) rfl ?_
    refine dx_blk 3 (c' := (38, [.ref 3, .int (IM (fmB op w r r) w), .long (lZ (fA op w r)), .null, .long s, .null, .int (nI x), .null], [.int (m.1 3 2), .int (nI x)], m)) rfl ?_
    refine dx_br (q := (m.1 3 2) ≤ (nI x)) (a := 74) (b := 41) (L := [.ref 3, .int (IM (fmB op w r r) w), .long (lZ (fA op w r)), .null, .long s, .null, .int (nI x), .null]) (st := []) (m := m) rfl (fun h => absurd h (by rw [ew]; exact nI_ge hi (by omega))) (fun _ => ?_)
    refine dx_blk 23 (c' := (32, [.ref 3, .int (IM (fmB op w r r) w), .long (lZ (fA op w r)), .null, .long (s + (((((IM (fmB op w r r) w) >>> ((nI x) &&& 31)) &&& 1) * ((((3 * (nI x)) * (nI x)) + (3 * (nI x))) + 1)).toInt64)), .null, .int ((nI x) + 1), .null], [], m)) rfl ?_
    rw [← nI_succ]
    exact hk
  · refine dx_blk 0 (c' := (32, [.ref 3, .int (IM (fmB op w r r) w), .long (lZ (fA op w r)), .null, .long (nf (fun (x : Nat) (s : Int64) => s + (((IM (fmB op w r r) w) >>> (nI x &&& 31) &&& 1) * (3 * nI x * nI x + 3 * nI x + 1)).toInt64) w 0), .null, .int (nI w), .null], [], m)) rfl ?_
    refine dx_blk 3 (c' := (38, [.ref 3, .int (IM (fmB op w r r) w), .long (lZ (fA op w r)), .null, .long (nf (fun (x : Nat) (s : Int64) => s + (((IM (fmB op w r r) w) >>> (nI x &&& 31) &&& 1) * (3 * nI x * nI x + 3 * nI x + 1)).toInt64) w 0), .null, .int (nI w), .null], [.int (m.1 3 2), .int (nI w)], m)) rfl ?_
    refine dx_br (q := (m.1 3 2) ≤ (nI w)) (a := 74) (b := 41) (L := [.ref 3, .int (IM (fmB op w r r) w), .long (lZ (fA op w r)), .null, .long (nf (fun (x : Nat) (s : Int64) => s + (((IM (fmB op w r r) w) >>> (nI x &&& 31) &&& 1) * (3 * nI x * nI x + 3 * nI x + 1)).toInt64) w 0), .null, .int (nI w), .null]) (st := []) (m := m) rfl (fun _ => ?_) (fun h => absurd (by rw [ew]; exact nI_le (Nat.le_refl _) (by omega)) h)
    refine dx_blk 2 (c' := (76, [.ref 3, .int (IM (fmB op w r r) w), .long (lZ (fA op w r)), .null, .long (nf (fun (x : Nat) (s : Int64) => s + (((IM (fmB op w r r) w) >>> (nI x &&& 31) &&& 1) * (3 * nI x * nI x + 3 * nI x + 1)).toInt64) w 0), .null, .int (nI w), .null], [.int (IM (fmB op w r r) w), .ref 3], m)) rfl ?_
    refine dx_call (id := 19) (as := [.ref 3, .int (IM (fmB op w r r) w)]) (rest := []) rfl ?_
    refine sX1_halves _ hw (by first | exact ew | assumption) (IM (fmB op w r r) w) ?_
    rw [hv_IM hw w (Nat.le_refl w)]
    refine dx_blk 0 (c' := (79, [.ref 3, .int (IM (fmB op w r r) w), .long (lZ (fA op w r)), .null, .long (nf (fun (x : Nat) (s : Int64) => s + (((IM (fmB op w r r) w) >>> (nI x &&& 31) &&& 1) * (3 * nI x * nI x + 3 * nI x + 1)).toInt64) w 0), .null, .int (nI w), .null], [.int (nI (rXN op w r))], m)) rfl ?_
    refine dx_blk 15 (c' := (104, [.ref 3, .int (IM (fmB op w r r) w), .long (lZ (fA op w r)), .null, .long (nf (fun (x : Nat) (s : Int64) => s + (((IM (fmB op w r r) w) >>> (nI x &&& 31) &&& 1) * (3 * nI x * nI x + 3 * nI x + 1)).toInt64) w 0), .null, .long ((nI (rXN op w r)).toInt64), .null], [], dx_pL m 3 9 (((4 * (lZ (fA op w r))) * (nf (fun (x : Nat) (s : Int64) => s + (((IM (fmB op w r r) w) >>> (nI x &&& 31) &&& 1) * (3 * nI x * nI x + 3 * nI x + 1)).toInt64) w 0)) - ((3 * ((nI (rXN op w r)).toInt64)) * ((nI (rXN op w r)).toInt64))))) rfl ?_
    refine dx_mem (m' := dx_pL m 3 9 (lZ (bUZ op w r))) (by rw [th_ok hw w (Nat.le_refl w), lZ_n (n := rXN op w r) (by have := hvS_le (p := fmB op w r r) hw; unfold rXN; omega), show (4 : Int64) = lZ 4 from rfl, show (3 : Int64) = lZ 3 from rfl, lZ_mul, lZ_mul, lZ_mul, lZ_mul, lZ_sub]; rfl) ?_
    refine dx_blk 4 (c' := (108, [.ref 3, .int (IM (fmB op w r r) w), .long (lZ (fA op w r)), .null, .long (nf (fun (x : Nat) (s : Int64) => s + (((IM (fmB op w r r) w) >>> (nI x &&& 31) &&& 1) * (3 * nI x * nI x + 3 * nI x + 1)).toInt64) w 0), .null, .long ((nI (rXN op w r)).toInt64), .null], [.int (lg_cmp (lZ (fA op w r)) 0), .ref 3], dx_pL m 3 9 (lZ (bUZ op w r)))) rfl ?_
    refine dx_brQ (q := (lg_cmp (lZ (fA op w r)) 0) = 0) (a := 111) (b := 115) (L := [.ref 3, .int (IM (fmB op w r r) w), .long (lZ (fA op w r)), .null, .long (nf (fun (x : Nat) (s : Int64) => s + (((IM (fmB op w r r) w) >>> (nI x &&& 31) &&& 1) * (3 * nI x * nI x + 3 * nI x + 1)).toInt64) w 0), .null, .long ((nI (rXN op w r)).toInt64), .null]) (st := [.ref 3]) (m := dx_pL m 3 9 (lZ (bUZ op w r))) (lc_eq _ _) rfl (fun q108 => ?_) (fun q108 => ?_)
    · refine dx_blk 3 (c' := (123, [.ref 3, .int (IM (fmB op w r r) w), .long (lZ (fA op w r)), .null, .long (nf (fun (x : Nat) (s : Int64) => s + (((IM (fmB op w r r) w) >>> (nI x &&& 31) &&& 1) * (3 * nI x * nI x + 3 * nI x + 1)).toInt64) w 0), .null, .long ((nI (rXN op w r)).toInt64), .null], [], dx_pL (dx_pL m 3 9 (lZ (bUZ op w r))) 3 10 1)) rfl ?_
      exact dx_ret (r := none) rfl (by
    have q0 : fA op w r = 0 := by
      have := fA_le op r hw
      have e := (lZ_inj (by omega) (by omega) (by decide) (by decide)).mp (show lZ (fA op w r) = lZ 0 from q108)
      omega
    have e : lZ (bLZ op w r) = 1 := by unfold bLZ; rw [if_pos q0]; rfl
    rw [e] at h1; exact h1)
    · refine dx_blk 4 (c' := (123, [.ref 3, .int (IM (fmB op w r r) w), .long (lZ (fA op w r)), .null, .long (nf (fun (x : Nat) (s : Int64) => s + (((IM (fmB op w r r) w) >>> (nI x &&& 31) &&& 1) * (3 * nI x * nI x + 3 * nI x + 1)).toInt64) w 0), .null, .long ((nI (rXN op w r)).toInt64), .null], [], dx_pL (dx_pL m 3 9 (lZ (bUZ op w r))) 3 10 (12 * (lZ (fA op w r))))) rfl ?_
      exact dx_ret (r := none) rfl (by
    have q0 : ¬ fA op w r = 0 := fun e => q108 (by rw [e]; rfl)
    have e : lZ (bLZ op w r) = 12 * lZ (fA op w r) := by unfold bLZ; rw [if_neg q0, show (12 : Int64) = lZ 12 from rfl, lZ_mul]
    rw [e] at h1; exact h1)
