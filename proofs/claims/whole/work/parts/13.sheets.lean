/-! sheets: both programs (printed by wip/whole/g13.py) -/
theorem nI_ix3 (b a c : Nat) : 12 * nI b + nI a + nI c = nI (12 * b + a + c) := by
  rw [nI_ix2, nI_add]
theorem sz_of {x : Int32} {k : Nat} (hk : k ≤ 12) (h : ¬ x < 0) (h2 : x < nI k) : ∃ j : Nat, j < k ∧ x = nI j := by
  obtain ⟨j, hj, rfl⟩ := nI_of h
  exact ⟨j, (nI_ltI hj (by omega)).mp h2, rfl⟩
abbrev szP (v : Int32) : Prop := v = -1 ∨ ∃ z : Nat, z ≤ 12 ∧ v = nI z
theorem szA {v : Int32} (h : szP v) (h2 : ¬ 0 ≤ v) : v = -1 := by
  obtain e | ⟨z, hz, e⟩ := h
  · exact e
  · exact absurd (e ▸ nI_pos' (by omega)) h2
theorem szB {v : Int32} (h : szP v) (h2 : 0 ≤ v) : ∃ z : Nat, z ≤ 12 ∧ v = nI z := by
  obtain e | h := h
  · subst e; exact absurd h2 (by decide)
  · exact h
theorem szC {v : Int32} (h : szP v) (h2 : ¬ v = -1) : ∃ z : Nat, z ≤ 12 ∧ v = nI z := h.elim (fun e => absurd e h2) id
theorem szD {v : Int32} (h : szP v) (h2 : v < 0) : v = -1 := by
  obtain e | ⟨z, hz, e⟩ := h
  · exact e
  · subst e; exact absurd h2 (nI_pos (by omega))
theorem szE {v : Int32} (h : szP v) (h2 : ¬ v < 0) : ∃ z : Nat, z ≤ 12 ∧ v = nI z := by
  obtain e | h := h
  · subst e; exact absurd (by decide) h2
  · exact h
theorem szF {z : Nat} (hz : z ≤ 12) {v : Int32} (e : v = nI z) : ¬ v = -1 := by
  subst e
  intro h
  have h2 := congrArg Int32.toInt h
  rw [nI_toInt (by omega)] at h2
  have e1 : (-1 : Int32).toInt = -1 := rfl
  omega
/-- n bytes from i on are there, of z -/
def rB (z : Nat) (i n : Int32) : Bool := decide (0 ≤ i.toInt ∧ 0 ≤ n.toInt ∧ i.toInt + n.toInt ≤ z)
theorem rB_f1 {z : Nat} {i n : Int32} (h : i < 0) : rB z i n = false := decide_eq_false (fun q => by rw [fa_lt] at h; have e0 : (0 : Int32).toInt = 0 := rfl; omega)
theorem rB_f2 {z : Nat} {i n : Int32} (h : n < 0) : rB z i n = false := decide_eq_false (fun q => by rw [fa_lt] at h; have e0 : (0 : Int32).toInt = 0 := rfl; omega)
theorem rB_f3 {z : Nat} (hz : z ≤ 12) {i n : Int32} (h : nI z < i) : rB z i n = false := decide_eq_false (fun q => by rw [fa_lt, nI_toInt (by omega)] at h; omega)
theorem rB_sub {z : Nat} (hz : z ≤ 12) {i : Int32} (h1 : 0 ≤ i.toInt) (h2 : i.toInt ≤ z) : (nI z - i).toInt = z - i.toInt := by
  rw [fb_subI, nI_toInt (by omega)] <;> rw [nI_toInt (by omega)] <;> omega
theorem rB_f4 {z : Nat} (hz : z ≤ 12) {i n : Int32} (h : nI z - i < n) : rB z i n = false := decide_eq_false (fun q => by rw [fa_lt, rB_sub hz q.1 (by omega)] at h; omega)
theorem rB_t {z : Nat} (hz : z ≤ 12) {i n : Int32} (h1 : ¬ i < 0) (h2 : ¬ n < 0) (h3 : ¬ nI z < i) (h4 : ¬ nI z - i < n) : rB z i n = true := decide_eq_true (by
  have e0 : (0 : Int32).toInt = 0 := rfl
  rw [fa_lt] at h1 h2 h3 h4
  rw [nI_toInt (by omega)] at h3
  rw [rB_sub hz (by omega) (by omega)] at h4
  omega)
theorem rB_w {i n : Int32} (h1 : ¬ i < 0) (h2 : ¬ n < 0) : (i.toInt64 + n.toInt64).toInt = i.toInt + n.toInt := by
  have h3 := fb_rng i
  have h4 := fb_rng n
  rw [fb_addL] <;> rw [Int32.toInt_toInt64, Int32.toInt_toInt64] <;> omega
theorem rB_f5 {z : Nat} (hz : z ≤ 12) {i n : Int32} (h1 : ¬ i < 0) (h2 : ¬ n < 0) (h : (nI z).toInt64 < i.toInt64 + n.toInt64) : rB z i n = false := decide_eq_false (fun q => by
  rw [fa_lt64, rB_w h1 h2, Int32.toInt_toInt64, nI_toInt (by omega)] at h
  omega)
theorem rB_t5 {z : Nat} (hz : z ≤ 12) {i n : Int32} (h1 : ¬ i < 0) (h2 : ¬ n < 0) (h : ¬ (nI z).toInt64 < i.toInt64 + n.toInt64) : rB z i n = true := decide_eq_true (by
  rw [fa_lt64, rB_w h1 h2, Int32.toInt_toInt64, nI_toInt (by omega)] at h
  have e0 : (0 : Int32).toInt = 0 := rfl
  rw [fa_lt] at h1 h2
  omega)
theorem rB_of {z : Nat} {i n : Int32} (hz : z ≤ 12) (h : rB z i n = true) : ∃ j k : Nat, i = nI j ∧ n = nI k ∧ j + k ≤ z := by
  obtain ⟨h1, h2, h3⟩ := of_decide_eq_true h
  have e0 : (0 : Int32).toInt = 0 := rfl
  obtain ⟨j, hj, rfl⟩ := nI_of (x := i) (by rw [fa_lt]; omega)
  obtain ⟨k, hk, rfl⟩ := nI_of (x := n) (by rw [fa_lt]; omega)
  rw [nI_toInt hj, nI_toInt hk] at h3
  exact ⟨j, k, rfl, rfl, by omega⟩
set_option maxRecDepth 20000 in
theorem sX3_sheet {d : Nat} (m : dx_M) (s n : Int32) {Z : Option Value → dx_M → Prop} (h1 : (inI s 0 5 && decide (n ≤ 12)) = false → Z (some (.int (-1))) m) (h2 : inI s 0 5 = true → n ≤ 12 → n < 0 → Z (some (.int (-3))) (fndX m 5)) (h3 : ∀ a k : Nat, a < 6 → k ≤ 12 → s = nI a → n = nI k → Z (some (.int (nI k))) (dx_pI (dx_pR m (20 + a) (fa_fill (fun _ => 0) (m.1 (20 + a)) k)) 8 a (nI k))) : dx_Sem dx_P lx_X (d + 3) 30 [.ref 0, .int s, .int n] m Z := by
  refine dx_sem km_X3_sheet rfl rfl ?_
  refine dx_blk 0 (c' := (0, [.ref 0, .int s, .int n, .null], [], m)) rfl ?_
  refine dx_blk 1 (c' := (1, [.ref 0, .int s, .int n, .null], [.int s], m)) rfl ?_
  refine dx_call (id := 66) (as := [.int s]) (rest := []) rfl ?_
  refine sX3_isSheet s _ ?_
  refine dx_blk 0 (c' := (4, [.ref 0, .int s, .int n, .null], [.int (bI (inI s 0 5))], m)) rfl ?_
  refine dx_brB (B := (inI s 0 5)) (a := 13) (b := 7) (L := [.ref 0, .int s, .int n, .null]) (st := []) (m := m) rfl (fun h4 => ?_) (fun h4 => ?_)
  · refine dx_blk 1 (c' := (14, [.ref 0, .int s, .int n, .null], [.int (-1)], m)) rfl ?_
    exact dx_ret (r := some (.int (-1))) rfl (h1 (by simp_all))
  · refine dx_blk 2 (c' := (10, [.ref 0, .int s, .int n, .null], [.int 12, .int n], m)) rfl ?_
    refine dx_br (q := n ≤ 12) (a := 15) (b := 13) (L := [.ref 0, .int s, .int n, .null]) (st := []) (m := m) rfl (fun h10 => ?_) (fun h10 => ?_)
    · refine dx_blk 1 (c' := (16, [.ref 0, .int s, .int n, .null], [.int n], m)) rfl ?_
      refine dx_br (q := 0 ≤ n) (a := 25) (b := 19) (L := [.ref 0, .int s, .int n, .null]) (st := []) (m := m) rfl (fun h16 => ?_) (fun h16 => ?_)
      · obtain ⟨a, ha0, rfl⟩ := in_N (n := 5) rfl h4
        have ha : a < 6 := by omega
        obtain ⟨k, hk, rfl⟩ := nI_of2 (n := 12) rfl (by rw [fa_lt]; rw [fa_le] at h16; have e0 : (0 : Int32).toInt = 0 := rfl; omega) h10
        refine dx_blk 2 (c' := (27, [.ref 0, .int (nI a), .int (nI k), .int 0], [], m)) rfl ?_
        refine dx_mem (m' := dx_pR m (20 + a) (fa_fill (fun _ => 0) (m.1 (20 + a)) 0)) (by rw [fa_fill_0]; exact (dx_pR_self _ (20 + a)).symm) ?_
        refine dx_blk 0 (c' := (27, [.ref 0, .int (nI a), .int (nI k), .int (nI 0)], [], dx_pR m (20 + a) (fa_fill (fun _ => 0) (m.1 (20 + a)) 0))) rfl ?_
        refine dx_for0 (fun (i : Nat) => ((27, [.ref 0, .int (nI a), .int (nI k), .int (nI i)], [], dx_pR m (20 + a) (fa_fill (fun _ => 0) (m.1 (20 + a)) i)) : dx_F)) k (fun i hi hk => ?_) ?_
        · refine dx_blk 0 (c' := (27, [.ref 0, .int (nI a), .int (nI k), .int (nI i)], [], dx_pR m (20 + a) (fa_fill (fun _ => 0) (m.1 (20 + a)) i))) rfl ?_
          refine dx_blk 2 (c' := (29, [.ref 0, .int (nI a), .int (nI k), .int (nI i)], [.int (nI k), .int (nI i)], dx_pR m (20 + a) (fa_fill (fun _ => 0) (m.1 (20 + a)) i))) rfl ?_
          refine dx_br (q := (nI k) ≤ (nI i)) (a := 47) (b := 32) (L := [.ref 0, .int (nI a), .int (nI k), .int (nI i)]) (st := []) (m := dx_pR m (20 + a) (fa_fill (fun _ => 0) (m.1 (20 + a)) i)) rfl (fun h => absurd h (nI_ge hi (by omega))) (fun _ => ?_)
          refine dx_blk 3 (c' := (37, [.ref 0, .int (nI a), .int (nI k), .int (nI i)], [.int (nI a), .ref 7], dx_pR m (20 + a) (fa_fill (fun _ => 0) (m.1 (20 + a)) i))) rfl ?_
          refine dx_aadN a (q := (20 + a)) rfl rfl (Or.inr rfl) rfl (by omega) (lx_rs7 a (by omega)) ?_
          refine dx_blk 0 (c' := (38, [.ref 0, .int (nI a), .int (nI k), .int (nI i)], [.ref (20 + a)], dx_pR m (20 + a) (fa_fill (fun _ => 0) (m.1 (20 + a)) i))) rfl ?_
          refine dx_blk 2 (c' := (40, [.ref 0, .int (nI a), .int (nI k), .int (nI i)], [.int 0, .int (nI i), .ref (20 + a)], dx_pR m (20 + a) (fa_fill (fun _ => 0) (m.1 (20 + a)) i))) rfl ?_
          refine dx_bstB i rfl rfl (lx_row a (by omega)) rfl (by omega) ?_
          refine dx_blk 0 (c' := (41, [.ref 0, .int (nI a), .int (nI k), .int (nI i)], [], dx_pI (dx_pR m (20 + a) (fa_fill (fun _ => 0) (m.1 (20 + a)) i)) (20 + a) i ((0 : Int32).toInt8.toInt32))) rfl ?_
          refine dx_blk 2 (c' := (27, [.ref 0, .int (nI a), .int (nI k), .int ((nI i) + 1)], [], dx_pI (dx_pR m (20 + a) (fa_fill (fun _ => 0) (m.1 (20 + a)) i)) (20 + a) i ((0 : Int32).toInt8.toInt32))) rfl ?_
          rw [dx_pI_pR, show ((0 : Int32).toInt8.toInt32) = 0 from rfl, show upd (fa_fill (fun _ => (0 : Int32)) (m.1 (20 + a)) i) i 0 = fa_fill (fun _ => (0 : Int32)) (m.1 (20 + a)) (i + 1) from fa_fill_succ (fun _ => 0) (m.1 (20 + a)) i, ← nI_succ]
          exact hk
        · refine dx_blk 0 (c' := (27, [.ref 0, .int (nI a), .int (nI k), .int (nI k)], [], dx_pR m (20 + a) (fa_fill (fun _ => 0) (m.1 (20 + a)) k))) rfl ?_
          refine dx_blk 2 (c' := (29, [.ref 0, .int (nI a), .int (nI k), .int (nI k)], [.int (nI k), .int (nI k)], dx_pR m (20 + a) (fa_fill (fun _ => 0) (m.1 (20 + a)) k))) rfl ?_
          refine dx_br (q := (nI k) ≤ (nI k)) (a := 47) (b := 32) (L := [.ref 0, .int (nI a), .int (nI k), .int (nI k)]) (st := []) (m := dx_pR m (20 + a) (fa_fill (fun _ => 0) (m.1 (20 + a)) k)) rfl (fun _ => ?_) (fun h => absurd (nI_le (Nat.le_refl _) (by omega)) h)
          refine dx_blk 4 (c' := (53, [.ref 0, .int (nI a), .int (nI k), .int (nI k)], [.int (nI k), .int (nI a), .ref 8], dx_pR m (20 + a) (fa_fill (fun _ => 0) (m.1 (20 + a)) k))) rfl ?_
          refine dx_astN a rfl rfl rfl rfl (by omega) ?_
          refine dx_blk 0 (c' := (54, [.ref 0, .int (nI a), .int (nI k), .int (nI k)], [], dx_pI (dx_pR m (20 + a) (fa_fill (fun _ => 0) (m.1 (20 + a)) k)) 8 a (nI k))) rfl ?_
          refine dx_blk 1 (c' := (55, [.ref 0, .int (nI a), .int (nI k), .int (nI k)], [.int (nI k)], dx_pI (dx_pR m (20 + a) (fa_fill (fun _ => 0) (m.1 (20 + a)) k)) 8 a (nI k))) rfl ?_
          exact dx_ret (r := some (.int (nI k))) rfl (h3 a k ha hk rfl rfl)
      · refine dx_blk 2 (c' := (21, [.ref 0, .int s, .int n, .null], [.int 5, .ref 0], m)) rfl ?_
        refine dx_call (id := 70) (as := [.ref 0, .int 5]) (rest := []) rfl ?_
        refine sX3_find 5 (by decide) _ ?_
        refine dx_blk 0 (c' := (24, [.ref 0, .int s, .int n, .null], [.int (-3)], (fndX m 5))) rfl ?_
        exact dx_ret (r := some (.int (-3))) rfl (h2 (by assumption) (by assumption) (by rw [fa_lt]; rw [fa_le] at h16; have e0 : (0 : Int32).toInt = 0 := rfl; omega))
    · refine dx_blk 1 (c' := (14, [.ref 0, .int s, .int n, .null], [.int (-1)], m)) rfl ?_
      exact dx_ret (r := some (.int (-1))) rfl (h1 (by simp_all))
set_option maxRecDepth 20000 in
theorem sX4_sheet {d : Nat} (m : dx_M) (s n : Int32) {Z : Option Value → dx_M → Prop} (h1 : (inI s 0 5 && decide (n ≤ 12)) = false → Z (some (.int (-1))) m) (h2 : inI s 0 5 = true → n ≤ 12 → n < 0 → Z (some (.int (-3))) (fndM m 5)) (h3 : ∀ a k : Nat, a < 6 → k ≤ 12 → s = nI a → n = nI k → Z (some (.int (nI k))) (dx_pR (dx_pI m 3 a (nI k)) 4 (fb_put (m.1 4) (fun _ => 0) (12 * a) 12))) : dx_Sem dx_P lx_M (d + 3) 97 [.ref 0, .int s, .int n] m Z := by
  refine dx_sem km_X4_sheet rfl rfl ?_
  refine dx_blk 0 (c' := (0, [.ref 0, .int s, .int n, .null], [], m)) rfl ?_
  refine dx_blk 1 (c' := (1, [.ref 0, .int s, .int n, .null], [.int s], m)) rfl ?_
  refine dx_call (id := 96) (as := [.int s]) (rest := []) rfl ?_
  refine sX4_isSheet s _ ?_
  refine dx_blk 0 (c' := (4, [.ref 0, .int s, .int n, .null], [.int (bI (inI s 0 5))], m)) rfl ?_
  refine dx_brB (B := (inI s 0 5)) (a := 13) (b := 7) (L := [.ref 0, .int s, .int n, .null]) (st := []) (m := m) rfl (fun h4 => ?_) (fun h4 => ?_)
  · refine dx_blk 1 (c' := (14, [.ref 0, .int s, .int n, .null], [.int (-1)], m)) rfl ?_
    exact dx_ret (r := some (.int (-1))) rfl (h1 (by simp_all))
  · refine dx_blk 2 (c' := (10, [.ref 0, .int s, .int n, .null], [.int 12, .int n], m)) rfl ?_
    refine dx_br (q := n ≤ 12) (a := 15) (b := 13) (L := [.ref 0, .int s, .int n, .null]) (st := []) (m := m) rfl (fun h10 => ?_) (fun h10 => ?_)
    · refine dx_blk 1 (c' := (16, [.ref 0, .int s, .int n, .null], [.int n], m)) rfl ?_
      refine dx_br (q := 0 ≤ n) (a := 25) (b := 19) (L := [.ref 0, .int s, .int n, .null]) (st := []) (m := m) rfl (fun h16 => ?_) (fun h16 => ?_)
      · obtain ⟨a, ha0, rfl⟩ := in_N (n := 5) rfl h4
        have ha : a < 6 := by omega
        obtain ⟨k, hk, rfl⟩ := nI_of2 (n := 12) rfl (by rw [fa_lt]; rw [fa_le] at h16; have e0 : (0 : Int32).toInt = 0 := rfl; omega) h10
        refine dx_blk 4 (c' := (31, [.ref 0, .int (nI a), .int (nI k), .null], [.int (nI k), .int (nI a), .ref 3], m)) rfl ?_
        refine dx_astN a rfl rfl rfl rfl (by omega) ?_
        refine dx_blk 0 (c' := (32, [.ref 0, .int (nI a), .int (nI k), .null], [], dx_pI m 3 a (nI k))) rfl ?_
        refine dx_blk 2 (c' := (34, [.ref 0, .int (nI a), .int (nI k), .int 0], [], dx_pI m 3 a (nI k))) rfl ?_
        refine dx_mem (m' := dx_pR (dx_pI m 3 a (nI k)) 4 (fb_put (m.1 4) (fun _ => 0) (12 * a) 0)) (by rw [fb_put_0]; exact (dx_pR_self _ 4).symm) ?_
        refine dx_blk 0 (c' := (34, [.ref 0, .int (nI a), .int (nI k), .int (nI 0)], [], dx_pR (dx_pI m 3 a (nI k)) 4 (fb_put (m.1 4) (fun _ => 0) (12 * a) 0))) rfl ?_
        refine dx_for0 (fun (i : Nat) => ((34, [.ref 0, .int (nI a), .int (nI k), .int (nI i)], [], dx_pR (dx_pI m 3 a (nI k)) 4 (fb_put (m.1 4) (fun _ => 0) (12 * a) i)) : dx_F)) 12 (fun i hi hk => ?_) ?_
        · refine dx_blk 0 (c' := (34, [.ref 0, .int (nI a), .int (nI k), .int (nI i)], [], dx_pR (dx_pI m 3 a (nI k)) 4 (fb_put (m.1 4) (fun _ => 0) (12 * a) i))) rfl ?_
          refine dx_blk 2 (c' := (37, [.ref 0, .int (nI a), .int (nI k), .int (nI i)], [.int 12, .int (nI i)], dx_pR (dx_pI m 3 a (nI k)) 4 (fb_put (m.1 4) (fun _ => 0) (12 * a) i))) rfl ?_
          refine dx_br (q := 12 ≤ (nI i)) (a := 58) (b := 40) (L := [.ref 0, .int (nI a), .int (nI k), .int (nI i)]) (st := []) (m := dx_pR (dx_pI m 3 a (nI k)) 4 (fb_put (m.1 4) (fun _ => 0) (12 * a) i)) rfl (fun h => absurd h (nI_ge hi (by decide))) (fun _ => ?_)
          refine dx_blk 8 (c' := (51, [.ref 0, .int (nI a), .int (nI k), .int (nI i)], [.int 0, .int ((12 * (nI a)) + (nI i)), .ref 4], dx_pR (dx_pI m 3 a (nI k)) 4 (fb_put (m.1 4) (fun _ => 0) (12 * a) i))) rfl ?_
          refine dx_bstB (12 * a + i) rfl rfl rfl (nI_ix2 a i) (by omega) ?_
          refine dx_blk 0 (c' := (52, [.ref 0, .int (nI a), .int (nI k), .int (nI i)], [], dx_pI (dx_pR (dx_pI m 3 a (nI k)) 4 (fb_put (m.1 4) (fun _ => 0) (12 * a) i)) 4 (12 * a + i) ((0 : Int32).toInt8.toInt32))) rfl ?_
          refine dx_blk 2 (c' := (34, [.ref 0, .int (nI a), .int (nI k), .int ((nI i) + 1)], [], dx_pI (dx_pR (dx_pI m 3 a (nI k)) 4 (fb_put (m.1 4) (fun _ => 0) (12 * a) i)) 4 (12 * a + i) ((0 : Int32).toInt8.toInt32))) rfl ?_
          rw [dx_pI_pR, show ((0 : Int32).toInt8.toInt32) = 0 from rfl, show upd (fb_put (m.1 4) (fun _ => (0 : Int32)) (12 * a) i) (12 * a + i) 0 = fb_put (m.1 4) (fun _ => (0 : Int32)) (12 * a) (i + 1) from fb_put_succ (m.1 4) (fun _ => 0) (12 * a) i, ← nI_succ]
          exact hk
        · refine dx_blk 0 (c' := (34, [.ref 0, .int (nI a), .int (nI k), .int (nI 12)], [], dx_pR (dx_pI m 3 a (nI k)) 4 (fb_put (m.1 4) (fun _ => 0) (12 * a) 12))) rfl ?_
          refine dx_blk 2 (c' := (37, [.ref 0, .int (nI a), .int (nI k), .int (nI 12)], [.int 12, .int (nI 12)], dx_pR (dx_pI m 3 a (nI k)) 4 (fb_put (m.1 4) (fun _ => 0) (12 * a) 12))) rfl ?_
          refine dx_br (q := 12 ≤ (nI 12)) (a := 58) (b := 40) (L := [.ref 0, .int (nI a), .int (nI k), .int (nI 12)]) (st := []) (m := dx_pR (dx_pI m 3 a (nI k)) 4 (fb_put (m.1 4) (fun _ => 0) (12 * a) 12)) rfl (fun _ => ?_) (fun h => absurd (nI_le (Nat.le_refl _) (by decide)) h)
          refine dx_blk 1 (c' := (59, [.ref 0, .int (nI a), .int (nI k), .int (nI 12)], [.int (nI k)], dx_pR (dx_pI m 3 a (nI k)) 4 (fb_put (m.1 4) (fun _ => 0) (12 * a) 12))) rfl ?_
          exact dx_ret (r := some (.int (nI k))) rfl (h3 a k ha hk rfl rfl)
      · refine dx_blk 2 (c' := (21, [.ref 0, .int s, .int n, .null], [.int 5, .ref 0], m)) rfl ?_
        refine dx_call (id := 83) (as := [.ref 0, .int 5]) (rest := []) rfl ?_
        refine sX4_meets 5 (by decide) _ ?_
        refine dx_blk 0 (c' := (24, [.ref 0, .int s, .int n, .null], [.int (-3)], (fndM m 5))) rfl ?_
        exact dx_ret (r := some (.int (-3))) rfl (h2 (by assumption) (by assumption) (by rw [fa_lt]; rw [fa_le] at h16; have e0 : (0 : Int32).toInt = 0 := rfl; omega))
    · refine dx_blk 1 (c' := (14, [.ref 0, .int s, .int n, .null], [.int (-1)], m)) rfl ?_
      exact dx_ret (r := some (.int (-1))) rfl (h1 (by simp_all))
set_option maxRecDepth 20000 in
theorem sX3_tear {d : Nat} (m : dx_M) (hz : ∀ a : Nat, a < 6 → szP (m.1 8 a)) (s : Int32) {Z : Option Value → dx_M → Prop} (h1 : inI s 0 5 = false → Z (some (.int (-1))) m) (h2 : ∀ a : Nat, a < 6 → s = nI a → m.1 8 a = -1 → Z (some (.int (-3))) (fndX m 1)) (h3 : ∀ a z : Nat, a < 6 → s = nI a → z ≤ 12 → m.1 8 a = nI z → Z (some (.int 1)) (dx_pI m 8 a (-1))) : dx_Sem dx_P lx_X (d + 3) 32 [.ref 0, .int s] m Z := by
  refine dx_sem km_X3_tear rfl rfl ?_
  refine dx_blk 0 (c' := (0, [.ref 0, .int s], [], m)) rfl ?_
  refine dx_blk 1 (c' := (1, [.ref 0, .int s], [.int s], m)) rfl ?_
  refine dx_call (id := 66) (as := [.int s]) (rest := []) rfl ?_
  refine sX3_isSheet s _ ?_
  refine dx_blk 0 (c' := (4, [.ref 0, .int s], [.int (bI (inI s 0 5))], m)) rfl ?_
  refine dx_brB (B := (inI s 0 5)) (a := 7) (b := 9) (L := [.ref 0, .int s]) (st := []) (m := m) rfl (fun h4 => ?_) (fun h4 => ?_)
  · refine dx_blk 1 (c' := (8, [.ref 0, .int s], [.int (-1)], m)) rfl ?_
    exact dx_ret (r := some (.int (-1))) rfl (h1 (by assumption))
  · obtain ⟨a, ha0, rfl⟩ := in_N (n := 5) rfl h4
    have ha : a < 6 := by omega
    refine dx_blk 3 (c' := (14, [.ref 0, .int (nI a)], [.int (nI a), .ref 8], m)) rfl ?_
    refine dx_aldN a rfl rfl rfl rfl (by omega) ?_
    refine dx_blk 0 (c' := (15, [.ref 0, .int (nI a)], [.int (m.1 8 a)], m)) rfl ?_
    refine dx_blk 1 (c' := (16, [.ref 0, .int (nI a)], [.int (-1), .int (m.1 8 a)], m)) rfl ?_
    refine dx_br (q := (m.1 8 a) = (-1)) (a := 19) (b := 25) (L := [.ref 0, .int (nI a)]) (st := []) (m := m) rfl (fun h16 => ?_) (fun h16 => ?_)
    · refine dx_blk 2 (c' := (21, [.ref 0, .int (nI a)], [.int 1, .ref 0], m)) rfl ?_
      refine dx_call (id := 70) (as := [.ref 0, .int 1]) (rest := []) rfl ?_
      refine sX3_find 1 (by decide) _ ?_
      refine dx_blk 0 (c' := (24, [.ref 0, .int (nI a)], [.int (-3)], (fndX m 1))) rfl ?_
      exact dx_ret (r := some (.int (-3))) rfl (h2 a ha rfl (by assumption))
    · obtain ⟨z, hz1, ez⟩ := szC (hz a ha) (by assumption)
      refine dx_blk 4 (c' := (31, [.ref 0, .int (nI a)], [.int (-1), .int (nI a), .ref 8], m)) rfl ?_
      refine dx_astN a rfl rfl rfl rfl (by omega) ?_
      refine dx_blk 0 (c' := (32, [.ref 0, .int (nI a)], [], dx_pI m 8 a (-1))) rfl ?_
      refine dx_blk 1 (c' := (33, [.ref 0, .int (nI a)], [.int 1], dx_pI m 8 a (-1))) rfl ?_
      exact dx_ret (r := some (.int 1)) rfl (h3 a z ha rfl hz1 ez)
set_option maxRecDepth 20000 in
theorem sX4_tear {d : Nat} (m : dx_M) (hz : ∀ a : Nat, a < 6 → szP (m.1 3 a)) (s : Int32) {Z : Option Value → dx_M → Prop} (h1 : inI s 0 5 = false → Z (some (.int (-1))) m) (h2 : ∀ a : Nat, a < 6 → s = nI a → m.1 3 a = -1 → Z (some (.int (-3))) (fndM m 1)) (h3 : ∀ a z : Nat, a < 6 → s = nI a → z ≤ 12 → m.1 3 a = nI z → Z (some (.int 1)) (dx_pI m 3 a (-1))) : dx_Sem dx_P lx_M (d + 3) 99 [.ref 0, .int s] m Z := by
  refine dx_sem km_X4_tear rfl rfl ?_
  refine dx_blk 0 (c' := (0, [.ref 0, .int s], [], m)) rfl ?_
  refine dx_blk 1 (c' := (1, [.ref 0, .int s], [.int s], m)) rfl ?_
  refine dx_call (id := 96) (as := [.int s]) (rest := []) rfl ?_
  refine sX4_isSheet s _ ?_
  refine dx_blk 0 (c' := (4, [.ref 0, .int s], [.int (bI (inI s 0 5))], m)) rfl ?_
  refine dx_brB (B := (inI s 0 5)) (a := 7) (b := 9) (L := [.ref 0, .int s]) (st := []) (m := m) rfl (fun h4 => ?_) (fun h4 => ?_)
  · refine dx_blk 1 (c' := (8, [.ref 0, .int s], [.int (-1)], m)) rfl ?_
    exact dx_ret (r := some (.int (-1))) rfl (h1 (by assumption))
  · obtain ⟨a, ha0, rfl⟩ := in_N (n := 5) rfl h4
    have ha : a < 6 := by omega
    refine dx_blk 3 (c' := (14, [.ref 0, .int (nI a)], [.int (nI a), .ref 3], m)) rfl ?_
    refine dx_aldN a rfl rfl rfl rfl (by omega) ?_
    refine dx_blk 0 (c' := (15, [.ref 0, .int (nI a)], [.int (m.1 3 a)], m)) rfl ?_
    refine dx_br (q := 0 ≤ (m.1 3 a)) (a := 24) (b := 18) (L := [.ref 0, .int (nI a)]) (st := []) (m := m) rfl (fun h15 => ?_) (fun h15 => ?_)
    · obtain ⟨z, hz1, ez⟩ := szB (hz a ha) (by assumption)
      refine dx_blk 4 (c' := (30, [.ref 0, .int (nI a)], [.int (-1), .int (nI a), .ref 3], m)) rfl ?_
      refine dx_astN a rfl rfl rfl rfl (by omega) ?_
      refine dx_blk 0 (c' := (31, [.ref 0, .int (nI a)], [], dx_pI m 3 a (-1))) rfl ?_
      refine dx_blk 1 (c' := (32, [.ref 0, .int (nI a)], [.int 1], dx_pI m 3 a (-1))) rfl ?_
      exact dx_ret (r := some (.int 1)) rfl (h3 a z ha rfl hz1 ez)
    · refine dx_blk 2 (c' := (20, [.ref 0, .int (nI a)], [.int 1, .ref 0], m)) rfl ?_
      refine dx_call (id := 83) (as := [.ref 0, .int 1]) (rest := []) rfl ?_
      refine sX4_meets 1 (by decide) _ ?_
      refine dx_blk 0 (c' := (23, [.ref 0, .int (nI a)], [.int (-3)], (fndM m 1))) rfl ?_
      exact dx_ret (r := some (.int (-3))) rfl (h2 a ha rfl (szA (hz a ha) (by assumption)))
set_option maxRecDepth 20000 in
theorem sX3_lay {d : Nat} (m : dx_M) (hz : ∀ a : Nat, a < 6 → szP (m.1 8 a)) (s i v : Int32) {Z : Option Value → dx_M → Prop} (h1 : inI s 0 5 = false → Z (some (.int (-1))) m) (h2 : ∀ a : Nat, a < 6 → s = nI a → m.1 8 a = -1 → Z (some (.int (-3))) (fndX m 1)) (h3 : ∀ a z : Nat, a < 6 → s = nI a → z ≤ 12 → m.1 8 a = nI z → inI i 0 (nI z - 1) = false → Z (some (.int (-3))) (fndX m 2)) (h4 : ∀ a z j : Nat, a < 6 → s = nI a → z ≤ 12 → m.1 8 a = nI z → j < z → i = nI j → Z (some (.int (m.1 (20 + a) j + 1000))) (dx_pI m (20 + a) j v.toInt8.toInt32)) : dx_Sem dx_P lx_X (d + 3) 31 [.ref 0, .int s, .int i, .int v] m Z := by
  refine dx_sem km_X3_lay rfl rfl ?_
  refine dx_blk 0 (c' := (0, [.ref 0, .int s, .int i, .int v, .null], [], m)) rfl ?_
  refine dx_blk 1 (c' := (1, [.ref 0, .int s, .int i, .int v, .null], [.int s], m)) rfl ?_
  refine dx_call (id := 66) (as := [.int s]) (rest := []) rfl ?_
  refine sX3_isSheet s _ ?_
  refine dx_blk 0 (c' := (4, [.ref 0, .int s, .int i, .int v, .null], [.int (bI (inI s 0 5))], m)) rfl ?_
  refine dx_brB (B := (inI s 0 5)) (a := 7) (b := 9) (L := [.ref 0, .int s, .int i, .int v, .null]) (st := []) (m := m) rfl (fun q4 => ?_) (fun q4 => ?_)
  · refine dx_blk 1 (c' := (8, [.ref 0, .int s, .int i, .int v, .null], [.int (-1)], m)) rfl ?_
    exact dx_ret (r := some (.int (-1))) rfl (h1 (by assumption))
  · obtain ⟨a, ha0, rfl⟩ := in_N (n := 5) rfl q4
    have ha : a < 6 := by omega
    refine dx_blk 3 (c' := (14, [.ref 0, .int (nI a), .int i, .int v, .null], [.int (nI a), .ref 8], m)) rfl ?_
    refine dx_aldN a rfl rfl rfl rfl (by omega) ?_
    refine dx_blk 0 (c' := (15, [.ref 0, .int (nI a), .int i, .int v, .null], [.int (m.1 8 a)], m)) rfl ?_
    refine dx_blk 1 (c' := (16, [.ref 0, .int (nI a), .int i, .int v, .null], [.int (-1), .int (m.1 8 a)], m)) rfl ?_
    refine dx_br (q := (m.1 8 a) = (-1)) (a := 19) (b := 25) (L := [.ref 0, .int (nI a), .int i, .int v, .null]) (st := []) (m := m) rfl (fun h16 => ?_) (fun h16 => ?_)
    · refine dx_blk 2 (c' := (21, [.ref 0, .int (nI a), .int i, .int v, .null], [.int 1, .ref 0], m)) rfl ?_
      refine dx_call (id := 70) (as := [.ref 0, .int 1]) (rest := []) rfl ?_
      refine sX3_find 1 (by decide) _ ?_
      refine dx_blk 0 (c' := (24, [.ref 0, .int (nI a), .int i, .int v, .null], [.int (-3)], (fndX m 1))) rfl ?_
      exact dx_ret (r := some (.int (-3))) rfl (h2 a ha rfl (by assumption))
    · obtain ⟨z, hz1, ez⟩ := szC (hz a ha) (by assumption)
      refine dx_blk 1 (c' := (26, [.ref 0, .int (nI a), .int i, .int v, .null], [.int i], m)) rfl ?_
      refine dx_br (q := i < 0) (a := 39) (b := 29) (L := [.ref 0, .int (nI a), .int i, .int v, .null]) (st := []) (m := m) rfl (fun h26 => ?_) (fun h26 => ?_)
      · refine dx_blk 2 (c' := (41, [.ref 0, .int (nI a), .int i, .int v, .null], [.int 2, .ref 0], m)) rfl ?_
        refine dx_call (id := 70) (as := [.ref 0, .int 2]) (rest := []) rfl ?_
        refine sX3_find 2 (by decide) _ ?_
        refine dx_blk 0 (c' := (44, [.ref 0, .int (nI a), .int i, .int v, .null], [.int (-3)], (fndX m 2))) rfl ?_
        exact dx_ret (r := some (.int (-3))) rfl (h3 a z ha rfl hz1 ez (by first | exact inI_lt (by assumption) | (refine inI_f.mpr (fun q => ?_); obtain ⟨j, hj, rfl⟩ := in_W hz1 (inI_t.mpr q); exact absurd (show nI j < m.1 8 a by rw [ez]; exact nI_lt hj (by omega)) (by assumption))))
      · refine dx_blk 4 (c' := (35, [.ref 0, .int (nI a), .int i, .int v, .null], [.int (nI a), .ref 8, .int i], m)) rfl ?_
        refine dx_aldN a rfl rfl rfl rfl (by omega) ?_
        refine dx_blk 0 (c' := (36, [.ref 0, .int (nI a), .int i, .int v, .null], [.int (m.1 8 a), .int i], m)) rfl ?_
        refine dx_br (q := i < (m.1 8 a)) (a := 45) (b := 39) (L := [.ref 0, .int (nI a), .int i, .int v, .null]) (st := []) (m := m) rfl (fun h36 => ?_) (fun h36 => ?_)
        · obtain ⟨j, hj, rfl⟩ := sz_of hz1 (by assumption) (by rw [← ez]; assumption)
          refine dx_blk 3 (c' := (50, [.ref 0, .int (nI a), .int (nI j), .int v, .null], [.int (nI a), .ref 7], m)) rfl ?_
          refine dx_aadN a (q := (20 + a)) rfl rfl (Or.inr rfl) rfl (by omega) (lx_rs7 a (by omega)) ?_
          refine dx_blk 0 (c' := (51, [.ref 0, .int (nI a), .int (nI j), .int v, .null], [.ref (20 + a)], m)) rfl ?_
          refine dx_blk 1 (c' := (52, [.ref 0, .int (nI a), .int (nI j), .int v, .null], [.int (nI j), .ref (20 + a)], m)) rfl ?_
          refine dx_bldN j rfl rfl (Or.inl (lx_row a ha)) rfl (by omega) ?_
          refine dx_blk 0 (c' := (53, [.ref 0, .int (nI a), .int (nI j), .int v, .null], [.int (m.1 (20 + a) j)], m)) rfl ?_
          refine dx_blk 4 (c' := (60, [.ref 0, .int (nI a), .int (nI j), .int v, .int (m.1 (20 + a) j)], [.int (nI a), .ref 7], m)) rfl ?_
          refine dx_aadN a (q := (20 + a)) rfl rfl (Or.inr rfl) rfl (by omega) (lx_rs7 a (by omega)) ?_
          refine dx_blk 0 (c' := (61, [.ref 0, .int (nI a), .int (nI j), .int v, .int (m.1 (20 + a) j)], [.ref (20 + a)], m)) rfl ?_
          refine dx_blk 3 (c' := (64, [.ref 0, .int (nI a), .int (nI j), .int v, .int (m.1 (20 + a) j)], [.int v.toInt8.toInt32, .int (nI j), .ref (20 + a)], m)) rfl ?_
          refine dx_bstB j rfl rfl (lx_row a ha) rfl (by omega) ?_
          refine dx_blk 0 (c' := (65, [.ref 0, .int (nI a), .int (nI j), .int v, .int (m.1 (20 + a) j)], [], dx_pI m (20 + a) j v.toInt8.toInt32.toInt8.toInt32)) rfl ?_
          refine dx_blk 3 (c' := (71, [.ref 0, .int (nI a), .int (nI j), .int v, .int (m.1 (20 + a) j)], [.int ((m.1 (20 + a) j) + 1000)], dx_pI m (20 + a) j v.toInt8.toInt32.toInt8.toInt32)) rfl ?_
          exact dx_ret (r := some (.int ((m.1 (20 + a) j) + 1000))) rfl (by rw [fb_byte_twice]; exact h4 a z j ha rfl hz1 ez hj rfl)
        · refine dx_blk 2 (c' := (41, [.ref 0, .int (nI a), .int i, .int v, .null], [.int 2, .ref 0], m)) rfl ?_
          refine dx_call (id := 70) (as := [.ref 0, .int 2]) (rest := []) rfl ?_
          refine sX3_find 2 (by decide) _ ?_
          refine dx_blk 0 (c' := (44, [.ref 0, .int (nI a), .int i, .int v, .null], [.int (-3)], (fndX m 2))) rfl ?_
          exact dx_ret (r := some (.int (-3))) rfl (h3 a z ha rfl hz1 ez (by first | exact inI_lt (by assumption) | (refine inI_f.mpr (fun q => ?_); obtain ⟨j, hj, rfl⟩ := in_W hz1 (inI_t.mpr q); exact absurd (show nI j < m.1 8 a by rw [ez]; exact nI_lt hj (by omega)) (by assumption))))
set_option maxRecDepth 20000 in
theorem sX4_lay {d : Nat} (m : dx_M) (hz : ∀ a : Nat, a < 6 → szP (m.1 3 a)) (s i v : Int32) {Z : Option Value → dx_M → Prop} (h1 : inI s 0 5 = false → Z (some (.int (-1))) m) (h2 : ∀ a : Nat, a < 6 → s = nI a → m.1 3 a = -1 → Z (some (.int (-3))) (fndM m 1)) (h3 : ∀ a z : Nat, a < 6 → s = nI a → z ≤ 12 → m.1 3 a = nI z → inI i 0 (nI z - 1) = false → Z (some (.int (-3))) (fndM m 2)) (h4 : ∀ a z j : Nat, a < 6 → s = nI a → z ≤ 12 → m.1 3 a = nI z → j < z → i = nI j → Z (some (.int (m.1 4 (12 * a + j) + 1000))) (dx_pI m 4 (12 * a + j) v.toInt8.toInt32)) : dx_Sem dx_P lx_M (d + 3) 98 [.ref 0, .int s, .int i, .int v] m Z := by
  refine dx_sem km_X4_lay rfl rfl ?_
  refine dx_blk 0 (c' := (0, [.ref 0, .int s, .int i, .int v, .null], [], m)) rfl ?_
  refine dx_blk 1 (c' := (1, [.ref 0, .int s, .int i, .int v, .null], [.int s], m)) rfl ?_
  refine dx_call (id := 96) (as := [.int s]) (rest := []) rfl ?_
  refine sX4_isSheet s _ ?_
  refine dx_blk 0 (c' := (4, [.ref 0, .int s, .int i, .int v, .null], [.int (bI (inI s 0 5))], m)) rfl ?_
  refine dx_brB (B := (inI s 0 5)) (a := 7) (b := 9) (L := [.ref 0, .int s, .int i, .int v, .null]) (st := []) (m := m) rfl (fun q4 => ?_) (fun q4 => ?_)
  · refine dx_blk 1 (c' := (8, [.ref 0, .int s, .int i, .int v, .null], [.int (-1)], m)) rfl ?_
    exact dx_ret (r := some (.int (-1))) rfl (h1 (by assumption))
  · obtain ⟨a, ha0, rfl⟩ := in_N (n := 5) rfl q4
    have ha : a < 6 := by omega
    refine dx_blk 3 (c' := (14, [.ref 0, .int (nI a), .int i, .int v, .null], [.int (nI a), .ref 3], m)) rfl ?_
    refine dx_aldN a rfl rfl rfl rfl (by omega) ?_
    refine dx_blk 0 (c' := (15, [.ref 0, .int (nI a), .int i, .int v, .null], [.int (m.1 3 a)], m)) rfl ?_
    refine dx_br (q := 0 ≤ (m.1 3 a)) (a := 24) (b := 18) (L := [.ref 0, .int (nI a), .int i, .int v, .null]) (st := []) (m := m) rfl (fun h15 => ?_) (fun h15 => ?_)
    · obtain ⟨z, hz1, ez⟩ := szB (hz a ha) (by assumption)
      refine dx_blk 5 (c' := (31, [.ref 0, .int (nI a), .int i, .int v, .null], [.int (nI a), .ref 3, .int 0, .int i], m)) rfl ?_
      refine dx_aldN a rfl rfl rfl rfl (by omega) ?_
      refine dx_blk 0 (c' := (32, [.ref 0, .int (nI a), .int i, .int v, .null], [.int (m.1 3 a), .int 0, .int i], m)) rfl ?_
      refine dx_blk 2 (c' := (34, [.ref 0, .int (nI a), .int i, .int v, .null], [.int ((m.1 3 a) - 1), .int 0, .int i], m)) rfl ?_
      refine dx_call (id := 82) (as := [.int i, .int 0, .int ((m.1 3 a) - 1)]) (rest := []) rfl ?_
      refine sX4_in i 0 ((m.1 3 a) - 1) _ ?_
      refine dx_blk 0 (c' := (37, [.ref 0, .int (nI a), .int i, .int v, .null], [.int (bI (inI i 0 ((m.1 3 a) - 1)))], m)) rfl ?_
      refine dx_brB (B := (inI i 0 ((m.1 3 a) - 1))) (a := 40) (b := 46) (L := [.ref 0, .int (nI a), .int i, .int v, .null]) (st := []) (m := m) rfl (fun h37 => ?_) (fun h37 => ?_)
      · refine dx_blk 2 (c' := (42, [.ref 0, .int (nI a), .int i, .int v, .null], [.int 2, .ref 0], m)) rfl ?_
        refine dx_call (id := 83) (as := [.ref 0, .int 2]) (rest := []) rfl ?_
        refine sX4_meets 2 (by decide) _ ?_
        refine dx_blk 0 (c' := (45, [.ref 0, .int (nI a), .int i, .int v, .null], [.int (-3)], (fndM m 2))) rfl ?_
        exact dx_ret (r := some (.int (-3))) rfl (h3 a z ha rfl hz1 ez (by rw [← ez]; assumption))
      · obtain ⟨j, hj, rfl⟩ := in_W hz1 (by rw [← ez]; assumption)
        refine dx_blk 7 (c' := (56, [.ref 0, .int (nI a), .int (nI j), .int v, .null], [.int ((12 * (nI a)) + (nI j)), .ref 4], m)) rfl ?_
        refine dx_bldN (12 * a + j) rfl rfl (Or.inl rfl) (nI_ix2 a j) (by omega) ?_
        refine dx_blk 0 (c' := (57, [.ref 0, .int (nI a), .int (nI j), .int v, .null], [.int (m.1 4 (12 * a + j))], m)) rfl ?_
        refine dx_blk 10 (c' := (71, [.ref 0, .int (nI a), .int (nI j), .int v, .int (m.1 4 (12 * a + j))], [.int v.toInt8.toInt32, .int ((12 * (nI a)) + (nI j)), .ref 4], m)) rfl ?_
        refine dx_bstB (12 * a + j) rfl rfl rfl (nI_ix2 a j) (by omega) ?_
        refine dx_blk 0 (c' := (72, [.ref 0, .int (nI a), .int (nI j), .int v, .int (m.1 4 (12 * a + j))], [], dx_pI m 4 (12 * a + j) v.toInt8.toInt32.toInt8.toInt32)) rfl ?_
        refine dx_blk 3 (c' := (78, [.ref 0, .int (nI a), .int (nI j), .int v, .int (m.1 4 (12 * a + j))], [.int (1000 + (m.1 4 (12 * a + j)))], dx_pI m 4 (12 * a + j) v.toInt8.toInt32.toInt8.toInt32)) rfl ?_
        exact dx_ret (r := some (.int (1000 + (m.1 4 (12 * a + j))))) rfl (by rw [fb_byte_twice, Int32.add_comm]; exact h4 a z j ha rfl hz1 ez hj rfl)
    · refine dx_blk 2 (c' := (20, [.ref 0, .int (nI a), .int i, .int v, .null], [.int 1, .ref 0], m)) rfl ?_
      refine dx_call (id := 83) (as := [.ref 0, .int 1]) (rest := []) rfl ?_
      refine sX4_meets 1 (by decide) _ ?_
      refine dx_blk 0 (c' := (23, [.ref 0, .int (nI a), .int i, .int v, .null], [.int (-3)], (fndM m 1))) rfl ?_
      exact dx_ret (r := some (.int (-3))) rfl (h2 a ha rfl (szA (hz a ha) (by assumption)))
set_option maxRecDepth 20000 in
theorem sX3_reaches {d : Nat} (m : dx_M) {a z : Nat} (ha : a < 6) (hz : z ≤ 12) (ez : m.1 8 a = nI z) (i n : Int32) {Z : Option Value → dx_M → Prop} (h : Z (some (.int (bI (rB z i n)))) m) : dx_Sem dx_P lx_X (d + 1) 69 [.ref 0, .int (nI a), .int i, .int n] m Z := by
  refine dx_sem km_X3_reaches rfl rfl ?_
  refine dx_blk 0 (c' := (0, [.ref 0, .int (nI a), .int i, .int n], [], m)) rfl ?_
  refine dx_blk 1 (c' := (1, [.ref 0, .int (nI a), .int i, .int n], [.int i], m)) rfl ?_
  refine dx_br (q := i < 0) (a := 34) (b := 4) (L := [.ref 0, .int (nI a), .int i, .int n]) (st := []) (m := m) rfl (fun h1 => ?_) (fun h1 => ?_)
  · refine dx_blk 1 (c' := (35, [.ref 0, .int (nI a), .int i, .int n], [.int 0], m)) rfl ?_
    exact dx_ret (r := some (.int 0)) rfl (by first | (rw [rB_f1 (by assumption)] at h; exact h) | (rw [rB_f2 (by assumption)] at h; exact h) | (rw [rB_f3 hz (by rw [← ez]; assumption)] at h; exact h) | (rw [rB_f4 hz (by rw [← ez]; assumption)] at h; exact h) | (rw [rB_t hz (by assumption) (by assumption) (by rw [← ez]; assumption) (by rw [← ez]; assumption)] at h; exact h))
  · refine dx_blk 1 (c' := (5, [.ref 0, .int (nI a), .int i, .int n], [.int n], m)) rfl ?_
    refine dx_br (q := n < 0) (a := 34) (b := 8) (L := [.ref 0, .int (nI a), .int i, .int n]) (st := []) (m := m) rfl (fun h5 => ?_) (fun h5 => ?_)
    · refine dx_blk 1 (c' := (35, [.ref 0, .int (nI a), .int i, .int n], [.int 0], m)) rfl ?_
      exact dx_ret (r := some (.int 0)) rfl (by first | (rw [rB_f1 (by assumption)] at h; exact h) | (rw [rB_f2 (by assumption)] at h; exact h) | (rw [rB_f3 hz (by rw [← ez]; assumption)] at h; exact h) | (rw [rB_f4 hz (by rw [← ez]; assumption)] at h; exact h) | (rw [rB_t hz (by assumption) (by assumption) (by rw [← ez]; assumption) (by rw [← ez]; assumption)] at h; exact h))
    · refine dx_blk 4 (c' := (14, [.ref 0, .int (nI a), .int i, .int n], [.int (nI a), .ref 8, .int i], m)) rfl ?_
      refine dx_aldN a rfl rfl rfl rfl (by omega) ?_
      refine dx_blk 0 (c' := (15, [.ref 0, .int (nI a), .int i, .int n], [.int (m.1 8 a), .int i], m)) rfl ?_
      refine dx_br (q := (m.1 8 a) < i) (a := 34) (b := 18) (L := [.ref 0, .int (nI a), .int i, .int n]) (st := []) (m := m) rfl (fun h15 => ?_) (fun h15 => ?_)
      · refine dx_blk 1 (c' := (35, [.ref 0, .int (nI a), .int i, .int n], [.int 0], m)) rfl ?_
        exact dx_ret (r := some (.int 0)) rfl (by first | (rw [rB_f1 (by assumption)] at h; exact h) | (rw [rB_f2 (by assumption)] at h; exact h) | (rw [rB_f3 hz (by rw [← ez]; assumption)] at h; exact h) | (rw [rB_f4 hz (by rw [← ez]; assumption)] at h; exact h) | (rw [rB_t hz (by assumption) (by assumption) (by rw [← ez]; assumption) (by rw [← ez]; assumption)] at h; exact h))
      · refine dx_blk 4 (c' := (24, [.ref 0, .int (nI a), .int i, .int n], [.int (nI a), .ref 8, .int n], m)) rfl ?_
        refine dx_aldN a rfl rfl rfl rfl (by omega) ?_
        refine dx_blk 0 (c' := (25, [.ref 0, .int (nI a), .int i, .int n], [.int (m.1 8 a), .int n], m)) rfl ?_
        refine dx_blk 2 (c' := (27, [.ref 0, .int (nI a), .int i, .int n], [.int ((m.1 8 a) - i), .int n], m)) rfl ?_
        refine dx_br (q := ((m.1 8 a) - i) < n) (a := 34) (b := 30) (L := [.ref 0, .int (nI a), .int i, .int n]) (st := []) (m := m) rfl (fun h27 => ?_) (fun h27 => ?_)
        · refine dx_blk 1 (c' := (35, [.ref 0, .int (nI a), .int i, .int n], [.int 0], m)) rfl ?_
          exact dx_ret (r := some (.int 0)) rfl (by first | (rw [rB_f1 (by assumption)] at h; exact h) | (rw [rB_f2 (by assumption)] at h; exact h) | (rw [rB_f3 hz (by rw [← ez]; assumption)] at h; exact h) | (rw [rB_f4 hz (by rw [← ez]; assumption)] at h; exact h) | (rw [rB_t hz (by assumption) (by assumption) (by rw [← ez]; assumption) (by rw [← ez]; assumption)] at h; exact h))
        · refine dx_blk 2 (c' := (35, [.ref 0, .int (nI a), .int i, .int n], [.int 1], m)) rfl ?_
          exact dx_ret (r := some (.int 1)) rfl (by first | (rw [rB_f1 (by assumption)] at h; exact h) | (rw [rB_f2 (by assumption)] at h; exact h) | (rw [rB_f3 hz (by rw [← ez]; assumption)] at h; exact h) | (rw [rB_f4 hz (by rw [← ez]; assumption)] at h; exact h) | (rw [rB_t hz (by assumption) (by assumption) (by rw [← ez]; assumption) (by rw [← ez]; assumption)] at h; exact h))
theorem dx_cpN {d : Nat} {C : Nat → List Value → dx_M → (Option Value → dx_M → Prop) → Prop} {lay : List dx_Cell} {K : dx_K} {Z : Option Value → dx_M → Prop} {pc : Nat} {L : List Value} {m : dx_M} {r : dx_I} {x h k n0 n1 p q c : Nat} {r0 r1 : List Nat} (hrow : dx_look K.2.1 pc = some r) (hr : r.1 = .invokestatic x) (ha : r.2.2.2.1 = 4) (hh : lay[h]? = some (.inr (1, n0, r0))) (hk : lay[k]? = some (.inr (1, n1, r1))) (h0 : n0 < 2147483648) (h1 : n1 < 2147483648) (h2 : p + c ≤ n0) (h3 : q + c ≤ n1) (hf : ∀ i, i < c → fits .byte (.int (m.1 h (p + i))) = true) (kk : dx_Go (d + 1) C lay K Z (pc + 3, L, [], dx_pR m k (va_cpy (m.1 h) (m.1 k) p q c))) : dx_Go (d + 1) C lay K Z (pc, L, [.int (nI c), .int (nI q), .ref k, .int (nI p), .ref h], m) := by
  refine dx_copy (c' := (pc + 3, L, [], dx_pR m k (va_cpy (m.1 h) (m.1 k) p q c))) ?_ kk
  have ec : (nI c).toNatClampNeg = c := nI_clamp (by omega)
  have ep : (nI p).toNatClampNeg = p := nI_clamp (by omega)
  have eq : (nI q).toNatClampNeg = q := nI_clamp (by omega)
  have e1 : dx_mth r pc L [.int (nI c), .int (nI q), .ref k, .int (nI p), .ref h] m = none := by
    obtain ⟨i, n, v, a, b, cc, ts⟩ := r
    dsimp only at hr ha
    subst hr; subst ha
    rfl
  have e2 : dx_cpx lay r pc L [.int (nI c), .int (nI q), .ref k, .int (nI p), .ref h] m = some (pc + 3, L, [], dx_pR m k (va_cpy (m.1 h) (m.1 k) p q c)) := by
    obtain ⟨i, n, v, a, b, cc, ts⟩ := r
    dsimp only at hr ha
    subst hr; subst ha
    simp only [dx_cpx, hh, hk, ec, ep, eq]
    rw [if_pos ⟨nI_pos (by omega), nI_pos (by omega), nI_pos (by omega), h2, h3, hf, Nat.zero_le _⟩]
  simp only [dx_cp, hrow, e1, e2]
set_option maxRecDepth 20000 in
theorem sX3_copy {d : Nat} (m : dx_M) (hz : ∀ a : Nat, a < 6 → szP (m.1 8 a)) (hf : ∀ a j : Nat, a < 6 → j < 12 → fits .byte (.int (m.1 (20 + a) j)) = true) (s i t j n : Int32) {Z : Option Value → dx_M → Prop} (h1 : (inI s 0 5 && inI t 0 5) = false → Z (some (.int (-1))) m) (h2 : ∀ a b : Nat, a < 6 → b < 6 → s = nI a → t = nI b → (m.1 8 a = -1 ∨ m.1 8 b = -1) → Z (some (.int (-3))) (fndX m 1)) (h3 : ∀ a b z y : Nat, a < 6 → b < 6 → s = nI a → t = nI b → z ≤ 12 → y ≤ 12 → m.1 8 a = nI z → m.1 8 b = nI y → (rB z i n && rB y j n) = false → Z (some (.int (-3))) (fndX m 2)) (h4 : ∀ a b z y p q k : Nat, a < 6 → b < 6 → s = nI a → t = nI b → z ≤ 12 → y ≤ 12 → m.1 8 a = nI z → m.1 8 b = nI y → i = nI p → j = nI q → n = nI k → p + k ≤ z → q + k ≤ y → Z (some (.int 1)) (dx_pR m (20 + b) (va_cpy (m.1 (20 + a)) (m.1 (20 + b)) p q k))) : dx_Sem dx_P lx_X (d + 3) 33 [.ref 0, .int s, .int i, .int t, .int j, .int n] m Z := by
  refine dx_sem km_X3_copy rfl rfl ?_
  refine dx_blk 0 (c' := (0, [.ref 0, .int s, .int i, .int t, .int j, .int n], [], m)) rfl ?_
  refine dx_blk 1 (c' := (1, [.ref 0, .int s, .int i, .int t, .int j, .int n], [.int s], m)) rfl ?_
  refine dx_call (id := 66) (as := [.int s]) (rest := []) rfl ?_
  refine sX3_isSheet s _ ?_
  refine dx_blk 0 (c' := (4, [.ref 0, .int s, .int i, .int t, .int j, .int n], [.int (bI (inI s 0 5))], m)) rfl ?_
  refine dx_brB (B := (inI s 0 5)) (a := 14) (b := 7) (L := [.ref 0, .int s, .int i, .int t, .int j, .int n]) (st := []) (m := m) rfl (fun q4 => ?_) (fun q4 => ?_)
  · refine dx_blk 1 (c' := (15, [.ref 0, .int s, .int i, .int t, .int j, .int n], [.int (-1)], m)) rfl ?_
    exact dx_ret (r := some (.int (-1))) rfl (h1 (by simp_all))
  · refine dx_blk 1 (c' := (8, [.ref 0, .int s, .int i, .int t, .int j, .int n], [.int t], m)) rfl ?_
    refine dx_call (id := 66) (as := [.int t]) (rest := []) rfl ?_
    refine sX3_isSheet t _ ?_
    refine dx_blk 0 (c' := (11, [.ref 0, .int s, .int i, .int t, .int j, .int n], [.int (bI (inI t 0 5))], m)) rfl ?_
    refine dx_brB (B := (inI t 0 5)) (a := 14) (b := 16) (L := [.ref 0, .int s, .int i, .int t, .int j, .int n]) (st := []) (m := m) rfl (fun q11 => ?_) (fun q11 => ?_)
    · refine dx_blk 1 (c' := (15, [.ref 0, .int s, .int i, .int t, .int j, .int n], [.int (-1)], m)) rfl ?_
      exact dx_ret (r := some (.int (-1))) rfl (h1 (by simp_all))
    · obtain ⟨a, ha0, rfl⟩ := in_N (n := 5) rfl q4
      have ha : a < 6 := by omega
      obtain ⟨b, hb0, rfl⟩ := in_N (n := 5) rfl q11
      have hb : b < 6 := by omega
      refine dx_blk 3 (c' := (21, [.ref 0, .int (nI a), .int i, .int (nI b), .int j, .int n], [.int (nI a), .ref 8], m)) rfl ?_
      refine dx_aldN a rfl rfl rfl rfl (by omega) ?_
      refine dx_blk 0 (c' := (22, [.ref 0, .int (nI a), .int i, .int (nI b), .int j, .int n], [.int (m.1 8 a)], m)) rfl ?_
      refine dx_blk 1 (c' := (23, [.ref 0, .int (nI a), .int i, .int (nI b), .int j, .int n], [.int (-1), .int (m.1 8 a)], m)) rfl ?_
      refine dx_br (q := (m.1 8 a) = (-1)) (a := 36) (b := 26) (L := [.ref 0, .int (nI a), .int i, .int (nI b), .int j, .int n]) (st := []) (m := m) rfl (fun h23 => ?_) (fun h23 => ?_)
      · refine dx_blk 2 (c' := (38, [.ref 0, .int (nI a), .int i, .int (nI b), .int j, .int n], [.int 1, .ref 0], m)) rfl ?_
        refine dx_call (id := 70) (as := [.ref 0, .int 1]) (rest := []) rfl ?_
        refine sX3_find 1 (by decide) _ ?_
        refine dx_blk 0 (c' := (41, [.ref 0, .int (nI a), .int i, .int (nI b), .int j, .int n], [.int (-3)], (fndX m 1))) rfl ?_
        exact dx_ret (r := some (.int (-3))) rfl (h2 a b ha hb rfl rfl (by first | exact Or.inl (by assumption) | exact Or.inr (by assumption)))
      · refine dx_blk 3 (c' := (31, [.ref 0, .int (nI a), .int i, .int (nI b), .int j, .int n], [.int (nI b), .ref 8], m)) rfl ?_
        refine dx_aldN b rfl rfl rfl rfl (by omega) ?_
        refine dx_blk 0 (c' := (32, [.ref 0, .int (nI a), .int i, .int (nI b), .int j, .int n], [.int (m.1 8 b)], m)) rfl ?_
        refine dx_blk 1 (c' := (33, [.ref 0, .int (nI a), .int i, .int (nI b), .int j, .int n], [.int (-1), .int (m.1 8 b)], m)) rfl ?_
        refine dx_br (q := (m.1 8 b) = (-1)) (a := 36) (b := 42) (L := [.ref 0, .int (nI a), .int i, .int (nI b), .int j, .int n]) (st := []) (m := m) rfl (fun h33 => ?_) (fun h33 => ?_)
        · refine dx_blk 2 (c' := (38, [.ref 0, .int (nI a), .int i, .int (nI b), .int j, .int n], [.int 1, .ref 0], m)) rfl ?_
          refine dx_call (id := 70) (as := [.ref 0, .int 1]) (rest := []) rfl ?_
          refine sX3_find 1 (by decide) _ ?_
          refine dx_blk 0 (c' := (41, [.ref 0, .int (nI a), .int i, .int (nI b), .int j, .int n], [.int (-3)], (fndX m 1))) rfl ?_
          exact dx_ret (r := some (.int (-3))) rfl (h2 a b ha hb rfl rfl (by first | exact Or.inl (by assumption) | exact Or.inr (by assumption)))
        · obtain ⟨z, hz1, ez⟩ := szC (hz a ha) (by assumption)
          obtain ⟨y, hy1, ey⟩ := szC (hz b hb) (by assumption)
          refine dx_blk 4 (c' := (47, [.ref 0, .int (nI a), .int i, .int (nI b), .int j, .int n], [.int n, .int i, .int (nI a), .ref 0], m)) rfl ?_
          refine dx_call (id := 69) (as := [.ref 0, .int (nI a), .int i, .int n]) (rest := []) rfl ?_
          refine sX3_reaches _ (a := a) (z := z) (by omega) (by omega) (by assumption) i n ?_
          refine dx_blk 0 (c' := (50, [.ref 0, .int (nI a), .int i, .int (nI b), .int j, .int n], [.int (bI (rB z i n))], m)) rfl ?_
          refine dx_brB (B := (rB z i n)) (a := 65) (b := 53) (L := [.ref 0, .int (nI a), .int i, .int (nI b), .int j, .int n]) (st := []) (m := m) rfl (fun h50 => ?_) (fun h50 => ?_)
          · refine dx_blk 2 (c' := (67, [.ref 0, .int (nI a), .int i, .int (nI b), .int j, .int n], [.int 2, .ref 0], m)) rfl ?_
            refine dx_call (id := 70) (as := [.ref 0, .int 2]) (rest := []) rfl ?_
            refine sX3_find 2 (by decide) _ ?_
            refine dx_blk 0 (c' := (70, [.ref 0, .int (nI a), .int i, .int (nI b), .int j, .int n], [.int (-3)], (fndX m 2))) rfl ?_
            exact dx_ret (r := some (.int (-3))) rfl (h3 a b z y ha hb rfl rfl hz1 hy1 ez ey (by simp_all))
          · refine dx_blk 4 (c' := (59, [.ref 0, .int (nI a), .int i, .int (nI b), .int j, .int n], [.int n, .int j, .int (nI b), .ref 0], m)) rfl ?_
            refine dx_call (id := 69) (as := [.ref 0, .int (nI b), .int j, .int n]) (rest := []) rfl ?_
            refine sX3_reaches _ (a := b) (z := y) (by omega) (by omega) (by assumption) j n ?_
            refine dx_blk 0 (c' := (62, [.ref 0, .int (nI a), .int i, .int (nI b), .int j, .int n], [.int (bI (rB y j n))], m)) rfl ?_
            refine dx_brB (B := (rB y j n)) (a := 65) (b := 71) (L := [.ref 0, .int (nI a), .int i, .int (nI b), .int j, .int n]) (st := []) (m := m) rfl (fun h62 => ?_) (fun h62 => ?_)
            · refine dx_blk 2 (c' := (67, [.ref 0, .int (nI a), .int i, .int (nI b), .int j, .int n], [.int 2, .ref 0], m)) rfl ?_
              refine dx_call (id := 70) (as := [.ref 0, .int 2]) (rest := []) rfl ?_
              refine sX3_find 2 (by decide) _ ?_
              refine dx_blk 0 (c' := (70, [.ref 0, .int (nI a), .int i, .int (nI b), .int j, .int n], [.int (-3)], (fndX m 2))) rfl ?_
              exact dx_ret (r := some (.int (-3))) rfl (h3 a b z y ha hb rfl rfl hz1 hy1 ez ey (by simp_all))
            · obtain ⟨p, k, rfl, rfl, hpk⟩ := rB_of hz1 (by assumption)
              obtain ⟨q, k2, rfl, ek, hqk⟩ := rB_of hy1 (by assumption)
              obtain rfl : k = k2 := (nI_eq (by omega) (by omega)).mp ek
              refine dx_blk 3 (c' := (76, [.ref 0, .int (nI a), .int (nI p), .int (nI b), .int (nI q), .int (nI k)], [.int (nI a), .ref 7], m)) rfl ?_
              refine dx_aadN a (q := (20 + a)) rfl rfl (Or.inr rfl) rfl (by omega) (lx_rs7 a (by omega)) ?_
              refine dx_blk 0 (c' := (77, [.ref 0, .int (nI a), .int (nI p), .int (nI b), .int (nI q), .int (nI k)], [.ref (20 + a)], m)) rfl ?_
              refine dx_blk 4 (c' := (83, [.ref 0, .int (nI a), .int (nI p), .int (nI b), .int (nI q), .int (nI k)], [.int (nI b), .ref 7, .int (nI p), .ref (20 + a)], m)) rfl ?_
              refine dx_aadN b (q := (20 + b)) rfl rfl (Or.inr rfl) rfl (by omega) (lx_rs7 b (by omega)) ?_
              refine dx_blk 0 (c' := (84, [.ref 0, .int (nI a), .int (nI p), .int (nI b), .int (nI q), .int (nI k)], [.ref (20 + b), .int (nI p), .ref (20 + a)], m)) rfl ?_
              refine dx_blk 2 (c' := (88, [.ref 0, .int (nI a), .int (nI p), .int (nI b), .int (nI q), .int (nI k)], [.int (nI k), .int (nI q), .ref (20 + b), .int (nI p), .ref (20 + a)], m)) rfl ?_
              refine dx_cpN (r := (.invokestatic 84, 3, .null, 4, 0, 0, [])) (h := 20 + a) (k := 20 + b) (n0 := 12) (n1 := 12) (p := p) (q := q) (c := k) rfl rfl rfl (lx_row a ha) (lx_row b hb) (by decide) (by decide) (by omega) (by omega) (fun i hi => hf a (p + i) ha (by omega)) ?_
              refine dx_blk 1 (c' := (92, [.ref 0, .int (nI a), .int (nI p), .int (nI b), .int (nI q), .int (nI k)], [.int 1], dx_pR m (20 + b) (va_cpy (m.1 (20 + a)) (m.1 (20 + b)) p q k))) rfl ?_
              exact dx_ret (r := some (.int 1)) rfl (h4 a b z y p q k ha hb rfl rfl hz1 hy1 ez ey rfl rfl rfl hpk hqk)
set_option maxRecDepth 20000 in
theorem sX4_copy {d : Nat} (m : dx_M) (hz : ∀ a : Nat, a < 6 → szP (m.1 3 a)) (hb8 : ∀ c : Nat, c < 72 → (m.1 4 c).toInt8.toInt32 = m.1 4 c) (s i t j n : Int32) {Z : Option Value → dx_M → Prop} (h1 : (inI s 0 5 && inI t 0 5) = false → Z (some (.int (-1))) m) (h2 : ∀ a b : Nat, a < 6 → b < 6 → s = nI a → t = nI b → (m.1 3 a = -1 ∨ m.1 3 b = -1) → Z (some (.int (-3))) (fndM m 1)) (h3 : ∀ a b z y : Nat, a < 6 → b < 6 → s = nI a → t = nI b → z ≤ 12 → y ≤ 12 → m.1 3 a = nI z → m.1 3 b = nI y → (rB z i n && rB y j n) = false → Z (some (.int (-3))) (fndM m 2)) (h4 : ∀ a b z y p q k : Nat, a < 6 → b < 6 → s = nI a → t = nI b → z ≤ 12 → y ≤ 12 → m.1 3 a = nI z → m.1 3 b = nI y → i = nI p → j = nI q → n = nI k → p + k ≤ z → q + k ≤ y → Z (some (.int 1)) (dx_pR (dx_pR m 5 (fa_fill (fun c => m.1 4 (12 * a + p + c)) (m.1 5) k)) 4 (fb_put (m.1 4) (fun c => m.1 4 (12 * a + p + c)) (12 * b + q) k))) : dx_Sem dx_P lx_M (d + 3) 100 [.ref 0, .int s, .int i, .int t, .int j, .int n] m Z := by
  refine dx_sem km_X4_copy rfl rfl ?_
  refine dx_blk 0 (c' := (0, [.ref 0, .int s, .int i, .int t, .int j, .int n, .null], [], m)) rfl ?_
  refine dx_blk 1 (c' := (1, [.ref 0, .int s, .int i, .int t, .int j, .int n, .null], [.int s], m)) rfl ?_
  refine dx_call (id := 96) (as := [.int s]) (rest := []) rfl ?_
  refine sX4_isSheet s _ ?_
  refine dx_blk 0 (c' := (4, [.ref 0, .int s, .int i, .int t, .int j, .int n, .null], [.int (bI (inI s 0 5))], m)) rfl ?_
  refine dx_brB (B := (inI s 0 5)) (a := 14) (b := 7) (L := [.ref 0, .int s, .int i, .int t, .int j, .int n, .null]) (st := []) (m := m) rfl (fun q4 => ?_) (fun q4 => ?_)
  · refine dx_blk 1 (c' := (15, [.ref 0, .int s, .int i, .int t, .int j, .int n, .null], [.int (-1)], m)) rfl ?_
    exact dx_ret (r := some (.int (-1))) rfl (h1 (by simp_all))
  · refine dx_blk 1 (c' := (8, [.ref 0, .int s, .int i, .int t, .int j, .int n, .null], [.int t], m)) rfl ?_
    refine dx_call (id := 96) (as := [.int t]) (rest := []) rfl ?_
    refine sX4_isSheet t _ ?_
    refine dx_blk 0 (c' := (11, [.ref 0, .int s, .int i, .int t, .int j, .int n, .null], [.int (bI (inI t 0 5))], m)) rfl ?_
    refine dx_brB (B := (inI t 0 5)) (a := 14) (b := 16) (L := [.ref 0, .int s, .int i, .int t, .int j, .int n, .null]) (st := []) (m := m) rfl (fun q11 => ?_) (fun q11 => ?_)
    · refine dx_blk 1 (c' := (15, [.ref 0, .int s, .int i, .int t, .int j, .int n, .null], [.int (-1)], m)) rfl ?_
      exact dx_ret (r := some (.int (-1))) rfl (h1 (by simp_all))
    · obtain ⟨a, ha0, rfl⟩ := in_N (n := 5) rfl q4
      have ha : a < 6 := by omega
      obtain ⟨b, hb0, rfl⟩ := in_N (n := 5) rfl q11
      have hb : b < 6 := by omega
      refine dx_blk 3 (c' := (21, [.ref 0, .int (nI a), .int i, .int (nI b), .int j, .int n, .null], [.int (nI a), .ref 3], m)) rfl ?_
      refine dx_aldN a rfl rfl rfl rfl (by omega) ?_
      refine dx_blk 0 (c' := (22, [.ref 0, .int (nI a), .int i, .int (nI b), .int j, .int n, .null], [.int (m.1 3 a)], m)) rfl ?_
      refine dx_br (q := (m.1 3 a) < 0) (a := 34) (b := 25) (L := [.ref 0, .int (nI a), .int i, .int (nI b), .int j, .int n, .null]) (st := []) (m := m) rfl (fun h22 => ?_) (fun h22 => ?_)
      · refine dx_blk 2 (c' := (36, [.ref 0, .int (nI a), .int i, .int (nI b), .int j, .int n, .null], [.int 1, .ref 0], m)) rfl ?_
        refine dx_call (id := 83) (as := [.ref 0, .int 1]) (rest := []) rfl ?_
        refine sX4_meets 1 (by decide) _ ?_
        refine dx_blk 0 (c' := (39, [.ref 0, .int (nI a), .int i, .int (nI b), .int j, .int n, .null], [.int (-3)], (fndM m 1))) rfl ?_
        exact dx_ret (r := some (.int (-3))) rfl (h2 a b ha hb rfl rfl (by first | exact Or.inl (szD (hz a ha) (by assumption)) | exact Or.inr (szA (hz b hb) (by assumption))))
      · refine dx_blk 3 (c' := (30, [.ref 0, .int (nI a), .int i, .int (nI b), .int j, .int n, .null], [.int (nI b), .ref 3], m)) rfl ?_
        refine dx_aldN b rfl rfl rfl rfl (by omega) ?_
        refine dx_blk 0 (c' := (31, [.ref 0, .int (nI a), .int i, .int (nI b), .int j, .int n, .null], [.int (m.1 3 b)], m)) rfl ?_
        refine dx_br (q := 0 ≤ (m.1 3 b)) (a := 40) (b := 34) (L := [.ref 0, .int (nI a), .int i, .int (nI b), .int j, .int n, .null]) (st := []) (m := m) rfl (fun h31 => ?_) (fun h31 => ?_)
        · obtain ⟨z, hz1, ez⟩ := szE (hz a ha) (by assumption)
          obtain ⟨y, hy1, ey⟩ := szB (hz b hb) (by assumption)
          refine dx_blk 1 (c' := (41, [.ref 0, .int (nI a), .int i, .int (nI b), .int j, .int n, .null], [.int i], m)) rfl ?_
          refine dx_br (q := i < 0) (a := 89) (b := 44) (L := [.ref 0, .int (nI a), .int i, .int (nI b), .int j, .int n, .null]) (st := []) (m := m) rfl (fun h41 => ?_) (fun h41 => ?_)
          · refine dx_blk 2 (c' := (91, [.ref 0, .int (nI a), .int i, .int (nI b), .int j, .int n, .null], [.int 2, .ref 0], m)) rfl ?_
            refine dx_call (id := 83) (as := [.ref 0, .int 2]) (rest := []) rfl ?_
            refine sX4_meets 2 (by decide) _ ?_
            refine dx_blk 0 (c' := (94, [.ref 0, .int (nI a), .int i, .int (nI b), .int j, .int n, .null], [.int (-3)], (fndM m 2))) rfl ?_
            exact dx_ret (r := some (.int (-3))) rfl (h3 a b z y ha hb rfl rfl hz1 hy1 ez ey (by first | (rw [rB_f1 (by assumption)]; rfl) | (rw [rB_f1 (z := y) (by assumption), Bool.and_false]) | (rw [rB_f2 (by assumption)]; rfl) | (rw [rB_f5 hz1 (by assumption) (by assumption) (by rw [← ez]; assumption)]; rfl) | (rw [rB_f5 hy1 (by assumption) (by assumption) (by rw [← ey, fa_lt64]; rw [fa_le64] at *; omega), Bool.and_false])))
          · refine dx_blk 1 (c' := (46, [.ref 0, .int (nI a), .int i, .int (nI b), .int j, .int n, .null], [.int j], m)) rfl ?_
            refine dx_br (q := j < 0) (a := 89) (b := 49) (L := [.ref 0, .int (nI a), .int i, .int (nI b), .int j, .int n, .null]) (st := []) (m := m) rfl (fun h46 => ?_) (fun h46 => ?_)
            · refine dx_blk 2 (c' := (91, [.ref 0, .int (nI a), .int i, .int (nI b), .int j, .int n, .null], [.int 2, .ref 0], m)) rfl ?_
              refine dx_call (id := 83) (as := [.ref 0, .int 2]) (rest := []) rfl ?_
              refine sX4_meets 2 (by decide) _ ?_
              refine dx_blk 0 (c' := (94, [.ref 0, .int (nI a), .int i, .int (nI b), .int j, .int n, .null], [.int (-3)], (fndM m 2))) rfl ?_
              exact dx_ret (r := some (.int (-3))) rfl (h3 a b z y ha hb rfl rfl hz1 hy1 ez ey (by first | (rw [rB_f1 (by assumption)]; rfl) | (rw [rB_f1 (z := y) (by assumption), Bool.and_false]) | (rw [rB_f2 (by assumption)]; rfl) | (rw [rB_f5 hz1 (by assumption) (by assumption) (by rw [← ez]; assumption)]; rfl) | (rw [rB_f5 hy1 (by assumption) (by assumption) (by rw [← ey, fa_lt64]; rw [fa_le64] at *; omega), Bool.and_false])))
            · refine dx_blk 1 (c' := (51, [.ref 0, .int (nI a), .int i, .int (nI b), .int j, .int n, .null], [.int n], m)) rfl ?_
              refine dx_br (q := n < 0) (a := 89) (b := 54) (L := [.ref 0, .int (nI a), .int i, .int (nI b), .int j, .int n, .null]) (st := []) (m := m) rfl (fun h51 => ?_) (fun h51 => ?_)
              · refine dx_blk 2 (c' := (91, [.ref 0, .int (nI a), .int i, .int (nI b), .int j, .int n, .null], [.int 2, .ref 0], m)) rfl ?_
                refine dx_call (id := 83) (as := [.ref 0, .int 2]) (rest := []) rfl ?_
                refine sX4_meets 2 (by decide) _ ?_
                refine dx_blk 0 (c' := (94, [.ref 0, .int (nI a), .int i, .int (nI b), .int j, .int n, .null], [.int (-3)], (fndM m 2))) rfl ?_
                exact dx_ret (r := some (.int (-3))) rfl (h3 a b z y ha hb rfl rfl hz1 hy1 ez ey (by first | (rw [rB_f1 (by assumption)]; rfl) | (rw [rB_f1 (z := y) (by assumption), Bool.and_false]) | (rw [rB_f2 (by assumption)]; rfl) | (rw [rB_f5 hz1 (by assumption) (by assumption) (by rw [← ez]; assumption)]; rfl) | (rw [rB_f5 hy1 (by assumption) (by assumption) (by rw [← ey, fa_lt64]; rw [fa_le64] at *; omega), Bool.and_false])))
              · refine dx_blk 8 (c' := (65, [.ref 0, .int (nI a), .int i, .int (nI b), .int j, .int n, .null], [.int (nI a), .ref 3, .long (i.toInt64 + n.toInt64)], m)) rfl ?_
                refine dx_aldN a rfl rfl rfl rfl (by omega) ?_
                refine dx_blk 0 (c' := (66, [.ref 0, .int (nI a), .int i, .int (nI b), .int j, .int n, .null], [.int (m.1 3 a), .long (i.toInt64 + n.toInt64)], m)) rfl ?_
                refine dx_blk 2 (c' := (68, [.ref 0, .int (nI a), .int i, .int (nI b), .int j, .int n, .null], [.int (lg_cmp (i.toInt64 + n.toInt64) ((m.1 3 a).toInt64))], m)) rfl ?_
                refine dx_brQ (q := 0 < (lg_cmp (i.toInt64 + n.toInt64) ((m.1 3 a).toInt64))) (a := 89) (b := 71) (L := [.ref 0, .int (nI a), .int i, .int (nI b), .int j, .int n, .null]) (st := []) (m := m) (lc_gt _ _) rfl (fun h68 => ?_) (fun h68 => ?_)
                · refine dx_blk 2 (c' := (91, [.ref 0, .int (nI a), .int i, .int (nI b), .int j, .int n, .null], [.int 2, .ref 0], m)) rfl ?_
                  refine dx_call (id := 83) (as := [.ref 0, .int 2]) (rest := []) rfl ?_
                  refine sX4_meets 2 (by decide) _ ?_
                  refine dx_blk 0 (c' := (94, [.ref 0, .int (nI a), .int i, .int (nI b), .int j, .int n, .null], [.int (-3)], (fndM m 2))) rfl ?_
                  exact dx_ret (r := some (.int (-3))) rfl (h3 a b z y ha hb rfl rfl hz1 hy1 ez ey (by first | (rw [rB_f1 (by assumption)]; rfl) | (rw [rB_f1 (z := y) (by assumption), Bool.and_false]) | (rw [rB_f2 (by assumption)]; rfl) | (rw [rB_f5 hz1 (by assumption) (by assumption) (by rw [← ez]; assumption)]; rfl) | (rw [rB_f5 hy1 (by assumption) (by assumption) (by rw [← ey, fa_lt64]; rw [fa_le64] at *; omega), Bool.and_false])))
                · refine dx_blk 8 (c' := (83, [.ref 0, .int (nI a), .int i, .int (nI b), .int j, .int n, .null], [.int (nI b), .ref 3, .long (j.toInt64 + n.toInt64)], m)) rfl ?_
                  refine dx_aldN b rfl rfl rfl rfl (by omega) ?_
                  refine dx_blk 0 (c' := (84, [.ref 0, .int (nI a), .int i, .int (nI b), .int j, .int n, .null], [.int (m.1 3 b), .long (j.toInt64 + n.toInt64)], m)) rfl ?_
                  refine dx_blk 2 (c' := (86, [.ref 0, .int (nI a), .int i, .int (nI b), .int j, .int n, .null], [.int (lg_cmp (j.toInt64 + n.toInt64) ((m.1 3 b).toInt64))], m)) rfl ?_
                  refine dx_brQ (q := (lg_cmp (j.toInt64 + n.toInt64) ((m.1 3 b).toInt64)) ≤ 0) (a := 95) (b := 89) (L := [.ref 0, .int (nI a), .int i, .int (nI b), .int j, .int n, .null]) (st := []) (m := m) (lc_le _ _) rfl (fun h86 => ?_) (fun h86 => ?_)
                  · obtain ⟨p, k, rfl, rfl, hpk⟩ := rB_of hz1 (rB_t5 hz1 h41 h51 (by rw [← ez]; exact h68))
                    obtain ⟨q, k2, rfl, ek, hqk⟩ := rB_of hy1 (rB_t5 hy1 h46 h51 (by rw [← ey, fa_lt64]; rw [fa_le64] at h86; omega))
                    obtain rfl : k = k2 := (nI_eq (by omega) (by omega)).mp ek
                    refine dx_blk 2 (c' := (98, [.ref 0, .int (nI a), .int (nI p), .int (nI b), .int (nI q), .int (nI k), .int 0], [], m)) rfl ?_
                    refine dx_mem (m' := dx_pR m 5 (fa_fill (fun c => m.1 4 (12 * a + p + c)) (m.1 5) 0)) (by rw [fa_fill_0]; exact (dx_pR_self _ 5).symm) ?_
                    refine dx_blk 0 (c' := (98, [.ref 0, .int (nI a), .int (nI p), .int (nI b), .int (nI q), .int (nI k), .int (nI 0)], [], dx_pR m 5 (fa_fill (fun c => m.1 4 (12 * a + p + c)) (m.1 5) 0))) rfl ?_
                    refine dx_for0 (fun (i : Nat) => ((98, [.ref 0, .int (nI a), .int (nI p), .int (nI b), .int (nI q), .int (nI k), .int (nI i)], [], dx_pR m 5 (fa_fill (fun c => m.1 4 (12 * a + p + c)) (m.1 5) i)) : dx_F)) k (fun i hi hk => ?_) ?_
                    · refine dx_blk 0 (c' := (98, [.ref 0, .int (nI a), .int (nI p), .int (nI b), .int (nI q), .int (nI k), .int (nI i)], [], dx_pR m 5 (fa_fill (fun c => m.1 4 (12 * a + p + c)) (m.1 5) i))) rfl ?_
                      refine dx_blk 2 (c' := (102, [.ref 0, .int (nI a), .int (nI p), .int (nI b), .int (nI q), .int (nI k), .int (nI i)], [.int (nI k), .int (nI i)], dx_pR m 5 (fa_fill (fun c => m.1 4 (12 * a + p + c)) (m.1 5) i))) rfl ?_
                      refine dx_br (q := (nI k) ≤ (nI i)) (a := 132) (b := 105) (L := [.ref 0, .int (nI a), .int (nI p), .int (nI b), .int (nI q), .int (nI k), .int (nI i)]) (st := []) (m := dx_pR m 5 (fa_fill (fun c => m.1 4 (12 * a + p + c)) (m.1 5) i)) rfl (fun h => absurd h (nI_ge hi (by omega))) (fun _ => ?_)
                      refine dx_blk 12 (c' := (124, [.ref 0, .int (nI a), .int (nI p), .int (nI b), .int (nI q), .int (nI k), .int (nI i)], [.int (((12 * (nI a)) + (nI p)) + (nI i)), .ref 4, .int (nI i), .ref 5], dx_pR m 5 (fa_fill (fun c => m.1 4 (12 * a + p + c)) (m.1 5) i))) rfl ?_
                      refine dx_bldN (12 * a + p + i) rfl rfl (Or.inl rfl) (nI_ix3 a p i) (by omega) ?_
                      refine dx_blk 0 (c' := (125, [.ref 0, .int (nI a), .int (nI p), .int (nI b), .int (nI q), .int (nI k), .int (nI i)], [.int (m.1 4 (12 * a + p + i)), .int (nI i), .ref 5], dx_pR m 5 (fa_fill (fun c => m.1 4 (12 * a + p + c)) (m.1 5) i))) rfl ?_
                      refine dx_bstB i rfl rfl rfl rfl (by omega) ?_
                      refine dx_blk 0 (c' := (126, [.ref 0, .int (nI a), .int (nI p), .int (nI b), .int (nI q), .int (nI k), .int (nI i)], [], dx_pI (dx_pR m 5 (fa_fill (fun c => m.1 4 (12 * a + p + c)) (m.1 5) i)) 5 i ((m.1 4 (12 * a + p + i)).toInt8.toInt32))) rfl ?_
                      refine dx_blk 2 (c' := (98, [.ref 0, .int (nI a), .int (nI p), .int (nI b), .int (nI q), .int (nI k), .int ((nI i) + 1)], [], dx_pI (dx_pR m 5 (fa_fill (fun c => m.1 4 (12 * a + p + c)) (m.1 5) i)) 5 i ((m.1 4 (12 * a + p + i)).toInt8.toInt32))) rfl ?_
                      rw [dx_pI_pR, show (m.1 4 (12 * a + p + i)).toInt8.toInt32 = (fun c => m.1 4 (12 * a + p + c)) i from hb8 _ (by omega), fa_fill_succ, ← nI_succ]
                      exact hk
                    · refine dx_blk 0 (c' := (98, [.ref 0, .int (nI a), .int (nI p), .int (nI b), .int (nI q), .int (nI k), .int (nI k)], [], dx_pR m 5 (fa_fill (fun c => m.1 4 (12 * a + p + c)) (m.1 5) k))) rfl ?_
                      refine dx_blk 2 (c' := (102, [.ref 0, .int (nI a), .int (nI p), .int (nI b), .int (nI q), .int (nI k), .int (nI k)], [.int (nI k), .int (nI k)], dx_pR m 5 (fa_fill (fun c => m.1 4 (12 * a + p + c)) (m.1 5) k))) rfl ?_
                      refine dx_br (q := (nI k) ≤ (nI k)) (a := 132) (b := 105) (L := [.ref 0, .int (nI a), .int (nI p), .int (nI b), .int (nI q), .int (nI k), .int (nI k)]) (st := []) (m := dx_pR m 5 (fa_fill (fun c => m.1 4 (12 * a + p + c)) (m.1 5) k)) rfl (fun _ => ?_) (fun h => absurd (nI_le (Nat.le_refl _) (by omega)) h)
                      refine dx_blk 2 (c' := (135, [.ref 0, .int (nI a), .int (nI p), .int (nI b), .int (nI q), .int (nI k), .int 0], [], dx_pR m 5 (fa_fill (fun c => m.1 4 (12 * a + p + c)) (m.1 5) k))) rfl ?_
                      refine dx_mem (m' := dx_pR (dx_pR m 5 (fa_fill (fun c => m.1 4 (12 * a + p + c)) (m.1 5) k)) 4 (fb_put (m.1 4) (fun c => m.1 4 (12 * a + p + c)) (12 * b + q) 0)) (by rw [fb_put_0]; exact (dx_pR_self _ 4).symm) ?_
                      refine dx_blk 0 (c' := (135, [.ref 0, .int (nI a), .int (nI p), .int (nI b), .int (nI q), .int (nI k), .int (nI 0)], [], dx_pR (dx_pR m 5 (fa_fill (fun c => m.1 4 (12 * a + p + c)) (m.1 5) k)) 4 (fb_put (m.1 4) (fun c => m.1 4 (12 * a + p + c)) (12 * b + q) 0))) rfl ?_
                      refine dx_for0 (fun (i : Nat) => ((135, [.ref 0, .int (nI a), .int (nI p), .int (nI b), .int (nI q), .int (nI k), .int (nI i)], [], dx_pR (dx_pR m 5 (fa_fill (fun c => m.1 4 (12 * a + p + c)) (m.1 5) k)) 4 (fb_put (m.1 4) (fun c => m.1 4 (12 * a + p + c)) (12 * b + q) i)) : dx_F)) k (fun i hi hk => ?_) ?_
                      · refine dx_blk 0 (c' := (135, [.ref 0, .int (nI a), .int (nI p), .int (nI b), .int (nI q), .int (nI k), .int (nI i)], [], dx_pR (dx_pR m 5 (fa_fill (fun c => m.1 4 (12 * a + p + c)) (m.1 5) k)) 4 (fb_put (m.1 4) (fun c => m.1 4 (12 * a + p + c)) (12 * b + q) i))) rfl ?_
                        refine dx_blk 2 (c' := (139, [.ref 0, .int (nI a), .int (nI p), .int (nI b), .int (nI q), .int (nI k), .int (nI i)], [.int (nI k), .int (nI i)], dx_pR (dx_pR m 5 (fa_fill (fun c => m.1 4 (12 * a + p + c)) (m.1 5) k)) 4 (fb_put (m.1 4) (fun c => m.1 4 (12 * a + p + c)) (12 * b + q) i))) rfl ?_
                        refine dx_br (q := (nI k) ≤ (nI i)) (a := 170) (b := 142) (L := [.ref 0, .int (nI a), .int (nI p), .int (nI b), .int (nI q), .int (nI k), .int (nI i)]) (st := []) (m := dx_pR (dx_pR m 5 (fa_fill (fun c => m.1 4 (12 * a + p + c)) (m.1 5) k)) 4 (fb_put (m.1 4) (fun c => m.1 4 (12 * a + p + c)) (12 * b + q) i)) rfl (fun h => absurd h (nI_ge hi (by omega))) (fun _ => ?_)
                        refine dx_blk 12 (c' := (162, [.ref 0, .int (nI a), .int (nI p), .int (nI b), .int (nI q), .int (nI k), .int (nI i)], [.int (nI i), .ref 5, .int (((12 * (nI b)) + (nI q)) + (nI i)), .ref 4], dx_pR (dx_pR m 5 (fa_fill (fun c => m.1 4 (12 * a + p + c)) (m.1 5) k)) 4 (fb_put (m.1 4) (fun c => m.1 4 (12 * a + p + c)) (12 * b + q) i))) rfl ?_
                        refine dx_bldN i rfl rfl (Or.inl rfl) rfl (by omega) ?_
                        refine dx_blk 0 (c' := (163, [.ref 0, .int (nI a), .int (nI p), .int (nI b), .int (nI q), .int (nI k), .int (nI i)], [.int ((fa_fill (fun c => m.1 4 (12 * a + p + c)) (m.1 5) k) i), .int (((12 * (nI b)) + (nI q)) + (nI i)), .ref 4], dx_pR (dx_pR m 5 (fa_fill (fun c => m.1 4 (12 * a + p + c)) (m.1 5) k)) 4 (fb_put (m.1 4) (fun c => m.1 4 (12 * a + p + c)) (12 * b + q) i))) rfl ?_
                        refine dx_bstB (12 * b + q + i) rfl rfl rfl (nI_ix3 b q i) (by omega) ?_
                        refine dx_blk 0 (c' := (164, [.ref 0, .int (nI a), .int (nI p), .int (nI b), .int (nI q), .int (nI k), .int (nI i)], [], dx_pI (dx_pR (dx_pR m 5 (fa_fill (fun c => m.1 4 (12 * a + p + c)) (m.1 5) k)) 4 (fb_put (m.1 4) (fun c => m.1 4 (12 * a + p + c)) (12 * b + q) i)) 4 (12 * b + q + i) (((fa_fill (fun c => m.1 4 (12 * a + p + c)) (m.1 5) k) i).toInt8.toInt32))) rfl ?_
                        refine dx_blk 2 (c' := (135, [.ref 0, .int (nI a), .int (nI p), .int (nI b), .int (nI q), .int (nI k), .int ((nI i) + 1)], [], dx_pI (dx_pR (dx_pR m 5 (fa_fill (fun c => m.1 4 (12 * a + p + c)) (m.1 5) k)) 4 (fb_put (m.1 4) (fun c => m.1 4 (12 * a + p + c)) (12 * b + q) i)) 4 (12 * b + q + i) (((fa_fill (fun c => m.1 4 (12 * a + p + c)) (m.1 5) k) i).toInt8.toInt32))) rfl ?_
                        rw [dx_pI_pR, fa_fill_in hi, show (m.1 4 (12 * a + p + i)).toInt8.toInt32 = (fun c => m.1 4 (12 * a + p + c)) i from hb8 _ (by omega), fb_put_succ, ← nI_succ]
                        exact hk
                      · refine dx_blk 0 (c' := (135, [.ref 0, .int (nI a), .int (nI p), .int (nI b), .int (nI q), .int (nI k), .int (nI k)], [], dx_pR (dx_pR m 5 (fa_fill (fun c => m.1 4 (12 * a + p + c)) (m.1 5) k)) 4 (fb_put (m.1 4) (fun c => m.1 4 (12 * a + p + c)) (12 * b + q) k))) rfl ?_
                        refine dx_blk 2 (c' := (139, [.ref 0, .int (nI a), .int (nI p), .int (nI b), .int (nI q), .int (nI k), .int (nI k)], [.int (nI k), .int (nI k)], dx_pR (dx_pR m 5 (fa_fill (fun c => m.1 4 (12 * a + p + c)) (m.1 5) k)) 4 (fb_put (m.1 4) (fun c => m.1 4 (12 * a + p + c)) (12 * b + q) k))) rfl ?_
                        refine dx_br (q := (nI k) ≤ (nI k)) (a := 170) (b := 142) (L := [.ref 0, .int (nI a), .int (nI p), .int (nI b), .int (nI q), .int (nI k), .int (nI k)]) (st := []) (m := dx_pR (dx_pR m 5 (fa_fill (fun c => m.1 4 (12 * a + p + c)) (m.1 5) k)) 4 (fb_put (m.1 4) (fun c => m.1 4 (12 * a + p + c)) (12 * b + q) k)) rfl (fun _ => ?_) (fun h => absurd (nI_le (Nat.le_refl _) (by omega)) h)
                        refine dx_blk 1 (c' := (171, [.ref 0, .int (nI a), .int (nI p), .int (nI b), .int (nI q), .int (nI k), .int (nI k)], [.int 1], dx_pR (dx_pR m 5 (fa_fill (fun c => m.1 4 (12 * a + p + c)) (m.1 5) k)) 4 (fb_put (m.1 4) (fun c => m.1 4 (12 * a + p + c)) (12 * b + q) k))) rfl ?_
                        exact dx_ret (r := some (.int 1)) rfl (h4 a b z y p q k ha hb rfl rfl hz1 hy1 ez ey rfl rfl rfl hpk hqk)
                  · refine dx_blk 2 (c' := (91, [.ref 0, .int (nI a), .int i, .int (nI b), .int j, .int n, .null], [.int 2, .ref 0], m)) rfl ?_
                    refine dx_call (id := 83) (as := [.ref 0, .int 2]) (rest := []) rfl ?_
                    refine sX4_meets 2 (by decide) _ ?_
                    refine dx_blk 0 (c' := (94, [.ref 0, .int (nI a), .int i, .int (nI b), .int j, .int n, .null], [.int (-3)], (fndM m 2))) rfl ?_
                    exact dx_ret (r := some (.int (-3))) rfl (h3 a b z y ha hb rfl rfl hz1 hy1 ez ey (by first | (rw [rB_f1 (by assumption)]; rfl) | (rw [rB_f1 (z := y) (by assumption), Bool.and_false]) | (rw [rB_f2 (by assumption)]; rfl) | (rw [rB_f5 hz1 (by assumption) (by assumption) (by rw [← ez]; assumption)]; rfl) | (rw [rB_f5 hy1 (by assumption) (by assumption) (by rw [← ey, fa_lt64]; rw [fa_le64] at *; omega), Bool.and_false])))
        · refine dx_blk 2 (c' := (36, [.ref 0, .int (nI a), .int i, .int (nI b), .int j, .int n, .null], [.int 1, .ref 0], m)) rfl ?_
          refine dx_call (id := 83) (as := [.ref 0, .int 1]) (rest := []) rfl ?_
          refine sX4_meets 1 (by decide) _ ?_
          refine dx_blk 0 (c' := (39, [.ref 0, .int (nI a), .int i, .int (nI b), .int j, .int n, .null], [.int (-3)], (fndM m 1))) rfl ?_
          exact dx_ret (r := some (.int (-3))) rfl (h2 a b ha hb rfl rfl (by first | exact Or.inl (szD (hz a ha) (by assumption)) | exact Or.inr (szA (hz b hb) (by assumption))))
