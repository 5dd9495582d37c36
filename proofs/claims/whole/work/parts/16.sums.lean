/-! sums, counts, digest: both programs (printed by wip/whole/g16.py) -/
def thX (m : dx_M) (j : Nat) : Bool := decide (¬ m.1 (10 + j) 0 = 0)
def thM (m : dx_M) (j : Nat) : Bool := decide (m.1 11 j = 0)
theorem thX_t {m : dx_M} {j : Nat} (h : ¬ m.1 (10 + j) 0 = 0) : thX m j = true := decide_eq_true h
theorem thX_f {m : dx_M} {j : Nat} (h : m.1 (10 + j) 0 = 0) : thX m j = false := decide_eq_false (fun q => q h)
theorem thM_t {m : dx_M} {j : Nat} (h : m.1 11 j = 0) : thM m j = true := decide_eq_true h
theorem thM_f {m : dx_M} {j : Nat} (h : ¬ m.1 11 j = 0) : thM m j = false := decide_eq_false h
def st_ld (th : Nat → Bool) (wt : Nat → Int32) (i : Nat) (s : Int32) : Int32 := s + (if th i = true then wt i else 0)
theorem st_ld_t {th : Nat → Bool} {wt : Nat → Int32} {i : Nat} {s : Int32} (h : th i = true) : st_ld th wt i s = s + wt i := by unfold st_ld; rw [if_pos h]
theorem st_ld_f {th : Nat → Bool} {wt : Nat → Int32} {i : Nat} {s : Int32} (h : th i = false) : st_ld th wt i s = s + 0 := by unfold st_ld; rw [if_neg (by rw [h]; decide)]
def n_all (sq : Nat → Int32) (th : Nat → Bool) (wt : Nat → Int32) (E : Nat) : Int32 := nf (st_ld th wt) E (n_sum sq)
def n_ther (th : Nat → Bool) (E : Nat) : Int32 := nf (st_ld th (fun _ => 1)) E 0
abbrev allX (m : dx_M) (E : Nat) : Int32 := n_all (m.1 2) (thX m) (fun i => m.1 (10 + i) 4) E
abbrev allM (m : dx_M) (E : Nat) : Int32 := n_all (m.1 2) (thM m) (m.1 9) E
def szN (v : Int32) : Nat := if v = -1 then 0 else v.toNatClampNeg
theorem szN_m : szN (-1) = 0 := rfl
theorem szN_z {z : Nat} (h : z ≤ 12) : szN (nI z) = z := by
  unfold szN
  rw [if_neg (szF h rfl), nI_clamp (by omega)]
def dg_P (f : Nat → Nat → Int32) (W H : Nat) (v : Int64) : Int64 := nf (fun y v => nf (fun x v => 31 * v + (f y x).toInt64) W v) H v
def dg_L (th : Nat → Bool) (fa : Nat → Int32 → Int32) (E : Nat) (v : Int64) : Int64 := nf (fun i v => if th i = true then nf (fun w v => 31 * v + (fa i (nI w)).toInt64) 5 v else 31 * v + -1) E v
def dg_S (sz : Nat → Int32) (f : Nat → Nat → Int32) (v : Int64) : Int64 := nf (fun s v => nf (fun i v => 31 * v + (f s i).toInt64) (szN (sz s)) (31 * v + (sz s).toInt64)) 6 v
set_option maxRecDepth 20000 in
theorem sX3_wholeWeight {d : Nat} (m : dx_M) {E : Nat} (hE : E ≤ 10) (eE : m.1 0 7 = nI E) {Z : Option Value → dx_M → Prop} (h : Z (some (.int (allX m E))) m) : dx_Sem dx_P lx_X (d + 2) 74 [.ref 0] m Z := by
  refine dx_sem km_X3_wholeWeight rfl rfl ?_
  refine dx_blk 0 (c' := (0, [.ref 0, .null, .null], [], m)) rfl ?_
  refine dx_blk 2 (c' := (4, [.ref 0, .null, .null], [.ref 1], m)) rfl ?_
  refine dx_call (id := 7) (as := [.ref 1]) (rest := []) rfl ?_
  refine sX0_weight _ ?_
  refine dx_blk 0 (c' := (7, [.ref 0, .null, .null], [.int (n_sum (m.1 2))], m)) rfl ?_
  refine dx_blk 3 (c' := (10, [.ref 0, .int (n_sum (m.1 2)), .int 0], [], m)) rfl ?_
  refine dx_blk 0 (c' := (10, [.ref 0, .int (n_sum (m.1 2)), .int (nI 0)], [], m)) rfl ?_
  refine dx_for (fun (i : Nat) (s : Int32) => ((10, [.ref 0, .int s, .int (nI i)], [], m) : dx_F)) (st_ld (thX m) (fun i => m.1 (10 + i) 4)) (fun _ _ => True) E (n_sum (m.1 2)) trivial (fun i s hi hI hk => ?_) (fun _ _ _ _ => trivial) (fun hN => ?_)
  · refine dx_blk 0 (c' := (10, [.ref 0, .int s, .int (nI i)], [], m)) rfl ?_
    refine dx_blk 3 (c' := (15, [.ref 0, .int s, .int (nI i)], [.int (m.1 0 7), .int (nI i)], m)) rfl ?_
    refine dx_br (q := (m.1 0 7) ≤ (nI i)) (a := 52) (b := 18) (L := [.ref 0, .int s, .int (nI i)]) (st := []) (m := m) rfl (fun h => absurd h (by rw [show m.1 0 7 = nI E from eE]; exact nI_ge hi (by omega))) (fun _ => ?_)
    refine dx_blk 4 (c' := (24, [.ref 0, .int s, .int (nI i)], [.int (nI i), .ref 6, .int s], m)) rfl ?_
    refine dx_aadN i (q := (10 + i)) rfl rfl (Or.inl rfl) rfl (by omega) (lx_rs6 i (by omega)) ?_
    refine dx_blk 0 (c' := (25, [.ref 0, .int s, .int (nI i)], [.ref (10 + i), .int s], m)) rfl ?_
    refine dx_getS (k := (10 + i)) (v := .int (m.1 (10 + i) 0)) rfl rfl rfl rfl (lx_ld i (by omega)) rfl ?_
    refine dx_blk 0 (c' := (28, [.ref 0, .int s, .int (nI i)], [.int (m.1 (10 + i) 0), .int s], m)) rfl ?_
    refine dx_br (q := (m.1 (10 + i) 0) = 0) (a := 43) (b := 31) (L := [.ref 0, .int s, .int (nI i)]) (st := [.int s]) (m := m) rfl (fun h28 => ?_) (fun h28 => ?_)
    · refine dx_blk 5 (c' := (10, [.ref 0, .int (s + 0), .int ((nI i) + 1)], [], m)) rfl ?_
      first | (rw [st_ld_f (thX_f (by assumption)), nI_succ] at hk; exact hk) | (rw [st_ld_t (thX_t (by assumption)), nI_succ] at hk; exact hk)
    · refine dx_blk 3 (c' := (36, [.ref 0, .int s, .int (nI i)], [.int (nI i), .ref 6, .int s], m)) rfl ?_
      refine dx_aadN i (q := (10 + i)) rfl rfl (Or.inl rfl) rfl (by omega) (lx_rs6 i (by omega)) ?_
      refine dx_blk 0 (c' := (37, [.ref 0, .int s, .int (nI i)], [.ref (10 + i), .int s], m)) rfl ?_
      refine dx_getS (k := (10 + i)) (v := .int (m.1 (10 + i) 4)) rfl rfl rfl rfl (lx_ld i (by omega)) rfl ?_
      refine dx_blk 0 (c' := (40, [.ref 0, .int s, .int (nI i)], [.int (m.1 (10 + i) 4), .int s], m)) rfl ?_
      refine dx_blk 5 (c' := (10, [.ref 0, .int (s + (m.1 (10 + i) 4)), .int ((nI i) + 1)], [], m)) rfl ?_
      first | (rw [st_ld_f (thX_f (by assumption)), nI_succ] at hk; exact hk) | (rw [st_ld_t (thX_t (by assumption)), nI_succ] at hk; exact hk)
  · refine dx_blk 0 (c' := (10, [.ref 0, .int (nf (st_ld (thX m) (fun i => m.1 (10 + i) 4)) E (n_sum (m.1 2))), .int (nI E)], [], m)) rfl ?_
    refine dx_blk 3 (c' := (15, [.ref 0, .int (nf (st_ld (thX m) (fun i => m.1 (10 + i) 4)) E (n_sum (m.1 2))), .int (nI E)], [.int (m.1 0 7), .int (nI E)], m)) rfl ?_
    refine dx_br (q := (m.1 0 7) ≤ (nI E)) (a := 52) (b := 18) (L := [.ref 0, .int (nf (st_ld (thX m) (fun i => m.1 (10 + i) 4)) E (n_sum (m.1 2))), .int (nI E)]) (st := []) (m := m) rfl (fun _ => ?_) (fun h => absurd (by rw [show m.1 0 7 = nI E from eE]; exact nI_le (Nat.le_refl _) (by omega)) h)
    refine dx_blk 1 (c' := (53, [.ref 0, .int (nf (st_ld (thX m) (fun i => m.1 (10 + i) 4)) E (n_sum (m.1 2))), .int (nI E)], [.int (nf (st_ld (thX m) (fun i => m.1 (10 + i) 4)) E (n_sum (m.1 2)))], m)) rfl ?_
    exact dx_ret (r := some (.int (nf (st_ld (thX m) (fun i => m.1 (10 + i) 4)) E (n_sum (m.1 2))))) rfl h
set_option maxRecDepth 20000 in
theorem sX4_all {d : Nat} (m : dx_M) {E : Nat} (hE : E ≤ 10) (eE : m.1 0 11 = nI E) {Z : Option Value → dx_M → Prop} (h : Z (some (.int (allM m E))) m) : dx_Sem dx_P lx_M (d + 2) 113 [.ref 0] m Z := by
  refine dx_sem km_X4_all rfl rfl ?_
  refine dx_blk 0 (c' := (0, [.ref 0, .null, .null], [], m)) rfl ?_
  refine dx_blk 1 (c' := (1, [.ref 0, .null, .null], [.ref 0], m)) rfl ?_
  refine dx_call (id := 112) (as := [.ref 0]) (rest := []) rfl ?_
  refine sX4_squareWeights _ ?_
  refine dx_blk 0 (c' := (4, [.ref 0, .null, .null], [.int (n_sum (m.1 2))], m)) rfl ?_
  refine dx_blk 3 (c' := (7, [.ref 0, .int (n_sum (m.1 2)), .int 0], [], m)) rfl ?_
  refine dx_blk 0 (c' := (7, [.ref 0, .int (n_sum (m.1 2)), .int (nI 0)], [], m)) rfl ?_
  refine dx_for (fun (i : Nat) (s : Int32) => ((7, [.ref 0, .int s, .int (nI i)], [], m) : dx_F)) (st_ld (thM m) (m.1 9)) (fun _ _ => True) E (n_sum (m.1 2)) trivial (fun i s hi hI hk => ?_) (fun _ _ _ _ => trivial) (fun hN => ?_)
  · refine dx_blk 0 (c' := (7, [.ref 0, .int s, .int (nI i)], [], m)) rfl ?_
    refine dx_blk 3 (c' := (12, [.ref 0, .int s, .int (nI i)], [.int (m.1 0 11), .int (nI i)], m)) rfl ?_
    refine dx_br (q := (m.1 0 11) ≤ (nI i)) (a := 43) (b := 15) (L := [.ref 0, .int s, .int (nI i)]) (st := []) (m := m) rfl (fun h => absurd h (by rw [show m.1 0 11 = nI E from eE]; exact nI_ge hi (by omega))) (fun _ => ?_)
    refine dx_blk 4 (c' := (21, [.ref 0, .int s, .int (nI i)], [.int (nI i), .ref 11, .int s], m)) rfl ?_
    refine dx_bldN i rfl rfl (Or.inr rfl) rfl (by omega) ?_
    refine dx_blk 0 (c' := (22, [.ref 0, .int s, .int (nI i)], [.int (m.1 11 i), .int s], m)) rfl ?_
    refine dx_br (q := (m.1 11 i) = 0) (a := 29) (b := 25) (L := [.ref 0, .int s, .int (nI i)]) (st := [.int s]) (m := m) rfl (fun h22 => ?_) (fun h22 => ?_)
    · refine dx_blk 3 (c' := (34, [.ref 0, .int s, .int (nI i)], [.int (nI i), .ref 9, .int s], m)) rfl ?_
      refine dx_aldN i rfl rfl rfl rfl (by omega) ?_
      refine dx_blk 0 (c' := (35, [.ref 0, .int s, .int (nI i)], [.int (m.1 9 i), .int s], m)) rfl ?_
      refine dx_blk 4 (c' := (7, [.ref 0, .int (s + (m.1 9 i)), .int ((nI i) + 1)], [], m)) rfl ?_
      first | (rw [st_ld_f (thM_f (by assumption)), nI_succ] at hk; exact hk) | (rw [st_ld_t (thM_t (by assumption)), nI_succ] at hk; exact hk)
    · refine dx_blk 6 (c' := (7, [.ref 0, .int (s + 0), .int ((nI i) + 1)], [], m)) rfl ?_
      first | (rw [st_ld_f (thM_f (by assumption)), nI_succ] at hk; exact hk) | (rw [st_ld_t (thM_t (by assumption)), nI_succ] at hk; exact hk)
  · refine dx_blk 0 (c' := (7, [.ref 0, .int (nf (st_ld (thM m) (m.1 9)) E (n_sum (m.1 2))), .int (nI E)], [], m)) rfl ?_
    refine dx_blk 3 (c' := (12, [.ref 0, .int (nf (st_ld (thM m) (m.1 9)) E (n_sum (m.1 2))), .int (nI E)], [.int (m.1 0 11), .int (nI E)], m)) rfl ?_
    refine dx_br (q := (m.1 0 11) ≤ (nI E)) (a := 43) (b := 15) (L := [.ref 0, .int (nf (st_ld (thM m) (m.1 9)) E (n_sum (m.1 2))), .int (nI E)]) (st := []) (m := m) rfl (fun _ => ?_) (fun h => absurd (by rw [show m.1 0 11 = nI E from eE]; exact nI_le (Nat.le_refl _) (by omega)) h)
    refine dx_blk 1 (c' := (44, [.ref 0, .int (nf (st_ld (thM m) (m.1 9)) E (n_sum (m.1 2))), .int (nI E)], [.int (nf (st_ld (thM m) (m.1 9)) E (n_sum (m.1 2)))], m)) rfl ?_
    exact dx_ret (r := some (.int (nf (st_ld (thM m) (m.1 9)) E (n_sum (m.1 2))))) rfl h
set_option maxRecDepth 20000 in
theorem sX3_all {d : Nat} (m : dx_M) {E : Nat} (hE : E ≤ 10) (eE : m.1 0 7 = nI E) {Z : Option Value → dx_M → Prop} (h : Z (some (.int (allX m E))) m) : dx_Sem dx_P lx_X (d + 3) 41 [.ref 0] m Z := by
  refine dx_sem km_X3_all rfl rfl ?_
  refine dx_blk 0 (c' := (0, [.ref 0], [], m)) rfl ?_
  refine dx_blk 1 (c' := (1, [.ref 0], [.ref 0], m)) rfl ?_
  refine dx_call (id := 74) (as := [.ref 0]) (rest := []) rfl ?_
  refine sX3_wholeWeight _ hE eE ?_
  refine dx_blk 0 (c' := (4, [.ref 0], [.int (allX m E)], m)) rfl ?_
  exact dx_ret (r := some (.int (allX m E))) rfl h
set_option maxRecDepth 20000 in
theorem sX3_loadsThere {d : Nat} (m : dx_M) {E : Nat} (hE : E ≤ 10) (eE : m.1 0 7 = nI E) {Z : Option Value → dx_M → Prop} (h : Z (some (.int (n_ther (thX m) E))) m) : dx_Sem dx_P lx_X (d + 1) 73 [.ref 0] m Z := by
  refine dx_sem km_X3_loadsThere rfl rfl ?_
  refine dx_blk 0 (c' := (0, [.ref 0, .null, .null], [], m)) rfl ?_
  refine dx_blk 4 (c' := (4, [.ref 0, .int 0, .int 0], [], m)) rfl ?_
  refine dx_blk 0 (c' := (4, [.ref 0, .int 0, .int (nI 0)], [], m)) rfl ?_
  refine dx_for (fun (i : Nat) (s : Int32) => ((4, [.ref 0, .int s, .int (nI i)], [], m) : dx_F)) (st_ld (thX m) (fun _ => 1)) (fun _ _ => True) E 0 trivial (fun i s hi hI hk => ?_) (fun _ _ _ _ => trivial) (fun hN => ?_)
  · refine dx_blk 0 (c' := (4, [.ref 0, .int s, .int (nI i)], [], m)) rfl ?_
    refine dx_blk 3 (c' := (9, [.ref 0, .int s, .int (nI i)], [.int (m.1 0 7), .int (nI i)], m)) rfl ?_
    refine dx_br (q := (m.1 0 7) ≤ (nI i)) (a := 38) (b := 12) (L := [.ref 0, .int s, .int (nI i)]) (st := []) (m := m) rfl (fun h => absurd h (by rw [show m.1 0 7 = nI E from eE]; exact nI_ge hi (by omega))) (fun _ => ?_)
    refine dx_blk 4 (c' := (18, [.ref 0, .int s, .int (nI i)], [.int (nI i), .ref 6, .int s], m)) rfl ?_
    refine dx_aadN i (q := (10 + i)) rfl rfl (Or.inl rfl) rfl (by omega) (lx_rs6 i (by omega)) ?_
    refine dx_blk 0 (c' := (19, [.ref 0, .int s, .int (nI i)], [.ref (10 + i), .int s], m)) rfl ?_
    refine dx_getS (k := (10 + i)) (v := .int (m.1 (10 + i) 0)) rfl rfl rfl rfl (lx_ld i (by omega)) rfl ?_
    refine dx_blk 0 (c' := (22, [.ref 0, .int s, .int (nI i)], [.int (m.1 (10 + i) 0), .int s], m)) rfl ?_
    refine dx_br (q := (m.1 (10 + i) 0) = 0) (a := 29) (b := 25) (L := [.ref 0, .int s, .int (nI i)]) (st := [.int s]) (m := m) rfl (fun h22 => ?_) (fun h22 => ?_)
    · refine dx_blk 5 (c' := (4, [.ref 0, .int (s + 0), .int ((nI i) + 1)], [], m)) rfl ?_
      first | (rw [st_ld_f (thX_f (by assumption)), nI_succ] at hk; exact hk) | (rw [st_ld_t (thX_t (by assumption)), nI_succ] at hk; exact hk)
    · refine dx_blk 6 (c' := (4, [.ref 0, .int (s + 1), .int ((nI i) + 1)], [], m)) rfl ?_
      first | (rw [st_ld_f (thX_f (by assumption)), nI_succ] at hk; exact hk) | (rw [st_ld_t (thX_t (by assumption)), nI_succ] at hk; exact hk)
  · refine dx_blk 0 (c' := (4, [.ref 0, .int (nf (st_ld (thX m) (fun _ => 1)) E 0), .int (nI E)], [], m)) rfl ?_
    refine dx_blk 3 (c' := (9, [.ref 0, .int (nf (st_ld (thX m) (fun _ => 1)) E 0), .int (nI E)], [.int (m.1 0 7), .int (nI E)], m)) rfl ?_
    refine dx_br (q := (m.1 0 7) ≤ (nI E)) (a := 38) (b := 12) (L := [.ref 0, .int (nf (st_ld (thX m) (fun _ => 1)) E 0), .int (nI E)]) (st := []) (m := m) rfl (fun _ => ?_) (fun h => absurd (by rw [show m.1 0 7 = nI E from eE]; exact nI_le (Nat.le_refl _) (by omega)) h)
    refine dx_blk 1 (c' := (39, [.ref 0, .int (nf (st_ld (thX m) (fun _ => 1)) E 0), .int (nI E)], [.int (nf (st_ld (thX m) (fun _ => 1)) E 0)], m)) rfl ?_
    exact dx_ret (r := some (.int (nf (st_ld (thX m) (fun _ => 1)) E 0))) rfl h
set_option maxRecDepth 20000 in
theorem sX3_count {d : Nat} (m : dx_M) {E : Nat} (hE : E ≤ 10) (eE : m.1 0 7 = nI E) (w : Int32) {Z : Option Value → dx_M → Prop} (h : Z (some (.int (if w = 0 then m.1 1 1 else if w = 1 then m.1 1 2 else if w = 2 then n_cnt (m.1 2) else if w = 3 then m.1 0 7 else if w = 4 then n_ther (thX m) E else -1))) m) : dx_Sem dx_P lx_X (d + 2) 57 [.ref 0, .int w] m Z := by
  refine dx_sem km_X3_count rfl rfl ?_
  refine dx_blk 0 (c' := (0, [.ref 0, .int w], [], m)) rfl ?_
  refine dx_blk 1 (c' := (1, [.ref 0, .int w], [.int w], m)) rfl ?_
  refine dx_br (q := w = 0) (a := 36) (b := (if w = 1 then 44 else (if w = 2 then 52 else (if w = 3 then 60 else (if w = 4 then 65 else 70))))) (L := [.ref 0, .int w]) (st := []) (m := m) rfl (fun h100 => ?_) (fun h100 => ?_)
  · refine dx_blk 3 (c' := (43, [.ref 0, .int w], [.int (m.1 1 1)], m)) rfl ?_
    exact dx_ret (r := some (.int (m.1 1 1))) rfl (by simpa [*] using h)
  · refine dx_sp (q := w = 1) (fun h101 => ?_) (fun h101 => ?_)
    · refine dx_blk 3 (c' := (51, [.ref 0, .int w], [.int (m.1 1 2)], m)) rfl ?_
      exact dx_ret (r := some (.int (m.1 1 2))) rfl (by simpa [*] using h)
    · refine dx_sp (q := w = 2) (fun h102 => ?_) (fun h102 => ?_)
      · refine dx_blk 2 (c' := (56, [.ref 0, .int w], [.ref 1], m)) rfl ?_
        refine dx_call (id := 6) (as := [.ref 1]) (rest := []) rfl ?_
        refine sX0_squares _ ?_
        refine dx_blk 0 (c' := (59, [.ref 0, .int w], [.int (n_cnt (m.1 2))], m)) rfl ?_
        exact dx_ret (r := some (.int (n_cnt (m.1 2)))) rfl (by simpa [*] using h)
      · refine dx_sp (q := w = 3) (fun h103 => ?_) (fun h103 => ?_)
        · refine dx_blk 2 (c' := (64, [.ref 0, .int w], [.int (m.1 0 7)], m)) rfl ?_
          exact dx_ret (r := some (.int (m.1 0 7))) rfl (by simpa [*] using h)
        · refine dx_sp (q := w = 4) (fun h104 => ?_) (fun h104 => ?_)
          · refine dx_blk 1 (c' := (66, [.ref 0, .int w], [.ref 0], m)) rfl ?_
            refine dx_call (id := 73) (as := [.ref 0]) (rest := []) rfl ?_
            refine sX3_loadsThere _ hE eE ?_
            refine dx_blk 0 (c' := (69, [.ref 0, .int w], [.int (n_ther (thX m) E)], m)) rfl ?_
            exact dx_ret (r := some (.int (n_ther (thX m) E))) rfl (by simpa [*] using h)
          · refine dx_blk 1 (c' := (71, [.ref 0, .int w], [.int (-1)], m)) rfl ?_
            exact dx_ret (r := some (.int (-1))) rfl (by simpa [*] using h)
set_option maxRecDepth 20000 in
theorem sX4_count {d : Nat} (m : dx_M) {E : Nat} (hE : E ≤ 10) (eE : m.1 0 11 = nI E) (w : Int32) {Z : Option Value → dx_M → Prop} (h : Z (some (.int (if w = 0 then m.1 0 4 else if w = 1 then m.1 0 5 else if w = 2 then n_cnt (m.1 2) else if w = 3 then m.1 0 11 else if w = 4 then n_ther (thM m) E else -1))) m) : dx_Sem dx_P lx_M (d + 2) 141 [.ref 0, .int w] m Z := by
  refine dx_sem km_X4_count rfl rfl ?_
  refine dx_blk 0 (c' := (0, [.ref 0, .int w, .null, .null], [], m)) rfl ?_
  refine dx_blk 4 (c' := (4, [.ref 0, .int w, .int 0, .int 0], [], m)) rfl ?_
  refine dx_blk 0 (c' := (4, [.ref 0, .int w, .int 0, .int (nI 0)], [], m)) rfl ?_
  refine dx_for (fun (i : Nat) (s : Int32) => ((4, [.ref 0, .int w, .int s, .int (nI i)], [], m) : dx_F)) (st_ld (thM m) (fun _ => 1)) (fun _ _ => True) E 0 trivial (fun i s hi hI hk => ?_) (fun _ _ _ _ => trivial) (fun hN => ?_)
  · refine dx_blk 0 (c' := (4, [.ref 0, .int w, .int s, .int (nI i)], [], m)) rfl ?_
    refine dx_blk 3 (c' := (9, [.ref 0, .int w, .int s, .int (nI i)], [.int (m.1 0 11), .int (nI i)], m)) rfl ?_
    refine dx_br (q := (m.1 0 11) ≤ (nI i)) (a := 35) (b := 12) (L := [.ref 0, .int w, .int s, .int (nI i)]) (st := []) (m := m) rfl (fun h => absurd h (by rw [show m.1 0 11 = nI E from eE]; exact nI_ge hi (by omega))) (fun _ => ?_)
    refine dx_blk 4 (c' := (18, [.ref 0, .int w, .int s, .int (nI i)], [.int (nI i), .ref 11, .int s], m)) rfl ?_
    refine dx_bldN i rfl rfl (Or.inr rfl) rfl (by omega) ?_
    refine dx_blk 0 (c' := (19, [.ref 0, .int w, .int s, .int (nI i)], [.int (m.1 11 i), .int s], m)) rfl ?_
    refine dx_br (q := (m.1 11 i) = 0) (a := 26) (b := 22) (L := [.ref 0, .int w, .int s, .int (nI i)]) (st := [.int s]) (m := m) rfl (fun h19 => ?_) (fun h19 => ?_)
    · refine dx_blk 5 (c' := (4, [.ref 0, .int w, .int (s + 1), .int ((nI i) + 1)], [], m)) rfl ?_
      first | (rw [st_ld_f (thM_f (by assumption)), nI_succ] at hk; exact hk) | (rw [st_ld_t (thM_t (by assumption)), nI_succ] at hk; exact hk)
    · refine dx_blk 6 (c' := (4, [.ref 0, .int w, .int (s + 0), .int ((nI i) + 1)], [], m)) rfl ?_
      first | (rw [st_ld_f (thM_f (by assumption)), nI_succ] at hk; exact hk) | (rw [st_ld_t (thM_t (by assumption)), nI_succ] at hk; exact hk)
  · refine dx_blk 0 (c' := (4, [.ref 0, .int w, .int (nf (st_ld (thM m) (fun _ => 1)) E 0), .int (nI E)], [], m)) rfl ?_
    refine dx_blk 3 (c' := (9, [.ref 0, .int w, .int (nf (st_ld (thM m) (fun _ => 1)) E 0), .int (nI E)], [.int (m.1 0 11), .int (nI E)], m)) rfl ?_
    refine dx_br (q := (m.1 0 11) ≤ (nI E)) (a := 35) (b := 12) (L := [.ref 0, .int w, .int (nf (st_ld (thM m) (fun _ => 1)) E 0), .int (nI E)]) (st := []) (m := m) rfl (fun _ => ?_) (fun h => absurd (by rw [show m.1 0 11 = nI E from eE]; exact nI_le (Nat.le_refl _) (by omega)) h)
    refine dx_blk 1 (c' := (36, [.ref 0, .int w, .int (nf (st_ld (thM m) (fun _ => 1)) E 0), .int (nI E)], [.int w], m)) rfl ?_
    refine dx_br (q := w = 0) (a := 39) (b := 46) (L := [.ref 0, .int w, .int (nf (st_ld (thM m) (fun _ => 1)) E 0), .int (nI E)]) (st := []) (m := m) rfl (fun h36 => ?_) (fun h36 => ?_)
    · refine dx_blk 3 (c' := (92, [.ref 0, .int w, .int (nf (st_ld (thM m) (fun _ => 1)) E 0), .int (nI E)], [.int (m.1 0 4)], m)) rfl ?_
      exact dx_ret (r := some (.int (m.1 0 4))) rfl (by simpa [n_ther, *] using h)
    · refine dx_blk 2 (c' := (48, [.ref 0, .int w, .int (nf (st_ld (thM m) (fun _ => 1)) E 0), .int (nI E)], [.int 1, .int w], m)) rfl ?_
      refine dx_br (q := w = 1) (a := 51) (b := 58) (L := [.ref 0, .int w, .int (nf (st_ld (thM m) (fun _ => 1)) E 0), .int (nI E)]) (st := []) (m := m) rfl (fun h48 => ?_) (fun h48 => ?_)
      · refine dx_blk 3 (c' := (92, [.ref 0, .int w, .int (nf (st_ld (thM m) (fun _ => 1)) E 0), .int (nI E)], [.int (m.1 0 5)], m)) rfl ?_
        exact dx_ret (r := some (.int (m.1 0 5))) rfl (by simpa [n_ther, *] using h)
      · refine dx_blk 2 (c' := (60, [.ref 0, .int w, .int (nf (st_ld (thM m) (fun _ => 1)) E 0), .int (nI E)], [.int 2, .int w], m)) rfl ?_
        refine dx_br (q := w = 2) (a := 63) (b := 70) (L := [.ref 0, .int w, .int (nf (st_ld (thM m) (fun _ => 1)) E 0), .int (nI E)]) (st := []) (m := m) rfl (fun h60 => ?_) (fun h60 => ?_)
        · refine dx_blk 1 (c' := (64, [.ref 0, .int w, .int (nf (st_ld (thM m) (fun _ => 1)) E 0), .int (nI E)], [.ref 0], m)) rfl ?_
          refine dx_call (id := 111) (as := [.ref 0]) (rest := []) rfl ?_
          refine sX4_squareMany _ ?_
          refine dx_blk 0 (c' := (67, [.ref 0, .int w, .int (nf (st_ld (thM m) (fun _ => 1)) E 0), .int (nI E)], [.int (n_cnt (m.1 2))], m)) rfl ?_
          refine dx_blk 1 (c' := (92, [.ref 0, .int w, .int (nf (st_ld (thM m) (fun _ => 1)) E 0), .int (nI E)], [.int (n_cnt (m.1 2))], m)) rfl ?_
          exact dx_ret (r := some (.int (n_cnt (m.1 2)))) rfl (by simpa [n_ther, *] using h)
        · refine dx_blk 2 (c' := (72, [.ref 0, .int w, .int (nf (st_ld (thM m) (fun _ => 1)) E 0), .int (nI E)], [.int 3, .int w], m)) rfl ?_
          refine dx_br (q := w = 3) (a := 75) (b := 82) (L := [.ref 0, .int w, .int (nf (st_ld (thM m) (fun _ => 1)) E 0), .int (nI E)]) (st := []) (m := m) rfl (fun h72 => ?_) (fun h72 => ?_)
          · refine dx_blk 3 (c' := (92, [.ref 0, .int w, .int (nf (st_ld (thM m) (fun _ => 1)) E 0), .int (nI E)], [.int (m.1 0 11)], m)) rfl ?_
            exact dx_ret (r := some (.int (m.1 0 11))) rfl (by simpa [n_ther, *] using h)
          · refine dx_blk 2 (c' := (84, [.ref 0, .int w, .int (nf (st_ld (thM m) (fun _ => 1)) E 0), .int (nI E)], [.int 4, .int w], m)) rfl ?_
            refine dx_br (q := w = 4) (a := 87) (b := 91) (L := [.ref 0, .int w, .int (nf (st_ld (thM m) (fun _ => 1)) E 0), .int (nI E)]) (st := []) (m := m) rfl (fun h84 => ?_) (fun h84 => ?_)
            · refine dx_blk 2 (c' := (92, [.ref 0, .int w, .int (nf (st_ld (thM m) (fun _ => 1)) E 0), .int (nI E)], [.int (nf (st_ld (thM m) (fun _ => 1)) E 0)], m)) rfl ?_
              exact dx_ret (r := some (.int (nf (st_ld (thM m) (fun _ => 1)) E 0))) rfl (by simpa [n_ther, *] using h)
            · refine dx_blk 1 (c' := (92, [.ref 0, .int w, .int (nf (st_ld (thM m) (fun _ => 1)) E 0), .int (nI E)], [.int (-1)], m)) rfl ?_
              exact dx_ret (r := some (.int (-1))) rfl (by simpa [n_ther, *] using h)
set_option maxRecDepth 20000 in
theorem sX3_mean {d : Nat} (m : dx_M)  {Z : Option Value → dx_M → Prop} (h1 : n_cnt (m.1 2) = 0 → Z (some (.int (-3))) (fndX m 4)) (h2 : ¬ n_cnt (m.1 2) = 0 → Z (some (.int (n_sum (m.1 2) / n_cnt (m.1 2)))) m) : dx_Sem dx_P lx_X (d + 2) 42 [.ref 0] m Z := by
  refine dx_sem km_X3_mean rfl rfl ?_
  refine dx_blk 0 (c' := (0, [.ref 0, .null], [], m)) rfl ?_
  refine dx_blk 2 (c' := (4, [.ref 0, .null], [.ref 1], m)) rfl ?_
  refine dx_call (id := 6) (as := [.ref 1]) (rest := []) rfl ?_
  refine sX0_squares _ ?_
  refine dx_blk 0 (c' := (7, [.ref 0, .null], [.int (n_cnt (m.1 2))], m)) rfl ?_
  refine dx_blk 2 (c' := (9, [.ref 0, .int (n_cnt (m.1 2))], [.int (n_cnt (m.1 2))], m)) rfl ?_
  refine dx_br (q := (n_cnt (m.1 2)) = 0) (a := 12) (b := 20) (L := [.ref 0, .int (n_cnt (m.1 2))]) (st := []) (m := m) rfl (fun h9 => ?_) (fun h9 => ?_)
  · refine dx_blk 2 (c' := (14, [.ref 0, .int (n_cnt (m.1 2))], [.int 4, .ref 0], m)) rfl ?_
    refine dx_call (id := 70) (as := [.ref 0, .int 4]) (rest := []) rfl ?_
    refine sX3_find 4 (by decide) _ ?_
    refine dx_blk 0 (c' := (17, [.ref 0, .int (n_cnt (m.1 2))], [.int (-3)], (fndX m 4))) rfl ?_
    refine dx_blk 1 (c' := (29, [.ref 0, .int (n_cnt (m.1 2))], [.int (-3)], (fndX m 4))) rfl ?_
    exact dx_ret (r := some (.int (-3))) rfl (h1 (by assumption))
  · refine dx_blk 2 (c' := (24, [.ref 0, .int (n_cnt (m.1 2))], [.ref 1], m)) rfl ?_
    refine dx_call (id := 7) (as := [.ref 1]) (rest := []) rfl ?_
    refine sX0_weight _ ?_
    refine dx_blk 0 (c' := (27, [.ref 0, .int (n_cnt (m.1 2))], [.int (n_sum (m.1 2))], m)) rfl ?_
    refine dx_blk 1 (c' := (28, [.ref 0, .int (n_cnt (m.1 2))], [.int (n_cnt (m.1 2)), .int (n_sum (m.1 2))], m)) rfl ?_
    refine dx_step (c' := (29, [.ref 0, .int (n_cnt (m.1 2))], [.int ((n_sum (m.1 2)) / (n_cnt (m.1 2)))], m)) (if_pos (by assumption)) ?_
    exact dx_ret (r := some (.int ((n_sum (m.1 2)) / (n_cnt (m.1 2))))) rfl (h2 (by assumption))
set_option maxRecDepth 20000 in
theorem sX4_mean {d : Nat} (m : dx_M)  {Z : Option Value → dx_M → Prop} (h1 : n_cnt (m.1 2) = 0 → Z (some (.int (-3))) (fndM m 4)) (h2 : ¬ n_cnt (m.1 2) = 0 → Z (some (.int (n_sum (m.1 2) / n_cnt (m.1 2)))) m) : dx_Sem dx_P lx_M (d + 2) 114 [.ref 0] m Z := by
  refine dx_sem km_X4_mean rfl rfl ?_
  refine dx_blk 0 (c' := (0, [.ref 0, .null], [], m)) rfl ?_
  refine dx_blk 1 (c' := (1, [.ref 0, .null], [.ref 0], m)) rfl ?_
  refine dx_call (id := 111) (as := [.ref 0]) (rest := []) rfl ?_
  refine sX4_squareMany _ ?_
  refine dx_blk 0 (c' := (4, [.ref 0, .null], [.int (n_cnt (m.1 2))], m)) rfl ?_
  refine dx_blk 2 (c' := (6, [.ref 0, .int (n_cnt (m.1 2))], [.int (n_cnt (m.1 2))], m)) rfl ?_
  refine dx_br (q := (n_cnt (m.1 2)) = 0) (a := 9) (b := 17) (L := [.ref 0, .int (n_cnt (m.1 2))]) (st := []) (m := m) rfl (fun h6 => ?_) (fun h6 => ?_)
  · refine dx_blk 2 (c' := (11, [.ref 0, .int (n_cnt (m.1 2))], [.int 4, .ref 0], m)) rfl ?_
    refine dx_call (id := 83) (as := [.ref 0, .int 4]) (rest := []) rfl ?_
    refine sX4_meets 4 (by decide) _ ?_
    refine dx_blk 0 (c' := (14, [.ref 0, .int (n_cnt (m.1 2))], [.int (-3)], (fndM m 4))) rfl ?_
    refine dx_blk 1 (c' := (23, [.ref 0, .int (n_cnt (m.1 2))], [.int (-3)], (fndM m 4))) rfl ?_
    exact dx_ret (r := some (.int (-3))) rfl (h1 (by assumption))
  · refine dx_blk 1 (c' := (18, [.ref 0, .int (n_cnt (m.1 2))], [.ref 0], m)) rfl ?_
    refine dx_call (id := 112) (as := [.ref 0]) (rest := []) rfl ?_
    refine sX4_squareWeights _ ?_
    refine dx_blk 0 (c' := (21, [.ref 0, .int (n_cnt (m.1 2))], [.int (n_sum (m.1 2))], m)) rfl ?_
    refine dx_blk 1 (c' := (22, [.ref 0, .int (n_cnt (m.1 2))], [.int (n_cnt (m.1 2)), .int (n_sum (m.1 2))], m)) rfl ?_
    refine dx_step (c' := (23, [.ref 0, .int (n_cnt (m.1 2))], [.int ((n_sum (m.1 2)) / (n_cnt (m.1 2)))], m)) (if_pos (by assumption)) ?_
    exact dx_ret (r := some (.int ((n_sum (m.1 2)) / (n_cnt (m.1 2))))) rfl (h2 (by assumption))
set_option maxRecDepth 20000 in
theorem sX3_findings {d : Nat} (m : dx_M) (f : Int32) {Z : Option Value → dx_M → Prop} (h1 : inI f 1 5 = false → Z (some (.int (-1))) m) (h2 : ∀ j : Nat, j < 6 → f = nI j → inI f 1 5 = true → Z (some (.int (m.1 9 j))) m) : dx_Sem dx_P lx_X (d + 2) 59 [.ref 0, .int f] m Z := by
  refine dx_sem km_X3_findings rfl rfl ?_
  refine dx_blk 0 (c' := (0, [.ref 0, .int f], [], m)) rfl ?_
  refine dx_blk 3 (c' := (3, [.ref 0, .int f], [.int 5, .int 1, .int f], m)) rfl ?_
  refine dx_call (id := 64) (as := [.int f, .int 1, .int 5]) (rest := []) rfl ?_
  refine sX3_within f 1 5 _ ?_
  refine dx_blk 0 (c' := (6, [.ref 0, .int f], [.int (bI (inI f 1 5))], m)) rfl ?_
  refine dx_brB (B := (inI f 1 5)) (a := 18) (b := 9) (L := [.ref 0, .int f]) (st := []) (m := m) rfl (fun h6 => ?_) (fun h6 => ?_)
  · refine dx_blk 1 (c' := (19, [.ref 0, .int f], [.int (-1)], m)) rfl ?_
    exact dx_ret (r := some (.int (-1))) rfl (h1 (by assumption))
  · obtain ⟨j, hj, rfl⟩ := in_N (n := 5) (x := f) (M := 5) rfl (by rw [inI_t] at h6 ⊢; rw [fa_le] at h6 ⊢; have e0 : (0 : Int32).toInt = 0 := rfl; have e1 : (1 : Int32).toInt = 1 := rfl; exact ⟨by omega, h6.2⟩)
    refine dx_blk 3 (c' := (14, [.ref 0, .int (nI j)], [.int (nI j), .ref 9], m)) rfl ?_
    refine dx_aldN j rfl rfl rfl rfl (by omega) ?_
    refine dx_blk 0 (c' := (15, [.ref 0, .int (nI j)], [.int (m.1 9 j)], m)) rfl ?_
    refine dx_blk 1 (c' := (19, [.ref 0, .int (nI j)], [.int (m.1 9 j)], m)) rfl ?_
    exact dx_ret (r := some (.int (m.1 9 j))) rfl (h2 j (by omega) rfl (by assumption))
set_option maxRecDepth 20000 in
theorem sX4_findings {d : Nat} (m : dx_M) (f : Int32) {Z : Option Value → dx_M → Prop} (h1 : inI f 1 5 = false → Z (some (.int (-1))) m) (h2 : ∀ j : Nat, j < 6 → f = nI j → inI f 1 5 = true → Z (some (.int (m.1 1 j))) m) : dx_Sem dx_P lx_M (d + 2) 85 [.ref 0, .int f] m Z := by
  refine dx_sem km_X4_findings rfl rfl ?_
  refine dx_blk 0 (c' := (0, [.ref 0, .int f], [], m)) rfl ?_
  refine dx_blk 3 (c' := (3, [.ref 0, .int f], [.int 5, .int 1, .int f], m)) rfl ?_
  refine dx_call (id := 82) (as := [.int f, .int 1, .int 5]) (rest := []) rfl ?_
  refine sX4_in f 1 5 _ ?_
  refine dx_blk 0 (c' := (6, [.ref 0, .int f], [.int (bI (inI f 1 5))], m)) rfl ?_
  refine dx_brB (B := (inI f 1 5)) (a := 18) (b := 9) (L := [.ref 0, .int f]) (st := []) (m := m) rfl (fun h6 => ?_) (fun h6 => ?_)
  · refine dx_blk 1 (c' := (19, [.ref 0, .int f], [.int (-1)], m)) rfl ?_
    exact dx_ret (r := some (.int (-1))) rfl (h1 (by assumption))
  · obtain ⟨j, hj, rfl⟩ := in_N (n := 5) (x := f) (M := 5) rfl (by rw [inI_t] at h6 ⊢; rw [fa_le] at h6 ⊢; have e0 : (0 : Int32).toInt = 0 := rfl; have e1 : (1 : Int32).toInt = 1 := rfl; exact ⟨by omega, h6.2⟩)
    refine dx_blk 3 (c' := (14, [.ref 0, .int (nI j)], [.int (nI j), .ref 1], m)) rfl ?_
    refine dx_aldN j rfl rfl rfl rfl (by omega) ?_
    refine dx_blk 0 (c' := (15, [.ref 0, .int (nI j)], [.int (m.1 1 j)], m)) rfl ?_
    refine dx_blk 1 (c' := (19, [.ref 0, .int (nI j)], [.int (m.1 1 j)], m)) rfl ?_
    exact dx_ret (r := some (.int (m.1 1 j))) rfl (h2 j (by omega) rfl (by assumption))
set_option maxRecDepth 20000 in
theorem sX3_finding {d : Nat} (m : dx_M)  {Z : Option Value → dx_M → Prop} (h : Z (some (.int (m.1 0 8))) m) : dx_Sem dx_P lx_X (d + 1) 58 [.ref 0] m Z := by
  refine dx_sem km_X3_finding rfl rfl ?_
  refine dx_blk 0 (c' := (0, [.ref 0], [], m)) rfl ?_
  refine dx_blk 2 (c' := (4, [.ref 0], [.int (m.1 0 8)], m)) rfl ?_
  exact dx_ret (r := some (.int (m.1 0 8))) rfl h
set_option maxRecDepth 20000 in
theorem sX4_finding {d : Nat} (m : dx_M)  {Z : Option Value → dx_M → Prop} (h : Z (some (.int (m.1 0 0))) m) : dx_Sem dx_P lx_M (d + 1) 84 [.ref 0] m Z := by
  refine dx_sem km_X4_finding rfl rfl ?_
  refine dx_blk 0 (c' := (0, [.ref 0], [], m)) rfl ?_
  refine dx_blk 2 (c' := (4, [.ref 0], [.int (m.1 0 0)], m)) rfl ?_
  exact dx_ret (r := some (.int (m.1 0 0))) rfl h
set_option maxRecDepth 20000 in
theorem sX3_upper {d : Nat} (m : dx_M)  {Z : Option Value → dx_M → Prop} (h : Z (some (.long (m.2 0 9))) m) : dx_Sem dx_P lx_X (d + 1) 55 [.ref 0] m Z := by
  refine dx_sem km_X3_upper rfl rfl ?_
  refine dx_blk 0 (c' := (0, [.ref 0], [], m)) rfl ?_
  refine dx_blk 2 (c' := (4, [.ref 0], [.long (m.2 0 9)], m)) rfl ?_
  exact dx_ret (r := some (.long (m.2 0 9))) rfl h
set_option maxRecDepth 20000 in
theorem sX4_upper {d : Nat} (m : dx_M)  {Z : Option Value → dx_M → Prop} (h : Z (some (.long (m.2 0 2))) m) : dx_Sem dx_P lx_M (d + 1) 88 [.ref 0] m Z := by
  refine dx_sem km_X4_upper rfl rfl ?_
  refine dx_blk 0 (c' := (0, [.ref 0], [], m)) rfl ?_
  refine dx_blk 2 (c' := (4, [.ref 0], [.long (m.2 0 2)], m)) rfl ?_
  exact dx_ret (r := some (.long (m.2 0 2))) rfl h
set_option maxRecDepth 20000 in
theorem sX3_lower {d : Nat} (m : dx_M)  {Z : Option Value → dx_M → Prop} (h : Z (some (.long (m.2 0 10))) m) : dx_Sem dx_P lx_X (d + 1) 56 [.ref 0] m Z := by
  refine dx_sem km_X3_lower rfl rfl ?_
  refine dx_blk 0 (c' := (0, [.ref 0], [], m)) rfl ?_
  refine dx_blk 2 (c' := (4, [.ref 0], [.long (m.2 0 10)], m)) rfl ?_
  exact dx_ret (r := some (.long (m.2 0 10))) rfl h
set_option maxRecDepth 20000 in
theorem sX4_lower {d : Nat} (m : dx_M)  {Z : Option Value → dx_M → Prop} (h : Z (some (.long (m.2 0 3))) m) : dx_Sem dx_P lx_M (d + 1) 89 [.ref 0] m Z := by
  refine dx_sem km_X4_lower rfl rfl ?_
  refine dx_blk 0 (c' := (0, [.ref 0], [], m)) rfl ?_
  refine dx_blk 2 (c' := (4, [.ref 0], [.long (m.2 0 3)], m)) rfl ?_
  exact dx_ret (r := some (.long (m.2 0 3))) rfl h
theorem nf_cst {σ : Type} {f g : Nat → σ → σ} (n : Nat) (s : σ) (h : ∀ i s, i < n → f i s = g i s) : nf f n s = nf g n s := nf_cong s h
set_option maxRecDepth 20000 in
theorem sX3_digestPlaces {d : Nat} (m : dx_M) {W H : Nat} (hW : W ≤ 12) (hH : H ≤ 12) (eW : m.1 1 1 = nI W) (eH : m.1 1 2 = nI H) (v0 : Int64) {Z : Option Value → dx_M → Prop} (h : Z (some (.long (dg_P (fun y x => m.1 2 (y * 12 + x)) W H (31 * (31 * v0 + (m.1 1 1).toInt64) + (m.1 1 2).toInt64)))) m) : dx_Sem dx_P lx_X (d + 2) 61 [.ref 0, .long v0] m Z := by
  refine dx_sem km_X3_digestPlaces rfl rfl ?_
  refine dx_blk 0 (c' := (0, [.ref 0, .long v0, .null, .null, .null, .null, .null], [], m)) rfl ?_
  refine dx_blk 20 (c' := (33, [.ref 0, .long v0, .null, .long ((31 * ((31 * v0) + ((m.1 1 1).toInt64))) + ((m.1 1 2).toInt64)), .null, .int 0, .null], [], m)) rfl ?_
  refine dx_blk 0 (c' := (33, [.ref 0, .long v0, .null, .long (31 * (31 * v0 + (m.1 1 1).toInt64) + (m.1 1 2).toInt64), .null, .int (nI 0), .null], [], m)) rfl ?_
  refine dx_for (fun (y : Nat) (u : Int64) => ((33, [.ref 0, .long v0, .null, .long u, .null, .int (nI y), .null], [], m) : dx_F)) (fun (y : Nat) (u : Int64) => nf (fun (x : Nat) (v : Int64) => 31 * v + (m.1 2 (y * 12 + x)).toInt64) W u) (fun _ _ => True) H (31 * (31 * v0 + (m.1 1 1).toInt64) + (m.1 1 2).toInt64) trivial (fun y u hi hI hk => ?_) (fun _ _ _ _ => trivial) (fun hN => ?_)
  · refine dx_blk 0 (c' := (33, [.ref 0, .long v0, .null, .long u, .null, .int (nI y), .null], [], m)) rfl ?_
    have hy : y < H := hi
    refine dx_blk 4 (c' := (42, [.ref 0, .long v0, .null, .long u, .null, .int (nI y), .null], [.int (m.1 1 2), .int (nI y)], m)) rfl ?_
    refine dx_br (q := (m.1 1 2) ≤ (nI y)) (a := 91) (b := 45) (L := [.ref 0, .long v0, .null, .long u, .null, .int (nI y), .null]) (st := []) (m := m) rfl (fun h => absurd h (by rw [show m.1 1 2 = nI H from eH]; exact nI_ge hi (by omega))) (fun _ => ?_)
    refine dx_blk 2 (c' := (48, [.ref 0, .long v0, .null, .long u, .null, .int (nI y), .int 0], [], m)) rfl ?_
    refine dx_blk 0 (c' := (48, [.ref 0, .long v0, .null, .long u, .null, .int (nI y), .int (nI 0)], [], m)) rfl ?_
    refine dx_for (fun (x : Nat) (v : Int64) => ((48, [.ref 0, .long v0, .null, .long v, .null, .int (nI y), .int (nI x)], [], m) : dx_F)) (fun (x : Nat) (v : Int64) => 31 * v + (m.1 2 (y * 12 + x)).toInt64) (fun _ _ => True) W u trivial (fun x v hi hI hk => ?_) (fun _ _ _ _ => trivial) (fun hN => ?_)
    · refine dx_blk 0 (c' := (48, [.ref 0, .long v0, .null, .long v, .null, .int (nI y), .int (nI x)], [], m)) rfl ?_
      refine dx_blk 4 (c' := (57, [.ref 0, .long v0, .null, .long v, .null, .int (nI y), .int (nI x)], [.int (m.1 1 1), .int (nI x)], m)) rfl ?_
      refine dx_br (q := (m.1 1 1) ≤ (nI x)) (a := 85) (b := 60) (L := [.ref 0, .long v0, .null, .long v, .null, .int (nI y), .int (nI x)]) (st := []) (m := m) rfl (fun h => absurd h (by rw [show m.1 1 1 = nI W from eW]; exact nI_ge hi (by omega))) (fun _ => ?_)
      refine dx_blk 7 (c' := (73, [.ref 0, .long v0, .null, .long v, .null, .int (nI y), .int (nI x)], [.int (nI y), .int (nI x), .ref 1, .long (31 * v)], m)) rfl ?_
      refine dx_call (id := 2) (as := [.ref 1, .int (nI x), .int (nI y)]) (rest := [.long (31 * v)]) rfl ?_
      refine sX0_weightOf (a := x) (b := y) (by omega) (by omega) _ ?_
      refine dx_blk 0 (c' := (76, [.ref 0, .long v0, .null, .long v, .null, .int (nI y), .int (nI x)], [.int (m.1 2 (y * 12 + x)), .long (31 * v)], m)) rfl ?_
      refine dx_blk 5 (c' := (48, [.ref 0, .long v0, .null, .long ((31 * v) + ((m.1 2 (y * 12 + x)).toInt64)), .null, .int (nI y), .int ((nI x) + 1)], [], m)) rfl ?_
      rw [← nI_succ]
      exact hk
    · refine dx_blk 0 (c' := (48, [.ref 0, .long v0, .null, .long (nf (fun (x : Nat) (v : Int64) => 31 * v + (m.1 2 (y * 12 + x)).toInt64) W u), .null, .int (nI y), .int (nI W)], [], m)) rfl ?_
      refine dx_blk 4 (c' := (57, [.ref 0, .long v0, .null, .long (nf (fun (x : Nat) (v : Int64) => 31 * v + (m.1 2 (y * 12 + x)).toInt64) W u), .null, .int (nI y), .int (nI W)], [.int (m.1 1 1), .int (nI W)], m)) rfl ?_
      refine dx_br (q := (m.1 1 1) ≤ (nI W)) (a := 85) (b := 60) (L := [.ref 0, .long v0, .null, .long (nf (fun (x : Nat) (v : Int64) => 31 * v + (m.1 2 (y * 12 + x)).toInt64) W u), .null, .int (nI y), .int (nI W)]) (st := []) (m := m) rfl (fun _ => ?_) (fun h => absurd (by rw [show m.1 1 1 = nI W from eW]; exact nI_le (Nat.le_refl _) (by omega)) h)
      refine dx_blk 2 (c' := (33, [.ref 0, .long v0, .null, .long (nf (fun (x : Nat) (v : Int64) => 31 * v + (m.1 2 (y * 12 + x)).toInt64) W u), .null, .int ((nI y) + 1), .int (nI W)], [], m)) rfl ?_
      refine dx_fgt [.ref 0, .long v0, .null, .long (nf (fun (x : Nat) (v : Int64) => 31 * v + (m.1 2 (y * 12 + x)).toInt64) W u), .null, .int ((nI y) + 1), .null] (And.intro (Or.inr rfl) (And.intro (Or.inr rfl) (And.intro (Or.inl rfl) (And.intro (Or.inr rfl) (And.intro (Or.inl rfl) (And.intro (Or.inr rfl) (And.intro (Or.inl rfl) trivial))))))) ?_
      rw [← nI_succ]
      exact hk
  · refine dx_blk 0 (c' := (33, [.ref 0, .long v0, .null, .long (nf (fun (y : Nat) (u : Int64) => nf (fun (x : Nat) (v : Int64) => 31 * v + (m.1 2 (y * 12 + x)).toInt64) W u) H (31 * (31 * v0 + (m.1 1 1).toInt64) + (m.1 1 2).toInt64)), .null, .int (nI H), .null], [], m)) rfl ?_
    refine dx_blk 4 (c' := (42, [.ref 0, .long v0, .null, .long (nf (fun (y : Nat) (u : Int64) => nf (fun (x : Nat) (v : Int64) => 31 * v + (m.1 2 (y * 12 + x)).toInt64) W u) H (31 * (31 * v0 + (m.1 1 1).toInt64) + (m.1 1 2).toInt64)), .null, .int (nI H), .null], [.int (m.1 1 2), .int (nI H)], m)) rfl ?_
    refine dx_br (q := (m.1 1 2) ≤ (nI H)) (a := 91) (b := 45) (L := [.ref 0, .long v0, .null, .long (nf (fun (y : Nat) (u : Int64) => nf (fun (x : Nat) (v : Int64) => 31 * v + (m.1 2 (y * 12 + x)).toInt64) W u) H (31 * (31 * v0 + (m.1 1 1).toInt64) + (m.1 1 2).toInt64)), .null, .int (nI H), .null]) (st := []) (m := m) rfl (fun _ => ?_) (fun h => absurd (by rw [show m.1 1 2 = nI H from eH]; exact nI_le (Nat.le_refl _) (by omega)) h)
    refine dx_blk 1 (c' := (92, [.ref 0, .long v0, .null, .long (nf (fun (y : Nat) (u : Int64) => nf (fun (x : Nat) (v : Int64) => 31 * v + (m.1 2 (y * 12 + x)).toInt64) W u) H (31 * (31 * v0 + (m.1 1 1).toInt64) + (m.1 1 2).toInt64)), .null, .int (nI H), .null], [.long (nf (fun (y : Nat) (u : Int64) => nf (fun (x : Nat) (v : Int64) => 31 * v + (m.1 2 (y * 12 + x)).toInt64) W u) H (31 * (31 * v0 + (m.1 1 1).toInt64) + (m.1 1 2).toInt64))], m)) rfl ?_
    exact dx_ret (r := some (.long (nf (fun (y : Nat) (u : Int64) => nf (fun (x : Nat) (v : Int64) => 31 * v + (m.1 2 (y * 12 + x)).toInt64) W u) H (31 * (31 * v0 + (m.1 1 1).toInt64) + (m.1 1 2).toInt64)))) rfl h
set_option maxRecDepth 20000 in
theorem sX3_digestLoads {d : Nat} (m : dx_M) {E : Nat} (hE : E ≤ 10) (eE : m.1 0 7 = nI E) (v0 : Int64) {Z : Option Value → dx_M → Prop} (h : Z (some (.long (dg_L (thX m) (factX m) E v0))) m) : dx_Sem dx_P lx_X (d + 2) 62 [.ref 0, .long v0] m Z := by
  refine dx_sem km_X3_digestLoads rfl rfl ?_
  refine dx_blk 0 (c' := (0, [.ref 0, .long v0, .null, .null, .null, .null, .null], [], m)) rfl ?_
  refine dx_blk 4 (c' := (5, [.ref 0, .long v0, .null, .long v0, .null, .int 0, .null], [], m)) rfl ?_
  refine dx_blk 0 (c' := (5, [.ref 0, .long v0, .null, .long v0, .null, .int (nI 0), .null], [], m)) rfl ?_
  refine dx_for (fun (i : Nat) (u : Int64) => ((5, [.ref 0, .long v0, .null, .long u, .null, .int (nI i), .null], [], m) : dx_F)) (fun (i : Nat) (u : Int64) => if thX m i = true then nf (fun (w : Nat) (v : Int64) => 31 * v + (factX m i (nI w)).toInt64) 5 u else 31 * u + -1) (fun _ _ => True) E v0 trivial (fun i u hi hI hk => ?_) (fun _ _ _ _ => trivial) (fun hN => ?_)
  · refine dx_blk 0 (c' := (5, [.ref 0, .long v0, .null, .long u, .null, .int (nI i), .null], [], m)) rfl ?_
    have hi2 : i < E := hi
    refine dx_blk 3 (c' := (11, [.ref 0, .long v0, .null, .long u, .null, .int (nI i), .null], [.int (m.1 0 7), .int (nI i)], m)) rfl ?_
    refine dx_br (q := (m.1 0 7) ≤ (nI i)) (a := 81) (b := 14) (L := [.ref 0, .long v0, .null, .long u, .null, .int (nI i), .null]) (st := []) (m := m) rfl (fun h => absurd h (by rw [show m.1 0 7 = nI E from eE]; exact nI_ge hi (by omega))) (fun _ => ?_)
    refine dx_blk 3 (c' := (20, [.ref 0, .long v0, .null, .long u, .null, .int (nI i), .null], [.int (nI i), .ref 6], m)) rfl ?_
    refine dx_aadN i (q := (10 + i)) rfl rfl (Or.inl rfl) rfl (by omega) (lx_rs6 i (by omega)) ?_
    refine dx_blk 0 (c' := (21, [.ref 0, .long v0, .null, .long u, .null, .int (nI i), .null], [.ref (10 + i)], m)) rfl ?_
    refine dx_getS (k := (10 + i)) (v := .int (m.1 (10 + i) 0)) rfl rfl rfl rfl (lx_ld i (by omega)) rfl ?_
    refine dx_blk 0 (c' := (24, [.ref 0, .long v0, .null, .long u, .null, .int (nI i), .null], [.int (m.1 (10 + i) 0)], m)) rfl ?_
    refine dx_br (q := (m.1 (10 + i) 0) = 0) (a := 27) (b := 40) (L := [.ref 0, .long v0, .null, .long u, .null, .int (nI i), .null]) (st := []) (m := m) rfl (fun h24 => ?_) (fun h24 => ?_)
    · refine dx_blk 9 (c' := (5, [.ref 0, .long v0, .null, .long ((31 * u) + (-1)), .null, .int ((nI i) + 1), .null], [], m)) rfl ?_
      first | (rw [if_neg (by rw [thX_f (by assumption)]; decide), nI_succ] at hk; exact hk) | (rw [if_pos (thX_t (by assumption)), nI_succ] at hk; exact hk)
    · refine dx_blk 2 (c' := (43, [.ref 0, .long v0, .null, .long u, .null, .int (nI i), .int 0], [], m)) rfl ?_
      refine dx_blk 0 (c' := (43, [.ref 0, .long v0, .null, .long u, .null, .int (nI i), .int (nI 0)], [], m)) rfl ?_
      refine dx_for (fun (w : Nat) (v : Int64) => ((43, [.ref 0, .long v0, .null, .long v, .null, .int (nI i), .int (nI w)], [], m) : dx_F)) (fun (w : Nat) (v : Int64) => 31 * v + (factX m i (nI w)).toInt64) (fun _ _ => True) 5 u trivial (fun w v hi hI hk => ?_) (fun _ _ _ _ => trivial) (fun hN => ?_)
      · refine dx_blk 0 (c' := (43, [.ref 0, .long v0, .null, .long v, .null, .int (nI i), .int (nI w)], [], m)) rfl ?_
        refine dx_blk 2 (c' := (46, [.ref 0, .long v0, .null, .long v, .null, .int (nI i), .int (nI w)], [.int 5, .int (nI w)], m)) rfl ?_
        refine dx_br (q := 5 ≤ (nI w)) (a := 75) (b := 49) (L := [.ref 0, .long v0, .null, .long v, .null, .int (nI i), .int (nI w)]) (st := []) (m := m) rfl (fun h => absurd h (nI_ge hi (by decide))) (fun _ => ?_)
        refine dx_blk 6 (c' := (60, [.ref 0, .long v0, .null, .long v, .null, .int (nI i), .int (nI w)], [.int (nI i), .ref 6, .long (31 * v)], m)) rfl ?_
        refine dx_aadN i (q := (10 + i)) rfl rfl (Or.inl rfl) rfl (by omega) (lx_rs6 i (by omega)) ?_
        refine dx_blk 0 (c' := (61, [.ref 0, .long v0, .null, .long v, .null, .int (nI i), .int (nI w)], [.ref (10 + i), .long (31 * v)], m)) rfl ?_
        refine dx_blk 1 (c' := (63, [.ref 0, .long v0, .null, .long v, .null, .int (nI i), .int (nI w)], [.int (nI w), .ref (10 + i), .long (31 * v)], m)) rfl ?_
        refine dx_call (id := 25) (as := [.ref (10 + i), .int (nI w)]) (rest := [.long (31 * v)]) (dx_clV (as := [.int (nI w)]) rfl rfl rfl rfl (lx_ld i (by omega)) rfl rfl rfl (Nat.le_of_ble_eq_true rfl)) ?_
        refine sX2_fact _ (j := i) (by omega) (nI w) ?_
        refine dx_blk 0 (c' := (66, [.ref 0, .long v0, .null, .long v, .null, .int (nI i), .int (nI w)], [.int (factX m i (nI w)), .long (31 * v)], m)) rfl ?_
        refine dx_blk 5 (c' := (43, [.ref 0, .long v0, .null, .long ((31 * v) + ((factX m i (nI w)).toInt64)), .null, .int (nI i), .int ((nI w) + 1)], [], m)) rfl ?_
        rw [← nI_succ]
        exact hk
      · refine dx_blk 0 (c' := (43, [.ref 0, .long v0, .null, .long (nf (fun (w : Nat) (v : Int64) => 31 * v + (factX m i (nI w)).toInt64) 5 u), .null, .int (nI i), .int (nI 5)], [], m)) rfl ?_
        refine dx_blk 2 (c' := (46, [.ref 0, .long v0, .null, .long (nf (fun (w : Nat) (v : Int64) => 31 * v + (factX m i (nI w)).toInt64) 5 u), .null, .int (nI i), .int (nI 5)], [.int 5, .int (nI 5)], m)) rfl ?_
        refine dx_br (q := 5 ≤ (nI 5)) (a := 75) (b := 49) (L := [.ref 0, .long v0, .null, .long (nf (fun (w : Nat) (v : Int64) => 31 * v + (factX m i (nI w)).toInt64) 5 u), .null, .int (nI i), .int (nI 5)]) (st := []) (m := m) rfl (fun _ => ?_) (fun h => absurd (nI_le (Nat.le_refl _) (by decide)) h)
        refine dx_blk 2 (c' := (5, [.ref 0, .long v0, .null, .long (nf (fun (w : Nat) (v : Int64) => 31 * v + (factX m i (nI w)).toInt64) 5 u), .null, .int ((nI i) + 1), .int (nI 5)], [], m)) rfl ?_
        refine dx_fgt [.ref 0, .long v0, .null, .long (nf (fun (w : Nat) (v : Int64) => 31 * v + (factX m i (nI w)).toInt64) 5 u), .null, .int ((nI i) + 1), .null] (And.intro (Or.inr rfl) (And.intro (Or.inr rfl) (And.intro (Or.inl rfl) (And.intro (Or.inr rfl) (And.intro (Or.inl rfl) (And.intro (Or.inr rfl) (And.intro (Or.inl rfl) trivial))))))) ?_
        first | (rw [if_neg (by rw [thX_f (by assumption)]; decide), nI_succ] at hk; exact hk) | (rw [if_pos (thX_t (by assumption)), nI_succ] at hk; exact hk)
  · refine dx_blk 0 (c' := (5, [.ref 0, .long v0, .null, .long (nf (fun (i : Nat) (u : Int64) => if thX m i = true then nf (fun (w : Nat) (v : Int64) => 31 * v + (factX m i (nI w)).toInt64) 5 u else 31 * u + -1) E v0), .null, .int (nI E), .null], [], m)) rfl ?_
    refine dx_blk 3 (c' := (11, [.ref 0, .long v0, .null, .long (nf (fun (i : Nat) (u : Int64) => if thX m i = true then nf (fun (w : Nat) (v : Int64) => 31 * v + (factX m i (nI w)).toInt64) 5 u else 31 * u + -1) E v0), .null, .int (nI E), .null], [.int (m.1 0 7), .int (nI E)], m)) rfl ?_
    refine dx_br (q := (m.1 0 7) ≤ (nI E)) (a := 81) (b := 14) (L := [.ref 0, .long v0, .null, .long (nf (fun (i : Nat) (u : Int64) => if thX m i = true then nf (fun (w : Nat) (v : Int64) => 31 * v + (factX m i (nI w)).toInt64) 5 u else 31 * u + -1) E v0), .null, .int (nI E), .null]) (st := []) (m := m) rfl (fun _ => ?_) (fun h => absurd (by rw [show m.1 0 7 = nI E from eE]; exact nI_le (Nat.le_refl _) (by omega)) h)
    refine dx_blk 1 (c' := (82, [.ref 0, .long v0, .null, .long (nf (fun (i : Nat) (u : Int64) => if thX m i = true then nf (fun (w : Nat) (v : Int64) => 31 * v + (factX m i (nI w)).toInt64) 5 u else 31 * u + -1) E v0), .null, .int (nI E), .null], [.long (nf (fun (i : Nat) (u : Int64) => if thX m i = true then nf (fun (w : Nat) (v : Int64) => 31 * v + (factX m i (nI w)).toInt64) 5 u else 31 * u + -1) E v0)], m)) rfl ?_
    exact dx_ret (r := some (.long (nf (fun (i : Nat) (u : Int64) => if thX m i = true then nf (fun (w : Nat) (v : Int64) => 31 * v + (factX m i (nI w)).toInt64) 5 u else 31 * u + -1) E v0))) rfl h
set_option maxRecDepth 20000 in
theorem sX3_digestSheets {d : Nat} (m : dx_M) (hz : ∀ a : Nat, a < 6 → szP (m.1 8 a)) (v0 : Int64) {Z : Option Value → dx_M → Prop} (h : Z (some (.long (dg_S (m.1 8) (fun s i => m.1 (20 + s) i) v0))) m) : dx_Sem dx_P lx_X (d + 1) 63 [.ref 0, .long v0] m Z := by
  refine dx_sem km_X3_digestSheets rfl rfl ?_
  refine dx_blk 0 (c' := (0, [.ref 0, .long v0, .null, .null, .null, .null, .null], [], m)) rfl ?_
  refine dx_blk 4 (c' := (5, [.ref 0, .long v0, .null, .long v0, .null, .int 0, .null], [], m)) rfl ?_
  refine dx_blk 0 (c' := (5, [.ref 0, .long v0, .null, .long v0, .null, .int (nI 0), .null], [], m)) rfl ?_
  refine dx_for (fun (i : Nat) (u : Int64) => ((5, [.ref 0, .long v0, .null, .long u, .null, .int (nI i), .null], [], m) : dx_F)) (fun (i : Nat) (u : Int64) => nf (fun (j : Nat) (v : Int64) => 31 * v + (m.1 (20 + i) j).toInt64) (szN (m.1 8 i)) (31 * u + (m.1 8 i).toInt64)) (fun _ _ => True) 6 v0 trivial (fun i u hi hI hk => ?_) (fun _ _ _ _ => trivial) (fun hN => ?_)
  · refine dx_blk 0 (c' := (5, [.ref 0, .long v0, .null, .long u, .null, .int (nI i), .null], [], m)) rfl ?_
    have hi2 : i < 6 := hi
    refine dx_blk 2 (c' := (9, [.ref 0, .long v0, .null, .long u, .null, .int (nI i), .null], [.int 6, .int (nI i)], m)) rfl ?_
    refine dx_br (q := 6 ≤ (nI i)) (a := 72) (b := 12) (L := [.ref 0, .long v0, .null, .long u, .null, .int (nI i), .null]) (st := []) (m := m) rfl (fun h => absurd h (nI_ge hi (by decide))) (fun _ => ?_)
    refine dx_blk 6 (c' := (23, [.ref 0, .long v0, .null, .long u, .null, .int (nI i), .null], [.int (nI i), .ref 8, .long (31 * u)], m)) rfl ?_
    refine dx_aldN i rfl rfl rfl rfl (by omega) ?_
    refine dx_blk 0 (c' := (24, [.ref 0, .long v0, .null, .long u, .null, .int (nI i), .null], [.int (m.1 8 i), .long (31 * u)], m)) rfl ?_
    refine dx_blk 5 (c' := (30, [.ref 0, .long v0, .null, .long ((31 * u) + ((m.1 8 i).toInt64)), .null, .int (nI i), .int 0], [], m)) rfl ?_
    rcases hz i hi2 with e | ⟨z, hz1, e⟩
    · refine dx_blk 0 (c' := (30, [.ref 0, .long v0, .null, .long ((31 * u) + ((m.1 8 i).toInt64)), .null, .int (nI i), .int 0], [], m)) rfl ?_
      refine dx_blk 0 (c' := (30, [.ref 0, .long v0, .null, .long (31 * u + (m.1 8 i).toInt64), .null, .int (nI i), .int (nI 0)], [], m)) rfl ?_
      refine dx_for (fun (j : Nat) (v : Int64) => ((30, [.ref 0, .long v0, .null, .long v, .null, .int (nI i), .int (nI j)], [], m) : dx_F)) (fun (j : Nat) (v : Int64) => 31 * v + (m.1 (20 + i) j).toInt64) (fun _ _ => True) 0 (31 * u + (m.1 8 i).toInt64) trivial (fun j v hi hI hk => ?_) (fun _ _ _ _ => trivial) (fun hN => ?_)
      · refine dx_blk 0 (c' := (30, [.ref 0, .long v0, .null, .long v, .null, .int (nI i), .int (nI j)], [], m)) rfl ?_
        refine dx_blk 4 (c' := (38, [.ref 0, .long v0, .null, .long v, .null, .int (nI i), .int (nI j)], [.int (nI i), .ref 8, .int (nI j)], m)) rfl ?_
        refine dx_aldN i rfl rfl rfl rfl (by omega) ?_
        refine dx_blk 0 (c' := (39, [.ref 0, .long v0, .null, .long v, .null, .int (nI i), .int (nI j)], [.int (m.1 8 i), .int (nI j)], m)) rfl ?_
        refine dx_br (q := (m.1 8 i) ≤ (nI j)) (a := 66) (b := 42) (L := [.ref 0, .long v0, .null, .long v, .null, .int (nI i), .int (nI j)]) (st := []) (m := m) rfl (fun h => absurd h (absurd hi (by omega))) (fun _ => ?_)
        refine dx_blk 6 (c' := (53, [.ref 0, .long v0, .null, .long v, .null, .int (nI i), .int (nI j)], [.int (nI i), .ref 7, .long (31 * v)], m)) rfl ?_
        refine dx_aadN i (q := (20 + i)) rfl rfl (Or.inr rfl) rfl (by omega) (lx_rs7 i (by omega)) ?_
        refine dx_blk 0 (c' := (54, [.ref 0, .long v0, .null, .long v, .null, .int (nI i), .int (nI j)], [.ref (20 + i), .long (31 * v)], m)) rfl ?_
        refine dx_blk 1 (c' := (56, [.ref 0, .long v0, .null, .long v, .null, .int (nI i), .int (nI j)], [.int (nI j), .ref (20 + i), .long (31 * v)], m)) rfl ?_
        refine dx_bldN j rfl rfl (Or.inl (lx_row i (by omega))) rfl (by omega) ?_
        refine dx_blk 0 (c' := (57, [.ref 0, .long v0, .null, .long v, .null, .int (nI i), .int (nI j)], [.int (m.1 (20 + i) j), .long (31 * v)], m)) rfl ?_
        refine dx_blk 5 (c' := (30, [.ref 0, .long v0, .null, .long ((31 * v) + ((m.1 (20 + i) j).toInt64)), .null, .int (nI i), .int ((nI j) + 1)], [], m)) rfl ?_
        rw [← nI_succ]
        exact hk
      · refine dx_blk 0 (c' := (30, [.ref 0, .long v0, .null, .long (nf (fun (j : Nat) (v : Int64) => 31 * v + (m.1 (20 + i) j).toInt64) 0 (31 * u + (m.1 8 i).toInt64)), .null, .int (nI i), .int (nI 0)], [], m)) rfl ?_
        refine dx_blk 4 (c' := (38, [.ref 0, .long v0, .null, .long (nf (fun (j : Nat) (v : Int64) => 31 * v + (m.1 (20 + i) j).toInt64) 0 (31 * u + (m.1 8 i).toInt64)), .null, .int (nI i), .int (nI 0)], [.int (nI i), .ref 8, .int (nI 0)], m)) rfl ?_
        refine dx_aldN i rfl rfl rfl rfl (by omega) ?_
        refine dx_blk 0 (c' := (39, [.ref 0, .long v0, .null, .long (nf (fun (j : Nat) (v : Int64) => 31 * v + (m.1 (20 + i) j).toInt64) 0 (31 * u + (m.1 8 i).toInt64)), .null, .int (nI i), .int (nI 0)], [.int (m.1 8 i), .int (nI 0)], m)) rfl ?_
        refine dx_br (q := (m.1 8 i) ≤ (nI 0)) (a := 66) (b := 42) (L := [.ref 0, .long v0, .null, .long (nf (fun (j : Nat) (v : Int64) => 31 * v + (m.1 (20 + i) j).toInt64) 0 (31 * u + (m.1 8 i).toInt64)), .null, .int (nI i), .int (nI 0)]) (st := []) (m := m) rfl (fun _ => ?_) (fun h => absurd (by rw [e]; decide) h)
        refine dx_blk 2 (c' := (5, [.ref 0, .long v0, .null, .long (nf (fun (j : Nat) (v : Int64) => 31 * v + (m.1 (20 + i) j).toInt64) 0 (31 * u + (m.1 8 i).toInt64)), .null, .int ((nI i) + 1), .int (nI 0)], [], m)) rfl ?_
        refine dx_fgt [.ref 0, .long v0, .null, .long (nf (fun (j : Nat) (v : Int64) => 31 * v + (m.1 (20 + i) j).toInt64) 0 (31 * u + (m.1 8 i).toInt64)), .null, .int ((nI i) + 1), .null] (And.intro (Or.inr rfl) (And.intro (Or.inr rfl) (And.intro (Or.inl rfl) (And.intro (Or.inr rfl) (And.intro (Or.inl rfl) (And.intro (Or.inr rfl) (And.intro (Or.inl rfl) trivial))))))) ?_
        first | (rw [show szN (m.1 8 i) = 0 by rw [e]; rfl, nI_succ] at hk; exact hk) | (rw [show szN (m.1 8 i) = z by rw [e]; exact szN_z hz1, nI_succ] at hk; exact hk)
    · refine dx_blk 0 (c' := (30, [.ref 0, .long v0, .null, .long ((31 * u) + ((m.1 8 i).toInt64)), .null, .int (nI i), .int 0], [], m)) rfl ?_
      refine dx_blk 0 (c' := (30, [.ref 0, .long v0, .null, .long (31 * u + (m.1 8 i).toInt64), .null, .int (nI i), .int (nI 0)], [], m)) rfl ?_
      refine dx_for (fun (j : Nat) (v : Int64) => ((30, [.ref 0, .long v0, .null, .long v, .null, .int (nI i), .int (nI j)], [], m) : dx_F)) (fun (j : Nat) (v : Int64) => 31 * v + (m.1 (20 + i) j).toInt64) (fun _ _ => True) z (31 * u + (m.1 8 i).toInt64) trivial (fun j v hi hI hk => ?_) (fun _ _ _ _ => trivial) (fun hN => ?_)
      · refine dx_blk 0 (c' := (30, [.ref 0, .long v0, .null, .long v, .null, .int (nI i), .int (nI j)], [], m)) rfl ?_
        refine dx_blk 4 (c' := (38, [.ref 0, .long v0, .null, .long v, .null, .int (nI i), .int (nI j)], [.int (nI i), .ref 8, .int (nI j)], m)) rfl ?_
        refine dx_aldN i rfl rfl rfl rfl (by omega) ?_
        refine dx_blk 0 (c' := (39, [.ref 0, .long v0, .null, .long v, .null, .int (nI i), .int (nI j)], [.int (m.1 8 i), .int (nI j)], m)) rfl ?_
        refine dx_br (q := (m.1 8 i) ≤ (nI j)) (a := 66) (b := 42) (L := [.ref 0, .long v0, .null, .long v, .null, .int (nI i), .int (nI j)]) (st := []) (m := m) rfl (fun h => absurd h (by rw [e]; exact nI_ge hi (by omega))) (fun _ => ?_)
        refine dx_blk 6 (c' := (53, [.ref 0, .long v0, .null, .long v, .null, .int (nI i), .int (nI j)], [.int (nI i), .ref 7, .long (31 * v)], m)) rfl ?_
        refine dx_aadN i (q := (20 + i)) rfl rfl (Or.inr rfl) rfl (by omega) (lx_rs7 i (by omega)) ?_
        refine dx_blk 0 (c' := (54, [.ref 0, .long v0, .null, .long v, .null, .int (nI i), .int (nI j)], [.ref (20 + i), .long (31 * v)], m)) rfl ?_
        refine dx_blk 1 (c' := (56, [.ref 0, .long v0, .null, .long v, .null, .int (nI i), .int (nI j)], [.int (nI j), .ref (20 + i), .long (31 * v)], m)) rfl ?_
        refine dx_bldN j rfl rfl (Or.inl (lx_row i (by omega))) rfl (by omega) ?_
        refine dx_blk 0 (c' := (57, [.ref 0, .long v0, .null, .long v, .null, .int (nI i), .int (nI j)], [.int (m.1 (20 + i) j), .long (31 * v)], m)) rfl ?_
        refine dx_blk 5 (c' := (30, [.ref 0, .long v0, .null, .long ((31 * v) + ((m.1 (20 + i) j).toInt64)), .null, .int (nI i), .int ((nI j) + 1)], [], m)) rfl ?_
        rw [← nI_succ]
        exact hk
      · refine dx_blk 0 (c' := (30, [.ref 0, .long v0, .null, .long (nf (fun (j : Nat) (v : Int64) => 31 * v + (m.1 (20 + i) j).toInt64) z (31 * u + (m.1 8 i).toInt64)), .null, .int (nI i), .int (nI z)], [], m)) rfl ?_
        refine dx_blk 4 (c' := (38, [.ref 0, .long v0, .null, .long (nf (fun (j : Nat) (v : Int64) => 31 * v + (m.1 (20 + i) j).toInt64) z (31 * u + (m.1 8 i).toInt64)), .null, .int (nI i), .int (nI z)], [.int (nI i), .ref 8, .int (nI z)], m)) rfl ?_
        refine dx_aldN i rfl rfl rfl rfl (by omega) ?_
        refine dx_blk 0 (c' := (39, [.ref 0, .long v0, .null, .long (nf (fun (j : Nat) (v : Int64) => 31 * v + (m.1 (20 + i) j).toInt64) z (31 * u + (m.1 8 i).toInt64)), .null, .int (nI i), .int (nI z)], [.int (m.1 8 i), .int (nI z)], m)) rfl ?_
        refine dx_br (q := (m.1 8 i) ≤ (nI z)) (a := 66) (b := 42) (L := [.ref 0, .long v0, .null, .long (nf (fun (j : Nat) (v : Int64) => 31 * v + (m.1 (20 + i) j).toInt64) z (31 * u + (m.1 8 i).toInt64)), .null, .int (nI i), .int (nI z)]) (st := []) (m := m) rfl (fun _ => ?_) (fun h => absurd (by rw [e]; exact nI_le (Nat.le_refl _) (by omega)) h)
        refine dx_blk 2 (c' := (5, [.ref 0, .long v0, .null, .long (nf (fun (j : Nat) (v : Int64) => 31 * v + (m.1 (20 + i) j).toInt64) z (31 * u + (m.1 8 i).toInt64)), .null, .int ((nI i) + 1), .int (nI z)], [], m)) rfl ?_
        refine dx_fgt [.ref 0, .long v0, .null, .long (nf (fun (j : Nat) (v : Int64) => 31 * v + (m.1 (20 + i) j).toInt64) z (31 * u + (m.1 8 i).toInt64)), .null, .int ((nI i) + 1), .null] (And.intro (Or.inr rfl) (And.intro (Or.inr rfl) (And.intro (Or.inl rfl) (And.intro (Or.inr rfl) (And.intro (Or.inl rfl) (And.intro (Or.inr rfl) (And.intro (Or.inl rfl) trivial))))))) ?_
        first | (rw [show szN (m.1 8 i) = 0 by rw [e]; rfl, nI_succ] at hk; exact hk) | (rw [show szN (m.1 8 i) = z by rw [e]; exact szN_z hz1, nI_succ] at hk; exact hk)
  · refine dx_blk 0 (c' := (5, [.ref 0, .long v0, .null, .long (nf (fun (i : Nat) (u : Int64) => nf (fun (j : Nat) (v : Int64) => 31 * v + (m.1 (20 + i) j).toInt64) (szN (m.1 8 i)) (31 * u + (m.1 8 i).toInt64)) 6 v0), .null, .int (nI 6), .null], [], m)) rfl ?_
    refine dx_blk 2 (c' := (9, [.ref 0, .long v0, .null, .long (nf (fun (i : Nat) (u : Int64) => nf (fun (j : Nat) (v : Int64) => 31 * v + (m.1 (20 + i) j).toInt64) (szN (m.1 8 i)) (31 * u + (m.1 8 i).toInt64)) 6 v0), .null, .int (nI 6), .null], [.int 6, .int (nI 6)], m)) rfl ?_
    refine dx_br (q := 6 ≤ (nI 6)) (a := 72) (b := 12) (L := [.ref 0, .long v0, .null, .long (nf (fun (i : Nat) (u : Int64) => nf (fun (j : Nat) (v : Int64) => 31 * v + (m.1 (20 + i) j).toInt64) (szN (m.1 8 i)) (31 * u + (m.1 8 i).toInt64)) 6 v0), .null, .int (nI 6), .null]) (st := []) (m := m) rfl (fun _ => ?_) (fun h => absurd (nI_le (Nat.le_refl _) (by decide)) h)
    refine dx_blk 1 (c' := (73, [.ref 0, .long v0, .null, .long (nf (fun (i : Nat) (u : Int64) => nf (fun (j : Nat) (v : Int64) => 31 * v + (m.1 (20 + i) j).toInt64) (szN (m.1 8 i)) (31 * u + (m.1 8 i).toInt64)) 6 v0), .null, .int (nI 6), .null], [.long (nf (fun (i : Nat) (u : Int64) => nf (fun (j : Nat) (v : Int64) => 31 * v + (m.1 (20 + i) j).toInt64) (szN (m.1 8 i)) (31 * u + (m.1 8 i).toInt64)) 6 v0)], m)) rfl ?_
    exact dx_ret (r := some (.long (nf (fun (i : Nat) (u : Int64) => nf (fun (j : Nat) (v : Int64) => 31 * v + (m.1 (20 + i) j).toInt64) (szN (m.1 8 i)) (31 * u + (m.1 8 i).toInt64)) 6 v0))) rfl h
set_option maxRecDepth 20000 in
theorem sX3_digest {d : Nat} (m : dx_M) {W H : Nat} (hW : W ≤ 12) (hH : H ≤ 12) (eW : m.1 1 1 = nI W) (eH : m.1 1 2 = nI H) {E : Nat} (hE : E ≤ 10) (eE : m.1 0 7 = nI E) (hz : ∀ a : Nat, a < 6 → szP (m.1 8 a)) {Z : Option Value → dx_M → Prop} (h : Z (some (.long (dg_S (m.1 8) (fun s i => m.1 (20 + s) i) (dg_L (thX m) (factX m) E (31 * dg_P (fun y x => m.1 2 (y * 12 + x)) W H (31 * (31 * 17 + (m.1 1 1).toInt64) + (m.1 1 2).toInt64) + (m.1 0 6).toInt64))))) m) : dx_Sem dx_P lx_X (d + 3) 60 [.ref 0] m Z := by
  refine dx_sem km_X3_digest rfl rfl ?_
  refine dx_blk 0 (c' := (0, [.ref 0], [], m)) rfl ?_
  refine dx_blk 5 (c' := (9, [.ref 0], [.long 17, .ref 0, .long 31, .ref 0, .ref 0], m)) rfl ?_
  refine dx_call (id := 61) (as := [.ref 0, .long 17]) (rest := [.long 31, .ref 0, .ref 0]) rfl ?_
  refine sX3_digestPlaces _ hW hH eW eH 17 ?_
  refine dx_blk 0 (c' := (12, [.ref 0], [.long (dg_P (fun y x => m.1 2 (y * 12 + x)) W H (31 * (31 * 17 + (m.1 1 1).toInt64) + (m.1 1 2).toInt64)), .long 31, .ref 0, .ref 0], m)) rfl ?_
  refine dx_blk 5 (c' := (19, [.ref 0], [.long ((31 * (dg_P (fun y x => m.1 2 (y * 12 + x)) W H (31 * (31 * 17 + (m.1 1 1).toInt64) + (m.1 1 2).toInt64))) + ((m.1 0 6).toInt64)), .ref 0, .ref 0], m)) rfl ?_
  refine dx_call (id := 62) (as := [.ref 0, .long ((31 * (dg_P (fun y x => m.1 2 (y * 12 + x)) W H (31 * (31 * 17 + (m.1 1 1).toInt64) + (m.1 1 2).toInt64))) + ((m.1 0 6).toInt64))]) (rest := [.ref 0]) rfl ?_
  refine sX3_digestLoads _ hE eE ((31 * (dg_P (fun y x => m.1 2 (y * 12 + x)) W H (31 * (31 * 17 + (m.1 1 1).toInt64) + (m.1 1 2).toInt64))) + ((m.1 0 6).toInt64)) ?_
  refine dx_blk 0 (c' := (22, [.ref 0], [.long (dg_L (thX m) (factX m) E ((31 * (dg_P (fun y x => m.1 2 (y * 12 + x)) W H (31 * (31 * 17 + (m.1 1 1).toInt64) + (m.1 1 2).toInt64))) + ((m.1 0 6).toInt64))), .ref 0], m)) rfl ?_
  refine dx_call (id := 63) (as := [.ref 0, .long (dg_L (thX m) (factX m) E ((31 * (dg_P (fun y x => m.1 2 (y * 12 + x)) W H (31 * (31 * 17 + (m.1 1 1).toInt64) + (m.1 1 2).toInt64))) + ((m.1 0 6).toInt64)))]) (rest := []) rfl ?_
  refine sX3_digestSheets _ hz (dg_L (thX m) (factX m) E ((31 * (dg_P (fun y x => m.1 2 (y * 12 + x)) W H (31 * (31 * 17 + (m.1 1 1).toInt64) + (m.1 1 2).toInt64))) + ((m.1 0 6).toInt64))) ?_
  refine dx_blk 0 (c' := (25, [.ref 0], [.long (dg_S (m.1 8) (fun s i => m.1 (20 + s) i) (dg_L (thX m) (factX m) E ((31 * (dg_P (fun y x => m.1 2 (y * 12 + x)) W H (31 * (31 * 17 + (m.1 1 1).toInt64) + (m.1 1 2).toInt64))) + ((m.1 0 6).toInt64))))], m)) rfl ?_
  exact dx_ret (r := some (.long (dg_S (m.1 8) (fun s i => m.1 (20 + s) i) (dg_L (thX m) (factX m) E ((31 * (dg_P (fun y x => m.1 2 (y * 12 + x)) W H (31 * (31 * 17 + (m.1 1 1).toInt64) + (m.1 1 2).toInt64))) + ((m.1 0 6).toInt64)))))) rfl h
set_option maxRecDepth 20000 in
set_option maxHeartbeats 4000000 in
theorem sX4_digest {d : Nat} (m : dx_M) {W H : Nat} (hW : W ≤ 12) (hH : H ≤ 12) (eW : m.1 0 4 = nI W) (eH : m.1 0 5 = nI H) {E : Nat} (hE : E ≤ 10) (eE : m.1 0 11 = nI E) (hz : ∀ a : Nat, a < 6 → szP (m.1 3 a)) {Z : Option Value → dx_M → Prop} (h : Z (some (.long (dg_S (m.1 3) (fun s i => m.1 4 (12 * s + i)) (dg_L (thM m) (factM m) E (31 * dg_P (fun y x => m.1 2 (12 * y + x)) W H (31 * (527 + (m.1 0 4).toInt64) + (m.1 0 5).toInt64) + (m.1 0 6).toInt64))))) m) : dx_Sem dx_P lx_M (d + 2) 142 [.ref 0] m Z := by
  refine dx_sem km_X4_digest rfl rfl ?_
  refine dx_blk 0 (c' := (0, [.ref 0, .null, .null, .null, .null], [], m)) rfl ?_
  refine dx_blk 14 (c' := (22, [.ref 0, .long ((31 * (527 + ((m.1 0 4).toInt64))) + ((m.1 0 5).toInt64)), .null, .int 0, .null], [], m)) rfl ?_
  refine dx_blk 0 (c' := (22, [.ref 0, .long (31 * (527 + (m.1 0 4).toInt64) + (m.1 0 5).toInt64), .null, .int (nI 0), .null], [], m)) rfl ?_
  refine dx_for (fun (y : Nat) (u : Int64) => ((22, [.ref 0, .long u, .null, .int (nI y), .null], [], m) : dx_F)) (fun (y : Nat) (u : Int64) => nf (fun (x : Nat) (v : Int64) => 31 * v + (m.1 2 (12 * y + x)).toInt64) W u) (fun _ _ => True) H (31 * (527 + (m.1 0 4).toInt64) + (m.1 0 5).toInt64) trivial (fun y u hi hI hk => ?_) (fun _ _ _ _ => trivial) (fun hN => ?_)
  · refine dx_blk 0 (c' := (22, [.ref 0, .long u, .null, .int (nI y), .null], [], m)) rfl ?_
    have hy : y < H := hi
    refine dx_blk 3 (c' := (27, [.ref 0, .long u, .null, .int (nI y), .null], [.int (m.1 0 5), .int (nI y)], m)) rfl ?_
    refine dx_br (q := (m.1 0 5) ≤ (nI y)) (a := 74) (b := 30) (L := [.ref 0, .long u, .null, .int (nI y), .null]) (st := []) (m := m) rfl (fun h => absurd h (by rw [show m.1 0 5 = nI H from eH]; exact nI_ge hi (by omega))) (fun _ => ?_)
    refine dx_blk 2 (c' := (33, [.ref 0, .long u, .null, .int (nI y), .int 0], [], m)) rfl ?_
    refine dx_blk 0 (c' := (33, [.ref 0, .long u, .null, .int (nI y), .int (nI 0)], [], m)) rfl ?_
    refine dx_for (fun (x : Nat) (v : Int64) => ((33, [.ref 0, .long v, .null, .int (nI y), .int (nI x)], [], m) : dx_F)) (fun (x : Nat) (v : Int64) => 31 * v + (m.1 2 (12 * y + x)).toInt64) (fun _ _ => True) W u trivial (fun x v hi hI hk => ?_) (fun _ _ _ _ => trivial) (fun hN => ?_)
    · refine dx_blk 0 (c' := (33, [.ref 0, .long v, .null, .int (nI y), .int (nI x)], [], m)) rfl ?_
      refine dx_blk 3 (c' := (39, [.ref 0, .long v, .null, .int (nI y), .int (nI x)], [.int (m.1 0 4), .int (nI x)], m)) rfl ?_
      refine dx_br (q := (m.1 0 4) ≤ (nI x)) (a := 68) (b := 42) (L := [.ref 0, .long v, .null, .int (nI y), .int (nI x)]) (st := []) (m := m) rfl (fun h => absurd h (by rw [show m.1 0 4 = nI W from eW]; exact nI_ge hi (by omega))) (fun _ => ?_)
      refine dx_blk 10 (c' := (58, [.ref 0, .long v, .null, .int (nI y), .int (nI x)], [.int ((12 * (nI y)) + (nI x)), .ref 2, .long (31 * v)], m)) rfl ?_
      refine dx_aldN (12 * y + x) rfl rfl rfl (nI_ix2 y x) (by omega) ?_
      refine dx_blk 0 (c' := (59, [.ref 0, .long v, .null, .int (nI y), .int (nI x)], [.int (m.1 2 (12 * y + x)), .long (31 * v)], m)) rfl ?_
      refine dx_blk 5 (c' := (33, [.ref 0, .long ((31 * v) + ((m.1 2 (12 * y + x)).toInt64)), .null, .int (nI y), .int ((nI x) + 1)], [], m)) rfl ?_
      rw [← nI_succ]
      exact hk
    · refine dx_blk 0 (c' := (33, [.ref 0, .long (nf (fun (x : Nat) (v : Int64) => 31 * v + (m.1 2 (12 * y + x)).toInt64) W u), .null, .int (nI y), .int (nI W)], [], m)) rfl ?_
      refine dx_blk 3 (c' := (39, [.ref 0, .long (nf (fun (x : Nat) (v : Int64) => 31 * v + (m.1 2 (12 * y + x)).toInt64) W u), .null, .int (nI y), .int (nI W)], [.int (m.1 0 4), .int (nI W)], m)) rfl ?_
      refine dx_br (q := (m.1 0 4) ≤ (nI W)) (a := 68) (b := 42) (L := [.ref 0, .long (nf (fun (x : Nat) (v : Int64) => 31 * v + (m.1 2 (12 * y + x)).toInt64) W u), .null, .int (nI y), .int (nI W)]) (st := []) (m := m) rfl (fun _ => ?_) (fun h => absurd (by rw [show m.1 0 4 = nI W from eW]; exact nI_le (Nat.le_refl _) (by omega)) h)
      refine dx_blk 2 (c' := (22, [.ref 0, .long (nf (fun (x : Nat) (v : Int64) => 31 * v + (m.1 2 (12 * y + x)).toInt64) W u), .null, .int ((nI y) + 1), .int (nI W)], [], m)) rfl ?_
      refine dx_fgt [.ref 0, .long (nf (fun (x : Nat) (v : Int64) => 31 * v + (m.1 2 (12 * y + x)).toInt64) W u), .null, .int ((nI y) + 1), .null] (And.intro (Or.inr rfl) (And.intro (Or.inr rfl) (And.intro (Or.inl rfl) (And.intro (Or.inr rfl) (And.intro (Or.inl rfl) trivial))))) ?_
      rw [← nI_succ]
      exact hk
  · refine dx_blk 0 (c' := (22, [.ref 0, .long (nf (fun (y : Nat) (u : Int64) => nf (fun (x : Nat) (v : Int64) => 31 * v + (m.1 2 (12 * y + x)).toInt64) W u) H (31 * (527 + (m.1 0 4).toInt64) + (m.1 0 5).toInt64)), .null, .int (nI H), .null], [], m)) rfl ?_
    refine dx_blk 3 (c' := (27, [.ref 0, .long (nf (fun (y : Nat) (u : Int64) => nf (fun (x : Nat) (v : Int64) => 31 * v + (m.1 2 (12 * y + x)).toInt64) W u) H (31 * (527 + (m.1 0 4).toInt64) + (m.1 0 5).toInt64)), .null, .int (nI H), .null], [.int (m.1 0 5), .int (nI H)], m)) rfl ?_
    refine dx_br (q := (m.1 0 5) ≤ (nI H)) (a := 74) (b := 30) (L := [.ref 0, .long (nf (fun (y : Nat) (u : Int64) => nf (fun (x : Nat) (v : Int64) => 31 * v + (m.1 2 (12 * y + x)).toInt64) W u) H (31 * (527 + (m.1 0 4).toInt64) + (m.1 0 5).toInt64)), .null, .int (nI H), .null]) (st := []) (m := m) rfl (fun _ => ?_) (fun h => absurd (by rw [show m.1 0 5 = nI H from eH]; exact nI_le (Nat.le_refl _) (by omega)) h)
    refine dx_blk 10 (c' := (88, [.ref 0, .long ((31 * (nf (fun (y : Nat) (u : Int64) => nf (fun (x : Nat) (v : Int64) => 31 * v + (m.1 2 (12 * y + x)).toInt64) W u) H (31 * (527 + (m.1 0 4).toInt64) + (m.1 0 5).toInt64))) + ((m.1 0 6).toInt64)), .null, .int 0, .null], [], m)) rfl ?_
    refine dx_blk 0 (c' := (88, [.ref 0, .long (31 * (nf (fun (y : Nat) (u : Int64) => nf (fun (x : Nat) (v : Int64) => 31 * v + (m.1 2 (12 * y + x)).toInt64) W u) H (31 * (527 + (m.1 0 4).toInt64) + (m.1 0 5).toInt64)) + (m.1 0 6).toInt64), .null, .int (nI 0), .null], [], m)) rfl ?_
    refine dx_for (fun (i : Nat) (u : Int64) => ((88, [.ref 0, .long u, .null, .int (nI i), .null], [], m) : dx_F)) (fun (i : Nat) (u : Int64) => if thM m i = true then nf (fun (w : Nat) (v : Int64) => 31 * v + (factM m i (nI w)).toInt64) 5 u else 31 * u + -1) (fun _ _ => True) E (31 * (nf (fun (y : Nat) (u : Int64) => nf (fun (x : Nat) (v : Int64) => 31 * v + (m.1 2 (12 * y + x)).toInt64) W u) H (31 * (527 + (m.1 0 4).toInt64) + (m.1 0 5).toInt64)) + (m.1 0 6).toInt64) trivial (fun i u hi hI hk => ?_) (fun _ _ _ _ => trivial) (fun hN => ?_)
    · refine dx_blk 0 (c' := (88, [.ref 0, .long u, .null, .int (nI i), .null], [], m)) rfl ?_
      have hi2 : i < E := hi
      refine dx_blk 3 (c' := (93, [.ref 0, .long u, .null, .int (nI i), .null], [.int (m.1 0 11), .int (nI i)], m)) rfl ?_
      refine dx_br (q := (m.1 0 11) ≤ (nI i)) (a := 162) (b := 96) (L := [.ref 0, .long u, .null, .int (nI i), .null]) (st := []) (m := m) rfl (fun h => absurd h (by rw [show m.1 0 11 = nI E from eE]; exact nI_ge hi (by omega))) (fun _ => ?_)
      refine dx_blk 2 (c' := (99, [.ref 0, .long u, .null, .int (nI i), .int 0], [], m)) rfl ?_
      rcases Decidable.em (m.1 11 i = 0) with g | g
      · refine dx_blk 0 (c' := (99, [.ref 0, .long u, .null, .int (nI i), .int 0], [], m)) rfl ?_
        refine dx_blk 0 (c' := (99, [.ref 0, .long u, .null, .int (nI i), .int (nI 0)], [], m)) rfl ?_
        refine dx_for (fun (w : Nat) (v : Int64) => ((99, [.ref 0, .long v, .null, .int (nI i), .int (nI w)], [], m) : dx_F)) (fun (w : Nat) (v : Int64) => 31 * v + (factM m i (nI w)).toInt64) (fun _ _ => True) 5 u trivial (fun w v hi hI hk => ?_) (fun _ _ _ _ => trivial) (fun hN => ?_)
        · refine dx_blk 0 (c' := (99, [.ref 0, .long v, .null, .int (nI i), .int (nI w)], [], m)) rfl ?_
          refine dx_blk 2 (c' := (102, [.ref 0, .long v, .null, .int (nI i), .int (nI w)], [.int 5, .int (nI w)], m)) rfl ?_
          refine dx_br (q := 5 ≤ (nI w)) (a := 135) (b := 105) (L := [.ref 0, .long v, .null, .int (nI i), .int (nI w)]) (st := []) (m := m) rfl (fun h => absurd h (nI_ge hi (by decide))) (fun _ => ?_)
          refine dx_blk 3 (c' := (110, [.ref 0, .long v, .null, .int (nI i), .int (nI w)], [.int (nI i), .ref 11], m)) rfl ?_
          refine dx_bldN i rfl rfl (Or.inr rfl) rfl (by omega) ?_
          refine dx_blk 0 (c' := (111, [.ref 0, .long v, .null, .int (nI i), .int (nI w)], [.int (m.1 11 i)], m)) rfl ?_
          refine dx_br (q := (m.1 11 i) = 0) (a := 114) (b := 135) (L := [.ref 0, .long v, .null, .int (nI i), .int (nI w)]) (st := []) (m := m) rfl (fun _ => ?_) (fun h => absurd g h)
          refine dx_blk 6 (c' := (123, [.ref 0, .long v, .null, .int (nI i), .int (nI w)], [.int (nI w), .int (nI i), .ref 0, .long (31 * v)], m)) rfl ?_
          refine dx_call (id := 108) (as := [.ref 0, .int (nI i), .int (nI w)]) (rest := [.long (31 * v)]) rfl ?_
          refine sX4_toldOf _ (j := i) (by omega) (nI w) ?_
          refine dx_blk 0 (c' := (126, [.ref 0, .long v, .null, .int (nI i), .int (nI w)], [.int (factM m i (nI w)), .long (31 * v)], m)) rfl ?_
          refine dx_blk 5 (c' := (99, [.ref 0, .long ((31 * v) + ((factM m i (nI w)).toInt64)), .null, .int (nI i), .int ((nI w) + 1)], [], m)) rfl ?_
          rw [← nI_succ]
          exact hk
        · refine dx_blk 0 (c' := (99, [.ref 0, .long (nf (fun (w : Nat) (v : Int64) => 31 * v + (factM m i (nI w)).toInt64) 5 u), .null, .int (nI i), .int (nI 5)], [], m)) rfl ?_
          refine dx_blk 2 (c' := (102, [.ref 0, .long (nf (fun (w : Nat) (v : Int64) => 31 * v + (factM m i (nI w)).toInt64) 5 u), .null, .int (nI i), .int (nI 5)], [.int 5, .int (nI 5)], m)) rfl ?_
          refine dx_br (q := 5 ≤ (nI 5)) (a := 135) (b := 105) (L := [.ref 0, .long (nf (fun (w : Nat) (v : Int64) => 31 * v + (factM m i (nI w)).toInt64) 5 u), .null, .int (nI i), .int (nI 5)]) (st := []) (m := m) rfl (fun _ => ?_) (fun h => absurd (nI_le (Nat.le_refl _) (by decide)) h)
          refine dx_blk 3 (c' := (140, [.ref 0, .long (nf (fun (w : Nat) (v : Int64) => 31 * v + (factM m i (nI w)).toInt64) 5 u), .null, .int (nI i), .int (nI 5)], [.int (nI i), .ref 11], m)) rfl ?_
          refine dx_bldN i rfl rfl (Or.inr rfl) rfl (by omega) ?_
          refine dx_blk 0 (c' := (141, [.ref 0, .long (nf (fun (w : Nat) (v : Int64) => 31 * v + (factM m i (nI w)).toInt64) 5 u), .null, .int (nI i), .int (nI 5)], [.int (m.1 11 i)], m)) rfl ?_
          refine dx_br (q := (m.1 11 i) = 0) (a := 154) (b := 144) (L := [.ref 0, .long (nf (fun (w : Nat) (v : Int64) => 31 * v + (factM m i (nI w)).toInt64) 5 u), .null, .int (nI i), .int (nI 5)]) (st := []) (m := m) rfl (fun _ => ?_) (fun h => absurd g h)
          refine dx_blk 4 (c' := (88, [.ref 0, .long (nf (fun (w : Nat) (v : Int64) => 31 * v + (factM m i (nI w)).toInt64) 5 u), .null, .int ((nI i) + 1), .int (nI 5)], [], m)) rfl ?_
          refine dx_fgt [.ref 0, .long (nf (fun (w : Nat) (v : Int64) => 31 * v + (factM m i (nI w)).toInt64) 5 u), .null, .int ((nI i) + 1), .null] (And.intro (Or.inr rfl) (And.intro (Or.inr rfl) (And.intro (Or.inl rfl) (And.intro (Or.inr rfl) (And.intro (Or.inl rfl) trivial))))) ?_
          first | (rw [if_neg (by rw [thM_f (by assumption)]; decide), nI_succ, show (31 * u + -1 : Int64) = 31 * u - 1 from (Int64.sub_eq_add_neg _ _).symm] at hk; exact hk) | (rw [if_pos (thM_t (by assumption)), nI_succ] at hk; exact hk)
      · refine dx_blk 0 (c' := (99, [.ref 0, .long u, .null, .int (nI i), .int 0], [], m)) rfl ?_
        refine dx_blk 2 (c' := (102, [.ref 0, .long u, .null, .int (nI i), .int 0], [.int 5, .int 0], m)) rfl ?_
        refine dx_br (q := 5 ≤ (0 : Int32)) (a := 135) (b := 105) (L := [.ref 0, .long u, .null, .int (nI i), .int 0]) (st := []) (m := m) rfl (fun h => absurd h (by decide)) (fun _ => ?_)
        refine dx_blk 3 (c' := (110, [.ref 0, .long u, .null, .int (nI i), .int 0], [.int (nI i), .ref 11], m)) rfl ?_
        refine dx_bldN i rfl rfl (Or.inr rfl) rfl (by omega) ?_
        refine dx_blk 0 (c' := (111, [.ref 0, .long u, .null, .int (nI i), .int 0], [.int (m.1 11 i)], m)) rfl ?_
        refine dx_br (q := (m.1 11 i) = 0) (a := 114) (b := 135) (L := [.ref 0, .long u, .null, .int (nI i), .int 0]) (st := []) (m := m) rfl (fun h => absurd h g) (fun _ => ?_)
        refine dx_blk 3 (c' := (140, [.ref 0, .long u, .null, .int (nI i), .int 0], [.int (nI i), .ref 11], m)) rfl ?_
        refine dx_bldN i rfl rfl (Or.inr rfl) rfl (by omega) ?_
        refine dx_blk 0 (c' := (141, [.ref 0, .long u, .null, .int (nI i), .int 0], [.int (m.1 11 i)], m)) rfl ?_
        refine dx_br (q := (m.1 11 i) = 0) (a := 154) (b := 144) (L := [.ref 0, .long u, .null, .int (nI i), .int 0]) (st := []) (m := m) rfl (fun h => absurd h g) (fun _ => ?_)
        refine dx_blk 9 (c' := (88, [.ref 0, .long ((31 * u) - 1), .null, .int ((nI i) + 1), .int 0], [], m)) rfl ?_
        refine dx_fgt [.ref 0, .long ((31 * u) - 1), .null, .int ((nI i) + 1), .null] (And.intro (Or.inr rfl) (And.intro (Or.inr rfl) (And.intro (Or.inl rfl) (And.intro (Or.inr rfl) (And.intro (Or.inl rfl) trivial))))) ?_
        first | (rw [if_neg (by rw [thM_f (by assumption)]; decide), nI_succ, show (31 * u + -1 : Int64) = 31 * u - 1 from (Int64.sub_eq_add_neg _ _).symm] at hk; exact hk) | (rw [if_pos (thM_t (by assumption)), nI_succ] at hk; exact hk)
    · refine dx_blk 0 (c' := (88, [.ref 0, .long (nf (fun (i : Nat) (u : Int64) => if thM m i = true then nf (fun (w : Nat) (v : Int64) => 31 * v + (factM m i (nI w)).toInt64) 5 u else 31 * u + -1) E (31 * (nf (fun (y : Nat) (u : Int64) => nf (fun (x : Nat) (v : Int64) => 31 * v + (m.1 2 (12 * y + x)).toInt64) W u) H (31 * (527 + (m.1 0 4).toInt64) + (m.1 0 5).toInt64)) + (m.1 0 6).toInt64)), .null, .int (nI E), .null], [], m)) rfl ?_
      refine dx_blk 3 (c' := (93, [.ref 0, .long (nf (fun (i : Nat) (u : Int64) => if thM m i = true then nf (fun (w : Nat) (v : Int64) => 31 * v + (factM m i (nI w)).toInt64) 5 u else 31 * u + -1) E (31 * (nf (fun (y : Nat) (u : Int64) => nf (fun (x : Nat) (v : Int64) => 31 * v + (m.1 2 (12 * y + x)).toInt64) W u) H (31 * (527 + (m.1 0 4).toInt64) + (m.1 0 5).toInt64)) + (m.1 0 6).toInt64)), .null, .int (nI E), .null], [.int (m.1 0 11), .int (nI E)], m)) rfl ?_
      refine dx_br (q := (m.1 0 11) ≤ (nI E)) (a := 162) (b := 96) (L := [.ref 0, .long (nf (fun (i : Nat) (u : Int64) => if thM m i = true then nf (fun (w : Nat) (v : Int64) => 31 * v + (factM m i (nI w)).toInt64) 5 u else 31 * u + -1) E (31 * (nf (fun (y : Nat) (u : Int64) => nf (fun (x : Nat) (v : Int64) => 31 * v + (m.1 2 (12 * y + x)).toInt64) W u) H (31 * (527 + (m.1 0 4).toInt64) + (m.1 0 5).toInt64)) + (m.1 0 6).toInt64)), .null, .int (nI E), .null]) (st := []) (m := m) rfl (fun _ => ?_) (fun h => absurd (by rw [show m.1 0 11 = nI E from eE]; exact nI_le (Nat.le_refl _) (by omega)) h)
      refine dx_blk 2 (c' := (164, [.ref 0, .long (nf (fun (i : Nat) (u : Int64) => if thM m i = true then nf (fun (w : Nat) (v : Int64) => 31 * v + (factM m i (nI w)).toInt64) 5 u else 31 * u + -1) E (31 * (nf (fun (y : Nat) (u : Int64) => nf (fun (x : Nat) (v : Int64) => 31 * v + (m.1 2 (12 * y + x)).toInt64) W u) H (31 * (527 + (m.1 0 4).toInt64) + (m.1 0 5).toInt64)) + (m.1 0 6).toInt64)), .null, .int 0, .null], [], m)) rfl ?_
      refine dx_blk 0 (c' := (164, [.ref 0, .long (nf (fun (i : Nat) (u : Int64) => if thM m i = true then nf (fun (w : Nat) (v : Int64) => 31 * v + (factM m i (nI w)).toInt64) 5 u else 31 * u + -1) E (31 * (nf (fun (y : Nat) (u : Int64) => nf (fun (x : Nat) (v : Int64) => 31 * v + (m.1 2 (12 * y + x)).toInt64) W u) H (31 * (527 + (m.1 0 4).toInt64) + (m.1 0 5).toInt64)) + (m.1 0 6).toInt64)), .null, .int (nI 0), .null], [], m)) rfl ?_
      refine dx_for (fun (i : Nat) (u : Int64) => ((164, [.ref 0, .long u, .null, .int (nI i), .null], [], m) : dx_F)) (fun (i : Nat) (u : Int64) => nf (fun (j : Nat) (v : Int64) => 31 * v + (m.1 4 (12 * i + j)).toInt64) (szN (m.1 3 i)) (31 * u + (m.1 3 i).toInt64)) (fun _ _ => True) 6 (nf (fun (i : Nat) (u : Int64) => if thM m i = true then nf (fun (w : Nat) (v : Int64) => 31 * v + (factM m i (nI w)).toInt64) 5 u else 31 * u + -1) E (31 * (nf (fun (y : Nat) (u : Int64) => nf (fun (x : Nat) (v : Int64) => 31 * v + (m.1 2 (12 * y + x)).toInt64) W u) H (31 * (527 + (m.1 0 4).toInt64) + (m.1 0 5).toInt64)) + (m.1 0 6).toInt64)) trivial (fun i u hi hI hk => ?_) (fun _ _ _ _ => trivial) (fun hN => ?_)
      · refine dx_blk 0 (c' := (164, [.ref 0, .long u, .null, .int (nI i), .null], [], m)) rfl ?_
        have hi2 : i < 6 := hi
        refine dx_blk 2 (c' := (167, [.ref 0, .long u, .null, .int (nI i), .null], [.int 6, .int (nI i)], m)) rfl ?_
        refine dx_br (q := 6 ≤ (nI i)) (a := 230) (b := 170) (L := [.ref 0, .long u, .null, .int (nI i), .null]) (st := []) (m := m) rfl (fun h => absurd h (nI_ge hi (by decide))) (fun _ => ?_)
        refine dx_blk 6 (c' := (180, [.ref 0, .long u, .null, .int (nI i), .null], [.int (nI i), .ref 3, .long (31 * u)], m)) rfl ?_
        refine dx_aldN i rfl rfl rfl rfl (by omega) ?_
        refine dx_blk 0 (c' := (181, [.ref 0, .long u, .null, .int (nI i), .null], [.int (m.1 3 i), .long (31 * u)], m)) rfl ?_
        refine dx_blk 5 (c' := (187, [.ref 0, .long ((31 * u) + ((m.1 3 i).toInt64)), .null, .int (nI i), .int 0], [], m)) rfl ?_
        rcases hz i hi2 with e | ⟨z, hz1, e⟩
        · refine dx_blk 0 (c' := (187, [.ref 0, .long ((31 * u) + ((m.1 3 i).toInt64)), .null, .int (nI i), .int 0], [], m)) rfl ?_
          refine dx_blk 0 (c' := (187, [.ref 0, .long (31 * u + (m.1 3 i).toInt64), .null, .int (nI i), .int (nI 0)], [], m)) rfl ?_
          refine dx_for (fun (j : Nat) (v : Int64) => ((187, [.ref 0, .long v, .null, .int (nI i), .int (nI j)], [], m) : dx_F)) (fun (j : Nat) (v : Int64) => 31 * v + (m.1 4 (12 * i + j)).toInt64) (fun _ _ => True) 0 (31 * u + (m.1 3 i).toInt64) trivial (fun j v hi hI hk => ?_) (fun _ _ _ _ => trivial) (fun hN => ?_)
          · refine dx_blk 0 (c' := (187, [.ref 0, .long v, .null, .int (nI i), .int (nI j)], [], m)) rfl ?_
            refine dx_blk 4 (c' := (194, [.ref 0, .long v, .null, .int (nI i), .int (nI j)], [.int (nI i), .ref 3, .int (nI j)], m)) rfl ?_
            refine dx_aldN i rfl rfl rfl rfl (by omega) ?_
            refine dx_blk 0 (c' := (195, [.ref 0, .long v, .null, .int (nI i), .int (nI j)], [.int (m.1 3 i), .int (nI j)], m)) rfl ?_
            refine dx_br (q := (m.1 3 i) ≤ (nI j)) (a := 224) (b := 198) (L := [.ref 0, .long v, .null, .int (nI i), .int (nI j)]) (st := []) (m := m) rfl (fun h => absurd h (absurd hi (by omega))) (fun _ => ?_)
            refine dx_blk 10 (c' := (214, [.ref 0, .long v, .null, .int (nI i), .int (nI j)], [.int ((12 * (nI i)) + (nI j)), .ref 4, .long (31 * v)], m)) rfl ?_
            refine dx_bldN (12 * i + j) rfl rfl (Or.inl rfl) (nI_ix2 i j) (by omega) ?_
            refine dx_blk 0 (c' := (215, [.ref 0, .long v, .null, .int (nI i), .int (nI j)], [.int (m.1 4 (12 * i + j)), .long (31 * v)], m)) rfl ?_
            refine dx_blk 5 (c' := (187, [.ref 0, .long ((31 * v) + ((m.1 4 (12 * i + j)).toInt64)), .null, .int (nI i), .int ((nI j) + 1)], [], m)) rfl ?_
            rw [← nI_succ]
            exact hk
          · refine dx_blk 0 (c' := (187, [.ref 0, .long (nf (fun (j : Nat) (v : Int64) => 31 * v + (m.1 4 (12 * i + j)).toInt64) 0 (31 * u + (m.1 3 i).toInt64)), .null, .int (nI i), .int (nI 0)], [], m)) rfl ?_
            refine dx_blk 4 (c' := (194, [.ref 0, .long (nf (fun (j : Nat) (v : Int64) => 31 * v + (m.1 4 (12 * i + j)).toInt64) 0 (31 * u + (m.1 3 i).toInt64)), .null, .int (nI i), .int (nI 0)], [.int (nI i), .ref 3, .int (nI 0)], m)) rfl ?_
            refine dx_aldN i rfl rfl rfl rfl (by omega) ?_
            refine dx_blk 0 (c' := (195, [.ref 0, .long (nf (fun (j : Nat) (v : Int64) => 31 * v + (m.1 4 (12 * i + j)).toInt64) 0 (31 * u + (m.1 3 i).toInt64)), .null, .int (nI i), .int (nI 0)], [.int (m.1 3 i), .int (nI 0)], m)) rfl ?_
            refine dx_br (q := (m.1 3 i) ≤ (nI 0)) (a := 224) (b := 198) (L := [.ref 0, .long (nf (fun (j : Nat) (v : Int64) => 31 * v + (m.1 4 (12 * i + j)).toInt64) 0 (31 * u + (m.1 3 i).toInt64)), .null, .int (nI i), .int (nI 0)]) (st := []) (m := m) rfl (fun _ => ?_) (fun h => absurd (by rw [e]; decide) h)
            refine dx_blk 2 (c' := (164, [.ref 0, .long (nf (fun (j : Nat) (v : Int64) => 31 * v + (m.1 4 (12 * i + j)).toInt64) 0 (31 * u + (m.1 3 i).toInt64)), .null, .int ((nI i) + 1), .int (nI 0)], [], m)) rfl ?_
            refine dx_fgt [.ref 0, .long (nf (fun (j : Nat) (v : Int64) => 31 * v + (m.1 4 (12 * i + j)).toInt64) 0 (31 * u + (m.1 3 i).toInt64)), .null, .int ((nI i) + 1), .null] (And.intro (Or.inr rfl) (And.intro (Or.inr rfl) (And.intro (Or.inl rfl) (And.intro (Or.inr rfl) (And.intro (Or.inl rfl) trivial))))) ?_
            first | (rw [show szN (m.1 3 i) = 0 by rw [e]; rfl, nI_succ] at hk; exact hk) | (rw [show szN (m.1 3 i) = z by rw [e]; exact szN_z hz1, nI_succ] at hk; exact hk)
        · refine dx_blk 0 (c' := (187, [.ref 0, .long ((31 * u) + ((m.1 3 i).toInt64)), .null, .int (nI i), .int 0], [], m)) rfl ?_
          refine dx_blk 0 (c' := (187, [.ref 0, .long (31 * u + (m.1 3 i).toInt64), .null, .int (nI i), .int (nI 0)], [], m)) rfl ?_
          refine dx_for (fun (j : Nat) (v : Int64) => ((187, [.ref 0, .long v, .null, .int (nI i), .int (nI j)], [], m) : dx_F)) (fun (j : Nat) (v : Int64) => 31 * v + (m.1 4 (12 * i + j)).toInt64) (fun _ _ => True) z (31 * u + (m.1 3 i).toInt64) trivial (fun j v hi hI hk => ?_) (fun _ _ _ _ => trivial) (fun hN => ?_)
          · refine dx_blk 0 (c' := (187, [.ref 0, .long v, .null, .int (nI i), .int (nI j)], [], m)) rfl ?_
            refine dx_blk 4 (c' := (194, [.ref 0, .long v, .null, .int (nI i), .int (nI j)], [.int (nI i), .ref 3, .int (nI j)], m)) rfl ?_
            refine dx_aldN i rfl rfl rfl rfl (by omega) ?_
            refine dx_blk 0 (c' := (195, [.ref 0, .long v, .null, .int (nI i), .int (nI j)], [.int (m.1 3 i), .int (nI j)], m)) rfl ?_
            refine dx_br (q := (m.1 3 i) ≤ (nI j)) (a := 224) (b := 198) (L := [.ref 0, .long v, .null, .int (nI i), .int (nI j)]) (st := []) (m := m) rfl (fun h => absurd h (by rw [e]; exact nI_ge hi (by omega))) (fun _ => ?_)
            refine dx_blk 10 (c' := (214, [.ref 0, .long v, .null, .int (nI i), .int (nI j)], [.int ((12 * (nI i)) + (nI j)), .ref 4, .long (31 * v)], m)) rfl ?_
            refine dx_bldN (12 * i + j) rfl rfl (Or.inl rfl) (nI_ix2 i j) (by omega) ?_
            refine dx_blk 0 (c' := (215, [.ref 0, .long v, .null, .int (nI i), .int (nI j)], [.int (m.1 4 (12 * i + j)), .long (31 * v)], m)) rfl ?_
            refine dx_blk 5 (c' := (187, [.ref 0, .long ((31 * v) + ((m.1 4 (12 * i + j)).toInt64)), .null, .int (nI i), .int ((nI j) + 1)], [], m)) rfl ?_
            rw [← nI_succ]
            exact hk
          · refine dx_blk 0 (c' := (187, [.ref 0, .long (nf (fun (j : Nat) (v : Int64) => 31 * v + (m.1 4 (12 * i + j)).toInt64) z (31 * u + (m.1 3 i).toInt64)), .null, .int (nI i), .int (nI z)], [], m)) rfl ?_
            refine dx_blk 4 (c' := (194, [.ref 0, .long (nf (fun (j : Nat) (v : Int64) => 31 * v + (m.1 4 (12 * i + j)).toInt64) z (31 * u + (m.1 3 i).toInt64)), .null, .int (nI i), .int (nI z)], [.int (nI i), .ref 3, .int (nI z)], m)) rfl ?_
            refine dx_aldN i rfl rfl rfl rfl (by omega) ?_
            refine dx_blk 0 (c' := (195, [.ref 0, .long (nf (fun (j : Nat) (v : Int64) => 31 * v + (m.1 4 (12 * i + j)).toInt64) z (31 * u + (m.1 3 i).toInt64)), .null, .int (nI i), .int (nI z)], [.int (m.1 3 i), .int (nI z)], m)) rfl ?_
            refine dx_br (q := (m.1 3 i) ≤ (nI z)) (a := 224) (b := 198) (L := [.ref 0, .long (nf (fun (j : Nat) (v : Int64) => 31 * v + (m.1 4 (12 * i + j)).toInt64) z (31 * u + (m.1 3 i).toInt64)), .null, .int (nI i), .int (nI z)]) (st := []) (m := m) rfl (fun _ => ?_) (fun h => absurd (by rw [e]; exact nI_le (Nat.le_refl _) (by omega)) h)
            refine dx_blk 2 (c' := (164, [.ref 0, .long (nf (fun (j : Nat) (v : Int64) => 31 * v + (m.1 4 (12 * i + j)).toInt64) z (31 * u + (m.1 3 i).toInt64)), .null, .int ((nI i) + 1), .int (nI z)], [], m)) rfl ?_
            refine dx_fgt [.ref 0, .long (nf (fun (j : Nat) (v : Int64) => 31 * v + (m.1 4 (12 * i + j)).toInt64) z (31 * u + (m.1 3 i).toInt64)), .null, .int ((nI i) + 1), .null] (And.intro (Or.inr rfl) (And.intro (Or.inr rfl) (And.intro (Or.inl rfl) (And.intro (Or.inr rfl) (And.intro (Or.inl rfl) trivial))))) ?_
            first | (rw [show szN (m.1 3 i) = 0 by rw [e]; rfl, nI_succ] at hk; exact hk) | (rw [show szN (m.1 3 i) = z by rw [e]; exact szN_z hz1, nI_succ] at hk; exact hk)
      · refine dx_blk 0 (c' := (164, [.ref 0, .long (nf (fun (i : Nat) (u : Int64) => nf (fun (j : Nat) (v : Int64) => 31 * v + (m.1 4 (12 * i + j)).toInt64) (szN (m.1 3 i)) (31 * u + (m.1 3 i).toInt64)) 6 (nf (fun (i : Nat) (u : Int64) => if thM m i = true then nf (fun (w : Nat) (v : Int64) => 31 * v + (factM m i (nI w)).toInt64) 5 u else 31 * u + -1) E (31 * (nf (fun (y : Nat) (u : Int64) => nf (fun (x : Nat) (v : Int64) => 31 * v + (m.1 2 (12 * y + x)).toInt64) W u) H (31 * (527 + (m.1 0 4).toInt64) + (m.1 0 5).toInt64)) + (m.1 0 6).toInt64))), .null, .int (nI 6), .null], [], m)) rfl ?_
        refine dx_blk 2 (c' := (167, [.ref 0, .long (nf (fun (i : Nat) (u : Int64) => nf (fun (j : Nat) (v : Int64) => 31 * v + (m.1 4 (12 * i + j)).toInt64) (szN (m.1 3 i)) (31 * u + (m.1 3 i).toInt64)) 6 (nf (fun (i : Nat) (u : Int64) => if thM m i = true then nf (fun (w : Nat) (v : Int64) => 31 * v + (factM m i (nI w)).toInt64) 5 u else 31 * u + -1) E (31 * (nf (fun (y : Nat) (u : Int64) => nf (fun (x : Nat) (v : Int64) => 31 * v + (m.1 2 (12 * y + x)).toInt64) W u) H (31 * (527 + (m.1 0 4).toInt64) + (m.1 0 5).toInt64)) + (m.1 0 6).toInt64))), .null, .int (nI 6), .null], [.int 6, .int (nI 6)], m)) rfl ?_
        refine dx_br (q := 6 ≤ (nI 6)) (a := 230) (b := 170) (L := [.ref 0, .long (nf (fun (i : Nat) (u : Int64) => nf (fun (j : Nat) (v : Int64) => 31 * v + (m.1 4 (12 * i + j)).toInt64) (szN (m.1 3 i)) (31 * u + (m.1 3 i).toInt64)) 6 (nf (fun (i : Nat) (u : Int64) => if thM m i = true then nf (fun (w : Nat) (v : Int64) => 31 * v + (factM m i (nI w)).toInt64) 5 u else 31 * u + -1) E (31 * (nf (fun (y : Nat) (u : Int64) => nf (fun (x : Nat) (v : Int64) => 31 * v + (m.1 2 (12 * y + x)).toInt64) W u) H (31 * (527 + (m.1 0 4).toInt64) + (m.1 0 5).toInt64)) + (m.1 0 6).toInt64))), .null, .int (nI 6), .null]) (st := []) (m := m) rfl (fun _ => ?_) (fun h => absurd (nI_le (Nat.le_refl _) (by decide)) h)
        refine dx_blk 1 (c' := (231, [.ref 0, .long (nf (fun (i : Nat) (u : Int64) => nf (fun (j : Nat) (v : Int64) => 31 * v + (m.1 4 (12 * i + j)).toInt64) (szN (m.1 3 i)) (31 * u + (m.1 3 i).toInt64)) 6 (nf (fun (i : Nat) (u : Int64) => if thM m i = true then nf (fun (w : Nat) (v : Int64) => 31 * v + (factM m i (nI w)).toInt64) 5 u else 31 * u + -1) E (31 * (nf (fun (y : Nat) (u : Int64) => nf (fun (x : Nat) (v : Int64) => 31 * v + (m.1 2 (12 * y + x)).toInt64) W u) H (31 * (527 + (m.1 0 4).toInt64) + (m.1 0 5).toInt64)) + (m.1 0 6).toInt64))), .null, .int (nI 6), .null], [.long (nf (fun (i : Nat) (u : Int64) => nf (fun (j : Nat) (v : Int64) => 31 * v + (m.1 4 (12 * i + j)).toInt64) (szN (m.1 3 i)) (31 * u + (m.1 3 i).toInt64)) 6 (nf (fun (i : Nat) (u : Int64) => if thM m i = true then nf (fun (w : Nat) (v : Int64) => 31 * v + (factM m i (nI w)).toInt64) 5 u else 31 * u + -1) E (31 * (nf (fun (y : Nat) (u : Int64) => nf (fun (x : Nat) (v : Int64) => 31 * v + (m.1 2 (12 * y + x)).toInt64) W u) H (31 * (527 + (m.1 0 4).toInt64) + (m.1 0 5).toInt64)) + (m.1 0 6).toInt64)))], m)) rfl ?_
        exact dx_ret (r := some (.long (nf (fun (i : Nat) (u : Int64) => nf (fun (j : Nat) (v : Int64) => 31 * v + (m.1 4 (12 * i + j)).toInt64) (szN (m.1 3 i)) (31 * u + (m.1 3 i).toInt64)) 6 (nf (fun (i : Nat) (u : Int64) => if thM m i = true then nf (fun (w : Nat) (v : Int64) => 31 * v + (factM m i (nI w)).toInt64) 5 u else 31 * u + -1) E (31 * (nf (fun (y : Nat) (u : Int64) => nf (fun (x : Nat) (v : Int64) => 31 * v + (m.1 2 (12 * y + x)).toInt64) W u) H (31 * (527 + (m.1 0 4).toInt64) + (m.1 0 5).toInt64)) + (m.1 0 6).toInt64))))) rfl h
