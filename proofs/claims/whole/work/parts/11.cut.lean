/-! Cut, and the like of the reference (printed by wip/whole/g11.py) -/
def st_cnt (f : Nat → Int32) (i : Nat) (s : Int32) : Int32 := s + (if f i = -9 then 0 else 1)
def st_sum (f : Nat → Int32) (i : Nat) (s : Int32) : Int32 := s + (if f i = -9 then 0 else f i)
def n_cnt (f : Nat → Int32) : Int32 := nf (st_cnt f) 144 0
def n_sum (f : Nat → Int32) : Int32 := nf (st_sum f) 144 0
set_option maxRecDepth 20000 in
theorem sX0_begin {d : Nat} (w h : Int32) (m : dx_M) {Z : Option Value → dx_M → Prop} (h9 : Z none (dx_pR (dx_pI (dx_pI m 1 1 w) 1 2 h) 2 (fa_fill (fun _ => -9) (m.1 2) 144))) : dx_Sem dx_P lx_X (d + 1) 0 [.ref 1, .int w, .int h] m Z := by
  refine dx_sem km_X0_begin rfl rfl ?_
  refine dx_blk 0 (c' := (0, [.ref 1, .int w, .int h, .null], [], m)) rfl ?_
  refine dx_blk 8 (c' := (12, [.ref 1, .int w, .int h, .int 0], [], dx_pI (dx_pI m 1 1 w) 1 2 h)) rfl ?_
  refine dx_mem (m' := dx_pR (dx_pI (dx_pI m 1 1 w) 1 2 h) 2 (fa_fill (fun _ => -9) (m.1 2) 0)) (by rw [fa_fill_0]; exact (dx_pR_self _ 2).symm) ?_
  refine dx_blk 0 (c' := (12, [.ref 1, .int w, .int h, .int (nI 0)], [], dx_pR (dx_pI (dx_pI m 1 1 w) 1 2 h) 2 (fa_fill (fun _ => -9) (m.1 2) 0))) rfl ?_
  refine dx_for0 (fun (i : Nat) => ((12, [.ref 1, .int w, .int h, .int (nI i)], [], dx_pR (dx_pI (dx_pI m 1 1 w) 1 2 h) 2 (fa_fill (fun _ => -9) (m.1 2) i)) : dx_F)) 144 (fun i hi hk => ?_) ?_
  · refine dx_blk 0 (c' := (12, [.ref 1, .int w, .int h, .int (nI i)], [], dx_pR (dx_pI (dx_pI m 1 1 w) 1 2 h) 2 (fa_fill (fun _ => -9) (m.1 2) i))) rfl ?_
    refine dx_blk 2 (c' := (16, [.ref 1, .int w, .int h, .int (nI i)], [.int 144, .int (nI i)], dx_pR (dx_pI (dx_pI m 1 1 w) 1 2 h) 2 (fa_fill (fun _ => -9) (m.1 2) i))) rfl ?_
    refine dx_br (q := 144 ≤ (nI i)) (a := 33) (b := 19) (L := [.ref 1, .int w, .int h, .int (nI i)]) (st := []) (m := dx_pR (dx_pI (dx_pI m 1 1 w) 1 2 h) 2 (fa_fill (fun _ => -9) (m.1 2) i)) rfl (fun h => absurd h (nI_ge hi (by decide))) (fun _ => ?_)
    refine dx_blk 4 (c' := (26, [.ref 1, .int w, .int h, .int (nI i)], [.int (-9), .int (nI i), .ref 2], dx_pR (dx_pI (dx_pI m 1 1 w) 1 2 h) 2 (fa_fill (fun _ => -9) (m.1 2) i))) rfl ?_
    refine dx_astN i rfl rfl rfl rfl hi ?_
    refine dx_blk 0 (c' := (27, [.ref 1, .int w, .int h, .int (nI i)], [], dx_pI (dx_pR (dx_pI (dx_pI m 1 1 w) 1 2 h) 2 (fa_fill (fun _ => -9) (m.1 2) i)) 2 i (-9))) rfl ?_
    refine dx_blk 2 (c' := (12, [.ref 1, .int w, .int h, .int ((nI i) + 1)], [], dx_pI (dx_pR (dx_pI (dx_pI m 1 1 w) 1 2 h) 2 (fa_fill (fun _ => -9) (m.1 2) i)) 2 i (-9))) rfl ?_
    rw [dx_pI_pR, show upd (fa_fill (fun _ => (-9 : Int32)) (m.1 2) i) i (-9) = fa_fill (fun _ => (-9 : Int32)) (m.1 2) (i + 1) from fa_fill_succ (fun _ => -9) (m.1 2) i, ← nI_succ]
    exact hk
  · refine dx_blk 0 (c' := (12, [.ref 1, .int w, .int h, .int (nI 144)], [], dx_pR (dx_pI (dx_pI m 1 1 w) 1 2 h) 2 (fa_fill (fun _ => -9) (m.1 2) 144))) rfl ?_
    refine dx_blk 2 (c' := (16, [.ref 1, .int w, .int h, .int (nI 144)], [.int 144, .int (nI 144)], dx_pR (dx_pI (dx_pI m 1 1 w) 1 2 h) 2 (fa_fill (fun _ => -9) (m.1 2) 144))) rfl ?_
    refine dx_br (q := 144 ≤ (nI 144)) (a := 33) (b := 19) (L := [.ref 1, .int w, .int h, .int (nI 144)]) (st := []) (m := dx_pR (dx_pI (dx_pI m 1 1 w) 1 2 h) 2 (fa_fill (fun _ => -9) (m.1 2) 144)) rfl (fun _ => ?_) (fun h => absurd (nI_le (Nat.le_refl _) (by decide)) h)
    exact dx_ret (r := none) rfl h9
set_option maxRecDepth 20000 in
theorem sC0_begin {d : Nat} (w h : Int32) (m : dx_M) {Z : Option Value → dx_M → Prop} (h9 : Z none (dx_pR (dx_pI (dx_pI m 0 1 w) 0 2 h) 1 (fa_fill (fun _ => -9) (m.1 1) 144))) : dx_Sem dx_P lx_C (d + 1) 0 [.ref 0, .int w, .int h] m Z := by
  refine dx_sem km_X0_begin rfl rfl ?_
  refine dx_blk 0 (c' := (0, [.ref 0, .int w, .int h, .null], [], m)) rfl ?_
  refine dx_blk 8 (c' := (12, [.ref 0, .int w, .int h, .int 0], [], dx_pI (dx_pI m 0 1 w) 0 2 h)) rfl ?_
  refine dx_mem (m' := dx_pR (dx_pI (dx_pI m 0 1 w) 0 2 h) 1 (fa_fill (fun _ => -9) (m.1 1) 0)) (by rw [fa_fill_0]; exact (dx_pR_self _ 1).symm) ?_
  refine dx_blk 0 (c' := (12, [.ref 0, .int w, .int h, .int (nI 0)], [], dx_pR (dx_pI (dx_pI m 0 1 w) 0 2 h) 1 (fa_fill (fun _ => -9) (m.1 1) 0))) rfl ?_
  refine dx_for0 (fun (i : Nat) => ((12, [.ref 0, .int w, .int h, .int (nI i)], [], dx_pR (dx_pI (dx_pI m 0 1 w) 0 2 h) 1 (fa_fill (fun _ => -9) (m.1 1) i)) : dx_F)) 144 (fun i hi hk => ?_) ?_
  · refine dx_blk 0 (c' := (12, [.ref 0, .int w, .int h, .int (nI i)], [], dx_pR (dx_pI (dx_pI m 0 1 w) 0 2 h) 1 (fa_fill (fun _ => -9) (m.1 1) i))) rfl ?_
    refine dx_blk 2 (c' := (16, [.ref 0, .int w, .int h, .int (nI i)], [.int 144, .int (nI i)], dx_pR (dx_pI (dx_pI m 0 1 w) 0 2 h) 1 (fa_fill (fun _ => -9) (m.1 1) i))) rfl ?_
    refine dx_br (q := 144 ≤ (nI i)) (a := 33) (b := 19) (L := [.ref 0, .int w, .int h, .int (nI i)]) (st := []) (m := dx_pR (dx_pI (dx_pI m 0 1 w) 0 2 h) 1 (fa_fill (fun _ => -9) (m.1 1) i)) rfl (fun h => absurd h (nI_ge hi (by decide))) (fun _ => ?_)
    refine dx_blk 4 (c' := (26, [.ref 0, .int w, .int h, .int (nI i)], [.int (-9), .int (nI i), .ref 1], dx_pR (dx_pI (dx_pI m 0 1 w) 0 2 h) 1 (fa_fill (fun _ => -9) (m.1 1) i))) rfl ?_
    refine dx_astN i rfl rfl rfl rfl hi ?_
    refine dx_blk 0 (c' := (27, [.ref 0, .int w, .int h, .int (nI i)], [], dx_pI (dx_pR (dx_pI (dx_pI m 0 1 w) 0 2 h) 1 (fa_fill (fun _ => -9) (m.1 1) i)) 1 i (-9))) rfl ?_
    refine dx_blk 2 (c' := (12, [.ref 0, .int w, .int h, .int ((nI i) + 1)], [], dx_pI (dx_pR (dx_pI (dx_pI m 0 1 w) 0 2 h) 1 (fa_fill (fun _ => -9) (m.1 1) i)) 1 i (-9))) rfl ?_
    rw [dx_pI_pR, show upd (fa_fill (fun _ => (-9 : Int32)) (m.1 1) i) i (-9) = fa_fill (fun _ => (-9 : Int32)) (m.1 1) (i + 1) from fa_fill_succ (fun _ => -9) (m.1 1) i, ← nI_succ]
    exact hk
  · refine dx_blk 0 (c' := (12, [.ref 0, .int w, .int h, .int (nI 144)], [], dx_pR (dx_pI (dx_pI m 0 1 w) 0 2 h) 1 (fa_fill (fun _ => -9) (m.1 1) 144))) rfl ?_
    refine dx_blk 2 (c' := (16, [.ref 0, .int w, .int h, .int (nI 144)], [.int 144, .int (nI 144)], dx_pR (dx_pI (dx_pI m 0 1 w) 0 2 h) 1 (fa_fill (fun _ => -9) (m.1 1) 144))) rfl ?_
    refine dx_br (q := 144 ≤ (nI 144)) (a := 33) (b := 19) (L := [.ref 0, .int w, .int h, .int (nI 144)]) (st := []) (m := dx_pR (dx_pI (dx_pI m 0 1 w) 0 2 h) 1 (fa_fill (fun _ => -9) (m.1 1) 144)) rfl (fun _ => ?_) (fun h => absurd (nI_le (Nat.le_refl _) (by decide)) h)
    exact dx_ret (r := none) rfl h9
set_option maxRecDepth 20000 in
theorem sX0_has {d : Nat} (x y : Int32) (m : dx_M) {Z : Option Value → dx_M → Prop} (h : Z (some (.int (bI (inI x 0 (m.1 1 1 - 1) && inI y 0 (m.1 1 2 - 1))))) m) : dx_Sem dx_P lx_X (d + 2) 1 [.ref 1, .int x, .int y] m Z := by
  refine dx_sem km_X0_has rfl rfl ?_
  refine dx_blk 0 (c' := (0, [.ref 1, .int x, .int y], [], m)) rfl ?_
  refine dx_blk 6 (c' := (8, [.ref 1, .int x, .int y], [.int ((m.1 1 1) - 1), .int 0, .int x], m)) rfl ?_
  refine dx_call (id := 64) (as := [.int x, .int 0, .int ((m.1 1 1) - 1)]) (rest := []) rfl ?_
  refine sX3_within x 0 ((m.1 1 1) - 1) _ ?_
  refine dx_blk 0 (c' := (11, [.ref 1, .int x, .int y], [.int (bI (inI x 0 ((m.1 1 1) - 1)))], m)) rfl ?_
  refine dx_brB (B := (inI x 0 ((m.1 1 1) - 1))) (a := 32) (b := 14) (L := [.ref 1, .int x, .int y]) (st := []) (m := m) rfl (fun h11 => ?_) (fun h11 => ?_)
  · refine dx_blk 1 (c' := (33, [.ref 1, .int x, .int y], [.int 0], m)) rfl ?_
    exact dx_ret (r := some (.int 0)) rfl (by simpa [bI, *] using h)
  · refine dx_blk 6 (c' := (22, [.ref 1, .int x, .int y], [.int ((m.1 1 2) - 1), .int 0, .int y], m)) rfl ?_
    refine dx_call (id := 64) (as := [.int y, .int 0, .int ((m.1 1 2) - 1)]) (rest := []) rfl ?_
    refine sX3_within y 0 ((m.1 1 2) - 1) _ ?_
    refine dx_blk 0 (c' := (25, [.ref 1, .int x, .int y], [.int (bI (inI y 0 ((m.1 1 2) - 1)))], m)) rfl ?_
    refine dx_brB (B := (inI y 0 ((m.1 1 2) - 1))) (a := 32) (b := 28) (L := [.ref 1, .int x, .int y]) (st := []) (m := m) rfl (fun h25 => ?_) (fun h25 => ?_)
    · refine dx_blk 1 (c' := (33, [.ref 1, .int x, .int y], [.int 0], m)) rfl ?_
      exact dx_ret (r := some (.int 0)) rfl (by simpa [bI, *] using h)
    · refine dx_blk 2 (c' := (33, [.ref 1, .int x, .int y], [.int 1], m)) rfl ?_
      exact dx_ret (r := some (.int 1)) rfl (by simpa [bI, *] using h)
set_option maxRecDepth 20000 in
theorem sX4_isPlace {d : Nat} (x y : Int32) (m : dx_M) {Z : Option Value → dx_M → Prop} (h : Z (some (.int (bI (inI x 0 (m.1 0 4 - 1) && inI y 0 (m.1 0 5 - 1))))) m) : dx_Sem dx_P lx_M (d + 2) 92 [.ref 0, .int x, .int y] m Z := by
  refine dx_sem km_X4_isPlace rfl rfl ?_
  refine dx_blk 0 (c' := (0, [.ref 0, .int x, .int y], [], m)) rfl ?_
  refine dx_blk 6 (c' := (8, [.ref 0, .int x, .int y], [.int ((m.1 0 4) - 1), .int 0, .int x], m)) rfl ?_
  refine dx_call (id := 82) (as := [.int x, .int 0, .int ((m.1 0 4) - 1)]) (rest := []) rfl ?_
  refine sX4_in x 0 ((m.1 0 4) - 1) _ ?_
  refine dx_blk 0 (c' := (11, [.ref 0, .int x, .int y], [.int (bI (inI x 0 ((m.1 0 4) - 1)))], m)) rfl ?_
  refine dx_brB (B := (inI x 0 ((m.1 0 4) - 1))) (a := 32) (b := 14) (L := [.ref 0, .int x, .int y]) (st := []) (m := m) rfl (fun h11 => ?_) (fun h11 => ?_)
  · refine dx_blk 1 (c' := (33, [.ref 0, .int x, .int y], [.int 0], m)) rfl ?_
    exact dx_ret (r := some (.int 0)) rfl (by simpa [bI, *] using h)
  · refine dx_blk 6 (c' := (22, [.ref 0, .int x, .int y], [.int ((m.1 0 5) - 1), .int 0, .int y], m)) rfl ?_
    refine dx_call (id := 82) (as := [.int y, .int 0, .int ((m.1 0 5) - 1)]) (rest := []) rfl ?_
    refine sX4_in y 0 ((m.1 0 5) - 1) _ ?_
    refine dx_blk 0 (c' := (25, [.ref 0, .int x, .int y], [.int (bI (inI y 0 ((m.1 0 5) - 1)))], m)) rfl ?_
    refine dx_brB (B := (inI y 0 ((m.1 0 5) - 1))) (a := 32) (b := 28) (L := [.ref 0, .int x, .int y]) (st := []) (m := m) rfl (fun h25 => ?_) (fun h25 => ?_)
    · refine dx_blk 1 (c' := (33, [.ref 0, .int x, .int y], [.int 0], m)) rfl ?_
      exact dx_ret (r := some (.int 0)) rfl (by simpa [bI, *] using h)
    · refine dx_blk 2 (c' := (33, [.ref 0, .int x, .int y], [.int 1], m)) rfl ?_
      exact dx_ret (r := some (.int 1)) rfl (by simpa [bI, *] using h)
set_option maxRecDepth 20000 in
theorem sX0_weightOf {d : Nat} {a b : Nat} (ha : a < 12) (hb : b < 12) (m : dx_M) {Z : Option Value → dx_M → Prop} (h : Z (some (.int (m.1 2 (b * 12 + a)))) m) : dx_Sem dx_P lx_X (d + 1) 2 [.ref 1, .int (nI a), .int (nI b)] m Z := by
  refine dx_sem km_X0_weightOf rfl rfl ?_
  refine dx_blk 0 (c' := (0, [.ref 1, .int (nI a), .int (nI b)], [], m)) rfl ?_
  refine dx_blk 7 (c' := (10, [.ref 1, .int (nI a), .int (nI b)], [.int (((nI b) * 12) + (nI a)), .ref 2], m)) rfl ?_
  refine dx_aldN (b * 12 + a) rfl rfl rfl (nI_ix b a) (by omega) ?_
  refine dx_blk 0 (c' := (11, [.ref 1, .int (nI a), .int (nI b)], [.int (m.1 2 (b * 12 + a))], m)) rfl ?_
  exact dx_ret (r := some (.int (m.1 2 (b * 12 + a)))) rfl h
set_option maxRecDepth 20000 in
theorem sX0_put {d : Nat} {a b : Nat} (w : Int32) (ha : a < 12) (hb : b < 12) (m : dx_M) {Z : Option Value → dx_M → Prop} (h : Z none (dx_pI m 2 (b * 12 + a) w)) : dx_Sem dx_P lx_X (d + 1) 3 [.ref 1, .int (nI a), .int (nI b), .int w] m Z := by
  refine dx_sem km_X0_put rfl rfl ?_
  refine dx_blk 0 (c' := (0, [.ref 1, .int (nI a), .int (nI b), .int w], [], m)) rfl ?_
  refine dx_blk 8 (c' := (11, [.ref 1, .int (nI a), .int (nI b), .int w], [.int w, .int (((nI b) * 12) + (nI a)), .ref 2], m)) rfl ?_
  refine dx_astN (b * 12 + a) rfl rfl rfl (nI_ix b a) (by omega) ?_
  refine dx_blk 0 (c' := (12, [.ref 1, .int (nI a), .int (nI b), .int w], [], dx_pI m 2 (b * 12 + a) w)) rfl ?_
  exact dx_ret (r := none) rfl h
set_option maxRecDepth 20000 in
theorem sX0_across {d : Nat} (t : Int32) (m : dx_M) {Z : Option Value → dx_M → Prop} (h : Z (some (.int (if t - t / 2 * 2 = 0 then m.1 1 1 else m.1 1 2))) m) : dx_Sem dx_P lx_X (d + 1) 4 [.ref 1, .int t] m Z := by
  refine dx_sem km_X0_across rfl rfl ?_
  refine dx_blk 0 (c' := (0, [.ref 1, .int t], [], m)) rfl ?_
  refine dx_blk 3 (c' := (3, [.ref 1, .int t], [.int (t - t / 2 * 2)], m)) rfl ?_
  refine dx_br (q := (t - t / 2 * 2) = 0) (a := 6) (b := 13) (L := [.ref 1, .int t]) (st := []) (m := m) rfl (fun h3 => ?_) (fun h3 => ?_)
  · refine dx_blk 3 (c' := (17, [.ref 1, .int t], [.int (m.1 1 1)], m)) rfl ?_
    exact dx_ret (r := some (.int (m.1 1 1))) rfl (by first | (rw [if_pos (by assumption)] at h; exact h) | (rw [if_neg (by assumption)] at h; exact h))
  · refine dx_blk 2 (c' := (17, [.ref 1, .int t], [.int (m.1 1 2)], m)) rfl ?_
    exact dx_ret (r := some (.int (m.1 1 2))) rfl (by first | (rw [if_pos (by assumption)] at h; exact h) | (rw [if_neg (by assumption)] at h; exact h))
set_option maxRecDepth 20000 in
theorem sX0_up {d : Nat} (t : Int32) (m : dx_M) {Z : Option Value → dx_M → Prop} (h : Z (some (.int (if t - t / 2 * 2 = 0 then m.1 1 2 else m.1 1 1))) m) : dx_Sem dx_P lx_X (d + 1) 5 [.ref 1, .int t] m Z := by
  refine dx_sem km_X0_up rfl rfl ?_
  refine dx_blk 0 (c' := (0, [.ref 1, .int t], [], m)) rfl ?_
  refine dx_blk 3 (c' := (3, [.ref 1, .int t], [.int (t - t / 2 * 2)], m)) rfl ?_
  refine dx_br (q := (t - t / 2 * 2) = 0) (a := 6) (b := 13) (L := [.ref 1, .int t]) (st := []) (m := m) rfl (fun h3 => ?_) (fun h3 => ?_)
  · refine dx_blk 3 (c' := (17, [.ref 1, .int t], [.int (m.1 1 2)], m)) rfl ?_
    exact dx_ret (r := some (.int (m.1 1 2))) rfl (by first | (rw [if_pos (by assumption)] at h; exact h) | (rw [if_neg (by assumption)] at h; exact h))
  · refine dx_blk 2 (c' := (17, [.ref 1, .int t], [.int (m.1 1 1)], m)) rfl ?_
    exact dx_ret (r := some (.int (m.1 1 1))) rfl (by first | (rw [if_pos (by assumption)] at h; exact h) | (rw [if_neg (by assumption)] at h; exact h))
set_option maxRecDepth 20000 in
theorem sX0_squares {d : Nat}  (m : dx_M) {Z : Option Value → dx_M → Prop} (h : Z (some (.int (n_cnt (m.1 2)))) m) : dx_Sem dx_P lx_X (d + 1) 6 [.ref 1] m Z := by
  refine dx_sem km_X0_squares rfl rfl ?_
  refine dx_blk 0 (c' := (0, [.ref 1, .null, .null], [], m)) rfl ?_
  refine dx_blk 4 (c' := (4, [.ref 1, .int 0, .int 0], [], m)) rfl ?_
  refine dx_blk 0 (c' := (4, [.ref 1, .int 0, .int (nI 0)], [], m)) rfl ?_
  refine dx_for (fun (i : Nat) (s : Int32) => ((4, [.ref 1, .int s, .int (nI i)], [], m) : dx_F)) (st_cnt (m.1 2)) (fun _ _ => True) 144 0 trivial (fun i s hi hI hk => ?_) (fun _ _ _ _ => trivial) (fun hN => ?_)
  · refine dx_blk 0 (c' := (4, [.ref 1, .int s, .int (nI i)], [], m)) rfl ?_
    refine dx_blk 2 (c' := (8, [.ref 1, .int s, .int (nI i)], [.int 144, .int (nI i)], m)) rfl ?_
    refine dx_br (q := 144 ≤ (nI i)) (a := 36) (b := 11) (L := [.ref 1, .int s, .int (nI i)]) (st := []) (m := m) rfl (fun h => absurd h (nI_ge hi (by decide))) (fun _ => ?_)
    refine dx_blk 4 (c' := (17, [.ref 1, .int s, .int (nI i)], [.int (nI i), .ref 2, .int s], m)) rfl ?_
    refine dx_aldN i rfl rfl rfl rfl hi ?_
    refine dx_blk 0 (c' := (18, [.ref 1, .int s, .int (nI i)], [.int (m.1 2 i), .int s], m)) rfl ?_
    refine dx_blk 1 (c' := (20, [.ref 1, .int s, .int (nI i)], [.int (-9), .int (m.1 2 i), .int s], m)) rfl ?_
    refine dx_br (q := (m.1 2 i) = (-9)) (a := 23) (b := 27) (L := [.ref 1, .int s, .int (nI i)]) (st := [.int s]) (m := m) rfl (fun h20 => ?_) (fun h20 => ?_)
    · refine dx_blk 6 (c' := (4, [.ref 1, .int (s + 0), .int ((nI i) + 1)], [], m)) rfl ?_
      simp only [st_cnt] at hk
      first | (rw [if_pos (by assumption), nI_succ] at hk; exact hk) | (rw [if_neg (by assumption), nI_succ] at hk; exact hk)
    · refine dx_blk 5 (c' := (4, [.ref 1, .int (s + 1), .int ((nI i) + 1)], [], m)) rfl ?_
      simp only [st_cnt] at hk
      first | (rw [if_pos (by assumption), nI_succ] at hk; exact hk) | (rw [if_neg (by assumption), nI_succ] at hk; exact hk)
  · refine dx_blk 0 (c' := (4, [.ref 1, .int (nf (st_cnt (m.1 2)) 144 0), .int (nI 144)], [], m)) rfl ?_
    refine dx_blk 2 (c' := (8, [.ref 1, .int (nf (st_cnt (m.1 2)) 144 0), .int (nI 144)], [.int 144, .int (nI 144)], m)) rfl ?_
    refine dx_br (q := 144 ≤ (nI 144)) (a := 36) (b := 11) (L := [.ref 1, .int (nf (st_cnt (m.1 2)) 144 0), .int (nI 144)]) (st := []) (m := m) rfl (fun _ => ?_) (fun h => absurd (nI_le (Nat.le_refl _) (by decide)) h)
    refine dx_blk 1 (c' := (37, [.ref 1, .int (nf (st_cnt (m.1 2)) 144 0), .int (nI 144)], [.int (nf (st_cnt (m.1 2)) 144 0)], m)) rfl ?_
    exact dx_ret (r := some (.int (nf (st_cnt (m.1 2)) 144 0))) rfl h
set_option maxRecDepth 20000 in
theorem sX0_weight {d : Nat}  (m : dx_M) {Z : Option Value → dx_M → Prop} (h : Z (some (.int (n_sum (m.1 2)))) m) : dx_Sem dx_P lx_X (d + 1) 7 [.ref 1] m Z := by
  refine dx_sem km_X0_weight rfl rfl ?_
  refine dx_blk 0 (c' := (0, [.ref 1, .null, .null], [], m)) rfl ?_
  refine dx_blk 4 (c' := (4, [.ref 1, .int 0, .int 0], [], m)) rfl ?_
  refine dx_blk 0 (c' := (4, [.ref 1, .int 0, .int (nI 0)], [], m)) rfl ?_
  refine dx_for (fun (i : Nat) (s : Int32) => ((4, [.ref 1, .int s, .int (nI i)], [], m) : dx_F)) (st_sum (m.1 2)) (fun _ _ => True) 144 0 trivial (fun i s hi hI hk => ?_) (fun _ _ _ _ => trivial) (fun hN => ?_)
  · refine dx_blk 0 (c' := (4, [.ref 1, .int s, .int (nI i)], [], m)) rfl ?_
    refine dx_blk 2 (c' := (8, [.ref 1, .int s, .int (nI i)], [.int 144, .int (nI i)], m)) rfl ?_
    refine dx_br (q := 144 ≤ (nI i)) (a := 41) (b := 11) (L := [.ref 1, .int s, .int (nI i)]) (st := []) (m := m) rfl (fun h => absurd h (nI_ge hi (by decide))) (fun _ => ?_)
    refine dx_blk 4 (c' := (17, [.ref 1, .int s, .int (nI i)], [.int (nI i), .ref 2, .int s], m)) rfl ?_
    refine dx_aldN i rfl rfl rfl rfl hi ?_
    refine dx_blk 0 (c' := (18, [.ref 1, .int s, .int (nI i)], [.int (m.1 2 i), .int s], m)) rfl ?_
    refine dx_blk 1 (c' := (20, [.ref 1, .int s, .int (nI i)], [.int (-9), .int (m.1 2 i), .int s], m)) rfl ?_
    refine dx_br (q := (m.1 2 i) = (-9)) (a := 23) (b := 27) (L := [.ref 1, .int s, .int (nI i)]) (st := [.int s]) (m := m) rfl (fun h20 => ?_) (fun h20 => ?_)
    · refine dx_blk 6 (c' := (4, [.ref 1, .int (s + 0), .int ((nI i) + 1)], [], m)) rfl ?_
      simp only [st_sum] at hk
      first | (rw [if_pos (by assumption), nI_succ] at hk; exact hk) | (rw [if_neg (by assumption), nI_succ] at hk; exact hk)
    · refine dx_blk 3 (c' := (32, [.ref 1, .int s, .int (nI i)], [.int (nI i), .ref 2, .int s], m)) rfl ?_
      refine dx_aldN i rfl rfl rfl rfl hi ?_
      refine dx_blk 0 (c' := (33, [.ref 1, .int s, .int (nI i)], [.int (m.1 2 i), .int s], m)) rfl ?_
      refine dx_blk 4 (c' := (4, [.ref 1, .int (s + (m.1 2 i)), .int ((nI i) + 1)], [], m)) rfl ?_
      simp only [st_sum] at hk
      first | (rw [if_pos (by assumption), nI_succ] at hk; exact hk) | (rw [if_neg (by assumption), nI_succ] at hk; exact hk)
  · refine dx_blk 0 (c' := (4, [.ref 1, .int (nf (st_sum (m.1 2)) 144 0), .int (nI 144)], [], m)) rfl ?_
    refine dx_blk 2 (c' := (8, [.ref 1, .int (nf (st_sum (m.1 2)) 144 0), .int (nI 144)], [.int 144, .int (nI 144)], m)) rfl ?_
    refine dx_br (q := 144 ≤ (nI 144)) (a := 41) (b := 11) (L := [.ref 1, .int (nf (st_sum (m.1 2)) 144 0), .int (nI 144)]) (st := []) (m := m) rfl (fun _ => ?_) (fun h => absurd (nI_le (Nat.le_refl _) (by decide)) h)
    refine dx_blk 1 (c' := (42, [.ref 1, .int (nf (st_sum (m.1 2)) 144 0), .int (nI 144)], [.int (nf (st_sum (m.1 2)) 144 0)], m)) rfl ?_
    exact dx_ret (r := some (.int (nf (st_sum (m.1 2)) 144 0))) rfl h
set_option maxRecDepth 20000 in
theorem sX4_squareMany {d : Nat}  (m : dx_M) {Z : Option Value → dx_M → Prop} (h : Z (some (.int (n_cnt (m.1 2)))) m) : dx_Sem dx_P lx_M (d + 1) 111 [.ref 0] m Z := by
  refine dx_sem km_X4_squareMany rfl rfl ?_
  refine dx_blk 0 (c' := (0, [.ref 0, .null, .null], [], m)) rfl ?_
  refine dx_blk 4 (c' := (4, [.ref 0, .int 0, .int 0], [], m)) rfl ?_
  refine dx_blk 0 (c' := (4, [.ref 0, .int 0, .int (nI 0)], [], m)) rfl ?_
  refine dx_for (fun (i : Nat) (s : Int32) => ((4, [.ref 0, .int s, .int (nI i)], [], m) : dx_F)) (st_cnt (m.1 2)) (fun _ _ => True) 144 0 trivial (fun i s hi hI hk => ?_) (fun _ _ _ _ => trivial) (fun hN => ?_)
  · refine dx_blk 0 (c' := (4, [.ref 0, .int s, .int (nI i)], [], m)) rfl ?_
    refine dx_blk 2 (c' := (8, [.ref 0, .int s, .int (nI i)], [.int 144, .int (nI i)], m)) rfl ?_
    refine dx_br (q := 144 ≤ (nI i)) (a := 36) (b := 11) (L := [.ref 0, .int s, .int (nI i)]) (st := []) (m := m) rfl (fun h => absurd h (nI_ge hi (by decide))) (fun _ => ?_)
    refine dx_blk 4 (c' := (17, [.ref 0, .int s, .int (nI i)], [.int (nI i), .ref 2, .int s], m)) rfl ?_
    refine dx_aldN i rfl rfl rfl rfl hi ?_
    refine dx_blk 0 (c' := (18, [.ref 0, .int s, .int (nI i)], [.int (m.1 2 i), .int s], m)) rfl ?_
    refine dx_blk 1 (c' := (20, [.ref 0, .int s, .int (nI i)], [.int (-9), .int (m.1 2 i), .int s], m)) rfl ?_
    refine dx_br (q := (m.1 2 i) = (-9)) (a := 23) (b := 27) (L := [.ref 0, .int s, .int (nI i)]) (st := [.int s]) (m := m) rfl (fun h20 => ?_) (fun h20 => ?_)
    · refine dx_blk 6 (c' := (4, [.ref 0, .int (s + 0), .int ((nI i) + 1)], [], m)) rfl ?_
      simp only [st_cnt] at hk
      first | (rw [if_pos (by assumption), nI_succ] at hk; exact hk) | (rw [if_neg (by assumption), nI_succ] at hk; exact hk)
    · refine dx_blk 5 (c' := (4, [.ref 0, .int (s + 1), .int ((nI i) + 1)], [], m)) rfl ?_
      simp only [st_cnt] at hk
      first | (rw [if_pos (by assumption), nI_succ] at hk; exact hk) | (rw [if_neg (by assumption), nI_succ] at hk; exact hk)
  · refine dx_blk 0 (c' := (4, [.ref 0, .int (nf (st_cnt (m.1 2)) 144 0), .int (nI 144)], [], m)) rfl ?_
    refine dx_blk 2 (c' := (8, [.ref 0, .int (nf (st_cnt (m.1 2)) 144 0), .int (nI 144)], [.int 144, .int (nI 144)], m)) rfl ?_
    refine dx_br (q := 144 ≤ (nI 144)) (a := 36) (b := 11) (L := [.ref 0, .int (nf (st_cnt (m.1 2)) 144 0), .int (nI 144)]) (st := []) (m := m) rfl (fun _ => ?_) (fun h => absurd (nI_le (Nat.le_refl _) (by decide)) h)
    refine dx_blk 1 (c' := (37, [.ref 0, .int (nf (st_cnt (m.1 2)) 144 0), .int (nI 144)], [.int (nf (st_cnt (m.1 2)) 144 0)], m)) rfl ?_
    exact dx_ret (r := some (.int (nf (st_cnt (m.1 2)) 144 0))) rfl h
set_option maxRecDepth 20000 in
theorem sX4_squareWeights {d : Nat}  (m : dx_M) {Z : Option Value → dx_M → Prop} (h : Z (some (.int (n_sum (m.1 2)))) m) : dx_Sem dx_P lx_M (d + 1) 112 [.ref 0] m Z := by
  refine dx_sem km_X4_squareWeights rfl rfl ?_
  refine dx_blk 0 (c' := (0, [.ref 0, .null, .null], [], m)) rfl ?_
  refine dx_blk 4 (c' := (4, [.ref 0, .int 0, .int 0], [], m)) rfl ?_
  refine dx_blk 0 (c' := (4, [.ref 0, .int 0, .int (nI 0)], [], m)) rfl ?_
  refine dx_for (fun (i : Nat) (s : Int32) => ((4, [.ref 0, .int s, .int (nI i)], [], m) : dx_F)) (st_sum (m.1 2)) (fun _ _ => True) 144 0 trivial (fun i s hi hI hk => ?_) (fun _ _ _ _ => trivial) (fun hN => ?_)
  · refine dx_blk 0 (c' := (4, [.ref 0, .int s, .int (nI i)], [], m)) rfl ?_
    refine dx_blk 2 (c' := (8, [.ref 0, .int s, .int (nI i)], [.int 144, .int (nI i)], m)) rfl ?_
    refine dx_br (q := 144 ≤ (nI i)) (a := 41) (b := 11) (L := [.ref 0, .int s, .int (nI i)]) (st := []) (m := m) rfl (fun h => absurd h (nI_ge hi (by decide))) (fun _ => ?_)
    refine dx_blk 4 (c' := (17, [.ref 0, .int s, .int (nI i)], [.int (nI i), .ref 2, .int s], m)) rfl ?_
    refine dx_aldN i rfl rfl rfl rfl hi ?_
    refine dx_blk 0 (c' := (18, [.ref 0, .int s, .int (nI i)], [.int (m.1 2 i), .int s], m)) rfl ?_
    refine dx_blk 1 (c' := (20, [.ref 0, .int s, .int (nI i)], [.int (-9), .int (m.1 2 i), .int s], m)) rfl ?_
    refine dx_br (q := (m.1 2 i) = (-9)) (a := 23) (b := 27) (L := [.ref 0, .int s, .int (nI i)]) (st := [.int s]) (m := m) rfl (fun h20 => ?_) (fun h20 => ?_)
    · refine dx_blk 6 (c' := (4, [.ref 0, .int (s + 0), .int ((nI i) + 1)], [], m)) rfl ?_
      simp only [st_sum] at hk
      first | (rw [if_pos (by assumption), nI_succ] at hk; exact hk) | (rw [if_neg (by assumption), nI_succ] at hk; exact hk)
    · refine dx_blk 3 (c' := (32, [.ref 0, .int s, .int (nI i)], [.int (nI i), .ref 2, .int s], m)) rfl ?_
      refine dx_aldN i rfl rfl rfl rfl hi ?_
      refine dx_blk 0 (c' := (33, [.ref 0, .int s, .int (nI i)], [.int (m.1 2 i), .int s], m)) rfl ?_
      refine dx_blk 4 (c' := (4, [.ref 0, .int (s + (m.1 2 i)), .int ((nI i) + 1)], [], m)) rfl ?_
      simp only [st_sum] at hk
      first | (rw [if_pos (by assumption), nI_succ] at hk; exact hk) | (rw [if_neg (by assumption), nI_succ] at hk; exact hk)
  · refine dx_blk 0 (c' := (4, [.ref 0, .int (nf (st_sum (m.1 2)) 144 0), .int (nI 144)], [], m)) rfl ?_
    refine dx_blk 2 (c' := (8, [.ref 0, .int (nf (st_sum (m.1 2)) 144 0), .int (nI 144)], [.int 144, .int (nI 144)], m)) rfl ?_
    refine dx_br (q := 144 ≤ (nI 144)) (a := 41) (b := 11) (L := [.ref 0, .int (nf (st_sum (m.1 2)) 144 0), .int (nI 144)]) (st := []) (m := m) rfl (fun _ => ?_) (fun h => absurd (nI_le (Nat.le_refl _) (by decide)) h)
    refine dx_blk 1 (c' := (42, [.ref 0, .int (nf (st_sum (m.1 2)) 144 0), .int (nI 144)], [.int (nf (st_sum (m.1 2)) 144 0)], m)) rfl ?_
    exact dx_ret (r := some (.int (nf (st_sum (m.1 2)) 144 0))) rfl h
