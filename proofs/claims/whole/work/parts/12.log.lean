/-! the log, squares, water, sheets: both programs (printed by wip/whole/g12.py) -/
def fndX (m : dx_M) (f : Nat) : dx_M := dx_pI (dx_pI m 0 8 (nI f)) 9 f (m.1 9 f + 1)
def fndM (m : dx_M) (f : Nat) : dx_M := dx_pI (dx_pI m 0 0 (nI f)) 1 f (m.1 1 f + 1)
theorem lx_row : ∀ a, a < 6 → lx_X[20 + a]? = some (.inr (1, 12, []))
  | 0, _ => rfl
  | 1, _ => rfl
  | 2, _ => rfl
  | 3, _ => rfl
  | 4, _ => rfl
  | 5, _ => rfl
  | n + 6, h => absurd h (by omega)
theorem lx_ld : ∀ a, a < 10 → lx_X[10 + a]? = some (.inl (2, [(1, 0), (0, 0), (0, 0), (0, 0), (0, 0), (0, 0)]))
  | 0, _ => rfl
  | 1, _ => rfl
  | 2, _ => rfl
  | 3, _ => rfl
  | 4, _ => rfl
  | 5, _ => rfl
  | 6, _ => rfl
  | 7, _ => rfl
  | 8, _ => rfl
  | 9, _ => rfl
  | n + 10, h => absurd h (by omega)
theorem lx_rs7 : ∀ a, a < 6 → ([20, 21, 22, 23, 24, 25] : List Nat)[a]? = some (20 + a) := by decide
theorem lx_rs6 : ∀ a, a < 10 → ([10, 11, 12, 13, 14, 15, 16, 17, 18, 19] : List Nat)[a]? = some (10 + a) := by decide
theorem in_N {x M : Int32} {n : Nat} (hM : M.toInt = n) (h : inI x 0 M = true) : ∃ j : Nat, j ≤ n ∧ x = nI j := by
  obtain ⟨h1, h2⟩ := inI_t.mp h
  exact nI_of2 hM (by rw [fa_lt]; rw [fa_le] at h1; omega) h2
theorem in_W {x : Int32} {W : Nat} (hW : W ≤ 12) (h : inI x 0 (nI W - 1) = true) : ∃ j : Nat, j < W ∧ x = nI j := by
  obtain ⟨h1, h2⟩ := inI_t.mp h
  rw [fa_le] at h1 h2
  have e1 : (nI W - 1).toInt = (W : Int) - 1 := pk_sub_toInt (a := W) (b := 1) (by omega) (by decide)
  have e0 : (0 : Int32).toInt = 0 := rfl
  have e2 : ¬ x < 0 := by rw [fa_lt]; omega
  obtain ⟨j, hj, rfl⟩ := nI_of e2
  rw [e1, nI_toInt hj] at h2
  exact ⟨j, by omega, rfl⟩
theorem W_in {j W : Nat} (hW : W ≤ 12) (h : j < W) : inI (nI j) 0 (nI W - 1) = true := by
  refine inI_t.mpr ⟨nI_pos' (by omega), ?_⟩
  rw [fa_le, nI_toInt (by omega)]
  have e1 : (nI W - 1).toInt = (W : Int) - 1 := pk_sub_toInt (a := W) (b := 1) (by omega) (by decide)
  omega
set_option maxRecDepth 20000 in
theorem sX3_find {d : Nat} (f : Nat) (hf : f < 6) (m : dx_M) {Z : Option Value → dx_M → Prop} (h : Z (some (.int (-3))) (fndX m f)) : dx_Sem dx_P lx_X (d + 1) 70 [.ref 0, .int (nI f)] m Z := by
  refine dx_sem km_X3_find rfl rfl ?_
  refine dx_blk 0 (c' := (0, [.ref 0, .int (nI f)], [], m)) rfl ?_
  refine dx_blk 7 (c' := (11, [.ref 0, .int (nI f)], [.int (nI f), .ref 9, .int (nI f), .ref 9], dx_pI m 0 8 (nI f))) rfl ?_
  refine dx_aldN f rfl rfl rfl rfl (by omega) ?_
  refine dx_blk 0 (c' := (12, [.ref 0, .int (nI f)], [.int (m.1 9 f), .int (nI f), .ref 9], dx_pI m 0 8 (nI f))) rfl ?_
  refine dx_blk 2 (c' := (14, [.ref 0, .int (nI f)], [.int ((m.1 9 f) + 1), .int (nI f), .ref 9], dx_pI m 0 8 (nI f))) rfl ?_
  refine dx_astN f rfl rfl rfl rfl (by omega) ?_
  refine dx_blk 0 (c' := (15, [.ref 0, .int (nI f)], [], dx_pI (dx_pI m 0 8 (nI f)) 9 f ((m.1 9 f) + 1))) rfl ?_
  refine dx_blk 1 (c' := (17, [.ref 0, .int (nI f)], [.int (-3)], dx_pI (dx_pI m 0 8 (nI f)) 9 f ((m.1 9 f) + 1))) rfl ?_
  exact dx_ret (r := some (.int (-3))) rfl h
set_option maxRecDepth 20000 in
theorem sX4_meets {d : Nat} (f : Nat) (hf : f < 6) (m : dx_M) {Z : Option Value → dx_M → Prop} (h : Z (some (.int (-3))) (fndM m f)) : dx_Sem dx_P lx_M (d + 1) 83 [.ref 0, .int (nI f)] m Z := by
  refine dx_sem km_X4_meets rfl rfl ?_
  refine dx_blk 0 (c' := (0, [.ref 0, .int (nI f)], [], m)) rfl ?_
  refine dx_blk 7 (c' := (11, [.ref 0, .int (nI f)], [.int (nI f), .ref 1, .int (nI f), .ref 1], dx_pI m 0 0 (nI f))) rfl ?_
  refine dx_aldN f rfl rfl rfl rfl (by omega) ?_
  refine dx_blk 0 (c' := (12, [.ref 0, .int (nI f)], [.int (m.1 1 f), .int (nI f), .ref 1], dx_pI m 0 0 (nI f))) rfl ?_
  refine dx_blk 2 (c' := (14, [.ref 0, .int (nI f)], [.int ((m.1 1 f) + 1), .int (nI f), .ref 1], dx_pI m 0 0 (nI f))) rfl ?_
  refine dx_astN f rfl rfl rfl rfl (by omega) ?_
  refine dx_blk 0 (c' := (15, [.ref 0, .int (nI f)], [], dx_pI (dx_pI m 0 0 (nI f)) 1 f ((m.1 1 f) + 1))) rfl ?_
  refine dx_blk 1 (c' := (17, [.ref 0, .int (nI f)], [.int (-3)], dx_pI (dx_pI m 0 0 (nI f)) 1 f ((m.1 1 f) + 1))) rfl ?_
  exact dx_ret (r := some (.int (-3))) rfl h
set_option maxRecDepth 20000 in
theorem sX4_begin {d : Nat} (w h : Int32) (m : dx_M) {Z : Option Value → dx_M → Prop} (h9 : Z none (dx_pR (dx_pI (dx_pI (dx_pI m 0 4 w) 0 5 h) 0 11 0) 2 (fa_fill (fun _ => -9) (m.1 2) 144))) : dx_Sem dx_P lx_M (d + 1) 90 [.ref 0, .int w, .int h] m Z := by
  refine dx_sem km_X4_begin rfl rfl ?_
  refine dx_blk 0 (c' := (0, [.ref 0, .int w, .int h, .null], [], m)) rfl ?_
  refine dx_blk 11 (c' := (17, [.ref 0, .int w, .int h, .int 0], [], dx_pI (dx_pI (dx_pI m 0 4 w) 0 5 h) 0 11 0)) rfl ?_
  refine dx_mem (m' := dx_pR (dx_pI (dx_pI (dx_pI m 0 4 w) 0 5 h) 0 11 0) 2 (fa_fill (fun _ => -9) (m.1 2) 0)) (by rw [fa_fill_0]; exact (dx_pR_self _ 2).symm) ?_
  refine dx_blk 0 (c' := (17, [.ref 0, .int w, .int h, .int (nI 0)], [], dx_pR (dx_pI (dx_pI (dx_pI m 0 4 w) 0 5 h) 0 11 0) 2 (fa_fill (fun _ => -9) (m.1 2) 0))) rfl ?_
  refine dx_for0 (fun (i : Nat) => ((17, [.ref 0, .int w, .int h, .int (nI i)], [], dx_pR (dx_pI (dx_pI (dx_pI m 0 4 w) 0 5 h) 0 11 0) 2 (fa_fill (fun _ => -9) (m.1 2) i)) : dx_F)) 144 (fun i hi hk => ?_) ?_
  · refine dx_blk 0 (c' := (17, [.ref 0, .int w, .int h, .int (nI i)], [], dx_pR (dx_pI (dx_pI (dx_pI m 0 4 w) 0 5 h) 0 11 0) 2 (fa_fill (fun _ => -9) (m.1 2) i))) rfl ?_
    refine dx_blk 2 (c' := (21, [.ref 0, .int w, .int h, .int (nI i)], [.int 144, .int (nI i)], dx_pR (dx_pI (dx_pI (dx_pI m 0 4 w) 0 5 h) 0 11 0) 2 (fa_fill (fun _ => -9) (m.1 2) i))) rfl ?_
    refine dx_br (q := 144 ≤ (nI i)) (a := 38) (b := 24) (L := [.ref 0, .int w, .int h, .int (nI i)]) (st := []) (m := dx_pR (dx_pI (dx_pI (dx_pI m 0 4 w) 0 5 h) 0 11 0) 2 (fa_fill (fun _ => -9) (m.1 2) i)) rfl (fun h => absurd h (nI_ge hi (by decide))) (fun _ => ?_)
    refine dx_blk 4 (c' := (31, [.ref 0, .int w, .int h, .int (nI i)], [.int (-9), .int (nI i), .ref 2], dx_pR (dx_pI (dx_pI (dx_pI m 0 4 w) 0 5 h) 0 11 0) 2 (fa_fill (fun _ => -9) (m.1 2) i))) rfl ?_
    refine dx_astN i rfl rfl rfl rfl hi ?_
    refine dx_blk 0 (c' := (32, [.ref 0, .int w, .int h, .int (nI i)], [], dx_pI (dx_pR (dx_pI (dx_pI (dx_pI m 0 4 w) 0 5 h) 0 11 0) 2 (fa_fill (fun _ => -9) (m.1 2) i)) 2 i (-9))) rfl ?_
    refine dx_blk 2 (c' := (17, [.ref 0, .int w, .int h, .int ((nI i) + 1)], [], dx_pI (dx_pR (dx_pI (dx_pI (dx_pI m 0 4 w) 0 5 h) 0 11 0) 2 (fa_fill (fun _ => -9) (m.1 2) i)) 2 i (-9))) rfl ?_
    rw [dx_pI_pR, show upd (fa_fill (fun _ => (-9 : Int32)) (m.1 2) i) i (-9) = fa_fill (fun _ => (-9 : Int32)) (m.1 2) (i + 1) from fa_fill_succ (fun _ => -9) (m.1 2) i, ← nI_succ]
    exact hk
  · refine dx_blk 0 (c' := (17, [.ref 0, .int w, .int h, .int (nI 144)], [], dx_pR (dx_pI (dx_pI (dx_pI m 0 4 w) 0 5 h) 0 11 0) 2 (fa_fill (fun _ => -9) (m.1 2) 144))) rfl ?_
    refine dx_blk 2 (c' := (21, [.ref 0, .int w, .int h, .int (nI 144)], [.int 144, .int (nI 144)], dx_pR (dx_pI (dx_pI (dx_pI m 0 4 w) 0 5 h) 0 11 0) 2 (fa_fill (fun _ => -9) (m.1 2) 144))) rfl ?_
    refine dx_br (q := 144 ≤ (nI 144)) (a := 38) (b := 24) (L := [.ref 0, .int w, .int h, .int (nI 144)]) (st := []) (m := dx_pR (dx_pI (dx_pI (dx_pI m 0 4 w) 0 5 h) 0 11 0) 2 (fa_fill (fun _ => -9) (m.1 2) 144)) rfl (fun _ => ?_) (fun h => absurd (nI_le (Nat.le_refl _) (by decide)) h)
    exact dx_ret (r := none) rfl h9
set_option maxRecDepth 20000 in
theorem sX3_log {d : Nat} (w h : Int32) (m : dx_M) {Z : Option Value → dx_M → Prop} (h1 : (inI w 1 12 && inI h 1 12) = false → Z (some (.int (-1))) m) (h2 : (inI w 1 12 && inI h 1 12) = true → Z (some (.int (w * h))) (dx_pI (dx_pR (dx_pI (dx_pI m 1 1 w) 1 2 h) 2 (fa_fill (fun _ => -9) (m.1 2) 144)) 0 7 0)) : dx_Sem dx_P lx_X (d + 2) 26 [.ref 0, .int w, .int h] m Z := by
  refine dx_sem km_X3_log rfl rfl ?_
  refine dx_blk 0 (c' := (0, [.ref 0, .int w, .int h], [], m)) rfl ?_
  refine dx_blk 3 (c' := (4, [.ref 0, .int w, .int h], [.int 12, .int 1, .int w], m)) rfl ?_
  refine dx_call (id := 64) (as := [.int w, .int 1, .int 12]) (rest := []) rfl ?_
  refine sX3_within w 1 12 _ ?_
  refine dx_blk 0 (c' := (7, [.ref 0, .int w, .int h], [.int (bI (inI w 1 12))], m)) rfl ?_
  refine dx_brB (B := (inI w 1 12)) (a := 20) (b := 10) (L := [.ref 0, .int w, .int h]) (st := []) (m := m) rfl (fun h7 => ?_) (fun h7 => ?_)
  · refine dx_blk 1 (c' := (21, [.ref 0, .int w, .int h], [.int (-1)], m)) rfl ?_
    exact dx_ret (r := some (.int (-1))) rfl (h1 (by simp [*]))
  · refine dx_blk 3 (c' := (14, [.ref 0, .int w, .int h], [.int 12, .int 1, .int h], m)) rfl ?_
    refine dx_call (id := 64) (as := [.int h, .int 1, .int 12]) (rest := []) rfl ?_
    refine sX3_within h 1 12 _ ?_
    refine dx_blk 0 (c' := (17, [.ref 0, .int w, .int h], [.int (bI (inI h 1 12))], m)) rfl ?_
    refine dx_brB (B := (inI h 1 12)) (a := 20) (b := 22) (L := [.ref 0, .int w, .int h]) (st := []) (m := m) rfl (fun h17 => ?_) (fun h17 => ?_)
    · refine dx_blk 1 (c' := (21, [.ref 0, .int w, .int h], [.int (-1)], m)) rfl ?_
      exact dx_ret (r := some (.int (-1))) rfl (h1 (by simp [*]))
    · refine dx_blk 4 (c' := (28, [.ref 0, .int w, .int h], [.int h, .int w, .ref 1], m)) rfl ?_
      refine dx_call (id := 0) (as := [.ref 1, .int w, .int h]) (rest := []) rfl ?_
      refine sX0_begin w h _ ?_
      refine dx_blk 0 (c' := (31, [.ref 0, .int w, .int h], [], dx_pR (dx_pI (dx_pI m 1 1 w) 1 2 h) 2 (fa_fill (fun _ => -9) (m.1 2) 144))) rfl ?_
      refine dx_blk 6 (c' := (39, [.ref 0, .int w, .int h], [.int (w * h)], dx_pI (dx_pR (dx_pI (dx_pI m 1 1 w) 1 2 h) 2 (fa_fill (fun _ => -9) (m.1 2) 144)) 0 7 0)) rfl ?_
      exact dx_ret (r := some (.int (w * h))) rfl (h2 (by simp [*]))
set_option maxRecDepth 20000 in
theorem sX4_log {d : Nat} (w h : Int32) (m : dx_M) {Z : Option Value → dx_M → Prop} (h1 : (inI w 1 12 && inI h 1 12) = false → Z (some (.int (-1))) m) (h2 : (inI w 1 12 && inI h 1 12) = true → Z (some (.int (w * h))) (dx_pR (dx_pI (dx_pI (dx_pI m 0 4 w) 0 5 h) 0 11 0) 2 (fa_fill (fun _ => -9) (m.1 2) 144))) : dx_Sem dx_P lx_M (d + 2) 91 [.ref 0, .int w, .int h] m Z := by
  refine dx_sem km_X4_log rfl rfl ?_
  refine dx_blk 0 (c' := (0, [.ref 0, .int w, .int h], [], m)) rfl ?_
  refine dx_blk 3 (c' := (4, [.ref 0, .int w, .int h], [.int 12, .int 1, .int w], m)) rfl ?_
  refine dx_call (id := 82) (as := [.int w, .int 1, .int 12]) (rest := []) rfl ?_
  refine sX4_in w 1 12 _ ?_
  refine dx_blk 0 (c' := (7, [.ref 0, .int w, .int h], [.int (bI (inI w 1 12))], m)) rfl ?_
  refine dx_brB (B := (inI w 1 12)) (a := 20) (b := 10) (L := [.ref 0, .int w, .int h]) (st := []) (m := m) rfl (fun h7 => ?_) (fun h7 => ?_)
  · refine dx_blk 1 (c' := (21, [.ref 0, .int w, .int h], [.int (-1)], m)) rfl ?_
    exact dx_ret (r := some (.int (-1))) rfl (h1 (by simp [*]))
  · refine dx_blk 3 (c' := (14, [.ref 0, .int w, .int h], [.int 12, .int 1, .int h], m)) rfl ?_
    refine dx_call (id := 82) (as := [.int h, .int 1, .int 12]) (rest := []) rfl ?_
    refine sX4_in h 1 12 _ ?_
    refine dx_blk 0 (c' := (17, [.ref 0, .int w, .int h], [.int (bI (inI h 1 12))], m)) rfl ?_
    refine dx_brB (B := (inI h 1 12)) (a := 20) (b := 22) (L := [.ref 0, .int w, .int h]) (st := []) (m := m) rfl (fun h17 => ?_) (fun h17 => ?_)
    · refine dx_blk 1 (c' := (21, [.ref 0, .int w, .int h], [.int (-1)], m)) rfl ?_
      exact dx_ret (r := some (.int (-1))) rfl (h1 (by simp [*]))
    · refine dx_blk 3 (c' := (25, [.ref 0, .int w, .int h], [.int h, .int w, .ref 0], m)) rfl ?_
      refine dx_call (id := 90) (as := [.ref 0, .int w, .int h]) (rest := []) rfl ?_
      refine sX4_begin w h _ ?_
      refine dx_blk 0 (c' := (28, [.ref 0, .int w, .int h], [], dx_pR (dx_pI (dx_pI (dx_pI m 0 4 w) 0 5 h) 0 11 0) 2 (fa_fill (fun _ => -9) (m.1 2) 144))) rfl ?_
      refine dx_blk 3 (c' := (31, [.ref 0, .int w, .int h], [.int (w * h)], dx_pR (dx_pI (dx_pI (dx_pI m 0 4 w) 0 5 h) 0 11 0) 2 (fa_fill (fun _ => -9) (m.1 2) 144))) rfl ?_
      exact dx_ret (r := some (.int (w * h))) rfl (h2 (by simp [*]))
set_option maxRecDepth 20000 in
theorem sX3_square {d : Nat} (m : dx_M) {W H : Nat} (hW : W ≤ 12) (hH : H ≤ 12) (eW : m.1 1 1 = nI W) (eH : m.1 1 2 = nI H) (x y v : Int32) {Z : Option Value → dx_M → Prop} (h1 : ((inI x 0 (nI W - 1) && inI y 0 (nI H - 1)) && (decide (v = -9) || inI v 0 20)) = false → Z (some (.int (-1))) m) (h2 : ∀ a b, a < W → b < H → x = nI a → y = nI b → (decide (v = -9) || inI v 0 20) = true → Z (some (.int (m.1 2 (b * 12 + a)))) (dx_pI m 2 (b * 12 + a) v)) : dx_Sem dx_P lx_X (d + 3) 27 [.ref 0, .int x, .int y, .int v] m Z := by
  refine dx_sem km_X3_square rfl rfl ?_
  refine dx_blk 0 (c' := (0, [.ref 0, .int x, .int y, .int v, .null], [], m)) rfl ?_
  refine dx_blk 4 (c' := (6, [.ref 0, .int x, .int y, .int v, .null], [.int y, .int x, .ref 1], m)) rfl ?_
  refine dx_call (id := 1) (as := [.ref 1, .int x, .int y]) (rest := []) rfl ?_
  refine sX0_has x y _ ?_
  refine dx_blk 0 (c' := (9, [.ref 0, .int x, .int y, .int v, .null], [.int (bI (inI x 0 (m.1 1 1 - 1) && inI y 0 (m.1 1 2 - 1)))], m)) rfl ?_
  refine dx_brB (B := (inI x 0 (m.1 1 1 - 1) && inI y 0 (m.1 1 2 - 1))) (a := 28) (b := 12) (L := [.ref 0, .int x, .int y, .int v, .null]) (st := []) (m := m) rfl (fun h9 => ?_) (fun h9 => ?_)
  · refine dx_blk 1 (c' := (29, [.ref 0, .int x, .int y, .int v, .null], [.int (-1)], m)) rfl ?_
    exact dx_ret (r := some (.int (-1))) rfl (h1 (by simp_all))
  · refine dx_blk 2 (c' := (15, [.ref 0, .int x, .int y, .int v, .null], [.int (-9), .int v], m)) rfl ?_
    refine dx_br (q := v = (-9)) (a := 30) (b := 18) (L := [.ref 0, .int x, .int y, .int v, .null]) (st := []) (m := m) rfl (fun h15 => ?_) (fun h15 => ?_)
    · rw [eW, eH, Bool.and_eq_true] at h9
      obtain ⟨hx0, hy0⟩ := h9
      obtain ⟨a, ha, rfl⟩ := in_W hW hx0
      obtain ⟨b, hb, rfl⟩ := in_W hH hy0
      refine dx_blk 4 (c' := (36, [.ref 0, .int (nI a), .int (nI b), .int v, .null], [.int (nI b), .int (nI a), .ref 1], m)) rfl ?_
      refine dx_call (id := 2) (as := [.ref 1, .int (nI a), .int (nI b)]) (rest := []) rfl ?_
      refine sX0_weightOf (a := a) (b := b) (by omega) (by omega) _ ?_
      refine dx_blk 0 (c' := (39, [.ref 0, .int (nI a), .int (nI b), .int v, .null], [.int (m.1 2 (b * 12 + a))], m)) rfl ?_
      refine dx_blk 6 (c' := (48, [.ref 0, .int (nI a), .int (nI b), .int v, .int (m.1 2 (b * 12 + a))], [.int v, .int (nI b), .int (nI a), .ref 1], m)) rfl ?_
      refine dx_call (id := 3) (as := [.ref 1, .int (nI a), .int (nI b), .int v]) (rest := []) rfl ?_
      refine sX0_put (a := a) (b := b) v (by omega) (by omega) _ ?_
      refine dx_blk 0 (c' := (51, [.ref 0, .int (nI a), .int (nI b), .int v, .int (m.1 2 (b * 12 + a))], [], dx_pI m 2 (b * 12 + a) v)) rfl ?_
      refine dx_blk 1 (c' := (53, [.ref 0, .int (nI a), .int (nI b), .int v, .int (m.1 2 (b * 12 + a))], [.int (m.1 2 (b * 12 + a))], dx_pI m 2 (b * 12 + a) v)) rfl ?_
      exact dx_ret (r := some (.int (m.1 2 (b * 12 + a)))) rfl (h2 a b ha hb rfl rfl (by simp [*]))
    · refine dx_blk 3 (c' := (22, [.ref 0, .int x, .int y, .int v, .null], [.int 20, .int 0, .int v], m)) rfl ?_
      refine dx_call (id := 64) (as := [.int v, .int 0, .int 20]) (rest := []) rfl ?_
      refine sX3_within v 0 20 _ ?_
      refine dx_blk 0 (c' := (25, [.ref 0, .int x, .int y, .int v, .null], [.int (bI (inI v 0 20))], m)) rfl ?_
      refine dx_brB (B := (inI v 0 20)) (a := 28) (b := 30) (L := [.ref 0, .int x, .int y, .int v, .null]) (st := []) (m := m) rfl (fun h25 => ?_) (fun h25 => ?_)
      · refine dx_blk 1 (c' := (29, [.ref 0, .int x, .int y, .int v, .null], [.int (-1)], m)) rfl ?_
        exact dx_ret (r := some (.int (-1))) rfl (h1 (by simp_all))
      · rw [eW, eH, Bool.and_eq_true] at h9
        obtain ⟨hx0, hy0⟩ := h9
        obtain ⟨a, ha, rfl⟩ := in_W hW hx0
        obtain ⟨b, hb, rfl⟩ := in_W hH hy0
        refine dx_blk 4 (c' := (36, [.ref 0, .int (nI a), .int (nI b), .int v, .null], [.int (nI b), .int (nI a), .ref 1], m)) rfl ?_
        refine dx_call (id := 2) (as := [.ref 1, .int (nI a), .int (nI b)]) (rest := []) rfl ?_
        refine sX0_weightOf (a := a) (b := b) (by omega) (by omega) _ ?_
        refine dx_blk 0 (c' := (39, [.ref 0, .int (nI a), .int (nI b), .int v, .null], [.int (m.1 2 (b * 12 + a))], m)) rfl ?_
        refine dx_blk 6 (c' := (48, [.ref 0, .int (nI a), .int (nI b), .int v, .int (m.1 2 (b * 12 + a))], [.int v, .int (nI b), .int (nI a), .ref 1], m)) rfl ?_
        refine dx_call (id := 3) (as := [.ref 1, .int (nI a), .int (nI b), .int v]) (rest := []) rfl ?_
        refine sX0_put (a := a) (b := b) v (by omega) (by omega) _ ?_
        refine dx_blk 0 (c' := (51, [.ref 0, .int (nI a), .int (nI b), .int v, .int (m.1 2 (b * 12 + a))], [], dx_pI m 2 (b * 12 + a) v)) rfl ?_
        refine dx_blk 1 (c' := (53, [.ref 0, .int (nI a), .int (nI b), .int v, .int (m.1 2 (b * 12 + a))], [.int (m.1 2 (b * 12 + a))], dx_pI m 2 (b * 12 + a) v)) rfl ?_
        exact dx_ret (r := some (.int (m.1 2 (b * 12 + a)))) rfl (h2 a b ha hb rfl rfl (by simp [*]))
set_option maxRecDepth 20000 in
theorem sX4_square {d : Nat} (m : dx_M) {W H : Nat} (hW : W ≤ 12) (hH : H ≤ 12) (eW : m.1 0 4 = nI W) (eH : m.1 0 5 = nI H) (x y v : Int32) {Z : Option Value → dx_M → Prop} (h1 : ((inI x 0 (nI W - 1) && inI y 0 (nI H - 1)) && (decide (v = -9) || inI v 0 20)) = false → Z (some (.int (-1))) m) (h2 : ∀ a b, a < W → b < H → x = nI a → y = nI b → (decide (v = -9) || inI v 0 20) = true → Z (some (.int (m.1 2 (12 * b + a)))) (dx_pI m 2 (12 * b + a) v)) : dx_Sem dx_P lx_M (d + 3) 93 [.ref 0, .int x, .int y, .int v] m Z := by
  refine dx_sem km_X4_square rfl rfl ?_
  refine dx_blk 0 (c' := (0, [.ref 0, .int x, .int y, .int v, .null], [], m)) rfl ?_
  refine dx_blk 3 (c' := (3, [.ref 0, .int x, .int y, .int v, .null], [.int y, .int x, .ref 0], m)) rfl ?_
  refine dx_call (id := 92) (as := [.ref 0, .int x, .int y]) (rest := []) rfl ?_
  refine sX4_isPlace x y _ ?_
  refine dx_blk 0 (c' := (6, [.ref 0, .int x, .int y, .int v, .null], [.int (bI (inI x 0 (m.1 0 4 - 1) && inI y 0 (m.1 0 5 - 1)))], m)) rfl ?_
  refine dx_brB (B := (inI x 0 (m.1 0 4 - 1) && inI y 0 (m.1 0 5 - 1))) (a := 25) (b := 9) (L := [.ref 0, .int x, .int y, .int v, .null]) (st := []) (m := m) rfl (fun h6 => ?_) (fun h6 => ?_)
  · refine dx_blk 1 (c' := (26, [.ref 0, .int x, .int y, .int v, .null], [.int (-1)], m)) rfl ?_
    exact dx_ret (r := some (.int (-1))) rfl (h1 (by simp_all))
  · refine dx_blk 2 (c' := (12, [.ref 0, .int x, .int y, .int v, .null], [.int (-9), .int v], m)) rfl ?_
    refine dx_br (q := v = (-9)) (a := 27) (b := 15) (L := [.ref 0, .int x, .int y, .int v, .null]) (st := []) (m := m) rfl (fun h12 => ?_) (fun h12 => ?_)
    · rw [eW, eH, Bool.and_eq_true] at h6
      obtain ⟨hx0, hy0⟩ := h6
      obtain ⟨a, ha, rfl⟩ := in_W hW hx0
      obtain ⟨b, hb, rfl⟩ := in_W hH hy0
      refine dx_blk 7 (c' := (37, [.ref 0, .int (nI a), .int (nI b), .int v, .null], [.int ((12 * (nI b)) + (nI a)), .ref 2], m)) rfl ?_
      refine dx_aldN (12 * b + a) rfl rfl rfl (nI_ix2 b a) (by omega) ?_
      refine dx_blk 0 (c' := (38, [.ref 0, .int (nI a), .int (nI b), .int v, .null], [.int (m.1 2 (12 * b + a))], m)) rfl ?_
      refine dx_blk 9 (c' := (51, [.ref 0, .int (nI a), .int (nI b), .int v, .int (m.1 2 (12 * b + a))], [.int v, .int ((12 * (nI b)) + (nI a)), .ref 2], m)) rfl ?_
      refine dx_astN (12 * b + a) rfl rfl rfl (nI_ix2 b a) (by omega) ?_
      refine dx_blk 0 (c' := (52, [.ref 0, .int (nI a), .int (nI b), .int v, .int (m.1 2 (12 * b + a))], [], dx_pI m 2 (12 * b + a) v)) rfl ?_
      refine dx_blk 1 (c' := (54, [.ref 0, .int (nI a), .int (nI b), .int v, .int (m.1 2 (12 * b + a))], [.int (m.1 2 (12 * b + a))], dx_pI m 2 (12 * b + a) v)) rfl ?_
      exact dx_ret (r := some (.int (m.1 2 (12 * b + a)))) rfl (h2 a b ha hb rfl rfl (by simp [*]))
    · refine dx_blk 3 (c' := (19, [.ref 0, .int x, .int y, .int v, .null], [.int 20, .int 0, .int v], m)) rfl ?_
      refine dx_call (id := 82) (as := [.int v, .int 0, .int 20]) (rest := []) rfl ?_
      refine sX4_in v 0 20 _ ?_
      refine dx_blk 0 (c' := (22, [.ref 0, .int x, .int y, .int v, .null], [.int (bI (inI v 0 20))], m)) rfl ?_
      refine dx_brB (B := (inI v 0 20)) (a := 25) (b := 27) (L := [.ref 0, .int x, .int y, .int v, .null]) (st := []) (m := m) rfl (fun h22 => ?_) (fun h22 => ?_)
      · refine dx_blk 1 (c' := (26, [.ref 0, .int x, .int y, .int v, .null], [.int (-1)], m)) rfl ?_
        exact dx_ret (r := some (.int (-1))) rfl (h1 (by simp_all))
      · rw [eW, eH, Bool.and_eq_true] at h6
        obtain ⟨hx0, hy0⟩ := h6
        obtain ⟨a, ha, rfl⟩ := in_W hW hx0
        obtain ⟨b, hb, rfl⟩ := in_W hH hy0
        refine dx_blk 7 (c' := (37, [.ref 0, .int (nI a), .int (nI b), .int v, .null], [.int ((12 * (nI b)) + (nI a)), .ref 2], m)) rfl ?_
        refine dx_aldN (12 * b + a) rfl rfl rfl (nI_ix2 b a) (by omega) ?_
        refine dx_blk 0 (c' := (38, [.ref 0, .int (nI a), .int (nI b), .int v, .null], [.int (m.1 2 (12 * b + a))], m)) rfl ?_
        refine dx_blk 9 (c' := (51, [.ref 0, .int (nI a), .int (nI b), .int v, .int (m.1 2 (12 * b + a))], [.int v, .int ((12 * (nI b)) + (nI a)), .ref 2], m)) rfl ?_
        refine dx_astN (12 * b + a) rfl rfl rfl (nI_ix2 b a) (by omega) ?_
        refine dx_blk 0 (c' := (52, [.ref 0, .int (nI a), .int (nI b), .int v, .int (m.1 2 (12 * b + a))], [], dx_pI m 2 (12 * b + a) v)) rfl ?_
        refine dx_blk 1 (c' := (54, [.ref 0, .int (nI a), .int (nI b), .int v, .int (m.1 2 (12 * b + a))], [.int (m.1 2 (12 * b + a))], dx_pI m 2 (12 * b + a) v)) rfl ?_
        exact dx_ret (r := some (.int (m.1 2 (12 * b + a)))) rfl (h2 a b ha hb rfl rfl (by simp [*]))
set_option maxRecDepth 20000 in
theorem sX3_at {d : Nat} (m : dx_M) {W H : Nat} (hW : W ≤ 12) (hH : H ≤ 12) (eW : m.1 1 1 = nI W) (eH : m.1 1 2 = nI H) (x y : Int32) {Z : Option Value → dx_M → Prop} (h1 : (inI x 0 (nI W - 1) && inI y 0 (nI H - 1)) = false → Z (some (.int (-1))) m) (h2 : ∀ a b, a < W → b < H → x = nI a → y = nI b → Z (some (.int (m.1 2 (b * 12 + a)))) m) : dx_Sem dx_P lx_X (d + 3) 28 [.ref 0, .int x, .int y] m Z := by
  refine dx_sem km_X3_at rfl rfl ?_
  refine dx_blk 0 (c' := (0, [.ref 0, .int x, .int y], [], m)) rfl ?_
  refine dx_blk 4 (c' := (6, [.ref 0, .int x, .int y], [.int y, .int x, .ref 1], m)) rfl ?_
  refine dx_call (id := 1) (as := [.ref 1, .int x, .int y]) (rest := []) rfl ?_
  refine sX0_has x y _ ?_
  refine dx_blk 0 (c' := (9, [.ref 0, .int x, .int y], [.int (bI (inI x 0 (m.1 1 1 - 1) && inI y 0 (m.1 1 2 - 1)))], m)) rfl ?_
  refine dx_brB (B := (inI x 0 (m.1 1 1 - 1) && inI y 0 (m.1 1 2 - 1))) (a := 24) (b := 12) (L := [.ref 0, .int x, .int y]) (st := []) (m := m) rfl (fun h9 => ?_) (fun h9 => ?_)
  · refine dx_blk 1 (c' := (25, [.ref 0, .int x, .int y], [.int (-1)], m)) rfl ?_
    exact dx_ret (r := some (.int (-1))) rfl (h1 (by simp_all))
  · rw [eW, eH, Bool.and_eq_true] at h9
    obtain ⟨hx0, hy0⟩ := h9
    obtain ⟨a, ha, rfl⟩ := in_W hW hx0
    obtain ⟨b, hb, rfl⟩ := in_W hH hy0
    refine dx_blk 4 (c' := (18, [.ref 0, .int (nI a), .int (nI b)], [.int (nI b), .int (nI a), .ref 1], m)) rfl ?_
    refine dx_call (id := 2) (as := [.ref 1, .int (nI a), .int (nI b)]) (rest := []) rfl ?_
    refine sX0_weightOf (a := a) (b := b) (by omega) (by omega) _ ?_
    refine dx_blk 0 (c' := (21, [.ref 0, .int (nI a), .int (nI b)], [.int (m.1 2 (b * 12 + a))], m)) rfl ?_
    refine dx_blk 1 (c' := (25, [.ref 0, .int (nI a), .int (nI b)], [.int (m.1 2 (b * 12 + a))], m)) rfl ?_
    exact dx_ret (r := some (.int (m.1 2 (b * 12 + a)))) rfl (h2 a b ha hb rfl rfl)
set_option maxRecDepth 20000 in
theorem sX4_at {d : Nat} (m : dx_M) {W H : Nat} (hW : W ≤ 12) (hH : H ≤ 12) (eW : m.1 0 4 = nI W) (eH : m.1 0 5 = nI H) (x y : Int32) {Z : Option Value → dx_M → Prop} (h1 : (inI x 0 (nI W - 1) && inI y 0 (nI H - 1)) = false → Z (some (.int (-1))) m) (h2 : ∀ a b, a < W → b < H → x = nI a → y = nI b → Z (some (.int (m.1 2 (12 * b + a)))) m) : dx_Sem dx_P lx_M (d + 3) 94 [.ref 0, .int x, .int y] m Z := by
  refine dx_sem km_X4_at rfl rfl ?_
  refine dx_blk 0 (c' := (0, [.ref 0, .int x, .int y], [], m)) rfl ?_
  refine dx_blk 3 (c' := (3, [.ref 0, .int x, .int y], [.int y, .int x, .ref 0], m)) rfl ?_
  refine dx_call (id := 92) (as := [.ref 0, .int x, .int y]) (rest := []) rfl ?_
  refine sX4_isPlace x y _ ?_
  refine dx_blk 0 (c' := (6, [.ref 0, .int x, .int y], [.int (bI (inI x 0 (m.1 0 4 - 1) && inI y 0 (m.1 0 5 - 1)))], m)) rfl ?_
  refine dx_brB (B := (inI x 0 (m.1 0 4 - 1) && inI y 0 (m.1 0 5 - 1))) (a := 23) (b := 9) (L := [.ref 0, .int x, .int y]) (st := []) (m := m) rfl (fun h6 => ?_) (fun h6 => ?_)
  · refine dx_blk 1 (c' := (24, [.ref 0, .int x, .int y], [.int (-1)], m)) rfl ?_
    exact dx_ret (r := some (.int (-1))) rfl (h1 (by simp_all))
  · rw [eW, eH, Bool.and_eq_true] at h6
    obtain ⟨hx0, hy0⟩ := h6
    obtain ⟨a, ha, rfl⟩ := in_W hW hx0
    obtain ⟨b, hb, rfl⟩ := in_W hH hy0
    refine dx_blk 7 (c' := (19, [.ref 0, .int (nI a), .int (nI b)], [.int ((12 * (nI b)) + (nI a)), .ref 2], m)) rfl ?_
    refine dx_aldN (12 * b + a) rfl rfl rfl (nI_ix2 b a) (by omega) ?_
    refine dx_blk 0 (c' := (20, [.ref 0, .int (nI a), .int (nI b)], [.int (m.1 2 (12 * b + a))], m)) rfl ?_
    refine dx_blk 1 (c' := (24, [.ref 0, .int (nI a), .int (nI b)], [.int (m.1 2 (12 * b + a))], m)) rfl ?_
    exact dx_ret (r := some (.int (m.1 2 (12 * b + a)))) rfl (h2 a b ha hb rfl rfl)
set_option maxRecDepth 20000 in
theorem sX3_water {d : Nat} (x : Int32) (m : dx_M) {Z : Option Value → dx_M → Prop} (h1 : inI x 1 20 = false → Z (some (.int (-1))) m) (h2 : inI x 1 20 = true → Z (some (.int (m.1 0 6))) (dx_pI m 0 6 x)) : dx_Sem dx_P lx_X (d + 2) 29 [.ref 0, .int x] m Z := by
  refine dx_sem km_X3_water rfl rfl ?_
  refine dx_blk 0 (c' := (0, [.ref 0, .int x, .null], [], m)) rfl ?_
  refine dx_blk 3 (c' := (4, [.ref 0, .int x, .null], [.int 20, .int 1, .int x], m)) rfl ?_
  refine dx_call (id := 64) (as := [.int x, .int 1, .int 20]) (rest := []) rfl ?_
  refine sX3_within x 1 20 _ ?_
  refine dx_blk 0 (c' := (7, [.ref 0, .int x, .null], [.int (bI (inI x 1 20))], m)) rfl ?_
  refine dx_brB (B := (inI x 1 20)) (a := 10) (b := 12) (L := [.ref 0, .int x, .null]) (st := []) (m := m) rfl (fun h7 => ?_) (fun h7 => ?_)
  · refine dx_blk 1 (c' := (11, [.ref 0, .int x, .null], [.int (-1)], m)) rfl ?_
    exact dx_ret (r := some (.int (-1))) rfl (h1 (by assumption))
  · refine dx_blk 7 (c' := (23, [.ref 0, .int x, .int (m.1 0 6)], [.int (m.1 0 6)], dx_pI m 0 6 x)) rfl ?_
    exact dx_ret (r := some (.int (m.1 0 6))) rfl (h2 (by assumption))
set_option maxRecDepth 20000 in
theorem sX4_water {d : Nat} (x : Int32) (m : dx_M) {Z : Option Value → dx_M → Prop} (h1 : inI x 1 20 = false → Z (some (.int (-1))) m) (h2 : inI x 1 20 = true → Z (some (.int (m.1 0 6))) (dx_pI m 0 6 x)) : dx_Sem dx_P lx_M (d + 2) 95 [.ref 0, .int x] m Z := by
  refine dx_sem km_X4_water rfl rfl ?_
  refine dx_blk 0 (c' := (0, [.ref 0, .int x, .null], [], m)) rfl ?_
  refine dx_blk 3 (c' := (4, [.ref 0, .int x, .null], [.int 20, .int 1, .int x], m)) rfl ?_
  refine dx_call (id := 82) (as := [.int x, .int 1, .int 20]) (rest := []) rfl ?_
  refine sX4_in x 1 20 _ ?_
  refine dx_blk 0 (c' := (7, [.ref 0, .int x, .null], [.int (bI (inI x 1 20))], m)) rfl ?_
  refine dx_brB (B := (inI x 1 20)) (a := 10) (b := 12) (L := [.ref 0, .int x, .null]) (st := []) (m := m) rfl (fun h7 => ?_) (fun h7 => ?_)
  · refine dx_blk 1 (c' := (11, [.ref 0, .int x, .null], [.int (-1)], m)) rfl ?_
    exact dx_ret (r := some (.int (-1))) rfl (h1 (by assumption))
  · refine dx_blk 7 (c' := (23, [.ref 0, .int x, .int (m.1 0 6)], [.int (m.1 0 6)], dx_pI m 0 6 x)) rfl ?_
    exact dx_ret (r := some (.int (m.1 0 6))) rfl (h2 (by assumption))
