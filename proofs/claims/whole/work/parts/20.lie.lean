/-! Lie: rows of bits, plain (printed by wip/whole/g20.py) -/
def trA (t x y sa su : Int32) : Int32 := if t = 1 then su - y else if t = 2 then sa - x else if t = 3 then y else x
def trU (t x y sa su : Int32) : Int32 := if t = 1 then x else if t = 2 then su - y else if t = 3 then sa - x else y
def bcI (x : Int32) : Int32 :=
  let a := x - ((x.toUInt32 >>> ((1 : Int32).toUInt32 &&& Int32.toUInt32 31)).toInt32 &&& 1431655765)
  let b := (a &&& 858993459) + ((a.toUInt32 >>> ((2 : Int32).toUInt32 &&& Int32.toUInt32 31)).toInt32 &&& 858993459)
  let c := (b + (b.toUInt32 >>> ((4 : Int32).toUInt32 &&& Int32.toUInt32 31)).toInt32) &&& 252645135
  let e := c + (c.toUInt32 >>> ((8 : Int32).toUInt32 &&& Int32.toUInt32 31)).toInt32
  let f := e + (e.toUInt32 >>> ((16 : Int32).toUInt32 &&& Int32.toUInt32 31)).toInt32
  f &&& 63
def wyI (w y : Int32) : Int32 := if y = 0 then ((1 : Int32) <<< (w &&& 31)) - 1 else 1 ||| ((1 : Int32) <<< ((w - 1) &&& 31))
def fmI (w v : Int32) : Int32 := (((1 : Int32) <<< (w &&& 31)) - 1) &&& (v ^^^ (-1))
def st_hv (p : Int32) (x : Nat) (s : Int32) : Int32 := s + ((p >>> (nI x &&& 31)) &&& 1) * (2 * nI x + 1)
def st_fb (w : Int32) (f : Nat → Int32) (y : Nat) (s : Int32) : Int32 := s + bcI (fmI w (f y))
/-- a row of the flood, once looked at -/
def rwI (o f : Nat → Int32) (r y : Nat) : Int32 := ((((f y ||| (f y <<< ((1 : Int32) &&& 31))) ||| (f y >>> ((1 : Int32) &&& 31))) ||| (if 0 < y then f (y - 1) else 0)) ||| (if y < r then f (y + 1) else 0)) &&& o y
def psI (o : Nat → Int32) (r y : Nat) (s : (Nat → Int32) × Bool) : (Nat → Int32) × Bool := (upd s.1 y (rwI o s.1 r y), s.2 || decide (¬ rwI o s.1 r y = s.1 y))
def spI (o : Nat → Int32) (r : Nat) : Nat → (Nat → Int32) → Nat → Int32
  | 0, f => f
  | n + 1, f => if (nf (psI o r) (r + 1) (f, false)).2 = true then spI o r n (nf (psI o r) (r + 1) (f, false)).1 else (nf (psI o r) (r + 1) (f, false)).1
theorem spI_t {o : Nat → Int32} {r n : Nat} {f : Nat → Int32} (h : (nf (psI o r) (r + 1) (f, false)).2 = true) : spI o r (n + 1) f = spI o r n (nf (psI o r) (r + 1) (f, false)).1 := by
  show (if _ then _ else _) = _
  rw [if_pos h]
theorem spI_f {o : Nat → Int32} {r n : Nat} {f : Nat → Int32} (h : (nf (psI o r) (r + 1) (f, false)).2 = false) : spI o r (n + 1) f = (nf (psI o r) (r + 1) (f, false)).1 := by
  show (if _ then _ else _) = _
  rw [if_neg (by rw [h]; decide)]
theorem bI_o0 (b : Bool) : bI b ||| 0 = bI (b || false) := by cases b <;> rfl
theorem bI_o1 (b : Bool) : bI b ||| 1 = bI (b || true) := by cases b <;> rfl
theorem bI_or (a b : Bool) : bI a ||| bI b = bI (a || b) := by cases a <;> cases b <;> rfl
set_option maxRecDepth 20000 in
theorem sX3_turnedAcross {lay : List dx_Cell} {d : Nat} (t x y sa su : Int32) (m : dx_M) {Z : Option Value → dx_M → Prop} (h : Z (some (.int (trA t x y sa su))) m) : dx_Sem dx_P lay (d + 1) 80 [.int t, .int x, .int y, .int sa, .int su] m Z := by
  refine dx_sem km_X3_turnedAcross rfl rfl ?_
  refine dx_blk 0 (c' := (0, [.int t, .int x, .int y, .int sa, .int su], [], m)) rfl ?_
  refine dx_blk 1 (c' := (1, [.int t, .int x, .int y, .int sa, .int su], [.int t], m)) rfl ?_
  refine dx_br (q := t = 1) (a := 28) (b := (if t = 2 then 33 else (if t = 3 then 37 else 39))) (L := [.int t, .int x, .int y, .int sa, .int su]) (st := []) (m := m) rfl (fun h100 => ?_) (fun h100 => ?_)
  · refine dx_blk 3 (c' := (32, [.int t, .int x, .int y, .int sa, .int su], [.int (su - y)], m)) rfl ?_
    exact dx_ret (r := some (.int (su - y))) rfl (by simpa [trA, *] using h)
  · refine dx_sp (q := t = 2) (fun h101 => ?_) (fun h101 => ?_)
    · refine dx_blk 3 (c' := (36, [.int t, .int x, .int y, .int sa, .int su], [.int (sa - x)], m)) rfl ?_
      exact dx_ret (r := some (.int (sa - x))) rfl (by simpa [trA, *] using h)
    · refine dx_sp (q := t = 3) (fun h102 => ?_) (fun h102 => ?_)
      · refine dx_blk 1 (c' := (38, [.int t, .int x, .int y, .int sa, .int su], [.int y], m)) rfl ?_
        exact dx_ret (r := some (.int y)) rfl (by simpa [trA, *] using h)
      · refine dx_blk 1 (c' := (40, [.int t, .int x, .int y, .int sa, .int su], [.int x], m)) rfl ?_
        exact dx_ret (r := some (.int x)) rfl (by simpa [trA, *] using h)
set_option maxRecDepth 20000 in
theorem sX3_turnedUp {lay : List dx_Cell} {d : Nat} (t x y sa su : Int32) (m : dx_M) {Z : Option Value → dx_M → Prop} (h : Z (some (.int (trU t x y sa su))) m) : dx_Sem dx_P lay (d + 1) 81 [.int t, .int x, .int y, .int sa, .int su] m Z := by
  refine dx_sem km_X3_turnedUp rfl rfl ?_
  refine dx_blk 0 (c' := (0, [.int t, .int x, .int y, .int sa, .int su], [], m)) rfl ?_
  refine dx_blk 1 (c' := (1, [.int t, .int x, .int y, .int sa, .int su], [.int t], m)) rfl ?_
  refine dx_br (q := t = 1) (a := 28) (b := (if t = 2 then 30 else (if t = 3 then 35 else 39))) (L := [.int t, .int x, .int y, .int sa, .int su]) (st := []) (m := m) rfl (fun h100 => ?_) (fun h100 => ?_)
  · refine dx_blk 1 (c' := (29, [.int t, .int x, .int y, .int sa, .int su], [.int x], m)) rfl ?_
    exact dx_ret (r := some (.int x)) rfl (by simpa [trU, *] using h)
  · refine dx_sp (q := t = 2) (fun h101 => ?_) (fun h101 => ?_)
    · refine dx_blk 3 (c' := (34, [.int t, .int x, .int y, .int sa, .int su], [.int (su - y)], m)) rfl ?_
      exact dx_ret (r := some (.int (su - y))) rfl (by simpa [trU, *] using h)
    · refine dx_sp (q := t = 3) (fun h102 => ?_) (fun h102 => ?_)
      · refine dx_blk 3 (c' := (38, [.int t, .int x, .int y, .int sa, .int su], [.int (sa - x)], m)) rfl ?_
        exact dx_ret (r := some (.int (sa - x))) rfl (by simpa [trU, *] using h)
      · refine dx_blk 1 (c' := (40, [.int t, .int x, .int y, .int sa, .int su], [.int y], m)) rfl ?_
        exact dx_ret (r := some (.int y)) rfl (by simpa [trU, *] using h)
set_option maxRecDepth 20000 in
theorem sJ6_bitCount {lay : List dx_Cell} {d : Nat} (x : Int32) (m : dx_M) {Z : Option Value → dx_M → Prop} (h : Z (some (.int (bcI x))) m) : dx_Sem dx_P lay (d + 1) 143 [.int x] m Z := by
  refine dx_sem km_J6_bitCount_0f7a4 rfl rfl ?_
  refine dx_blk 0 (c' := (0, [.int x], [], m)) rfl ?_
  refine dx_blk 7 (c' := (9, [.int x], [.int (x - (((x.toUInt32 >>> ((1 : Int32).toUInt32 &&& Int32.toUInt32 31)).toInt32) &&& 1431655765))], m)) rfl ?_
  refine dx_nmI (fun i1 e_i1 => ?_)
  refine dx_blk 10 (c' := (23, [.int i1], [.int ((i1 &&& 858993459) + (((i1.toUInt32 >>> ((2 : Int32).toUInt32 &&& Int32.toUInt32 31)).toInt32) &&& 858993459))], m)) rfl ?_
  refine dx_nmI (fun i2 e_i2 => ?_)
  refine dx_blk 8 (c' := (33, [.int i2], [.int ((i2 + ((i2.toUInt32 >>> ((4 : Int32).toUInt32 &&& Int32.toUInt32 31)).toInt32)) &&& 252645135)], m)) rfl ?_
  refine dx_nmI (fun i3 e_i3 => ?_)
  refine dx_blk 6 (c' := (40, [.int i3], [.int (i3 + ((i3.toUInt32 >>> ((8 : Int32).toUInt32 &&& Int32.toUInt32 31)).toInt32))], m)) rfl ?_
  refine dx_nmI (fun i4 e_i4 => ?_)
  refine dx_blk 6 (c' := (47, [.int i4], [.int (i4 + ((i4.toUInt32 >>> ((16 : Int32).toUInt32 &&& Int32.toUInt32 31)).toInt32))], m)) rfl ?_
  refine dx_nmI (fun i5 e_i5 => ?_)
  refine dx_blk 4 (c' := (52, [.int i5], [.int (i5 &&& 63)], m)) rfl ?_
  exact dx_ret (r := some (.int (i5 &&& 63))) rfl (by rw [e_i5, e_i4, e_i3, e_i2, e_i1]; exact h)
set_option maxRecDepth 20000 in
theorem sX1_waysInto {d : Nat} (m : dx_M) (y : Int32) {Z : Option Value → dx_M → Prop} (h : Z (some (.int (wyI (m.1 3 2) y))) m) : dx_Sem dx_P lx_X (d + 1) 12 [.ref 3, .int y] m Z := by
  refine dx_sem km_X1_waysInto rfl rfl ?_
  refine dx_blk 0 (c' := (0, [.ref 3, .int y, .null, .null], [], m)) rfl ?_
  refine dx_blk 17 (c' := (21, [.ref 3, .int y, .int (((1 : Int32) <<< ((m.1 3 2) &&& 31)) - 1), .int (1 ||| ((1 : Int32) <<< (((m.1 3 2) - 1) &&& 31)))], [.int y], m)) rfl ?_
  refine dx_br (q := y = 0) (a := 24) (b := 28) (L := [.ref 3, .int y, .int (((1 : Int32) <<< ((m.1 3 2) &&& 31)) - 1), .int (1 ||| ((1 : Int32) <<< (((m.1 3 2) - 1) &&& 31)))]) (st := []) (m := m) rfl (fun h21 => ?_) (fun h21 => ?_)
  · refine dx_blk 2 (c' := (29, [.ref 3, .int y, .int (((1 : Int32) <<< ((m.1 3 2) &&& 31)) - 1), .int (1 ||| ((1 : Int32) <<< (((m.1 3 2) - 1) &&& 31)))], [.int (((1 : Int32) <<< ((m.1 3 2) &&& 31)) - 1)], m)) rfl ?_
    exact dx_ret (r := some (.int (((1 : Int32) <<< ((m.1 3 2) &&& 31)) - 1))) rfl (by simpa [wyI, *] using h)
  · refine dx_blk 1 (c' := (29, [.ref 3, .int y, .int (((1 : Int32) <<< ((m.1 3 2) &&& 31)) - 1), .int (1 ||| ((1 : Int32) <<< (((m.1 3 2) - 1) &&& 31)))], [.int (1 ||| ((1 : Int32) <<< (((m.1 3 2) - 1) &&& 31)))], m)) rfl ?_
    exact dx_ret (r := some (.int (1 ||| ((1 : Int32) <<< (((m.1 3 2) - 1) &&& 31))))) rfl (by simpa [wyI, *] using h)
set_option maxRecDepth 20000 in
theorem sX1_firm {d : Nat} (m : dx_M) {b : Nat} (hb : b < 12) {Z : Option Value → dx_M → Prop} (h : Z (some (.int (fmI (m.1 3 2) (m.1 5 b)))) m) : dx_Sem dx_P lx_X (d + 1) 14 [.ref 3, .int (nI b)] m Z := by
  refine dx_sem km_X1_firm rfl rfl ?_
  refine dx_blk 0 (c' := (0, [.ref 3, .int (nI b)], [], m)) rfl ?_
  refine dx_blk 9 (c' := (13, [.ref 3, .int (nI b)], [.int (nI b), .ref 5, .int (((1 : Int32) <<< ((m.1 3 2) &&& 31)) - 1)], m)) rfl ?_
  refine dx_aldN b rfl rfl rfl rfl (by omega) ?_
  refine dx_blk 0 (c' := (14, [.ref 3, .int (nI b)], [.int (m.1 5 b), .int (((1 : Int32) <<< ((m.1 3 2) &&& 31)) - 1)], m)) rfl ?_
  refine dx_blk 3 (c' := (17, [.ref 3, .int (nI b)], [.int ((((1 : Int32) <<< ((m.1 3 2) &&& 31)) - 1) &&& ((m.1 5 b) ^^^ (-1)))], m)) rfl ?_
  exact dx_ret (r := some (.int ((((1 : Int32) <<< ((m.1 3 2) &&& 31)) - 1) &&& ((m.1 5 b) ^^^ (-1))))) rfl h
set_option maxRecDepth 20000 in
theorem sX1_halves {d : Nat} (m : dx_M) {w : Nat} (hw : w ≤ 12) (ew : m.1 3 2 = nI w) (p : Int32) {Z : Option Value → dx_M → Prop} (h : Z (some (.int (nf (st_hv p) w 0))) m) : dx_Sem dx_P lx_X (d + 1) 19 [.ref 3, .int p] m Z := by
  refine dx_sem km_X1_halves rfl rfl ?_
  refine dx_blk 0 (c' := (0, [.ref 3, .int p, .null, .null], [], m)) rfl ?_
  refine dx_blk 4 (c' := (4, [.ref 3, .int p, .int 0, .int 0], [], m)) rfl ?_
  refine dx_blk 0 (c' := (4, [.ref 3, .int p, .int 0, .int (nI 0)], [], m)) rfl ?_
  refine dx_for (fun (x : Nat) (s : Int32) => ((4, [.ref 3, .int p, .int s, .int (nI x)], [], m) : dx_F)) (st_hv p) (fun _ _ => True) w 0 trivial (fun x s hi hI hk => ?_) (fun _ _ _ _ => trivial) (fun hN => ?_)
  · refine dx_blk 0 (c' := (4, [.ref 3, .int p, .int s, .int (nI x)], [], m)) rfl ?_
    refine dx_blk 3 (c' := (9, [.ref 3, .int p, .int s, .int (nI x)], [.int (m.1 3 2), .int (nI x)], m)) rfl ?_
    refine dx_br (q := (m.1 3 2) ≤ (nI x)) (a := 32) (b := 12) (L := [.ref 3, .int p, .int s, .int (nI x)]) (st := []) (m := m) rfl (fun h => absurd h (by rw [show m.1 3 2 = nI w from ew]; exact nI_ge hi (by omega))) (fun _ => ?_)
    refine dx_blk 16 (c' := (4, [.ref 3, .int p, .int (s + (((p >>> ((nI x) &&& 31)) &&& 1) * ((2 * (nI x)) + 1))), .int ((nI x) + 1)], [], m)) rfl ?_
    rw [← nI_succ]
    exact hk
  · refine dx_blk 0 (c' := (4, [.ref 3, .int p, .int (nf (st_hv p) w 0), .int (nI w)], [], m)) rfl ?_
    refine dx_blk 3 (c' := (9, [.ref 3, .int p, .int (nf (st_hv p) w 0), .int (nI w)], [.int (m.1 3 2), .int (nI w)], m)) rfl ?_
    refine dx_br (q := (m.1 3 2) ≤ (nI w)) (a := 32) (b := 12) (L := [.ref 3, .int p, .int (nf (st_hv p) w 0), .int (nI w)]) (st := []) (m := m) rfl (fun _ => ?_) (fun h => absurd (by rw [show m.1 3 2 = nI w from ew]; exact nI_le (Nat.le_refl _) (by omega)) h)
    refine dx_blk 1 (c' := (33, [.ref 3, .int p, .int (nf (st_hv p) w 0), .int (nI w)], [.int (nf (st_hv p) w 0)], m)) rfl ?_
    exact dx_ret (r := some (.int (nf (st_hv p) w 0))) rfl h
theorem dx_pI_pI (m : dx_M) (k j : Nat) (u v : Int32) : dx_pI (dx_pI m k j u) k j v = dx_pI m k j v := by
  unfold dx_pI
  rw [dx_pR_pR]
  congr 1
  show upd (if k = k then _ else _) j v = _
  rw [if_pos rfl, fa_upd_twice]
set_option maxRecDepth 20000 in
theorem sX1_countFirm {d : Nat} (m : dx_M) {r : Nat} (hr : r < 12) (er : m.1 3 4 = nI r) {Z : Option Value → dx_M → Prop} (h : Z none (dx_pI (dx_pI m 3 5 (nf (st_fb (m.1 3 2) (m.1 5)) r 0)) 3 6 (bcI (fmI (m.1 3 2) (m.1 5 r))))) : dx_Sem dx_P lx_X (d + 2) 15 [.ref 3] m Z := by
  refine dx_sem km_X1_countFirm rfl rfl ?_
  refine dx_blk 0 (c' := (0, [.ref 3, .null], [], m)) rfl ?_
  refine dx_blk 5 (c' := (7, [.ref 3, .int 0], [], dx_pI m 3 5 0)) rfl ?_
  refine dx_blk 0 (c' := (7, [.ref 3, .int (nI 0)], [], dx_pI m 3 5 0)) rfl ?_
  refine dx_for (fun (y : Nat) (s : Int32) => ((7, [.ref 3, .int (nI y)], [], dx_pI m 3 5 s) : dx_F)) (st_fb (m.1 3 2) (m.1 5)) (fun _ _ => True) r 0 trivial (fun y s hi hI hk => ?_) (fun _ _ _ _ => trivial) (fun hN => ?_)
  · refine dx_blk 0 (c' := (7, [.ref 3, .int (nI y)], [], dx_pI m 3 5 s)) rfl ?_
    refine dx_blk 3 (c' := (12, [.ref 3, .int (nI y)], [.int (m.1 3 4), .int (nI y)], dx_pI m 3 5 s)) rfl ?_
    refine dx_br (q := (m.1 3 4) ≤ (nI y)) (a := 38) (b := 15) (L := [.ref 3, .int (nI y)]) (st := []) (m := dx_pI m 3 5 s) rfl (fun h => absurd h (by rw [show m.1 3 4 = nI r from er]; exact nI_ge hi (by omega))) (fun _ => ?_)
    refine dx_blk 5 (c' := (22, [.ref 3, .int (nI y)], [.int (nI y), .ref 3, .int s, .ref 3], dx_pI m 3 5 s)) rfl ?_
    refine dx_call (id := 14) (as := [.ref 3, .int (nI y)]) (rest := [.int s, .ref 3]) rfl ?_
    refine sX1_firm _ (b := y) (by omega) ?_
    refine dx_blk 0 (c' := (25, [.ref 3, .int (nI y)], [.int (fmI (m.1 3 2) (m.1 5 y)), .int s, .ref 3], dx_pI m 3 5 s)) rfl ?_
    refine dx_call (id := 143) (as := [.int (fmI (m.1 3 2) (m.1 5 y))]) (rest := [.int s, .ref 3]) rfl ?_
    refine sJ6_bitCount (fmI (m.1 3 2) (m.1 5 y)) _ ?_
    refine dx_blk 0 (c' := (28, [.ref 3, .int (nI y)], [.int (bcI (fmI (m.1 3 2) (m.1 5 y))), .int s, .ref 3], dx_pI m 3 5 s)) rfl ?_
    refine dx_blk 4 (c' := (7, [.ref 3, .int ((nI y) + 1)], [], dx_pI (dx_pI m 3 5 s) 3 5 (s + (bcI (fmI (m.1 3 2) (m.1 5 y)))))) rfl ?_
    refine dx_mem (m' := dx_pI m 3 5 (s + bcI (fmI (m.1 3 2) (m.1 5 y)))) (dx_pI_pI _ _ _ _ _) ?_
    rw [← nI_succ]
    exact hk
  · refine dx_blk 0 (c' := (7, [.ref 3, .int (nI r)], [], dx_pI m 3 5 (nf (st_fb (m.1 3 2) (m.1 5)) r 0))) rfl ?_
    refine dx_blk 3 (c' := (12, [.ref 3, .int (nI r)], [.int (m.1 3 4), .int (nI r)], dx_pI m 3 5 (nf (st_fb (m.1 3 2) (m.1 5)) r 0))) rfl ?_
    refine dx_br (q := (m.1 3 4) ≤ (nI r)) (a := 38) (b := 15) (L := [.ref 3, .int (nI r)]) (st := []) (m := dx_pI m 3 5 (nf (st_fb (m.1 3 2) (m.1 5)) r 0)) rfl (fun _ => ?_) (fun h => absurd (by rw [show m.1 3 4 = nI r from er]; exact nI_le (Nat.le_refl _) (by omega)) h)
    refine dx_blk 3 (c' := (43, [.ref 3, .int (nI r)], [.int (m.1 3 4), .ref 3], dx_pI m 3 5 (nf (st_fb (m.1 3 2) (m.1 5)) r 0))) rfl ?_
    refine dx_br (q := 0 ≤ (m.1 3 4)) (a := 50) (b := 46) (L := [.ref 3, .int (nI r)]) (st := [.ref 3]) (m := dx_pI m 3 5 (nf (st_fb (m.1 3 2) (m.1 5)) r 0)) rfl (fun _ => ?_) (fun h => absurd (by rw [show m.1 3 4 = nI r from er]; exact nI_pos' (by omega)) h)
    refine dx_blk 3 (c' := (55, [.ref 3, .int (nI r)], [.int (m.1 3 4), .ref 3, .ref 3], dx_pI m 3 5 (nf (st_fb (m.1 3 2) (m.1 5)) r 0))) rfl ?_
    refine dx_call (id := 14) (as := [.ref 3, .int (m.1 3 4)]) (rest := [.ref 3]) rfl ?_
    rw [show m.1 3 4 = nI r from er]
    refine sX1_firm _ (b := r) (by omega) ?_
    refine dx_blk 0 (c' := (58, [.ref 3, .int (nI r)], [.int (fmI (m.1 3 2) (m.1 5 r)), .ref 3], dx_pI m 3 5 (nf (st_fb (m.1 3 2) (m.1 5)) r 0))) rfl ?_
    refine dx_call (id := 143) (as := [.int (fmI (m.1 3 2) (m.1 5 r))]) (rest := [.ref 3]) rfl ?_
    refine sJ6_bitCount (fmI (m.1 3 2) (m.1 5 r)) _ ?_
    refine dx_blk 0 (c' := (61, [.ref 3, .int (nI r)], [.int (bcI (fmI (m.1 3 2) (m.1 5 r))), .ref 3], dx_pI m 3 5 (nf (st_fb (m.1 3 2) (m.1 5)) r 0))) rfl ?_
    refine dx_blk 1 (c' := (64, [.ref 3, .int (nI r)], [], dx_pI (dx_pI m 3 5 (nf (st_fb (m.1 3 2) (m.1 5)) r 0)) 3 6 (bcI (fmI (m.1 3 2) (m.1 5 r))))) rfl ?_
    exact dx_ret (r := none) rfl h
set_option maxRecDepth 20000 in
/-- one pass of the flood -/
theorem lp_spread {d : Nat} (m : dx_M) {Z : Option Value → dx_M → Prop} {r : Nat} (hr : r < 12) (er : m.1 3 4 = nI r) (f : Nat → Int32) (n : Nat) (hn : n ≤ 144) (hk : dx_Go d (dx_Sem dx_P lx_X d) lx_X km_X1_spread Z (4, [.ref 3, .int (bI (nf (psI (m.1 4) r) (r + 1) (f, false)).2), .int (nI (n + 1)), .null, .null], [], dx_pR m 5 (nf (psI (m.1 4) r) (r + 1) (f, false)).1)) : dx_Go d (dx_Sem dx_P lx_X d) lx_X km_X1_spread Z (4, [.ref 3, .int (bI true), .int (nI n), .null, .null], [], dx_pR m 5 f) := by
  refine dx_blk 0 (c' := (4, [.ref 3, .int (bI true), .int (nI n), .null, .null], [], dx_pR m 5 f)) rfl ?_
  refine dx_blk 1 (c' := (5, [.ref 3, .int (bI true), .int (nI n), .null, .null], [.int (bI true)], dx_pR m 5 f)) rfl ?_
  refine dx_br (q := (bI true) = 0) (a := 149) (b := 8) (L := [.ref 3, .int (bI true), .int (nI n), .null, .null]) (st := []) (m := dx_pR m 5 f) rfl (fun h => absurd h (by decide)) (fun _ => ?_)
  refine dx_blk 2 (c' := (12, [.ref 3, .int (bI true), .int (nI n), .null, .null], [.int 144, .int (nI n)], dx_pR m 5 f)) rfl ?_
  refine dx_br (q := 144 < (nI n)) (a := 149) (b := 15) (L := [.ref 3, .int (bI true), .int (nI n), .null, .null]) (st := []) (m := dx_pR m 5 f) rfl (fun h => absurd h (nI_nlt (a := 144) (b := n) (by omega) (by decide))) (fun _ => ?_)
  refine dx_blk 4 (c' := (19, [.ref 3, .int 0, .int (nI n), .int 0, .null], [], dx_pR m 5 f)) rfl ?_
  refine dx_blk 0 (c' := (19, [.ref 3, .int (bI ((f, false)).2), .int (nI n), .int (nI 0), .null], [], dx_pR m 5 (((f, false)).1))) rfl ?_
  refine dx_for (fun (y : Nat) (s : (Nat → Int32) × Bool) => ((19, [.ref 3, .int (bI (s).2), .int (nI n), .int (nI y), .null], [], dx_pR m 5 ((s).1)) : dx_F)) (psI (m.1 4) r) (fun _ _ => True) (r + 1) (f, false) trivial (fun y s hi hI hk => ?_) (fun _ _ _ _ => trivial) (fun hN => ?_)
  · refine dx_blk 0 (c' := (19, [.ref 3, .int (bI (s).2), .int (nI n), .int (nI y), .null], [], dx_pR m 5 ((s).1))) rfl ?_
    refine dx_blk 3 (c' := (24, [.ref 3, .int (bI (s).2), .int (nI n), .int (nI y), .null], [.int (m.1 3 4), .int (nI y)], dx_pR m 5 ((s).1))) rfl ?_
    refine dx_br (q := (m.1 3 4) < (nI y)) (a := 143) (b := 27) (L := [.ref 3, .int (bI (s).2), .int (nI n), .int (nI y), .null]) (st := []) (m := dx_pR m 5 ((s).1)) rfl (fun h => absurd h (by rw [show m.1 3 4 = nI r from er]; exact nI_nlt (by omega) (by omega))) (fun _ => ?_)
    refine dx_blk 3 (c' := (32, [.ref 3, .int (bI (s).2), .int (nI n), .int (nI y), .null], [.int (nI y), .ref 5], dx_pR m 5 ((s).1))) rfl ?_
    refine dx_aldN y rfl rfl rfl rfl (by omega) ?_
    refine dx_blk 0 (c' := (33, [.ref 3, .int (bI (s).2), .int (nI n), .int (nI y), .null], [.int (((s).1) y)], dx_pR m 5 ((s).1))) rfl ?_
    refine dx_blk 3 (c' := (38, [.ref 3, .int (bI (s).2), .int (nI n), .int (nI y), .null], [.int (nI y), .ref 5, .int (((s).1) y)], dx_pR m 5 ((s).1))) rfl ?_
    refine dx_aldN y rfl rfl rfl rfl (by omega) ?_
    refine dx_blk 0 (c' := (39, [.ref 3, .int (bI (s).2), .int (nI n), .int (nI y), .null], [.int (((s).1) y), .int (((s).1) y)], dx_pR m 5 ((s).1))) rfl ?_
    refine dx_blk 6 (c' := (47, [.ref 3, .int (bI (s).2), .int (nI n), .int (nI y), .null], [.int (nI y), .ref 5, .int ((((s).1) y) ||| ((((s).1) y) <<< ((1 : Int32) &&& 31)))], dx_pR m 5 ((s).1))) rfl ?_
    refine dx_aldN y rfl rfl rfl rfl (by omega) ?_
    refine dx_blk 0 (c' := (48, [.ref 3, .int (bI (s).2), .int (nI n), .int (nI y), .null], [.int (((s).1) y), .int ((((s).1) y) ||| ((((s).1) y) <<< ((1 : Int32) &&& 31)))], dx_pR m 5 ((s).1))) rfl ?_
    refine dx_blk 4 (c' := (53, [.ref 3, .int (bI (s).2), .int (nI n), .int (nI y), .int (((((s).1) y) ||| ((((s).1) y) <<< ((1 : Int32) &&& 31))) ||| ((((s).1) y) >>> ((1 : Int32) &&& 31)))], [], dx_pR m 5 ((s).1))) rfl ?_
    rcases Decidable.em (0 < y) with qy | qy
    · refine dx_blk 0 (c' := (53, [.ref 3, .int (bI (s).2), .int (nI n), .int (nI y), .int (((((s).1) y) ||| ((((s).1) y) <<< ((1 : Int32) &&& 31))) ||| ((((s).1) y) >>> ((1 : Int32) &&& 31)))], [], dx_pR m 5 ((s).1))) rfl ?_
      rcases Decidable.em (y < r) with qr | qr
      · refine dx_blk 0 (c' := (53, [.ref 3, .int (bI (s).2), .int (nI n), .int (nI y), .int (((((s).1) y) ||| ((((s).1) y) <<< ((1 : Int32) &&& 31))) ||| ((((s).1) y) >>> ((1 : Int32) &&& 31)))], [], dx_pR m 5 ((s).1))) rfl ?_
        refine dx_blk 2 (c' := (56, [.ref 3, .int (bI (s).2), .int (nI n), .int (nI y), .int (((((s).1) y) ||| ((((s).1) y) <<< ((1 : Int32) &&& 31))) ||| ((((s).1) y) >>> ((1 : Int32) &&& 31)))], [.int (nI y), .int (((((s).1) y) ||| ((((s).1) y) <<< ((1 : Int32) &&& 31))) ||| ((((s).1) y) >>> ((1 : Int32) &&& 31)))], dx_pR m 5 ((s).1))) rfl ?_
        refine dx_br (q := (nI y) ≤ 0) (a := 70) (b := 59) (L := [.ref 3, .int (bI (s).2), .int (nI n), .int (nI y), .int (((((s).1) y) ||| ((((s).1) y) <<< ((1 : Int32) &&& 31))) ||| ((((s).1) y) >>> ((1 : Int32) &&& 31)))]) (st := [.int (((((s).1) y) ||| ((((s).1) y) <<< ((1 : Int32) &&& 31))) ||| ((((s).1) y) >>> ((1 : Int32) &&& 31)))]) (m := dx_pR m 5 ((s).1)) rfl (fun h => absurd h (nI_nle (by omega) (by omega))) (fun _ => ?_)
        refine dx_blk 5 (c' := (66, [.ref 3, .int (bI (s).2), .int (nI n), .int (nI y), .int (((((s).1) y) ||| ((((s).1) y) <<< ((1 : Int32) &&& 31))) ||| ((((s).1) y) >>> ((1 : Int32) &&& 31)))], [.int ((nI y) - 1), .ref 5, .int (((((s).1) y) ||| ((((s).1) y) <<< ((1 : Int32) &&& 31))) ||| ((((s).1) y) >>> ((1 : Int32) &&& 31)))], dx_pR m 5 ((s).1))) rfl ?_
        refine dx_aldN (y - 1) rfl rfl rfl (show nI y - 1 = nI (y - 1) from pk_sub (a := y) (b := 1) (by omega)) (by omega) ?_
        refine dx_blk 0 (c' := (67, [.ref 3, .int (bI (s).2), .int (nI n), .int (nI y), .int (((((s).1) y) ||| ((((s).1) y) <<< ((1 : Int32) &&& 31))) ||| ((((s).1) y) >>> ((1 : Int32) &&& 31)))], [.int (((s).1) (y - 1)), .int (((((s).1) y) ||| ((((s).1) y) <<< ((1 : Int32) &&& 31))) ||| ((((s).1) y) >>> ((1 : Int32) &&& 31)))], dx_pR m 5 ((s).1))) rfl ?_
        refine dx_blk 7 (c' := (81, [.ref 3, .int (bI (s).2), .int (nI n), .int (nI y), .int ((((((s).1) y) ||| ((((s).1) y) <<< ((1 : Int32) &&& 31))) ||| ((((s).1) y) >>> ((1 : Int32) &&& 31))) ||| (((s).1) (y - 1)))], [.int (m.1 3 4), .int (nI y), .int ((((((s).1) y) ||| ((((s).1) y) <<< ((1 : Int32) &&& 31))) ||| ((((s).1) y) >>> ((1 : Int32) &&& 31))) ||| (((s).1) (y - 1)))], dx_pR m 5 ((s).1))) rfl ?_
        refine dx_br (q := (m.1 3 4) ≤ (nI y)) (a := 95) (b := 84) (L := [.ref 3, .int (bI (s).2), .int (nI n), .int (nI y), .int ((((((s).1) y) ||| ((((s).1) y) <<< ((1 : Int32) &&& 31))) ||| ((((s).1) y) >>> ((1 : Int32) &&& 31))) ||| (((s).1) (y - 1)))]) (st := [.int ((((((s).1) y) ||| ((((s).1) y) <<< ((1 : Int32) &&& 31))) ||| ((((s).1) y) >>> ((1 : Int32) &&& 31))) ||| (((s).1) (y - 1)))]) (m := dx_pR m 5 ((s).1)) rfl (fun h => absurd h (by rw [show m.1 3 4 = nI r from er]; exact nI_ge qr (by omega))) (fun _ => ?_)
        refine dx_blk 5 (c' := (91, [.ref 3, .int (bI (s).2), .int (nI n), .int (nI y), .int ((((((s).1) y) ||| ((((s).1) y) <<< ((1 : Int32) &&& 31))) ||| ((((s).1) y) >>> ((1 : Int32) &&& 31))) ||| (((s).1) (y - 1)))], [.int ((nI y) + 1), .ref 5, .int ((((((s).1) y) ||| ((((s).1) y) <<< ((1 : Int32) &&& 31))) ||| ((((s).1) y) >>> ((1 : Int32) &&& 31))) ||| (((s).1) (y - 1)))], dx_pR m 5 ((s).1))) rfl ?_
        refine dx_aldN (y + 1) rfl rfl rfl (nI_1 y) (by omega) ?_
        refine dx_blk 0 (c' := (92, [.ref 3, .int (bI (s).2), .int (nI n), .int (nI y), .int ((((((s).1) y) ||| ((((s).1) y) <<< ((1 : Int32) &&& 31))) ||| ((((s).1) y) >>> ((1 : Int32) &&& 31))) ||| (((s).1) (y - 1)))], [.int (((s).1) (y + 1)), .int ((((((s).1) y) ||| ((((s).1) y) <<< ((1 : Int32) &&& 31))) ||| ((((s).1) y) >>> ((1 : Int32) &&& 31))) ||| (((s).1) (y - 1)))], dx_pR m 5 ((s).1))) rfl ?_
        refine dx_blk 7 (c' := (106, [.ref 3, .int (bI (s).2), .int (nI n), .int (nI y), .int (((((((s).1) y) ||| ((((s).1) y) <<< ((1 : Int32) &&& 31))) ||| ((((s).1) y) >>> ((1 : Int32) &&& 31))) ||| (((s).1) (y - 1))) ||| (((s).1) (y + 1)))], [.int (nI y), .ref 4, .int (((((((s).1) y) ||| ((((s).1) y) <<< ((1 : Int32) &&& 31))) ||| ((((s).1) y) >>> ((1 : Int32) &&& 31))) ||| (((s).1) (y - 1))) ||| (((s).1) (y + 1)))], dx_pR m 5 ((s).1))) rfl ?_
        refine dx_aldN y rfl rfl rfl rfl (by omega) ?_
        refine dx_blk 0 (c' := (107, [.ref 3, .int (bI (s).2), .int (nI n), .int (nI y), .int (((((((s).1) y) ||| ((((s).1) y) <<< ((1 : Int32) &&& 31))) ||| ((((s).1) y) >>> ((1 : Int32) &&& 31))) ||| (((s).1) (y - 1))) ||| (((s).1) (y + 1)))], [.int (m.1 4 y), .int (((((((s).1) y) ||| ((((s).1) y) <<< ((1 : Int32) &&& 31))) ||| ((((s).1) y) >>> ((1 : Int32) &&& 31))) ||| (((s).1) (y - 1))) ||| (((s).1) (y + 1)))], dx_pR m 5 ((s).1))) rfl ?_
        refine dx_blk 7 (c' := (118, [.ref 3, .int (bI (s).2), .int (nI n), .int (nI y), .int ((((((((s).1) y) ||| ((((s).1) y) <<< ((1 : Int32) &&& 31))) ||| ((((s).1) y) >>> ((1 : Int32) &&& 31))) ||| (((s).1) (y - 1))) ||| (((s).1) (y + 1))) &&& (m.1 4 y))], [.int (nI y), .ref 5, .int ((((((((s).1) y) ||| ((((s).1) y) <<< ((1 : Int32) &&& 31))) ||| ((((s).1) y) >>> ((1 : Int32) &&& 31))) ||| (((s).1) (y - 1))) ||| (((s).1) (y + 1))) &&& (m.1 4 y)), .int (bI (s).2)], dx_pR m 5 ((s).1))) rfl ?_
        refine dx_aldN y rfl rfl rfl rfl (by omega) ?_
        refine dx_blk 0 (c' := (119, [.ref 3, .int (bI (s).2), .int (nI n), .int (nI y), .int ((((((((s).1) y) ||| ((((s).1) y) <<< ((1 : Int32) &&& 31))) ||| ((((s).1) y) >>> ((1 : Int32) &&& 31))) ||| (((s).1) (y - 1))) ||| (((s).1) (y + 1))) &&& (m.1 4 y))], [.int (((s).1) y), .int ((((((((s).1) y) ||| ((((s).1) y) <<< ((1 : Int32) &&& 31))) ||| ((((s).1) y) >>> ((1 : Int32) &&& 31))) ||| (((s).1) (y - 1))) ||| (((s).1) (y + 1))) &&& (m.1 4 y)), .int (bI (s).2)], dx_pR m 5 ((s).1))) rfl ?_
        refine dx_br (q := ((((((((s).1) y) ||| ((((s).1) y) <<< ((1 : Int32) &&& 31))) ||| ((((s).1) y) >>> ((1 : Int32) &&& 31))) ||| (((s).1) (y - 1))) ||| (((s).1) (y + 1))) &&& (m.1 4 y)) = (((s).1) y)) (a := 126) (b := 122) (L := [.ref 3, .int (bI (s).2), .int (nI n), .int (nI y), .int ((((((((s).1) y) ||| ((((s).1) y) <<< ((1 : Int32) &&& 31))) ||| ((((s).1) y) >>> ((1 : Int32) &&& 31))) ||| (((s).1) (y - 1))) ||| (((s).1) (y + 1))) &&& (m.1 4 y))]) (st := [.int (bI (s).2)]) (m := dx_pR m 5 ((s).1)) rfl (fun q119 => ?_) (fun q119 => ?_)
        · refine dx_blk 7 (c' := (136, [.ref 3, .int ((bI (s).2) ||| 0), .int (nI n), .int (nI y), .int ((((((((s).1) y) ||| ((((s).1) y) <<< ((1 : Int32) &&& 31))) ||| ((((s).1) y) >>> ((1 : Int32) &&& 31))) ||| (((s).1) (y - 1))) ||| (((s).1) (y + 1))) &&& (m.1 4 y))], [.int ((((((((s).1) y) ||| ((((s).1) y) <<< ((1 : Int32) &&& 31))) ||| ((((s).1) y) >>> ((1 : Int32) &&& 31))) ||| (((s).1) (y - 1))) ||| (((s).1) (y + 1))) &&& (m.1 4 y)), .int (nI y), .ref 5], dx_pR m 5 ((s).1))) rfl ?_
          refine dx_astN y rfl rfl rfl rfl (by omega) ?_
          refine dx_blk 0 (c' := (137, [.ref 3, .int ((bI (s).2) ||| 0), .int (nI n), .int (nI y), .int ((((((((s).1) y) ||| ((((s).1) y) <<< ((1 : Int32) &&& 31))) ||| ((((s).1) y) >>> ((1 : Int32) &&& 31))) ||| (((s).1) (y - 1))) ||| (((s).1) (y + 1))) &&& (m.1 4 y))], [], dx_pI (dx_pR m 5 ((s).1)) 5 y ((((((((s).1) y) ||| ((((s).1) y) <<< ((1 : Int32) &&& 31))) ||| ((((s).1) y) >>> ((1 : Int32) &&& 31))) ||| (((s).1) (y - 1))) ||| (((s).1) (y + 1))) &&& (m.1 4 y)))) rfl ?_
          refine dx_blk 2 (c' := (19, [.ref 3, .int ((bI (s).2) ||| 0), .int (nI n), .int ((nI y) + 1), .int ((((((((s).1) y) ||| ((((s).1) y) <<< ((1 : Int32) &&& 31))) ||| ((((s).1) y) >>> ((1 : Int32) &&& 31))) ||| (((s).1) (y - 1))) ||| (((s).1) (y + 1))) &&& (m.1 4 y))], [], dx_pI (dx_pR m 5 ((s).1)) 5 y ((((((((s).1) y) ||| ((((s).1) y) <<< ((1 : Int32) &&& 31))) ||| ((((s).1) y) >>> ((1 : Int32) &&& 31))) ||| (((s).1) (y - 1))) ||| (((s).1) (y + 1))) &&& (m.1 4 y)))) rfl ?_
          refine dx_fgt [.ref 3, .int ((bI (s).2) ||| 0), .int (nI n), .int ((nI y) + 1), .null] (And.intro (Or.inr rfl) (And.intro (Or.inr rfl) (And.intro (Or.inr rfl) (And.intro (Or.inr rfl) (And.intro (Or.inl rfl) trivial))))) ?_
          have e1 : rwI (m.1 4) s.1 r y = (((((((s).1) y) ||| ((((s).1) y) <<< ((1 : Int32) &&& 31))) ||| ((((s).1) y) >>> ((1 : Int32) &&& 31))) ||| (((s).1) (y - 1))) ||| (((s).1) (y + 1))) &&& (m.1 4 y) := by
            unfold rwI
            first | rw [if_pos qy, if_pos qr] | rw [if_pos qy, if_neg qr] | rw [if_neg qy, if_pos qr] | rw [if_neg qy, if_neg qr]
          rw [dx_pI_pR, ← nI_succ]
          unfold psI at hk
          rw [e1] at hk
          first | (have e2 : decide (¬ ((((((((s).1) y) ||| ((((s).1) y) <<< ((1 : Int32) &&& 31))) ||| ((((s).1) y) >>> ((1 : Int32) &&& 31))) ||| (((s).1) (y - 1))) ||| (((s).1) (y + 1))) &&& (m.1 4 y)) = s.1 y) = false := decide_eq_false (fun q => q q119); rw [e2] at hk; rw [bI_o0]; exact hk) | (have e2 : decide (¬ ((((((((s).1) y) ||| ((((s).1) y) <<< ((1 : Int32) &&& 31))) ||| ((((s).1) y) >>> ((1 : Int32) &&& 31))) ||| (((s).1) (y - 1))) ||| (((s).1) (y + 1))) &&& (m.1 4 y)) = s.1 y) = true := decide_eq_true q119; rw [e2] at hk; rw [bI_o1]; exact hk)
        · refine dx_blk 8 (c' := (136, [.ref 3, .int ((bI (s).2) ||| 1), .int (nI n), .int (nI y), .int ((((((((s).1) y) ||| ((((s).1) y) <<< ((1 : Int32) &&& 31))) ||| ((((s).1) y) >>> ((1 : Int32) &&& 31))) ||| (((s).1) (y - 1))) ||| (((s).1) (y + 1))) &&& (m.1 4 y))], [.int ((((((((s).1) y) ||| ((((s).1) y) <<< ((1 : Int32) &&& 31))) ||| ((((s).1) y) >>> ((1 : Int32) &&& 31))) ||| (((s).1) (y - 1))) ||| (((s).1) (y + 1))) &&& (m.1 4 y)), .int (nI y), .ref 5], dx_pR m 5 ((s).1))) rfl ?_
          refine dx_astN y rfl rfl rfl rfl (by omega) ?_
          refine dx_blk 0 (c' := (137, [.ref 3, .int ((bI (s).2) ||| 1), .int (nI n), .int (nI y), .int ((((((((s).1) y) ||| ((((s).1) y) <<< ((1 : Int32) &&& 31))) ||| ((((s).1) y) >>> ((1 : Int32) &&& 31))) ||| (((s).1) (y - 1))) ||| (((s).1) (y + 1))) &&& (m.1 4 y))], [], dx_pI (dx_pR m 5 ((s).1)) 5 y ((((((((s).1) y) ||| ((((s).1) y) <<< ((1 : Int32) &&& 31))) ||| ((((s).1) y) >>> ((1 : Int32) &&& 31))) ||| (((s).1) (y - 1))) ||| (((s).1) (y + 1))) &&& (m.1 4 y)))) rfl ?_
          refine dx_blk 2 (c' := (19, [.ref 3, .int ((bI (s).2) ||| 1), .int (nI n), .int ((nI y) + 1), .int ((((((((s).1) y) ||| ((((s).1) y) <<< ((1 : Int32) &&& 31))) ||| ((((s).1) y) >>> ((1 : Int32) &&& 31))) ||| (((s).1) (y - 1))) ||| (((s).1) (y + 1))) &&& (m.1 4 y))], [], dx_pI (dx_pR m 5 ((s).1)) 5 y ((((((((s).1) y) ||| ((((s).1) y) <<< ((1 : Int32) &&& 31))) ||| ((((s).1) y) >>> ((1 : Int32) &&& 31))) ||| (((s).1) (y - 1))) ||| (((s).1) (y + 1))) &&& (m.1 4 y)))) rfl ?_
          refine dx_fgt [.ref 3, .int ((bI (s).2) ||| 1), .int (nI n), .int ((nI y) + 1), .null] (And.intro (Or.inr rfl) (And.intro (Or.inr rfl) (And.intro (Or.inr rfl) (And.intro (Or.inr rfl) (And.intro (Or.inl rfl) trivial))))) ?_
          have e1 : rwI (m.1 4) s.1 r y = (((((((s).1) y) ||| ((((s).1) y) <<< ((1 : Int32) &&& 31))) ||| ((((s).1) y) >>> ((1 : Int32) &&& 31))) ||| (((s).1) (y - 1))) ||| (((s).1) (y + 1))) &&& (m.1 4 y) := by
            unfold rwI
            first | rw [if_pos qy, if_pos qr] | rw [if_pos qy, if_neg qr] | rw [if_neg qy, if_pos qr] | rw [if_neg qy, if_neg qr]
          rw [dx_pI_pR, ← nI_succ]
          unfold psI at hk
          rw [e1] at hk
          first | (have e2 : decide (¬ ((((((((s).1) y) ||| ((((s).1) y) <<< ((1 : Int32) &&& 31))) ||| ((((s).1) y) >>> ((1 : Int32) &&& 31))) ||| (((s).1) (y - 1))) ||| (((s).1) (y + 1))) &&& (m.1 4 y)) = s.1 y) = false := decide_eq_false (fun q => q q119); rw [e2] at hk; rw [bI_o0]; exact hk) | (have e2 : decide (¬ ((((((((s).1) y) ||| ((((s).1) y) <<< ((1 : Int32) &&& 31))) ||| ((((s).1) y) >>> ((1 : Int32) &&& 31))) ||| (((s).1) (y - 1))) ||| (((s).1) (y + 1))) &&& (m.1 4 y)) = s.1 y) = true := decide_eq_true q119; rw [e2] at hk; rw [bI_o1]; exact hk)
      · refine dx_blk 0 (c' := (53, [.ref 3, .int (bI (s).2), .int (nI n), .int (nI y), .int (((((s).1) y) ||| ((((s).1) y) <<< ((1 : Int32) &&& 31))) ||| ((((s).1) y) >>> ((1 : Int32) &&& 31)))], [], dx_pR m 5 ((s).1))) rfl ?_
        refine dx_blk 2 (c' := (56, [.ref 3, .int (bI (s).2), .int (nI n), .int (nI y), .int (((((s).1) y) ||| ((((s).1) y) <<< ((1 : Int32) &&& 31))) ||| ((((s).1) y) >>> ((1 : Int32) &&& 31)))], [.int (nI y), .int (((((s).1) y) ||| ((((s).1) y) <<< ((1 : Int32) &&& 31))) ||| ((((s).1) y) >>> ((1 : Int32) &&& 31)))], dx_pR m 5 ((s).1))) rfl ?_
        refine dx_br (q := (nI y) ≤ 0) (a := 70) (b := 59) (L := [.ref 3, .int (bI (s).2), .int (nI n), .int (nI y), .int (((((s).1) y) ||| ((((s).1) y) <<< ((1 : Int32) &&& 31))) ||| ((((s).1) y) >>> ((1 : Int32) &&& 31)))]) (st := [.int (((((s).1) y) ||| ((((s).1) y) <<< ((1 : Int32) &&& 31))) ||| ((((s).1) y) >>> ((1 : Int32) &&& 31)))]) (m := dx_pR m 5 ((s).1)) rfl (fun h => absurd h (nI_nle (by omega) (by omega))) (fun _ => ?_)
        refine dx_blk 5 (c' := (66, [.ref 3, .int (bI (s).2), .int (nI n), .int (nI y), .int (((((s).1) y) ||| ((((s).1) y) <<< ((1 : Int32) &&& 31))) ||| ((((s).1) y) >>> ((1 : Int32) &&& 31)))], [.int ((nI y) - 1), .ref 5, .int (((((s).1) y) ||| ((((s).1) y) <<< ((1 : Int32) &&& 31))) ||| ((((s).1) y) >>> ((1 : Int32) &&& 31)))], dx_pR m 5 ((s).1))) rfl ?_
        refine dx_aldN (y - 1) rfl rfl rfl (show nI y - 1 = nI (y - 1) from pk_sub (a := y) (b := 1) (by omega)) (by omega) ?_
        refine dx_blk 0 (c' := (67, [.ref 3, .int (bI (s).2), .int (nI n), .int (nI y), .int (((((s).1) y) ||| ((((s).1) y) <<< ((1 : Int32) &&& 31))) ||| ((((s).1) y) >>> ((1 : Int32) &&& 31)))], [.int (((s).1) (y - 1)), .int (((((s).1) y) ||| ((((s).1) y) <<< ((1 : Int32) &&& 31))) ||| ((((s).1) y) >>> ((1 : Int32) &&& 31)))], dx_pR m 5 ((s).1))) rfl ?_
        refine dx_blk 7 (c' := (81, [.ref 3, .int (bI (s).2), .int (nI n), .int (nI y), .int ((((((s).1) y) ||| ((((s).1) y) <<< ((1 : Int32) &&& 31))) ||| ((((s).1) y) >>> ((1 : Int32) &&& 31))) ||| (((s).1) (y - 1)))], [.int (m.1 3 4), .int (nI y), .int ((((((s).1) y) ||| ((((s).1) y) <<< ((1 : Int32) &&& 31))) ||| ((((s).1) y) >>> ((1 : Int32) &&& 31))) ||| (((s).1) (y - 1)))], dx_pR m 5 ((s).1))) rfl ?_
        refine dx_br (q := (m.1 3 4) ≤ (nI y)) (a := 95) (b := 84) (L := [.ref 3, .int (bI (s).2), .int (nI n), .int (nI y), .int ((((((s).1) y) ||| ((((s).1) y) <<< ((1 : Int32) &&& 31))) ||| ((((s).1) y) >>> ((1 : Int32) &&& 31))) ||| (((s).1) (y - 1)))]) (st := [.int ((((((s).1) y) ||| ((((s).1) y) <<< ((1 : Int32) &&& 31))) ||| ((((s).1) y) >>> ((1 : Int32) &&& 31))) ||| (((s).1) (y - 1)))]) (m := dx_pR m 5 ((s).1)) rfl (fun _ => ?_) (fun h => absurd (by rw [show m.1 3 4 = nI r from er]; exact nI_le (by omega) (by omega)) h)
        refine dx_blk 7 (c' := (106, [.ref 3, .int (bI (s).2), .int (nI n), .int (nI y), .int (((((((s).1) y) ||| ((((s).1) y) <<< ((1 : Int32) &&& 31))) ||| ((((s).1) y) >>> ((1 : Int32) &&& 31))) ||| (((s).1) (y - 1))) ||| 0)], [.int (nI y), .ref 4, .int (((((((s).1) y) ||| ((((s).1) y) <<< ((1 : Int32) &&& 31))) ||| ((((s).1) y) >>> ((1 : Int32) &&& 31))) ||| (((s).1) (y - 1))) ||| 0)], dx_pR m 5 ((s).1))) rfl ?_
        refine dx_aldN y rfl rfl rfl rfl (by omega) ?_
        refine dx_blk 0 (c' := (107, [.ref 3, .int (bI (s).2), .int (nI n), .int (nI y), .int (((((((s).1) y) ||| ((((s).1) y) <<< ((1 : Int32) &&& 31))) ||| ((((s).1) y) >>> ((1 : Int32) &&& 31))) ||| (((s).1) (y - 1))) ||| 0)], [.int (m.1 4 y), .int (((((((s).1) y) ||| ((((s).1) y) <<< ((1 : Int32) &&& 31))) ||| ((((s).1) y) >>> ((1 : Int32) &&& 31))) ||| (((s).1) (y - 1))) ||| 0)], dx_pR m 5 ((s).1))) rfl ?_
        refine dx_blk 7 (c' := (118, [.ref 3, .int (bI (s).2), .int (nI n), .int (nI y), .int ((((((((s).1) y) ||| ((((s).1) y) <<< ((1 : Int32) &&& 31))) ||| ((((s).1) y) >>> ((1 : Int32) &&& 31))) ||| (((s).1) (y - 1))) ||| 0) &&& (m.1 4 y))], [.int (nI y), .ref 5, .int ((((((((s).1) y) ||| ((((s).1) y) <<< ((1 : Int32) &&& 31))) ||| ((((s).1) y) >>> ((1 : Int32) &&& 31))) ||| (((s).1) (y - 1))) ||| 0) &&& (m.1 4 y)), .int (bI (s).2)], dx_pR m 5 ((s).1))) rfl ?_
        refine dx_aldN y rfl rfl rfl rfl (by omega) ?_
        refine dx_blk 0 (c' := (119, [.ref 3, .int (bI (s).2), .int (nI n), .int (nI y), .int ((((((((s).1) y) ||| ((((s).1) y) <<< ((1 : Int32) &&& 31))) ||| ((((s).1) y) >>> ((1 : Int32) &&& 31))) ||| (((s).1) (y - 1))) ||| 0) &&& (m.1 4 y))], [.int (((s).1) y), .int ((((((((s).1) y) ||| ((((s).1) y) <<< ((1 : Int32) &&& 31))) ||| ((((s).1) y) >>> ((1 : Int32) &&& 31))) ||| (((s).1) (y - 1))) ||| 0) &&& (m.1 4 y)), .int (bI (s).2)], dx_pR m 5 ((s).1))) rfl ?_
        refine dx_br (q := ((((((((s).1) y) ||| ((((s).1) y) <<< ((1 : Int32) &&& 31))) ||| ((((s).1) y) >>> ((1 : Int32) &&& 31))) ||| (((s).1) (y - 1))) ||| 0) &&& (m.1 4 y)) = (((s).1) y)) (a := 126) (b := 122) (L := [.ref 3, .int (bI (s).2), .int (nI n), .int (nI y), .int ((((((((s).1) y) ||| ((((s).1) y) <<< ((1 : Int32) &&& 31))) ||| ((((s).1) y) >>> ((1 : Int32) &&& 31))) ||| (((s).1) (y - 1))) ||| 0) &&& (m.1 4 y))]) (st := [.int (bI (s).2)]) (m := dx_pR m 5 ((s).1)) rfl (fun q119 => ?_) (fun q119 => ?_)
        · refine dx_blk 7 (c' := (136, [.ref 3, .int ((bI (s).2) ||| 0), .int (nI n), .int (nI y), .int ((((((((s).1) y) ||| ((((s).1) y) <<< ((1 : Int32) &&& 31))) ||| ((((s).1) y) >>> ((1 : Int32) &&& 31))) ||| (((s).1) (y - 1))) ||| 0) &&& (m.1 4 y))], [.int ((((((((s).1) y) ||| ((((s).1) y) <<< ((1 : Int32) &&& 31))) ||| ((((s).1) y) >>> ((1 : Int32) &&& 31))) ||| (((s).1) (y - 1))) ||| 0) &&& (m.1 4 y)), .int (nI y), .ref 5], dx_pR m 5 ((s).1))) rfl ?_
          refine dx_astN y rfl rfl rfl rfl (by omega) ?_
          refine dx_blk 0 (c' := (137, [.ref 3, .int ((bI (s).2) ||| 0), .int (nI n), .int (nI y), .int ((((((((s).1) y) ||| ((((s).1) y) <<< ((1 : Int32) &&& 31))) ||| ((((s).1) y) >>> ((1 : Int32) &&& 31))) ||| (((s).1) (y - 1))) ||| 0) &&& (m.1 4 y))], [], dx_pI (dx_pR m 5 ((s).1)) 5 y ((((((((s).1) y) ||| ((((s).1) y) <<< ((1 : Int32) &&& 31))) ||| ((((s).1) y) >>> ((1 : Int32) &&& 31))) ||| (((s).1) (y - 1))) ||| 0) &&& (m.1 4 y)))) rfl ?_
          refine dx_blk 2 (c' := (19, [.ref 3, .int ((bI (s).2) ||| 0), .int (nI n), .int ((nI y) + 1), .int ((((((((s).1) y) ||| ((((s).1) y) <<< ((1 : Int32) &&& 31))) ||| ((((s).1) y) >>> ((1 : Int32) &&& 31))) ||| (((s).1) (y - 1))) ||| 0) &&& (m.1 4 y))], [], dx_pI (dx_pR m 5 ((s).1)) 5 y ((((((((s).1) y) ||| ((((s).1) y) <<< ((1 : Int32) &&& 31))) ||| ((((s).1) y) >>> ((1 : Int32) &&& 31))) ||| (((s).1) (y - 1))) ||| 0) &&& (m.1 4 y)))) rfl ?_
          refine dx_fgt [.ref 3, .int ((bI (s).2) ||| 0), .int (nI n), .int ((nI y) + 1), .null] (And.intro (Or.inr rfl) (And.intro (Or.inr rfl) (And.intro (Or.inr rfl) (And.intro (Or.inr rfl) (And.intro (Or.inl rfl) trivial))))) ?_
          have e1 : rwI (m.1 4) s.1 r y = (((((((s).1) y) ||| ((((s).1) y) <<< ((1 : Int32) &&& 31))) ||| ((((s).1) y) >>> ((1 : Int32) &&& 31))) ||| (((s).1) (y - 1))) ||| 0) &&& (m.1 4 y) := by
            unfold rwI
            first | rw [if_pos qy, if_pos qr] | rw [if_pos qy, if_neg qr] | rw [if_neg qy, if_pos qr] | rw [if_neg qy, if_neg qr]
          rw [dx_pI_pR, ← nI_succ]
          unfold psI at hk
          rw [e1] at hk
          first | (have e2 : decide (¬ ((((((((s).1) y) ||| ((((s).1) y) <<< ((1 : Int32) &&& 31))) ||| ((((s).1) y) >>> ((1 : Int32) &&& 31))) ||| (((s).1) (y - 1))) ||| 0) &&& (m.1 4 y)) = s.1 y) = false := decide_eq_false (fun q => q q119); rw [e2] at hk; rw [bI_o0]; exact hk) | (have e2 : decide (¬ ((((((((s).1) y) ||| ((((s).1) y) <<< ((1 : Int32) &&& 31))) ||| ((((s).1) y) >>> ((1 : Int32) &&& 31))) ||| (((s).1) (y - 1))) ||| 0) &&& (m.1 4 y)) = s.1 y) = true := decide_eq_true q119; rw [e2] at hk; rw [bI_o1]; exact hk)
        · refine dx_blk 8 (c' := (136, [.ref 3, .int ((bI (s).2) ||| 1), .int (nI n), .int (nI y), .int ((((((((s).1) y) ||| ((((s).1) y) <<< ((1 : Int32) &&& 31))) ||| ((((s).1) y) >>> ((1 : Int32) &&& 31))) ||| (((s).1) (y - 1))) ||| 0) &&& (m.1 4 y))], [.int ((((((((s).1) y) ||| ((((s).1) y) <<< ((1 : Int32) &&& 31))) ||| ((((s).1) y) >>> ((1 : Int32) &&& 31))) ||| (((s).1) (y - 1))) ||| 0) &&& (m.1 4 y)), .int (nI y), .ref 5], dx_pR m 5 ((s).1))) rfl ?_
          refine dx_astN y rfl rfl rfl rfl (by omega) ?_
          refine dx_blk 0 (c' := (137, [.ref 3, .int ((bI (s).2) ||| 1), .int (nI n), .int (nI y), .int ((((((((s).1) y) ||| ((((s).1) y) <<< ((1 : Int32) &&& 31))) ||| ((((s).1) y) >>> ((1 : Int32) &&& 31))) ||| (((s).1) (y - 1))) ||| 0) &&& (m.1 4 y))], [], dx_pI (dx_pR m 5 ((s).1)) 5 y ((((((((s).1) y) ||| ((((s).1) y) <<< ((1 : Int32) &&& 31))) ||| ((((s).1) y) >>> ((1 : Int32) &&& 31))) ||| (((s).1) (y - 1))) ||| 0) &&& (m.1 4 y)))) rfl ?_
          refine dx_blk 2 (c' := (19, [.ref 3, .int ((bI (s).2) ||| 1), .int (nI n), .int ((nI y) + 1), .int ((((((((s).1) y) ||| ((((s).1) y) <<< ((1 : Int32) &&& 31))) ||| ((((s).1) y) >>> ((1 : Int32) &&& 31))) ||| (((s).1) (y - 1))) ||| 0) &&& (m.1 4 y))], [], dx_pI (dx_pR m 5 ((s).1)) 5 y ((((((((s).1) y) ||| ((((s).1) y) <<< ((1 : Int32) &&& 31))) ||| ((((s).1) y) >>> ((1 : Int32) &&& 31))) ||| (((s).1) (y - 1))) ||| 0) &&& (m.1 4 y)))) rfl ?_
          refine dx_fgt [.ref 3, .int ((bI (s).2) ||| 1), .int (nI n), .int ((nI y) + 1), .null] (And.intro (Or.inr rfl) (And.intro (Or.inr rfl) (And.intro (Or.inr rfl) (And.intro (Or.inr rfl) (And.intro (Or.inl rfl) trivial))))) ?_
          have e1 : rwI (m.1 4) s.1 r y = (((((((s).1) y) ||| ((((s).1) y) <<< ((1 : Int32) &&& 31))) ||| ((((s).1) y) >>> ((1 : Int32) &&& 31))) ||| (((s).1) (y - 1))) ||| 0) &&& (m.1 4 y) := by
            unfold rwI
            first | rw [if_pos qy, if_pos qr] | rw [if_pos qy, if_neg qr] | rw [if_neg qy, if_pos qr] | rw [if_neg qy, if_neg qr]
          rw [dx_pI_pR, ← nI_succ]
          unfold psI at hk
          rw [e1] at hk
          first | (have e2 : decide (¬ ((((((((s).1) y) ||| ((((s).1) y) <<< ((1 : Int32) &&& 31))) ||| ((((s).1) y) >>> ((1 : Int32) &&& 31))) ||| (((s).1) (y - 1))) ||| 0) &&& (m.1 4 y)) = s.1 y) = false := decide_eq_false (fun q => q q119); rw [e2] at hk; rw [bI_o0]; exact hk) | (have e2 : decide (¬ ((((((((s).1) y) ||| ((((s).1) y) <<< ((1 : Int32) &&& 31))) ||| ((((s).1) y) >>> ((1 : Int32) &&& 31))) ||| (((s).1) (y - 1))) ||| 0) &&& (m.1 4 y)) = s.1 y) = true := decide_eq_true q119; rw [e2] at hk; rw [bI_o1]; exact hk)
    · refine dx_blk 0 (c' := (53, [.ref 3, .int (bI (s).2), .int (nI n), .int (nI y), .int (((((s).1) y) ||| ((((s).1) y) <<< ((1 : Int32) &&& 31))) ||| ((((s).1) y) >>> ((1 : Int32) &&& 31)))], [], dx_pR m 5 ((s).1))) rfl ?_
      rcases Decidable.em (y < r) with qr | qr
      · refine dx_blk 0 (c' := (53, [.ref 3, .int (bI (s).2), .int (nI n), .int (nI y), .int (((((s).1) y) ||| ((((s).1) y) <<< ((1 : Int32) &&& 31))) ||| ((((s).1) y) >>> ((1 : Int32) &&& 31)))], [], dx_pR m 5 ((s).1))) rfl ?_
        refine dx_blk 2 (c' := (56, [.ref 3, .int (bI (s).2), .int (nI n), .int (nI y), .int (((((s).1) y) ||| ((((s).1) y) <<< ((1 : Int32) &&& 31))) ||| ((((s).1) y) >>> ((1 : Int32) &&& 31)))], [.int (nI y), .int (((((s).1) y) ||| ((((s).1) y) <<< ((1 : Int32) &&& 31))) ||| ((((s).1) y) >>> ((1 : Int32) &&& 31)))], dx_pR m 5 ((s).1))) rfl ?_
        refine dx_br (q := (nI y) ≤ 0) (a := 70) (b := 59) (L := [.ref 3, .int (bI (s).2), .int (nI n), .int (nI y), .int (((((s).1) y) ||| ((((s).1) y) <<< ((1 : Int32) &&& 31))) ||| ((((s).1) y) >>> ((1 : Int32) &&& 31)))]) (st := [.int (((((s).1) y) ||| ((((s).1) y) <<< ((1 : Int32) &&& 31))) ||| ((((s).1) y) >>> ((1 : Int32) &&& 31)))]) (m := dx_pR m 5 ((s).1)) rfl (fun _ => ?_) (fun h => absurd (by rw [show y = 0 by omega]; decide) h)
        refine dx_blk 7 (c' := (81, [.ref 3, .int (bI (s).2), .int (nI n), .int (nI y), .int ((((((s).1) y) ||| ((((s).1) y) <<< ((1 : Int32) &&& 31))) ||| ((((s).1) y) >>> ((1 : Int32) &&& 31))) ||| 0)], [.int (m.1 3 4), .int (nI y), .int ((((((s).1) y) ||| ((((s).1) y) <<< ((1 : Int32) &&& 31))) ||| ((((s).1) y) >>> ((1 : Int32) &&& 31))) ||| 0)], dx_pR m 5 ((s).1))) rfl ?_
        refine dx_br (q := (m.1 3 4) ≤ (nI y)) (a := 95) (b := 84) (L := [.ref 3, .int (bI (s).2), .int (nI n), .int (nI y), .int ((((((s).1) y) ||| ((((s).1) y) <<< ((1 : Int32) &&& 31))) ||| ((((s).1) y) >>> ((1 : Int32) &&& 31))) ||| 0)]) (st := [.int ((((((s).1) y) ||| ((((s).1) y) <<< ((1 : Int32) &&& 31))) ||| ((((s).1) y) >>> ((1 : Int32) &&& 31))) ||| 0)]) (m := dx_pR m 5 ((s).1)) rfl (fun h => absurd h (by rw [show m.1 3 4 = nI r from er]; exact nI_ge qr (by omega))) (fun _ => ?_)
        refine dx_blk 5 (c' := (91, [.ref 3, .int (bI (s).2), .int (nI n), .int (nI y), .int ((((((s).1) y) ||| ((((s).1) y) <<< ((1 : Int32) &&& 31))) ||| ((((s).1) y) >>> ((1 : Int32) &&& 31))) ||| 0)], [.int ((nI y) + 1), .ref 5, .int ((((((s).1) y) ||| ((((s).1) y) <<< ((1 : Int32) &&& 31))) ||| ((((s).1) y) >>> ((1 : Int32) &&& 31))) ||| 0)], dx_pR m 5 ((s).1))) rfl ?_
        refine dx_aldN (y + 1) rfl rfl rfl (nI_1 y) (by omega) ?_
        refine dx_blk 0 (c' := (92, [.ref 3, .int (bI (s).2), .int (nI n), .int (nI y), .int ((((((s).1) y) ||| ((((s).1) y) <<< ((1 : Int32) &&& 31))) ||| ((((s).1) y) >>> ((1 : Int32) &&& 31))) ||| 0)], [.int (((s).1) (y + 1)), .int ((((((s).1) y) ||| ((((s).1) y) <<< ((1 : Int32) &&& 31))) ||| ((((s).1) y) >>> ((1 : Int32) &&& 31))) ||| 0)], dx_pR m 5 ((s).1))) rfl ?_
        refine dx_blk 7 (c' := (106, [.ref 3, .int (bI (s).2), .int (nI n), .int (nI y), .int (((((((s).1) y) ||| ((((s).1) y) <<< ((1 : Int32) &&& 31))) ||| ((((s).1) y) >>> ((1 : Int32) &&& 31))) ||| 0) ||| (((s).1) (y + 1)))], [.int (nI y), .ref 4, .int (((((((s).1) y) ||| ((((s).1) y) <<< ((1 : Int32) &&& 31))) ||| ((((s).1) y) >>> ((1 : Int32) &&& 31))) ||| 0) ||| (((s).1) (y + 1)))], dx_pR m 5 ((s).1))) rfl ?_
        refine dx_aldN y rfl rfl rfl rfl (by omega) ?_
        refine dx_blk 0 (c' := (107, [.ref 3, .int (bI (s).2), .int (nI n), .int (nI y), .int (((((((s).1) y) ||| ((((s).1) y) <<< ((1 : Int32) &&& 31))) ||| ((((s).1) y) >>> ((1 : Int32) &&& 31))) ||| 0) ||| (((s).1) (y + 1)))], [.int (m.1 4 y), .int (((((((s).1) y) ||| ((((s).1) y) <<< ((1 : Int32) &&& 31))) ||| ((((s).1) y) >>> ((1 : Int32) &&& 31))) ||| 0) ||| (((s).1) (y + 1)))], dx_pR m 5 ((s).1))) rfl ?_
        refine dx_blk 7 (c' := (118, [.ref 3, .int (bI (s).2), .int (nI n), .int (nI y), .int ((((((((s).1) y) ||| ((((s).1) y) <<< ((1 : Int32) &&& 31))) ||| ((((s).1) y) >>> ((1 : Int32) &&& 31))) ||| 0) ||| (((s).1) (y + 1))) &&& (m.1 4 y))], [.int (nI y), .ref 5, .int ((((((((s).1) y) ||| ((((s).1) y) <<< ((1 : Int32) &&& 31))) ||| ((((s).1) y) >>> ((1 : Int32) &&& 31))) ||| 0) ||| (((s).1) (y + 1))) &&& (m.1 4 y)), .int (bI (s).2)], dx_pR m 5 ((s).1))) rfl ?_
        refine dx_aldN y rfl rfl rfl rfl (by omega) ?_
        refine dx_blk 0 (c' := (119, [.ref 3, .int (bI (s).2), .int (nI n), .int (nI y), .int ((((((((s).1) y) ||| ((((s).1) y) <<< ((1 : Int32) &&& 31))) ||| ((((s).1) y) >>> ((1 : Int32) &&& 31))) ||| 0) ||| (((s).1) (y + 1))) &&& (m.1 4 y))], [.int (((s).1) y), .int ((((((((s).1) y) ||| ((((s).1) y) <<< ((1 : Int32) &&& 31))) ||| ((((s).1) y) >>> ((1 : Int32) &&& 31))) ||| 0) ||| (((s).1) (y + 1))) &&& (m.1 4 y)), .int (bI (s).2)], dx_pR m 5 ((s).1))) rfl ?_
        refine dx_br (q := ((((((((s).1) y) ||| ((((s).1) y) <<< ((1 : Int32) &&& 31))) ||| ((((s).1) y) >>> ((1 : Int32) &&& 31))) ||| 0) ||| (((s).1) (y + 1))) &&& (m.1 4 y)) = (((s).1) y)) (a := 126) (b := 122) (L := [.ref 3, .int (bI (s).2), .int (nI n), .int (nI y), .int ((((((((s).1) y) ||| ((((s).1) y) <<< ((1 : Int32) &&& 31))) ||| ((((s).1) y) >>> ((1 : Int32) &&& 31))) ||| 0) ||| (((s).1) (y + 1))) &&& (m.1 4 y))]) (st := [.int (bI (s).2)]) (m := dx_pR m 5 ((s).1)) rfl (fun q119 => ?_) (fun q119 => ?_)
        · refine dx_blk 7 (c' := (136, [.ref 3, .int ((bI (s).2) ||| 0), .int (nI n), .int (nI y), .int ((((((((s).1) y) ||| ((((s).1) y) <<< ((1 : Int32) &&& 31))) ||| ((((s).1) y) >>> ((1 : Int32) &&& 31))) ||| 0) ||| (((s).1) (y + 1))) &&& (m.1 4 y))], [.int ((((((((s).1) y) ||| ((((s).1) y) <<< ((1 : Int32) &&& 31))) ||| ((((s).1) y) >>> ((1 : Int32) &&& 31))) ||| 0) ||| (((s).1) (y + 1))) &&& (m.1 4 y)), .int (nI y), .ref 5], dx_pR m 5 ((s).1))) rfl ?_
          refine dx_astN y rfl rfl rfl rfl (by omega) ?_
          refine dx_blk 0 (c' := (137, [.ref 3, .int ((bI (s).2) ||| 0), .int (nI n), .int (nI y), .int ((((((((s).1) y) ||| ((((s).1) y) <<< ((1 : Int32) &&& 31))) ||| ((((s).1) y) >>> ((1 : Int32) &&& 31))) ||| 0) ||| (((s).1) (y + 1))) &&& (m.1 4 y))], [], dx_pI (dx_pR m 5 ((s).1)) 5 y ((((((((s).1) y) ||| ((((s).1) y) <<< ((1 : Int32) &&& 31))) ||| ((((s).1) y) >>> ((1 : Int32) &&& 31))) ||| 0) ||| (((s).1) (y + 1))) &&& (m.1 4 y)))) rfl ?_
          refine dx_blk 2 (c' := (19, [.ref 3, .int ((bI (s).2) ||| 0), .int (nI n), .int ((nI y) + 1), .int ((((((((s).1) y) ||| ((((s).1) y) <<< ((1 : Int32) &&& 31))) ||| ((((s).1) y) >>> ((1 : Int32) &&& 31))) ||| 0) ||| (((s).1) (y + 1))) &&& (m.1 4 y))], [], dx_pI (dx_pR m 5 ((s).1)) 5 y ((((((((s).1) y) ||| ((((s).1) y) <<< ((1 : Int32) &&& 31))) ||| ((((s).1) y) >>> ((1 : Int32) &&& 31))) ||| 0) ||| (((s).1) (y + 1))) &&& (m.1 4 y)))) rfl ?_
          refine dx_fgt [.ref 3, .int ((bI (s).2) ||| 0), .int (nI n), .int ((nI y) + 1), .null] (And.intro (Or.inr rfl) (And.intro (Or.inr rfl) (And.intro (Or.inr rfl) (And.intro (Or.inr rfl) (And.intro (Or.inl rfl) trivial))))) ?_
          have e1 : rwI (m.1 4) s.1 r y = (((((((s).1) y) ||| ((((s).1) y) <<< ((1 : Int32) &&& 31))) ||| ((((s).1) y) >>> ((1 : Int32) &&& 31))) ||| 0) ||| (((s).1) (y + 1))) &&& (m.1 4 y) := by
            unfold rwI
            first | rw [if_pos qy, if_pos qr] | rw [if_pos qy, if_neg qr] | rw [if_neg qy, if_pos qr] | rw [if_neg qy, if_neg qr]
          rw [dx_pI_pR, ← nI_succ]
          unfold psI at hk
          rw [e1] at hk
          first | (have e2 : decide (¬ ((((((((s).1) y) ||| ((((s).1) y) <<< ((1 : Int32) &&& 31))) ||| ((((s).1) y) >>> ((1 : Int32) &&& 31))) ||| 0) ||| (((s).1) (y + 1))) &&& (m.1 4 y)) = s.1 y) = false := decide_eq_false (fun q => q q119); rw [e2] at hk; rw [bI_o0]; exact hk) | (have e2 : decide (¬ ((((((((s).1) y) ||| ((((s).1) y) <<< ((1 : Int32) &&& 31))) ||| ((((s).1) y) >>> ((1 : Int32) &&& 31))) ||| 0) ||| (((s).1) (y + 1))) &&& (m.1 4 y)) = s.1 y) = true := decide_eq_true q119; rw [e2] at hk; rw [bI_o1]; exact hk)
        · refine dx_blk 8 (c' := (136, [.ref 3, .int ((bI (s).2) ||| 1), .int (nI n), .int (nI y), .int ((((((((s).1) y) ||| ((((s).1) y) <<< ((1 : Int32) &&& 31))) ||| ((((s).1) y) >>> ((1 : Int32) &&& 31))) ||| 0) ||| (((s).1) (y + 1))) &&& (m.1 4 y))], [.int ((((((((s).1) y) ||| ((((s).1) y) <<< ((1 : Int32) &&& 31))) ||| ((((s).1) y) >>> ((1 : Int32) &&& 31))) ||| 0) ||| (((s).1) (y + 1))) &&& (m.1 4 y)), .int (nI y), .ref 5], dx_pR m 5 ((s).1))) rfl ?_
          refine dx_astN y rfl rfl rfl rfl (by omega) ?_
          refine dx_blk 0 (c' := (137, [.ref 3, .int ((bI (s).2) ||| 1), .int (nI n), .int (nI y), .int ((((((((s).1) y) ||| ((((s).1) y) <<< ((1 : Int32) &&& 31))) ||| ((((s).1) y) >>> ((1 : Int32) &&& 31))) ||| 0) ||| (((s).1) (y + 1))) &&& (m.1 4 y))], [], dx_pI (dx_pR m 5 ((s).1)) 5 y ((((((((s).1) y) ||| ((((s).1) y) <<< ((1 : Int32) &&& 31))) ||| ((((s).1) y) >>> ((1 : Int32) &&& 31))) ||| 0) ||| (((s).1) (y + 1))) &&& (m.1 4 y)))) rfl ?_
          refine dx_blk 2 (c' := (19, [.ref 3, .int ((bI (s).2) ||| 1), .int (nI n), .int ((nI y) + 1), .int ((((((((s).1) y) ||| ((((s).1) y) <<< ((1 : Int32) &&& 31))) ||| ((((s).1) y) >>> ((1 : Int32) &&& 31))) ||| 0) ||| (((s).1) (y + 1))) &&& (m.1 4 y))], [], dx_pI (dx_pR m 5 ((s).1)) 5 y ((((((((s).1) y) ||| ((((s).1) y) <<< ((1 : Int32) &&& 31))) ||| ((((s).1) y) >>> ((1 : Int32) &&& 31))) ||| 0) ||| (((s).1) (y + 1))) &&& (m.1 4 y)))) rfl ?_
          refine dx_fgt [.ref 3, .int ((bI (s).2) ||| 1), .int (nI n), .int ((nI y) + 1), .null] (And.intro (Or.inr rfl) (And.intro (Or.inr rfl) (And.intro (Or.inr rfl) (And.intro (Or.inr rfl) (And.intro (Or.inl rfl) trivial))))) ?_
          have e1 : rwI (m.1 4) s.1 r y = (((((((s).1) y) ||| ((((s).1) y) <<< ((1 : Int32) &&& 31))) ||| ((((s).1) y) >>> ((1 : Int32) &&& 31))) ||| 0) ||| (((s).1) (y + 1))) &&& (m.1 4 y) := by
            unfold rwI
            first | rw [if_pos qy, if_pos qr] | rw [if_pos qy, if_neg qr] | rw [if_neg qy, if_pos qr] | rw [if_neg qy, if_neg qr]
          rw [dx_pI_pR, ← nI_succ]
          unfold psI at hk
          rw [e1] at hk
          first | (have e2 : decide (¬ ((((((((s).1) y) ||| ((((s).1) y) <<< ((1 : Int32) &&& 31))) ||| ((((s).1) y) >>> ((1 : Int32) &&& 31))) ||| 0) ||| (((s).1) (y + 1))) &&& (m.1 4 y)) = s.1 y) = false := decide_eq_false (fun q => q q119); rw [e2] at hk; rw [bI_o0]; exact hk) | (have e2 : decide (¬ ((((((((s).1) y) ||| ((((s).1) y) <<< ((1 : Int32) &&& 31))) ||| ((((s).1) y) >>> ((1 : Int32) &&& 31))) ||| 0) ||| (((s).1) (y + 1))) &&& (m.1 4 y)) = s.1 y) = true := decide_eq_true q119; rw [e2] at hk; rw [bI_o1]; exact hk)
      · refine dx_blk 0 (c' := (53, [.ref 3, .int (bI (s).2), .int (nI n), .int (nI y), .int (((((s).1) y) ||| ((((s).1) y) <<< ((1 : Int32) &&& 31))) ||| ((((s).1) y) >>> ((1 : Int32) &&& 31)))], [], dx_pR m 5 ((s).1))) rfl ?_
        refine dx_blk 2 (c' := (56, [.ref 3, .int (bI (s).2), .int (nI n), .int (nI y), .int (((((s).1) y) ||| ((((s).1) y) <<< ((1 : Int32) &&& 31))) ||| ((((s).1) y) >>> ((1 : Int32) &&& 31)))], [.int (nI y), .int (((((s).1) y) ||| ((((s).1) y) <<< ((1 : Int32) &&& 31))) ||| ((((s).1) y) >>> ((1 : Int32) &&& 31)))], dx_pR m 5 ((s).1))) rfl ?_
        refine dx_br (q := (nI y) ≤ 0) (a := 70) (b := 59) (L := [.ref 3, .int (bI (s).2), .int (nI n), .int (nI y), .int (((((s).1) y) ||| ((((s).1) y) <<< ((1 : Int32) &&& 31))) ||| ((((s).1) y) >>> ((1 : Int32) &&& 31)))]) (st := [.int (((((s).1) y) ||| ((((s).1) y) <<< ((1 : Int32) &&& 31))) ||| ((((s).1) y) >>> ((1 : Int32) &&& 31)))]) (m := dx_pR m 5 ((s).1)) rfl (fun _ => ?_) (fun h => absurd (by rw [show y = 0 by omega]; decide) h)
        refine dx_blk 7 (c' := (81, [.ref 3, .int (bI (s).2), .int (nI n), .int (nI y), .int ((((((s).1) y) ||| ((((s).1) y) <<< ((1 : Int32) &&& 31))) ||| ((((s).1) y) >>> ((1 : Int32) &&& 31))) ||| 0)], [.int (m.1 3 4), .int (nI y), .int ((((((s).1) y) ||| ((((s).1) y) <<< ((1 : Int32) &&& 31))) ||| ((((s).1) y) >>> ((1 : Int32) &&& 31))) ||| 0)], dx_pR m 5 ((s).1))) rfl ?_
        refine dx_br (q := (m.1 3 4) ≤ (nI y)) (a := 95) (b := 84) (L := [.ref 3, .int (bI (s).2), .int (nI n), .int (nI y), .int ((((((s).1) y) ||| ((((s).1) y) <<< ((1 : Int32) &&& 31))) ||| ((((s).1) y) >>> ((1 : Int32) &&& 31))) ||| 0)]) (st := [.int ((((((s).1) y) ||| ((((s).1) y) <<< ((1 : Int32) &&& 31))) ||| ((((s).1) y) >>> ((1 : Int32) &&& 31))) ||| 0)]) (m := dx_pR m 5 ((s).1)) rfl (fun _ => ?_) (fun h => absurd (by rw [show m.1 3 4 = nI r from er]; exact nI_le (by omega) (by omega)) h)
        refine dx_blk 7 (c' := (106, [.ref 3, .int (bI (s).2), .int (nI n), .int (nI y), .int (((((((s).1) y) ||| ((((s).1) y) <<< ((1 : Int32) &&& 31))) ||| ((((s).1) y) >>> ((1 : Int32) &&& 31))) ||| 0) ||| 0)], [.int (nI y), .ref 4, .int (((((((s).1) y) ||| ((((s).1) y) <<< ((1 : Int32) &&& 31))) ||| ((((s).1) y) >>> ((1 : Int32) &&& 31))) ||| 0) ||| 0)], dx_pR m 5 ((s).1))) rfl ?_
        refine dx_aldN y rfl rfl rfl rfl (by omega) ?_
        refine dx_blk 0 (c' := (107, [.ref 3, .int (bI (s).2), .int (nI n), .int (nI y), .int (((((((s).1) y) ||| ((((s).1) y) <<< ((1 : Int32) &&& 31))) ||| ((((s).1) y) >>> ((1 : Int32) &&& 31))) ||| 0) ||| 0)], [.int (m.1 4 y), .int (((((((s).1) y) ||| ((((s).1) y) <<< ((1 : Int32) &&& 31))) ||| ((((s).1) y) >>> ((1 : Int32) &&& 31))) ||| 0) ||| 0)], dx_pR m 5 ((s).1))) rfl ?_
        refine dx_blk 7 (c' := (118, [.ref 3, .int (bI (s).2), .int (nI n), .int (nI y), .int ((((((((s).1) y) ||| ((((s).1) y) <<< ((1 : Int32) &&& 31))) ||| ((((s).1) y) >>> ((1 : Int32) &&& 31))) ||| 0) ||| 0) &&& (m.1 4 y))], [.int (nI y), .ref 5, .int ((((((((s).1) y) ||| ((((s).1) y) <<< ((1 : Int32) &&& 31))) ||| ((((s).1) y) >>> ((1 : Int32) &&& 31))) ||| 0) ||| 0) &&& (m.1 4 y)), .int (bI (s).2)], dx_pR m 5 ((s).1))) rfl ?_
        refine dx_aldN y rfl rfl rfl rfl (by omega) ?_
        refine dx_blk 0 (c' := (119, [.ref 3, .int (bI (s).2), .int (nI n), .int (nI y), .int ((((((((s).1) y) ||| ((((s).1) y) <<< ((1 : Int32) &&& 31))) ||| ((((s).1) y) >>> ((1 : Int32) &&& 31))) ||| 0) ||| 0) &&& (m.1 4 y))], [.int (((s).1) y), .int ((((((((s).1) y) ||| ((((s).1) y) <<< ((1 : Int32) &&& 31))) ||| ((((s).1) y) >>> ((1 : Int32) &&& 31))) ||| 0) ||| 0) &&& (m.1 4 y)), .int (bI (s).2)], dx_pR m 5 ((s).1))) rfl ?_
        refine dx_br (q := ((((((((s).1) y) ||| ((((s).1) y) <<< ((1 : Int32) &&& 31))) ||| ((((s).1) y) >>> ((1 : Int32) &&& 31))) ||| 0) ||| 0) &&& (m.1 4 y)) = (((s).1) y)) (a := 126) (b := 122) (L := [.ref 3, .int (bI (s).2), .int (nI n), .int (nI y), .int ((((((((s).1) y) ||| ((((s).1) y) <<< ((1 : Int32) &&& 31))) ||| ((((s).1) y) >>> ((1 : Int32) &&& 31))) ||| 0) ||| 0) &&& (m.1 4 y))]) (st := [.int (bI (s).2)]) (m := dx_pR m 5 ((s).1)) rfl (fun q119 => ?_) (fun q119 => ?_)
        · refine dx_blk 7 (c' := (136, [.ref 3, .int ((bI (s).2) ||| 0), .int (nI n), .int (nI y), .int ((((((((s).1) y) ||| ((((s).1) y) <<< ((1 : Int32) &&& 31))) ||| ((((s).1) y) >>> ((1 : Int32) &&& 31))) ||| 0) ||| 0) &&& (m.1 4 y))], [.int ((((((((s).1) y) ||| ((((s).1) y) <<< ((1 : Int32) &&& 31))) ||| ((((s).1) y) >>> ((1 : Int32) &&& 31))) ||| 0) ||| 0) &&& (m.1 4 y)), .int (nI y), .ref 5], dx_pR m 5 ((s).1))) rfl ?_
          refine dx_astN y rfl rfl rfl rfl (by omega) ?_
          refine dx_blk 0 (c' := (137, [.ref 3, .int ((bI (s).2) ||| 0), .int (nI n), .int (nI y), .int ((((((((s).1) y) ||| ((((s).1) y) <<< ((1 : Int32) &&& 31))) ||| ((((s).1) y) >>> ((1 : Int32) &&& 31))) ||| 0) ||| 0) &&& (m.1 4 y))], [], dx_pI (dx_pR m 5 ((s).1)) 5 y ((((((((s).1) y) ||| ((((s).1) y) <<< ((1 : Int32) &&& 31))) ||| ((((s).1) y) >>> ((1 : Int32) &&& 31))) ||| 0) ||| 0) &&& (m.1 4 y)))) rfl ?_
          refine dx_blk 2 (c' := (19, [.ref 3, .int ((bI (s).2) ||| 0), .int (nI n), .int ((nI y) + 1), .int ((((((((s).1) y) ||| ((((s).1) y) <<< ((1 : Int32) &&& 31))) ||| ((((s).1) y) >>> ((1 : Int32) &&& 31))) ||| 0) ||| 0) &&& (m.1 4 y))], [], dx_pI (dx_pR m 5 ((s).1)) 5 y ((((((((s).1) y) ||| ((((s).1) y) <<< ((1 : Int32) &&& 31))) ||| ((((s).1) y) >>> ((1 : Int32) &&& 31))) ||| 0) ||| 0) &&& (m.1 4 y)))) rfl ?_
          refine dx_fgt [.ref 3, .int ((bI (s).2) ||| 0), .int (nI n), .int ((nI y) + 1), .null] (And.intro (Or.inr rfl) (And.intro (Or.inr rfl) (And.intro (Or.inr rfl) (And.intro (Or.inr rfl) (And.intro (Or.inl rfl) trivial))))) ?_
          have e1 : rwI (m.1 4) s.1 r y = (((((((s).1) y) ||| ((((s).1) y) <<< ((1 : Int32) &&& 31))) ||| ((((s).1) y) >>> ((1 : Int32) &&& 31))) ||| 0) ||| 0) &&& (m.1 4 y) := by
            unfold rwI
            first | rw [if_pos qy, if_pos qr] | rw [if_pos qy, if_neg qr] | rw [if_neg qy, if_pos qr] | rw [if_neg qy, if_neg qr]
          rw [dx_pI_pR, ← nI_succ]
          unfold psI at hk
          rw [e1] at hk
          first | (have e2 : decide (¬ ((((((((s).1) y) ||| ((((s).1) y) <<< ((1 : Int32) &&& 31))) ||| ((((s).1) y) >>> ((1 : Int32) &&& 31))) ||| 0) ||| 0) &&& (m.1 4 y)) = s.1 y) = false := decide_eq_false (fun q => q q119); rw [e2] at hk; rw [bI_o0]; exact hk) | (have e2 : decide (¬ ((((((((s).1) y) ||| ((((s).1) y) <<< ((1 : Int32) &&& 31))) ||| ((((s).1) y) >>> ((1 : Int32) &&& 31))) ||| 0) ||| 0) &&& (m.1 4 y)) = s.1 y) = true := decide_eq_true q119; rw [e2] at hk; rw [bI_o1]; exact hk)
        · refine dx_blk 8 (c' := (136, [.ref 3, .int ((bI (s).2) ||| 1), .int (nI n), .int (nI y), .int ((((((((s).1) y) ||| ((((s).1) y) <<< ((1 : Int32) &&& 31))) ||| ((((s).1) y) >>> ((1 : Int32) &&& 31))) ||| 0) ||| 0) &&& (m.1 4 y))], [.int ((((((((s).1) y) ||| ((((s).1) y) <<< ((1 : Int32) &&& 31))) ||| ((((s).1) y) >>> ((1 : Int32) &&& 31))) ||| 0) ||| 0) &&& (m.1 4 y)), .int (nI y), .ref 5], dx_pR m 5 ((s).1))) rfl ?_
          refine dx_astN y rfl rfl rfl rfl (by omega) ?_
          refine dx_blk 0 (c' := (137, [.ref 3, .int ((bI (s).2) ||| 1), .int (nI n), .int (nI y), .int ((((((((s).1) y) ||| ((((s).1) y) <<< ((1 : Int32) &&& 31))) ||| ((((s).1) y) >>> ((1 : Int32) &&& 31))) ||| 0) ||| 0) &&& (m.1 4 y))], [], dx_pI (dx_pR m 5 ((s).1)) 5 y ((((((((s).1) y) ||| ((((s).1) y) <<< ((1 : Int32) &&& 31))) ||| ((((s).1) y) >>> ((1 : Int32) &&& 31))) ||| 0) ||| 0) &&& (m.1 4 y)))) rfl ?_
          refine dx_blk 2 (c' := (19, [.ref 3, .int ((bI (s).2) ||| 1), .int (nI n), .int ((nI y) + 1), .int ((((((((s).1) y) ||| ((((s).1) y) <<< ((1 : Int32) &&& 31))) ||| ((((s).1) y) >>> ((1 : Int32) &&& 31))) ||| 0) ||| 0) &&& (m.1 4 y))], [], dx_pI (dx_pR m 5 ((s).1)) 5 y ((((((((s).1) y) ||| ((((s).1) y) <<< ((1 : Int32) &&& 31))) ||| ((((s).1) y) >>> ((1 : Int32) &&& 31))) ||| 0) ||| 0) &&& (m.1 4 y)))) rfl ?_
          refine dx_fgt [.ref 3, .int ((bI (s).2) ||| 1), .int (nI n), .int ((nI y) + 1), .null] (And.intro (Or.inr rfl) (And.intro (Or.inr rfl) (And.intro (Or.inr rfl) (And.intro (Or.inr rfl) (And.intro (Or.inl rfl) trivial))))) ?_
          have e1 : rwI (m.1 4) s.1 r y = (((((((s).1) y) ||| ((((s).1) y) <<< ((1 : Int32) &&& 31))) ||| ((((s).1) y) >>> ((1 : Int32) &&& 31))) ||| 0) ||| 0) &&& (m.1 4 y) := by
            unfold rwI
            first | rw [if_pos qy, if_pos qr] | rw [if_pos qy, if_neg qr] | rw [if_neg qy, if_pos qr] | rw [if_neg qy, if_neg qr]
          rw [dx_pI_pR, ← nI_succ]
          unfold psI at hk
          rw [e1] at hk
          first | (have e2 : decide (¬ ((((((((s).1) y) ||| ((((s).1) y) <<< ((1 : Int32) &&& 31))) ||| ((((s).1) y) >>> ((1 : Int32) &&& 31))) ||| 0) ||| 0) &&& (m.1 4 y)) = s.1 y) = false := decide_eq_false (fun q => q q119); rw [e2] at hk; rw [bI_o0]; exact hk) | (have e2 : decide (¬ ((((((((s).1) y) ||| ((((s).1) y) <<< ((1 : Int32) &&& 31))) ||| ((((s).1) y) >>> ((1 : Int32) &&& 31))) ||| 0) ||| 0) &&& (m.1 4 y)) = s.1 y) = true := decide_eq_true q119; rw [e2] at hk; rw [bI_o1]; exact hk)
  · refine dx_blk 0 (c' := (19, [.ref 3, .int (bI ((nf (psI (m.1 4) r) (r + 1) (f, false))).2), .int (nI n), .int (nI (r + 1)), .null], [], dx_pR m 5 (((nf (psI (m.1 4) r) (r + 1) (f, false))).1))) rfl ?_
    refine dx_blk 3 (c' := (24, [.ref 3, .int (bI ((nf (psI (m.1 4) r) (r + 1) (f, false))).2), .int (nI n), .int (nI (r + 1)), .null], [.int (m.1 3 4), .int (nI (r + 1))], dx_pR m 5 (((nf (psI (m.1 4) r) (r + 1) (f, false))).1))) rfl ?_
    refine dx_br (q := (m.1 3 4) < (nI (r + 1))) (a := 143) (b := 27) (L := [.ref 3, .int (bI ((nf (psI (m.1 4) r) (r + 1) (f, false))).2), .int (nI n), .int (nI (r + 1)), .null]) (st := []) (m := dx_pR m 5 (((nf (psI (m.1 4) r) (r + 1) (f, false))).1)) rfl (fun _ => ?_) (fun h => absurd (by rw [show m.1 3 4 = nI r from er]; exact nI_lt (by omega) (by omega)) h)
    refine dx_blk 2 (c' := (4, [.ref 3, .int (bI ((nf (psI (m.1 4) r) (r + 1) (f, false))).2), .int ((nI n) + 1), .int (nI (r + 1)), .null], [], dx_pR m 5 (((nf (psI (m.1 4) r) (r + 1) (f, false))).1))) rfl ?_
    refine dx_fgt [.ref 3, .int (bI ((nf (psI (m.1 4) r) (r + 1) (f, false))).2), .int ((nI n) + 1), .null, .null] (And.intro (Or.inr rfl) (And.intro (Or.inr rfl) (And.intro (Or.inr rfl) (And.intro (Or.inl rfl) (And.intro (Or.inl rfl) trivial))))) ?_
    rw [← nI_succ]
    exact hk
/-- the flood, till nothing changes or the passes are through -/
theorem lp_spreads {d : Nat} (m : dx_M) {Z : Option Value → dx_M → Prop} {r : Nat} (hr : r < 12) (er : m.1 3 4 = nI r) : ∀ (k n : Nat) (f : Nat → Int32), n + k = 145 → Z none (dx_pR m 5 (spI (m.1 4) r k f)) → dx_Go d (dx_Sem dx_P lx_X d) lx_X km_X1_spread Z (4, [.ref 3, .int (bI true), .int (nI n), .null, .null], [], dx_pR m 5 f) := by
  intro k
  induction k with
  | zero =>
    intro n f hn h
    obtain rfl : n = 145 := by omega
    refine dx_blk 1 (c' := (5, [.ref 3, .int (bI true), .int (nI 145), .null, .null], [.int (bI true)], dx_pR m 5 f)) rfl ?_
    refine dx_br (q := bI true = 0) (a := 149) (b := 8) (L := [.ref 3, .int (bI true), .int (nI 145), .null, .null]) (st := []) (m := dx_pR m 5 f) rfl (fun q => absurd q (by decide)) (fun _ => ?_)
    refine dx_blk 2 (c' := (12, [.ref 3, .int (bI true), .int (nI 145), .null, .null], [.int 144, .int (nI 145)], dx_pR m 5 f)) rfl ?_
    refine dx_br (q := 144 < nI 145) (a := 149) (b := 15) (L := [.ref 3, .int (bI true), .int (nI 145), .null, .null]) (st := []) (m := dx_pR m 5 f) rfl (fun _ => ?_) (fun q => absurd (by decide) q)
    exact dx_ret (r := none) rfl h
  | succ k ih =>
    intro n f hn h
    refine lp_spread m hr er f n (by omega) ?_
    cases e : (nf (psI (m.1 4) r) (r + 1) (f, false)).2 with
    | true =>
      rw [spI_t e] at h
      exact ih (n + 1) _ (by omega) h
    | false =>
      rw [spI_f e] at h
      refine dx_blk 1 (c' := (5, [.ref 3, .int (bI false), .int (nI (n + 1)), .null, .null], [.int (bI false)], dx_pR m 5 (nf (psI (m.1 4) r) (r + 1) (f, false)).1)) rfl ?_
      refine dx_br (q := bI false = 0) (a := 149) (b := 8) (L := [.ref 3, .int (bI false), .int (nI (n + 1)), .null, .null]) (st := []) (m := dx_pR m 5 (nf (psI (m.1 4) r) (r + 1) (f, false)).1) rfl (fun _ => ?_) (fun q => absurd (by decide) q)
      exact dx_ret (r := none) rfl h
theorem sX1_spread {d : Nat} (m : dx_M) {Z : Option Value → dx_M → Prop} {r : Nat} (hr : r < 12) (er : m.1 3 4 = nI r) (h : Z none (dx_pR m 5 (spI (m.1 4) r 145 (m.1 5)))) : dx_Sem dx_P lx_X (d + 1) 13 [.ref 3] m Z := by
  refine dx_sem km_X1_spread rfl rfl ?_
  refine dx_blk 4 (c' := (4, [.ref 3, .int 1, .int 0, .null, .null], [], m)) rfl ?_
  refine dx_mem (m' := dx_pR m 5 (m.1 5)) (dx_pR_self _ 5).symm ?_
  exact lp_spreads m hr er 145 0 (m.1 5) rfl h
