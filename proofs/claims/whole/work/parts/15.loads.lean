/-! loads: both programs (printed by wip/whole/g15.py) -/
set_option maxRecDepth 20000 in
theorem sX3_isLoad {d : Nat} (m : dx_M) (l : Int32) {Z : Option Value → dx_M → Prop} (h : Z (some (.int (bI (inI l 0 (m.1 0 7 - 1))))) m) : dx_Sem dx_P lx_X (d + 2) 68 [.ref 0, .int l] m Z := by
  refine dx_sem km_X3_isLoad rfl rfl ?_
  refine dx_blk 0 (c' := (0, [.ref 0, .int l], [], m)) rfl ?_
  refine dx_blk 6 (c' := (8, [.ref 0, .int l], [.int ((m.1 0 7) - 1), .int 0, .int l], m)) rfl ?_
  refine dx_call (id := 64) (as := [.int l, .int 0, .int ((m.1 0 7) - 1)]) (rest := []) rfl ?_
  refine sX3_within l 0 ((m.1 0 7) - 1) _ ?_
  refine dx_blk 0 (c' := (11, [.ref 0, .int l], [.int (bI (inI l 0 ((m.1 0 7) - 1)))], m)) rfl ?_
  exact dx_ret (r := some (.int (bI (inI l 0 ((m.1 0 7) - 1))))) (if_pos (bI_01 _)) h
set_option maxRecDepth 20000 in
theorem sX2_begin {d : Nat} (m : dx_M) {j : Nat} (hj : j < 10) (k a b w : Int32) {Z : Option Value → dx_M → Prop} (h : Z none (dx_pI (dx_pI (dx_pI (dx_pI (dx_pI (dx_pI m (10 + j) 0 1) (10 + j) 1 k) (10 + j) 2 a) (10 + j) 3 b) (10 + j) 4 w) (10 + j) 5 0)) : dx_Sem dx_P lx_X (d + 1) 24 [.ref (10 + j), .int k, .int a, .int b, .int w] m Z := by
  refine dx_sem km_X2_begin rfl rfl ?_
  refine dx_blk 0 (c' := (0, [.ref (10 + j), .int k, .int a, .int b, .int w], [], m)) rfl ?_
  refine dx_blk 2 (c' := (2, [.ref (10 + j), .int k, .int a, .int b, .int w], [.int 1, .ref (10 + j)], m)) rfl ?_
  refine dx_putS (k := (10 + j)) rfl rfl rfl rfl (lx_ld j (by omega)) (Or.inr ⟨rfl, Or.inr rfl⟩) ?_
  refine dx_blk 0 (c' := (5, [.ref (10 + j), .int k, .int a, .int b, .int w], [], dx_pI m (10 + j) 0 1)) rfl ?_
  refine dx_blk 2 (c' := (7, [.ref (10 + j), .int k, .int a, .int b, .int w], [.int k, .ref (10 + j)], dx_pI m (10 + j) 0 1)) rfl ?_
  refine dx_putS (k := (10 + j)) rfl rfl rfl rfl (lx_ld j (by omega)) (Or.inl rfl) ?_
  refine dx_blk 0 (c' := (10, [.ref (10 + j), .int k, .int a, .int b, .int w], [], dx_pI (dx_pI m (10 + j) 0 1) (10 + j) 1 k)) rfl ?_
  refine dx_blk 2 (c' := (12, [.ref (10 + j), .int k, .int a, .int b, .int w], [.int a, .ref (10 + j)], dx_pI (dx_pI m (10 + j) 0 1) (10 + j) 1 k)) rfl ?_
  refine dx_putS (k := (10 + j)) rfl rfl rfl rfl (lx_ld j (by omega)) (Or.inl rfl) ?_
  refine dx_blk 0 (c' := (15, [.ref (10 + j), .int k, .int a, .int b, .int w], [], dx_pI (dx_pI (dx_pI m (10 + j) 0 1) (10 + j) 1 k) (10 + j) 2 a)) rfl ?_
  refine dx_blk 2 (c' := (17, [.ref (10 + j), .int k, .int a, .int b, .int w], [.int b, .ref (10 + j)], dx_pI (dx_pI (dx_pI m (10 + j) 0 1) (10 + j) 1 k) (10 + j) 2 a)) rfl ?_
  refine dx_putS (k := (10 + j)) rfl rfl rfl rfl (lx_ld j (by omega)) (Or.inl rfl) ?_
  refine dx_blk 0 (c' := (20, [.ref (10 + j), .int k, .int a, .int b, .int w], [], dx_pI (dx_pI (dx_pI (dx_pI m (10 + j) 0 1) (10 + j) 1 k) (10 + j) 2 a) (10 + j) 3 b)) rfl ?_
  refine dx_blk 2 (c' := (23, [.ref (10 + j), .int k, .int a, .int b, .int w], [.int w, .ref (10 + j)], dx_pI (dx_pI (dx_pI (dx_pI m (10 + j) 0 1) (10 + j) 1 k) (10 + j) 2 a) (10 + j) 3 b)) rfl ?_
  refine dx_putS (k := (10 + j)) rfl rfl rfl rfl (lx_ld j (by omega)) (Or.inl rfl) ?_
  refine dx_blk 0 (c' := (26, [.ref (10 + j), .int k, .int a, .int b, .int w], [], dx_pI (dx_pI (dx_pI (dx_pI (dx_pI m (10 + j) 0 1) (10 + j) 1 k) (10 + j) 2 a) (10 + j) 3 b) (10 + j) 4 w)) rfl ?_
  refine dx_blk 2 (c' := (28, [.ref (10 + j), .int k, .int a, .int b, .int w], [.int 0, .ref (10 + j)], dx_pI (dx_pI (dx_pI (dx_pI (dx_pI m (10 + j) 0 1) (10 + j) 1 k) (10 + j) 2 a) (10 + j) 3 b) (10 + j) 4 w)) rfl ?_
  refine dx_putS (k := (10 + j)) rfl rfl rfl rfl (lx_ld j (by omega)) (Or.inl rfl) ?_
  refine dx_blk 0 (c' := (31, [.ref (10 + j), .int k, .int a, .int b, .int w], [], dx_pI (dx_pI (dx_pI (dx_pI (dx_pI (dx_pI m (10 + j) 0 1) (10 + j) 1 k) (10 + j) 2 a) (10 + j) 3 b) (10 + j) 4 w) (10 + j) 5 0)) rfl ?_
  exact dx_ret (r := none) rfl h
def factX (m : dx_M) (j : Nat) (w : Int32) : Int32 := (if w = 0 then m.1 (10 + j) 1 else if w = 1 then m.1 (10 + j) 2 else if w = 2 then m.1 (10 + j) 3 else if w = 3 then m.1 (10 + j) 4 else if m.1 (10 + j) 1 = 1 then m.1 (10 + j) 5 else -9)
def factM (m : dx_M) (j : Nat) (w : Int32) : Int32 := (if w = 0 then m.1 6 j else if w = 1 then m.1 7 j else if w = 2 then m.1 8 j else if w = 3 then m.1 9 j else if m.1 6 j = 1 then m.1 10 j else -9)
set_option maxRecDepth 20000 in
theorem sX2_fact {d : Nat} (m : dx_M) {j : Nat} (hj : j < 10) (w : Int32) {Z : Option Value → dx_M → Prop} (h : Z (some (.int (factX m j w))) m) : dx_Sem dx_P lx_X (d + 1) 25 [.ref (10 + j), .int w] m Z := by
  refine dx_sem km_X2_fact rfl rfl ?_
  refine dx_blk 0 (c' := (0, [.ref (10 + j), .int w], [], m)) rfl ?_
  refine dx_blk 1 (c' := (1, [.ref (10 + j), .int w], [.int w], m)) rfl ?_
  refine dx_br (q := w = 0) (a := 32) (b := (if w = 1 then 37 else (if w = 2 then 42 else (if w = 3 then 47 else 52)))) (L := [.ref (10 + j), .int w]) (st := []) (m := m) rfl (fun h100 => ?_) (fun h100 => ?_)
  · refine dx_blk 1 (c' := (33, [.ref (10 + j), .int w], [.ref (10 + j)], m)) rfl ?_
    refine dx_getS (k := (10 + j)) (v := .int (m.1 (10 + j) 1)) rfl rfl rfl rfl (lx_ld j (by omega)) rfl ?_
    refine dx_blk 0 (c' := (36, [.ref (10 + j), .int w], [.int (m.1 (10 + j) 1)], m)) rfl ?_
    exact dx_ret (r := some (.int (m.1 (10 + j) 1))) rfl (by simpa [factX, *] using h)
  · refine dx_sp (q := w = 1) (fun h101 => ?_) (fun h101 => ?_)
    · refine dx_blk 1 (c' := (38, [.ref (10 + j), .int w], [.ref (10 + j)], m)) rfl ?_
      refine dx_getS (k := (10 + j)) (v := .int (m.1 (10 + j) 2)) rfl rfl rfl rfl (lx_ld j (by omega)) rfl ?_
      refine dx_blk 0 (c' := (41, [.ref (10 + j), .int w], [.int (m.1 (10 + j) 2)], m)) rfl ?_
      exact dx_ret (r := some (.int (m.1 (10 + j) 2))) rfl (by simpa [factX, *] using h)
    · refine dx_sp (q := w = 2) (fun h102 => ?_) (fun h102 => ?_)
      · refine dx_blk 1 (c' := (43, [.ref (10 + j), .int w], [.ref (10 + j)], m)) rfl ?_
        refine dx_getS (k := (10 + j)) (v := .int (m.1 (10 + j) 3)) rfl rfl rfl rfl (lx_ld j (by omega)) rfl ?_
        refine dx_blk 0 (c' := (46, [.ref (10 + j), .int w], [.int (m.1 (10 + j) 3)], m)) rfl ?_
        exact dx_ret (r := some (.int (m.1 (10 + j) 3))) rfl (by simpa [factX, *] using h)
      · refine dx_sp (q := w = 3) (fun h103 => ?_) (fun h103 => ?_)
        · refine dx_blk 1 (c' := (48, [.ref (10 + j), .int w], [.ref (10 + j)], m)) rfl ?_
          refine dx_getS (k := (10 + j)) (v := .int (m.1 (10 + j) 4)) rfl rfl rfl rfl (lx_ld j (by omega)) rfl ?_
          refine dx_blk 0 (c' := (51, [.ref (10 + j), .int w], [.int (m.1 (10 + j) 4)], m)) rfl ?_
          exact dx_ret (r := some (.int (m.1 (10 + j) 4))) rfl (by simpa [factX, *] using h)
        · refine dx_blk 1 (c' := (53, [.ref (10 + j), .int w], [.ref (10 + j)], m)) rfl ?_
          refine dx_getS (k := (10 + j)) (v := .int (m.1 (10 + j) 1)) rfl rfl rfl rfl (lx_ld j (by omega)) rfl ?_
          refine dx_blk 0 (c' := (56, [.ref (10 + j), .int w], [.int (m.1 (10 + j) 1)], m)) rfl ?_
          refine dx_blk 1 (c' := (57, [.ref (10 + j), .int w], [.int 1, .int (m.1 (10 + j) 1)], m)) rfl ?_
          refine dx_br (q := (m.1 (10 + j) 1) = 1) (a := 60) (b := 67) (L := [.ref (10 + j), .int w]) (st := []) (m := m) rfl (fun h57 => ?_) (fun h57 => ?_)
          · refine dx_blk 1 (c' := (61, [.ref (10 + j), .int w], [.ref (10 + j)], m)) rfl ?_
            refine dx_getS (k := (10 + j)) (v := .int (m.1 (10 + j) 5)) rfl rfl rfl rfl (lx_ld j (by omega)) rfl ?_
            refine dx_blk 0 (c' := (64, [.ref (10 + j), .int w], [.int (m.1 (10 + j) 5)], m)) rfl ?_
            refine dx_blk 1 (c' := (69, [.ref (10 + j), .int w], [.int (m.1 (10 + j) 5)], m)) rfl ?_
            exact dx_ret (r := some (.int (m.1 (10 + j) 5))) rfl (by simpa [factX, *] using h)
          · refine dx_blk 1 (c' := (69, [.ref (10 + j), .int w], [.int (-9)], m)) rfl ?_
            exact dx_ret (r := some (.int (-9))) rfl (by simpa [factX, *] using h)
set_option maxRecDepth 20000 in
theorem sX4_toldOf {d : Nat} (m : dx_M) {j : Nat} (hj : j < 10) (w : Int32) {Z : Option Value → dx_M → Prop} (h : Z (some (.int (factM m j w))) m) : dx_Sem dx_P lx_M (d + 1) 108 [.ref 0, .int (nI j), .int w] m Z := by
  refine dx_sem km_X4_toldOf rfl rfl ?_
  refine dx_blk 0 (c' := (0, [.ref 0, .int (nI j), .int w], [], m)) rfl ?_
  refine dx_blk 1 (c' := (1, [.ref 0, .int (nI j), .int w], [.int w], m)) rfl ?_
  refine dx_br (q := w = 0) (a := 32) (b := (if w = 1 then 39 else (if w = 2 then 46 else (if w = 3 then 53 else 60)))) (L := [.ref 0, .int (nI j), .int w]) (st := []) (m := m) rfl (fun h100 => ?_) (fun h100 => ?_)
  · refine dx_blk 3 (c' := (37, [.ref 0, .int (nI j), .int w], [.int (nI j), .ref 6], m)) rfl ?_
    refine dx_aldN j rfl rfl rfl rfl (by omega) ?_
    refine dx_blk 0 (c' := (38, [.ref 0, .int (nI j), .int w], [.int (m.1 6 j)], m)) rfl ?_
    exact dx_ret (r := some (.int (m.1 6 j))) rfl (by simpa [factM, *] using h)
  · refine dx_sp (q := w = 1) (fun h101 => ?_) (fun h101 => ?_)
    · refine dx_blk 3 (c' := (44, [.ref 0, .int (nI j), .int w], [.int (nI j), .ref 7], m)) rfl ?_
      refine dx_aldN j rfl rfl rfl rfl (by omega) ?_
      refine dx_blk 0 (c' := (45, [.ref 0, .int (nI j), .int w], [.int (m.1 7 j)], m)) rfl ?_
      exact dx_ret (r := some (.int (m.1 7 j))) rfl (by simpa [factM, *] using h)
    · refine dx_sp (q := w = 2) (fun h102 => ?_) (fun h102 => ?_)
      · refine dx_blk 3 (c' := (51, [.ref 0, .int (nI j), .int w], [.int (nI j), .ref 8], m)) rfl ?_
        refine dx_aldN j rfl rfl rfl rfl (by omega) ?_
        refine dx_blk 0 (c' := (52, [.ref 0, .int (nI j), .int w], [.int (m.1 8 j)], m)) rfl ?_
        exact dx_ret (r := some (.int (m.1 8 j))) rfl (by simpa [factM, *] using h)
      · refine dx_sp (q := w = 3) (fun h103 => ?_) (fun h103 => ?_)
        · refine dx_blk 3 (c' := (58, [.ref 0, .int (nI j), .int w], [.int (nI j), .ref 9], m)) rfl ?_
          refine dx_aldN j rfl rfl rfl rfl (by omega) ?_
          refine dx_blk 0 (c' := (59, [.ref 0, .int (nI j), .int w], [.int (m.1 9 j)], m)) rfl ?_
          exact dx_ret (r := some (.int (m.1 9 j))) rfl (by simpa [factM, *] using h)
        · refine dx_blk 3 (c' := (65, [.ref 0, .int (nI j), .int w], [.int (nI j), .ref 6], m)) rfl ?_
          refine dx_aldN j rfl rfl rfl rfl (by omega) ?_
          refine dx_blk 0 (c' := (66, [.ref 0, .int (nI j), .int w], [.int (m.1 6 j)], m)) rfl ?_
          refine dx_blk 1 (c' := (67, [.ref 0, .int (nI j), .int w], [.int 1, .int (m.1 6 j)], m)) rfl ?_
          refine dx_br (q := (m.1 6 j) = 1) (a := 70) (b := 79) (L := [.ref 0, .int (nI j), .int w]) (st := []) (m := m) rfl (fun h67 => ?_) (fun h67 => ?_)
          · refine dx_blk 3 (c' := (75, [.ref 0, .int (nI j), .int w], [.int (nI j), .ref 10], m)) rfl ?_
            refine dx_aldN j rfl rfl rfl rfl (by omega) ?_
            refine dx_blk 0 (c' := (76, [.ref 0, .int (nI j), .int w], [.int (m.1 10 j)], m)) rfl ?_
            refine dx_blk 1 (c' := (81, [.ref 0, .int (nI j), .int w], [.int (m.1 10 j)], m)) rfl ?_
            exact dx_ret (r := some (.int (m.1 10 j))) rfl (by simpa [factM, *] using h)
          · refine dx_blk 1 (c' := (81, [.ref 0, .int (nI j), .int w], [.int (-9)], m)) rfl ?_
            exact dx_ret (r := some (.int (-9))) rfl (by simpa [factM, *] using h)
set_option maxRecDepth 20000 in
theorem sX4_need {d : Nat} (m : dx_M) {E : Nat} (hE : E ≤ 10) (eE : m.1 0 11 = nI E) (g : Bool) (l : Int32) {Z : Option Value → dx_M → Prop} (h1 : (inI l 0 (nI E - 1) && g) = false → Z (some (.int (-1))) m) (h2 : ∀ j : Nat, j < E → l = nI j → g = true → ¬ m.1 11 j = 0 → Z (some (.int (-3))) (fndM m 1)) (h3 : ∀ j : Nat, j < E → l = nI j → g = true → m.1 11 j = 0 → Z (some (.int 0)) m) : dx_Sem dx_P lx_M (d + 2) 104 [.ref 0, .int (bI g), .int l] m Z := by
  refine dx_sem km_X4_need rfl rfl ?_
  refine dx_blk 0 (c' := (0, [.ref 0, .int (bI g), .int l], [], m)) rfl ?_
  refine dx_blk 6 (c' := (8, [.ref 0, .int (bI g), .int l], [.int ((m.1 0 11) - 1), .int 0, .int l], m)) rfl ?_
  refine dx_call (id := 82) (as := [.int l, .int 0, .int ((m.1 0 11) - 1)]) (rest := []) rfl ?_
  refine sX4_in l 0 ((m.1 0 11) - 1) _ ?_
  refine dx_blk 0 (c' := (11, [.ref 0, .int (bI g), .int l], [.int (bI (inI l 0 ((m.1 0 11) - 1)))], m)) rfl ?_
  refine dx_brB (B := (inI l 0 ((m.1 0 11) - 1))) (a := 18) (b := 14) (L := [.ref 0, .int (bI g), .int l]) (st := []) (m := m) rfl (fun h11 => ?_) (fun h11 => ?_)
  · refine dx_blk 2 (c' := (40, [.ref 0, .int (bI g), .int l], [.int (-1)], m)) rfl ?_
    exact dx_ret (r := some (.int (-1))) rfl (h1 (by rw [eE] at h11; simp_all))
  · refine dx_blk 1 (c' := (15, [.ref 0, .int (bI g), .int l], [.int (bI g)], m)) rfl ?_
    refine dx_brB (B := g) (a := 18) (b := 22) (L := [.ref 0, .int (bI g), .int l]) (st := []) (m := m) rfl (fun h15 => ?_) (fun h15 => ?_)
    · refine dx_blk 2 (c' := (40, [.ref 0, .int (bI g), .int l], [.int (-1)], m)) rfl ?_
      exact dx_ret (r := some (.int (-1))) rfl (h1 (by rw [eE] at h11; simp_all))
    · obtain ⟨j, hj, rfl⟩ := in_W (W := E) (x := l) (by omega) (by rw [← eE]; exact h11)
      refine dx_blk 3 (c' := (27, [.ref 0, .int (bI g), .int (nI j)], [.int (nI j), .ref 11], m)) rfl ?_
      refine dx_bldN j rfl rfl (Or.inr rfl) rfl (by omega) ?_
      refine dx_blk 0 (c' := (28, [.ref 0, .int (bI g), .int (nI j)], [.int (m.1 11 j)], m)) rfl ?_
      refine dx_br (q := (m.1 11 j) = 0) (a := 39) (b := 31) (L := [.ref 0, .int (bI g), .int (nI j)]) (st := []) (m := m) rfl (fun h28 => ?_) (fun h28 => ?_)
      · refine dx_blk 1 (c' := (40, [.ref 0, .int (bI g), .int (nI j)], [.int 0], m)) rfl ?_
        exact dx_ret (r := some (.int 0)) rfl (h3 j hj rfl (by assumption) (by assumption))
      · refine dx_blk 2 (c' := (33, [.ref 0, .int (bI g), .int (nI j)], [.int 1, .ref 0], m)) rfl ?_
        refine dx_call (id := 83) (as := [.ref 0, .int 1]) (rest := []) rfl ?_
        refine sX4_meets 1 (by decide) _ ?_
        refine dx_blk 0 (c' := (36, [.ref 0, .int (bI g), .int (nI j)], [.int (-3)], (fndM m 1))) rfl ?_
        refine dx_blk 1 (c' := (40, [.ref 0, .int (bI g), .int (nI j)], [.int (-3)], (fndM m 1))) rfl ?_
        exact dx_ret (r := some (.int (-3))) rfl (h2 j hj rfl (by assumption) (by assumption))
set_option maxRecDepth 20000 in
theorem sX3_load {d : Nat} (m : dx_M) {E : Nat} (hE : E ≤ 10) (eE : m.1 0 7 = nI E) (k a b w : Int32) {Z : Option Value → dx_M → Prop} (h1 : (inI k 0 2 && ((inI a 0 24 && inI b 0 24) && inI w 0 200)) = false → Z (some (.int (-1))) m) (h2 : E = 10 → (inI k 0 2 && ((inI a 0 24 && inI b 0 24) && inI w 0 200)) = true → Z (some (.int (-2))) m) (h3 : E < 10 → inI k 0 2 = true → inI a 0 24 = true → inI b 0 24 = true → inI w 0 200 = true → Z (some (.int (nI E))) (dx_pI (dx_pI (dx_pI (dx_pI (dx_pI (dx_pI (dx_pI m (10 + E) 0 1) (10 + E) 1 k) (10 + E) 2 a) (10 + E) 3 b) (10 + E) 4 w) (10 + E) 5 0) 0 7 (nI (E + 1)))) : dx_Sem dx_P lx_X (d + 3) 35 [.ref 0, .int k, .int a, .int b, .int w] m Z := by
  refine dx_sem km_X3_load rfl rfl ?_
  refine dx_blk 0 (c' := (0, [.ref 0, .int k, .int a, .int b, .int w], [], m)) rfl ?_
  refine dx_blk 3 (c' := (3, [.ref 0, .int k, .int a, .int b, .int w], [.int 2, .int 0, .int k], m)) rfl ?_
  refine dx_call (id := 64) (as := [.int k, .int 0, .int 2]) (rest := []) rfl ?_
  refine sX3_within k 0 2 _ ?_
  refine dx_blk 0 (c' := (6, [.ref 0, .int k, .int a, .int b, .int w], [.int (bI (inI k 0 2))], m)) rfl ?_
  refine dx_brB (B := (inI k 0 2)) (a := 29) (b := 9) (L := [.ref 0, .int k, .int a, .int b, .int w]) (st := []) (m := m) rfl (fun h6 => ?_) (fun h6 => ?_)
  · refine dx_blk 1 (c' := (30, [.ref 0, .int k, .int a, .int b, .int w], [.int (-1)], m)) rfl ?_
    exact dx_ret (r := some (.int (-1))) rfl (h1 (by simp_all))
  · refine dx_blk 2 (c' := (11, [.ref 0, .int k, .int a, .int b, .int w], [.int b, .int a], m)) rfl ?_
    refine dx_call (id := 67) (as := [.int a, .int b]) (rest := []) rfl ?_
    refine sX3_isPoint a b _ ?_
    refine dx_blk 0 (c' := (14, [.ref 0, .int k, .int a, .int b, .int w], [.int (bI (inI a 0 24 && inI b 0 24))], m)) rfl ?_
    refine dx_brB (B := (inI a 0 24 && inI b 0 24)) (a := 29) (b := 17) (L := [.ref 0, .int k, .int a, .int b, .int w]) (st := []) (m := m) rfl (fun h14 => ?_) (fun h14 => ?_)
    · refine dx_blk 1 (c' := (30, [.ref 0, .int k, .int a, .int b, .int w], [.int (-1)], m)) rfl ?_
      exact dx_ret (r := some (.int (-1))) rfl (h1 (by simp_all))
    · refine dx_blk 3 (c' := (23, [.ref 0, .int k, .int a, .int b, .int w], [.int 200, .int 0, .int w], m)) rfl ?_
      refine dx_call (id := 64) (as := [.int w, .int 0, .int 200]) (rest := []) rfl ?_
      refine sX3_within w 0 200 _ ?_
      refine dx_blk 0 (c' := (26, [.ref 0, .int k, .int a, .int b, .int w], [.int (bI (inI w 0 200))], m)) rfl ?_
      refine dx_brB (B := (inI w 0 200)) (a := 29) (b := 31) (L := [.ref 0, .int k, .int a, .int b, .int w]) (st := []) (m := m) rfl (fun h26 => ?_) (fun h26 => ?_)
      · refine dx_blk 1 (c' := (30, [.ref 0, .int k, .int a, .int b, .int w], [.int (-1)], m)) rfl ?_
        exact dx_ret (r := some (.int (-1))) rfl (h1 (by simp_all))
      · refine dx_blk 3 (c' := (37, [.ref 0, .int k, .int a, .int b, .int w], [.int 10, .int (m.1 0 7)], m)) rfl ?_
        refine dx_br (q := (m.1 0 7) < 10) (a := 43) (b := 40) (L := [.ref 0, .int k, .int a, .int b, .int w]) (st := []) (m := m) rfl (fun q37 => ?_) (fun q37 => ?_)
        · have hE2 : E < 10 := by
            rw [eE] at q37
            exact (nI_ltI (by omega) (by decide)).mp q37
          refine dx_blk 4 (c' := (51, [.ref 0, .int k, .int a, .int b, .int w], [.int (m.1 0 7), .ref 6], m)) rfl ?_
          refine dx_aadN E (q := (10 + E)) rfl rfl (Or.inl rfl) eE (by omega) (lx_rs6 E hE2) ?_
          refine dx_blk 0 (c' := (52, [.ref 0, .int k, .int a, .int b, .int w], [.ref (10 + E)], m)) rfl ?_
          refine dx_blk 4 (c' := (57, [.ref 0, .int k, .int a, .int b, .int w], [.int w, .int b, .int a, .int k, .ref (10 + E)], m)) rfl ?_
          refine dx_call (id := 24) (as := [.ref (10 + E), .int k, .int a, .int b, .int w]) (rest := []) (dx_clV (as := [.int k, .int a, .int b, .int w]) rfl rfl rfl rfl (lx_ld E hE2) rfl rfl rfl (Nat.le_of_ble_eq_true rfl)) ?_
          refine sX2_begin _ (j := E) (by omega) k a b w ?_
          refine dx_blk 0 (c' := (60, [.ref 0, .int k, .int a, .int b, .int w], [], (dx_pI (dx_pI (dx_pI (dx_pI (dx_pI (dx_pI m (10 + E) 0 1) (10 + E) 1 k) (10 + E) 2 a) (10 + E) 3 b) (10 + E) 4 w) (10 + E) 5 0))) rfl ?_
          refine dx_blk 10 (c' := (76, [.ref 0, .int k, .int a, .int b, .int w], [.int ((((dx_pI (dx_pI (dx_pI (dx_pI (dx_pI (dx_pI m (10 + E) 0 1) (10 + E) 1 k) (10 + E) 2 a) (10 + E) 3 b) (10 + E) 4 w) (10 + E) 5 0).1 0 7) + 1) - 1)], dx_pI (dx_pI (dx_pI (dx_pI (dx_pI (dx_pI (dx_pI m (10 + E) 0 1) (10 + E) 1 k) (10 + E) 2 a) (10 + E) 3 b) (10 + E) 4 w) (10 + E) 5 0) 0 7 (((dx_pI (dx_pI (dx_pI (dx_pI (dx_pI (dx_pI m (10 + E) 0 1) (10 + E) 1 k) (10 + E) 2 a) (10 + E) 3 b) (10 + E) 4 w) (10 + E) 5 0).1 0 7) + 1))) rfl ?_
          exact dx_ret (r := some (.int ((((dx_pI (dx_pI (dx_pI (dx_pI (dx_pI (dx_pI m (10 + E) 0 1) (10 + E) 1 k) (10 + E) 2 a) (10 + E) 3 b) (10 + E) 4 w) (10 + E) 5 0).1 0 7) + 1) - 1))) rfl (by simp only [Bool.and_eq_true] at h14; have e1 : (dx_pI (dx_pI (dx_pI (dx_pI (dx_pI (dx_pI m (10 + E) 0 1) (10 + E) 1 k) (10 + E) 2 a) (10 + E) 3 b) (10 + E) 4 w) (10 + E) 5 0).1 0 7 + 1 = nI (E + 1) := (by simp only [dx_rdI (show (0 : Nat) ≠ 10 + E by omega)]; rw [eE, nI_succ]); rw [e1, nI_pred]; exact h3 hE2 h6 h14.1 h14.2 h26)
        · refine dx_blk 1 (c' := (42, [.ref 0, .int k, .int a, .int b, .int w], [.int (-2)], m)) rfl ?_
          exact dx_ret (r := some (.int (-2))) rfl (h2 (by rw [eE] at q37; rcases Nat.lt_or_ge E 10 with q | q; exact absurd (nI_lt q (by decide)) q37; omega) (by simp_all))
set_option maxRecDepth 20000 in
theorem sX4_load {d : Nat} (m : dx_M) {E : Nat} (hE : E ≤ 10) (eE : m.1 0 11 = nI E) (k a b w : Int32) {Z : Option Value → dx_M → Prop} (h1 : (inI k 0 2 && ((inI a 0 24 && inI b 0 24) && inI w 0 200)) = false → Z (some (.int (-1))) m) (h2 : E = 10 → (inI k 0 2 && ((inI a 0 24 && inI b 0 24) && inI w 0 200)) = true → Z (some (.int (-2))) m) (h3 : E < 10 → inI k 0 2 = true → inI a 0 24 = true → inI b 0 24 = true → inI w 0 200 = true → Z (some (.int (nI E))) (dx_pI (dx_pI (dx_pI (dx_pI (dx_pI (dx_pI (dx_pI m 6 E k) 7 E a) 8 E b) 9 E w) 10 E 0) 11 E 0) 0 11 (nI (E + 1)))) : dx_Sem dx_P lx_M (d + 3) 103 [.ref 0, .int k, .int a, .int b, .int w] m Z := by
  refine dx_sem km_X4_load rfl rfl ?_
  refine dx_blk 0 (c' := (0, [.ref 0, .int k, .int a, .int b, .int w], [], m)) rfl ?_
  refine dx_blk 3 (c' := (3, [.ref 0, .int k, .int a, .int b, .int w], [.int 2, .int 0, .int k], m)) rfl ?_
  refine dx_call (id := 82) (as := [.int k, .int 0, .int 2]) (rest := []) rfl ?_
  refine sX4_in k 0 2 _ ?_
  refine dx_blk 0 (c' := (6, [.ref 0, .int k, .int a, .int b, .int w], [.int (bI (inI k 0 2))], m)) rfl ?_
  refine dx_brB (B := (inI k 0 2)) (a := 29) (b := 9) (L := [.ref 0, .int k, .int a, .int b, .int w]) (st := []) (m := m) rfl (fun h6 => ?_) (fun h6 => ?_)
  · refine dx_blk 1 (c' := (30, [.ref 0, .int k, .int a, .int b, .int w], [.int (-1)], m)) rfl ?_
    exact dx_ret (r := some (.int (-1))) rfl (h1 (by simp_all))
  · refine dx_blk 2 (c' := (11, [.ref 0, .int k, .int a, .int b, .int w], [.int b, .int a], m)) rfl ?_
    refine dx_call (id := 102) (as := [.int a, .int b]) (rest := []) rfl ?_
    refine sX4_isPoint a b _ ?_
    refine dx_blk 0 (c' := (14, [.ref 0, .int k, .int a, .int b, .int w], [.int (bI (inI a 0 24 && inI b 0 24))], m)) rfl ?_
    refine dx_brB (B := (inI a 0 24 && inI b 0 24)) (a := 29) (b := 17) (L := [.ref 0, .int k, .int a, .int b, .int w]) (st := []) (m := m) rfl (fun h14 => ?_) (fun h14 => ?_)
    · refine dx_blk 1 (c' := (30, [.ref 0, .int k, .int a, .int b, .int w], [.int (-1)], m)) rfl ?_
      exact dx_ret (r := some (.int (-1))) rfl (h1 (by simp_all))
    · refine dx_blk 3 (c' := (23, [.ref 0, .int k, .int a, .int b, .int w], [.int 200, .int 0, .int w], m)) rfl ?_
      refine dx_call (id := 82) (as := [.int w, .int 0, .int 200]) (rest := []) rfl ?_
      refine sX4_in w 0 200 _ ?_
      refine dx_blk 0 (c' := (26, [.ref 0, .int k, .int a, .int b, .int w], [.int (bI (inI w 0 200))], m)) rfl ?_
      refine dx_brB (B := (inI w 0 200)) (a := 29) (b := 31) (L := [.ref 0, .int k, .int a, .int b, .int w]) (st := []) (m := m) rfl (fun h26 => ?_) (fun h26 => ?_)
      · refine dx_blk 1 (c' := (30, [.ref 0, .int k, .int a, .int b, .int w], [.int (-1)], m)) rfl ?_
        exact dx_ret (r := some (.int (-1))) rfl (h1 (by simp_all))
      · refine dx_blk 3 (c' := (37, [.ref 0, .int k, .int a, .int b, .int w], [.int 10, .int (m.1 0 11)], m)) rfl ?_
        refine dx_br (q := (m.1 0 11) = 10) (a := 40) (b := 43) (L := [.ref 0, .int k, .int a, .int b, .int w]) (st := []) (m := m) rfl (fun q37 => ?_) (fun q37 => ?_)
        · refine dx_blk 1 (c' := (42, [.ref 0, .int k, .int a, .int b, .int w], [.int (-2)], m)) rfl ?_
          exact dx_ret (r := some (.int (-2))) rfl (h2 (by rw [eE] at q37; exact (nI_eq (by omega) (by decide)).mp q37) (by simp_all))
        · have hE2 : E < 10 := by
            rw [eE] at q37
            rcases Nat.lt_or_ge E 10 with q | q
            · exact q
            · exact absurd (show nI E = 10 by rw [show E = 10 by omega]; rfl) q37
          refine dx_blk 5 (c' := (52, [.ref 0, .int k, .int a, .int b, .int w], [.int k, .int (m.1 0 11), .ref 6], m)) rfl ?_
          refine dx_astN E rfl rfl rfl eE (by omega) ?_
          refine dx_blk 0 (c' := (53, [.ref 0, .int k, .int a, .int b, .int w], [], dx_pI m 6 E k)) rfl ?_
          refine dx_blk 5 (c' := (62, [.ref 0, .int k, .int a, .int b, .int w], [.int a, .int (m.1 0 11), .ref 7], dx_pI m 6 E k)) rfl ?_
          refine dx_astN E rfl rfl rfl eE (by omega) ?_
          refine dx_blk 0 (c' := (63, [.ref 0, .int k, .int a, .int b, .int w], [], dx_pI (dx_pI m 6 E k) 7 E a)) rfl ?_
          refine dx_blk 5 (c' := (72, [.ref 0, .int k, .int a, .int b, .int w], [.int b, .int (m.1 0 11), .ref 8], dx_pI (dx_pI m 6 E k) 7 E a)) rfl ?_
          refine dx_astN E rfl rfl rfl eE (by omega) ?_
          refine dx_blk 0 (c' := (73, [.ref 0, .int k, .int a, .int b, .int w], [], dx_pI (dx_pI (dx_pI m 6 E k) 7 E a) 8 E b)) rfl ?_
          refine dx_blk 5 (c' := (83, [.ref 0, .int k, .int a, .int b, .int w], [.int w, .int (m.1 0 11), .ref 9], dx_pI (dx_pI (dx_pI m 6 E k) 7 E a) 8 E b)) rfl ?_
          refine dx_astN E rfl rfl rfl eE (by omega) ?_
          refine dx_blk 0 (c' := (84, [.ref 0, .int k, .int a, .int b, .int w], [], dx_pI (dx_pI (dx_pI (dx_pI m 6 E k) 7 E a) 8 E b) 9 E w)) rfl ?_
          refine dx_blk 5 (c' := (93, [.ref 0, .int k, .int a, .int b, .int w], [.int 0, .int (m.1 0 11), .ref 10], dx_pI (dx_pI (dx_pI (dx_pI m 6 E k) 7 E a) 8 E b) 9 E w)) rfl ?_
          refine dx_astN E rfl rfl rfl eE (by omega) ?_
          refine dx_blk 0 (c' := (94, [.ref 0, .int k, .int a, .int b, .int w], [], dx_pI (dx_pI (dx_pI (dx_pI (dx_pI m 6 E k) 7 E a) 8 E b) 9 E w) 10 E 0)) rfl ?_
          refine dx_blk 5 (c' := (103, [.ref 0, .int k, .int a, .int b, .int w], [.int 0, .int (m.1 0 11), .ref 11], dx_pI (dx_pI (dx_pI (dx_pI (dx_pI m 6 E k) 7 E a) 8 E b) 9 E w) 10 E 0)) rfl ?_
          refine dx_bstZ E rfl rfl rfl eE (by omega) (Or.inl rfl) ?_
          refine dx_blk 0 (c' := (104, [.ref 0, .int k, .int a, .int b, .int w], [], dx_pI (dx_pI (dx_pI (dx_pI (dx_pI (dx_pI m 6 E k) 7 E a) 8 E b) 9 E w) 10 E 0) 11 E 0)) rfl ?_
          refine dx_blk 10 (c' := (120, [.ref 0, .int k, .int a, .int b, .int w], [.int (((m.1 0 11) + 1) - 1)], dx_pI (dx_pI (dx_pI (dx_pI (dx_pI (dx_pI (dx_pI m 6 E k) 7 E a) 8 E b) 9 E w) 10 E 0) 11 E 0) 0 11 ((m.1 0 11) + 1))) rfl ?_
          exact dx_ret (r := some (.int (((m.1 0 11) + 1) - 1))) rfl (by simp only [Bool.and_eq_true] at h14; rw [eE, show nI E + 1 = nI (E + 1) from (nI_succ E).symm, nI_pred]; exact h3 hE2 h6 h14.1 h14.2 h26)
set_option maxRecDepth 20000 in
theorem sX3_move {d : Nat} (m : dx_M) {E : Nat} (hE : E ≤ 10) (eE : m.1 0 7 = nI E) (l a b : Int32) {Z : Option Value → dx_M → Prop} (h1 : (inI l 0 (nI E - 1) && (inI a 0 24 && inI b 0 24)) = false → Z (some (.int (-1))) m) (h2 : ∀ j : Nat, j < E → l = nI j → (decide (¬ m.1 (10 + j) 0 = 0)) = false → (inI a 0 24 && inI b 0 24) = true → Z (some (.int (-3))) (fndX m 1)) (h3 : ∀ j : Nat, j < E → l = nI j → (decide (¬ m.1 (10 + j) 0 = 0)) = true → m.1 (10 + j) 1 = 2 → (inI a 0 24 && inI b 0 24) = true → Z (some (.int (-3))) (fndX m 3)) (h4 : ∀ j : Nat, j < E → l = nI j → (decide (¬ m.1 (10 + j) 0 = 0)) = true → ¬ m.1 (10 + j) 1 = 2 → (inI a 0 24 && inI b 0 24) = true → Z (some (.int 1)) (dx_pI (dx_pI m (10 + j) 2 a) (10 + j) 3 b)) : dx_Sem dx_P lx_X (d + 3) 36 [.ref 0, .int l, .int a, .int b] m Z := by
  refine dx_sem km_X3_move rfl rfl ?_
  refine dx_blk 0 (c' := (0, [.ref 0, .int l, .int a, .int b, .null], [], m)) rfl ?_
  refine dx_blk 2 (c' := (2, [.ref 0, .int l, .int a, .int b, .null], [.int l, .ref 0], m)) rfl ?_
  refine dx_call (id := 68) (as := [.ref 0, .int l]) (rest := []) rfl ?_
  refine sX3_isLoad _ l ?_
  refine dx_blk 0 (c' := (5, [.ref 0, .int l, .int a, .int b, .null], [.int (bI (inI l 0 (m.1 0 7 - 1)))], m)) rfl ?_
  refine dx_brB (B := (inI l 0 (m.1 0 7 - 1))) (a := 16) (b := 8) (L := [.ref 0, .int l, .int a, .int b, .null]) (st := []) (m := m) rfl (fun h5 => ?_) (fun h5 => ?_)
  · refine dx_blk 1 (c' := (17, [.ref 0, .int l, .int a, .int b, .null], [.int (-1)], m)) rfl ?_
    exact dx_ret (r := some (.int (-1))) rfl (h1 (by rw [eE] at h5; simp_all))
  · refine dx_blk 2 (c' := (10, [.ref 0, .int l, .int a, .int b, .null], [.int b, .int a], m)) rfl ?_
    refine dx_call (id := 67) (as := [.int a, .int b]) (rest := []) rfl ?_
    refine sX3_isPoint a b _ ?_
    refine dx_blk 0 (c' := (13, [.ref 0, .int l, .int a, .int b, .null], [.int (bI (inI a 0 24 && inI b 0 24))], m)) rfl ?_
    refine dx_brB (B := (inI a 0 24 && inI b 0 24)) (a := 16) (b := 18) (L := [.ref 0, .int l, .int a, .int b, .null]) (st := []) (m := m) rfl (fun h13 => ?_) (fun h13 => ?_)
    · refine dx_blk 1 (c' := (17, [.ref 0, .int l, .int a, .int b, .null], [.int (-1)], m)) rfl ?_
      exact dx_ret (r := some (.int (-1))) rfl (h1 (by rw [eE] at h5; simp_all))
    · obtain ⟨j, hj, rfl⟩ := in_W (W := E) (x := l) (by omega) (by rw [← eE]; exact h5)
      refine dx_blk 3 (c' := (23, [.ref 0, .int (nI j), .int a, .int b, .null], [.int (nI j), .ref 6], m)) rfl ?_
      refine dx_aadN j (q := (10 + j)) rfl rfl (Or.inl rfl) rfl (by omega) (lx_rs6 j (by omega)) ?_
      refine dx_blk 0 (c' := (24, [.ref 0, .int (nI j), .int a, .int b, .null], [.ref (10 + j)], m)) rfl ?_
      refine dx_blk 2 (c' := (28, [.ref 0, .int (nI j), .int a, .int b, .ref (10 + j)], [.ref (10 + j)], m)) rfl ?_
      refine dx_getS (k := (10 + j)) (v := .int (m.1 (10 + j) 0)) rfl rfl rfl rfl (lx_ld j (by omega)) rfl ?_
      refine dx_blk 0 (c' := (31, [.ref 0, .int (nI j), .int a, .int b, .ref (10 + j)], [.int (m.1 (10 + j) 0)], m)) rfl ?_
      refine dx_br (q := (m.1 (10 + j) 0) = 0) (a := 34) (b := 40) (L := [.ref 0, .int (nI j), .int a, .int b, .ref (10 + j)]) (st := []) (m := m) rfl (fun h31 => ?_) (fun h31 => ?_)
      · refine dx_blk 2 (c' := (36, [.ref 0, .int (nI j), .int a, .int b, .ref (10 + j)], [.int 1, .ref 0], m)) rfl ?_
        refine dx_call (id := 70) (as := [.ref 0, .int 1]) (rest := []) rfl ?_
        refine sX3_find 1 (by decide) _ ?_
        refine dx_blk 0 (c' := (39, [.ref 0, .int (nI j), .int a, .int b, .ref (10 + j)], [.int (-3)], (fndX m 1))) rfl ?_
        exact dx_ret (r := some (.int (-3))) rfl (h2 j hj rfl (by simp [*]) (by assumption))
      · refine dx_blk 1 (c' := (42, [.ref 0, .int (nI j), .int a, .int b, .ref (10 + j)], [.ref (10 + j)], m)) rfl ?_
        refine dx_getS (k := (10 + j)) (v := .int (m.1 (10 + j) 1)) rfl rfl rfl rfl (lx_ld j (by omega)) rfl ?_
        refine dx_blk 0 (c' := (45, [.ref 0, .int (nI j), .int a, .int b, .ref (10 + j)], [.int (m.1 (10 + j) 1)], m)) rfl ?_
        refine dx_blk 1 (c' := (46, [.ref 0, .int (nI j), .int a, .int b, .ref (10 + j)], [.int 2, .int (m.1 (10 + j) 1)], m)) rfl ?_
        refine dx_br (q := (m.1 (10 + j) 1) = 2) (a := 49) (b := 55) (L := [.ref 0, .int (nI j), .int a, .int b, .ref (10 + j)]) (st := []) (m := m) rfl (fun h46 => ?_) (fun h46 => ?_)
        · refine dx_blk 2 (c' := (51, [.ref 0, .int (nI j), .int a, .int b, .ref (10 + j)], [.int 3, .ref 0], m)) rfl ?_
          refine dx_call (id := 70) (as := [.ref 0, .int 3]) (rest := []) rfl ?_
          refine sX3_find 3 (by decide) _ ?_
          refine dx_blk 0 (c' := (54, [.ref 0, .int (nI j), .int a, .int b, .ref (10 + j)], [.int (-3)], (fndX m 3))) rfl ?_
          exact dx_ret (r := some (.int (-3))) rfl (h3 j hj rfl (by simp [*]) (by assumption) (by assumption))
        · refine dx_blk 2 (c' := (58, [.ref 0, .int (nI j), .int a, .int b, .ref (10 + j)], [.int a, .ref (10 + j)], m)) rfl ?_
          refine dx_putS (k := (10 + j)) rfl rfl rfl rfl (lx_ld j (by omega)) (Or.inl rfl) ?_
          refine dx_blk 0 (c' := (61, [.ref 0, .int (nI j), .int a, .int b, .ref (10 + j)], [], dx_pI m (10 + j) 2 a)) rfl ?_
          refine dx_blk 2 (c' := (64, [.ref 0, .int (nI j), .int a, .int b, .ref (10 + j)], [.int b, .ref (10 + j)], dx_pI m (10 + j) 2 a)) rfl ?_
          refine dx_putS (k := (10 + j)) rfl rfl rfl rfl (lx_ld j (by omega)) (Or.inl rfl) ?_
          refine dx_blk 0 (c' := (67, [.ref 0, .int (nI j), .int a, .int b, .ref (10 + j)], [], dx_pI (dx_pI m (10 + j) 2 a) (10 + j) 3 b)) rfl ?_
          refine dx_blk 1 (c' := (68, [.ref 0, .int (nI j), .int a, .int b, .ref (10 + j)], [.int 1], dx_pI (dx_pI m (10 + j) 2 a) (10 + j) 3 b)) rfl ?_
          exact dx_ret (r := some (.int 1)) rfl (h4 j hj rfl (by simp [*]) (by assumption) (by assumption))
set_option maxRecDepth 20000 in
theorem sX4_move {d : Nat} (m : dx_M) {E : Nat} (hE : E ≤ 10) (eE : m.1 0 11 = nI E) (l a b : Int32) {Z : Option Value → dx_M → Prop} (h1 : (inI l 0 (nI E - 1) && (inI a 0 24 && inI b 0 24)) = false → Z (some (.int (-1))) m) (h2 : ∀ j : Nat, j < E → l = nI j → (decide (m.1 11 j = 0)) = false → (inI a 0 24 && inI b 0 24) = true → Z (some (.int (-3))) (fndM m 1)) (h3 : ∀ j : Nat, j < E → l = nI j → (decide (m.1 11 j = 0)) = true → m.1 6 j = 2 → (inI a 0 24 && inI b 0 24) = true → Z (some (.int (-3))) (fndM m 3)) (h4 : ∀ j : Nat, j < E → l = nI j → (decide (m.1 11 j = 0)) = true → ¬ m.1 6 j = 2 → (inI a 0 24 && inI b 0 24) = true → Z (some (.int 1)) (dx_pI (dx_pI m 7 j a) 8 j b)) : dx_Sem dx_P lx_M (d + 3) 105 [.ref 0, .int l, .int a, .int b] m Z := by
  refine dx_sem km_X4_move rfl rfl ?_
  refine dx_blk 0 (c' := (0, [.ref 0, .int l, .int a, .int b, .null], [], m)) rfl ?_
  refine dx_blk 3 (c' := (3, [.ref 0, .int l, .int a, .int b, .null], [.int b, .int a, .ref 0], m)) rfl ?_
  refine dx_call (id := 102) (as := [.int a, .int b]) (rest := [.ref 0]) rfl ?_
  refine sX4_isPoint a b _ ?_
  refine dx_blk 0 (c' := (6, [.ref 0, .int l, .int a, .int b, .null], [.int (bI (inI a 0 24 && inI b 0 24)), .ref 0], m)) rfl ?_
  refine dx_blk 1 (c' := (7, [.ref 0, .int l, .int a, .int b, .null], [.int l, .int (bI (inI a 0 24 && inI b 0 24)), .ref 0], m)) rfl ?_
  refine dx_call (id := 104) (as := [.ref 0, .int (bI (inI a 0 24 && inI b 0 24)), .int l]) (rest := []) rfl ?_
  refine sX4_need _ hE eE (inI a 0 24 && inI b 0 24) l (fun q1 => ?_) (fun j hj ej q1 q2 => ?_) (fun j hj ej q1 q2 => ?_)
  · refine dx_blk 0 (c' := (10, [.ref 0, .int l, .int a, .int b, .null], [.int (-1)], m)) rfl ?_
    refine dx_blk 2 (c' := (14, [.ref 0, .int l, .int a, .int b, .int (-1)], [.int (-1)], m)) rfl ?_
    refine dx_br (q := 0 ≤ ((-1) : Int32)) (a := 20) (b := 17) (L := [.ref 0, .int l, .int a, .int b, .int (-1)]) (st := []) (m := m) rfl (fun h => absurd h (by decide)) (fun _ => ?_)
    refine dx_blk 1 (c' := (19, [.ref 0, .int l, .int a, .int b, .int (-1)], [.int (-1)], m)) rfl ?_
    exact dx_ret (r := some (.int (-1))) rfl (h1 (by assumption))
  · subst ej
    refine dx_blk 0 (c' := (10, [.ref 0, .int (nI j), .int a, .int b, .null], [.int (-3)], (fndM m 1))) rfl ?_
    refine dx_blk 2 (c' := (14, [.ref 0, .int (nI j), .int a, .int b, .int (-3)], [.int (-3)], (fndM m 1))) rfl ?_
    refine dx_br (q := 0 ≤ ((-3) : Int32)) (a := 20) (b := 17) (L := [.ref 0, .int (nI j), .int a, .int b, .int (-3)]) (st := []) (m := (fndM m 1)) rfl (fun h => absurd h (by decide)) (fun _ => ?_)
    refine dx_blk 1 (c' := (19, [.ref 0, .int (nI j), .int a, .int b, .int (-3)], [.int (-3)], (fndM m 1))) rfl ?_
    exact dx_ret (r := some (.int (-3))) rfl (h2 j hj rfl (by simp [*]) (by assumption))
  · subst ej
    refine dx_blk 0 (c' := (10, [.ref 0, .int (nI j), .int a, .int b, .null], [.int 0], m)) rfl ?_
    refine dx_blk 2 (c' := (14, [.ref 0, .int (nI j), .int a, .int b, .int 0], [.int 0], m)) rfl ?_
    refine dx_br (q := 0 ≤ (0 : Int32)) (a := 20) (b := 17) (L := [.ref 0, .int (nI j), .int a, .int b, .int 0]) (st := []) (m := m) rfl (fun _ => ?_) (fun h => absurd (by decide) h)
    refine dx_blk 3 (c' := (25, [.ref 0, .int (nI j), .int a, .int b, .int 0], [.int (nI j), .ref 6], m)) rfl ?_
    refine dx_aldN j rfl rfl rfl rfl (by omega) ?_
    refine dx_blk 0 (c' := (26, [.ref 0, .int (nI j), .int a, .int b, .int 0], [.int (m.1 6 j)], m)) rfl ?_
    refine dx_blk 1 (c' := (27, [.ref 0, .int (nI j), .int a, .int b, .int 0], [.int 2, .int (m.1 6 j)], m)) rfl ?_
    refine dx_br (q := (m.1 6 j) = 2) (a := 30) (b := 36) (L := [.ref 0, .int (nI j), .int a, .int b, .int 0]) (st := []) (m := m) rfl (fun h27 => ?_) (fun h27 => ?_)
    · refine dx_blk 2 (c' := (32, [.ref 0, .int (nI j), .int a, .int b, .int 0], [.int 3, .ref 0], m)) rfl ?_
      refine dx_call (id := 83) (as := [.ref 0, .int 3]) (rest := []) rfl ?_
      refine sX4_meets 3 (by decide) _ ?_
      refine dx_blk 0 (c' := (35, [.ref 0, .int (nI j), .int a, .int b, .int 0], [.int (-3)], (fndM m 3))) rfl ?_
      exact dx_ret (r := some (.int (-3))) rfl (h3 j hj rfl (by simp [*]) (by assumption) (by assumption))
    · refine dx_blk 4 (c' := (42, [.ref 0, .int (nI j), .int a, .int b, .int 0], [.int a, .int (nI j), .ref 7], m)) rfl ?_
      refine dx_astN j rfl rfl rfl rfl (by omega) ?_
      refine dx_blk 0 (c' := (43, [.ref 0, .int (nI j), .int a, .int b, .int 0], [], dx_pI m 7 j a)) rfl ?_
      refine dx_blk 4 (c' := (49, [.ref 0, .int (nI j), .int a, .int b, .int 0], [.int b, .int (nI j), .ref 8], dx_pI m 7 j a)) rfl ?_
      refine dx_astN j rfl rfl rfl rfl (by omega) ?_
      refine dx_blk 0 (c' := (50, [.ref 0, .int (nI j), .int a, .int b, .int 0], [], dx_pI (dx_pI m 7 j a) 8 j b)) rfl ?_
      refine dx_blk 1 (c' := (51, [.ref 0, .int (nI j), .int a, .int b, .int 0], [.int 1], dx_pI (dx_pI m 7 j a) 8 j b)) rfl ?_
      exact dx_ret (r := some (.int 1)) rfl (h4 j hj rfl (by simp [*]) (by assumption) (by assumption))
set_option maxRecDepth 20000 in
theorem sX3_rope {d : Nat} (m : dx_M) {E : Nat} (hE : E ≤ 10) (eE : m.1 0 7 = nI E) (l n : Int32) {Z : Option Value → dx_M → Prop} (h1 : (inI l 0 (nI E - 1) && inI n 0 20) = false → Z (some (.int (-1))) m) (h2 : ∀ j : Nat, j < E → l = nI j → (decide (¬ m.1 (10 + j) 0 = 0)) = false → inI n 0 20 = true → Z (some (.int (-3))) (fndX m 1)) (h3 : ∀ j : Nat, j < E → l = nI j → (decide (¬ m.1 (10 + j) 0 = 0)) = true → ¬ m.1 (10 + j) 1 = 1 → inI n 0 20 = true → Z (some (.int (-3))) (fndX m 3)) (h4 : ∀ j : Nat, j < E → l = nI j → (decide (¬ m.1 (10 + j) 0 = 0)) = true → m.1 (10 + j) 1 = 1 → inI n 0 20 = true → Z (some (.int (m.1 (10 + j) 5))) (dx_pI m (10 + j) 5 n)) : dx_Sem dx_P lx_X (d + 3) 37 [.ref 0, .int l, .int n] m Z := by
  refine dx_sem km_X3_rope rfl rfl ?_
  refine dx_blk 0 (c' := (0, [.ref 0, .int l, .int n, .null, .null], [], m)) rfl ?_
  refine dx_blk 2 (c' := (2, [.ref 0, .int l, .int n, .null, .null], [.int l, .ref 0], m)) rfl ?_
  refine dx_call (id := 68) (as := [.ref 0, .int l]) (rest := []) rfl ?_
  refine sX3_isLoad _ l ?_
  refine dx_blk 0 (c' := (5, [.ref 0, .int l, .int n, .null, .null], [.int (bI (inI l 0 (m.1 0 7 - 1)))], m)) rfl ?_
  refine dx_brB (B := (inI l 0 (m.1 0 7 - 1))) (a := 18) (b := 8) (L := [.ref 0, .int l, .int n, .null, .null]) (st := []) (m := m) rfl (fun h5 => ?_) (fun h5 => ?_)
  · refine dx_blk 1 (c' := (19, [.ref 0, .int l, .int n, .null, .null], [.int (-1)], m)) rfl ?_
    exact dx_ret (r := some (.int (-1))) rfl (h1 (by rw [eE] at h5; simp_all))
  · refine dx_blk 3 (c' := (12, [.ref 0, .int l, .int n, .null, .null], [.int 20, .int 0, .int n], m)) rfl ?_
    refine dx_call (id := 64) (as := [.int n, .int 0, .int 20]) (rest := []) rfl ?_
    refine sX3_within n 0 20 _ ?_
    refine dx_blk 0 (c' := (15, [.ref 0, .int l, .int n, .null, .null], [.int (bI (inI n 0 20))], m)) rfl ?_
    refine dx_brB (B := (inI n 0 20)) (a := 18) (b := 20) (L := [.ref 0, .int l, .int n, .null, .null]) (st := []) (m := m) rfl (fun h15 => ?_) (fun h15 => ?_)
    · refine dx_blk 1 (c' := (19, [.ref 0, .int l, .int n, .null, .null], [.int (-1)], m)) rfl ?_
      exact dx_ret (r := some (.int (-1))) rfl (h1 (by rw [eE] at h5; simp_all))
    · obtain ⟨j, hj, rfl⟩ := in_W (W := E) (x := l) (by omega) (by rw [← eE]; exact h5)
      refine dx_blk 3 (c' := (25, [.ref 0, .int (nI j), .int n, .null, .null], [.int (nI j), .ref 6], m)) rfl ?_
      refine dx_aadN j (q := (10 + j)) rfl rfl (Or.inl rfl) rfl (by omega) (lx_rs6 j (by omega)) ?_
      refine dx_blk 0 (c' := (26, [.ref 0, .int (nI j), .int n, .null, .null], [.ref (10 + j)], m)) rfl ?_
      refine dx_blk 2 (c' := (28, [.ref 0, .int (nI j), .int n, .ref (10 + j), .null], [.ref (10 + j)], m)) rfl ?_
      refine dx_getS (k := (10 + j)) (v := .int (m.1 (10 + j) 0)) rfl rfl rfl rfl (lx_ld j (by omega)) rfl ?_
      refine dx_blk 0 (c' := (31, [.ref 0, .int (nI j), .int n, .ref (10 + j), .null], [.int (m.1 (10 + j) 0)], m)) rfl ?_
      refine dx_br (q := (m.1 (10 + j) 0) = 0) (a := 34) (b := 40) (L := [.ref 0, .int (nI j), .int n, .ref (10 + j), .null]) (st := []) (m := m) rfl (fun h31 => ?_) (fun h31 => ?_)
      · refine dx_blk 2 (c' := (36, [.ref 0, .int (nI j), .int n, .ref (10 + j), .null], [.int 1, .ref 0], m)) rfl ?_
        refine dx_call (id := 70) (as := [.ref 0, .int 1]) (rest := []) rfl ?_
        refine sX3_find 1 (by decide) _ ?_
        refine dx_blk 0 (c' := (39, [.ref 0, .int (nI j), .int n, .ref (10 + j), .null], [.int (-3)], (fndX m 1))) rfl ?_
        exact dx_ret (r := some (.int (-3))) rfl (h2 j hj rfl (by simp [*]) (by assumption))
      · refine dx_blk 1 (c' := (41, [.ref 0, .int (nI j), .int n, .ref (10 + j), .null], [.ref (10 + j)], m)) rfl ?_
        refine dx_getS (k := (10 + j)) (v := .int (m.1 (10 + j) 1)) rfl rfl rfl rfl (lx_ld j (by omega)) rfl ?_
        refine dx_blk 0 (c' := (44, [.ref 0, .int (nI j), .int n, .ref (10 + j), .null], [.int (m.1 (10 + j) 1)], m)) rfl ?_
        refine dx_blk 1 (c' := (45, [.ref 0, .int (nI j), .int n, .ref (10 + j), .null], [.int 1, .int (m.1 (10 + j) 1)], m)) rfl ?_
        refine dx_br (q := (m.1 (10 + j) 1) = 1) (a := 54) (b := 48) (L := [.ref 0, .int (nI j), .int n, .ref (10 + j), .null]) (st := []) (m := m) rfl (fun h45 => ?_) (fun h45 => ?_)
        · refine dx_blk 1 (c' := (55, [.ref 0, .int (nI j), .int n, .ref (10 + j), .null], [.ref (10 + j)], m)) rfl ?_
          refine dx_getS (k := (10 + j)) (v := .int (m.1 (10 + j) 5)) rfl rfl rfl rfl (lx_ld j (by omega)) rfl ?_
          refine dx_blk 0 (c' := (58, [.ref 0, .int (nI j), .int n, .ref (10 + j), .null], [.int (m.1 (10 + j) 5)], m)) rfl ?_
          refine dx_blk 3 (c' := (62, [.ref 0, .int (nI j), .int n, .ref (10 + j), .int (m.1 (10 + j) 5)], [.int n, .ref (10 + j)], m)) rfl ?_
          refine dx_putS (k := (10 + j)) rfl rfl rfl rfl (lx_ld j (by omega)) (Or.inl rfl) ?_
          refine dx_blk 0 (c' := (65, [.ref 0, .int (nI j), .int n, .ref (10 + j), .int (m.1 (10 + j) 5)], [], dx_pI m (10 + j) 5 n)) rfl ?_
          refine dx_blk 1 (c' := (67, [.ref 0, .int (nI j), .int n, .ref (10 + j), .int (m.1 (10 + j) 5)], [.int (m.1 (10 + j) 5)], dx_pI m (10 + j) 5 n)) rfl ?_
          exact dx_ret (r := some (.int (m.1 (10 + j) 5))) rfl (h4 j hj rfl (by simp [*]) (by assumption) (by assumption))
        · refine dx_blk 2 (c' := (50, [.ref 0, .int (nI j), .int n, .ref (10 + j), .null], [.int 3, .ref 0], m)) rfl ?_
          refine dx_call (id := 70) (as := [.ref 0, .int 3]) (rest := []) rfl ?_
          refine sX3_find 3 (by decide) _ ?_
          refine dx_blk 0 (c' := (53, [.ref 0, .int (nI j), .int n, .ref (10 + j), .null], [.int (-3)], (fndX m 3))) rfl ?_
          exact dx_ret (r := some (.int (-3))) rfl (h3 j hj rfl (by simp [*]) (by assumption) (by assumption))
set_option maxRecDepth 20000 in
theorem sX4_rope {d : Nat} (m : dx_M) {E : Nat} (hE : E ≤ 10) (eE : m.1 0 11 = nI E) (l n : Int32) {Z : Option Value → dx_M → Prop} (h1 : (inI l 0 (nI E - 1) && inI n 0 20) = false → Z (some (.int (-1))) m) (h2 : ∀ j : Nat, j < E → l = nI j → (decide (m.1 11 j = 0)) = false → inI n 0 20 = true → Z (some (.int (-3))) (fndM m 1)) (h3 : ∀ j : Nat, j < E → l = nI j → (decide (m.1 11 j = 0)) = true → ¬ m.1 6 j = 1 → inI n 0 20 = true → Z (some (.int (-3))) (fndM m 3)) (h4 : ∀ j : Nat, j < E → l = nI j → (decide (m.1 11 j = 0)) = true → m.1 6 j = 1 → inI n 0 20 = true → Z (some (.int (m.1 10 j))) (dx_pI m 10 j n)) : dx_Sem dx_P lx_M (d + 3) 106 [.ref 0, .int l, .int n] m Z := by
  refine dx_sem km_X4_rope rfl rfl ?_
  refine dx_blk 0 (c' := (0, [.ref 0, .int l, .int n, .null, .null], [], m)) rfl ?_
  refine dx_blk 4 (c' := (5, [.ref 0, .int l, .int n, .null, .null], [.int 20, .int 0, .int n, .ref 0], m)) rfl ?_
  refine dx_call (id := 82) (as := [.int n, .int 0, .int 20]) (rest := [.ref 0]) rfl ?_
  refine sX4_in n 0 20 _ ?_
  refine dx_blk 0 (c' := (8, [.ref 0, .int l, .int n, .null, .null], [.int (bI (inI n 0 20)), .ref 0], m)) rfl ?_
  refine dx_blk 1 (c' := (9, [.ref 0, .int l, .int n, .null, .null], [.int l, .int (bI (inI n 0 20)), .ref 0], m)) rfl ?_
  refine dx_call (id := 104) (as := [.ref 0, .int (bI (inI n 0 20)), .int l]) (rest := []) rfl ?_
  refine sX4_need _ hE eE (inI n 0 20) l (fun q1 => ?_) (fun j hj ej q1 q2 => ?_) (fun j hj ej q1 q2 => ?_)
  · refine dx_blk 0 (c' := (12, [.ref 0, .int l, .int n, .null, .null], [.int (-1)], m)) rfl ?_
    refine dx_blk 2 (c' := (14, [.ref 0, .int l, .int n, .int (-1), .null], [.int (-1)], m)) rfl ?_
    refine dx_br (q := 0 ≤ ((-1) : Int32)) (a := 19) (b := 17) (L := [.ref 0, .int l, .int n, .int (-1), .null]) (st := []) (m := m) rfl (fun h => absurd h (by decide)) (fun _ => ?_)
    refine dx_blk 1 (c' := (18, [.ref 0, .int l, .int n, .int (-1), .null], [.int (-1)], m)) rfl ?_
    exact dx_ret (r := some (.int (-1))) rfl (h1 (by assumption))
  · subst ej
    refine dx_blk 0 (c' := (12, [.ref 0, .int (nI j), .int n, .null, .null], [.int (-3)], (fndM m 1))) rfl ?_
    refine dx_blk 2 (c' := (14, [.ref 0, .int (nI j), .int n, .int (-3), .null], [.int (-3)], (fndM m 1))) rfl ?_
    refine dx_br (q := 0 ≤ ((-3) : Int32)) (a := 19) (b := 17) (L := [.ref 0, .int (nI j), .int n, .int (-3), .null]) (st := []) (m := (fndM m 1)) rfl (fun h => absurd h (by decide)) (fun _ => ?_)
    refine dx_blk 1 (c' := (18, [.ref 0, .int (nI j), .int n, .int (-3), .null], [.int (-3)], (fndM m 1))) rfl ?_
    exact dx_ret (r := some (.int (-3))) rfl (h2 j hj rfl (by simp [*]) (by assumption))
  · subst ej
    refine dx_blk 0 (c' := (12, [.ref 0, .int (nI j), .int n, .null, .null], [.int 0], m)) rfl ?_
    refine dx_blk 2 (c' := (14, [.ref 0, .int (nI j), .int n, .int 0, .null], [.int 0], m)) rfl ?_
    refine dx_br (q := 0 ≤ (0 : Int32)) (a := 19) (b := 17) (L := [.ref 0, .int (nI j), .int n, .int 0, .null]) (st := []) (m := m) rfl (fun _ => ?_) (fun h => absurd (by decide) h)
    refine dx_blk 3 (c' := (24, [.ref 0, .int (nI j), .int n, .int 0, .null], [.int (nI j), .ref 6], m)) rfl ?_
    refine dx_aldN j rfl rfl rfl rfl (by omega) ?_
    refine dx_blk 0 (c' := (25, [.ref 0, .int (nI j), .int n, .int 0, .null], [.int (m.1 6 j)], m)) rfl ?_
    refine dx_blk 1 (c' := (26, [.ref 0, .int (nI j), .int n, .int 0, .null], [.int 1, .int (m.1 6 j)], m)) rfl ?_
    refine dx_br (q := (m.1 6 j) = 1) (a := 35) (b := 29) (L := [.ref 0, .int (nI j), .int n, .int 0, .null]) (st := []) (m := m) rfl (fun h26 => ?_) (fun h26 => ?_)
    · refine dx_blk 3 (c' := (40, [.ref 0, .int (nI j), .int n, .int 0, .null], [.int (nI j), .ref 10], m)) rfl ?_
      refine dx_aldN j rfl rfl rfl rfl (by omega) ?_
      refine dx_blk 0 (c' := (41, [.ref 0, .int (nI j), .int n, .int 0, .null], [.int (m.1 10 j)], m)) rfl ?_
      refine dx_blk 5 (c' := (49, [.ref 0, .int (nI j), .int n, .int 0, .int (m.1 10 j)], [.int n, .int (nI j), .ref 10], m)) rfl ?_
      refine dx_astN j rfl rfl rfl rfl (by omega) ?_
      refine dx_blk 0 (c' := (50, [.ref 0, .int (nI j), .int n, .int 0, .int (m.1 10 j)], [], dx_pI m 10 j n)) rfl ?_
      refine dx_blk 1 (c' := (52, [.ref 0, .int (nI j), .int n, .int 0, .int (m.1 10 j)], [.int (m.1 10 j)], dx_pI m 10 j n)) rfl ?_
      exact dx_ret (r := some (.int (m.1 10 j))) rfl (h4 j hj rfl (by simp [*]) (by assumption) (by assumption))
    · refine dx_blk 2 (c' := (31, [.ref 0, .int (nI j), .int n, .int 0, .null], [.int 3, .ref 0], m)) rfl ?_
      refine dx_call (id := 83) (as := [.ref 0, .int 3]) (rest := []) rfl ?_
      refine sX4_meets 3 (by decide) _ ?_
      refine dx_blk 0 (c' := (34, [.ref 0, .int (nI j), .int n, .int 0, .null], [.int (-3)], (fndM m 3))) rfl ?_
      exact dx_ret (r := some (.int (-3))) rfl (h3 j hj rfl (by simp [*]) (by assumption) (by assumption))
set_option maxRecDepth 20000 in
theorem sX3_drop {d : Nat} (m : dx_M) {E : Nat} (hE : E ≤ 10) (eE : m.1 0 7 = nI E) (l : Int32) {Z : Option Value → dx_M → Prop} (h1 : inI l 0 (nI E - 1) = false → Z (some (.int (-1))) m) (h2 : ∀ j : Nat, j < E → l = nI j → (decide (¬ m.1 (10 + j) 0 = 0)) = false → Z (some (.int (-3))) (fndX m 1)) (h4 : ∀ j : Nat, j < E → l = nI j → (decide (¬ m.1 (10 + j) 0 = 0)) = true → Z (some (.int 1)) (dx_pI m (10 + j) 0 0)) : dx_Sem dx_P lx_X (d + 3) 38 [.ref 0, .int l] m Z := by
  refine dx_sem km_X3_drop rfl rfl ?_
  refine dx_blk 0 (c' := (0, [.ref 0, .int l], [], m)) rfl ?_
  refine dx_blk 2 (c' := (2, [.ref 0, .int l], [.int l, .ref 0], m)) rfl ?_
  refine dx_call (id := 68) (as := [.ref 0, .int l]) (rest := []) rfl ?_
  refine sX3_isLoad _ l ?_
  refine dx_blk 0 (c' := (5, [.ref 0, .int l], [.int (bI (inI l 0 (m.1 0 7 - 1)))], m)) rfl ?_
  refine dx_brB (B := (inI l 0 (m.1 0 7 - 1))) (a := 8) (b := 10) (L := [.ref 0, .int l]) (st := []) (m := m) rfl (fun h5 => ?_) (fun h5 => ?_)
  · refine dx_blk 1 (c' := (9, [.ref 0, .int l], [.int (-1)], m)) rfl ?_
    exact dx_ret (r := some (.int (-1))) rfl (h1 (by rw [eE] at h5; exact h5))
  · obtain ⟨j, hj, rfl⟩ := in_W (W := E) (x := l) (by omega) (by rw [← eE]; exact h5)
    refine dx_blk 3 (c' := (15, [.ref 0, .int (nI j)], [.int (nI j), .ref 6], m)) rfl ?_
    refine dx_aadN j (q := (10 + j)) rfl rfl (Or.inl rfl) rfl (by omega) (lx_rs6 j (by omega)) ?_
    refine dx_blk 0 (c' := (16, [.ref 0, .int (nI j)], [.ref (10 + j)], m)) rfl ?_
    refine dx_getS (k := (10 + j)) (v := .int (m.1 (10 + j) 0)) rfl rfl rfl rfl (lx_ld j (by omega)) rfl ?_
    refine dx_blk 0 (c' := (19, [.ref 0, .int (nI j)], [.int (m.1 (10 + j) 0)], m)) rfl ?_
    refine dx_br (q := (m.1 (10 + j) 0) = 0) (a := 22) (b := 28) (L := [.ref 0, .int (nI j)]) (st := []) (m := m) rfl (fun h19 => ?_) (fun h19 => ?_)
    · refine dx_blk 2 (c' := (24, [.ref 0, .int (nI j)], [.int 1, .ref 0], m)) rfl ?_
      refine dx_call (id := 70) (as := [.ref 0, .int 1]) (rest := []) rfl ?_
      refine sX3_find 1 (by decide) _ ?_
      refine dx_blk 0 (c' := (27, [.ref 0, .int (nI j)], [.int (-3)], (fndX m 1))) rfl ?_
      exact dx_ret (r := some (.int (-3))) rfl (h2 j hj rfl (by simp [*]))
    · refine dx_blk 3 (c' := (33, [.ref 0, .int (nI j)], [.int (nI j), .ref 6], m)) rfl ?_
      refine dx_aadN j (q := (10 + j)) rfl rfl (Or.inl rfl) rfl (by omega) (lx_rs6 j (by omega)) ?_
      refine dx_blk 0 (c' := (34, [.ref 0, .int (nI j)], [.ref (10 + j)], m)) rfl ?_
      refine dx_blk 1 (c' := (35, [.ref 0, .int (nI j)], [.int 0, .ref (10 + j)], m)) rfl ?_
      refine dx_putS (k := (10 + j)) rfl rfl rfl rfl (lx_ld j (by omega)) (Or.inr ⟨rfl, Or.inl rfl⟩) ?_
      refine dx_blk 0 (c' := (38, [.ref 0, .int (nI j)], [], dx_pI m (10 + j) 0 0)) rfl ?_
      refine dx_blk 1 (c' := (39, [.ref 0, .int (nI j)], [.int 1], dx_pI m (10 + j) 0 0)) rfl ?_
      exact dx_ret (r := some (.int 1)) rfl (h4 j hj rfl (by simp [*]))
set_option maxRecDepth 20000 in
theorem sX4_drop {d : Nat} (m : dx_M) {E : Nat} (hE : E ≤ 10) (eE : m.1 0 11 = nI E) (l : Int32) {Z : Option Value → dx_M → Prop} (h1 : inI l 0 (nI E - 1) = false → Z (some (.int (-1))) m) (h2 : ∀ j : Nat, j < E → l = nI j → (decide (m.1 11 j = 0)) = false → Z (some (.int (-3))) (fndM m 1)) (h4 : ∀ j : Nat, j < E → l = nI j → (decide (m.1 11 j = 0)) = true → Z (some (.int 1)) (dx_pI m 11 j 1)) : dx_Sem dx_P lx_M (d + 3) 107 [.ref 0, .int l] m Z := by
  refine dx_sem km_X4_drop rfl rfl ?_
  refine dx_blk 0 (c' := (0, [.ref 0, .int l, .null], [], m)) rfl ?_
  refine dx_blk 3 (c' := (3, [.ref 0, .int l, .null], [.int l, .int 1, .ref 0], m)) rfl ?_
  refine dx_call (id := 104) (as := [.ref 0, .int 1, .int l]) (rest := []) rfl ?_
  refine sX4_need _ hE eE true l (fun q1 => ?_) (fun j hj ej q1 q2 => ?_) (fun j hj ej q1 q2 => ?_)
  · refine dx_blk 0 (c' := (6, [.ref 0, .int l, .null], [.int (-1)], m)) rfl ?_
    refine dx_blk 2 (c' := (8, [.ref 0, .int l, .int (-1)], [.int (-1)], m)) rfl ?_
    refine dx_br (q := 0 ≤ ((-1) : Int32)) (a := 13) (b := 11) (L := [.ref 0, .int l, .int (-1)]) (st := []) (m := m) rfl (fun h => absurd h (by decide)) (fun _ => ?_)
    refine dx_blk 1 (c' := (12, [.ref 0, .int l, .int (-1)], [.int (-1)], m)) rfl ?_
    exact dx_ret (r := some (.int (-1))) rfl (h1 (by simpa using q1))
  · subst ej
    refine dx_blk 0 (c' := (6, [.ref 0, .int (nI j), .null], [.int (-3)], (fndM m 1))) rfl ?_
    refine dx_blk 2 (c' := (8, [.ref 0, .int (nI j), .int (-3)], [.int (-3)], (fndM m 1))) rfl ?_
    refine dx_br (q := 0 ≤ ((-3) : Int32)) (a := 13) (b := 11) (L := [.ref 0, .int (nI j), .int (-3)]) (st := []) (m := (fndM m 1)) rfl (fun h => absurd h (by decide)) (fun _ => ?_)
    refine dx_blk 1 (c' := (12, [.ref 0, .int (nI j), .int (-3)], [.int (-3)], (fndM m 1))) rfl ?_
    exact dx_ret (r := some (.int (-3))) rfl (h2 j hj rfl (by simp [*]))
  · subst ej
    refine dx_blk 0 (c' := (6, [.ref 0, .int (nI j), .null], [.int 0], m)) rfl ?_
    refine dx_blk 2 (c' := (8, [.ref 0, .int (nI j), .int 0], [.int 0], m)) rfl ?_
    refine dx_br (q := 0 ≤ (0 : Int32)) (a := 13) (b := 11) (L := [.ref 0, .int (nI j), .int 0]) (st := []) (m := m) rfl (fun _ => ?_) (fun h => absurd (by decide) h)
    refine dx_blk 4 (c' := (19, [.ref 0, .int (nI j), .int 0], [.int 1, .int (nI j), .ref 11], m)) rfl ?_
    refine dx_bstZ j rfl rfl rfl rfl (by omega) (Or.inr rfl) ?_
    refine dx_blk 0 (c' := (20, [.ref 0, .int (nI j), .int 0], [], dx_pI m 11 j 1)) rfl ?_
    refine dx_blk 1 (c' := (21, [.ref 0, .int (nI j), .int 0], [.int 1], dx_pI m 11 j 1)) rfl ?_
    exact dx_ret (r := some (.int 1)) rfl (h4 j hj rfl (by simp [*]))
set_option maxRecDepth 20000 in
theorem sX3_told {d : Nat} (m : dx_M) {E : Nat} (hE : E ≤ 10) (eE : m.1 0 7 = nI E) (l w : Int32) {Z : Option Value → dx_M → Prop} (h1 : (inI l 0 (nI E - 1) && inI w 0 4) = false → Z (some (.int (-1))) m) (h2 : ∀ j : Nat, j < E → l = nI j → (decide (¬ m.1 (10 + j) 0 = 0)) = false → inI w 0 4 = true → Z (some (.int (-3))) (fndX m 1)) (h4 : ∀ j : Nat, j < E → l = nI j → (decide (¬ m.1 (10 + j) 0 = 0)) = true → inI w 0 4 = true → Z (some (.int (factX m j w))) m) : dx_Sem dx_P lx_X (d + 3) 39 [.ref 0, .int l, .int w] m Z := by
  refine dx_sem km_X3_told rfl rfl ?_
  refine dx_blk 0 (c' := (0, [.ref 0, .int l, .int w], [], m)) rfl ?_
  refine dx_blk 2 (c' := (2, [.ref 0, .int l, .int w], [.int l, .ref 0], m)) rfl ?_
  refine dx_call (id := 68) (as := [.ref 0, .int l]) (rest := []) rfl ?_
  refine sX3_isLoad _ l ?_
  refine dx_blk 0 (c' := (5, [.ref 0, .int l, .int w], [.int (bI (inI l 0 (m.1 0 7 - 1)))], m)) rfl ?_
  refine dx_brB (B := (inI l 0 (m.1 0 7 - 1))) (a := 17) (b := 8) (L := [.ref 0, .int l, .int w]) (st := []) (m := m) rfl (fun h5 => ?_) (fun h5 => ?_)
  · refine dx_blk 1 (c' := (18, [.ref 0, .int l, .int w], [.int (-1)], m)) rfl ?_
    exact dx_ret (r := some (.int (-1))) rfl (h1 (by rw [eE] at h5; simp_all))
  · refine dx_blk 3 (c' := (11, [.ref 0, .int l, .int w], [.int 4, .int 0, .int w], m)) rfl ?_
    refine dx_call (id := 64) (as := [.int w, .int 0, .int 4]) (rest := []) rfl ?_
    refine sX3_within w 0 4 _ ?_
    refine dx_blk 0 (c' := (14, [.ref 0, .int l, .int w], [.int (bI (inI w 0 4))], m)) rfl ?_
    refine dx_brB (B := (inI w 0 4)) (a := 17) (b := 19) (L := [.ref 0, .int l, .int w]) (st := []) (m := m) rfl (fun h14 => ?_) (fun h14 => ?_)
    · refine dx_blk 1 (c' := (18, [.ref 0, .int l, .int w], [.int (-1)], m)) rfl ?_
      exact dx_ret (r := some (.int (-1))) rfl (h1 (by rw [eE] at h5; simp_all))
    · obtain ⟨j, hj, rfl⟩ := in_W (W := E) (x := l) (by omega) (by rw [← eE]; exact h5)
      refine dx_blk 3 (c' := (24, [.ref 0, .int (nI j), .int w], [.int (nI j), .ref 6], m)) rfl ?_
      refine dx_aadN j (q := (10 + j)) rfl rfl (Or.inl rfl) rfl (by omega) (lx_rs6 j (by omega)) ?_
      refine dx_blk 0 (c' := (25, [.ref 0, .int (nI j), .int w], [.ref (10 + j)], m)) rfl ?_
      refine dx_getS (k := (10 + j)) (v := .int (m.1 (10 + j) 0)) rfl rfl rfl rfl (lx_ld j (by omega)) rfl ?_
      refine dx_blk 0 (c' := (28, [.ref 0, .int (nI j), .int w], [.int (m.1 (10 + j) 0)], m)) rfl ?_
      refine dx_br (q := (m.1 (10 + j) 0) = 0) (a := 44) (b := 31) (L := [.ref 0, .int (nI j), .int w]) (st := []) (m := m) rfl (fun h28 => ?_) (fun h28 => ?_)
      · refine dx_blk 2 (c' := (46, [.ref 0, .int (nI j), .int w], [.int 1, .ref 0], m)) rfl ?_
        refine dx_call (id := 70) (as := [.ref 0, .int 1]) (rest := []) rfl ?_
        refine sX3_find 1 (by decide) _ ?_
        refine dx_blk 0 (c' := (49, [.ref 0, .int (nI j), .int w], [.int (-3)], (fndX m 1))) rfl ?_
        exact dx_ret (r := some (.int (-3))) rfl (h2 j hj rfl (by simp [*]) (by assumption))
      · refine dx_blk 3 (c' := (36, [.ref 0, .int (nI j), .int w], [.int (nI j), .ref 6], m)) rfl ?_
        refine dx_aadN j (q := (10 + j)) rfl rfl (Or.inl rfl) rfl (by omega) (lx_rs6 j (by omega)) ?_
        refine dx_blk 0 (c' := (37, [.ref 0, .int (nI j), .int w], [.ref (10 + j)], m)) rfl ?_
        refine dx_blk 1 (c' := (38, [.ref 0, .int (nI j), .int w], [.int w, .ref (10 + j)], m)) rfl ?_
        refine dx_call (id := 25) (as := [.ref (10 + j), .int w]) (rest := []) (dx_clV (as := [.int w]) rfl rfl rfl rfl (lx_ld j (by omega)) rfl rfl rfl (Nat.le_of_ble_eq_true rfl)) ?_
        refine sX2_fact _ (j := j) (by omega) w ?_
        refine dx_blk 0 (c' := (41, [.ref 0, .int (nI j), .int w], [.int (factX m j w)], m)) rfl ?_
        refine dx_blk 1 (c' := (49, [.ref 0, .int (nI j), .int w], [.int (factX m j w)], m)) rfl ?_
        exact dx_ret (r := some (.int (factX m j w))) rfl (h4 j hj rfl (by simp [*]) (by assumption))
set_option maxRecDepth 20000 in
theorem sX4_told {d : Nat} (m : dx_M) {E : Nat} (hE : E ≤ 10) (eE : m.1 0 11 = nI E) (l w : Int32) {Z : Option Value → dx_M → Prop} (h1 : (inI l 0 (nI E - 1) && inI w 0 4) = false → Z (some (.int (-1))) m) (h2 : ∀ j : Nat, j < E → l = nI j → (decide (m.1 11 j = 0)) = false → inI w 0 4 = true → Z (some (.int (-3))) (fndM m 1)) (h4 : ∀ j : Nat, j < E → l = nI j → (decide (m.1 11 j = 0)) = true → inI w 0 4 = true → Z (some (.int (factM m j w))) m) : dx_Sem dx_P lx_M (d + 3) 109 [.ref 0, .int l, .int w] m Z := by
  refine dx_sem km_X4_told rfl rfl ?_
  refine dx_blk 0 (c' := (0, [.ref 0, .int l, .int w, .null], [], m)) rfl ?_
  refine dx_blk 4 (c' := (4, [.ref 0, .int l, .int w, .null], [.int 4, .int 0, .int w, .ref 0], m)) rfl ?_
  refine dx_call (id := 82) (as := [.int w, .int 0, .int 4]) (rest := [.ref 0]) rfl ?_
  refine sX4_in w 0 4 _ ?_
  refine dx_blk 0 (c' := (7, [.ref 0, .int l, .int w, .null], [.int (bI (inI w 0 4)), .ref 0], m)) rfl ?_
  refine dx_blk 1 (c' := (8, [.ref 0, .int l, .int w, .null], [.int l, .int (bI (inI w 0 4)), .ref 0], m)) rfl ?_
  refine dx_call (id := 104) (as := [.ref 0, .int (bI (inI w 0 4)), .int l]) (rest := []) rfl ?_
  refine sX4_need _ hE eE (inI w 0 4) l (fun q1 => ?_) (fun j hj ej q1 q2 => ?_) (fun j hj ej q1 q2 => ?_)
  · refine dx_blk 0 (c' := (11, [.ref 0, .int l, .int w, .null], [.int (-1)], m)) rfl ?_
    refine dx_blk 2 (c' := (13, [.ref 0, .int l, .int w, .int (-1)], [.int (-1)], m)) rfl ?_
    refine dx_br (q := 0 ≤ ((-1) : Int32)) (a := 20) (b := 16) (L := [.ref 0, .int l, .int w, .int (-1)]) (st := []) (m := m) rfl (fun h => absurd h (by decide)) (fun _ => ?_)
    refine dx_blk 2 (c' := (26, [.ref 0, .int l, .int w, .int (-1)], [.int (-1)], m)) rfl ?_
    exact dx_ret (r := some (.int (-1))) rfl (h1 (by assumption))
  · subst ej
    refine dx_blk 0 (c' := (11, [.ref 0, .int (nI j), .int w, .null], [.int (-3)], (fndM m 1))) rfl ?_
    refine dx_blk 2 (c' := (13, [.ref 0, .int (nI j), .int w, .int (-3)], [.int (-3)], (fndM m 1))) rfl ?_
    refine dx_br (q := 0 ≤ ((-3) : Int32)) (a := 20) (b := 16) (L := [.ref 0, .int (nI j), .int w, .int (-3)]) (st := []) (m := (fndM m 1)) rfl (fun h => absurd h (by decide)) (fun _ => ?_)
    refine dx_blk 2 (c' := (26, [.ref 0, .int (nI j), .int w, .int (-3)], [.int (-3)], (fndM m 1))) rfl ?_
    exact dx_ret (r := some (.int (-3))) rfl (h2 j hj rfl (by simp [*]) (by assumption))
  · subst ej
    refine dx_blk 0 (c' := (11, [.ref 0, .int (nI j), .int w, .null], [.int 0], m)) rfl ?_
    refine dx_blk 2 (c' := (13, [.ref 0, .int (nI j), .int w, .int 0], [.int 0], m)) rfl ?_
    refine dx_br (q := 0 ≤ (0 : Int32)) (a := 20) (b := 16) (L := [.ref 0, .int (nI j), .int w, .int 0]) (st := []) (m := m) rfl (fun _ => ?_) (fun h => absurd (by decide) h)
    refine dx_blk 3 (c' := (23, [.ref 0, .int (nI j), .int w, .int 0], [.int w, .int (nI j), .ref 0], m)) rfl ?_
    refine dx_call (id := 108) (as := [.ref 0, .int (nI j), .int w]) (rest := []) rfl ?_
    refine sX4_toldOf _ (j := j) (by omega) w ?_
    refine dx_blk 0 (c' := (26, [.ref 0, .int (nI j), .int w, .int 0], [.int (factM m j w)], m)) rfl ?_
    exact dx_ret (r := some (.int (factM m j w))) rfl (h4 j hj rfl (by simp [*]) (by assumption))
set_option maxRecDepth 20000 in
theorem sX3_is {d : Nat} (m : dx_M) {E : Nat} (hE : E ≤ 10) (eE : m.1 0 7 = nI E) (l k : Int32) {Z : Option Value → dx_M → Prop} (h1 : (inI l 0 (nI E - 1) && inI k 0 2) = false → Z (some (.int (-1))) m) (h2 : ∀ j : Nat, j < E → l = nI j → (decide (¬ m.1 (10 + j) 0 = 0)) = false → inI k 0 2 = true → Z (some (.int (-3))) (fndX m 1)) (h4 : ∀ j : Nat, j < E → l = nI j → (decide (¬ m.1 (10 + j) 0 = 0)) = true → inI k 0 2 = true → Z (some (.int (bI (decide (k = 0) || decide (k = m.1 (10 + j) 1))))) m) : dx_Sem dx_P lx_X (d + 3) 40 [.ref 0, .int l, .int k] m Z := by
  refine dx_sem km_X3_is rfl rfl ?_
  refine dx_blk 0 (c' := (0, [.ref 0, .int l, .int k], [], m)) rfl ?_
  refine dx_blk 2 (c' := (2, [.ref 0, .int l, .int k], [.int l, .ref 0], m)) rfl ?_
  refine dx_call (id := 68) (as := [.ref 0, .int l]) (rest := []) rfl ?_
  refine sX3_isLoad _ l ?_
  refine dx_blk 0 (c' := (5, [.ref 0, .int l, .int k], [.int (bI (inI l 0 (m.1 0 7 - 1)))], m)) rfl ?_
  refine dx_brB (B := (inI l 0 (m.1 0 7 - 1))) (a := 17) (b := 8) (L := [.ref 0, .int l, .int k]) (st := []) (m := m) rfl (fun h5 => ?_) (fun h5 => ?_)
  · refine dx_blk 1 (c' := (18, [.ref 0, .int l, .int k], [.int (-1)], m)) rfl ?_
    exact dx_ret (r := some (.int (-1))) rfl (h1 (by rw [eE] at h5; simp_all))
  · refine dx_blk 3 (c' := (11, [.ref 0, .int l, .int k], [.int 2, .int 0, .int k], m)) rfl ?_
    refine dx_call (id := 64) (as := [.int k, .int 0, .int 2]) (rest := []) rfl ?_
    refine sX3_within k 0 2 _ ?_
    refine dx_blk 0 (c' := (14, [.ref 0, .int l, .int k], [.int (bI (inI k 0 2))], m)) rfl ?_
    refine dx_brB (B := (inI k 0 2)) (a := 17) (b := 19) (L := [.ref 0, .int l, .int k]) (st := []) (m := m) rfl (fun h14 => ?_) (fun h14 => ?_)
    · refine dx_blk 1 (c' := (18, [.ref 0, .int l, .int k], [.int (-1)], m)) rfl ?_
      exact dx_ret (r := some (.int (-1))) rfl (h1 (by rw [eE] at h5; simp_all))
    · obtain ⟨j, hj, rfl⟩ := in_W (W := E) (x := l) (by omega) (by rw [← eE]; exact h5)
      refine dx_blk 3 (c' := (24, [.ref 0, .int (nI j), .int k], [.int (nI j), .ref 6], m)) rfl ?_
      refine dx_aadN j (q := (10 + j)) rfl rfl (Or.inl rfl) rfl (by omega) (lx_rs6 j (by omega)) ?_
      refine dx_blk 0 (c' := (25, [.ref 0, .int (nI j), .int k], [.ref (10 + j)], m)) rfl ?_
      refine dx_getS (k := (10 + j)) (v := .int (m.1 (10 + j) 0)) rfl rfl rfl rfl (lx_ld j (by omega)) rfl ?_
      refine dx_blk 0 (c' := (28, [.ref 0, .int (nI j), .int k], [.int (m.1 (10 + j) 0)], m)) rfl ?_
      refine dx_br (q := (m.1 (10 + j) 0) = 0) (a := 31) (b := 37) (L := [.ref 0, .int (nI j), .int k]) (st := []) (m := m) rfl (fun h28 => ?_) (fun h28 => ?_)
      · refine dx_blk 2 (c' := (33, [.ref 0, .int (nI j), .int k], [.int 1, .ref 0], m)) rfl ?_
        refine dx_call (id := 70) (as := [.ref 0, .int 1]) (rest := []) rfl ?_
        refine sX3_find 1 (by decide) _ ?_
        refine dx_blk 0 (c' := (36, [.ref 0, .int (nI j), .int k], [.int (-3)], (fndX m 1))) rfl ?_
        exact dx_ret (r := some (.int (-3))) rfl (h2 j hj rfl (by simp [*]) (by assumption))
      · refine dx_blk 1 (c' := (38, [.ref 0, .int (nI j), .int k], [.int k], m)) rfl ?_
        refine dx_br (q := k = 0) (a := 54) (b := 41) (L := [.ref 0, .int (nI j), .int k]) (st := []) (m := m) rfl (fun h38 => ?_) (fun h38 => ?_)
        · refine dx_blk 2 (c' := (59, [.ref 0, .int (nI j), .int k], [.int 1], m)) rfl ?_
          exact dx_ret (r := some (.int 1)) rfl (by have q := h4 j hj rfl (by simp [*]) (by assumption); simpa [bI, *] using q)
        · refine dx_blk 4 (c' := (47, [.ref 0, .int (nI j), .int k], [.int (nI j), .ref 6, .int k], m)) rfl ?_
          refine dx_aadN j (q := (10 + j)) rfl rfl (Or.inl rfl) rfl (by omega) (lx_rs6 j (by omega)) ?_
          refine dx_blk 0 (c' := (48, [.ref 0, .int (nI j), .int k], [.ref (10 + j), .int k], m)) rfl ?_
          refine dx_getS (k := (10 + j)) (v := .int (m.1 (10 + j) 1)) rfl rfl rfl rfl (lx_ld j (by omega)) rfl ?_
          refine dx_blk 0 (c' := (51, [.ref 0, .int (nI j), .int k], [.int (m.1 (10 + j) 1), .int k], m)) rfl ?_
          refine dx_br (q := k = (m.1 (10 + j) 1)) (a := 54) (b := 58) (L := [.ref 0, .int (nI j), .int k]) (st := []) (m := m) rfl (fun h51 => ?_) (fun h51 => ?_)
          · refine dx_blk 2 (c' := (59, [.ref 0, .int (nI j), .int k], [.int 1], m)) rfl ?_
            exact dx_ret (r := some (.int 1)) rfl (by have q := h4 j hj rfl (by simp [*]) (by assumption); simpa [bI, *] using q)
          · refine dx_blk 1 (c' := (59, [.ref 0, .int (nI j), .int k], [.int 0], m)) rfl ?_
            exact dx_ret (r := some (.int 0)) rfl (by have q := h4 j hj rfl (by simp [*]) (by assumption); simpa [bI, *] using q)
set_option maxRecDepth 20000 in
theorem sX4_is {d : Nat} (m : dx_M) {E : Nat} (hE : E ≤ 10) (eE : m.1 0 11 = nI E) (l k : Int32) {Z : Option Value → dx_M → Prop} (h1 : (inI l 0 (nI E - 1) && inI k 0 2) = false → Z (some (.int (-1))) m) (h2 : ∀ j : Nat, j < E → l = nI j → (decide (m.1 11 j = 0)) = false → inI k 0 2 = true → Z (some (.int (-3))) (fndM m 1)) (h4 : ∀ j : Nat, j < E → l = nI j → (decide (m.1 11 j = 0)) = true → inI k 0 2 = true → Z (some (.int (bI (decide (k = 0) || decide (k = m.1 6 j))))) m) : dx_Sem dx_P lx_M (d + 3) 110 [.ref 0, .int l, .int k] m Z := by
  refine dx_sem km_X4_is rfl rfl ?_
  refine dx_blk 0 (c' := (0, [.ref 0, .int l, .int k, .null], [], m)) rfl ?_
  refine dx_blk 4 (c' := (4, [.ref 0, .int l, .int k, .null], [.int 2, .int 0, .int k, .ref 0], m)) rfl ?_
  refine dx_call (id := 82) (as := [.int k, .int 0, .int 2]) (rest := [.ref 0]) rfl ?_
  refine sX4_in k 0 2 _ ?_
  refine dx_blk 0 (c' := (7, [.ref 0, .int l, .int k, .null], [.int (bI (inI k 0 2)), .ref 0], m)) rfl ?_
  refine dx_blk 1 (c' := (8, [.ref 0, .int l, .int k, .null], [.int l, .int (bI (inI k 0 2)), .ref 0], m)) rfl ?_
  refine dx_call (id := 104) (as := [.ref 0, .int (bI (inI k 0 2)), .int l]) (rest := []) rfl ?_
  refine sX4_need _ hE eE (inI k 0 2) l (fun q1 => ?_) (fun j hj ej q1 q2 => ?_) (fun j hj ej q1 q2 => ?_)
  · refine dx_blk 0 (c' := (11, [.ref 0, .int l, .int k, .null], [.int (-1)], m)) rfl ?_
    refine dx_blk 2 (c' := (13, [.ref 0, .int l, .int k, .int (-1)], [.int (-1)], m)) rfl ?_
    refine dx_br (q := 0 ≤ ((-1) : Int32)) (a := 20) (b := 16) (L := [.ref 0, .int l, .int k, .int (-1)]) (st := []) (m := m) rfl (fun h => absurd h (by decide)) (fun _ => ?_)
    refine dx_blk 2 (c' := (39, [.ref 0, .int l, .int k, .int (-1)], [.int (-1)], m)) rfl ?_
    exact dx_ret (r := some (.int (-1))) rfl (h1 (by assumption))
  · subst ej
    refine dx_blk 0 (c' := (11, [.ref 0, .int (nI j), .int k, .null], [.int (-3)], (fndM m 1))) rfl ?_
    refine dx_blk 2 (c' := (13, [.ref 0, .int (nI j), .int k, .int (-3)], [.int (-3)], (fndM m 1))) rfl ?_
    refine dx_br (q := 0 ≤ ((-3) : Int32)) (a := 20) (b := 16) (L := [.ref 0, .int (nI j), .int k, .int (-3)]) (st := []) (m := (fndM m 1)) rfl (fun h => absurd h (by decide)) (fun _ => ?_)
    refine dx_blk 2 (c' := (39, [.ref 0, .int (nI j), .int k, .int (-3)], [.int (-3)], (fndM m 1))) rfl ?_
    exact dx_ret (r := some (.int (-3))) rfl (h2 j hj rfl (by simp [*]) (by assumption))
  · subst ej
    refine dx_blk 0 (c' := (11, [.ref 0, .int (nI j), .int k, .null], [.int 0], m)) rfl ?_
    refine dx_blk 2 (c' := (13, [.ref 0, .int (nI j), .int k, .int 0], [.int 0], m)) rfl ?_
    refine dx_br (q := 0 ≤ (0 : Int32)) (a := 20) (b := 16) (L := [.ref 0, .int (nI j), .int k, .int 0]) (st := []) (m := m) rfl (fun _ => ?_) (fun h => absurd (by decide) h)
    refine dx_blk 1 (c' := (21, [.ref 0, .int (nI j), .int k, .int 0], [.int k], m)) rfl ?_
    refine dx_br (q := k = 0) (a := 34) (b := 24) (L := [.ref 0, .int (nI j), .int k, .int 0]) (st := []) (m := m) rfl (fun h21 => ?_) (fun h21 => ?_)
    · refine dx_blk 2 (c' := (39, [.ref 0, .int (nI j), .int k, .int 0], [.int 1], m)) rfl ?_
      exact dx_ret (r := some (.int 1)) rfl (by have q := h4 j hj rfl (by simp [*]) (by assumption); simp only [eq_comm (a := k) (b := m.1 6 j)] at q; simpa [bI, *] using q)
    · refine dx_blk 3 (c' := (29, [.ref 0, .int (nI j), .int k, .int 0], [.int (nI j), .ref 6], m)) rfl ?_
      refine dx_aldN j rfl rfl rfl rfl (by omega) ?_
      refine dx_blk 0 (c' := (30, [.ref 0, .int (nI j), .int k, .int 0], [.int (m.1 6 j)], m)) rfl ?_
      refine dx_blk 1 (c' := (31, [.ref 0, .int (nI j), .int k, .int 0], [.int k, .int (m.1 6 j)], m)) rfl ?_
      refine dx_br (q := (m.1 6 j) = k) (a := 34) (b := 38) (L := [.ref 0, .int (nI j), .int k, .int 0]) (st := []) (m := m) rfl (fun h31 => ?_) (fun h31 => ?_)
      · refine dx_blk 2 (c' := (39, [.ref 0, .int (nI j), .int k, .int 0], [.int 1], m)) rfl ?_
        exact dx_ret (r := some (.int 1)) rfl (by have q := h4 j hj rfl (by simp [*]) (by assumption); simp only [eq_comm (a := k) (b := m.1 6 j)] at q; simpa [bI, *] using q)
      · refine dx_blk 1 (c' := (39, [.ref 0, .int (nI j), .int k, .int 0], [.int 0], m)) rfl ?_
        exact dx_ret (r := some (.int 0)) rfl (by have q := h4 j hj rfl (by simp [*]) (by assumption); simp only [eq_comm (a := k) (b := m.1 6 j)] at q; simpa [bI, *] using q)
