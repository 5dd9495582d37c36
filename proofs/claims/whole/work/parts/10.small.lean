/-! small methods (printed by wip/whole/g10.py) -/
set_option maxRecDepth 20000 in
theorem sX3_within {lay : List dx_Cell} {d : Nat} (n a b : Int32) (m : dx_M) {Z : Option Value → dx_M → Prop} (h : Z (some (.int (bI (inI n a b)))) m) : dx_Sem dx_P lay (d + 1) 64 [.int n, .int a, .int b] m Z := by
  refine dx_sem km_X3_within rfl rfl ?_
  refine dx_blk 0 (c' := (0, [.int n, .int a, .int b], [], m)) rfl ?_
  refine dx_blk 2 (c' := (2, [.int n, .int a, .int b], [.int a, .int n], m)) rfl ?_
  refine dx_br (q := n < a) (a := 14) (b := 5) (L := [.int n, .int a, .int b]) (st := []) (m := m) rfl (fun h2 => ?_) (fun h2 => ?_)
  · refine dx_blk 1 (c' := (15, [.int n, .int a, .int b], [.int 0], m)) rfl ?_
    exact dx_ret (r := some (.int 0)) rfl (by first | (rw [bI_f (inI_lt (by assumption))] at h; exact h) | (rw [bI_f (inI_gt (by assumption))] at h; exact h) | (rw [bI_t (inI_in (by assumption) (by assumption))] at h; exact h))
  · refine dx_blk 2 (c' := (7, [.int n, .int a, .int b], [.int b, .int n], m)) rfl ?_
    refine dx_br (q := b < n) (a := 14) (b := 10) (L := [.int n, .int a, .int b]) (st := []) (m := m) rfl (fun h7 => ?_) (fun h7 => ?_)
    · refine dx_blk 1 (c' := (15, [.int n, .int a, .int b], [.int 0], m)) rfl ?_
      exact dx_ret (r := some (.int 0)) rfl (by first | (rw [bI_f (inI_lt (by assumption))] at h; exact h) | (rw [bI_f (inI_gt (by assumption))] at h; exact h) | (rw [bI_t (inI_in (by assumption) (by assumption))] at h; exact h))
    · refine dx_blk 2 (c' := (15, [.int n, .int a, .int b], [.int 1], m)) rfl ?_
      exact dx_ret (r := some (.int 1)) rfl (by first | (rw [bI_f (inI_lt (by assumption))] at h; exact h) | (rw [bI_f (inI_gt (by assumption))] at h; exact h) | (rw [bI_t (inI_in (by assumption) (by assumption))] at h; exact h))
set_option maxRecDepth 20000 in
theorem sX4_in {lay : List dx_Cell} {d : Nat} (n a b : Int32) (m : dx_M) {Z : Option Value → dx_M → Prop} (h : Z (some (.int (bI (inI n a b)))) m) : dx_Sem dx_P lay (d + 1) 82 [.int n, .int a, .int b] m Z := by
  refine dx_sem km_X4_in rfl rfl ?_
  refine dx_blk 0 (c' := (0, [.int n, .int a, .int b], [], m)) rfl ?_
  refine dx_blk 2 (c' := (2, [.int n, .int a, .int b], [.int a, .int n], m)) rfl ?_
  refine dx_br (q := n < a) (a := 14) (b := 5) (L := [.int n, .int a, .int b]) (st := []) (m := m) rfl (fun h2 => ?_) (fun h2 => ?_)
  · refine dx_blk 1 (c' := (15, [.int n, .int a, .int b], [.int 0], m)) rfl ?_
    exact dx_ret (r := some (.int 0)) rfl (by first | (rw [bI_f (inI_lt (by assumption))] at h; exact h) | (rw [bI_f (inI_gt (by assumption))] at h; exact h) | (rw [bI_t (inI_in (by assumption) (by assumption))] at h; exact h))
  · refine dx_blk 2 (c' := (7, [.int n, .int a, .int b], [.int b, .int n], m)) rfl ?_
    refine dx_br (q := b < n) (a := 14) (b := 10) (L := [.int n, .int a, .int b]) (st := []) (m := m) rfl (fun h7 => ?_) (fun h7 => ?_)
    · refine dx_blk 1 (c' := (15, [.int n, .int a, .int b], [.int 0], m)) rfl ?_
      exact dx_ret (r := some (.int 0)) rfl (by first | (rw [bI_f (inI_lt (by assumption))] at h; exact h) | (rw [bI_f (inI_gt (by assumption))] at h; exact h) | (rw [bI_t (inI_in (by assumption) (by assumption))] at h; exact h))
    · refine dx_blk 2 (c' := (15, [.int n, .int a, .int b], [.int 1], m)) rfl ?_
      exact dx_ret (r := some (.int 1)) rfl (by first | (rw [bI_f (inI_lt (by assumption))] at h; exact h) | (rw [bI_f (inI_gt (by assumption))] at h; exact h) | (rw [bI_t (inI_in (by assumption) (by assumption))] at h; exact h))
set_option maxRecDepth 20000 in
theorem sX3_isTurn {lay : List dx_Cell} {d : Nat} (n : Int32) (m : dx_M) {Z : Option Value → dx_M → Prop} (h : Z (some (.int (bI (inI n 0 3)))) m) : dx_Sem dx_P lay (d + 2) 65 [.int n] m Z := by
  refine dx_sem km_X3_isTurn rfl rfl ?_
  refine dx_blk 0 (c' := (0, [.int n], [], m)) rfl ?_
  refine dx_blk 3 (c' := (3, [.int n], [.int 3, .int 0, .int n], m)) rfl ?_
  refine dx_call (id := 64) (as := [.int n, .int 0, .int 3]) (rest := []) rfl ?_
  refine sX3_within n 0 3 _ ?_
  refine dx_blk 0 (c' := (6, [.int n], [.int (bI (inI n 0 3))], m)) rfl ?_
  exact dx_ret (r := some (.int (bI (inI n 0 3)))) (if_pos (bI_01 _)) h
set_option maxRecDepth 20000 in
theorem sX3_isSheet {lay : List dx_Cell} {d : Nat} (n : Int32) (m : dx_M) {Z : Option Value → dx_M → Prop} (h : Z (some (.int (bI (inI n 0 5)))) m) : dx_Sem dx_P lay (d + 2) 66 [.int n] m Z := by
  refine dx_sem km_X3_isSheet rfl rfl ?_
  refine dx_blk 0 (c' := (0, [.int n], [], m)) rfl ?_
  refine dx_blk 3 (c' := (3, [.int n], [.int 5, .int 0, .int n], m)) rfl ?_
  refine dx_call (id := 64) (as := [.int n, .int 0, .int 5]) (rest := []) rfl ?_
  refine sX3_within n 0 5 _ ?_
  refine dx_blk 0 (c' := (6, [.int n], [.int (bI (inI n 0 5))], m)) rfl ?_
  exact dx_ret (r := some (.int (bI (inI n 0 5)))) (if_pos (bI_01 _)) h
set_option maxRecDepth 20000 in
theorem sX4_isSheet {lay : List dx_Cell} {d : Nat} (n : Int32) (m : dx_M) {Z : Option Value → dx_M → Prop} (h : Z (some (.int (bI (inI n 0 5)))) m) : dx_Sem dx_P lay (d + 2) 96 [.int n] m Z := by
  refine dx_sem km_X4_isSheet rfl rfl ?_
  refine dx_blk 0 (c' := (0, [.int n], [], m)) rfl ?_
  refine dx_blk 3 (c' := (3, [.int n], [.int 5, .int 0, .int n], m)) rfl ?_
  refine dx_call (id := 82) (as := [.int n, .int 0, .int 5]) (rest := []) rfl ?_
  refine sX4_in n 0 5 _ ?_
  refine dx_blk 0 (c' := (6, [.int n], [.int (bI (inI n 0 5))], m)) rfl ?_
  exact dx_ret (r := some (.int (bI (inI n 0 5)))) (if_pos (bI_01 _)) h
set_option maxRecDepth 20000 in
theorem sX3_isPoint {lay : List dx_Cell} {d : Nat} (a b : Int32) (m : dx_M) {Z : Option Value → dx_M → Prop} (h : Z (some (.int (bI (inI a 0 24 && inI b 0 24)))) m) : dx_Sem dx_P lay (d + 2) 67 [.int a, .int b] m Z := by
  refine dx_sem km_X3_isPoint rfl rfl ?_
  refine dx_blk 0 (c' := (0, [.int a, .int b], [], m)) rfl ?_
  refine dx_blk 3 (c' := (4, [.int a, .int b], [.int 24, .int 0, .int a], m)) rfl ?_
  refine dx_call (id := 64) (as := [.int a, .int 0, .int 24]) (rest := []) rfl ?_
  refine sX3_within a 0 24 _ ?_
  refine dx_blk 0 (c' := (7, [.int a, .int b], [.int (bI (inI a 0 24))], m)) rfl ?_
  refine dx_brB (B := (inI a 0 24)) (a := 24) (b := 10) (L := [.int a, .int b]) (st := []) (m := m) rfl (fun h7 => ?_) (fun h7 => ?_)
  · refine dx_blk 1 (c' := (25, [.int a, .int b], [.int 0], m)) rfl ?_
    exact dx_ret (r := some (.int 0)) rfl (by simpa [bI, *] using h)
  · refine dx_blk 3 (c' := (14, [.int a, .int b], [.int 24, .int 0, .int b], m)) rfl ?_
    refine dx_call (id := 64) (as := [.int b, .int 0, .int 24]) (rest := []) rfl ?_
    refine sX3_within b 0 24 _ ?_
    refine dx_blk 0 (c' := (17, [.int a, .int b], [.int (bI (inI b 0 24))], m)) rfl ?_
    refine dx_brB (B := (inI b 0 24)) (a := 24) (b := 20) (L := [.int a, .int b]) (st := []) (m := m) rfl (fun h17 => ?_) (fun h17 => ?_)
    · refine dx_blk 1 (c' := (25, [.int a, .int b], [.int 0], m)) rfl ?_
      exact dx_ret (r := some (.int 0)) rfl (by simpa [bI, *] using h)
    · refine dx_blk 2 (c' := (25, [.int a, .int b], [.int 1], m)) rfl ?_
      exact dx_ret (r := some (.int 1)) rfl (by simpa [bI, *] using h)
set_option maxRecDepth 20000 in
theorem sX4_isPoint {lay : List dx_Cell} {d : Nat} (a b : Int32) (m : dx_M) {Z : Option Value → dx_M → Prop} (h : Z (some (.int (bI (inI a 0 24 && inI b 0 24)))) m) : dx_Sem dx_P lay (d + 2) 102 [.int a, .int b] m Z := by
  refine dx_sem km_X4_isPoint rfl rfl ?_
  refine dx_blk 0 (c' := (0, [.int a, .int b], [], m)) rfl ?_
  refine dx_blk 3 (c' := (4, [.int a, .int b], [.int 24, .int 0, .int a], m)) rfl ?_
  refine dx_call (id := 82) (as := [.int a, .int 0, .int 24]) (rest := []) rfl ?_
  refine sX4_in a 0 24 _ ?_
  refine dx_blk 0 (c' := (7, [.int a, .int b], [.int (bI (inI a 0 24))], m)) rfl ?_
  refine dx_brB (B := (inI a 0 24)) (a := 24) (b := 10) (L := [.int a, .int b]) (st := []) (m := m) rfl (fun h7 => ?_) (fun h7 => ?_)
  · refine dx_blk 1 (c' := (25, [.int a, .int b], [.int 0], m)) rfl ?_
    exact dx_ret (r := some (.int 0)) rfl (by simpa [bI, *] using h)
  · refine dx_blk 3 (c' := (14, [.int a, .int b], [.int 24, .int 0, .int b], m)) rfl ?_
    refine dx_call (id := 82) (as := [.int b, .int 0, .int 24]) (rest := []) rfl ?_
    refine sX4_in b 0 24 _ ?_
    refine dx_blk 0 (c' := (17, [.int a, .int b], [.int (bI (inI b 0 24))], m)) rfl ?_
    refine dx_brB (B := (inI b 0 24)) (a := 24) (b := 20) (L := [.int a, .int b]) (st := []) (m := m) rfl (fun h17 => ?_) (fun h17 => ?_)
    · refine dx_blk 1 (c' := (25, [.int a, .int b], [.int 0], m)) rfl ?_
      exact dx_ret (r := some (.int 0)) rfl (by simpa [bI, *] using h)
    · refine dx_blk 2 (c' := (25, [.int a, .int b], [.int 1], m)) rfl ?_
      exact dx_ret (r := some (.int 1)) rfl (by simpa [bI, *] using h)
