set_option maxRecDepth 10000 in
theorem sm_within {lay : List dx_Cell} {d : Nat} (n a b : Int32) (m : dx_M) (Z : Option Value → dx_M → Prop) (h : Z (some (.int (if n < a then 0 else if b < n then 0 else 1))) m) : dx_Sem dx_P lay (d + 1) 64 [.int n, .int a, .int b] m Z := by
  refine dx_sem km_X3_within rfl rfl ?_
  refine dx_blk 2 (c' := (2, [.int n, .int a, .int b], [.int a, .int n], m)) rfl ?_
  refine dx_br (q := n < a) (a := 14) (b := 5) (L := [.int n, .int a, .int b]) (st := []) (m := m) rfl (fun h1 => ?_) (fun h1 => ?_)
  · rw [if_pos h1] at h
    refine dx_blk 1 (c' := (15, [.int n, .int a, .int b], [.int 0], m)) rfl ?_
    exact dx_ret (r := some (.int 0)) rfl h
  · rw [if_neg h1] at h
    refine dx_blk 2 (c' := (7, [.int n, .int a, .int b], [.int b, .int n], m)) rfl ?_
    refine dx_br (q := b < n) (a := 14) (b := 10) (L := [.int n, .int a, .int b]) (st := []) (m := m) rfl (fun h1 => ?_) (fun h1 => ?_)
    · rw [if_pos h1] at h
      refine dx_blk 1 (c' := (15, [.int n, .int a, .int b], [.int 0], m)) rfl ?_
      exact dx_ret (r := some (.int 0)) rfl h
    · rw [if_neg h1] at h
      refine dx_blk 2 (c' := (15, [.int n, .int a, .int b], [.int 1], m)) rfl ?_
      exact dx_ret (r := some (.int 1)) rfl h
