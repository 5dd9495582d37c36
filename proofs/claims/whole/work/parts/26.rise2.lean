/-! riseTo: the water rises to a row (printed by wip/whole/g26.py) -/
theorem row_nle {k t : Nat} (h : k ≤ t) (ht : t < 100) : ¬ nI t ≤ nI k - 1 := by
  rw [fa_le, nI_toInt (by omega), show (nI k - 1).toInt = (k : Int) - 1 from pk_sub_toInt (a := k) (b := 1) (by omega) (by decide)]
  omega
theorem row_1 (k : Nat) : nI k - 1 + 1 = nI k := Int32.sub_add_cancel _ _
set_option maxRecDepth 20000 in
theorem lp_rise {d : Nat} {Z : Option Value → dx_M → Prop} {op : Nat → Nat → Bool} {w h t : Nat} (ht : t < h) : ∀ (n k : Nat) (m : dx_M), k + n = t + 1 → LX m op w h k → (∀ m', LX m' op w h (t + 1) → keepX m m' → m'.2 = m.2 → dx_Go (d + 1) (dx_Sem dx_P lx_X (d + 1)) lx_X km_X1_riseTo Z (65, [.ref 3, .int (nI t)], [], m')) → dx_Go (d + 1) (dx_Sem dx_P lx_X (d + 1)) lx_X km_X1_riseTo Z (0, [.ref 3, .int (nI t)], [], m) := by
  intro n
  induction n with
  | zero =>
    intro k m hk hl hz
    obtain rfl : k = t + 1 := by omega
    obtain ⟨a1, a2, a3, a4, a5, a6, a7, a8, a9⟩ := id hl
    refine dx_blk 0 (c' := (0, [.ref 3, .int (nI t)], [], m)) rfl ?_
    refine dx_blk 3 (c' := (5, [.ref 3, .int (nI t)], [.int (nI t), .int (m.1 3 4)], m)) rfl ?_
    refine dx_br (q := (nI t) ≤ (m.1 3 4)) (a := 65) (b := 8) (L := [.ref 3, .int (nI t)]) (st := []) (m := m) rfl (fun _ => ?_) (fun h => absurd (by rw [a7, show nI (t + 1) - 1 = nI t from nI_pred t]; exact nI_le (Nat.le_refl _) (by omega)) h)
    exact hz m hl (keepX_rf m) rfl
  | succ n ih =>
    intro k m hk hl hz
    obtain ⟨a1, a2, a3, a4, a5, a6, a7, a8, a9⟩ := id hl
    have erow : m.1 3 4 + 1 = nI k := by rw [a7, row_1]
    refine dx_blk 0 (c' := (0, [.ref 3, .int (nI t)], [], m)) rfl ?_
    refine dx_blk 3 (c' := (5, [.ref 3, .int (nI t)], [.int (nI t), .int (m.1 3 4)], m)) rfl ?_
    refine dx_br (q := (nI t) ≤ (m.1 3 4)) (a := 65) (b := 8) (L := [.ref 3, .int (nI t)]) (st := []) (m := m) rfl (fun h => absurd h (by rw [a7]; exact row_nle (by omega) (by omega))) (fun _ => ?_)
    refine dx_blk 6 (c' := (18, [.ref 3, .int (nI t)], [.int (m.1 3 3), .int ((m.1 3 4) + 1)], m)) rfl ?_
    refine dx_br (q := (m.1 3 3) ≤ ((m.1 3 4) + 1)) (a := 65) (b := 21) (L := [.ref 3, .int (nI t)]) (st := []) (m := m) rfl (fun h => absurd h (by rw [erow, a6]; exact nI_ge (by omega) (by omega))) (fun _ => ?_)
    refine dx_blk 14 (c' := (47, [.ref 3, .int (nI t)], [.int ((m.1 3 4) + 1), .ref 4, .int ((m.1 3 4) + 1), .ref 5], dx_pI m 3 4 ((m.1 3 4) + 1))) rfl ?_
    refine dx_aldN k rfl rfl rfl erow (by omega) ?_
    refine dx_blk 0 (c' := (48, [.ref 3, .int (nI t)], [.int (m.1 4 k), .int ((m.1 3 4) + 1), .ref 5], dx_pI m 3 4 ((m.1 3 4) + 1))) rfl ?_
    refine dx_blk 3 (c' := (53, [.ref 3, .int (nI t)], [.int ((m.1 3 4) + 1), .ref 3, .int (m.1 4 k), .int ((m.1 3 4) + 1), .ref 5], dx_pI m 3 4 ((m.1 3 4) + 1))) rfl ?_
    refine dx_call (id := 12) (as := [.ref 3, .int ((m.1 3 4) + 1)]) (rest := [.int (m.1 4 k), .int ((m.1 3 4) + 1), .ref 5]) rfl ?_
    refine sX1_waysInto _ ((m.1 3 4) + 1) ?_
    refine dx_blk 0 (c' := (56, [.ref 3, .int (nI t)], [.int (wyI (m.1 3 2) ((m.1 3 4) + 1)), .int (m.1 4 k), .int ((m.1 3 4) + 1), .ref 5], dx_pI m 3 4 ((m.1 3 4) + 1))) rfl ?_
    refine dx_blk 1 (c' := (57, [.ref 3, .int (nI t)], [.int ((m.1 4 k) &&& (wyI (m.1 3 2) ((m.1 3 4) + 1))), .int ((m.1 3 4) + 1), .ref 5], dx_pI m 3 4 ((m.1 3 4) + 1))) rfl ?_
    refine dx_astN k rfl rfl rfl erow (by omega) ?_
    refine dx_blk 0 (c' := (58, [.ref 3, .int (nI t)], [], dx_pI (dx_pI m 3 4 ((m.1 3 4) + 1)) 5 k ((m.1 4 k) &&& (wyI (m.1 3 2) ((m.1 3 4) + 1))))) rfl ?_
    refine dx_blk 1 (c' := (59, [.ref 3, .int (nI t)], [.ref 3], dx_pI (dx_pI m 3 4 ((m.1 3 4) + 1)) 5 k ((m.1 4 k) &&& (wyI (m.1 3 2) ((m.1 3 4) + 1))))) rfl ?_
    refine dx_call (id := 13) (as := [.ref 3]) (rest := []) rfl ?_
    refine sX1_spread _ (r := k) (by omega) erow ?_
    refine dx_blk 0 (c' := (62, [.ref 3, .int (nI t)], [], dx_pR (dx_pI (dx_pI m 3 4 ((m.1 3 4) + 1)) 5 k ((m.1 4 k) &&& (wyI (m.1 3 2) ((m.1 3 4) + 1)))) 5 (spI (m.1 4) k 145 (upd (m.1 5) k (m.1 4 k &&& wyI (m.1 3 2) (m.1 3 4 + 1)))))) rfl ?_
    refine dx_blk 1 (c' := (0, [.ref 3, .int (nI t)], [], dx_pR (dx_pI (dx_pI m 3 4 ((m.1 3 4) + 1)) 5 k ((m.1 4 k) &&& (wyI (m.1 3 2) ((m.1 3 4) + 1)))) 5 (spI (m.1 4) k 145 (upd (m.1 5) k (m.1 4 k &&& wyI (m.1 3 2) (m.1 3 4 + 1)))))) rfl ?_
    refine ih (k + 1) _ (by omega) ?_ (fun m' h1 h2 h3 => hz m' h1 (keepX_tr ?_ h2) (h3.trans rfl))
    · refine ⟨a1, a2, a3, by omega, a5, a6, ?_, a8, fun y hy => ?_⟩
      · show m.1 3 4 + 1 = nI (k + 1) - 1
        rw [erow, nI_pred]
      · rw [Nat.add_sub_cancel]
        show spI (m.1 4) k 145 (upd (m.1 5) k (m.1 4 k &&& wyI (m.1 3 2) (m.1 3 4 + 1))) y = _
        rw [a5, erow]
        exact rise_row hl (by omega) y (by omega)
    · refine ⟨fun q h3 h4 h5 => ?_, fun q _ => rfl⟩
      simp [dx_pI, dx_pR, h3, h5]
set_option maxRecDepth 20000 in
/-- riseTo(t): the water stands in rows 0 to t -/
theorem sX1_riseTo {d : Nat} (m : dx_M) {Z : Option Value → dx_M → Prop} {op : Nat → Nat → Bool} {w h k t : Nat} (hl : LX m op w h k) (hk : k ≤ t + 1) (ht : t < h) (hz : ∀ m', LF m' op w h t → keepX m m' → m'.2 = m.2 → Z none m') : dx_Sem dx_P lx_X (d + 4) 11 [.ref 3, .int (nI t)] m Z := by
  refine dx_sem km_X1_riseTo rfl rfl ?_
  refine dx_blk 0 (c' := (0, [.ref 3, .int (nI t)], [], m)) rfl ?_
  refine lp_rise (d := d + 2) ht (t + 1 - k) k m (by omega) hl (fun m1 hl1 hk1 hm1 => ?_)
  obtain ⟨a1, a2, a3, a4, a5, a6, a7, a8, a9⟩ := id hl1
  have er : m1.1 3 4 = nI t := by rw [a7, nI_pred]
  refine dx_blk 0 (c' := (65, [.ref 3, .int (nI t)], [], m1)) rfl ?_
  refine dx_blk 1 (c' := (66, [.ref 3, .int (nI t)], [.ref 3], m1)) rfl ?_
  refine dx_call (id := 15) (as := [.ref 3]) (rest := []) rfl ?_
  refine sX1_countFirm _ (r := t) (by omega) er ?_
  refine dx_blk 0 (c' := (69, [.ref 3, .int (nI t)], [], dx_pI (dx_pI m1 3 5 (nf (st_fb (m1.1 3 2) (m1.1 5)) t 0)) 3 6 (bcI (fmI (m1.1 3 2) (m1.1 5 t))))) rfl ?_
  exact dx_ret (r := none) rfl (by
    refine hz _ ⟨⟨a1, a2, a3, a4, a5, a6, a7, a8, a9⟩, ?_, ?_⟩ (keepX_tr hk1 ?_) hm1
    · show nf (st_fb (m1.1 3 2) (m1.1 5)) t 0 = _
      rw [a5]
      exact fb_ok hl1 t (Nat.le_refl t)
    · show bcI (fmI (m1.1 3 2) (m1.1 5 t)) = _
      rw [a5, a9 t (by omega), Nat.add_sub_cancel, fm_IM a2, bc_IM a2]
      rfl
    · exact ⟨fun q h3 h4 h5 => (by simp [dx_pI, dx_pR, h3]), fun q _ => rfl⟩)
