/-! what the water bears, its moments, the line (printed by wip/whole/g27.py) -/
noncomputable def rmN (op : Nat → Nat → Bool) (w r : Nat) : Nat := fB op w r + fA op w r
noncomputable def mxN (op : Nat → Nat → Bool) (w : Nat) : Nat → Nat
  | 0 => 0
  | r + 1 => if mxN op w r < rmN op w r then rmN op w r else mxN op w r
theorem mxN_succ (op : Nat → Nat → Bool) (w r : Nat) : mxN op w (r + 1) = if mxN op w r < rmN op w r then rmN op w r else mxN op w r := rfl
theorem fA_le (op : Nat → Nat → Bool) {w : Nat} (r : Nat) (hw : w ≤ 12) : fA op w r ≤ 12 := Nat.le_trans (fb_ct_le _ w) hw
theorem fB_le (op : Nat → Nat → Bool) {w r : Nat} (hw : w ≤ 12) (hr : r ≤ 12) : fB op w r ≤ 144 := by
  have h := fb_sm_bound (f := fun y => fb_ct (fun x => !wetB op w r y x) w) (c := w) (n := r) (fun k _ => fb_ct_le _ w)
  have h2 : r * w ≤ 12 * 12 := Nat.mul_le_mul hr hw
  unfold fB
  omega
theorem rm_le (op : Nat → Nat → Bool) {w r : Nat} (hw : w ≤ 12) (hr : r < 12) : rmN op w r ≤ 156 := by
  have h1 := fA_le op r hw
  have h2 := fB_le op hw (show r ≤ 12 by omega)
  unfold rmN
  omega
theorem mx_le (op : Nat → Nat → Bool) {w : Nat} (hw : w ≤ 12) : ∀ r, r ≤ 12 → mxN op w r ≤ 156
  | 0, _ => Nat.zero_le _
  | r + 1, h => by
    unfold mxN
    have h1 := mx_le op hw r (by omega)
    have h2 := rm_le op hw (show r < 12 by omega)
    by_cases q : mxN op w r < rmN op w r
    · rw [if_pos q]; exact h2
    · rw [if_neg q]; exact h1
theorem rm_I {op : Nat → Nat → Bool} {w h r : Nat} {m : dx_M} (hl : LF m op w h r) : m.1 3 5 + m.1 3 6 = nI (rmN op w r) := by
  rw [hl.2.1, hl.2.2, nI_add]
  rfl
theorem LF_row {op : Nat → Nat → Bool} {w h r : Nat} {m : dx_M} (hl : LF m op w h r) : m.1 3 4 = nI r := by
  have a7 := hl.1.2.2.2.2.2.2.1
  rw [a7, nI_pred]
theorem LF_wet {op : Nat → Nat → Bool} {w h r : Nat} {m : dx_M} (hl : LF m op w h r) {y : Nat} (hy : y ≤ r) : fmI (m.1 3 2) (m.1 5 y) = IM (fun x => !wetB op w r y x) w := by
  obtain ⟨a1, a2, a3, a4, a5, a6, a7, a8, a9⟩ := hl.1
  rw [a5, a9 y (by omega), Nat.add_sub_cancel, fm_IM a2]
set_option maxRecDepth 20000 in
theorem lp_bears {d : Nat} {Z : Option Value → dx_M → Prop} {op : Nat → Nat → Bool} {w h Wt D : Nat} (hWt : Wt ≤ 7000) (hD : D ≤ 20) (m0 : dx_M) (h1 : ∀ m', (∀ r, r < h → ¬ Wt ≤ rmN op w r * D) → keepX m0 m' → Z (some (.int 0)) m') (h2 : ∀ (r : Nat) (m' : dx_M), r < h → Wt ≤ rmN op w r * D → (∀ r', r' < r → ¬ Wt ≤ rmN op w r' * D) → LF m' op w h r → m'.2 3 7 = (nI Wt - nI (fB op w r) * nI D).toInt64 → m'.2 3 8 = (nI (fA op w r) * nI D).toInt64 → keepX m0 m' → Z (some (.int 1)) m') : ∀ (n y : Nat) (m : dx_M), y + n = h → LX m op w h y → keepX m0 m → (∀ r, r < y → ¬ Wt ≤ rmN op w r * D) → dx_Go (d + 4) (dx_Sem dx_P lx_X (d + 4)) lx_X km_X1_bears Z (2, [.ref 3, .int (nI Wt), .int (nI D), .int (nI y)], [], m) := by
  intro n
  induction n with
  | zero =>
    intro y m hy hl hk hno
    obtain rfl : y = h := by omega
    obtain ⟨a1, a2, a3, a4, a5, a6, a7, a8, a9⟩ := id hl
    refine dx_blk 0 (c' := (2, [.ref 3, .int (nI Wt), .int (nI D), .int (nI y)], [], m)) rfl ?_
    refine dx_blk 3 (c' := (7, [.ref 3, .int (nI Wt), .int (nI D), .int (nI y)], [.int (m.1 3 3), .int (nI y)], m)) rfl ?_
    refine dx_br (q := (m.1 3 3) ≤ (nI y)) (a := 62) (b := 10) (L := [.ref 3, .int (nI Wt), .int (nI D), .int (nI y)]) (st := []) (m := m) rfl (fun _ => ?_) (fun h => absurd (by rw [a6]; exact nI_le (Nat.le_refl _) (by omega)) h)
    refine dx_blk 1 (c' := (63, [.ref 3, .int (nI Wt), .int (nI D), .int (nI y)], [.int 0], m)) rfl ?_
    exact dx_ret (r := some (.int 0)) rfl (h1 m hno hk)
  | succ n ih =>
    intro y m hy hl hk hno
    obtain ⟨a1, a2, a3, a4, a5, a6, a7, a8, a9⟩ := id hl
    refine dx_blk 0 (c' := (2, [.ref 3, .int (nI Wt), .int (nI D), .int (nI y)], [], m)) rfl ?_
    refine dx_blk 3 (c' := (7, [.ref 3, .int (nI Wt), .int (nI D), .int (nI y)], [.int (m.1 3 3), .int (nI y)], m)) rfl ?_
    refine dx_br (q := (m.1 3 3) ≤ (nI y)) (a := 62) (b := 10) (L := [.ref 3, .int (nI Wt), .int (nI D), .int (nI y)]) (st := []) (m := m) rfl (fun h => absurd h (by rw [a6]; exact nI_ge (by omega) (by omega))) (fun _ => ?_)
    refine dx_blk 2 (c' := (12, [.ref 3, .int (nI Wt), .int (nI D), .int (nI y)], [.int (nI y), .ref 3], m)) rfl ?_
    refine dx_call (id := 11) (as := [.ref 3, .int (nI y)]) (rest := []) rfl ?_
    refine sX1_riseTo _ hl (t := y) (by omega) (by omega) (fun m1 hl1 hk1 hm1 => ?_)
    refine dx_blk 0 (c' := (15, [.ref 3, .int (nI Wt), .int (nI D), .int (nI y)], [], m1)) rfl ?_
    refine dx_blk 8 (c' := (27, [.ref 3, .int (nI Wt), .int (nI D), .int (nI y)], [.int (((m1.1 3 5) + (m1.1 3 6)) * (nI D)), .int (nI Wt)], m1)) rfl ?_
    refine dx_br (q := (((m1.1 3 5) + (m1.1 3 6)) * (nI D)) < (nI Wt)) (a := 56) (b := 30) (L := [.ref 3, .int (nI Wt), .int (nI D), .int (nI y)]) (st := []) (m := m1) rfl (fun q27 => ?_) (fun q27 => ?_)
    · refine dx_blk 2 (c' := (2, [.ref 3, .int (nI Wt), .int (nI D), .int ((nI y) + 1)], [], m1)) rfl ?_
      rw [← nI_succ]
      refine ih (y + 1) m1 (by omega) hl1.1 (keepX_tr hk hk1) (fun r hr => ?_)
      rcases Nat.lt_or_ge r y with q | q
      · exact hno r q
      · obtain rfl : r = y := by omega
        intro hle
        rw [rm_I hl1, pk_mul] at q27
        exact absurd q27 (nI_nlt hle (by have := rm_le op a2 (show r < 12 by omega); have : rmN op w r * D ≤ 156 * 20 := Nat.mul_le_mul this hD; omega))
    · have hle : Wt ≤ rmN op w y * D := by
        rw [rm_I hl1, pk_mul] at q27
        rcases Nat.lt_or_ge (rmN op w y * D) Wt with q | q
        · exact absurd (nI_lt q (by omega)) q27
        · exact q
      refine dx_blk 17 (c' := (55, [.ref 3, .int (nI Wt), .int (nI D), .int (nI y)], [.int 1], dx_pL (dx_pL m1 3 7 (((nI Wt) - ((m1.1 3 5) * (nI D))).toInt64)) 3 8 (((m1.1 3 6) * (nI D)).toInt64))) rfl ?_
      exact dx_ret (r := some (.int 1)) rfl (by
    refine h2 y _ (by omega) hle hno ?_ ?_ ?_ (keepX_tr hk (keepX_tr hk1 ?_))
    · exact hl1
    · show (nI Wt - m1.1 3 5 * nI D).toInt64 = _
      rw [hl1.2.1]
    · show (m1.1 3 6 * nI D).toInt64 = _
      rw [hl1.2.2]
    · exact ⟨fun q _ _ _ => rfl, fun q h3 => (by simp [dx_pL, h3])⟩)
theorem sX1_bears {d : Nat} (m0 : dx_M) {Z : Option Value → dx_M → Prop} {op : Nat → Nat → Bool} {w h Wt D : Nat} (hWt : Wt ≤ 7000) (hD : D ≤ 20) (hl : LX m0 op w h 0) (h1 : ∀ m', (∀ r, r < h → ¬ Wt ≤ rmN op w r * D) → keepX m0 m' → Z (some (.int 0)) m') (h2 : ∀ (r : Nat) (m' : dx_M), r < h → Wt ≤ rmN op w r * D → (∀ r', r' < r → ¬ Wt ≤ rmN op w r' * D) → LF m' op w h r → m'.2 3 7 = (nI Wt - nI (fB op w r) * nI D).toInt64 → m'.2 3 8 = (nI (fA op w r) * nI D).toInt64 → keepX m0 m' → Z (some (.int 1)) m') : dx_Sem dx_P lx_X (d + 5) 16 [.ref 3, .int (nI Wt), .int (nI D)] m0 Z := by
  refine dx_sem km_X1_bears rfl rfl ?_
  refine dx_blk 2 (c' := (2, [.ref 3, .int (nI Wt), .int (nI D), .int 0], [], m0)) rfl ?_
  exact lp_bears hWt hD m0 h1 h2 h 0 m0 (by omega) hl (keepX_rf m0) (fun r hr => absurd hr (by omega))
set_option maxRecDepth 20000 in
theorem lp_most {d : Nat} {Z : Option Value → dx_M → Prop} {op : Nat → Nat → Bool} {w h : Nat} (m0 : dx_M) (h1 : ∀ m', keepX m0 m' → Z (some (.int (nI (mxN op w h)))) m') : ∀ (n y : Nat) (m : dx_M), y + n = h → LX m op w h y → keepX m0 m → dx_Go (d + 4) (dx_Sem dx_P lx_X (d + 4)) lx_X km_X1_mostRoom Z (4, [.ref 3, .int (nI (mxN op w y)), .int (nI y)], [], m) := by
  intro n
  induction n with
  | zero =>
    intro y m hy hl hk
    obtain rfl : y = h := by omega
    obtain ⟨a1, a2, a3, a4, a5, a6, a7, a8, a9⟩ := id hl
    refine dx_blk 0 (c' := (4, [.ref 3, .int (nI (mxN op w y)), .int (nI y)], [], m)) rfl ?_
    refine dx_blk 3 (c' := (9, [.ref 3, .int (nI (mxN op w y)), .int (nI y)], [.int (m.1 3 3), .int (nI y)], m)) rfl ?_
    refine dx_br (q := (m.1 3 3) ≤ (nI y)) (a := 37) (b := 12) (L := [.ref 3, .int (nI (mxN op w y)), .int (nI y)]) (st := []) (m := m) rfl (fun _ => ?_) (fun h => absurd (by rw [a6]; exact nI_le (Nat.le_refl _) (by omega)) h)
    refine dx_blk 1 (c' := (38, [.ref 3, .int (nI (mxN op w y)), .int (nI y)], [.int (nI (mxN op w y))], m)) rfl ?_
    exact dx_ret (r := some (.int (nI (mxN op w y)))) rfl (h1 m hk)
  | succ n ih =>
    intro y m hy hl hk
    obtain ⟨a1, a2, a3, a4, a5, a6, a7, a8, a9⟩ := id hl
    refine dx_blk 0 (c' := (4, [.ref 3, .int (nI (mxN op w y)), .int (nI y)], [], m)) rfl ?_
    refine dx_blk 3 (c' := (9, [.ref 3, .int (nI (mxN op w y)), .int (nI y)], [.int (m.1 3 3), .int (nI y)], m)) rfl ?_
    refine dx_br (q := (m.1 3 3) ≤ (nI y)) (a := 37) (b := 12) (L := [.ref 3, .int (nI (mxN op w y)), .int (nI y)]) (st := []) (m := m) rfl (fun h => absurd h (by rw [a6]; exact nI_ge (by omega) (by omega))) (fun _ => ?_)
    refine dx_blk 2 (c' := (14, [.ref 3, .int (nI (mxN op w y)), .int (nI y)], [.int (nI y), .ref 3], m)) rfl ?_
    refine dx_call (id := 11) (as := [.ref 3, .int (nI y)]) (rest := []) rfl ?_
    refine sX1_riseTo _ hl (t := y) (by omega) (by omega) (fun m1 hl1 hk1 hm1 => ?_)
    refine dx_blk 0 (c' := (17, [.ref 3, .int (nI (mxN op w y)), .int (nI y)], [], m1)) rfl ?_
    refine dx_blk 6 (c' := (27, [.ref 3, .int (nI (mxN op w y)), .int (nI y)], [.int ((m1.1 3 5) + (m1.1 3 6)), .int (nI (mxN op w y))], m1)) rfl ?_
    refine dx_copy (c' := (30, [.ref 3, .int (nI (mxN op w y)), .int (nI y)], [.int (if (nI (mxN op w y)) < ((m1.1 3 5) + (m1.1 3 6)) then ((m1.1 3 5) + (m1.1 3 6)) else (nI (mxN op w y)))], m1)) rfl ?_
    refine dx_blk 3 (c' := (4, [.ref 3, .int (if (nI (mxN op w y)) < ((m1.1 3 5) + (m1.1 3 6)) then ((m1.1 3 5) + (m1.1 3 6)) else (nI (mxN op w y))), .int ((nI y) + 1)], [], m1)) rfl ?_
    rw [← nI_succ, rm_I hl1, show (if nI (mxN op w y) < nI (rmN op w y) then nI (rmN op w y) else nI (mxN op w y)) = nI (mxN op w (y + 1)) from ?_]
    · exact ih (y + 1) m1 (by omega) hl1.1 (keepX_tr hk hk1)
    · have e1 := mx_le op a2 y (by omega)
      have e2 := rm_le op a2 (show y < 12 by omega)
      rw [mxN_succ]
      by_cases q : mxN op w y < rmN op w y
      · rw [if_pos q, if_pos (nI_lt q (by omega))]
      · rw [if_neg q, if_neg (nI_nlt (by omega) (by omega))]
theorem sX1_mostRoom {d : Nat} (m0 : dx_M) {Z : Option Value → dx_M → Prop} {op : Nat → Nat → Bool} {w h : Nat} (hl : LX m0 op w h 0) (h1 : ∀ m', keepX m0 m' → Z (some (.int (nI (mxN op w h)))) m') : dx_Sem dx_P lx_X (d + 5) 17 [.ref 3] m0 Z := by
  refine dx_sem km_X1_mostRoom rfl rfl ?_
  refine dx_blk 4 (c' := (4, [.ref 3, .int 0, .int 0], [], m0)) rfl ?_
  exact lp_most m0 h1 h 0 m0 (by omega) hl (keepX_rf m0)
