/-! the class: floats, draft .. room (printed by wip/whole/g33.py) -/
theorem hw_le {t W H : Nat} (hW : W ≤ 12) (hH : H ≤ 12) : wdN t W H ≤ 12 := by unfold wdN; by_cases q : t = 1 ∨ t = 3 <;> simp [q] <;> omega
theorem tl_draft {r : Nat} {p Q : Int} (hr : r < 12) (h1 : 0 < p) (h2 : p ≤ Q) (h3 : Q ≤ 240) : tlP (r * Q + p) Q :=
  tl_of (bd_add (bd_mul (bd_n (Nat.le_of_lt hr)) (show Q.natAbs ≤ 240 by omega)) (show p.natAbs ≤ 240 by omega)) (show Q.natAbs ≤ 240 by omega) (by omega) (by decide) (by decide)
theorem tl_above {h r : Nat} {p Q : Int} (hh : h ≤ 12) (hr : r < h) (h1 : 0 < p) (h2 : p ≤ Q) (h3 : Q ≤ 240) : tlP (((h : Int) - r) * Q - p) Q :=
  tl_of (bd_sub (bd_mul (show ((h : Int) - r).natAbs ≤ 12 by omega) (show Q.natAbs ≤ 240 by omega)) (show p.natAbs ≤ 240 by omega)) (show Q.natAbs ≤ 240 by omega) (by omega) (by decide) (by decide)
theorem tl_mid0 {op : Nat → Nat → Bool} {w r D Wt : Nat} {p Q : Int} (hw : w ≤ 12) (hr : r < 12) (hD : D ≤ 20) (hWt : Wt ≤ 5000) (h0 : 0 < Wt) (h1 : 0 < p) (h2 : p ≤ Q) (h3 : Q ≤ 240) : tlP (pwX op w r p Q * D) (2 * Q * Wt) :=
  tl_of (bd_mul (pwX_bd hw hr h1 h2 h3) (bd_n hD)) (bd_mul (bd_mul (show (2 : Int).natAbs ≤ 2 by decide) (show Q.natAbs ≤ 240 by omega)) (bd_n hWt)) (Int.mul_pos (by omega) (by omega)) (by decide) (by decide)
theorem tl_mid1 {op : Nat → Nat → Bool} {w r D Wt : Nat} {p Q : Int} (hw : w ≤ 12) (hr : r < 12) (hD : D ≤ 20) (hWt : Wt ≤ 5000) (h0 : 0 < Wt) (h1 : 0 < p) (h2 : p ≤ Q) (h3 : Q ≤ 240) : tlP (pwY op w r p Q * D) (2 * Q * Q * Wt) :=
  tl_of (bd_mul (pwY_bd hw hr h1 h2 h3) (bd_n hD)) (bd_mul (bd_mul (bd_mul (show (2 : Int).natAbs ≤ 2 by decide) (show Q.natAbs ≤ 240 by omega)) (show Q.natAbs ≤ 240 by omega)) (bd_n hWt)) (Int.mul_pos (Int.mul_pos (by omega) (by omega)) (by omega)) (by decide) (by decide)
theorem tl_mid2 {Wt : Nat} {x : Int} (hx : x.natAbs ≤ 200000) (hWt : Wt ≤ 5000) (h0 : 0 < Wt) : tlP x (2 * Wt) :=
  tl_of hx (show (2 * (Wt : Int)).natAbs ≤ 10000 by omega) (by omega) (by decide) (by decide)
theorem tl_br {op : Nat → Nat → Bool} {w h r : Nat} {p Q : Int} (hw : w ≤ 12) : tlP (brU op w h r p Q) (brL op w h r p Q) := by
  obtain ⟨h1, h2, h3⟩ := br_bd (op := op) (h := h) (r := r) (p := p) (Q := Q) hw
  exact tl_of h1 (show (brL op w h r p Q).natAbs ≤ 144 by omega) h2 (by decide) (by decide)
theorem tl_trim {op : Nat → Nat → Bool} {w r D k : Nat} {p Q x : Int} (hw : w ≤ 12) (hr : r < 12) (hD : D ≤ 20) (hk : k ≤ 2000) (h0 : 0 < k) (h1 : 0 < p) (h2 : p ≤ Q) (h3 : Q ≤ 240) (hx : x.natAbs ≤ 200000) : tlP (pwX op w r p Q * D - x * Q) (2 * Q * k) :=
  tl_of (bd_sub (bd_mul (pwX_bd hw hr h1 h2 h3) (bd_n hD)) (bd_mul hx (show Q.natAbs ≤ 240 by omega))) (bd_mul (bd_mul (show (2 : Int).natAbs ≤ 2 by decide) (show Q.natAbs ≤ 240 by omega)) (bd_n hk)) (Int.mul_pos (by omega) (by omega)) (by decide) (by decide)
theorem tl_room {op : Nat → Nat → Bool} {w r u l : Nat} (hw : w ≤ 12) (hr : r < 12) (hu : u ≤ 24) (hl : l ≤ 12) (h0 : 0 < l) : tlP ((fB op w r * l + fA op w r * (u - r * l) : Nat) : Int) (l : Nat) := by
  have h1 : fB op w r * l ≤ 144 * 12 := Nat.mul_le_mul (fB_le op hw (by omega)) hl
  have h2 : fA op w r * (u - r * l) ≤ 12 * 24 := Nat.mul_le_mul (fA_le op r hw) (by omega)
  exact tl_of (A := 100000) (B := 12) (by omega) (by omega) (by omega) (by decide) (by decide)
theorem m_told {m : dx_M} {a b c d : Nat} {u l : Int64} : (dx_pL (dx_pL m a b u) c d l).1 = m.1 := rfl
set_option maxRecDepth 20000 in
theorem sX3_floats {d : Nat} (m : dx_M) {f : Nat → Int32} {W H E D Wt sq : Nat} {wa wu : Nat → Int} (hg : GX m f W H E D Wt sq wa wu) (t : Int32) {Z : Option Value → dx_M → Prop} (h1 : ∀ m', keepX m m' → Z (some (.int (ansO (ouN f W H D Wt sq t)))) m') : dx_Sem dx_P lx_X (d + 7) 43 [.ref 0, .int t] m Z := by
  obtain ⟨g1, g2, g3, g4, g5, g6, g7, g8, g9, g10, g11, g12, g13, g14, g15, g16, g17⟩ := id hg
  have hE := g5
  have eE := g10
  have hW := g2
  have hH := g4
  have eW := g8
  have eH := g9
  refine dx_sem km_X3_floats rfl rfl ?_
  refine dx_blk 0 (c' := (0, [.ref 0, .int t], [], m)) rfl ?_
  refine dx_blk 2 (c' := (2, [.ref 0, .int t], [.int t, .ref 0], m)) rfl ?_
  refine dx_call (id := 75) (as := [.ref 0, .int t]) (rest := []) rfl ?_
  refine sX3_settle _ hg _ (fun m1 hk1 hS => ?_)
  refine dx_blk 0 (c' := (5, [.ref 0, .int t], [.int (ansO (ouN f W H D Wt sq t))], m1)) rfl ?_
  exact dx_ret (r := some (.int (ansO (ouN f W H D Wt sq t)))) rfl (h1 m1 hk1)
set_option maxRecDepth 20000 in
theorem sX3_draft {d : Nat} (m : dx_M) {f : Nat → Int32} {W H E D Wt sq : Nat} {wa wu : Nat → Int} (hg : GX m f W H E D Wt sq wa wu) (t : Int32) {Z : Option Value → dx_M → Prop} (hN : ∀ m', ouN f W H D Wt sq t < 3 → keepX m m' → Z (some (.int (ansO (ouN f W H D Wt sq t)))) m') (hY : ∀ tn r m', tn < 4 → t = nI tn → ouN f W H D Wt sq t = r + 3 → 0 < Wt → rfP (opS f tn W H) (wdN tn W H) (htN tn W H) D Wt r → keepX m m' → Z (some (.int 1)) (dx_pL (dx_pL m' 0 9 (tU ((r : Int) * (qN (opS f tn W H) (wdN tn W H) r D) + (pN (opS f tn W H) (wdN tn W H) r D Wt)) (qN (opS f tn W H) (wdN tn W H) r D))) 0 10 (tL ((r : Int) * (qN (opS f tn W H) (wdN tn W H) r D) + (pN (opS f tn W H) (wdN tn W H) r D Wt)) (qN (opS f tn W H) (wdN tn W H) r D)))) : dx_Sem dx_P lx_X (d + 7) 44 [.ref 0, .int t] m Z := by
  obtain ⟨g1, g2, g3, g4, g5, g6, g7, g8, g9, g10, g11, g12, g13, g14, g15, g16, g17⟩ := id hg
  have hE := g5
  have eE := g10
  have hW := g2
  have hH := g4
  have eW := g8
  have eH := g9
  refine dx_sem km_X3_draft rfl rfl ?_
  refine dx_blk 0 (c' := (0, [.ref 0, .int t, .null], [], m)) rfl ?_
  refine dx_blk 2 (c' := (2, [.ref 0, .int t, .null], [.int t, .ref 0], m)) rfl ?_
  refine dx_call (id := 75) (as := [.ref 0, .int t]) (rest := []) rfl ?_
  refine sX3_settle _ hg _ (fun m1 hk1 hS => ?_)
  refine dx_blk 0 (c' := (5, [.ref 0, .int t, .null], [.int (ansO (ouN f W H D Wt sq t))], m1)) rfl ?_
  refine dx_blk 3 (c' := (8, [.ref 0, .int t, .int (ansO (ouN f W H D Wt sq t))], [.int 1, .int (ansO (ouN f W H D Wt sq t))], m1)) rfl ?_
  refine dx_br (q := (ansO (ouN f W H D Wt sq t)) = 1) (a := 11) (b := 49) (L := [.ref 0, .int t, .int (ansO (ouN f W H D Wt sq t))]) (st := []) (m := m1) rfl (fun q8 => ?_) (fun q8 => ?_)
  · obtain ⟨r, er⟩ := ans_1 q8
    obtain ⟨tn, htn, rfl, hW0, hrf, hA⟩ := hS r er
    have hg1 := GX_keep hk1 hg
    obtain ⟨y1, y2, y3⟩ := pq_ok (hw_le g2 g4) g7 hW0 hrf
    have hr := hrf.1
    have hh12 : htN tn W H ≤ 12 := ht_le g2 g4
    obtain ⟨w1, w2, w3, w4⟩ := hg1.2.2.2.2.2.2.2.2.2.2.2.2.2.2.2.2 tn htn
    have eD : (m1.1 0 6).toInt64 = lZ D := by rw [hg1.2.2.2.2.2.2.2.2.2.2.1, lZ_n (by omega)]
    refine dx_blk 16 (c' := (43, [.ref 0, .int (nI tn), .int (ansO (ouN f W H D Wt sq (nI tn)))], [.long (m1.2 3 8), .long ((((m1.1 3 4).toInt64) * (m1.2 3 8)) + (m1.2 3 7)), .ref 0], m1)) rfl ?_
    refine dx_call (id := 71) (as := [.ref 0, .long ((((m1.1 3 4).toInt64) * (m1.2 3 8)) + (m1.2 3 7)), .long (m1.2 3 8)]) (rest := []) rfl ?_
    refine sX3_tellE _ (u := ((r : Int) * (qN (opS f tn W H) (wdN tn W H) r D) + (pN (opS f tn W H) (wdN tn W H) r D Wt))) (l := (qN (opS f tn W H) (wdN tn W H) r D)) (by rw [LF_row hA.1, lZ_n (by omega), hA.2.2, hA.2.1, lZ_mul, lZ_add]) (by exact hA.2.2) (by exact tl_draft (by omega) y1 y2 y3) ?_
    refine dx_blk 0 (c' := (46, [.ref 0, .int (nI tn), .int (ansO (ouN f W H D Wt sq (nI tn)))], [.int 1], dx_pL (dx_pL m1 0 9 (tU ((r : Int) * (qN (opS f tn W H) (wdN tn W H) r D) + (pN (opS f tn W H) (wdN tn W H) r D Wt)) (qN (opS f tn W H) (wdN tn W H) r D))) 0 10 (tL ((r : Int) * (qN (opS f tn W H) (wdN tn W H) r D) + (pN (opS f tn W H) (wdN tn W H) r D Wt)) (qN (opS f tn W H) (wdN tn W H) r D)))) rfl ?_
    refine dx_blk 1 (c' := (50, [.ref 0, .int (nI tn), .int (ansO (ouN f W H D Wt sq (nI tn)))], [.int 1], dx_pL (dx_pL m1 0 9 (tU ((r : Int) * (qN (opS f tn W H) (wdN tn W H) r D) + (pN (opS f tn W H) (wdN tn W H) r D Wt)) (qN (opS f tn W H) (wdN tn W H) r D))) 0 10 (tL ((r : Int) * (qN (opS f tn W H) (wdN tn W H) r D) + (pN (opS f tn W H) (wdN tn W H) r D Wt)) (qN (opS f tn W H) (wdN tn W H) r D)))) rfl ?_
    exact dx_ret (r := some (.int 1)) rfl (hY tn r m1 htn rfl er hW0 hrf hk1)
  · refine dx_blk 1 (c' := (50, [.ref 0, .int t, .int (ansO (ouN f W H D Wt sq t))], [.int (ansO (ouN f W H D Wt sq t))], m1)) rfl ?_
    exact dx_ret (r := some (.int (ansO (ouN f W H D Wt sq t)))) rfl (hN m1 (ans_n q8) hk1)
set_option maxRecDepth 20000 in
theorem sX3_above {d : Nat} (m : dx_M) {f : Nat → Int32} {W H E D Wt sq : Nat} {wa wu : Nat → Int} (hg : GX m f W H E D Wt sq wa wu) (t : Int32) {Z : Option Value → dx_M → Prop} (hN : ∀ m', ouN f W H D Wt sq t < 3 → keepX m m' → Z (some (.int (ansO (ouN f W H D Wt sq t)))) m') (hY : ∀ tn r m', tn < 4 → t = nI tn → ouN f W H D Wt sq t = r + 3 → 0 < Wt → rfP (opS f tn W H) (wdN tn W H) (htN tn W H) D Wt r → keepX m m' → Z (some (.int 1)) (dx_pL (dx_pL m' 0 9 (tU ((((htN tn W H : Nat) : Int) - r) * (qN (opS f tn W H) (wdN tn W H) r D) - (pN (opS f tn W H) (wdN tn W H) r D Wt)) (qN (opS f tn W H) (wdN tn W H) r D))) 0 10 (tL ((((htN tn W H : Nat) : Int) - r) * (qN (opS f tn W H) (wdN tn W H) r D) - (pN (opS f tn W H) (wdN tn W H) r D Wt)) (qN (opS f tn W H) (wdN tn W H) r D)))) : dx_Sem dx_P lx_X (d + 7) 45 [.ref 0, .int t] m Z := by
  obtain ⟨g1, g2, g3, g4, g5, g6, g7, g8, g9, g10, g11, g12, g13, g14, g15, g16, g17⟩ := id hg
  have hE := g5
  have eE := g10
  have hW := g2
  have hH := g4
  have eW := g8
  have eH := g9
  refine dx_sem km_X3_above rfl rfl ?_
  refine dx_blk 0 (c' := (0, [.ref 0, .int t, .null], [], m)) rfl ?_
  refine dx_blk 2 (c' := (2, [.ref 0, .int t, .null], [.int t, .ref 0], m)) rfl ?_
  refine dx_call (id := 75) (as := [.ref 0, .int t]) (rest := []) rfl ?_
  refine sX3_settle _ hg _ (fun m1 hk1 hS => ?_)
  refine dx_blk 0 (c' := (5, [.ref 0, .int t, .null], [.int (ansO (ouN f W H D Wt sq t))], m1)) rfl ?_
  refine dx_blk 3 (c' := (8, [.ref 0, .int t, .int (ansO (ouN f W H D Wt sq t))], [.int 1, .int (ansO (ouN f W H D Wt sq t))], m1)) rfl ?_
  refine dx_br (q := (ansO (ouN f W H D Wt sq t)) = 1) (a := 11) (b := 57) (L := [.ref 0, .int t, .int (ansO (ouN f W H D Wt sq t))]) (st := []) (m := m1) rfl (fun q8 => ?_) (fun q8 => ?_)
  · obtain ⟨r, er⟩ := ans_1 q8
    obtain ⟨tn, htn, rfl, hW0, hrf, hA⟩ := hS r er
    have hg1 := GX_keep hk1 hg
    obtain ⟨y1, y2, y3⟩ := pq_ok (hw_le g2 g4) g7 hW0 hrf
    have hr := hrf.1
    have hh12 : htN tn W H ≤ 12 := ht_le g2 g4
    obtain ⟨w1, w2, w3, w4⟩ := hg1.2.2.2.2.2.2.2.2.2.2.2.2.2.2.2.2 tn htn
    have eD : (m1.1 0 6).toInt64 = lZ D := by rw [hg1.2.2.2.2.2.2.2.2.2.2.1, lZ_n (by omega)]
    refine dx_blk 20 (c' := (51, [.ref 0, .int (nI tn), .int (ansO (ouN f W H D Wt sq (nI tn)))], [.long (m1.2 3 8), .long (((((m1.1 3 3) - (m1.1 3 4)).toInt64) * (m1.2 3 8)) - (m1.2 3 7)), .ref 0], m1)) rfl ?_
    refine dx_call (id := 71) (as := [.ref 0, .long (((((m1.1 3 3) - (m1.1 3 4)).toInt64) * (m1.2 3 8)) - (m1.2 3 7)), .long (m1.2 3 8)]) (rest := []) rfl ?_
    refine sX3_tellE _ (u := (((htN tn W H : Nat) : Int) - r) * (qN (opS f tn W H) (wdN tn W H) r D) - (pN (opS f tn W H) (wdN tn W H) r D Wt)) (l := (qN (opS f tn W H) (wdN tn W H) r D)) (by rw [LF_row hA.1, hA.1.1.2.2.2.2.2.1, sub_I (by omega) (by omega), hA.2.2, hA.2.1, lZ_mul, lZ_sub]) (by exact hA.2.2) (by exact tl_above hh12 hr y1 y2 y3) ?_
    refine dx_blk 0 (c' := (54, [.ref 0, .int (nI tn), .int (ansO (ouN f W H D Wt sq (nI tn)))], [.int 1], dx_pL (dx_pL m1 0 9 (tU ((((htN tn W H : Nat) : Int) - r) * (qN (opS f tn W H) (wdN tn W H) r D) - (pN (opS f tn W H) (wdN tn W H) r D Wt)) (qN (opS f tn W H) (wdN tn W H) r D))) 0 10 (tL ((((htN tn W H : Nat) : Int) - r) * (qN (opS f tn W H) (wdN tn W H) r D) - (pN (opS f tn W H) (wdN tn W H) r D Wt)) (qN (opS f tn W H) (wdN tn W H) r D)))) rfl ?_
    refine dx_blk 1 (c' := (58, [.ref 0, .int (nI tn), .int (ansO (ouN f W H D Wt sq (nI tn)))], [.int 1], dx_pL (dx_pL m1 0 9 (tU ((((htN tn W H : Nat) : Int) - r) * (qN (opS f tn W H) (wdN tn W H) r D) - (pN (opS f tn W H) (wdN tn W H) r D Wt)) (qN (opS f tn W H) (wdN tn W H) r D))) 0 10 (tL ((((htN tn W H : Nat) : Int) - r) * (qN (opS f tn W H) (wdN tn W H) r D) - (pN (opS f tn W H) (wdN tn W H) r D Wt)) (qN (opS f tn W H) (wdN tn W H) r D)))) rfl ?_
    exact dx_ret (r := some (.int 1)) rfl (hY tn r m1 htn rfl er hW0 hrf hk1)
  · refine dx_blk 1 (c' := (58, [.ref 0, .int t, .int (ansO (ouN f W H D Wt sq t))], [.int (ansO (ouN f W H D Wt sq t))], m1)) rfl ?_
    exact dx_ret (r := some (.int (ansO (ouN f W H D Wt sq t)))) rfl (hN m1 (ans_n q8) hk1)
set_option maxRecDepth 20000 in
theorem sX3_leans {d : Nat} (m : dx_M) {f : Nat → Int32} {W H E D Wt sq : Nat} {wa wu : Nat → Int} (hg : GX m f W H E D Wt sq wa wu) (t : Int32) {Z : Option Value → dx_M → Prop} (hN : ∀ m', ouN f W H D Wt sq t < 3 → keepX m m' → Z (some (.int (ansO (ouN f W H D Wt sq t)))) m') (hY : ∀ tn r m', tn < 4 → t = nI tn → ouN f W H D Wt sq t = r + 3 → 0 < Wt → rfP (opS f tn W H) (wdN tn W H) (htN tn W H) D Wt r → keepX m m' → Z (some (.int (leT (opS f tn W H) (wdN tn W H) r D (pN (opS f tn W H) (wdN tn W H) r D Wt) (qN (opS f tn W H) (wdN tn W H) r D) (wa tn)))) m') : dx_Sem dx_P lx_X (d + 7) 48 [.ref 0, .int t] m Z := by
  obtain ⟨g1, g2, g3, g4, g5, g6, g7, g8, g9, g10, g11, g12, g13, g14, g15, g16, g17⟩ := id hg
  have hE := g5
  have eE := g10
  have hW := g2
  have hH := g4
  have eW := g8
  have eH := g9
  refine dx_sem km_X3_leans rfl rfl ?_
  refine dx_blk 0 (c' := (0, [.ref 0, .int t, .null], [], m)) rfl ?_
  refine dx_blk 2 (c' := (2, [.ref 0, .int t, .null], [.int t, .ref 0], m)) rfl ?_
  refine dx_call (id := 75) (as := [.ref 0, .int t]) (rest := []) rfl ?_
  refine sX3_settle _ hg _ (fun m1 hk1 hS => ?_)
  refine dx_blk 0 (c' := (5, [.ref 0, .int t, .null], [.int (ansO (ouN f W H D Wt sq t))], m1)) rfl ?_
  refine dx_blk 3 (c' := (8, [.ref 0, .int t, .int (ansO (ouN f W H D Wt sq t))], [.int 1, .int (ansO (ouN f W H D Wt sq t))], m1)) rfl ?_
  refine dx_br (q := (ansO (ouN f W H D Wt sq t)) = 1) (a := 11) (b := 19) (L := [.ref 0, .int t, .int (ansO (ouN f W H D Wt sq t))]) (st := []) (m := m1) rfl (fun q8 => ?_) (fun q8 => ?_)
  · obtain ⟨r, er⟩ := ans_1 q8
    obtain ⟨tn, htn, rfl, hW0, hrf, hA⟩ := hS r er
    have hg1 := GX_keep hk1 hg
    obtain ⟨y1, y2, y3⟩ := pq_ok (hw_le g2 g4) g7 hW0 hrf
    have hr := hrf.1
    have hh12 : htN tn W H ≤ 12 := ht_le g2 g4
    obtain ⟨w1, w2, w3, w4⟩ := hg1.2.2.2.2.2.2.2.2.2.2.2.2.2.2.2.2 tn htn
    have eD : (m1.1 0 6).toInt64 = lZ D := by rw [hg1.2.2.2.2.2.2.2.2.2.2.1, lZ_n (by omega)]
    refine dx_blk 2 (c' := (13, [.ref 0, .int (nI tn), .int (ansO (ouN f W H D Wt sq (nI tn)))], [.int (nI tn), .ref 0], m1)) rfl ?_
    refine dx_call (id := 78) (as := [.ref 0, .int (nI tn)]) (rest := []) rfl ?_
    refine sX3_leaning _ hg1 hr htn hA y1 y2 y3 ?_
    refine dx_blk 0 (c' := (16, [.ref 0, .int (nI tn), .int (ansO (ouN f W H D Wt sq (nI tn)))], [.int (leT (opS f tn W H) (wdN tn W H) r D (pN (opS f tn W H) (wdN tn W H) r D Wt) (qN (opS f tn W H) (wdN tn W H) r D) (wa tn))], m1)) rfl ?_
    refine dx_blk 1 (c' := (20, [.ref 0, .int (nI tn), .int (ansO (ouN f W H D Wt sq (nI tn)))], [.int (leT (opS f tn W H) (wdN tn W H) r D (pN (opS f tn W H) (wdN tn W H) r D Wt) (qN (opS f tn W H) (wdN tn W H) r D) (wa tn))], m1)) rfl ?_
    exact dx_ret (r := some (.int (leT (opS f tn W H) (wdN tn W H) r D (pN (opS f tn W H) (wdN tn W H) r D Wt) (qN (opS f tn W H) (wdN tn W H) r D) (wa tn)))) rfl (hY tn r m1 htn rfl er hW0 hrf hk1)
  · refine dx_blk 1 (c' := (20, [.ref 0, .int t, .int (ansO (ouN f W H D Wt sq t))], [.int (ansO (ouN f W H D Wt sq t))], m1)) rfl ?_
    exact dx_ret (r := some (.int (ansO (ouN f W H D Wt sq t)))) rfl (hN m1 (ans_n q8) hk1)
set_option maxRecDepth 20000 in
theorem sX3_holds {d : Nat} (m : dx_M) {f : Nat → Int32} {W H E D Wt sq : Nat} {wa wu : Nat → Int} (hg : GX m f W H E D Wt sq wa wu) (t : Int32) {Z : Option Value → dx_M → Prop} (hN : ∀ m', ouN f W H D Wt sq t < 3 → keepX m m' → Z (some (.int (ansO (ouN f W H D Wt sq t)))) m') (hY : ∀ tn r m', tn < 4 → t = nI tn → ouN f W H D Wt sq t = r + 3 → 0 < Wt → rfP (opS f tn W H) (wdN tn W H) (htN tn W H) D Wt r → keepX m m' → Z (some (.int (hoT (opS f tn W H) (wdN tn W H) (htN tn W H) r D (pN (opS f tn W H) (wdN tn W H) r D Wt) (qN (opS f tn W H) (wdN tn W H) r D) (wa tn) (wu tn)))) m') : dx_Sem dx_P lx_X (d + 7) 50 [.ref 0, .int t] m Z := by
  obtain ⟨g1, g2, g3, g4, g5, g6, g7, g8, g9, g10, g11, g12, g13, g14, g15, g16, g17⟩ := id hg
  have hE := g5
  have eE := g10
  have hW := g2
  have hH := g4
  have eW := g8
  have eH := g9
  refine dx_sem km_X3_holds rfl rfl ?_
  refine dx_blk 0 (c' := (0, [.ref 0, .int t, .null], [], m)) rfl ?_
  refine dx_blk 2 (c' := (2, [.ref 0, .int t, .null], [.int t, .ref 0], m)) rfl ?_
  refine dx_call (id := 75) (as := [.ref 0, .int t]) (rest := []) rfl ?_
  refine sX3_settle _ hg _ (fun m1 hk1 hS => ?_)
  refine dx_blk 0 (c' := (5, [.ref 0, .int t, .null], [.int (ansO (ouN f W H D Wt sq t))], m1)) rfl ?_
  refine dx_blk 3 (c' := (8, [.ref 0, .int t, .int (ansO (ouN f W H D Wt sq t))], [.int 1, .int (ansO (ouN f W H D Wt sq t))], m1)) rfl ?_
  refine dx_br (q := (ansO (ouN f W H D Wt sq t)) = 1) (a := 11) (b := 19) (L := [.ref 0, .int t, .int (ansO (ouN f W H D Wt sq t))]) (st := []) (m := m1) rfl (fun q8 => ?_) (fun q8 => ?_)
  · obtain ⟨r, er⟩ := ans_1 q8
    obtain ⟨tn, htn, rfl, hW0, hrf, hA⟩ := hS r er
    have hg1 := GX_keep hk1 hg
    obtain ⟨y1, y2, y3⟩ := pq_ok (hw_le g2 g4) g7 hW0 hrf
    have hr := hrf.1
    have hh12 : htN tn W H ≤ 12 := ht_le g2 g4
    obtain ⟨w1, w2, w3, w4⟩ := hg1.2.2.2.2.2.2.2.2.2.2.2.2.2.2.2.2 tn htn
    have eD : (m1.1 0 6).toInt64 = lZ D := by rw [hg1.2.2.2.2.2.2.2.2.2.2.1, lZ_n (by omega)]
    refine dx_blk 2 (c' := (13, [.ref 0, .int (nI tn), .int (ansO (ouN f W H D Wt sq (nI tn)))], [.int (nI tn), .ref 0], m1)) rfl ?_
    refine dx_call (id := 79) (as := [.ref 0, .int (nI tn)]) (rest := []) rfl ?_
    refine sX3_holding _ hg1 hr htn hA y1 y2 y3 (fun m2 hk2 => ?_)
    refine dx_blk 0 (c' := (16, [.ref 0, .int (nI tn), .int (ansO (ouN f W H D Wt sq (nI tn)))], [.int (hoT (opS f tn W H) (wdN tn W H) (htN tn W H) r D (pN (opS f tn W H) (wdN tn W H) r D Wt) (qN (opS f tn W H) (wdN tn W H) r D) (wa tn) (wu tn))], m2)) rfl ?_
    refine dx_blk 1 (c' := (20, [.ref 0, .int (nI tn), .int (ansO (ouN f W H D Wt sq (nI tn)))], [.int (hoT (opS f tn W H) (wdN tn W H) (htN tn W H) r D (pN (opS f tn W H) (wdN tn W H) r D Wt) (qN (opS f tn W H) (wdN tn W H) r D) (wa tn) (wu tn))], m2)) rfl ?_
    exact dx_ret (r := some (.int (hoT (opS f tn W H) (wdN tn W H) (htN tn W H) r D (pN (opS f tn W H) (wdN tn W H) r D Wt) (qN (opS f tn W H) (wdN tn W H) r D) (wa tn) (wu tn)))) rfl (hY tn r m2 htn rfl er hW0 hrf (keepX_tr hk1 hk2))
  · refine dx_blk 1 (c' := (20, [.ref 0, .int t, .int (ansO (ouN f W H D Wt sq t))], [.int (ansO (ouN f W H D Wt sq t))], m1)) rfl ?_
    exact dx_ret (r := some (.int (ansO (ouN f W H D Wt sq t)))) rfl (hN m1 (ans_n q8) hk1)
set_option maxRecDepth 20000 in
theorem sX3_breadth {d : Nat} (m : dx_M) {f : Nat → Int32} {W H E D Wt sq : Nat} {wa wu : Nat → Int} (hg : GX m f W H E D Wt sq wa wu) (t : Int32) {Z : Option Value → dx_M → Prop} (hN : ∀ m', ouN f W H D Wt sq t < 3 → keepX m m' → Z (some (.int (ansO (ouN f W H D Wt sq t)))) m') (hY : ∀ tn r m', tn < 4 → t = nI tn → ouN f W H D Wt sq t = r + 3 → 0 < Wt → rfP (opS f tn W H) (wdN tn W H) (htN tn W H) D Wt r → keepX m m' → Z (some (.int 1)) (dx_pL (dx_pL m' 0 9 (tU (brU (opS f tn W H) (wdN tn W H) (htN tn W H) r (pN (opS f tn W H) (wdN tn W H) r D Wt) (qN (opS f tn W H) (wdN tn W H) r D)) (brL (opS f tn W H) (wdN tn W H) (htN tn W H) r (pN (opS f tn W H) (wdN tn W H) r D Wt) (qN (opS f tn W H) (wdN tn W H) r D)))) 0 10 (tL (brU (opS f tn W H) (wdN tn W H) (htN tn W H) r (pN (opS f tn W H) (wdN tn W H) r D Wt) (qN (opS f tn W H) (wdN tn W H) r D)) (brL (opS f tn W H) (wdN tn W H) (htN tn W H) r (pN (opS f tn W H) (wdN tn W H) r D Wt) (qN (opS f tn W H) (wdN tn W H) r D))))) : dx_Sem dx_P lx_X (d + 7) 49 [.ref 0, .int t] m Z := by
  obtain ⟨g1, g2, g3, g4, g5, g6, g7, g8, g9, g10, g11, g12, g13, g14, g15, g16, g17⟩ := id hg
  have hE := g5
  have eE := g10
  have hW := g2
  have hH := g4
  have eW := g8
  have eH := g9
  refine dx_sem km_X3_breadth rfl rfl ?_
  refine dx_blk 0 (c' := (0, [.ref 0, .int t, .null], [], m)) rfl ?_
  refine dx_blk 2 (c' := (2, [.ref 0, .int t, .null], [.int t, .ref 0], m)) rfl ?_
  refine dx_call (id := 75) (as := [.ref 0, .int t]) (rest := []) rfl ?_
  refine sX3_settle _ hg _ (fun m1 hk1 hS => ?_)
  refine dx_blk 0 (c' := (5, [.ref 0, .int t, .null], [.int (ansO (ouN f W H D Wt sq t))], m1)) rfl ?_
  refine dx_blk 3 (c' := (8, [.ref 0, .int t, .int (ansO (ouN f W H D Wt sq t))], [.int 1, .int (ansO (ouN f W H D Wt sq t))], m1)) rfl ?_
  refine dx_br (q := (ansO (ouN f W H D Wt sq t)) = 1) (a := 13) (b := 11) (L := [.ref 0, .int t, .int (ansO (ouN f W H D Wt sq t))]) (st := []) (m := m1) rfl (fun q8 => ?_) (fun q8 => ?_)
  · obtain ⟨r, er⟩ := ans_1 q8
    obtain ⟨tn, htn, rfl, hW0, hrf, hA⟩ := hS r er
    have hg1 := GX_keep hk1 hg
    obtain ⟨y1, y2, y3⟩ := pq_ok (hw_le g2 g4) g7 hW0 hrf
    have hr := hrf.1
    have hh12 : htN tn W H ≤ 12 := ht_le g2 g4
    obtain ⟨w1, w2, w3, w4⟩ := hg1.2.2.2.2.2.2.2.2.2.2.2.2.2.2.2.2 tn htn
    have eD : (m1.1 0 6).toInt64 = lZ D := by rw [hg1.2.2.2.2.2.2.2.2.2.2.1, lZ_n (by omega)]
    refine dx_blk 2 (c' := (17, [.ref 0, .int (nI tn), .int (ansO (ouN f W H D Wt sq (nI tn)))], [.ref 3], m1)) rfl ?_
    refine dx_call (id := 22) (as := [.ref 3]) (rest := []) rfl ?_
    refine sX1_measureLine _ hA.1 hA.2.1 hA.2.2 (fun m2 hk2 e9 e10 => ?_)
    refine dx_blk 0 (c' := (20, [.ref 0, .int (nI tn), .int (ansO (ouN f W H D Wt sq (nI tn)))], [], m2)) rfl ?_
    refine dx_blk 7 (c' := (35, [.ref 0, .int (nI tn), .int (ansO (ouN f W H D Wt sq (nI tn)))], [.long (m2.2 3 10), .long (m2.2 3 9), .ref 0], m2)) rfl ?_
    refine dx_call (id := 71) (as := [.ref 0, .long (m2.2 3 9), .long (m2.2 3 10)]) (rest := []) rfl ?_
    refine sX3_tellE _ (u := (brU (opS f tn W H) (wdN tn W H) (htN tn W H) r (pN (opS f tn W H) (wdN tn W H) r D Wt) (qN (opS f tn W H) (wdN tn W H) r D))) (l := (brL (opS f tn W H) (wdN tn W H) (htN tn W H) r (pN (opS f tn W H) (wdN tn W H) r D Wt) (qN (opS f tn W H) (wdN tn W H) r D))) (by exact e9) (by exact e10) (by exact tl_br (hw_le g2 g4)) ?_
    refine dx_blk 0 (c' := (38, [.ref 0, .int (nI tn), .int (ansO (ouN f W H D Wt sq (nI tn)))], [.int 1], dx_pL (dx_pL m2 0 9 (tU (brU (opS f tn W H) (wdN tn W H) (htN tn W H) r (pN (opS f tn W H) (wdN tn W H) r D Wt) (qN (opS f tn W H) (wdN tn W H) r D)) (brL (opS f tn W H) (wdN tn W H) (htN tn W H) r (pN (opS f tn W H) (wdN tn W H) r D Wt) (qN (opS f tn W H) (wdN tn W H) r D)))) 0 10 (tL (brU (opS f tn W H) (wdN tn W H) (htN tn W H) r (pN (opS f tn W H) (wdN tn W H) r D Wt) (qN (opS f tn W H) (wdN tn W H) r D)) (brL (opS f tn W H) (wdN tn W H) (htN tn W H) r (pN (opS f tn W H) (wdN tn W H) r D Wt) (qN (opS f tn W H) (wdN tn W H) r D))))) rfl ?_
    exact dx_ret (r := some (.int 1)) rfl (hY tn r m2 htn rfl er hW0 hrf (keepX_tr hk1 hk2))
  · refine dx_blk 1 (c' := (12, [.ref 0, .int t, .int (ansO (ouN f W H D Wt sq t))], [.int (ansO (ouN f W H D Wt sq t))], m1)) rfl ?_
    exact dx_ret (r := some (.int (ansO (ouN f W H D Wt sq t)))) rfl (hN m1 (ans_n q8) hk1)
set_option maxRecDepth 20000 in
theorem sX3_middle {d : Nat} (m : dx_M) {f : Nat → Int32} {W H E D Wt sq : Nat} {wa wu : Nat → Int} (hg : GX m f W H E D Wt sq wa wu) (t what : Int32) {Z : Option Value → dx_M → Prop} (h0 : inI what 0 3 = false → Z (some (.int (-1))) m) (hN : ∀ m', inI what 0 3 = true → ouN f W H D Wt sq t < 3 → keepX m m' → Z (some (.int (ansO (ouN f W H D Wt sq t)))) m') (hY0 : ∀ tn r m', tn < 4 → t = nI tn → what = 0 → ouN f W H D Wt sq t = r + 3 → 0 < Wt → rfP (opS f tn W H) (wdN tn W H) (htN tn W H) D Wt r → keepX m m' → Z (some (.int 1)) (dx_pL (dx_pL m' 0 9 (tU (pwX (opS f tn W H) (wdN tn W H) r (pN (opS f tn W H) (wdN tn W H) r D Wt) (qN (opS f tn W H) (wdN tn W H) r D) * D) (2 * (qN (opS f tn W H) (wdN tn W H) r D) * Wt))) 0 10 (tL (pwX (opS f tn W H) (wdN tn W H) r (pN (opS f tn W H) (wdN tn W H) r D Wt) (qN (opS f tn W H) (wdN tn W H) r D) * D) (2 * (qN (opS f tn W H) (wdN tn W H) r D) * Wt)))) (hY1 : ∀ tn r m', tn < 4 → t = nI tn → what = 1 → ouN f W H D Wt sq t = r + 3 → 0 < Wt → rfP (opS f tn W H) (wdN tn W H) (htN tn W H) D Wt r → keepX m m' → Z (some (.int 1)) (dx_pL (dx_pL m' 0 9 (tU (pwY (opS f tn W H) (wdN tn W H) r (pN (opS f tn W H) (wdN tn W H) r D Wt) (qN (opS f tn W H) (wdN tn W H) r D) * D) (2 * (qN (opS f tn W H) (wdN tn W H) r D) * (qN (opS f tn W H) (wdN tn W H) r D) * Wt))) 0 10 (tL (pwY (opS f tn W H) (wdN tn W H) r (pN (opS f tn W H) (wdN tn W H) r D Wt) (qN (opS f tn W H) (wdN tn W H) r D) * D) (2 * (qN (opS f tn W H) (wdN tn W H) r D) * (qN (opS f tn W H) (wdN tn W H) r D) * Wt)))) (hY2 : ∀ tn r m', tn < 4 → t = nI tn → what = 2 → ouN f W H D Wt sq t = r + 3 → 0 < Wt → rfP (opS f tn W H) (wdN tn W H) (htN tn W H) D Wt r → keepX m m' → Z (some (.int 1)) (dx_pL (dx_pL m' 0 9 (tU (wa tn) (2 * (Wt : Int)))) 0 10 (tL (wa tn) (2 * (Wt : Int))))) (hY3 : ∀ tn r m', tn < 4 → t = nI tn → inI what 0 3 = true → ¬ what = 0 → ¬ what = 1 → ¬ what = 2 → ouN f W H D Wt sq t = r + 3 → 0 < Wt → rfP (opS f tn W H) (wdN tn W H) (htN tn W H) D Wt r → keepX m m' → Z (some (.int 1)) (dx_pL (dx_pL m' 0 9 (tU (wu tn) (2 * (Wt : Int)))) 0 10 (tL (wu tn) (2 * (Wt : Int))))) : dx_Sem dx_P lx_X (d + 7) 46 [.ref 0, .int t, .int what] m Z := by
  obtain ⟨g1, g2, g3, g4, g5, g6, g7, g8, g9, g10, g11, g12, g13, g14, g15, g16, g17⟩ := id hg
  have hE := g5
  have eE := g10
  have hW := g2
  have hH := g4
  have eW := g8
  have eH := g9
  refine dx_sem km_X3_middle rfl rfl ?_
  refine dx_blk 0 (c' := (0, [.ref 0, .int t, .int what, .null, .null, .null], [], m)) rfl ?_
  refine dx_blk 3 (c' := (3, [.ref 0, .int t, .int what, .null, .null, .null], [.int 3, .int 0, .int what], m)) rfl ?_
  refine dx_call (id := 64) (as := [.int what, .int 0, .int 3]) (rest := []) rfl ?_
  refine sX3_within what 0 3 _ ?_
  refine dx_blk 0 (c' := (6, [.ref 0, .int t, .int what, .null, .null, .null], [.int (bI (inI what 0 3))], m)) rfl ?_
  refine dx_brB (B := (inI what 0 3)) (a := 9) (b := 11) (L := [.ref 0, .int t, .int what, .null, .null, .null]) (st := []) (m := m) rfl (fun h6 => ?_) (fun h6 => ?_)
  · refine dx_blk 1 (c' := (10, [.ref 0, .int t, .int what, .null, .null, .null], [.int (-1)], m)) rfl ?_
    exact dx_ret (r := some (.int (-1))) rfl (h0 h6)
  · refine dx_blk 2 (c' := (13, [.ref 0, .int t, .int what, .null, .null, .null], [.int t, .ref 0], m)) rfl ?_
    refine dx_call (id := 75) (as := [.ref 0, .int t]) (rest := []) rfl ?_
    refine sX3_settle _ hg _ (fun m1 hk1 hS => ?_)
    refine dx_blk 0 (c' := (16, [.ref 0, .int t, .int what, .null, .null, .null], [.int (ansO (ouN f W H D Wt sq t))], m1)) rfl ?_
    refine dx_blk 3 (c' := (19, [.ref 0, .int t, .int what, .int (ansO (ouN f W H D Wt sq t)), .null, .null], [.int 1, .int (ansO (ouN f W H D Wt sq t))], m1)) rfl ?_
    refine dx_br (q := (ansO (ouN f W H D Wt sq t)) = 1) (a := 24) (b := 22) (L := [.ref 0, .int t, .int what, .int (ansO (ouN f W H D Wt sq t)), .null, .null]) (st := []) (m := m1) rfl (fun q19 => ?_) (fun q19 => ?_)
    · obtain ⟨r, er⟩ := ans_1 q19
      obtain ⟨tn, htn, rfl, hW0, hrf, hA⟩ := hS r er
      have hg1 := GX_keep hk1 hg
      obtain ⟨y1, y2, y3⟩ := pq_ok (hw_le g2 g4) g7 hW0 hrf
      have hr := hrf.1
      have hh12 : htN tn W H ≤ 12 := ht_le g2 g4
      obtain ⟨w1, w2, w3, w4⟩ := hg1.2.2.2.2.2.2.2.2.2.2.2.2.2.2.2.2 tn htn
      have eD : (m1.1 0 6).toInt64 = lZ D := by rw [hg1.2.2.2.2.2.2.2.2.2.2.1, lZ_n (by omega)]
      have eWt : (nI Wt).toInt64 = lZ Wt := lZ_n (by omega)
      refine dx_blk 1 (c' := (25, [.ref 0, .int (nI tn), .int what, .int (ansO (ouN f W H D Wt sq (nI tn))), .null, .null], [.ref 0], m1)) rfl ?_
      refine dx_call (id := 74) (as := [.ref 0]) (rest := []) rfl ?_
      refine sX3_wholeWeight _ hE hg1.2.2.2.2.2.2.2.2.2.1 ?_
      rw [show allX _ E = nI Wt from hg1.2.2.2.2.2.2.2.2.2.2.2.2.1]
      refine dx_blk 0 (c' := (28, [.ref 0, .int (nI tn), .int what, .int (ansO (ouN f W H D Wt sq (nI tn))), .null, .null], [.int (nI Wt)], m1)) rfl ?_
      refine dx_blk 3 (c' := (32, [.ref 0, .int (nI tn), .int what, .int (ansO (ouN f W H D Wt sq (nI tn))), .long ((nI Wt).toInt64), .null], [.int what], m1)) rfl ?_
      refine dx_br (q := what = 0) (a := 60) (b := (if what = 1 then 92 else (if what = 2 then 132 else 148))) (L := [.ref 0, .int (nI tn), .int what, .int (ansO (ouN f W H D Wt sq (nI tn))), .long ((nI Wt).toInt64), .null]) (st := []) (m := m1) rfl (fun h3200 => ?_) (fun h3200 => ?_)
      · refine dx_blk 3 (c' := (65, [.ref 0, .int (nI tn), .int what, .int (ansO (ouN f W H D Wt sq (nI tn))), .long ((nI Wt).toInt64), .null], [.ref 3, .ref 0], m1)) rfl ?_
        refine dx_call (id := 20) (as := [.ref 3]) (rest := [.ref 0]) rfl ?_
        refine sX1_momentAcross _ hA.1 hA.2.1 hA.2.2 ?_
        refine dx_blk 0 (c' := (68, [.ref 0, .int (nI tn), .int what, .int (ansO (ouN f W H D Wt sq (nI tn))), .long ((nI Wt).toInt64), .null], [.long (lZ (pwX (opS f tn W H) (wdN tn W H) r (pN (opS f tn W H) (wdN tn W H) r D Wt) (qN (opS f tn W H) (wdN tn W H) r D))), .ref 0], m1)) rfl ?_
        refine dx_blk 11 (c' := (88, [.ref 0, .int (nI tn), .int what, .int (ansO (ouN f W H D Wt sq (nI tn))), .long ((nI Wt).toInt64), .null], [.long ((2 * (m1.2 3 8)) * ((nI Wt).toInt64)), .long ((lZ (pwX (opS f tn W H) (wdN tn W H) r (pN (opS f tn W H) (wdN tn W H) r D Wt) (qN (opS f tn W H) (wdN tn W H) r D))) * ((m1.1 0 6).toInt64)), .ref 0], m1)) rfl ?_
        refine dx_call (id := 71) (as := [.ref 0, .long ((lZ (pwX (opS f tn W H) (wdN tn W H) r (pN (opS f tn W H) (wdN tn W H) r D Wt) (qN (opS f tn W H) (wdN tn W H) r D))) * ((m1.1 0 6).toInt64)), .long ((2 * (m1.2 3 8)) * ((nI Wt).toInt64))]) (rest := []) rfl ?_
        refine sX3_tellE _ (u := (pwX (opS f tn W H) (wdN tn W H) r (pN (opS f tn W H) (wdN tn W H) r D Wt) (qN (opS f tn W H) (wdN tn W H) r D) * D)) (l := (2 * (qN (opS f tn W H) (wdN tn W H) r D) * Wt)) (by rw [eD, lZ_mul]) (by rw [eWt, hA.2.2, show (2 : Int64) = lZ 2 from rfl, lZ_mul, lZ_mul]) (by exact tl_mid0 (hw_le g2 g4) (by omega) g7 g15 hW0 y1 y2 y3) ?_
        refine dx_blk 0 (c' := (91, [.ref 0, .int (nI tn), .int what, .int (ansO (ouN f W H D Wt sq (nI tn))), .long ((nI Wt).toInt64), .null], [.int 1], dx_pL (dx_pL m1 0 9 (tU (pwX (opS f tn W H) (wdN tn W H) r (pN (opS f tn W H) (wdN tn W H) r D Wt) (qN (opS f tn W H) (wdN tn W H) r D) * D) (2 * (qN (opS f tn W H) (wdN tn W H) r D) * Wt))) 0 10 (tL (pwX (opS f tn W H) (wdN tn W H) r (pN (opS f tn W H) (wdN tn W H) r D Wt) (qN (opS f tn W H) (wdN tn W H) r D) * D) (2 * (qN (opS f tn W H) (wdN tn W H) r D) * Wt)))) rfl ?_
        exact dx_ret (r := some (.int 1)) rfl (hY0 tn r m1 htn rfl h3200 er hW0 hrf hk1)
      · refine dx_sp (q := what = 1) (fun h3201 => ?_) (fun h3201 => ?_)
        · refine dx_blk 3 (c' := (97, [.ref 0, .int (nI tn), .int what, .int (ansO (ouN f W H D Wt sq (nI tn))), .long ((nI Wt).toInt64), .null], [.ref 3, .ref 0], m1)) rfl ?_
          refine dx_call (id := 21) (as := [.ref 3]) (rest := [.ref 0]) rfl ?_
          refine sX1_momentUp _ hA.1 hA.2.1 hA.2.2 ?_
          refine dx_blk 0 (c' := (100, [.ref 0, .int (nI tn), .int what, .int (ansO (ouN f W H D Wt sq (nI tn))), .long ((nI Wt).toInt64), .null], [.long (lZ (pwY (opS f tn W H) (wdN tn W H) r (pN (opS f tn W H) (wdN tn W H) r D Wt) (qN (opS f tn W H) (wdN tn W H) r D))), .ref 0], m1)) rfl ?_
          refine dx_blk 15 (c' := (128, [.ref 0, .int (nI tn), .int what, .int (ansO (ouN f W H D Wt sq (nI tn))), .long ((nI Wt).toInt64), .null], [.long (((2 * (m1.2 3 8)) * (m1.2 3 8)) * ((nI Wt).toInt64)), .long ((lZ (pwY (opS f tn W H) (wdN tn W H) r (pN (opS f tn W H) (wdN tn W H) r D Wt) (qN (opS f tn W H) (wdN tn W H) r D))) * ((m1.1 0 6).toInt64)), .ref 0], m1)) rfl ?_
          refine dx_call (id := 71) (as := [.ref 0, .long ((lZ (pwY (opS f tn W H) (wdN tn W H) r (pN (opS f tn W H) (wdN tn W H) r D Wt) (qN (opS f tn W H) (wdN tn W H) r D))) * ((m1.1 0 6).toInt64)), .long (((2 * (m1.2 3 8)) * (m1.2 3 8)) * ((nI Wt).toInt64))]) (rest := []) rfl ?_
          refine sX3_tellE _ (u := (pwY (opS f tn W H) (wdN tn W H) r (pN (opS f tn W H) (wdN tn W H) r D Wt) (qN (opS f tn W H) (wdN tn W H) r D) * D)) (l := (2 * (qN (opS f tn W H) (wdN tn W H) r D) * (qN (opS f tn W H) (wdN tn W H) r D) * Wt)) (by rw [eD, lZ_mul]) (by rw [eWt, hA.2.2, show (2 : Int64) = lZ 2 from rfl, lZ_mul, lZ_mul, lZ_mul]) (by exact tl_mid1 (hw_le g2 g4) (by omega) g7 g15 hW0 y1 y2 y3) ?_
          refine dx_blk 0 (c' := (131, [.ref 0, .int (nI tn), .int what, .int (ansO (ouN f W H D Wt sq (nI tn))), .long ((nI Wt).toInt64), .null], [.int 1], dx_pL (dx_pL m1 0 9 (tU (pwY (opS f tn W H) (wdN tn W H) r (pN (opS f tn W H) (wdN tn W H) r D Wt) (qN (opS f tn W H) (wdN tn W H) r D) * D) (2 * (qN (opS f tn W H) (wdN tn W H) r D) * (qN (opS f tn W H) (wdN tn W H) r D) * Wt))) 0 10 (tL (pwY (opS f tn W H) (wdN tn W H) r (pN (opS f tn W H) (wdN tn W H) r D Wt) (qN (opS f tn W H) (wdN tn W H) r D) * D) (2 * (qN (opS f tn W H) (wdN tn W H) r D) * (qN (opS f tn W H) (wdN tn W H) r D) * Wt)))) rfl ?_
          exact dx_ret (r := some (.int 1)) rfl (hY1 tn r m1 htn rfl h3201 er hW0 hrf hk1)
        · refine dx_sp (q := what = 2) (fun h3202 => ?_) (fun h3202 => ?_)
          · refine dx_blk 3 (c' := (135, [.ref 0, .int (nI tn), .int what, .int (ansO (ouN f W H D Wt sq (nI tn))), .long ((nI Wt).toInt64), .null], [.int (nI tn), .ref 0, .ref 0], m1)) rfl ?_
            refine dx_call (id := 76) (as := [.ref 0, .int (nI tn)]) (rest := [.ref 0]) rfl ?_
            refine sX3_weightAcross _ hW hH hg1.2.2.2.2.2.2.2.1 hg1.2.2.2.2.2.2.2.2.1 hE hg1.2.2.2.2.2.2.2.2.2.1 _ ?_
            rw [w1]
            refine dx_blk 0 (c' := (138, [.ref 0, .int (nI tn), .int what, .int (ansO (ouN f W H D Wt sq (nI tn))), .long ((nI Wt).toInt64), .null], [.long (lZ (wa tn)), .ref 0], m1)) rfl ?_
            refine dx_blk 3 (c' := (144, [.ref 0, .int (nI tn), .int what, .int (ansO (ouN f W H D Wt sq (nI tn))), .long ((nI Wt).toInt64), .null], [.long (2 * ((nI Wt).toInt64)), .long (lZ (wa tn)), .ref 0], m1)) rfl ?_
            refine dx_call (id := 71) (as := [.ref 0, .long (lZ (wa tn)), .long (2 * ((nI Wt).toInt64))]) (rest := []) rfl ?_
            refine sX3_tellE _ (u := (wa tn)) (l := (2 * (Wt : Int))) (by rfl) (by rw [eWt, show (2 : Int64) = lZ 2 from rfl, lZ_mul]) (by exact tl_mid2 w3 g15 hW0) ?_
            refine dx_blk 0 (c' := (147, [.ref 0, .int (nI tn), .int what, .int (ansO (ouN f W H D Wt sq (nI tn))), .long ((nI Wt).toInt64), .null], [.int 1], dx_pL (dx_pL m1 0 9 (tU (wa tn) (2 * (Wt : Int)))) 0 10 (tL (wa tn) (2 * (Wt : Int))))) rfl ?_
            exact dx_ret (r := some (.int 1)) rfl (hY2 tn r m1 htn rfl h3202 er hW0 hrf hk1)
          · refine dx_blk 3 (c' := (151, [.ref 0, .int (nI tn), .int what, .int (ansO (ouN f W H D Wt sq (nI tn))), .long ((nI Wt).toInt64), .null], [.int (nI tn), .ref 0, .ref 0], m1)) rfl ?_
            refine dx_call (id := 77) (as := [.ref 0, .int (nI tn)]) (rest := [.ref 0]) rfl ?_
            refine sX3_weightUp _ hW hH hg1.2.2.2.2.2.2.2.1 hg1.2.2.2.2.2.2.2.2.1 hE hg1.2.2.2.2.2.2.2.2.2.1 _ ?_
            rw [w2]
            refine dx_blk 0 (c' := (154, [.ref 0, .int (nI tn), .int what, .int (ansO (ouN f W H D Wt sq (nI tn))), .long ((nI Wt).toInt64), .null], [.long (lZ (wu tn)), .ref 0], m1)) rfl ?_
            refine dx_blk 3 (c' := (160, [.ref 0, .int (nI tn), .int what, .int (ansO (ouN f W H D Wt sq (nI tn))), .long ((nI Wt).toInt64), .null], [.long (2 * ((nI Wt).toInt64)), .long (lZ (wu tn)), .ref 0], m1)) rfl ?_
            refine dx_call (id := 71) (as := [.ref 0, .long (lZ (wu tn)), .long (2 * ((nI Wt).toInt64))]) (rest := []) rfl ?_
            refine sX3_tellE _ (u := (wu tn)) (l := (2 * (Wt : Int))) (by rfl) (by rw [eWt, show (2 : Int64) = lZ 2 from rfl, lZ_mul]) (by exact tl_mid2 w4 g15 hW0) ?_
            refine dx_blk 0 (c' := (163, [.ref 0, .int (nI tn), .int what, .int (ansO (ouN f W H D Wt sq (nI tn))), .long ((nI Wt).toInt64), .null], [.int 1], dx_pL (dx_pL m1 0 9 (tU (wu tn) (2 * (Wt : Int)))) 0 10 (tL (wu tn) (2 * (Wt : Int))))) rfl ?_
            exact dx_ret (r := some (.int 1)) rfl (hY3 tn r m1 htn rfl h6 h3200 h3201 h3202 er hW0 hrf hk1)
    · refine dx_blk 1 (c' := (23, [.ref 0, .int t, .int what, .int (ansO (ouN f W H D Wt sq t)), .null, .null], [.int (ansO (ouN f W H D Wt sq t))], m1)) rfl ?_
      exact dx_ret (r := some (.int (ansO (ouN f W H D Wt sq t)))) rfl (hN m1 h6 (ans_n q19) hk1)
set_option maxRecDepth 20000 in
theorem sX3_carries {d : Nat} (m : dx_M) {f : Nat → Int32} {W H E D Wt sq : Nat} {wa wu : Nat → Int} (hg : GX m f W H E D Wt sq wa wu) (t : Int32) {Z : Option Value → dx_M → Prop} (h0 : inI t 0 3 = false → Z (some (.int (-1))) m) (h1 : inI t 0 3 = true → sq = 0 → Z (some (.int (-4))) m) (h2 : ∀ tn m', tn < 4 → t = nI tn → sq ≠ 0 → keepX m m' → Z (some (.int (if nI (mxN (opS f tn W H) (wdN tn W H) (htN tn W H) * D) - nI Wt < 0 then -5 else nI (mxN (opS f tn W H) (wdN tn W H) (htN tn W H) * D) - nI Wt))) m') : dx_Sem dx_P lx_X (d + 6) 52 [.ref 0, .int t] m Z := by
  obtain ⟨g1, g2, g3, g4, g5, g6, g7, g8, g9, g10, g11, g12, g13, g14, g15, g16, g17⟩ := id hg
  have hE := g5
  have eE := g10
  have hW := g2
  have hH := g4
  have eW := g8
  have eH := g9
  refine dx_sem km_X3_carries rfl rfl ?_
  refine dx_blk 0 (c' := (0, [.ref 0, .int t, .null], [], m)) rfl ?_
  refine dx_blk 1 (c' := (1, [.ref 0, .int t, .null], [.int t], m)) rfl ?_
  refine dx_call (id := 65) (as := [.int t]) (rest := []) rfl ?_
  refine sX3_isTurn t _ ?_
  refine dx_blk 0 (c' := (4, [.ref 0, .int t, .null], [.int (bI (inI t 0 3))], m)) rfl ?_
  refine dx_brB (B := (inI t 0 3)) (a := 7) (b := 9) (L := [.ref 0, .int t, .null]) (st := []) (m := m) rfl (fun h4 => ?_) (fun h4 => ?_)
  · refine dx_blk 1 (c' := (8, [.ref 0, .int t, .null], [.int (-1)], m)) rfl ?_
    exact dx_ret (r := some (.int (-1))) rfl (h0 h4)
  · obtain ⟨tn, htn, rfl⟩ := in_N (n := 3) (x := t) (M := 3) rfl h4
    refine dx_blk 2 (c' := (13, [.ref 0, .int (nI tn), .null], [.ref 1], m)) rfl ?_
    refine dx_call (id := 6) (as := [.ref 1]) (rest := []) rfl ?_
    refine sX0_squares _ ?_
    rw [g12, g14]
    refine dx_blk 0 (c' := (16, [.ref 0, .int (nI tn), .null], [.int (nI sq)], m)) rfl ?_
    refine dx_br (q := (nI sq) = 0) (a := 19) (b := 22) (L := [.ref 0, .int (nI tn), .null]) (st := []) (m := m) rfl (fun h16 => ?_) (fun h16 => ?_)
    · have q2 : sq = 0 := by
        rcases Nat.eq_zero_or_pos sq with z | z
        · exact z
        · exact absurd h16 (nI_ne0 z (by omega))
      refine dx_blk 1 (c' := (21, [.ref 0, .int (nI tn), .null], [.int (-4)], m)) rfl ?_
      exact dx_ret (r := some (.int (-4))) rfl (h1 h4 q2)
    · have q2 : sq ≠ 0 := fun z => h16 (by rw [z]; rfl)
      refine dx_blk 5 (c' := (31, [.ref 0, .int (nI tn), .null], [.int (nI tn), .ref 1, .ref 3], m)) rfl ?_
      refine dx_call (id := 10) (as := [.ref 3, .ref 1, .int (nI tn)]) (rest := []) rfl ?_
      refine sX1_turnT _ g1 g2 g3 g4 g8 g9 g12 (by omega) (fun m1 hl1 hk1 => ?_)
      refine dx_blk 0 (c' := (34, [.ref 0, .int (nI tn), .null], [], m1)) rfl ?_
      refine dx_blk 2 (c' := (38, [.ref 0, .int (nI tn), .null], [.ref 3], m1)) rfl ?_
      refine dx_call (id := 17) (as := [.ref 3]) (rest := []) rfl ?_
      refine sX1_mostRoom _ hl1 (fun m2 hk2 => ?_)
      refine dx_blk 0 (c' := (41, [.ref 0, .int (nI tn), .null], [.int (nI (mxN (opS f tn W H) (wdN tn W H) (htN tn W H)))], m2)) rfl ?_
      refine dx_blk 3 (c' := (46, [.ref 0, .int (nI tn), .null], [.int ((nI (mxN (opS f tn W H) (wdN tn W H) (htN tn W H))) * (m2.1 0 6))], m2)) rfl ?_
      have hg2 := GX_keep (keepX_tr hk1 hk2) hg
      rw [show m2.1 0 6 = nI D from hg2.2.2.2.2.2.2.2.2.2.2.1, pk_mul]
      refine dx_blk 1 (c' := (47, [.ref 0, .int (nI tn), .null], [.ref 0, .int (nI (mxN (opS f tn W H) (wdN tn W H) (htN tn W H) * D))], m2)) rfl ?_
      refine dx_call (id := 74) (as := [.ref 0]) (rest := [.int (nI (mxN (opS f tn W H) (wdN tn W H) (htN tn W H) * D))]) rfl ?_
      refine sX3_wholeWeight _ hE hg2.2.2.2.2.2.2.2.2.2.1 ?_
      rw [show allX _ E = nI Wt from hg2.2.2.2.2.2.2.2.2.2.2.2.2.1]
      refine dx_blk 0 (c' := (50, [.ref 0, .int (nI tn), .null], [.int (nI Wt), .int (nI (mxN (opS f tn W H) (wdN tn W H) (htN tn W H) * D))], m2)) rfl ?_
      refine dx_blk 3 (c' := (53, [.ref 0, .int (nI tn), .int ((nI (mxN (opS f tn W H) (wdN tn W H) (htN tn W H) * D)) - (nI Wt))], [.int ((nI (mxN (opS f tn W H) (wdN tn W H) (htN tn W H) * D)) - (nI Wt))], m2)) rfl ?_
      refine dx_br (q := 0 ≤ ((nI (mxN (opS f tn W H) (wdN tn W H) (htN tn W H) * D)) - (nI Wt))) (a := 61) (b := 56) (L := [.ref 0, .int (nI tn), .int ((nI (mxN (opS f tn W H) (wdN tn W H) (htN tn W H) * D)) - (nI Wt))]) (st := []) (m := m2) rfl (fun q53 => ?_) (fun q53 => ?_)
      · refine dx_blk 1 (c' := (62, [.ref 0, .int (nI tn), .int ((nI (mxN (opS f tn W H) (wdN tn W H) (htN tn W H) * D)) - (nI Wt))], [.int ((nI (mxN (opS f tn W H) (wdN tn W H) (htN tn W H) * D)) - (nI Wt))], m2)) rfl ?_
        exact dx_ret (r := some (.int ((nI (mxN (opS f tn W H) (wdN tn W H) (htN tn W H) * D)) - (nI Wt)))) rfl (by
    have hz := h2 tn m2 (by omega) rfl q2 (keepX_tr hk1 hk2)
    rw [if_neg (by rw [fa_lt]; rw [fa_le] at q53; have e : (0 : Int32).toInt = 0 := rfl; omega)] at hz; exact hz)
      · refine dx_blk 2 (c' := (62, [.ref 0, .int (nI tn), .int ((nI (mxN (opS f tn W H) (wdN tn W H) (htN tn W H) * D)) - (nI Wt))], [.int (-5)], m2)) rfl ?_
        exact dx_ret (r := some (.int (-5))) rfl (by
    have hz := h2 tn m2 (by omega) rfl q2 (keepX_tr hk1 hk2)
    rw [if_pos (by rw [fa_lt]; rw [fa_le] at q53; have e : (0 : Int32).toInt = 0 := rfl; omega)] at hz; exact hz)
theorem in_1 {x M : Int32} {n : Nat} (hM : M.toInt = n) (h : inI x 1 M = true) : ∃ j : Nat, 1 ≤ j ∧ j ≤ n ∧ x = nI j := by
  have e1 : (1 : Int32).toInt = 1 := rfl
  have e0 : (0 : Int32).toInt = 0 := rfl
  rw [inI_t, fa_le, fa_le] at h
  obtain ⟨j, hj, rfl⟩ := in_N (x := x) hM (inI_t.mpr (by rw [fa_le, fa_le]; omega))
  refine ⟨j, ?_, hj, rfl⟩
  rcases Nat.eq_zero_or_pos j with z | z
  · subst z
    have := h.1
    have e2 : (nI 0).toInt = 0 := rfl
    omega
  · exact z
set_option maxRecDepth 20000 in
theorem sX3_trim {d : Nat} (m : dx_M) {f : Nat → Int32} {W H E D Wt sq : Nat} {wa wu : Nat → Int} (hg : GX m f W H E D Wt sq wa wu) (t k : Int32) {Z : Option Value → dx_M → Prop} (h0 : (inI t 0 3 && inI k 1 2000) = false → Z (some (.int (-1))) m) (h1 : (inI t 0 3 && inI k 1 2000) = true → sq = 0 → Z (some (.int (-4))) m) (h2 : ∀ tn kn m', tn < 4 → t = nI tn → k = nI kn → 1 ≤ kn → kn ≤ 2000 → sq ≠ 0 → (∀ r, r < (htN tn W H) → ¬ (Wt + kn) ≤ rmN (opS f tn W H) (wdN tn W H) r * D) → keepX m m' → Z (some (.int (-5))) m') (h3 : ∀ tn kn r m', tn < 4 → t = nI tn → k = nI kn → 1 ≤ kn → kn ≤ 2000 → sq ≠ 0 → rfP (opS f tn W H) (wdN tn W H) (htN tn W H) D (Wt + kn) r → keepX m m' → Z (some (.int 1)) (dx_pL (dx_pL m' 0 9 (tU (pwX (opS f tn W H) (wdN tn W H) r (pN (opS f tn W H) (wdN tn W H) r D (Wt + kn)) (qN (opS f tn W H) (wdN tn W H) r D) * D - wa tn * (qN (opS f tn W H) (wdN tn W H) r D)) (2 * (qN (opS f tn W H) (wdN tn W H) r D) * kn))) 0 10 (tL (pwX (opS f tn W H) (wdN tn W H) r (pN (opS f tn W H) (wdN tn W H) r D (Wt + kn)) (qN (opS f tn W H) (wdN tn W H) r D) * D - wa tn * (qN (opS f tn W H) (wdN tn W H) r D)) (2 * (qN (opS f tn W H) (wdN tn W H) r D) * kn)))) : dx_Sem dx_P lx_X (d + 6) 53 [.ref 0, .int t, .int k] m Z := by
  obtain ⟨g1, g2, g3, g4, g5, g6, g7, g8, g9, g10, g11, g12, g13, g14, g15, g16, g17⟩ := id hg
  have hE := g5
  have eE := g10
  have hW := g2
  have hH := g4
  have eW := g8
  have eH := g9
  refine dx_sem km_X3_trim rfl rfl ?_
  refine dx_blk 0 (c' := (0, [.ref 0, .int t, .int k], [], m)) rfl ?_
  refine dx_blk 1 (c' := (1, [.ref 0, .int t, .int k], [.int t], m)) rfl ?_
  refine dx_call (id := 65) (as := [.int t]) (rest := []) rfl ?_
  refine sX3_isTurn t _ ?_
  refine dx_blk 0 (c' := (4, [.ref 0, .int t, .int k], [.int (bI (inI t 0 3))], m)) rfl ?_
  refine dx_brB (B := (inI t 0 3)) (a := 18) (b := 7) (L := [.ref 0, .int t, .int k]) (st := []) (m := m) rfl (fun h4 => ?_) (fun h4 => ?_)
  · refine dx_blk 1 (c' := (19, [.ref 0, .int t, .int k], [.int (-1)], m)) rfl ?_
    exact dx_ret (r := some (.int (-1))) rfl (h0 (by simp [*]))
  · refine dx_blk 3 (c' := (12, [.ref 0, .int t, .int k], [.int 2000, .int 1, .int k], m)) rfl ?_
    refine dx_call (id := 64) (as := [.int k, .int 1, .int 2000]) (rest := []) rfl ?_
    refine sX3_within k 1 2000 _ ?_
    refine dx_blk 0 (c' := (15, [.ref 0, .int t, .int k], [.int (bI (inI k 1 2000))], m)) rfl ?_
    refine dx_brB (B := (inI k 1 2000)) (a := 18) (b := 20) (L := [.ref 0, .int t, .int k]) (st := []) (m := m) rfl (fun h15 => ?_) (fun h15 => ?_)
    · refine dx_blk 1 (c' := (19, [.ref 0, .int t, .int k], [.int (-1)], m)) rfl ?_
      exact dx_ret (r := some (.int (-1))) rfl (h0 (by simp [*]))
    · obtain ⟨tn, htn, rfl⟩ := in_N (n := 3) (x := t) (M := 3) rfl h4
      obtain ⟨kn, hkn1, hkn2, rfl⟩ := in_1 (n := 2000) (x := k) (M := 2000) rfl h15
      refine dx_blk 2 (c' := (24, [.ref 0, .int (nI tn), .int (nI kn)], [.ref 1], m)) rfl ?_
      refine dx_call (id := 6) (as := [.ref 1]) (rest := []) rfl ?_
      refine sX0_squares _ ?_
      rw [g12, g14]
      refine dx_blk 0 (c' := (27, [.ref 0, .int (nI tn), .int (nI kn)], [.int (nI sq)], m)) rfl ?_
      refine dx_br (q := (nI sq) = 0) (a := 30) (b := 33) (L := [.ref 0, .int (nI tn), .int (nI kn)]) (st := []) (m := m) rfl (fun h27 => ?_) (fun h27 => ?_)
      · have q2 : sq = 0 := by
          rcases Nat.eq_zero_or_pos sq with z | z
          · exact z
          · exact absurd h27 (nI_ne0 z (by omega))
        refine dx_blk 1 (c' := (32, [.ref 0, .int (nI tn), .int (nI kn)], [.int (-4)], m)) rfl ?_
        exact dx_ret (r := some (.int (-4))) rfl (h1 (by simp [*]) q2)
      · have q2 : sq ≠ 0 := fun z => h27 (by rw [z]; rfl)
        refine dx_blk 5 (c' := (42, [.ref 0, .int (nI tn), .int (nI kn)], [.int (nI tn), .ref 1, .ref 3], m)) rfl ?_
        refine dx_call (id := 10) (as := [.ref 3, .ref 1, .int (nI tn)]) (rest := []) rfl ?_
        refine sX1_turnT _ g1 g2 g3 g4 g8 g9 g12 (by omega) (fun m1 hl1 hk1 => ?_)
        refine dx_blk 0 (c' := (45, [.ref 0, .int (nI tn), .int (nI kn)], [], m1)) rfl ?_
        refine dx_blk 3 (c' := (50, [.ref 0, .int (nI tn), .int (nI kn)], [.ref 0, .ref 3], m1)) rfl ?_
        refine dx_call (id := 74) (as := [.ref 0]) (rest := [.ref 3]) rfl ?_
        have hg1 := GX_keep hk1 hg
        refine sX3_wholeWeight _ hE hg1.2.2.2.2.2.2.2.2.2.1 ?_
        rw [show allX _ E = nI Wt from hg1.2.2.2.2.2.2.2.2.2.2.2.2.1]
        refine dx_blk 0 (c' := (53, [.ref 0, .int (nI tn), .int (nI kn)], [.int (nI Wt), .ref 3], m1)) rfl ?_
        refine dx_blk 4 (c' := (59, [.ref 0, .int (nI tn), .int (nI kn)], [.int (m1.1 0 6), .int ((nI Wt) + (nI kn)), .ref 3], m1)) rfl ?_
        refine dx_call (id := 16) (as := [.ref 3, .int ((nI Wt) + (nI kn)), .int (m1.1 0 6)]) (rest := []) rfl ?_
        rw [show m1.1 0 6 = nI D from (GX_keep hk1 hg).2.2.2.2.2.2.2.2.2.2.1, nI_add]
        refine sX1_bears (Wt := (Wt + kn)) m1 (by omega) (by omega) hl1 (fun m2 hno hk2 => ?_) (fun r m2 hr hle hno hl2 e7 e8 hk2 => ?_)
        · refine dx_blk 0 (c' := (62, [.ref 0, .int (nI tn), .int (nI kn)], [.int 0], m2)) rfl ?_
          refine dx_br (q := (0 : Int32) = 0) (a := 65) (b := 68) (L := [.ref 0, .int (nI tn), .int (nI kn)]) (st := []) (m := m2) rfl (fun _ => ?_) (fun h => absurd (by decide) h)
          refine dx_blk 1 (c' := (67, [.ref 0, .int (nI tn), .int (nI kn)], [.int (-5)], m2)) rfl ?_
          exact dx_ret (r := some (.int (-5))) rfl (h2 tn kn m2 (by omega) rfl rfl hkn1 hkn2 q2 hno (keepX_tr hk1 hk2))
        · have hrf : rfP (opS f tn W H) (wdN tn W H) (htN tn W H) D (Wt + kn) r := ⟨hr, hle, hno⟩
          have hA : AX m2 (opS f tn W H) (wdN tn W H) (htN tn W H) r (pN (opS f tn W H) (wdN tn W H) r D (Wt + kn)) (qN (opS f tn W H) (wdN tn W H) r D) := ⟨hl2, by rw [e7, pk_mul, sub_I (by omega) (by have := fl_pos (Wt := (Wt + kn)) (by omega) hrf; omega)]; rfl, by rw [e8, pk_mul, lZ_n (by have : fA (opS f tn W H) (wdN tn W H) r * D ≤ 12 * 20 := Nat.mul_le_mul (fA_le _ r hl1.2.1) g7; omega)]; rfl⟩
          have hg2 := GX_keep (keepX_tr hk1 hk2) hg
          obtain ⟨y1, y2, y3⟩ := pq_ok (hw_le g2 g4) g7 (by omega) hrf
          have hh12 : htN tn W H ≤ 12 := ht_le g2 g4
          obtain ⟨w1, w2, w3, w4⟩ := hg2.2.2.2.2.2.2.2.2.2.2.2.2.2.2.2.2 tn (by omega)
          have eD : (m2.1 0 6).toInt64 = lZ D := by rw [hg2.2.2.2.2.2.2.2.2.2.2.1, lZ_n (by omega)]
          refine dx_blk 0 (c' := (62, [.ref 0, .int (nI tn), .int (nI kn)], [.int 1], m2)) rfl ?_
          refine dx_br (q := (1 : Int32) = 0) (a := 65) (b := 68) (L := [.ref 0, .int (nI tn), .int (nI kn)]) (st := []) (m := m2) rfl (fun h => absurd h (by decide)) (fun _ => ?_)
          refine dx_blk 3 (c' := (73, [.ref 0, .int (nI tn), .int (nI kn)], [.ref 3, .ref 0], m2)) rfl ?_
          refine dx_call (id := 20) (as := [.ref 3]) (rest := [.ref 0]) rfl ?_
          refine sX1_momentAcross _ hA.1 hA.2.1 hA.2.2 ?_
          refine dx_blk 0 (c' := (76, [.ref 0, .int (nI tn), .int (nI kn)], [.long (lZ (pwX (opS f tn W H) (wdN tn W H) r (pN (opS f tn W H) (wdN tn W H) r D (Wt + kn)) (qN (opS f tn W H) (wdN tn W H) r D))), .ref 0], m2)) rfl ?_
          refine dx_blk 6 (c' := (84, [.ref 0, .int (nI tn), .int (nI kn)], [.int (nI tn), .ref 0, .long ((lZ (pwX (opS f tn W H) (wdN tn W H) r (pN (opS f tn W H) (wdN tn W H) r D (Wt + kn)) (qN (opS f tn W H) (wdN tn W H) r D))) * ((m2.1 0 6).toInt64)), .ref 0], m2)) rfl ?_
          refine dx_call (id := 76) (as := [.ref 0, .int (nI tn)]) (rest := [.long ((lZ (pwX (opS f tn W H) (wdN tn W H) r (pN (opS f tn W H) (wdN tn W H) r D (Wt + kn)) (qN (opS f tn W H) (wdN tn W H) r D))) * ((m2.1 0 6).toInt64)), .ref 0]) rfl ?_
          refine sX3_weightAcross _ hW hH hg2.2.2.2.2.2.2.2.1 hg2.2.2.2.2.2.2.2.2.1 hE hg2.2.2.2.2.2.2.2.2.2.1 _ ?_
          rw [w1]
          refine dx_blk 0 (c' := (87, [.ref 0, .int (nI tn), .int (nI kn)], [.long (lZ (wa tn)), .long ((lZ (pwX (opS f tn W H) (wdN tn W H) r (pN (opS f tn W H) (wdN tn W H) r D (Wt + kn)) (qN (opS f tn W H) (wdN tn W H) r D))) * ((m2.1 0 6).toInt64)), .ref 0], m2)) rfl ?_
          refine dx_blk 13 (c' := (110, [.ref 0, .int (nI tn), .int (nI kn)], [.long ((2 * (m2.2 3 8)) * ((nI kn).toInt64)), .long (((lZ (pwX (opS f tn W H) (wdN tn W H) r (pN (opS f tn W H) (wdN tn W H) r D (Wt + kn)) (qN (opS f tn W H) (wdN tn W H) r D))) * ((m2.1 0 6).toInt64)) - ((lZ (wa tn)) * (m2.2 3 8))), .ref 0], m2)) rfl ?_
          refine dx_call (id := 71) (as := [.ref 0, .long (((lZ (pwX (opS f tn W H) (wdN tn W H) r (pN (opS f tn W H) (wdN tn W H) r D (Wt + kn)) (qN (opS f tn W H) (wdN tn W H) r D))) * ((m2.1 0 6).toInt64)) - ((lZ (wa tn)) * (m2.2 3 8))), .long ((2 * (m2.2 3 8)) * ((nI kn).toInt64))]) (rest := []) rfl ?_
          refine sX3_tellE _ (u := (pwX (opS f tn W H) (wdN tn W H) r (pN (opS f tn W H) (wdN tn W H) r D (Wt + kn)) (qN (opS f tn W H) (wdN tn W H) r D) * D - wa tn * (qN (opS f tn W H) (wdN tn W H) r D))) (l := (2 * (qN (opS f tn W H) (wdN tn W H) r D) * kn)) (by rw [eD, hA.2.2, lZ_mul, lZ_mul, lZ_sub]) (by rw [lZ_n (by omega), hA.2.2, show (2 : Int64) = lZ 2 from rfl, lZ_mul, lZ_mul]) (by exact tl_trim (hw_le g2 g4) (by omega) g7 hkn2 (by omega) y1 y2 y3 w3) ?_
          refine dx_blk 0 (c' := (113, [.ref 0, .int (nI tn), .int (nI kn)], [.int 1], dx_pL (dx_pL m2 0 9 (tU (pwX (opS f tn W H) (wdN tn W H) r (pN (opS f tn W H) (wdN tn W H) r D (Wt + kn)) (qN (opS f tn W H) (wdN tn W H) r D) * D - wa tn * (qN (opS f tn W H) (wdN tn W H) r D)) (2 * (qN (opS f tn W H) (wdN tn W H) r D) * kn))) 0 10 (tL (pwX (opS f tn W H) (wdN tn W H) r (pN (opS f tn W H) (wdN tn W H) r D (Wt + kn)) (qN (opS f tn W H) (wdN tn W H) r D) * D - wa tn * (qN (opS f tn W H) (wdN tn W H) r D)) (2 * (qN (opS f tn W H) (wdN tn W H) r D) * kn)))) rfl ?_
          exact dx_ret (r := some (.int 1)) rfl (h3 tn kn r m2 (by omega) rfl rfl hkn1 hkn2 q2 hrf (keepX_tr hk1 hk2))
