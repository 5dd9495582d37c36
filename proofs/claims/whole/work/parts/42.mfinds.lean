/-! the reference: what the water bears (printed by wip/whole/g42.py) -/
def B13 (m : dx_M) : Prop := ∀ k, 144 ≤ k → (m.1 13 k = 0 ∨ m.1 13 k = 1)
def WM (m : dx_M) (op : Nat → Nat → Bool) (w r : Nat) : Prop := (∀ k, m.1 13 k = 0 ∨ m.1 13 k = 1) ∧ ∀ y x, y ≤ r → x < w → m.1 13 (12 * y + x) = bI (wetB op w r y x)
theorem WM_B {m : dx_M} {op : Nat → Nat → Bool} {w r : Nat} (h : WM m op w r) : B13 m := fun k _ => h.1 k
def keepL (m m' : dx_M) : Prop := keepM m m' ∧ m'.1 12 = m.1 12 ∧ m'.1 0 18 = m.1 0 18 ∧ m'.1 0 19 = m.1 0 19 ∧ m'.2 0 21 = m.2 0 21 ∧ m'.2 0 22 = m.2 0 22
theorem keepL_rf (m : dx_M) : keepL m m := ⟨keepM_rf m, rfl, rfl, rfl, rfl, rfl⟩
theorem keepL_tr {a b c : dx_M} (h : keepL a b) (h2 : keepL b c) : keepL a c := by
  obtain ⟨p1, p2, p3, p4, p5, p6⟩ := h
  obtain ⟨q1, q2, q3, q4, q5, q6⟩ := h2
  exact ⟨keepM_tr p1 q1, q2.trans p2, q3.trans p3, q4.trans p4, q5.trans p5, q6.trans p6⟩
theorem keepL_13 (m : dx_M) (g : Nat → Int32) : keepL m (dx_pR m 13 g) := ⟨keepM_13 m g, rfl, rfl, rfl, rfl, rfl⟩
theorem keepL_LM {m m' : dx_M} (h : keepL m m') {op : Nat → Nat → Bool} {w hh : Nat} (hl : LM m op w hh) : LM m' op w hh := by
  obtain ⟨p1, p2, p3, p4, p5, p6⟩ := h
  obtain ⟨a1, a2, a3, a4, a5, a6⟩ := hl
  exact ⟨a1, a2, a3, p3.trans a4, p4.trans a5, fun v u hv hu => by rw [p2]; exact a6 v u hv hu⟩
theorem keepL_w {m m' : dx_M} (h : keepL m m') : m'.1 0 6 = m.1 0 6 := h.1.2.1.2.2.2.1
theorem sX4_spreadL {d : Nat} (m : dx_M) {Z : Option Value → dx_M → Prop} {op : Nat → Nat → Bool} {w h r : Nat} (hl : LM m op w h) (hr : r < h) (hb : B13 m) (h1 : ∀ g, WM (dx_pR m 13 g) op w r → Z none (dx_pR m 13 g)) : dx_Sem dx_P lx_M (d + 3) 117 [.ref 0, .int (nI r)] m Z := by
  obtain ⟨a1, a2, a3, a4, a5, a6⟩ := hl
  exact sX4_spreadG (op := op) (w := w) (r := r) m a1 a2 (by omega) a4 (fun v u hv hu => a6 v u (by omega) hu) hb (fun g g1 g2 => h1 g ⟨g1, g2⟩)
theorem fm_t {m : dx_M} {op : Nat → Nat → Bool} {w r y x : Nat} (hm : WM m op w r) (hy : y ≤ r) (hx : x < w) (h : m.1 13 (12 * y + x) = 0) : fmB op w r y x = true := by
  rw [hm.2 y x hy hx] at h
  unfold fmB
  rw [bI_eq h]; rfl
theorem fm_f {m : dx_M} {op : Nat → Nat → Bool} {w r y x : Nat} (hm : WM m op w r) (hy : y ≤ r) (hx : x < w) (h : ¬ m.1 13 (12 * y + x) = 0) : fmB op w r y x = false := by
  rw [hm.2 y x hy hx] at h
  unfold fmB
  rw [bI_ne h]; rfl
theorem ct_t {p : Nat → Bool} {n : Nat} (h : p n = true) : fb_ct p (n + 1) = fb_ct p n + 1 := by rw [fb_ct_succ, h]; rfl
theorem ct_f {p : Nat → Bool} {n : Nat} (h : p n = false) : fb_ct p (n + 1) = fb_ct p n := by rw [fb_ct_succ, h]; rfl
theorem hv_t {p : Nat → Bool} {n : Nat} (h : p n = true) : hvS p (n + 1) = hvS p n + (2 * n + 1) := by unfold hvS; rw [fb_sm_succ]; simp [h]
theorem hv_f {p : Nat → Bool} {n : Nat} (h : p n = false) : hvS p (n + 1) = hvS p n := by unfold hvS; rw [fb_sm_succ]; simp [h]
theorem th_t {p : Nat → Bool} {n : Nat} (h : p n = true) : thS p (n + 1) = thS p n + (3 * n * n + 3 * n + 1) := by unfold thS; rw [fb_sm_succ]; simp [h]
theorem th_f {p : Nat → Bool} {n : Nat} (h : p n = false) : thS p (n + 1) = thS p n := by unfold thS; rw [fb_sm_succ]; simp [h]
theorem nI_a0 (n : Nat) : nI n + 0 = nI n := nI_add n 0
set_option maxRecDepth 20000 in
theorem sX4_firmIn {d : Nat} (m : dx_M) {Z : Option Value → dx_M → Prop} {op : Nat → Nat → Bool} {w h r : Nat} (hl : LM m op w h) (hm : WM m op w r) (hr : r < h) {y : Nat} (hy : y ≤ r) (h1 : Z (some (.int (nI (fb_ct (fmB op w r y) w)))) m) : dx_Sem dx_P lx_M (d + 1) 118 [.ref 0, .int (nI y)] m Z := by
  obtain ⟨a1, a2, a3, a4, a5, a6⟩ := id hl
  refine dx_sem km_X4_firmIn rfl rfl ?_
  refine dx_blk 0 (c' := (0, [.ref 0, .int (nI y), .null, .null], [], m)) rfl ?_
  refine dx_blk 4 (c' := (4, [.ref 0, .int (nI y), .int 0, .int 0], [], m)) rfl ?_
  refine dx_blk 0 (c' := (4, [.ref 0, .int (nI y), .int (nI (fb_ct (fmB op w r y) 0)), .int (nI 0)], [], m)) rfl ?_
  refine dx_for0 (fun (x : Nat) => ((4, [.ref 0, .int (nI y), .int (nI (fb_ct (fmB op w r y) x)), .int (nI x)], [], m) : dx_F)) w (fun x hi hk => ?_) ?_
  · refine dx_blk 0 (c' := (4, [.ref 0, .int (nI y), .int (nI (fb_ct (fmB op w r y) x)), .int (nI x)], [], m)) rfl ?_
    refine dx_blk 3 (c' := (9, [.ref 0, .int (nI y), .int (nI (fb_ct (fmB op w r y) x)), .int (nI x)], [.int (m.1 0 18), .int (nI x)], m)) rfl ?_
    refine dx_br (q := (m.1 0 18) ≤ (nI x)) (a := 40) (b := 12) (L := [.ref 0, .int (nI y), .int (nI (fb_ct (fmB op w r y) x)), .int (nI x)]) (st := []) (m := m) rfl (fun h => absurd h (by rw [a4]; exact nI_ge hi (by omega))) (fun _ => ?_)
    refine dx_blk 8 (c' := (23, [.ref 0, .int (nI y), .int (nI (fb_ct (fmB op w r y) x)), .int (nI x)], [.int ((12 * (nI y)) + (nI x)), .ref 13, .int (nI (fb_ct (fmB op w r y) x))], m)) rfl ?_
    refine dx_bldN (12 * y + x) rfl rfl (Or.inr rfl) (nI_ix2 _ _) (by omega) ?_
    refine dx_blk 0 (c' := (24, [.ref 0, .int (nI y), .int (nI (fb_ct (fmB op w r y) x)), .int (nI x)], [.int (m.1 13 (12 * y + x)), .int (nI (fb_ct (fmB op w r y) x))], m)) rfl ?_
    refine dx_br (q := (m.1 13 (12 * y + x)) = 0) (a := 31) (b := 27) (L := [.ref 0, .int (nI y), .int (nI (fb_ct (fmB op w r y) x)), .int (nI x)]) (st := [.int (nI (fb_ct (fmB op w r y) x))]) (m := m) rfl (fun q24 => ?_) (fun q24 => ?_)
    · refine dx_blk 5 (c' := (4, [.ref 0, .int (nI y), .int ((nI (fb_ct (fmB op w r y) x)) + 1), .int ((nI x) + 1)], [], m)) rfl ?_
      rw [nI_1, ← ct_t (fm_t hm hy hi q24), ← nI_succ]
      exact hk
    · refine dx_blk 6 (c' := (4, [.ref 0, .int (nI y), .int ((nI (fb_ct (fmB op w r y) x)) + 0), .int ((nI x) + 1)], [], m)) rfl ?_
      rw [nI_a0, ← ct_f (fm_f hm hy hi q24), ← nI_succ]
      exact hk
  · refine dx_blk 0 (c' := (4, [.ref 0, .int (nI y), .int (nI (fb_ct (fmB op w r y) w)), .int (nI w)], [], m)) rfl ?_
    refine dx_blk 3 (c' := (9, [.ref 0, .int (nI y), .int (nI (fb_ct (fmB op w r y) w)), .int (nI w)], [.int (m.1 0 18), .int (nI w)], m)) rfl ?_
    refine dx_br (q := (m.1 0 18) ≤ (nI w)) (a := 40) (b := 12) (L := [.ref 0, .int (nI y), .int (nI (fb_ct (fmB op w r y) w)), .int (nI w)]) (st := []) (m := m) rfl (fun _ => ?_) (fun h => absurd (by rw [a4]; exact nI_le (Nat.le_refl _) (by omega)) h)
    refine dx_blk 1 (c' := (41, [.ref 0, .int (nI y), .int (nI (fb_ct (fmB op w r y) w)), .int (nI w)], [.int (nI (fb_ct (fmB op w r y) w))], m)) rfl ?_
    exact dx_ret (r := some (.int (nI (fb_ct (fmB op w r y) w)))) rfl h1
set_option maxRecDepth 20000 in
theorem sX4_firmBelow {d : Nat} (m : dx_M) {Z : Option Value → dx_M → Prop} {op : Nat → Nat → Bool} {w h r : Nat} (hl : LM m op w h) (hm : WM m op w r) (hr : r < h) {n : Nat} (hn : n ≤ r + 1) (h1 : Z (some (.int (nI (fb_sm (fun y => fb_ct (fmB op w r y) w) n)))) m) : dx_Sem dx_P lx_M (d + 2) 119 [.ref 0, .int (nI n)] m Z := by
  obtain ⟨a1, a2, a3, a4, a5, a6⟩ := id hl
  refine dx_sem km_X4_firmBelow rfl rfl ?_
  refine dx_blk 0 (c' := (0, [.ref 0, .int (nI n), .null, .null], [], m)) rfl ?_
  refine dx_blk 4 (c' := (4, [.ref 0, .int (nI n), .int 0, .int 0], [], m)) rfl ?_
  refine dx_blk 0 (c' := (4, [.ref 0, .int (nI n), .int (nI (fb_sm (fun y => fb_ct (fmB op w r y) w) 0)), .int (nI 0)], [], m)) rfl ?_
  refine dx_for0 (fun (y : Nat) => ((4, [.ref 0, .int (nI n), .int (nI (fb_sm (fun y => fb_ct (fmB op w r y) w) y)), .int (nI y)], [], m) : dx_F)) n (fun y hi hk => ?_) ?_
  · refine dx_blk 0 (c' := (4, [.ref 0, .int (nI n), .int (nI (fb_sm (fun y => fb_ct (fmB op w r y) w) y)), .int (nI y)], [], m)) rfl ?_
    refine dx_blk 2 (c' := (6, [.ref 0, .int (nI n), .int (nI (fb_sm (fun y => fb_ct (fmB op w r y) w) y)), .int (nI y)], [.int (nI n), .int (nI y)], m)) rfl ?_
    refine dx_br (q := (nI n) ≤ (nI y)) (a := 23) (b := 9) (L := [.ref 0, .int (nI n), .int (nI (fb_sm (fun y => fb_ct (fmB op w r y) w) y)), .int (nI y)]) (st := []) (m := m) rfl (fun h => absurd h (nI_ge hi (by omega))) (fun _ => ?_)
    refine dx_blk 3 (c' := (12, [.ref 0, .int (nI n), .int (nI (fb_sm (fun y => fb_ct (fmB op w r y) w) y)), .int (nI y)], [.int (nI y), .ref 0, .int (nI (fb_sm (fun y => fb_ct (fmB op w r y) w) y))], m)) rfl ?_
    refine dx_call (id := 118) (as := [.ref 0, .int (nI y)]) (rest := [.int (nI (fb_sm (fun y => fb_ct (fmB op w r y) w) y))]) rfl ?_
    refine sX4_firmIn _ hl hm hr (y := y) (by omega) ?_
    refine dx_blk 0 (c' := (15, [.ref 0, .int (nI n), .int (nI (fb_sm (fun y => fb_ct (fmB op w r y) w) y)), .int (nI y)], [.int (nI (fb_ct (fmB op w r y) w)), .int (nI (fb_sm (fun y => fb_ct (fmB op w r y) w) y))], m)) rfl ?_
    refine dx_blk 4 (c' := (4, [.ref 0, .int (nI n), .int ((nI (fb_sm (fun y => fb_ct (fmB op w r y) w) y)) + (nI (fb_ct (fmB op w r y) w))), .int ((nI y) + 1)], [], m)) rfl ?_
    rw [nI_add, ← nI_succ]
    exact hk
  · refine dx_blk 0 (c' := (4, [.ref 0, .int (nI n), .int (nI (fb_sm (fun y => fb_ct (fmB op w r y) w) n)), .int (nI n)], [], m)) rfl ?_
    refine dx_blk 2 (c' := (6, [.ref 0, .int (nI n), .int (nI (fb_sm (fun y => fb_ct (fmB op w r y) w) n)), .int (nI n)], [.int (nI n), .int (nI n)], m)) rfl ?_
    refine dx_br (q := (nI n) ≤ (nI n)) (a := 23) (b := 9) (L := [.ref 0, .int (nI n), .int (nI (fb_sm (fun y => fb_ct (fmB op w r y) w) n)), .int (nI n)]) (st := []) (m := m) rfl (fun _ => ?_) (fun h => absurd (nI_le (Nat.le_refl _) (by omega)) h)
    refine dx_blk 1 (c' := (24, [.ref 0, .int (nI n), .int (nI (fb_sm (fun y => fb_ct (fmB op w r y) w) n)), .int (nI n)], [.int (nI (fb_sm (fun y => fb_ct (fmB op w r y) w) n))], m)) rfl ?_
    exact dx_ret (r := some (.int (nI (fb_sm (fun y => fb_ct (fmB op w r y) w) n)))) rfl h1
def AM (m : dx_M) (op : Nat → Nat → Bool) (w h r : Nat) (p Q : Int) : Prop := LM m op w h ∧ WM m op w r ∧ m.1 0 24 = nI r ∧ m.1 0 28 = nI (fA op w r) ∧ m.2 0 25 = lZ p ∧ m.2 0 26 = lZ Q
set_option maxRecDepth 20000 in
theorem lp_finds {d : Nat} {Z : Option Value → dx_M → Prop} {op : Nat → Nat → Bool} {w h Wt D : Nat} (h0 : 0 < Wt) (hWt : Wt ≤ 7000) (hD : D ≤ 20) (m0 : dx_M) (e0 : m0.1 0 6 = nI D) (hl0 : LM m0 op w h) (h1 : ∀ m', (∀ r, r < h → ¬ Wt ≤ rmN op w r * D) → keepL m0 m' → B13 m' → Z (some (.int 0)) m') (h2 : ∀ (r : Nat) (m' : dx_M), rfP op w h D Wt r → keepL m0 m' → AM m' op w h r (pN op w r D Wt) (qN op w r D) → Z (some (.int 1)) m') : ∀ (n y : Nat) (m : dx_M), y + n = h → keepL m0 m → B13 m → (∀ r, r < y → ¬ Wt ≤ rmN op w r * D) → dx_Go (d + 3) (dx_Sem dx_P lx_M (d + 3)) lx_M km_X4_finds Z (2, [.ref 0, .int (nI Wt), .int (nI y), .null, .null], [], m) := by
  intro n
  induction n with
  | zero =>
    intro y m hy hk hb hno
    obtain rfl : y = h := by omega
    obtain ⟨a1, a2, a3, a4, a5, a6⟩ := keepL_LM hk hl0
    refine dx_blk 0 (c' := (2, [.ref 0, .int (nI Wt), .int (nI y), .null, .null], [], m)) rfl ?_
    refine dx_blk 3 (c' := (7, [.ref 0, .int (nI Wt), .int (nI y), .null, .null], [.int (m.1 0 19), .int (nI y)], m)) rfl ?_
    refine dx_br (q := (m.1 0 19) ≤ (nI y)) (a := 101) (b := 10) (L := [.ref 0, .int (nI Wt), .int (nI y), .null, .null]) (st := []) (m := m) rfl (fun _ => ?_) (fun h => absurd (by rw [a5]; exact nI_le (Nat.le_refl _) (by omega)) h)
    refine dx_blk 1 (c' := (102, [.ref 0, .int (nI Wt), .int (nI y), .null, .null], [.int 0], m)) rfl ?_
    exact dx_ret (r := some (.int 0)) rfl (h1 m hno hk hb)
  | succ n ih =>
    intro y m hy hk hb hno
    have hl := keepL_LM hk hl0
    obtain ⟨a1, a2, a3, a4, a5, a6⟩ := id hl
    have e6 : m.1 0 6 = nI D := (keepL_w hk).trans e0
    refine dx_blk 0 (c' := (2, [.ref 0, .int (nI Wt), .int (nI y), .null, .null], [], m)) rfl ?_
    refine dx_blk 3 (c' := (7, [.ref 0, .int (nI Wt), .int (nI y), .null, .null], [.int (m.1 0 19), .int (nI y)], m)) rfl ?_
    refine dx_br (q := (m.1 0 19) ≤ (nI y)) (a := 101) (b := 10) (L := [.ref 0, .int (nI Wt), .int (nI y), .null, .null]) (st := []) (m := m) rfl (fun h => absurd h (by rw [a5]; exact nI_ge (by omega) (by omega))) (fun _ => ?_)
    refine dx_blk 2 (c' := (12, [.ref 0, .int (nI Wt), .int (nI y), .null, .null], [.int (nI y), .ref 0], m)) rfl ?_
    refine dx_call (id := 117) (as := [.ref 0, .int (nI y)]) (rest := []) rfl ?_
    refine sX4_spreadL _ hl (r := y) (by omega) hb (fun g hg => ?_)
    refine dx_blk 0 (c' := (15, [.ref 0, .int (nI Wt), .int (nI y), .null, .null], [], dx_pR m 13 g)) rfl ?_
    refine dx_blk 2 (c' := (17, [.ref 0, .int (nI Wt), .int (nI y), .null, .null], [.int (nI y), .ref 0], dx_pR m 13 g)) rfl ?_
    refine dx_call (id := 119) (as := [.ref 0, .int (nI y)]) (rest := []) rfl ?_
    refine sX4_firmBelow (dx_pR m 13 g) (r := y) (LM_13 hl g) hg (by omega) (n := y) (by omega) ?_
    refine dx_blk 0 (c' := (20, [.ref 0, .int (nI Wt), .int (nI y), .null, .null], [.int (nI (fB op w y))], dx_pR m 13 g)) rfl ?_
    refine dx_blk 3 (c' := (23, [.ref 0, .int (nI Wt), .int (nI y), .int (nI (fB op w y)), .null], [.int (nI y), .ref 0], dx_pR m 13 g)) rfl ?_
    refine dx_call (id := 118) (as := [.ref 0, .int (nI y)]) (rest := []) rfl ?_
    refine sX4_firmIn (dx_pR m 13 g) (r := y) (LM_13 hl g) hg (by omega) (y := y) (by omega) ?_
    refine dx_blk 0 (c' := (26, [.ref 0, .int (nI Wt), .int (nI y), .int (nI (fB op w y)), .null], [.int (nI (fA op w y))], dx_pR m 13 g)) rfl ?_
    refine dx_blk 1 (c' := (28, [.ref 0, .int (nI Wt), .int (nI y), .int (nI (fB op w y)), .int (nI (fA op w y))], [], dx_pR m 13 g)) rfl ?_
    have b1 := fB_le op a2 (show y ≤ 12 by omega)
    have b2 := fA_le op y a2
    have b3 : fB op w y * D ≤ 144 * 20 := Nat.mul_le_mul b1 hD
    have b4 : rmN op w y * D ≤ 156 * 20 := Nat.mul_le_mul (rm_le op a2 (by omega)) hD
    have b5 : fA op w y * D ≤ 12 * 20 := Nat.mul_le_mul b2 hD
    have er : nI (fB op w y) + nI (fA op w y) = nI (rmN op w y) := nI_add _ _
    rcases Decidable.em (Wt ≤ rmN op w y * D) with qr | qr
    · refine dx_blk 0 (c' := (28, [.ref 0, .int (nI Wt), .int (nI y), .int (nI (fB op w y)), .int (nI (fA op w y))], [], dx_pR m 13 g)) rfl ?_
      refine dx_blk 5 (c' := (35, [.ref 0, .int (nI Wt), .int (nI y), .int (nI (fB op w y)), .int (nI (fA op w y))], [.int (nI Wt), .int ((nI (fB op w y)) * (m.1 0 6))], dx_pR m 13 g)) rfl ?_
      refine dx_br (q := (nI Wt) ≤ ((nI (fB op w y)) * (m.1 0 6))) (a := 95) (b := 38) (L := [.ref 0, .int (nI Wt), .int (nI y), .int (nI (fB op w y)), .int (nI (fA op w y))]) (st := []) (m := dx_pR m 13 g) rfl (fun h => absurd h (by have hlt := fl_pos h0 (h := y + 1) (show rfP op w (y + 1) D Wt y from ⟨by omega, qr, hno⟩); rw [e6, pk_mul]; exact nI_ge hlt (by omega))) (fun _ => ?_)
      refine dx_blk 7 (c' := (48, [.ref 0, .int (nI Wt), .int (nI y), .int (nI (fB op w y)), .int (nI (fA op w y))], [.int (((nI (fB op w y)) + (nI (fA op w y))) * (m.1 0 6)), .int (nI Wt)], dx_pR m 13 g)) rfl ?_
      refine dx_br (q := (((nI (fB op w y)) + (nI (fA op w y))) * (m.1 0 6)) < (nI Wt)) (a := 95) (b := 51) (L := [.ref 0, .int (nI Wt), .int (nI y), .int (nI (fB op w y)), .int (nI (fA op w y))]) (st := []) (m := dx_pR m 13 g) rfl (fun h => absurd h (by rw [er, e6, pk_mul]; exact nI_nlt qr (by omega))) (fun _ => ?_)
      refine dx_blk 27 (c' := (94, [.ref 0, .int (nI Wt), .int (nI y), .int (nI (fB op w y)), .int (nI (fA op w y))], [.int 1], dx_pL (dx_pL (dx_pI (dx_pI (dx_pI (dx_pR m 13 g) 0 24 (nI y)) 0 27 (nI (fB op w y))) 0 28 (nI (fA op w y))) 0 25 (((nI Wt) - ((nI (fB op w y)) * (m.1 0 6))).toInt64)) 0 26 (((nI (fA op w y)).toInt64) * ((m.1 0 6).toInt64)))) rfl ?_
      exact dx_ret (r := some (.int 1)) rfl (by
    have hrf : rfP op w h D Wt y := ⟨by omega, qr, hno⟩
    have hlt := fl_pos h0 hrf
    refine h2 y _ hrf (keepL_tr hk ?_) ⟨?_, ?_, ?_, ?_, ?_, ?_⟩
    · exact ⟨⟨fun k h3 h4 h5 => (by simp [dx_pI, dx_pR, dx_pL, h3, h5]), ⟨rfl, rfl, rfl, rfl, rfl⟩, rfl, rfl⟩, rfl, rfl, rfl, rfl, rfl⟩
    · exact hl
    · exact hg
    · rfl
    · rfl
    · show (nI Wt - nI (fB op w y) * m.1 0 6).toInt64 = _
      rw [e6, pk_mul, sub_I (by omega) (by omega)]; rfl
    · show (nI (fA op w y)).toInt64 * (m.1 0 6).toInt64 = _
      rw [e6, lZ_n (by omega), lZ_n (by omega), lZ_mul]; rfl)
    · refine dx_blk 0 (c' := (28, [.ref 0, .int (nI Wt), .int (nI y), .int (nI (fB op w y)), .int (nI (fA op w y))], [], dx_pR m 13 g)) rfl ?_
      refine dx_blk 5 (c' := (35, [.ref 0, .int (nI Wt), .int (nI y), .int (nI (fB op w y)), .int (nI (fA op w y))], [.int (nI Wt), .int ((nI (fB op w y)) * (m.1 0 6))], dx_pR m 13 g)) rfl ?_
      refine dx_br (q := (nI Wt) ≤ ((nI (fB op w y)) * (m.1 0 6))) (a := 95) (b := 38) (L := [.ref 0, .int (nI Wt), .int (nI y), .int (nI (fB op w y)), .int (nI (fA op w y))]) (st := []) (m := dx_pR m 13 g) rfl (fun q35 => ?_) (fun q35 => ?_)
      · refine dx_blk 2 (c' := (2, [.ref 0, .int (nI Wt), .int ((nI y) + 1), .int (nI (fB op w y)), .int (nI (fA op w y))], [], dx_pR m 13 g)) rfl ?_
        refine dx_fgt [.ref 0, .int (nI Wt), .int ((nI y) + 1), .null, .null] (And.intro (Or.inr rfl) (And.intro (Or.inr rfl) (And.intro (Or.inr rfl) (And.intro (Or.inl rfl) (And.intro (Or.inl rfl) trivial))))) ?_
        rw [← nI_succ]
        refine ih (y + 1) _ (by omega) (keepL_tr hk (keepL_13 m g)) (WM_B hg) (fun r hr => ?_)
        rcases Nat.lt_or_ge r y with q | q
        · exact hno r q
        · obtain rfl : r = y := by omega
          exact qr
      · refine dx_blk 7 (c' := (48, [.ref 0, .int (nI Wt), .int (nI y), .int (nI (fB op w y)), .int (nI (fA op w y))], [.int (((nI (fB op w y)) + (nI (fA op w y))) * (m.1 0 6)), .int (nI Wt)], dx_pR m 13 g)) rfl ?_
        refine dx_br (q := (((nI (fB op w y)) + (nI (fA op w y))) * (m.1 0 6)) < (nI Wt)) (a := 95) (b := 51) (L := [.ref 0, .int (nI Wt), .int (nI y), .int (nI (fB op w y)), .int (nI (fA op w y))]) (st := []) (m := dx_pR m 13 g) rfl (fun _ => ?_) (fun h => absurd (by rw [er, e6, pk_mul]; exact nI_lt (by omega) (by omega)) h)
        refine dx_blk 2 (c' := (2, [.ref 0, .int (nI Wt), .int ((nI y) + 1), .int (nI (fB op w y)), .int (nI (fA op w y))], [], dx_pR m 13 g)) rfl ?_
        refine dx_fgt [.ref 0, .int (nI Wt), .int ((nI y) + 1), .null, .null] (And.intro (Or.inr rfl) (And.intro (Or.inr rfl) (And.intro (Or.inr rfl) (And.intro (Or.inl rfl) (And.intro (Or.inl rfl) trivial))))) ?_
        rw [← nI_succ]
        refine ih (y + 1) _ (by omega) (keepL_tr hk (keepL_13 m g)) (WM_B hg) (fun r hr => ?_)
        rcases Nat.lt_or_ge r y with q | q
        · exact hno r q
        · obtain rfl : r = y := by omega
          exact qr
theorem sX4_finds {d : Nat} (m0 : dx_M) {Z : Option Value → dx_M → Prop} {op : Nat → Nat → Bool} {w h Wt D : Nat} (h0 : 0 < Wt) (hWt : Wt ≤ 7000) (hD : D ≤ 20) (e0 : m0.1 0 6 = nI D) (hl : LM m0 op w h) (hb : B13 m0) (h1 : ∀ m', (∀ r, r < h → ¬ Wt ≤ rmN op w r * D) → keepL m0 m' → B13 m' → Z (some (.int 0)) m') (h2 : ∀ (r : Nat) (m' : dx_M), rfP op w h D Wt r → keepL m0 m' → AM m' op w h r (pN op w r D Wt) (qN op w r D) → Z (some (.int 1)) m') : dx_Sem dx_P lx_M (d + 4) 120 [.ref 0, .int (nI Wt)] m0 Z := by
  refine dx_sem km_X4_finds rfl rfl ?_
  refine dx_blk 2 (c' := (2, [.ref 0, .int (nI Wt), .int 0, .null, .null], [], m0)) rfl ?_
  exact lp_finds h0 hWt hD m0 e0 hl h1 h2 h 0 m0 (by omega) (keepL_rf m0) hb (fun r hr => absurd hr (by omega))
set_option maxRecDepth 20000 in
theorem lp_mmost {d : Nat} {Z : Option Value → dx_M → Prop} {op : Nat → Nat → Bool} {w h : Nat} (m0 : dx_M) (hl0 : LM m0 op w h) (h1 : ∀ m', keepL m0 m' → B13 m' → Z (some (.int (nI (mxN op w h)))) m') : ∀ (n y : Nat) (m : dx_M), y + n = h → keepL m0 m → B13 m → dx_Go (d + 3) (dx_Sem dx_P lx_M (d + 3)) lx_M km_X4_mostRoom Z (4, [.ref 0, .int (nI (mxN op w y)), .int (nI y), .null], [], m) := by
  intro n
  induction n with
  | zero =>
    intro y m hy hk hb
    obtain rfl : y = h := by omega
    obtain ⟨a1, a2, a3, a4, a5, a6⟩ := keepL_LM hk hl0
    refine dx_blk 0 (c' := (4, [.ref 0, .int (nI (mxN op w y)), .int (nI y), .null], [], m)) rfl ?_
    refine dx_blk 3 (c' := (9, [.ref 0, .int (nI (mxN op w y)), .int (nI y), .null], [.int (m.1 0 19), .int (nI y)], m)) rfl ?_
    refine dx_br (q := (m.1 0 19) ≤ (nI y)) (a := 42) (b := 12) (L := [.ref 0, .int (nI (mxN op w y)), .int (nI y), .null]) (st := []) (m := m) rfl (fun _ => ?_) (fun h => absurd (by rw [a5]; exact nI_le (Nat.le_refl _) (by omega)) h)
    refine dx_blk 1 (c' := (43, [.ref 0, .int (nI (mxN op w y)), .int (nI y), .null], [.int (nI (mxN op w y))], m)) rfl ?_
    exact dx_ret (r := some (.int (nI (mxN op w y)))) rfl (h1 m hk hb)
  | succ n ih =>
    intro y m hy hk hb
    have hl := keepL_LM hk hl0
    obtain ⟨a1, a2, a3, a4, a5, a6⟩ := id hl
    refine dx_blk 0 (c' := (4, [.ref 0, .int (nI (mxN op w y)), .int (nI y), .null], [], m)) rfl ?_
    refine dx_blk 3 (c' := (9, [.ref 0, .int (nI (mxN op w y)), .int (nI y), .null], [.int (m.1 0 19), .int (nI y)], m)) rfl ?_
    refine dx_br (q := (m.1 0 19) ≤ (nI y)) (a := 42) (b := 12) (L := [.ref 0, .int (nI (mxN op w y)), .int (nI y), .null]) (st := []) (m := m) rfl (fun h => absurd h (by rw [a5]; exact nI_ge (by omega) (by omega))) (fun _ => ?_)
    refine dx_blk 2 (c' := (14, [.ref 0, .int (nI (mxN op w y)), .int (nI y), .null], [.int (nI y), .ref 0], m)) rfl ?_
    refine dx_call (id := 117) (as := [.ref 0, .int (nI y)]) (rest := []) rfl ?_
    refine sX4_spreadL _ hl (r := y) (by omega) hb (fun g hg => ?_)
    refine dx_blk 0 (c' := (17, [.ref 0, .int (nI (mxN op w y)), .int (nI y), .null], [], dx_pR m 13 g)) rfl ?_
    refine dx_blk 4 (c' := (21, [.ref 0, .int (nI (mxN op w y)), .int (nI y), .null], [.int ((nI y) + 1), .ref 0], dx_pR m 13 g)) rfl ?_
    refine dx_call (id := 119) (as := [.ref 0, .int ((nI y) + 1)]) (rest := []) rfl ?_
    rw [nI_1]
    refine sX4_firmBelow (dx_pR m 13 g) (r := y) (LM_13 hl g) hg (by omega) (n := y + 1) (by omega) ?_
    refine dx_blk 0 (c' := (24, [.ref 0, .int (nI (mxN op w y)), .int (nI y), .null], [.int (nI (rmN op w y))], dx_pR m 13 g)) rfl ?_
    refine dx_blk 3 (c' := (27, [.ref 0, .int (nI (mxN op w y)), .int (nI y), .int (nI (rmN op w y))], [.int (nI (mxN op w y)), .int (nI (rmN op w y))], dx_pR m 13 g)) rfl ?_
    refine dx_br (q := (nI (rmN op w y)) ≤ (nI (mxN op w y))) (a := 34) (b := 30) (L := [.ref 0, .int (nI (mxN op w y)), .int (nI y), .int (nI (rmN op w y))]) (st := []) (m := dx_pR m 13 g) rfl (fun q27 => ?_) (fun q27 => ?_)
    · refine dx_blk 4 (c' := (4, [.ref 0, .int (nI (mxN op w y)), .int ((nI y) + 1), .int (nI (rmN op w y))], [], dx_pR m 13 g)) rfl ?_
      refine dx_fgt [.ref 0, .int (nI (mxN op w y)), .int ((nI y) + 1), .null] (And.intro (Or.inr rfl) (And.intro (Or.inr rfl) (And.intro (Or.inr rfl) (And.intro (Or.inl rfl) trivial)))) ?_
      rw [← nI_succ, show nI (mxN op w y) = nI (mxN op w (y + 1)) from ?_]
      · exact ih (y + 1) _ (by omega) (keepL_tr hk (keepL_13 m g)) (WM_B hg)
      · have e1 := mx_le op a2 y (by omega)
        have e2 := rm_le op a2 (show y < 12 by omega)
        rw [fa_le, nI_toInt (by omega), nI_toInt (by omega)] at q27
        rw [mxN_succ]
        first | rw [if_pos (by omega)] | rw [if_neg (by omega)]
    · refine dx_blk 5 (c' := (4, [.ref 0, .int (nI (rmN op w y)), .int ((nI y) + 1), .int (nI (rmN op w y))], [], dx_pR m 13 g)) rfl ?_
      refine dx_fgt [.ref 0, .int (nI (rmN op w y)), .int ((nI y) + 1), .null] (And.intro (Or.inr rfl) (And.intro (Or.inr rfl) (And.intro (Or.inr rfl) (And.intro (Or.inl rfl) trivial)))) ?_
      rw [← nI_succ, show nI (rmN op w y) = nI (mxN op w (y + 1)) from ?_]
      · exact ih (y + 1) _ (by omega) (keepL_tr hk (keepL_13 m g)) (WM_B hg)
      · have e1 := mx_le op a2 y (by omega)
        have e2 := rm_le op a2 (show y < 12 by omega)
        rw [fa_le, nI_toInt (by omega), nI_toInt (by omega)] at q27
        rw [mxN_succ]
        first | rw [if_pos (by omega)] | rw [if_neg (by omega)]
theorem sX4_mostRoom {d : Nat} (m0 : dx_M) {Z : Option Value → dx_M → Prop} {op : Nat → Nat → Bool} {w h : Nat} (hl : LM m0 op w h) (hb : B13 m0) (h1 : ∀ m', keepL m0 m' → B13 m' → Z (some (.int (nI (mxN op w h)))) m') : dx_Sem dx_P lx_M (d + 4) 137 [.ref 0] m0 Z := by
  refine dx_sem km_X4_mostRoom rfl rfl ?_
  refine dx_blk 4 (c' := (4, [.ref 0, .int 0, .int 0, .null], [], m0)) rfl ?_
  exact lp_mmost m0 hl h1 h 0 m0 (by omega) (keepL_rf m0) hb
