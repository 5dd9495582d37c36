/-! how it lies: what both programs find (printed by wip/whole/g31.py) -/
theorem fB_rm (op : Nat → Nat → Bool) (w r : Nat) : fB op w (r + 1) ≤ rmN op w r := by
  have h : fB op w (r + 1) ≤ fb_sm (fun y => fb_ct (fun x => !wetB op w r y x) w) (r + 1) := by
    unfold fB
    refine fb_sm_le (fun y _ => fb_ct_sub (fun x _ h => ?_))
    cases e : wetB op w r y x with
    | false => rfl
    | true => rw [wet_mono (Nat.le_succ r) e] at h; exact h
  rw [fb_sm_succ] at h
  exact h
noncomputable def pN (op : Nat → Nat → Bool) (w r D Wt : Nat) : Int := (Wt : Int) - (fB op w r * D : Nat)
noncomputable def qN (op : Nat → Nat → Bool) (w r D : Nat) : Int := (fA op w r * D : Nat)
def rfP (op : Nat → Nat → Bool) (w h D Wt r : Nat) : Prop := r < h ∧ Wt ≤ rmN op w r * D ∧ ∀ r', r' < r → ¬ Wt ≤ rmN op w r' * D
theorem fl_pos {op : Nat → Nat → Bool} {w h D Wt r : Nat} (h0 : 0 < Wt) (hr : rfP op w h D Wt r) : fB op w r * D < Wt := by
  obtain ⟨-, -, h3⟩ := hr
  cases r with
  | zero =>
    have e : fB op w 0 = 0 := rfl
    rw [e, Nat.zero_mul]
    exact h0
  | succ r =>
    have h4 := h3 r (Nat.lt_succ_self r)
    have h5 : fB op w (r + 1) * D ≤ rmN op w r * D := Nat.mul_le_mul_right D (fB_rm op w r)
    omega
/-- the draft's part -/
theorem pq_ok {op : Nat → Nat → Bool} {w h D Wt r : Nat} (hw : w ≤ 12) (hD : D ≤ 20) (h0 : 0 < Wt) (hr : rfP op w h D Wt r) : 0 < pN op w r D Wt ∧ pN op w r D Wt ≤ qN op w r D ∧ qN op w r D ≤ 240 := by
  have h1 := fl_pos h0 hr
  have h2 := hr.2.1
  have h3 : fA op w r * D ≤ 12 * 20 := Nat.mul_le_mul (fA_le op r hw) hD
  unfold rmN at h2
  rw [Nat.add_mul] at h2
  unfold pN qN
  omega
noncomputable def rowO (op : Nat → Nat → Bool) (w h D Wt : Nat) : Nat := if fa_first (fun r => decide (Wt ≤ rmN op w r * D)) h < h then fa_first (fun r => decide (Wt ≤ rmN op w r * D)) h + 3 else 2
theorem rowO_2 {op : Nat → Nat → Bool} {w h D Wt : Nat} (hn : ∀ r, r < h → ¬ Wt ≤ rmN op w r * D) : rowO op w h D Wt = 2 := by
  unfold rowO
  refine if_neg (fun q => ?_)
  exact hn _ q (of_decide_eq_true (fa_first_yes (fun r => decide (Wt ≤ rmN op w r * D)) h q))
theorem rowO_r {op : Nat → Nat → Bool} {w h D Wt r : Nat} (hr : rfP op w h D Wt r) : rowO op w h D Wt = r + 3 := by
  obtain ⟨h1, h2, h3⟩ := hr
  have e : fa_first (fun r => decide (Wt ≤ rmN op w r * D)) h = r := by
    rcases Nat.lt_trichotomy (fa_first (fun r => decide (Wt ≤ rmN op w r * D)) h) r with q | q | q
    · exact absurd (of_decide_eq_true (fa_first_yes (fun r => decide (Wt ≤ rmN op w r * D)) h (by omega))) (h3 _ q)
    · exact q
    · exact absurd h2 (of_decide_eq_false (fa_first_no (fun r => decide (Wt ≤ rmN op w r * D)) h r q))
  unfold rowO
  rw [e, if_pos h1]
noncomputable def ouN (f : Nat → Int32) (W H D Wt sq : Nat) (t : Int32) : Nat := if inI t 0 3 = true then (if Wt = 0 ∨ sq = 0 then 1 else rowO (opS f t.toNatClampNeg W H) (wdN t.toNatClampNeg W H) (htN t.toNatClampNeg W H) D Wt) else 0
theorem ou_0 {f : Nat → Int32} {W H D Wt sq : Nat} {t : Int32} (h : inI t 0 3 = false) : ouN f W H D Wt sq t = 0 := if_neg (by rw [h]; decide)
theorem ou_1 {f : Nat → Int32} {W H D Wt sq : Nat} {t : Int32} (h : inI t 0 3 = true) (h2 : Wt = 0 ∨ sq = 0) : ouN f W H D Wt sq t = 1 := by
  unfold ouN
  rw [if_pos h, if_pos h2]
theorem in_03 {t : Nat} (h : t < 4) : inI (nI t) 0 3 = true := inI_t.mpr ⟨nI_le (a := 0) (by omega) (by omega), nI_le (b := 3) (by omega) (by decide)⟩
theorem ou_2 {f : Nat → Int32} {W H D Wt sq t : Nat} (ht : t < 4) (h : Wt ≠ 0) (h2 : sq ≠ 0) : ouN f W H D Wt sq (nI t) = rowO (opS f t W H) (wdN t W H) (htN t W H) D Wt := by
  unfold ouN
  rw [if_pos (in_03 ht), if_neg (by omega), nI_clamp (by omega)]
def ansO (o : Nat) : Int32 := if o = 0 then -1 else if o = 1 then -4 else if o = 2 then -5 else 1
theorem ans_1 {o : Nat} (h : ansO o = 1) : ∃ r, o = r + 3 := by
  match o, h with
  | 0, h => exact absurd h (by decide)
  | 1, h => exact absurd h (by decide)
  | 2, h => exact absurd h (by decide)
  | r + 3, _ => exact ⟨r, rfl⟩
theorem ans_r (r : Nat) : ansO (r + 3) = 1 := by
  unfold ansO
  rw [if_neg (by omega), if_neg (by omega), if_neg (by omega)]
theorem ans_n {o : Nat} (h : ¬ ansO o = 1) : o < 3 := by
  rcases Nat.lt_or_ge o 3 with q | q
  · exact q
  · obtain ⟨r, rfl⟩ := Nat.exists_eq_add_of_le q
    rw [Nat.add_comm] at h
    exact absurd (ans_r r) h
theorem ans_neg {o : Nat} : ansO o < 0 ↔ o < 3 := by
  match o with
  | 0 => decide
  | 1 => decide
  | 2 => decide
  | r + 3 => rw [ans_r]; exact ⟨fun h => absurd h (by decide), fun h => by omega⟩
theorem ans_st {o : Nat} : ansO o = -4 ↔ o = 1 := by
  match o with
  | 0 => decide
  | 1 => decide
  | 2 => decide
  | r + 3 => rw [ans_r]; exact ⟨fun h => absurd h (by decide), fun h => by omega⟩
/-- what the class knows of the log -/
def GX (m : dx_M) (f : Nat → Int32) (W H E D Wt sq : Nat) (wa wu : Nat → Int) : Prop :=
  1 ≤ W ∧ W ≤ 12 ∧ 1 ≤ H ∧ H ≤ 12 ∧ E ≤ 10 ∧ 1 ≤ D ∧ D ≤ 20 ∧ m.1 1 1 = nI W ∧ m.1 1 2 = nI H ∧ m.1 0 7 = nI E ∧ m.1 0 6 = nI D ∧ m.1 2 = f ∧ allX m E = nI Wt ∧ n_cnt f = nI sq ∧ Wt ≤ 5000 ∧ sq ≤ 144 ∧ ∀ k, k < 4 → wAX m (nI k) W H E = lZ (wa k) ∧ wUX m (nI k) W H E = lZ (wu k) ∧ (wa k).natAbs ≤ 200000 ∧ (wu k).natAbs ≤ 200000
theorem keep_all {m m' : dx_M} (hk : keepX m m') (E : Nat) : allX m' E = allX m E ∧ (∀ t W H, wAX m' t W H E = wAX m t W H E) ∧ ∀ t W H, wUX m' t W H E = wUX m t W H E := by
  have e : ∀ i, m'.1 (10 + i) = m.1 (10 + i) := fun i => hk.1 (10 + i) (by omega) (by omega) (by omega)
  have e2 : thX m' = thX m := funext fun i => by unfold thX; rw [e i]
  have e3 : m'.1 2 = m.1 2 := hk.1 2 (by decide) (by decide) (by decide)
  refine ⟨?_, fun t W H => ?_, fun t W H => ?_⟩
  · unfold allX
    rw [e2, e3, show (fun i => m'.1 (10 + i) 4) = (fun i => m.1 (10 + i) 4) from funext fun i => by rw [e i]]
  · unfold wAX
    rw [e2, e3, show (fun i => m'.1 (10 + i) 4) = (fun i => m.1 (10 + i) 4) from funext fun i => by rw [e i], show (fun i => trA t (m'.1 (10 + i) 2) (m'.1 (10 + i) 3) (2 * nI W) (2 * nI H)) = (fun i => trA t (m.1 (10 + i) 2) (m.1 (10 + i) 3) (2 * nI W) (2 * nI H)) from funext fun i => by rw [e i]]
  · unfold wUX
    rw [e2, e3, show (fun i => m'.1 (10 + i) 4) = (fun i => m.1 (10 + i) 4) from funext fun i => by rw [e i], show (fun i => trU t (m'.1 (10 + i) 2) (m'.1 (10 + i) 3) (2 * nI W) (2 * nI H) + m'.1 (10 + i) 5) = (fun i => trU t (m.1 (10 + i) 2) (m.1 (10 + i) 3) (2 * nI W) (2 * nI H) + m.1 (10 + i) 5) from funext fun i => by rw [e i]]
theorem GX_keep {m m' : dx_M} {f : Nat → Int32} {W H E D Wt sq : Nat} {wa wu : Nat → Int} (hk : keepX m m') (hg : GX m f W H E D Wt sq wa wu) : GX m' f W H E D Wt sq wa wu := by
  obtain ⟨k1, k2, k3⟩ := keep_all hk E
  obtain ⟨g1, g2, g3, g4, g5, g6, g7, g8, g9, g10, g11, g12, g13, g14, g15, g16, g17⟩ := hg
  have e0 : m'.1 0 = m.1 0 := hk.1 0 (by decide) (by decide) (by decide)
  have e1 : m'.1 1 = m.1 1 := hk.1 1 (by decide) (by decide) (by decide)
  have e3 : m'.1 2 = m.1 2 := hk.1 2 (by decide) (by decide) (by decide)
  exact ⟨g1, g2, g3, g4, g5, g6, g7, by rw [e1]; exact g8, by rw [e1]; exact g9, by rw [e0]; exact g10, by rw [e0]; exact g11, e3.trans g12, k1.trans g13, g14, g15, g16, fun k hk4 => ⟨(k2 _ _ _).trans (g17 k hk4).1, (k3 _ _ _).trans (g17 k hk4).2.1, (g17 k hk4).2.2⟩⟩
theorem sX1_turnT {d : Nat} (m : dx_M) {f : Nat → Int32} {W H : Nat} (hW1 : 1 ≤ W) (hW : W ≤ 12) (hH1 : 1 ≤ H) (hH : H ≤ 12) (eW : m.1 1 1 = nI W) (eH : m.1 1 2 = nI H) (ef : m.1 2 = f) {t : Nat} (ht : t < 4) {Z : Option Value → dx_M → Prop} (h : ∀ m', LX m' (opS f t W H) (wdN t W H) (htN t W H) 0 → keepX m m' → Z none m') : dx_Sem dx_P lx_X (d + 2) 10 [.ref 3, .ref 1, .int (nI t)] m Z := by
  subst ef
  refine sX1_turnTo m hW hH eW eH ht (h _ ⟨?_, ?_, ?_, by omega, rfl, rfl, rfl, fun y hy => ?_, fun y hy => absurd hy (by omega)⟩ ⟨fun q h3 h4 h5 => ?_, fun q _ => rfl⟩)
  · unfold wdN; by_cases q : t = 1 ∨ t = 3 <;> simp [q] <;> omega
  · unfold wdN; by_cases q : t = 1 ∨ t = 3 <;> simp [q] <;> omega
  · exact ht_le hW hH
  · exact turn_ok ht hW hH (fun v hv => fa_fill_in hv) y hy
  · simp [dx_pI, dx_pR, h3, h4, h5]
def AX (m : dx_M) (op : Nat → Nat → Bool) (w h r : Nat) (p Q : Int) : Prop := LF m op w h r ∧ m.2 3 7 = lZ p ∧ m.2 3 8 = lZ Q
set_option maxRecDepth 20000 in
theorem sX3_settle {d : Nat} (m : dx_M) {f : Nat → Int32} {W H E D Wt sq : Nat} {wa wu : Nat → Int} (hg : GX m f W H E D Wt sq wa wu) (t : Int32) {Z : Option Value → dx_M → Prop} (h1 : ∀ m', keepX m m' → (∀ r, ouN f W H D Wt sq t = r + 3 → ∃ tn, tn < 4 ∧ t = nI tn ∧ 0 < Wt ∧ rfP (opS f tn W H) (wdN tn W H) (htN tn W H) D Wt r ∧ AX m' (opS f tn W H) (wdN tn W H) (htN tn W H) r (pN (opS f tn W H) (wdN tn W H) r D Wt) (qN (opS f tn W H) (wdN tn W H) r D)) → Z (some (.int (ansO (ouN f W H D Wt sq t)))) m') : dx_Sem dx_P lx_X (d + 6) 75 [.ref 0, .int t] m Z := by
  obtain ⟨g1, g2, g3, g4, g5, g6, g7, g8, g9, g10, g11, g12, g13, g14, g15, g16, g17⟩ := id hg
  have hE := g5
  have eE := g10
  have hW := g2
  have hH := g4
  have eW := g8
  have eH := g9
  refine dx_sem km_X3_settle rfl rfl ?_
  refine dx_blk 0 (c' := (0, [.ref 0, .int t, .null], [], m)) rfl ?_
  refine dx_blk 1 (c' := (1, [.ref 0, .int t, .null], [.int t], m)) rfl ?_
  refine dx_call (id := 65) (as := [.int t]) (rest := []) rfl ?_
  refine sX3_isTurn t _ ?_
  refine dx_blk 0 (c' := (4, [.ref 0, .int t, .null], [.int (bI (inI t 0 3))], m)) rfl ?_
  refine dx_brB (B := (inI t 0 3)) (a := 7) (b := 9) (L := [.ref 0, .int t, .null]) (st := []) (m := m) rfl (fun h4 => ?_) (fun h4 => ?_)
  · refine dx_blk 1 (c' := (8, [.ref 0, .int t, .null], [.int (-1)], m)) rfl ?_
    exact dx_ret (r := some (.int (-1))) rfl (by
    have eo : ouN f W H D Wt sq t = 0 := ou_0 h4
    have hz := h1 m (keepX_rf m) (fun r' e => absurd e (by omega))
    rw [eo] at hz; exact hz)
  · obtain ⟨tn, htn, rfl⟩ := in_N (n := 3) (x := t) (M := 3) rfl h4
    refine dx_blk 1 (c' := (10, [.ref 0, .int (nI tn), .null], [.ref 0], m)) rfl ?_
    refine dx_call (id := 74) (as := [.ref 0]) (rest := []) rfl ?_
    refine sX3_wholeWeight _ hE (by first | exact eE | assumption) ?_
    rw [show allX _ E = nI Wt from g13]
    refine dx_blk 0 (c' := (13, [.ref 0, .int (nI tn), .null], [.int (nI Wt)], m)) rfl ?_
    refine dx_blk 1 (c' := (14, [.ref 0, .int (nI tn), .int (nI Wt)], [], m)) rfl ?_
    rcases Decidable.em (Wt = 0) with q1 | q1
    · refine dx_blk 0 (c' := (14, [.ref 0, .int (nI tn), .int (nI Wt)], [], m)) rfl ?_
      refine dx_blk 1 (c' := (15, [.ref 0, .int (nI tn), .int (nI Wt)], [.int (nI Wt)], m)) rfl ?_
      refine dx_br (q := (nI Wt) = 0) (a := 28) (b := 18) (L := [.ref 0, .int (nI tn), .int (nI Wt)]) (st := []) (m := m) rfl (fun _ => ?_) (fun h => absurd (by rw [q1]; rfl) h)
      refine dx_blk 1 (c' := (30, [.ref 0, .int (nI tn), .int (nI Wt)], [.int (-4)], m)) rfl ?_
      exact dx_ret (r := some (.int (-4))) rfl (by
    have eo : ouN f W H D Wt sq (nI tn) = 1 := ou_1 h4 (by omega)
    have hz := h1 m (keepX_rf m) (fun r' e => absurd e (by omega))
    rw [eo] at hz; exact hz)
    · refine dx_blk 0 (c' := (14, [.ref 0, .int (nI tn), .int (nI Wt)], [], m)) rfl ?_
      refine dx_blk 1 (c' := (15, [.ref 0, .int (nI tn), .int (nI Wt)], [.int (nI Wt)], m)) rfl ?_
      refine dx_br (q := (nI Wt) = 0) (a := 28) (b := 18) (L := [.ref 0, .int (nI tn), .int (nI Wt)]) (st := []) (m := m) rfl (fun h => absurd h (nI_ne0 (by omega) (by omega))) (fun _ => ?_)
      refine dx_blk 2 (c' := (22, [.ref 0, .int (nI tn), .int (nI Wt)], [.ref 1], m)) rfl ?_
      refine dx_call (id := 6) (as := [.ref 1]) (rest := []) rfl ?_
      refine sX0_squares _ ?_
      rw [g12, g14]
      refine dx_blk 0 (c' := (25, [.ref 0, .int (nI tn), .int (nI Wt)], [.int (nI sq)], m)) rfl ?_
      refine dx_br (q := (nI sq) = 0) (a := 28) (b := 31) (L := [.ref 0, .int (nI tn), .int (nI Wt)]) (st := []) (m := m) rfl (fun h25 => ?_) (fun h25 => ?_)
      · have q2 : sq = 0 := by
          rcases Nat.eq_zero_or_pos sq with z | z
          · exact z
          · exact absurd h25 (nI_ne0 z (by omega))
        refine dx_blk 1 (c' := (30, [.ref 0, .int (nI tn), .int (nI Wt)], [.int (-4)], m)) rfl ?_
        exact dx_ret (r := some (.int (-4))) rfl (by
    have eo : ouN f W H D Wt sq (nI tn) = 1 := ou_1 h4 (by omega)
    have hz := h1 m (keepX_rf m) (fun r' e => absurd e (by omega))
    rw [eo] at hz; exact hz)
      · have q2 : sq ≠ 0 := fun z => h25 (by rw [z]; rfl)
        refine dx_blk 5 (c' := (40, [.ref 0, .int (nI tn), .int (nI Wt)], [.int (nI tn), .ref 1, .ref 3], m)) rfl ?_
        refine dx_call (id := 10) (as := [.ref 3, .ref 1, .int (nI tn)]) (rest := []) rfl ?_
        refine sX1_turnT _ g1 g2 g3 g4 g8 g9 g12 (by omega) (fun m1 hl1 hk1 => ?_)
        refine dx_blk 0 (c' := (43, [.ref 0, .int (nI tn), .int (nI Wt)], [], m1)) rfl ?_
        refine dx_blk 5 (c' := (52, [.ref 0, .int (nI tn), .int (nI Wt)], [.int (m1.1 0 6), .int (nI Wt), .ref 3], m1)) rfl ?_
        refine dx_call (id := 16) (as := [.ref 3, .int (nI Wt), .int (m1.1 0 6)]) (rest := []) rfl ?_
        rw [show m1.1 0 6 = nI D from (GX_keep hk1 hg).2.2.2.2.2.2.2.2.2.2.1]
        refine sX1_bears (Wt := Wt) m1 (by omega) (by omega) hl1 (fun m2 hno hk2 => ?_) (fun r m2 hr hle hno hl2 e7 e8 hk2 => ?_)
        · refine dx_blk 0 (c' := (55, [.ref 0, .int (nI tn), .int (nI Wt)], [.int 0], m2)) rfl ?_
          refine dx_br (q := (0 : Int32) = 0) (a := 62) (b := 58) (L := [.ref 0, .int (nI tn), .int (nI Wt)]) (st := []) (m := m2) rfl (fun _ => ?_) (fun h => absurd (by decide) h)
          refine dx_blk 1 (c' := (64, [.ref 0, .int (nI tn), .int (nI Wt)], [.int (-5)], m2)) rfl ?_
          exact dx_ret (r := some (.int (-5))) rfl (by
    have eo : ouN f W H D Wt sq (nI tn) = 2 := by rw [ou_2 (by omega) q1 q2]; exact rowO_2 hno
    have hz := h1 m2 (keepX_tr hk1 hk2) (fun r' e => absurd e (by omega))
    rw [eo] at hz; exact hz)
        · refine dx_blk 0 (c' := (55, [.ref 0, .int (nI tn), .int (nI Wt)], [.int 1], m2)) rfl ?_
          refine dx_br (q := (1 : Int32) = 0) (a := 62) (b := 58) (L := [.ref 0, .int (nI tn), .int (nI Wt)]) (st := []) (m := m2) rfl (fun h => absurd h (by decide)) (fun _ => ?_)
          refine dx_blk 2 (c' := (64, [.ref 0, .int (nI tn), .int (nI Wt)], [.int 1], m2)) rfl ?_
          exact dx_ret (r := some (.int 1)) rfl (by
    have hrf : rfP (opS f tn W H) (wdN tn W H) (htN tn W H) D Wt r := ⟨hr, hle, hno⟩
    have eo : ouN f W H D Wt sq (nI tn) = r + 3 := by rw [ou_2 (by omega) q1 q2]; exact rowO_r hrf
    have hz := h1 m2 (keepX_tr hk1 hk2) (fun r' e => ?_)
    · rw [eo, ans_r] at hz; exact hz
    · obtain rfl : r = r' := by omega
      exact ⟨tn, by omega, rfl, by omega, hrf, ⟨hl2, by rw [e7, pk_mul, sub_I (by omega) (by have := fl_pos (Wt := Wt) (by omega) hrf; omega)]; rfl, by rw [e8, pk_mul, lZ_n (by have : fA (opS f tn W H) (wdN tn W H) r * D ≤ 12 * 20 := Nat.mul_le_mul (fA_le _ r hl1.2.1) g7; omega)]; rfl⟩⟩)
