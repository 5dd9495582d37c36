/-! both: what changes the log, call by call (printed by wip/whole/g51.py) -/
def PI (ix im : Nat) (as : List Value) (mx mm : dx_M) : Prop := dx_Sem dx_P lx_X 8 ix (.ref 0 :: as) mx (fun r mx' => ∃ v : Int32, r = some (.int v) ∧ dx_Sem dx_P lx_M 8 im (.ref 0 :: as) mm (fun r' mm' => r' = some (.int v) ∧ RM mx' mm'))
def PL (ix im : Nat) (as : List Value) (mx mm : dx_M) : Prop := dx_Sem dx_P lx_X 8 ix (.ref 0 :: as) mx (fun r mx' => ∃ v : Int64, r = some (.long v) ∧ dx_Sem dx_P lx_M 8 im (.ref 0 :: as) mm (fun r' mm' => r' = some (.long v) ∧ RM mx' mm'))
theorem pR_i {m : dx_M} {k a : Nat} {f : Nat → Int32} (h : a ≠ k) : (dx_pR m k f).1 a = m.1 a := if_neg h
theorem pR_s {m : dx_M} {k : Nat} {f : Nat → Int32} : (dx_pR m k f).1 k = f := if_pos rfl
theorem pI_i {m : dx_M} {k j a : Nat} {v : Int32} (h : a ≠ k) : (dx_pI m k j v).1 a = m.1 a := if_neg h
theorem pI_s {m : dx_M} {k j : Nat} {v : Int32} : (dx_pI m k j v).1 k = upd (m.1 k) j v := if_pos rfl
theorem fits_b8 (x : Int32) : fits .byte (.int x.toInt8.toInt32) = true := by
  have h1 := x.toInt8.le_toInt
  have h2 := x.toInt8.toInt_le
  simp only [fits, Bool.and_eq_true, decide_eq_true_eq, Int32.le_iff_toInt_le, Int8.toInt_toInt32]
  exact ⟨h1, h2⟩
theorem i8_i8 (x : Int32) : x.toInt8.toInt32.toInt8.toInt32 = x.toInt8.toInt32 := by rw [Int8.toInt8_toInt32]
abbrev C5 (mx mm : dx_M) (E : Nat) : Prop := ∀ i, i < E → thX mx i = thM mm i ∧ mx.1 (10 + i) 1 = mm.1 6 i ∧ mx.1 (10 + i) 2 = mm.1 7 i ∧ mx.1 (10 + i) 3 = mm.1 8 i ∧ mx.1 (10 + i) 4 = mm.1 9 i ∧ mx.1 (10 + i) 5 = mm.1 10 i ∧ inI (mm.1 7 i) 0 24 = true ∧ inI (mm.1 8 i) 0 24 = true ∧ inI (mm.1 9 i) 0 200 = true ∧ inI (mm.1 10 i) 0 20 = true
theorem C5_c {mx mm mx' mm' : dx_M} {E : Nat} (h : C5 mx mm E) (hx : ∀ i, i < E → mx'.1 (10 + i) = mx.1 (10 + i)) (h6 : mm'.1 6 = mm.1 6) (h7 : mm'.1 7 = mm.1 7) (h8 : mm'.1 8 = mm.1 8) (h9 : mm'.1 9 = mm.1 9) (h10 : mm'.1 10 = mm.1 10) (h11 : mm'.1 11 = mm.1 11) : C5 mx' mm' E := by
  intro i hi
  have e := h i hi
  unfold thX thM at *
  rw [hx i hi, h6, h7, h8, h9, h10, h11]
  exact e
abbrev C7 (mx mm : dx_M) : Prop := ∀ a z j, a < 6 → mm.1 3 a = nI z → z ≤ 12 → j < z → mx.1 (20 + a) j = mm.1 4 (12 * a + j)
theorem C7_c {mx mm mx' mm' : dx_M} (h : C7 mx mm) (hx : ∀ a, a < 6 → mx'.1 (20 + a) = mx.1 (20 + a)) (h3 : mm'.1 3 = mm.1 3) (h4 : mm'.1 4 = mm.1 4) : C7 mx' mm' := by
  intro a z j ha hz hz2 hj
  rw [hx a ha, h4]
  rw [h3] at hz
  exact h a z j ha hz hz2 hj
abbrev C8 (mx : dx_M) : Prop := ∀ a j, a < 6 → j < 12 → fits .byte (.int (mx.1 (20 + a) j)) = true
theorem C8_c {mx mx' : dx_M} (h : C8 mx) (hx : ∀ a, a < 6 → mx'.1 (20 + a) = mx.1 (20 + a)) : C8 mx' := by
  intro a j ha hj
  rw [hx a ha]
  exact h a j ha hj
/-- only cells far from the loads and sheets change -/
theorem RR_keep {mx mm mx' mm' : dx_M} {W H E D : Nat} (hR : RR mx mm W H E D) (hk : keepX mx mx') (hk2 : kG mm mm') : RR mx' mm' W H E D := by
  obtain ⟨r1, ⟨x1, x2, x3, x4⟩, ⟨y1, y2, y3, y4⟩, ⟨s1, s2⟩, r5, r6, r7, r8, r9, r10, ⟨l1, l2, l3⟩, r12⟩ := hR
  obtain ⟨k1, k2⟩ := hk
  obtain ⟨⟨q1, ⟨q2, q3, q4, q5, q6⟩, q7, q8⟩, q9⟩ := hk2
  have e0 := k1 0 (by decide) (by decide) (by decide)
  have e1 := k1 1 (by decide) (by decide) (by decide)
  have e2 := k1 2 (by decide) (by decide) (by decide)
  have e8 := k1 8 (by decide) (by decide) (by decide)
  have e9 := k1 9 (by decide) (by decide) (by decide)
  have m2 := q1 2 (by decide) (by decide) (by decide)
  have m3 := q1 3 (by decide) (by decide) (by decide)
  have m4 := q1 4 (by decide) (by decide) (by decide)
  have m1 := q1 1 (by decide) (by decide) (by decide)
  refine ⟨r1, ⟨by rw [e1]; exact x1, by rw [e1]; exact x2, by rw [e0]; exact x3, by rw [e0]; exact x4⟩, ⟨q3.trans y1, q4.trans y2, q6.trans y3, q5.trans y4⟩, ⟨by rw [e2, m2]; exact s1, by rw [m2]; exact s2⟩, ?_, by rw [e8, m3]; exact r6, ?_, ?_, by rw [m4]; exact r9, by rw [e9, m1]; exact r10, ⟨by rw [e0, q2]; exact l1, by rw [k2 0 (by decide), q7]; exact l2, by rw [k2 0 (by decide), q8]; exact l3⟩, q9⟩
  · exact C5_c r5 (fun i _ => k1 (10 + i) (by omega) (by omega) (by omega)) (q1 6 (by decide) (by decide) (by decide)) (q1 7 (by decide) (by decide) (by decide)) (q1 8 (by decide) (by decide) (by decide)) (q1 9 (by decide) (by decide) (by decide)) (q1 10 (by decide) (by decide) (by decide)) (q1 11 (by decide) (by decide) (by decide))
  · exact C7_c r7 (fun a _ => k1 (20 + a) (by omega) (by omega) (by omega)) m3 m4
  · exact C8_c r8 (fun a _ => k1 (20 + a) (by omega) (by omega) (by omega))
theorem RR_told {mx mm : dx_M} {W H E D : Nat} (hR : RR mx mm W H E D) (u l : Int64) : RR (dx_pL (dx_pL mx 0 9 u) 0 10 l) (dx_pL (dx_pL mm 0 2 u) 0 3 l) W H E D := by
  obtain ⟨r1, r2, r3, r4, r5, r6, r7, r8, r9, r10, ⟨l1, l2, l3⟩, r12⟩ := hR
  exact ⟨r1, r2, r3, r4, r5, r6, r7, r8, r9, r10, ⟨l1, rfl, rfl⟩, r12⟩
theorem RR_fnd {mx mm : dx_M} {W H E D : Nat} (hR : RR mx mm W H E D) (f : Nat) (hf : f < 6) : RR (fndX mx f) (fndM mm f) W H E D := by
  obtain ⟨r1, r2, r3, r4, r5, r6, r7, r8, r9, r10, ⟨l1, l2, l3⟩, r12⟩ := hR
  have ex : ∀ k, k ≠ 0 → k ≠ 9 → (fndX mx f).1 k = mx.1 k := fun k h0 h9 => by unfold fndX; rw [pI_i h9, pI_i h0]
  refine ⟨r1, r2, r3, r4, C5_c r5 (fun i _ => ex (10 + i) (by omega) (by omega)) rfl rfl rfl rfl rfl rfl, r6, C7_c r7 (fun a _ => ex (20 + a) (by omega) (by omega)) rfl rfl, C8_c r8 (fun a _ => ex (20 + a) (by omega) (by omega)), r9, fun j hj => ?_, ⟨rfl, l2, l3⟩, r12⟩
  show upd (mx.1 9) f (mx.1 9 f + 1) j = upd (mm.1 1) f (mm.1 1 f + 1) j
  by_cases q : j = f
  · subst q; rw [pk_us, pk_us, r10 j hj]
  · rw [pk_un q, pk_un q, r10 j hj]
theorem sqP_v {v : Int32} (h : (decide (v = -9) || inI v 0 20) = true) : sqP v := by
  rw [Bool.or_eq_true, decide_eq_true_eq] at h
  rcases h with h | h
  · exact Or.inl h
  · exact Or.inr (in_N (n := 20) rfl h)
theorem sqP_fv (t : Int32) : sqP (fv t) := by
  unfold fv
  split
  · exact Or.inl rfl
  · split
    · exact Or.inr ⟨20, by omega, rfl⟩
    · refine Or.inr (in_N (n := 20) (M := 20) rfl (inI_t.mpr ⟨?_, ?_⟩))
      · rw [fa_le]; rename_i a b; rw [fa_lt] at a; omega
      · rw [fa_le]; rename_i a b; rw [fa_lt] at b; omega
theorem RMk {mx mm : dx_M} {W H E D : Nat} (h : RR mx mm W H E D) : RM mx mm := ⟨W, H, E, D, h⟩
theorem m1_n {z : Nat} (hz : z ≤ 12) : ¬ (-1 : Int32) = nI z := fun e => by
  have e2 := congrArg Int32.toInt e
  rw [nI_toInt (by omega)] at e2
  have e3 : (-1 : Int32).toInt = -1 := rfl
  omega
theorem pr_log {mx mm : dx_M} (hR : RM mx mm) (w h : Int32) : PI 26 91 [.int w, .int h] mx mm := by
  obtain ⟨W, H, E, D, hR⟩ := hR
  obtain ⟨⟨b1, b2, b3, b4, b5, b6, b7⟩, ⟨x1, x2, x3, x4⟩, ⟨y1, y2, y3, y4⟩, ⟨s1, s2⟩, r5, r6, r7, r8, r9, r10, ⟨l1, l2, l3⟩, r12⟩ := id hR
  unfold PI
  refine sX3_log w h mx (fun c => ⟨_, rfl, ?_⟩) (fun c => ⟨_, rfl, ?_⟩)
  · exact sX4_log w h mm (fun _ => ⟨rfl, RMk hR⟩) (fun c2 => absurd (c.symm.trans c2) (by decide))
  · refine sX4_log w h mm (fun c2 => absurd (c.symm.trans c2) (by decide)) (fun _ => ⟨rfl, ?_⟩)
    rw [Bool.and_eq_true] at c
    obtain ⟨W', p1, p2, rfl⟩ := in_1 (n := 12) (M := 12) rfl c.1
    obtain ⟨H', p3, p4, rfl⟩ := in_1 (n := 12) (M := 12) rfl c.2
    refine ⟨W', H', 0, D, ⟨p1, p2, p3, p4, by omega, b6, b7⟩, ⟨rfl, rfl, rfl, x4⟩, ⟨rfl, rfl, rfl, y4⟩, ⟨?_, fun c hc => ?_⟩, fun i hi => absurd hi (by omega), r6, C7_c r7 (fun a _ => ?_) rfl rfl, C8_c r8 (fun a _ => ?_), r9, r10, ⟨l1, l2, l3⟩, r12⟩
    · show fa_fill (fun _ => -9) (mx.1 2) 144 = fa_fill (fun _ => -9) (mm.1 2) 144
      rw [s1]
    · show sqP (fa_fill (fun _ => -9) (mm.1 2) 144 c)
      rw [fa_fill_in hc]; exact Or.inl rfl
    · rw [pI_i (by omega), pR_i (by omega), pI_i (by omega), pI_i (by omega)]
    · rw [pI_i (by omega), pR_i (by omega), pI_i (by omega), pI_i (by omega)]
theorem pr_square {mx mm : dx_M} (hR : RM mx mm) (x y v : Int32) : PI 27 93 [.int x, .int y, .int v] mx mm := by
  obtain ⟨W, H, E, D, hR⟩ := hR
  obtain ⟨⟨b1, b2, b3, b4, b5, b6, b7⟩, ⟨x1, x2, x3, x4⟩, ⟨y1, y2, y3, y4⟩, ⟨s1, s2⟩, r5, r6, r7, r8, r9, r10, ⟨l1, l2, l3⟩, r12⟩ := id hR
  unfold PI
  refine sX3_square mx b2 b4 x1 x2 x y v (fun c => ⟨_, rfl, ?_⟩) (fun a b ha hb ea eb hv => ⟨_, rfl, ?_⟩)
  · refine sX4_square mm b2 b4 y1 y2 x y v (fun _ => ⟨rfl, RMk hR⟩) (fun a b ha hb ea eb hv => ?_)
    rw [ea, eb, hv, show nI W - 1 = nI (W - 1) from pk_sub (a := W) (b := 1) (by omega), show nI H - 1 = nI (H - 1) from pk_sub (a := H) (b := 1) (by omega), in_le (by omega) (by omega), in_le (by omega) (by omega)] at c
    cases c
  · subst ea; subst eb
    refine sX4_square mm b2 b4 y1 y2 _ _ v (fun c => ?_) (fun a2 b2' ha2 hb2 ea2 eb2 _ => ?_)
    · rw [hv, show nI W - 1 = nI (W - 1) from pk_sub (a := W) (b := 1) (by omega), show nI H - 1 = nI (H - 1) from pk_sub (a := H) (b := 1) (by omega), in_le (by omega) (by omega), in_le (by omega) (by omega)] at c
      cases c
    · obtain rfl := nI_inj' (by omega) (by omega) ea2
      obtain rfl := nI_inj' (by omega) (by omega) eb2
      have ex : ∀ k, k ≠ 2 → (dx_pI mx 2 (b * 12 + a) v).1 k = mx.1 k := fun k h => pI_i h
      refine ⟨by rw [s1, Nat.mul_comm], W, H, E, D, ⟨b1, b2, b3, b4, b5, b6, b7⟩, ⟨x1, x2, x3, x4⟩, ⟨y1, y2, y3, y4⟩, ⟨?_, fun c hc => ?_⟩, C5_c r5 (fun i _ => ex _ (by omega)) rfl rfl rfl rfl rfl rfl, r6, C7_c r7 (fun a _ => ex _ (by omega)) rfl rfl, C8_c r8 (fun a _ => ex _ (by omega)), r9, r10, ⟨l1, l2, l3⟩, r12⟩
      · show upd (mx.1 2) (b * 12 + a) v = upd (mm.1 2) (12 * b + a) v
        rw [s1, Nat.mul_comm]
      · show sqP (upd (mm.1 2) (12 * b + a) v c)
        by_cases q : c = 12 * b + a
        · rw [q, pk_us]; exact sqP_v hv
        · rw [pk_un q]; exact s2 c hc
theorem pr_at {mx mm : dx_M} (hR : RM mx mm) (x y : Int32) : PI 28 94 [.int x, .int y] mx mm := by
  obtain ⟨W, H, E, D, hR⟩ := hR
  obtain ⟨⟨b1, b2, b3, b4, b5, b6, b7⟩, ⟨x1, x2, x3, x4⟩, ⟨y1, y2, y3, y4⟩, ⟨s1, s2⟩, r5, r6, r7, r8, r9, r10, ⟨l1, l2, l3⟩, r12⟩ := id hR
  unfold PI
  refine sX3_at mx b2 b4 x1 x2 x y (fun c => ⟨_, rfl, ?_⟩) (fun a b ha hb ea eb => ⟨_, rfl, ?_⟩)
  · refine sX4_at mm b2 b4 y1 y2 x y (fun _ => ⟨rfl, RMk hR⟩) (fun a b ha hb ea eb => ?_)
    rw [ea, eb, show nI W - 1 = nI (W - 1) from pk_sub (a := W) (b := 1) (by omega), show nI H - 1 = nI (H - 1) from pk_sub (a := H) (b := 1) (by omega), in_le (by omega) (by omega), in_le (by omega) (by omega)] at c
    cases c
  · subst ea; subst eb
    refine sX4_at mm b2 b4 y1 y2 _ _ (fun c => ?_) (fun a2 b2' ha2 hb2 ea2 eb2 => ?_)
    · rw [show nI W - 1 = nI (W - 1) from pk_sub (a := W) (b := 1) (by omega), show nI H - 1 = nI (H - 1) from pk_sub (a := H) (b := 1) (by omega), in_le (by omega) (by omega), in_le (by omega) (by omega)] at c
      cases c
    · obtain rfl := nI_inj' (by omega) (by omega) ea2
      obtain rfl := nI_inj' (by omega) (by omega) eb2
      exact ⟨by rw [s1, Nat.mul_comm], RMk hR⟩
theorem pr_water {mx mm : dx_M} (hR : RM mx mm) (x : Int32) : PI 29 95 [.int x] mx mm := by
  obtain ⟨W, H, E, D, hR⟩ := hR
  obtain ⟨⟨b1, b2, b3, b4, b5, b6, b7⟩, ⟨x1, x2, x3, x4⟩, ⟨y1, y2, y3, y4⟩, ⟨s1, s2⟩, r5, r6, r7, r8, r9, r10, ⟨l1, l2, l3⟩, r12⟩ := id hR
  unfold PI
  refine sX3_water x mx (fun c => ⟨_, rfl, ?_⟩) (fun c => ⟨_, rfl, ?_⟩)
  · exact sX4_water x mm (fun _ => ⟨rfl, RMk hR⟩) (fun c2 => absurd (c.symm.trans c2) (by decide))
  · refine sX4_water x mm (fun c2 => absurd (c.symm.trans c2) (by decide)) (fun _ => ⟨by rw [x4, y4], ?_⟩)
    obtain ⟨D', p1, p2, rfl⟩ := in_1 (n := 20) (M := 20) rfl c
    have ex : ∀ k, k ≠ 0 → (dx_pI mx 0 6 (nI D')).1 k = mx.1 k := fun k h => pI_i h
    exact ⟨W, H, E, D', ⟨b1, b2, b3, b4, b5, p1, p2⟩, ⟨x1, x2, x3, rfl⟩, ⟨y1, y2, y3, rfl⟩, ⟨s1, s2⟩, C5_c r5 (fun i _ => ex _ (by omega)) rfl rfl rfl rfl rfl rfl, r6, C7_c r7 (fun a _ => ex _ (by omega)) rfl rfl, C8_c r8 (fun a _ => ex _ (by omega)), r9, r10, ⟨l1, l2, l3⟩, r12⟩
theorem pr_sheet {mx mm : dx_M} (hR : RM mx mm) (s n : Int32) : PI 30 97 [.int s, .int n] mx mm := by
  obtain ⟨W, H, E, D, hR⟩ := hR
  obtain ⟨⟨b1, b2, b3, b4, b5, b6, b7⟩, ⟨x1, x2, x3, x4⟩, ⟨y1, y2, y3, y4⟩, ⟨s1, s2⟩, r5, r6, r7, r8, r9, r10, ⟨l1, l2, l3⟩, r12⟩ := id hR
  unfold PI
  refine sX3_sheet mx s n (fun c => ⟨_, rfl, ?_⟩) (fun c c2 c3 => ⟨_, rfl, ?_⟩) (fun a k ha hk ea ek => ⟨_, rfl, ?_⟩)
  · refine sX4_sheet mm s n (fun _ => ⟨rfl, RMk hR⟩) (fun d1 d2 _ => ?_) (fun a k ha hk ea ek => ?_)
    · rw [d1, decide_eq_true d2] at c; cases c
    · rw [ea, ek, show inI (nI a) 0 5 = true from in_le (n := 5) (by omega) (by omega), decide_eq_true (show nI k ≤ 12 from nI_le (b := 12) hk (by omega))] at c; cases c
  · refine sX4_sheet mm s n (fun d => ?_) (fun _ _ _ => ⟨rfl, RMk (RR_fnd hR 5 (by omega))⟩) (fun a k ha hk ea ek => ?_)
    · rw [c, decide_eq_true c2] at d; cases d
    · rw [ek, fa_lt, nI_toInt (by omega)] at c3; have e : (0 : Int32).toInt = 0 := rfl; omega
  · subst ea; subst ek
    refine sX4_sheet mm _ _ (fun c => ?_) (fun _ _ c3 => ?_) (fun a2 k2 ha2 hk2 ea2 ek2 => ?_)
    · rw [show inI (nI a) 0 5 = true from in_le (n := 5) (by omega) (by omega), decide_eq_true (show nI k ≤ 12 from nI_le (b := 12) hk (by omega))] at c; cases c
    · rw [fa_lt, nI_toInt (by omega)] at c3; have e : (0 : Int32).toInt = 0 := rfl; omega
    · obtain rfl := nI_inj' (by omega) (by omega) ea2
      obtain rfl := nI_inj' (by omega) (by omega) ek2
      have ex : ∀ q, q ≠ 8 → q ≠ 20 + a → (dx_pI (dx_pR mx (20 + a) (fa_fill (fun _ => 0) (mx.1 (20 + a)) k)) 8 a (nI k)).1 q = mx.1 q := fun q h h2 => by rw [pI_i h, pR_i h2]
      have e20 : (dx_pI (dx_pR mx (20 + a) (fa_fill (fun _ => 0) (mx.1 (20 + a)) k)) 8 a (nI k)).1 (20 + a) = fa_fill (fun _ => 0) (mx.1 (20 + a)) k := by rw [pI_i (by omega), pR_s]
      have e8 : (dx_pI (dx_pR mx (20 + a) (fa_fill (fun _ => 0) (mx.1 (20 + a)) k)) 8 a (nI k)).1 8 = upd (mx.1 8) a (nI k) := by rw [pI_s, pR_i (by omega)]
      refine ⟨rfl, W, H, E, D, ⟨b1, b2, b3, b4, b5, b6, b7⟩, ⟨by rw [ex 1 (by omega) (by omega)]; exact x1, by rw [ex 1 (by omega) (by omega)]; exact x2, by rw [ex 0 (by omega) (by omega)]; exact x3, by rw [ex 0 (by omega) (by omega)]; exact x4⟩, ⟨y1, y2, y3, y4⟩, ⟨by rw [ex 2 (by omega) (by omega)]; exact s1, s2⟩, C5_c r5 (fun i _ => ex _ (by omega) (by omega)) rfl rfl rfl rfl rfl rfl, fun i hi => ?_, fun i z j hi ez hz12 hj => ?_, fun i j hi hj => ?_, fun c hc => ?_, by rw [ex 9 (by omega) (by omega)]; exact r10, ⟨by rw [ex 0 (by omega) (by omega)]; exact l1, l2, l3⟩, r12⟩
      · rw [e8]
        show upd (mx.1 8) a (nI k) i = upd (mm.1 3) a (nI k) i ∧ szP (upd (mm.1 3) a (nI k) i)
        by_cases q : i = a
        · subst q; rw [pk_us, pk_us]; exact ⟨rfl, Or.inr ⟨k, hk, rfl⟩⟩
        · rw [pk_un q, pk_un q]; exact r6 i hi
      · show _ = fb_put (mm.1 4) (fun _ => 0) (12 * a) 12 (12 * i + j)
        have ez' : upd (mm.1 3) a (nI k) i = nI z := ez
        by_cases q : i = a
        · subst q
          rw [pk_us] at ez'
          obtain rfl := nI_inj' (by omega) (by omega) ez'
          rw [e20, fa_fill_in hj, fb_put_in (by omega) (by omega)]
        · rw [pk_un q] at ez'
          rw [ex _ (by omega) (by omega), fb_put_out (by omega)]
          exact r7 i z j hi ez' hz12 hj
      · by_cases q : i = a
        · subst q
          rw [e20]
          by_cases q2 : j < k
          · rw [fa_fill_in q2]; exact fits_b8 0
          · rw [fa_fill_out (by omega)]; exact r8 i j hi hj
        · rw [ex _ (by omega) (by omega)]; exact r8 i j hi hj
      · show (fb_put (mm.1 4) (fun _ => 0) (12 * a) 12 c).toInt8.toInt32 = fb_put (mm.1 4) (fun _ => 0) (12 * a) 12 c
        by_cases q : 12 * a ≤ c ∧ c < 12 * a + 12
        · rw [fb_put_in q.1 q.2]; rfl
        · rw [fb_put_out (by omega)]; exact r9 c hc
theorem pr_lay {mx mm : dx_M} (hR : RM mx mm) (s i v : Int32) : PI 31 98 [.int s, .int i, .int v] mx mm := by
  obtain ⟨W, H, E, D, hR⟩ := hR
  obtain ⟨⟨b1, b2, b3, b4, b5, b6, b7⟩, ⟨x1, x2, x3, x4⟩, ⟨y1, y2, y3, y4⟩, ⟨s1, s2⟩, r5, r6, r7, r8, r9, r10, ⟨l1, l2, l3⟩, r12⟩ := id hR
  have hz : ∀ a : Nat, a < 6 → szP (mx.1 8 a) := fun a ha => by rw [(r6 a ha).1]; exact (r6 a ha).2
  have hz2 : ∀ a : Nat, a < 6 → szP (mm.1 3 a) := fun a ha => (r6 a ha).2
  unfold PI
  refine sX3_lay mx hz s i v (fun c => ⟨_, rfl, ?_⟩) (fun a ha ea e8 => ⟨_, rfl, ?_⟩) (fun a z ha ea hz12 e8 c => ⟨_, rfl, ?_⟩) (fun a z j ha ea hz12 e8 hj ej => ⟨_, rfl, ?_⟩)
  · refine sX4_lay mm hz2 s i v (fun _ => ⟨rfl, RMk hR⟩) (fun a ha ea _ => ?_) (fun a z ha ea _ _ _ => ?_) (fun a z j ha ea _ _ _ _ => ?_) <;> (rw [ea, show inI (nI a) 0 5 = true from in_le (n := 5) (by omega) (by omega)] at c; cases c)
  · subst ea
    rw [(r6 a ha).1] at e8
    refine sX4_lay mm hz2 _ i v (fun c => ?_) (fun _ _ _ _ => ⟨rfl, RMk (RR_fnd hR 1 (by omega))⟩) (fun a2 z ha2 ea2 hz12 e3 _ => ?_) (fun a2 z j ha2 ea2 hz12 e3 _ _ => ?_)
    · rw [show inI (nI a) 0 5 = true from in_le (n := 5) (by omega) (by omega)] at c; cases c
    · obtain rfl := nI_inj' (by omega) (by omega) ea2; exact absurd (e8.symm.trans e3) (m1_n hz12)
    · obtain rfl := nI_inj' (by omega) (by omega) ea2; exact absurd (e8.symm.trans e3) (m1_n hz12)
  · subst ea
    rw [(r6 a ha).1] at e8
    refine sX4_lay mm hz2 _ i v (fun c => ?_) (fun a2 _ ea2 e3 => ?_) (fun _ _ _ _ _ _ _ => ⟨rfl, RMk (RR_fnd hR 2 (by omega))⟩) (fun a2 z2 j ha2 ea2 hz22 e3 hj ej => ?_)
    · rw [show inI (nI a) 0 5 = true from in_le (n := 5) (by omega) (by omega)] at c; cases c
    · obtain rfl := nI_inj' (by omega) (by omega) ea2; exact absurd (e3.symm.trans e8) (m1_n hz12)
    · obtain rfl := nI_inj' (by omega) (by omega) ea2
      obtain rfl := nI_inj' (by omega) (by omega) (e8.symm.trans e3)
      rw [ej, show nI z - 1 = nI (z - 1) from pk_sub (a := z) (b := 1) (by omega), in_le (by omega) (by omega)] at c; cases c
  · subst ea; subst ej
    have e8' := e8
    rw [(r6 a ha).1] at e8'
    refine sX4_lay mm hz2 _ _ v (fun c => ?_) (fun a2 _ ea2 e3 => ?_) (fun a2 z2 ha2 ea2 hz22 e3 c => ?_) (fun a2 z2 j2 ha2 ea2 hz22 e3 hj2 ej2 => ?_)
    · rw [show inI (nI a) 0 5 = true from in_le (n := 5) (by omega) (by omega)] at c; cases c
    · obtain rfl := nI_inj' (by omega) (by omega) ea2; exact absurd (e3.symm.trans e8') (m1_n hz12)
    · obtain rfl := nI_inj' (by omega) (by omega) ea2
      obtain rfl := nI_inj' (by omega) (by omega) (e8'.symm.trans e3)
      rw [show nI z - 1 = nI (z - 1) from pk_sub (a := z) (b := 1) (by omega), in_le (by omega) (by omega)] at c; cases c
    · obtain rfl := nI_inj' (by omega) (by omega) ea2
      obtain rfl := nI_inj' (by omega) (by omega) ej2
      have ex : ∀ q, q ≠ 20 + a → (dx_pI mx (20 + a) j v.toInt8.toInt32).1 q = mx.1 q := fun q h2 => pI_i h2
      refine ⟨by rw [r7 a z j ha e8' hz12 hj], W, H, E, D, ⟨b1, b2, b3, b4, b5, b6, b7⟩, ⟨by rw [ex 1 (by omega)]; exact x1, by rw [ex 1 (by omega)]; exact x2, by rw [ex 0 (by omega)]; exact x3, by rw [ex 0 (by omega)]; exact x4⟩, ⟨y1, y2, y3, y4⟩, ⟨by rw [ex 2 (by omega)]; exact s1, s2⟩, C5_c r5 (fun i _ => ex _ (by omega)) rfl rfl rfl rfl rfl rfl, by rw [ex 8 (by omega)]; exact r6, fun i z' j' hi ez hz12' hj' => ?_, fun i j' hi hj' => ?_, fun c hc => ?_, by rw [ex 9 (by omega)]; exact r10, ⟨by rw [ex 0 (by omega)]; exact l1, l2, l3⟩, r12⟩
      · show _ = upd (mm.1 4) (12 * a + j) v.toInt8.toInt32 (12 * i + j')
        by_cases q : i = a
        · subst q
          rw [pI_s]
          by_cases q2 : j' = j
          · subst q2; rw [pk_us, pk_us]
          · rw [pk_un q2, pk_un (by omega)]; exact r7 i z' j' hi ez hz12' hj'
        · rw [ex _ (by omega), pk_un (by omega)]; exact r7 i z' j' hi ez hz12' hj'
      · by_cases q : i = a
        · subst q
          rw [pI_s]
          by_cases q2 : j' = j
          · subst q2; rw [pk_us]; exact fits_b8 v
          · rw [pk_un q2]; exact r8 i j' hi hj'
        · rw [ex _ (by omega)]; exact r8 i j' hi hj'
      · show (upd (mm.1 4) (12 * a + j) v.toInt8.toInt32 c).toInt8.toInt32 = upd (mm.1 4) (12 * a + j) v.toInt8.toInt32 c
        by_cases q : c = 12 * a + j
        · rw [q, pk_us]; exact i8_i8 v
        · rw [pk_un q]; exact r9 c hc
theorem pr_tear {mx mm : dx_M} (hR : RM mx mm) (s : Int32) : PI 32 99 [.int s] mx mm := by
  obtain ⟨W, H, E, D, hR⟩ := hR
  obtain ⟨⟨b1, b2, b3, b4, b5, b6, b7⟩, ⟨x1, x2, x3, x4⟩, ⟨y1, y2, y3, y4⟩, ⟨s1, s2⟩, r5, r6, r7, r8, r9, r10, ⟨l1, l2, l3⟩, r12⟩ := id hR
  have hz : ∀ a : Nat, a < 6 → szP (mx.1 8 a) := fun a ha => by rw [(r6 a ha).1]; exact (r6 a ha).2
  have hz2 : ∀ a : Nat, a < 6 → szP (mm.1 3 a) := fun a ha => (r6 a ha).2
  unfold PI
  refine sX3_tear mx hz s (fun c => ⟨_, rfl, ?_⟩) (fun a ha ea e8 => ⟨_, rfl, ?_⟩) (fun a z ha ea hz12 e8 => ⟨_, rfl, ?_⟩)
  · refine sX4_tear mm hz2 s (fun _ => ⟨rfl, RMk hR⟩) (fun a ha ea _ => ?_) (fun a z ha ea _ _ => ?_) <;> (rw [ea, show inI (nI a) 0 5 = true from in_le (n := 5) (by omega) (by omega)] at c; cases c)
  · subst ea
    rw [(r6 a ha).1] at e8
    refine sX4_tear mm hz2 _ (fun c => ?_) (fun _ _ _ _ => ⟨rfl, RMk (RR_fnd hR 1 (by omega))⟩) (fun a2 z ha2 ea2 hz12 e3 => ?_)
    · rw [show inI (nI a) 0 5 = true from in_le (n := 5) (by omega) (by omega)] at c; cases c
    · obtain rfl := nI_inj' (by omega) (by omega) ea2; exact absurd (e8.symm.trans e3) (m1_n hz12)
  · subst ea
    rw [(r6 a ha).1] at e8
    refine sX4_tear mm hz2 _ (fun c => ?_) (fun a2 _ ea2 e3 => ?_) (fun a2 z2 ha2 ea2 hz22 e3 => ⟨rfl, ?_⟩)
    · rw [show inI (nI a) 0 5 = true from in_le (n := 5) (by omega) (by omega)] at c; cases c
    · obtain rfl := nI_inj' (by omega) (by omega) ea2; exact absurd (e3.symm.trans e8) (m1_n hz12)
    · obtain rfl := nI_inj' (by omega) (by omega) ea2
      have ex : ∀ q, q ≠ 8 → (dx_pI mx 8 a (-1)).1 q = mx.1 q := fun q h2 => pI_i h2
      refine ⟨W, H, E, D, ⟨b1, b2, b3, b4, b5, b6, b7⟩, ⟨x1, x2, x3, x4⟩, ⟨y1, y2, y3, y4⟩, ⟨s1, s2⟩, C5_c r5 (fun i _ => ex _ (by omega)) rfl rfl rfl rfl rfl rfl, fun i hi => ?_, fun i z' j' hi ez hz12' hj' => ?_, C8_c r8 (fun a _ => ex _ (by omega)), r9, r10, ⟨l1, l2, l3⟩, r12⟩
      · show upd (mx.1 8) a (-1) i = upd (mm.1 3) a (-1) i ∧ szP (upd (mm.1 3) a (-1) i)
        by_cases q : i = a
        · subst q; rw [pk_us, pk_us]; exact ⟨rfl, Or.inl rfl⟩
        · rw [pk_un q, pk_un q]; exact r6 i hi
      · have ez' : upd (mm.1 3) a (-1) i = nI z' := ez
        rw [ex _ (by omega)]
        by_cases q : i = a
        · subst q; rw [pk_us] at ez'; exact absurd ez' (m1_n hz12')
        · rw [pk_un q] at ez'; exact r7 i z' j' hi ez' hz12' hj'
