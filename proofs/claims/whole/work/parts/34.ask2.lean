/-! the class: place, room, rests (printed by wip/whole/g34.py) -/
def plB (t x y : Int32) (W H : Nat) : Bool := inI t 0 3 && (inI x 0 ((if t - t / 2 * 2 = 0 then nI W else nI H) - 1) && inI y 0 ((if t - t / 2 * 2 = 0 then nI H else nI W) - 1))
def rmB (t u l : Int32) (W H : Nat) : Bool := inI t 0 3 && (inI u 0 24 && (inI l 1 12 && decide (u ≤ (if t - t / 2 * 2 = 0 then nI H else nI W) * l)))
theorem plB_N {t : Nat} (ht : t < 4) (x y : Int32) (W H : Nat) : plB (nI t) x y W H = (inI x 0 (nI (wdN t W H) - 1) && inI y 0 (nI (htN t W H) - 1)) := by
  unfold plB
  rw [in_03 ht, wd_N ht, ht_N ht, Bool.true_and]
theorem rmB_N {t : Nat} (ht : t < 4) (u l : Int32) (W H : Nat) : rmB (nI t) u l W H = (inI u 0 24 && (inI l 1 12 && decide (u ≤ nI (htN t W H) * l))) := by
  unfold rmB
  rw [in_03 ht, ht_N ht, Bool.true_and]
theorem in_P {x : Int32} {n : Nat} (hn : 1 ≤ n) (hn2 : n ≤ 100) (h : inI x 0 (nI n - 1) = true) : ∃ j : Nat, j < n ∧ x = nI j := by
  obtain ⟨j, hj, e⟩ := in_N (n := n - 1) (x := x) (M := nI n - 1) (by rw [show nI n - 1 = nI (n - 1) from pk_sub (a := n) (b := 1) (by omega), nI_toInt (by omega)]) h
  exact ⟨j, by omega, e⟩
theorem wd_1 {t W H : Nat} (hW : 1 ≤ W) (hH : 1 ≤ H) : 1 ≤ wdN t W H ∧ 1 ≤ htN t W H := by unfold wdN htN; by_cases q : t = 1 ∨ t = 3 <;> simp [q] <;> omega
theorem ou_st {f : Nat → Int32} {W H D Wt sq k : Nat} (hk : k < 4) (h : ouN f W H D Wt sq (nI k) = 1) : Wt = 0 ∨ sq = 0 := by
  refine Classical.byContradiction (fun q => ?_)
  rw [ou_2 hk (by omega) (by omega)] at h
  unfold rowO at h
  split at h <;> omega
noncomputable def rsB (f : Nat → Int32) (W H D Wt sq : Nat) (wa wu : Nat → Int) (tn : Nat) : Bool := @decide (∃ r, ouN f W H D Wt sq (nI tn) = r + 3 ∧ hoT (opS f tn W H) (wdN tn W H) (htN tn W H) r D (pN (opS f tn W H) (wdN tn W H) r D Wt) (qN (opS f tn W H) (wdN tn W H) r D) (wa tn) (wu tn) = 2) (Classical.propDecidable _)
noncomputable def rsI (f : Nat → Int32) (W H D Wt sq : Nat) (wa wu : Nat → Int) (n : Nat) : Int32 := nf (fun k b => if rsB f W H D Wt sq wa wu k = true then b ||| ((1 : Int32) <<< (nI k &&& 31)) else b) n 0
theorem rsB_t {f : Nat → Int32} {W H D Wt sq : Nat} {wa wu : Nat → Int} {tn r : Nat} (h : ouN f W H D Wt sq (nI tn) = r + 3) (h2 : hoT (opS f tn W H) (wdN tn W H) (htN tn W H) r D (pN (opS f tn W H) (wdN tn W H) r D Wt) (qN (opS f tn W H) (wdN tn W H) r D) (wa tn) (wu tn) = 2) : rsB f W H D Wt sq wa wu tn = true := by
  unfold rsB
  exact (@decide_eq_true_iff _ (Classical.propDecidable _)).mpr ⟨r, h, h2⟩
theorem rsB_f {f : Nat → Int32} {W H D Wt sq : Nat} {wa wu : Nat → Int} {tn r : Nat} (h : ouN f W H D Wt sq (nI tn) = r + 3) (h2 : ¬ hoT (opS f tn W H) (wdN tn W H) (htN tn W H) r D (pN (opS f tn W H) (wdN tn W H) r D Wt) (qN (opS f tn W H) (wdN tn W H) r D) (wa tn) (wu tn) = 2) : ¬ rsB f W H D Wt sq wa wu tn = true := by
  unfold rsB
  intro z
  obtain ⟨r', e, q⟩ := (@decide_eq_true_iff _ (Classical.propDecidable _)).mp z
  obtain rfl : r = r' := by omega
  exact h2 q
theorem rsB_n {f : Nat → Int32} {W H D Wt sq : Nat} {wa wu : Nat → Int} {tn : Nat} (h : ouN f W H D Wt sq (nI tn) < 3) : ¬ rsB f W H D Wt sq wa wu tn = true := by
  unfold rsB
  intro z
  obtain ⟨r', e, q⟩ := (@decide_eq_true_iff _ (Classical.propDecidable _)).mp z
  omega
theorem rsI_s (f : Nat → Int32) (W H D Wt sq : Nat) (wa wu : Nat → Int) (k : Nat) : rsI f W H D Wt sq wa wu (k + 1) = if rsB f W H D Wt sq wa wu k = true then rsI f W H D Wt sq wa wu k ||| ((1 : Int32) <<< (nI k &&& 31)) else rsI f W H D Wt sq wa wu k := rfl
set_option maxRecDepth 20000 in
theorem sX3_place {d : Nat} (m : dx_M) {f : Nat → Int32} {W H E D Wt sq : Nat} {wa wu : Nat → Int} (hg : GX m f W H E D Wt sq wa wu) (t x y : Int32) {Z : Option Value → dx_M → Prop} (h0 : plB t x y W H = false → Z (some (.int (-1))) m) (hN : ∀ m', plB t x y W H = true → ouN f W H D Wt sq t < 3 → keepX m m' → Z (some (.int (ansO (ouN f W H D Wt sq t)))) m') (hY : ∀ tn xn yn r m', tn < 4 → t = nI tn → x = nI xn → y = nI yn → xn < (wdN tn W H) → yn < (htN tn W H) → plB t x y W H = true → ouN f W H D Wt sq t = r + 3 → keepX m m' → Z (some (.int (stN (opS f tn W H) (wdN tn W H) r yn xn))) m') : dx_Sem dx_P lx_X (d + 7) 47 [.ref 0, .int t, .int x, .int y] m Z := by
  obtain ⟨g1, g2, g3, g4, g5, g6, g7, g8, g9, g10, g11, g12, g13, g14, g15, g16, g17⟩ := id hg
  have hE := g5
  have eE := g10
  have hW := g2
  have hH := g4
  have eW := g8
  have eH := g9
  refine dx_sem km_X3_place rfl rfl ?_
  refine dx_blk 0 (c' := (0, [.ref 0, .int t, .int x, .int y, .null], [], m)) rfl ?_
  refine dx_blk 1 (c' := (1, [.ref 0, .int t, .int x, .int y, .null], [.int t], m)) rfl ?_
  refine dx_call (id := 65) (as := [.int t]) (rest := []) rfl ?_
  refine sX3_isTurn t _ ?_
  refine dx_blk 0 (c' := (4, [.ref 0, .int t, .int x, .int y, .null], [.int (bI (inI t 0 3))], m)) rfl ?_
  refine dx_brB (B := (inI t 0 3)) (a := 43) (b := 7) (L := [.ref 0, .int t, .int x, .int y, .null]) (st := []) (m := m) rfl (fun h4 => ?_) (fun h4 => ?_)
  · refine dx_blk 1 (c' := (44, [.ref 0, .int t, .int x, .int y, .null], [.int (-1)], m)) rfl ?_
    exact dx_ret (r := some (.int (-1))) rfl (h0 (by first | (unfold plB; simp [*]; done) | (rw [plB_N (by omega)]; simp [*])))
  · obtain ⟨tn, htn, rfl⟩ := in_N (n := 3) (x := t) (M := 3) rfl h4
    refine dx_blk 5 (c' := (14, [.ref 0, .int (nI tn), .int x, .int y, .null], [.int (nI tn), .ref 1, .int 0, .int x], m)) rfl ?_
    refine dx_call (id := 4) (as := [.ref 1, .int (nI tn)]) (rest := [.int 0, .int x]) rfl ?_
    refine sX0_across _ _ ?_
    rw [g8, g9, wd_N (by omega)]
    refine dx_blk 0 (c' := (17, [.ref 0, .int (nI tn), .int x, .int y, .null], [.int (nI (wdN tn W H)), .int 0, .int x], m)) rfl ?_
    refine dx_blk 2 (c' := (19, [.ref 0, .int (nI tn), .int x, .int y, .null], [.int ((nI (wdN tn W H)) - 1), .int 0, .int x], m)) rfl ?_
    refine dx_call (id := 64) (as := [.int x, .int 0, .int ((nI (wdN tn W H)) - 1)]) (rest := []) rfl ?_
    refine sX3_within x 0 ((nI (wdN tn W H)) - 1) _ ?_
    refine dx_blk 0 (c' := (22, [.ref 0, .int (nI tn), .int x, .int y, .null], [.int (bI (inI x 0 ((nI (wdN tn W H)) - 1)))], m)) rfl ?_
    refine dx_brB (B := (inI x 0 ((nI (wdN tn W H)) - 1))) (a := 43) (b := 25) (L := [.ref 0, .int (nI tn), .int x, .int y, .null]) (st := []) (m := m) rfl (fun h22 => ?_) (fun h22 => ?_)
    · refine dx_blk 1 (c' := (44, [.ref 0, .int (nI tn), .int x, .int y, .null], [.int (-1)], m)) rfl ?_
      exact dx_ret (r := some (.int (-1))) rfl (h0 (by first | (unfold plB; simp [*]; done) | (rw [plB_N (by omega)]; simp [*])))
    · refine dx_blk 5 (c' := (32, [.ref 0, .int (nI tn), .int x, .int y, .null], [.int (nI tn), .ref 1, .int 0, .int y], m)) rfl ?_
      refine dx_call (id := 5) (as := [.ref 1, .int (nI tn)]) (rest := [.int 0, .int y]) rfl ?_
      refine sX0_up _ _ ?_
      rw [g9, g8, ht_N (by omega)]
      refine dx_blk 0 (c' := (35, [.ref 0, .int (nI tn), .int x, .int y, .null], [.int (nI (htN tn W H)), .int 0, .int y], m)) rfl ?_
      refine dx_blk 2 (c' := (37, [.ref 0, .int (nI tn), .int x, .int y, .null], [.int ((nI (htN tn W H)) - 1), .int 0, .int y], m)) rfl ?_
      refine dx_call (id := 64) (as := [.int y, .int 0, .int ((nI (htN tn W H)) - 1)]) (rest := []) rfl ?_
      refine sX3_within y 0 ((nI (htN tn W H)) - 1) _ ?_
      refine dx_blk 0 (c' := (40, [.ref 0, .int (nI tn), .int x, .int y, .null], [.int (bI (inI y 0 ((nI (htN tn W H)) - 1)))], m)) rfl ?_
      refine dx_brB (B := (inI y 0 ((nI (htN tn W H)) - 1))) (a := 43) (b := 45) (L := [.ref 0, .int (nI tn), .int x, .int y, .null]) (st := []) (m := m) rfl (fun h40 => ?_) (fun h40 => ?_)
      · refine dx_blk 1 (c' := (44, [.ref 0, .int (nI tn), .int x, .int y, .null], [.int (-1)], m)) rfl ?_
        exact dx_ret (r := some (.int (-1))) rfl (h0 (by first | (unfold plB; simp [*]; done) | (rw [plB_N (by omega)]; simp [*])))
      · have hpl : plB (nI tn) x y W H = true := by rw [plB_N (by omega)]; simp [*]
        refine dx_blk 2 (c' := (47, [.ref 0, .int (nI tn), .int x, .int y, .null], [.int (nI tn), .ref 0], m)) rfl ?_
        refine dx_call (id := 75) (as := [.ref 0, .int (nI tn)]) (rest := []) rfl ?_
        refine sX3_settle _ hg _ (fun m1 hk1 hS => ?_)
        refine dx_blk 0 (c' := (50, [.ref 0, .int (nI tn), .int x, .int y, .null], [.int (ansO (ouN f W H D Wt sq (nI tn)))], m1)) rfl ?_
        refine dx_blk 3 (c' := (55, [.ref 0, .int (nI tn), .int x, .int y, .int (ansO (ouN f W H D Wt sq (nI tn)))], [.int 1, .int (ansO (ouN f W H D Wt sq (nI tn)))], m1)) rfl ?_
        refine dx_br (q := (ansO (ouN f W H D Wt sq (nI tn))) = 1) (a := 58) (b := 70) (L := [.ref 0, .int (nI tn), .int x, .int y, .int (ansO (ouN f W H D Wt sq (nI tn)))]) (st := []) (m := m1) rfl (fun q55 => ?_) (fun q55 => ?_)
        · obtain ⟨r, er⟩ := ans_1 q55
          obtain ⟨tn2, htn2, et2, hW0, hrf, hA⟩ := hS r er
          obtain rfl : tn = tn2 := by
            have e := congrArg Int32.toNatClampNeg et2
            rw [nI_clamp (by omega), nI_clamp (by omega)] at e
            exact e
          obtain ⟨xn, hxn, rfl⟩ := in_P (wd_1 g1 g3).1 (by have := hw_le (t := tn) g2 g4; omega) h22
          obtain ⟨yn, hyn, rfl⟩ := in_P (wd_1 g1 g3).2 (by have := ht_le (t := tn) g2 g4; omega) h40
          refine dx_blk 4 (c' := (64, [.ref 0, .int (nI tn), .int (nI xn), .int (nI yn), .int (ansO (ouN f W H D Wt sq (nI tn)))], [.int (nI yn), .int (nI xn), .ref 3], m1)) rfl ?_
          refine dx_call (id := 18) (as := [.ref 3, .int (nI xn), .int (nI yn)]) (rest := []) rfl ?_
          refine sX1_stateOf _ hA.1 hxn hyn ?_
          refine dx_blk 0 (c' := (67, [.ref 0, .int (nI tn), .int (nI xn), .int (nI yn), .int (ansO (ouN f W H D Wt sq (nI tn)))], [.int (stN (opS f tn W H) (wdN tn W H) r yn xn)], m1)) rfl ?_
          refine dx_blk 1 (c' := (72, [.ref 0, .int (nI tn), .int (nI xn), .int (nI yn), .int (ansO (ouN f W H D Wt sq (nI tn)))], [.int (stN (opS f tn W H) (wdN tn W H) r yn xn)], m1)) rfl ?_
          exact dx_ret (r := some (.int (stN (opS f tn W H) (wdN tn W H) r yn xn))) rfl (hY tn xn yn r m1 (by omega) rfl rfl rfl hxn hyn hpl er hk1)
        · refine dx_blk 1 (c' := (72, [.ref 0, .int (nI tn), .int x, .int y, .int (ansO (ouN f W H D Wt sq (nI tn)))], [.int (ansO (ouN f W H D Wt sq (nI tn)))], m1)) rfl ?_
          exact dx_ret (r := some (.int (ansO (ouN f W H D Wt sq (nI tn))))) rfl (hN m1 hpl (ans_n q55) hk1)
set_option maxRecDepth 20000 in
theorem sX3_room {d : Nat} (m : dx_M) {f : Nat → Int32} {W H E D Wt sq : Nat} {wa wu : Nat → Int} (hg : GX m f W H E D Wt sq wa wu) (t u l : Int32) {Z : Option Value → dx_M → Prop} (h0 : rmB t u l W H = false → Z (some (.int (-1))) m) (h1 : rmB t u l W H = true → u = 0 → Z (some (.int 1)) (dx_pL (dx_pL m 0 9 (tU (0 : Int) (1 : Int))) 0 10 (tL (0 : Int) (1 : Int)))) (h2 : ∀ tn un ln r m', tn < 4 → t = nI tn → u = nI un → l = nI ln → 1 ≤ un → un ≤ 24 → 1 ≤ ln → ln ≤ 12 → rmB t u l W H = true → r = (un - 1) / ln → r < (htN tn W H) → keepX m m' → Z (some (.int 1)) (dx_pL (dx_pL m' 0 9 (tU ((fB (opS f tn W H) (wdN tn W H) r * ln + fA (opS f tn W H) (wdN tn W H) r * (un - r * ln) : Nat) : Int) ((ln : Nat) : Int))) 0 10 (tL ((fB (opS f tn W H) (wdN tn W H) r * ln + fA (opS f tn W H) (wdN tn W H) r * (un - r * ln) : Nat) : Int) ((ln : Nat) : Int)))) : dx_Sem dx_P lx_X (d + 6) 54 [.ref 0, .int t, .int u, .int l] m Z := by
  obtain ⟨g1, g2, g3, g4, g5, g6, g7, g8, g9, g10, g11, g12, g13, g14, g15, g16, g17⟩ := id hg
  have hE := g5
  have eE := g10
  have hW := g2
  have hH := g4
  have eW := g8
  have eH := g9
  refine dx_sem km_X3_room rfl rfl ?_
  refine dx_blk 0 (c' := (0, [.ref 0, .int t, .int u, .int l, .null], [], m)) rfl ?_
  refine dx_blk 1 (c' := (1, [.ref 0, .int t, .int u, .int l, .null], [.int t], m)) rfl ?_
  refine dx_call (id := 65) (as := [.int t]) (rest := []) rfl ?_
  refine sX3_isTurn t _ ?_
  refine dx_blk 0 (c' := (4, [.ref 0, .int t, .int u, .int l, .null], [.int (bI (inI t 0 3))], m)) rfl ?_
  refine dx_brB (B := (inI t 0 3)) (a := 41) (b := 7) (L := [.ref 0, .int t, .int u, .int l, .null]) (st := []) (m := m) rfl (fun h4 => ?_) (fun h4 => ?_)
  · refine dx_blk 1 (c' := (42, [.ref 0, .int t, .int u, .int l, .null], [.int (-1)], m)) rfl ?_
    exact dx_ret (r := some (.int (-1))) rfl (h0 (by first | (unfold rmB; simp [*]; done) | (rw [rmB_N (by omega)]; simp [*])))
  · obtain ⟨tn, htn, rfl⟩ := in_N (n := 3) (x := t) (M := 3) rfl h4
    refine dx_blk 3 (c' := (11, [.ref 0, .int (nI tn), .int u, .int l, .null], [.int 24, .int 0, .int u], m)) rfl ?_
    refine dx_call (id := 64) (as := [.int u, .int 0, .int 24]) (rest := []) rfl ?_
    refine sX3_within u 0 24 _ ?_
    refine dx_blk 0 (c' := (14, [.ref 0, .int (nI tn), .int u, .int l, .null], [.int (bI (inI u 0 24))], m)) rfl ?_
    refine dx_brB (B := (inI u 0 24)) (a := 41) (b := 17) (L := [.ref 0, .int (nI tn), .int u, .int l, .null]) (st := []) (m := m) rfl (fun h14 => ?_) (fun h14 => ?_)
    · refine dx_blk 1 (c' := (42, [.ref 0, .int (nI tn), .int u, .int l, .null], [.int (-1)], m)) rfl ?_
      exact dx_ret (r := some (.int (-1))) rfl (h0 (by first | (unfold rmB; simp [*]; done) | (rw [rmB_N (by omega)]; simp [*])))
    · refine dx_blk 3 (c' := (21, [.ref 0, .int (nI tn), .int u, .int l, .null], [.int 12, .int 1, .int l], m)) rfl ?_
      refine dx_call (id := 64) (as := [.int l, .int 1, .int 12]) (rest := []) rfl ?_
      refine sX3_within l 1 12 _ ?_
      refine dx_blk 0 (c' := (24, [.ref 0, .int (nI tn), .int u, .int l, .null], [.int (bI (inI l 1 12))], m)) rfl ?_
      refine dx_brB (B := (inI l 1 12)) (a := 41) (b := 27) (L := [.ref 0, .int (nI tn), .int u, .int l, .null]) (st := []) (m := m) rfl (fun h24 => ?_) (fun h24 => ?_)
      · refine dx_blk 1 (c' := (42, [.ref 0, .int (nI tn), .int u, .int l, .null], [.int (-1)], m)) rfl ?_
        exact dx_ret (r := some (.int (-1))) rfl (h0 (by first | (unfold rmB; simp [*]; done) | (rw [rmB_N (by omega)]; simp [*])))
      · refine dx_blk 4 (c' := (33, [.ref 0, .int (nI tn), .int u, .int l, .null], [.int (nI tn), .ref 1, .int u], m)) rfl ?_
        refine dx_call (id := 5) (as := [.ref 1, .int (nI tn)]) (rest := [.int u]) rfl ?_
        refine sX0_up _ _ ?_
        rw [g9, g8, ht_N (by omega)]
        refine dx_blk 0 (c' := (36, [.ref 0, .int (nI tn), .int u, .int l, .null], [.int (nI (htN tn W H)), .int u], m)) rfl ?_
        refine dx_blk 2 (c' := (38, [.ref 0, .int (nI tn), .int u, .int l, .null], [.int ((nI (htN tn W H)) * l), .int u], m)) rfl ?_
        refine dx_br (q := u ≤ ((nI (htN tn W H)) * l)) (a := 43) (b := 41) (L := [.ref 0, .int (nI tn), .int u, .int l, .null]) (st := []) (m := m) rfl (fun h38 => ?_) (fun h38 => ?_)
        · have hrm : rmB (nI tn) u l W H = true := by rw [rmB_N (by omega)]; simp [*]
          obtain ⟨un, hun, rfl⟩ := in_N (n := 24) (x := u) (M := 24) rfl h14
          obtain ⟨ln, hl1, hl2, rfl⟩ := in_1 (n := 12) (x := l) (M := 12) rfl h24
          refine dx_blk 1 (c' := (44, [.ref 0, .int (nI tn), .int (nI un), .int (nI ln), .null], [.int (nI un)], m)) rfl ?_
          refine dx_br (q := (nI un) = 0) (a := 47) (b := 54) (L := [.ref 0, .int (nI tn), .int (nI un), .int (nI ln), .null]) (st := []) (m := m) rfl (fun q44 => ?_) (fun q44 => ?_)
          · refine dx_blk 3 (c' := (50, [.ref 0, .int (nI tn), .int (nI un), .int (nI ln), .null], [.long 1, .long 0, .ref 0], m)) rfl ?_
            refine dx_call (id := 71) (as := [.ref 0, .long 0, .long 1]) (rest := []) rfl ?_
            refine sX3_tellE _ (u := (0 : Int)) (l := (1 : Int)) (by rfl) (by rfl) (by exact tl_of (A := 1) (B := 1) (by decide) (by decide) (by decide) (by decide) (by decide)) ?_
            refine dx_blk 0 (c' := (53, [.ref 0, .int (nI tn), .int (nI un), .int (nI ln), .null], [.int 1], dx_pL (dx_pL m 0 9 (tU (0 : Int) (1 : Int))) 0 10 (tL (0 : Int) (1 : Int)))) rfl ?_
            exact dx_ret (r := some (.int 1)) rfl (h1 hrm q44)
          · have hun1 : 1 ≤ un := by
              rcases Nat.eq_zero_or_pos un with z | z
              · exact absurd (by rw [z]; rfl) q44
              · exact z
            have hhh := ht_le (t := tn) g2 g4
            have hle : un ≤ htN tn W H * ln := by
              rw [pk_mul] at h38
              have hb : htN tn W H * ln ≤ 12 * 12 := Nat.mul_le_mul hhh hl2
              rw [fa_le, nI_toInt (by omega), nI_toInt (by omega)] at h38
              omega
            obtain ⟨r, er⟩ : ∃ r, r = (un - 1) / ln := ⟨_, rfl⟩
            have hrl : r * ln ≤ un - 1 := by rw [er]; exact Nat.div_mul_le_self _ _
            have hrh : r < htN tn W H := by
              rcases Nat.lt_or_ge r (htN tn W H) with z | z
              · exact z
              · have := Nat.mul_le_mul_right ln z
                omega
            have ediv : (nI un - 1) / nI ln = nI r := by
              rw [show nI un - 1 = nI (un - 1) from pk_sub (a := un) (b := 1) (by omega), pk_div (by omega) (by omega) (by omega), er]
            refine dx_blk 4 (c' := (58, [.ref 0, .int (nI tn), .int (nI un), .int (nI ln), .null], [.int (nI ln), .int ((nI un) - 1)], m)) rfl ?_
            refine dx_step (c' := (59, [.ref 0, .int (nI tn), .int (nI un), .int (nI ln), .null], [.int (((nI un) - 1) / (nI ln))], m)) (if_pos (nI_ne0 (by omega) (by omega))) ?_
            refine dx_blk 1 (c' := (61, [.ref 0, .int (nI tn), .int (nI un), .int (nI ln), .int (((nI un) - 1) / (nI ln))], [], m)) rfl ?_
            rw [ediv]
            refine dx_blk 5 (c' := (70, [.ref 0, .int (nI tn), .int (nI un), .int (nI ln), .int (nI r)], [.int (nI tn), .ref 1, .ref 3], m)) rfl ?_
            refine dx_call (id := 10) (as := [.ref 3, .ref 1, .int (nI tn)]) (rest := []) rfl ?_
            refine sX1_turnT _ g1 g2 g3 g4 g8 g9 g12 (by omega) (fun m1 hlx hk1 => ?_)
            refine dx_blk 0 (c' := (73, [.ref 0, .int (nI tn), .int (nI un), .int (nI ln), .int (nI r)], [], m1)) rfl ?_
            refine dx_blk 3 (c' := (79, [.ref 0, .int (nI tn), .int (nI un), .int (nI ln), .int (nI r)], [.int (nI r), .ref 3], m1)) rfl ?_
            refine dx_call (id := 11) (as := [.ref 3, .int (nI r)]) (rest := []) rfl ?_
            refine sX1_riseTo _ (k := 0) (t := r) hlx (by omega) hrh (fun m2 hl3 hk2 hm2 => ?_)
            refine dx_blk 0 (c' := (82, [.ref 0, .int (nI tn), .int (nI un), .int (nI ln), .int (nI r)], [], m2)) rfl ?_
            refine dx_blk 19 (c' := (110, [.ref 0, .int (nI tn), .int (nI un), .int (nI ln), .int (nI r)], [.long ((nI ln).toInt64), .long ((((m2.1 3 5) * (nI ln)) + ((m2.1 3 6) * ((nI un) - ((nI r) * (nI ln))))).toInt64), .ref 0], m2)) rfl ?_
            refine dx_call (id := 71) (as := [.ref 0, .long ((((m2.1 3 5) * (nI ln)) + ((m2.1 3 6) * ((nI un) - ((nI r) * (nI ln))))).toInt64), .long ((nI ln).toInt64)]) (rest := []) rfl ?_
            refine sX3_tellE _ (u := ((fB (opS f tn W H) (wdN tn W H) r * ln + fA (opS f tn W H) (wdN tn W H) r * (un - r * ln) : Nat) : Int)) (l := ((ln : Nat) : Int)) (by rw [hl3.2.1, hl3.2.2, pk_mul, pk_mul, pk_sub (by omega), pk_mul, nI_add, lZ_n (by have : fB (opS f tn W H) (wdN tn W H) r * ln ≤ 144 * 12 := Nat.mul_le_mul (fB_le _ (hw_le g2 g4) (by omega)) hl2; have : fA (opS f tn W H) (wdN tn W H) r * (un - r * ln) ≤ 12 * 24 := Nat.mul_le_mul (fA_le _ r (hw_le g2 g4)) (by omega); omega)]) (by exact lZ_n (by omega)) (by exact tl_room (hw_le g2 g4) (by omega) hun hl2 (by omega)) ?_
            refine dx_blk 0 (c' := (113, [.ref 0, .int (nI tn), .int (nI un), .int (nI ln), .int (nI r)], [.int 1], dx_pL (dx_pL m2 0 9 (tU ((fB (opS f tn W H) (wdN tn W H) r * ln + fA (opS f tn W H) (wdN tn W H) r * (un - r * ln) : Nat) : Int) ((ln : Nat) : Int))) 0 10 (tL ((fB (opS f tn W H) (wdN tn W H) r * ln + fA (opS f tn W H) (wdN tn W H) r * (un - r * ln) : Nat) : Int) ((ln : Nat) : Int)))) rfl ?_
            exact dx_ret (r := some (.int 1)) rfl (h2 tn un ln r m2 (by omega) rfl rfl rfl hun1 hun hl1 hl2 hrm er hrh (keepX_tr hk1 hk2))
        · refine dx_blk 1 (c' := (42, [.ref 0, .int (nI tn), .int u, .int l, .null], [.int (-1)], m)) rfl ?_
          exact dx_ret (r := some (.int (-1))) rfl (h0 (by first | (unfold rmB; simp [*]; done) | (rw [rmB_N (by omega)]; simp [*])))
set_option maxRecDepth 20000 in
theorem lp_rests {d : Nat} {Z : Option Value → dx_M → Prop} (m0 : dx_M) {f : Nat → Int32} {W H E D Wt sq : Nat} {wa wu : Nat → Int} (hg0 : GX m0 f W H E D Wt sq wa wu) (h1 : ∀ m', (Wt = 0 ∨ sq = 0) → keepX m0 m' → Z (some (.int (-4))) m') (h2 : ∀ m', ¬ (Wt = 0 ∨ sq = 0) → keepX m0 m' → Z (some (.int (rsI f W H D Wt sq wa wu 4))) m') : ∀ (n k : Nat) (m : dx_M), k + n = 4 → (0 < k → ¬ (Wt = 0 ∨ sq = 0)) → keepX m0 m → dx_Go (d + 6) (dx_Sem dx_P lx_X (d + 6)) lx_X km_X3_rests Z (4, [.ref 0, .int (rsI f W H D Wt sq wa wu k), .int (nI k), .null], [], m) := by
  intro n
  induction n with
  | zero =>
    intro k m hk hst hkm
    obtain rfl : k = 4 := by omega
    refine dx_blk 0 (c' := (4, [.ref 0, .int (rsI f W H D Wt sq wa wu 4), .int (nI 4), .null], [], m)) rfl ?_
    refine dx_blk 2 (c' := (6, [.ref 0, .int (rsI f W H D Wt sq wa wu 4), .int (nI 4), .null], [.int 4, .int (nI 4)], m)) rfl ?_
    refine dx_br (q := 4 ≤ (nI 4)) (a := 50) (b := 9) (L := [.ref 0, .int (rsI f W H D Wt sq wa wu 4), .int (nI 4), .null]) (st := []) (m := m) rfl (fun _ => ?_) (fun h => absurd (by decide) h)
    refine dx_blk 1 (c' := (51, [.ref 0, .int (rsI f W H D Wt sq wa wu 4), .int (nI 4), .null], [.int (rsI f W H D Wt sq wa wu 4)], m)) rfl ?_
    exact dx_ret (r := some (.int (rsI f W H D Wt sq wa wu 4))) rfl (h2 m (hst (by decide)) hkm)
  | succ n ih =>
    intro k m hk hst hkm
    have hg := GX_keep hkm hg0
    obtain ⟨g1, g2, g3, g4, g5, g6, g7, g8, g9, g10, g11, g12, g13, g14, g15, g16, g17⟩ := id hg
    have hE := g5
    have eE := g10
    have hW := g2
    have hH := g4
    have eW := g8
    have eH := g9
    refine dx_blk 0 (c' := (4, [.ref 0, .int (rsI f W H D Wt sq wa wu k), .int (nI k), .null], [], m)) rfl ?_
    refine dx_blk 2 (c' := (6, [.ref 0, .int (rsI f W H D Wt sq wa wu k), .int (nI k), .null], [.int 4, .int (nI k)], m)) rfl ?_
    refine dx_br (q := 4 ≤ (nI k)) (a := 50) (b := 9) (L := [.ref 0, .int (rsI f W H D Wt sq wa wu k), .int (nI k), .null]) (st := []) (m := m) rfl (fun h => absurd h (nI_ge (a := k) (b := 4) (by omega) (by decide))) (fun _ => ?_)
    refine dx_blk 2 (c' := (11, [.ref 0, .int (rsI f W H D Wt sq wa wu k), .int (nI k), .null], [.int (nI k), .ref 0], m)) rfl ?_
    refine dx_call (id := 75) (as := [.ref 0, .int (nI k)]) (rest := []) rfl ?_
    refine sX3_settle _ hg _ (fun m1 hk1 hS => ?_)
    refine dx_blk 0 (c' := (14, [.ref 0, .int (rsI f W H D Wt sq wa wu k), .int (nI k), .null], [.int (ansO (ouN f W H D Wt sq (nI k)))], m1)) rfl ?_
    refine dx_blk 3 (c' := (18, [.ref 0, .int (rsI f W H D Wt sq wa wu k), .int (nI k), .int (ansO (ouN f W H D Wt sq (nI k)))], [.int (-4), .int (ansO (ouN f W H D Wt sq (nI k)))], m1)) rfl ?_
    refine dx_br (q := (ansO (ouN f W H D Wt sq (nI k))) = (-4)) (a := 21) (b := 24) (L := [.ref 0, .int (rsI f W H D Wt sq wa wu k), .int (nI k), .int (ansO (ouN f W H D Wt sq (nI k)))]) (st := []) (m := m1) rfl (fun q18 => ?_) (fun q18 => ?_)
    · refine dx_blk 1 (c' := (23, [.ref 0, .int (rsI f W H D Wt sq wa wu k), .int (nI k), .int (ansO (ouN f W H D Wt sq (nI k)))], [.int (-4)], m1)) rfl ?_
      exact dx_ret (r := some (.int (-4))) rfl (h1 m1 (ou_st (by omega) (ans_st.mp q18)) (keepX_tr hkm hk1))
    · refine dx_blk 2 (c' := (26, [.ref 0, .int (rsI f W H D Wt sq wa wu k), .int (nI k), .int (ansO (ouN f W H D Wt sq (nI k)))], [.int 1, .int (ansO (ouN f W H D Wt sq (nI k)))], m1)) rfl ?_
      refine dx_br (q := (ansO (ouN f W H D Wt sq (nI k))) = 1) (a := 29) (b := 44) (L := [.ref 0, .int (rsI f W H D Wt sq wa wu k), .int (nI k), .int (ansO (ouN f W H D Wt sq (nI k)))]) (st := []) (m := m1) rfl (fun q26 => ?_) (fun q26 => ?_)
      · obtain ⟨r, er⟩ := ans_1 q26
        obtain ⟨tn, htn, et, hW0, hrf, hA⟩ := hS r er
        obtain rfl : k = tn := by
          have e := congrArg Int32.toNatClampNeg et
          rw [nI_clamp (by omega), nI_clamp (by omega)] at e
          exact e
        have hg1 := GX_keep hk1 hg
        obtain ⟨y1, y2, y3⟩ := pq_ok (hw_le g2 g4) g7 hW0 hrf
        refine dx_blk 2 (c' := (31, [.ref 0, .int (rsI f W H D Wt sq wa wu k), .int (nI k), .int (ansO (ouN f W H D Wt sq (nI k)))], [.int (nI k), .ref 0], m1)) rfl ?_
        refine dx_call (id := 79) (as := [.ref 0, .int (nI k)]) (rest := []) rfl ?_
        refine sX3_holding _ hg1 hrf.1 htn hA y1 y2 y3 (fun m2 hk2 => ?_)
        refine dx_blk 0 (c' := (34, [.ref 0, .int (rsI f W H D Wt sq wa wu k), .int (nI k), .int (ansO (ouN f W H D Wt sq (nI k)))], [.int (hoT (opS f k W H) (wdN k W H) (htN k W H) r D (pN (opS f k W H) (wdN k W H) r D Wt) (qN (opS f k W H) (wdN k W H) r D) (wa k) (wu k))], m2)) rfl ?_
        refine dx_blk 1 (c' := (35, [.ref 0, .int (rsI f W H D Wt sq wa wu k), .int (nI k), .int (ansO (ouN f W H D Wt sq (nI k)))], [.int 2, .int (hoT (opS f k W H) (wdN k W H) (htN k W H) r D (pN (opS f k W H) (wdN k W H) r D Wt) (qN (opS f k W H) (wdN k W H) r D) (wa k) (wu k))], m2)) rfl ?_
        refine dx_br (q := (hoT (opS f k W H) (wdN k W H) (htN k W H) r D (pN (opS f k W H) (wdN k W H) r D Wt) (qN (opS f k W H) (wdN k W H) r D) (wa k) (wu k)) = 2) (a := 38) (b := 44) (L := [.ref 0, .int (rsI f W H D Wt sq wa wu k), .int (nI k), .int (ansO (ouN f W H D Wt sq (nI k)))]) (st := []) (m := m2) rfl (fun q35 => ?_) (fun q35 => ?_)
        · refine dx_blk 8 (c' := (4, [.ref 0, .int ((rsI f W H D Wt sq wa wu k) ||| ((1 : Int32) <<< ((nI k) &&& 31))), .int ((nI k) + 1), .int (ansO (ouN f W H D Wt sq (nI k)))], [], m2)) rfl ?_
          refine dx_fgt [.ref 0, .int ((rsI f W H D Wt sq wa wu k) ||| ((1 : Int32) <<< ((nI k) &&& 31))), .int ((nI k) + 1), .null] (And.intro (Or.inr rfl) (And.intro (Or.inr rfl) (And.intro (Or.inr rfl) (And.intro (Or.inl rfl) trivial)))) ?_
          rw [show (rsI f W H D Wt sq wa wu k) ||| ((1 : Int32) <<< ((nI k) &&& 31)) = rsI f W H D Wt sq wa wu (k + 1) from (by rw [rsI_s, if_pos (rsB_t er q35)])]
          rw [← nI_succ]
          exact ih (k + 1) m2 (by omega) (fun _ z => q18 (ans_st.mpr (ou_1 (in_03 (by omega)) z))) (keepX_tr hkm (keepX_tr hk1 hk2))
        · refine dx_blk 2 (c' := (4, [.ref 0, .int (rsI f W H D Wt sq wa wu k), .int ((nI k) + 1), .int (ansO (ouN f W H D Wt sq (nI k)))], [], m2)) rfl ?_
          refine dx_fgt [.ref 0, .int (rsI f W H D Wt sq wa wu k), .int ((nI k) + 1), .null] (And.intro (Or.inr rfl) (And.intro (Or.inr rfl) (And.intro (Or.inr rfl) (And.intro (Or.inl rfl) trivial)))) ?_
          rw [show rsI f W H D Wt sq wa wu k = rsI f W H D Wt sq wa wu (k + 1) from (by rw [rsI_s, if_neg (rsB_f er q35)])]
          rw [← nI_succ]
          exact ih (k + 1) m2 (by omega) (fun _ z => q18 (ans_st.mpr (ou_1 (in_03 (by omega)) z))) (keepX_tr hkm (keepX_tr hk1 hk2))
      · refine dx_blk 2 (c' := (4, [.ref 0, .int (rsI f W H D Wt sq wa wu k), .int ((nI k) + 1), .int (ansO (ouN f W H D Wt sq (nI k)))], [], m1)) rfl ?_
        refine dx_fgt [.ref 0, .int (rsI f W H D Wt sq wa wu k), .int ((nI k) + 1), .null] (And.intro (Or.inr rfl) (And.intro (Or.inr rfl) (And.intro (Or.inr rfl) (And.intro (Or.inl rfl) trivial)))) ?_
        rw [show rsI f W H D Wt sq wa wu k = rsI f W H D Wt sq wa wu (k + 1) from (by rw [rsI_s, if_neg (rsB_n (ans_n q26))])]
        rw [← nI_succ]
        exact ih (k + 1) m1 (by omega) (fun _ z => q18 (ans_st.mpr (ou_1 (in_03 (by omega)) z))) (keepX_tr hkm hk1)
theorem sX3_rests {d : Nat} (m0 : dx_M) {f : Nat → Int32} {W H E D Wt sq : Nat} {wa wu : Nat → Int} (hg : GX m0 f W H E D Wt sq wa wu) {Z : Option Value → dx_M → Prop} (h1 : ∀ m', (Wt = 0 ∨ sq = 0) → keepX m0 m' → Z (some (.int (-4))) m') (h2 : ∀ m', ¬ (Wt = 0 ∨ sq = 0) → keepX m0 m' → Z (some (.int (rsI f W H D Wt sq wa wu 4))) m') : dx_Sem dx_P lx_X (d + 7) 51 [.ref 0] m0 Z := by
  refine dx_sem km_X3_rests rfl rfl ?_
  refine dx_blk 4 (c' := (4, [.ref 0, .int 0, .int 0, .null], [], m0)) rfl ?_
  exact lp_rests m0 hg h1 h2 4 0 m0 rfl (fun h => absurd h (by omega)) (keepX_rf m0)
