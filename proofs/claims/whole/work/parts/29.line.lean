/-! the line's breadth, the places, the weights' moments (printed by wip/whole/g29.py) -/
noncomputable def brB (op : Nat → Nat → Bool) (w h r : Nat) (p Q : Int) : Prop := (lZ p = lZ Q ∧ r + 1 < h) ∧ ¬ lZ (bUZ op w r * bLZ op w (r + 1)) < lZ (bUZ op w (r + 1) * bLZ op w r)
noncomputable def brU (op : Nat → Nat → Bool) (w h r : Nat) (p Q : Int) : Int := @ite _ (brB op w h r p Q) (Classical.propDecidable _) (bUZ op w (r + 1)) (bUZ op w r)
noncomputable def brL (op : Nat → Nat → Bool) (w h r : Nat) (p Q : Int) : Int := @ite _ (brB op w h r p Q) (Classical.propDecidable _) (bLZ op w (r + 1)) (bLZ op w r)
theorem brU_t {op : Nat → Nat → Bool} {w h r : Nat} {p Q : Int} (q : brB op w h r p Q) : brU op w h r p Q = bUZ op w (r + 1) ∧ brL op w h r p Q = bLZ op w (r + 1) := ⟨if_pos q, if_pos q⟩
theorem brU_f {op : Nat → Nat → Bool} {w h r : Nat} {p Q : Int} (q : ¬ brB op w h r p Q) : brU op w h r p Q = bUZ op w r ∧ brL op w h r p Q = bLZ op w r := ⟨if_neg q, if_neg q⟩
noncomputable def stN (op : Nat → Nat → Bool) (w r y x : Nat) : Int32 := if r < y then 0 else if wetB op w r y x = true then 1 else if op y x = true then 3 else 2
def mx0 (v : Int32) : Int32 := if v < 0 then 0 else v
def stW (tr : Int32 → Int32 → Int32) (f : Nat → Int32) (y x : Nat) (s : Int64) : Int64 := s + (mx0 (f (y * 12 + x)) * (2 * tr (nI x) (nI y) + 1)).toInt64
def cutW (tr : Int32 → Int32 → Int32) (f : Nat → Int32) (W H : Nat) : Int64 := nf (fun y s => nf (fun x s => stW tr f y x s) W s) H 0
def ldW (th : Nat → Bool) (wt v : Nat → Int32) (E : Nat) (s : Int64) : Int64 := nf (fun i s => if th i = true then s + (wt i * v i).toInt64 else s) E s
abbrev wAX (m : dx_M) (t : Int32) (W H E : Nat) : Int64 := ldW (thX m) (fun i => m.1 (10 + i) 4) (fun i => trA t (m.1 (10 + i) 2) (m.1 (10 + i) 3) (2 * nI W) (2 * nI H)) E (cutW (fun x y => trA t x y (nI W - 1) (nI H - 1)) (m.1 2) W H)
abbrev wUX (m : dx_M) (t : Int32) (W H E : Nat) : Int64 := ldW (thX m) (fun i => m.1 (10 + i) 4) (fun i => trU t (m.1 (10 + i) 2) (m.1 (10 + i) 3) (2 * nI W) (2 * nI H) + m.1 (10 + i) 5) E (cutW (fun x y => trU t x y (nI W - 1) (nI H - 1)) (m.1 2) W H)
set_option maxRecDepth 20000 in
theorem sX1_measureLine {d : Nat} (m : dx_M) {Z : Option Value → dx_M → Prop} {op : Nat → Nat → Bool} {w h r : Nat} (hl : LF m op w h r) {p Q : Int} (e7 : m.2 3 7 = lZ p) (e8 : m.2 3 8 = lZ Q) (h1 : ∀ m', keepX m m' → m'.2 3 9 = lZ (brU op w h r p Q) → m'.2 3 10 = lZ (brL op w h r p Q) → Z none m') : dx_Sem dx_P lx_X (d + 5) 22 [.ref 3] m Z := by
  obtain ⟨a1, a2, a3, a4, a5, a6, a7, a8, a9⟩ := id hl.1
  have er : m.1 3 4 = nI r := LF_row hl
  have hw : w ≤ 12 := a2
  have ew : m.1 3 2 = nI w := a5
  refine dx_sem km_X1_measureLine rfl rfl ?_
  refine dx_blk 0 (c' := (0, [.ref 3, .null, .null, .null, .null], [], m)) rfl ?_
  refine dx_blk 1 (c' := (1, [.ref 3, .null, .null, .null, .null], [.ref 3], m)) rfl ?_
  refine dx_call (id := 23) (as := [.ref 3]) (rest := []) rfl ?_
  refine sX1_measureRow _ hl ?_
  refine dx_blk 0 (c' := (4, [.ref 3, .null, .null, .null, .null], [], dx_pL (dx_pL m 3 9 (lZ (bUZ op w r))) 3 10 (lZ (bLZ op w r)))) rfl ?_
  refine dx_blk 5 (c' := (13, [.ref 3, .null, .null, .null, .null], [.int (lg_cmp (m.2 3 7) (m.2 3 8))], dx_pL (dx_pL m 3 9 (lZ (bUZ op w r))) 3 10 (lZ (bLZ op w r)))) rfl ?_
  refine dx_brQ (q := (lg_cmp (m.2 3 7) (m.2 3 8)) = 0) (a := 16) (b := 29) (L := [.ref 3, .null, .null, .null, .null]) (st := []) (m := dx_pL (dx_pL m 3 9 (lZ (bUZ op w r))) 3 10 (lZ (bLZ op w r))) (lc_eq _ _) rfl (fun q13 => ?_) (fun q13 => ?_)
  · rw [e7, e8] at q13
    rcases Decidable.em (r + 1 < h) with qh | qh
    · refine dx_blk 0 (c' := (16, [.ref 3, .null, .null, .null, .null], [], dx_pL (dx_pL m 3 9 (lZ (bUZ op w r))) 3 10 (lZ (bLZ op w r)))) rfl ?_
      refine dx_blk 6 (c' := (26, [.ref 3, .null, .null, .null, .null], [.int (m.1 3 3), .int ((m.1 3 4) + 1)], dx_pL (dx_pL m 3 9 (lZ (bUZ op w r))) 3 10 (lZ (bLZ op w r)))) rfl ?_
      refine dx_br (q := ((m.1 3 4) + 1) < (m.1 3 3)) (a := 30) (b := 29) (L := [.ref 3, .null, .null, .null, .null]) (st := []) (m := dx_pL (dx_pL m 3 9 (lZ (bUZ op w r))) 3 10 (lZ (bLZ op w r))) rfl (fun _ => ?_) (fun h => absurd (by rw [er, a6, nI_1 r]; exact nI_lt qh (by omega)) h)
      refine dx_blk 11 (c' := (47, [.ref 3, .long (lZ (bUZ op w r)), .null, .long (lZ (bLZ op w r)), .null], [.int ((m.1 3 4) + 1), .ref 3], dx_pL (dx_pL m 3 9 (lZ (bUZ op w r))) 3 10 (lZ (bLZ op w r)))) rfl ?_
      refine dx_call (id := 11) (as := [.ref 3, .int ((m.1 3 4) + 1)]) (rest := []) rfl ?_
      rw [show m.1 3 4 + 1 = nI (r + 1) by rw [er]; exact nI_1 r]
      refine sX1_riseTo _ (op := op) (w := w) (h := h) (k := r + 1) (t := r + 1) hl.1 (by omega) (by omega) (fun m2 hl2 hk2 hm2 => ?_)
      refine dx_blk 0 (c' := (50, [.ref 3, .long (lZ (bUZ op w r)), .null, .long (lZ (bLZ op w r)), .null], [], m2)) rfl ?_
      refine dx_blk 1 (c' := (51, [.ref 3, .long (lZ (bUZ op w r)), .null, .long (lZ (bLZ op w r)), .null], [.ref 3], m2)) rfl ?_
      refine dx_call (id := 23) (as := [.ref 3]) (rest := []) rfl ?_
      refine sX1_measureRow _ hl2 ?_
      refine dx_blk 0 (c' := (54, [.ref 3, .long (lZ (bUZ op w r)), .null, .long (lZ (bLZ op w r)), .null], [], dx_pL (dx_pL m2 3 9 (lZ (bUZ op w (r + 1)))) 3 10 (lZ (bLZ op w (r + 1))))) rfl ?_
      refine dx_blk 9 (c' := (67, [.ref 3, .long (lZ (bUZ op w r)), .null, .long (lZ (bLZ op w r)), .null], [.int (lg_cmp ((lZ (bUZ op w r)) * (lZ (bLZ op w (r + 1)))) ((lZ (bUZ op w (r + 1))) * (lZ (bLZ op w r))))], dx_pL (dx_pL m2 3 9 (lZ (bUZ op w (r + 1)))) 3 10 (lZ (bLZ op w (r + 1))))) rfl ?_
      refine dx_brQ (q := 0 ≤ (lg_cmp ((lZ (bUZ op w r)) * (lZ (bLZ op w (r + 1)))) ((lZ (bUZ op w (r + 1))) * (lZ (bLZ op w r))))) (a := 80) (b := 70) (L := [.ref 3, .long (lZ (bUZ op w r)), .null, .long (lZ (bLZ op w r)), .null]) (st := []) (m := dx_pL (dx_pL m2 3 9 (lZ (bUZ op w (r + 1)))) 3 10 (lZ (bLZ op w (r + 1)))) (lc_ge _ _) rfl (fun q67 => ?_) (fun q67 => ?_)
      · exact dx_ret (r := none) rfl (by
    have k1 : keepX m (dx_pL (dx_pL m 3 9 (lZ (bUZ op w r))) 3 10 (lZ (bLZ op w r))) := ⟨fun _ _ _ _ => rfl, fun q h3 => (by simp [dx_pL, h3])⟩
    have q67' := q67
    rw [show lZ (bUZ op w r) * lZ (bLZ op w (r + 1)) = lZ (bUZ op w r * bLZ op w (r + 1)) from lZ_mul _ _, show lZ (bUZ op w (r + 1)) * lZ (bLZ op w r) = lZ (bUZ op w (r + 1) * bLZ op w r) from lZ_mul _ _] at q67'
    rw [fa_le64] at q67'
    have nb : brB op w h r p Q := ⟨⟨q13, qh⟩, by rw [fa_lt64]; omega⟩
    refine h1 _ (keepX_tr k1 (keepX_tr hk2 ⟨fun _ _ _ _ => rfl, fun q h3 => (by simp [dx_pL, h3])⟩)) ?_ ?_
    · rw [(brU_t nb).1]; rfl
    · rw [(brU_t nb).2]; rfl)
      · refine dx_blk 6 (c' := (80, [.ref 3, .long (lZ (bUZ op w r)), .null, .long (lZ (bLZ op w r)), .null], [], dx_pL (dx_pL (dx_pL (dx_pL m2 3 9 (lZ (bUZ op w (r + 1)))) 3 10 (lZ (bLZ op w (r + 1)))) 3 9 (lZ (bUZ op w r))) 3 10 (lZ (bLZ op w r)))) rfl ?_
        exact dx_ret (r := none) rfl (by
    have k1 : keepX m (dx_pL (dx_pL m 3 9 (lZ (bUZ op w r))) 3 10 (lZ (bLZ op w r))) := ⟨fun _ _ _ _ => rfl, fun q h3 => (by simp [dx_pL, h3])⟩
    have q67' := q67
    rw [show lZ (bUZ op w r) * lZ (bLZ op w (r + 1)) = lZ (bUZ op w r * bLZ op w (r + 1)) from lZ_mul _ _, show lZ (bUZ op w (r + 1)) * lZ (bLZ op w r) = lZ (bUZ op w (r + 1) * bLZ op w r) from lZ_mul _ _] at q67'
    rw [fa_le64] at q67'
    have nb : ¬ brB op w h r p Q := fun q => q.2 (by rw [fa_lt64]; omega)
    refine h1 _ (keepX_tr k1 (keepX_tr hk2 ⟨fun _ _ _ _ => rfl, fun q h3 => (by simp [dx_pL, h3])⟩)) ?_ ?_
    · rw [(brU_f nb).1]; rfl
    · rw [(brU_f nb).2]; rfl)
    · refine dx_blk 0 (c' := (16, [.ref 3, .null, .null, .null, .null], [], dx_pL (dx_pL m 3 9 (lZ (bUZ op w r))) 3 10 (lZ (bLZ op w r)))) rfl ?_
      refine dx_blk 6 (c' := (26, [.ref 3, .null, .null, .null, .null], [.int (m.1 3 3), .int ((m.1 3 4) + 1)], dx_pL (dx_pL m 3 9 (lZ (bUZ op w r))) 3 10 (lZ (bLZ op w r)))) rfl ?_
      refine dx_br (q := ((m.1 3 4) + 1) < (m.1 3 3)) (a := 30) (b := 29) (L := [.ref 3, .null, .null, .null, .null]) (st := []) (m := dx_pL (dx_pL m 3 9 (lZ (bUZ op w r))) 3 10 (lZ (bLZ op w r))) rfl (fun h => absurd h (by rw [er, a6, show nI r + 1 = nI (r + 1) from nI_1 r]; exact nI_nlt (by omega) (by omega))) (fun _ => ?_)
      exact dx_ret (r := none) rfl (by
    have nb : ¬ brB op w h r p Q := fun q => qh q.1.2
    refine h1 _ ⟨fun _ _ _ _ => rfl, fun q h3 => (by simp [dx_pL, h3])⟩ ?_ ?_
    · rw [(brU_f nb).1]; rfl
    · rw [(brU_f nb).2]; rfl)
  · exact dx_ret (r := none) rfl (by
    have nb : ¬ brB op w h r p Q := fun q => q13 (by rw [e7, e8]; exact q.1.1)
    refine h1 _ ⟨fun _ _ _ _ => rfl, fun q h3 => (by simp [dx_pL, h3])⟩ ?_ ?_
    · rw [(brU_f nb).1]; rfl
    · rw [(brU_f nb).2]; rfl)
set_option maxRecDepth 20000 in
theorem sX1_stateOf {d : Nat} (m : dx_M) {Z : Option Value → dx_M → Prop} {op : Nat → Nat → Bool} {w h r : Nat} (hl : LF m op w h r) {x y : Nat} (hx : x < w) (hy : y < h) (h1 : Z (some (.int (stN op w r y x))) m) : dx_Sem dx_P lx_X (d + 1) 18 [.ref 3, .int (nI x), .int (nI y)] m Z := by
  obtain ⟨a1, a2, a3, a4, a5, a6, a7, a8, a9⟩ := id hl.1
  have er : m.1 3 4 = nI r := LF_row hl
  have hw : w ≤ 12 := a2
  have ew : m.1 3 2 = nI w := a5
  refine dx_sem km_X1_stateOf rfl rfl ?_
  refine dx_blk 0 (c' := (0, [.ref 3, .int (nI x), .int (nI y)], [], m)) rfl ?_
  rcases Nat.lt_or_ge r y with q | q
  · refine dx_blk 0 (c' := (0, [.ref 3, .int (nI x), .int (nI y)], [], m)) rfl ?_
    refine dx_blk 3 (c' := (5, [.ref 3, .int (nI x), .int (nI y)], [.int (m.1 3 4), .int (nI y)], m)) rfl ?_
    refine dx_br (q := (nI y) ≤ (m.1 3 4)) (a := 10) (b := 8) (L := [.ref 3, .int (nI x), .int (nI y)]) (st := []) (m := m) rfl (fun h => absurd h (by rw [er, fa_le, nI_toInt (by omega), nI_toInt (by omega)]; omega)) (fun _ => ?_)
    refine dx_blk 1 (c' := (9, [.ref 3, .int (nI x), .int (nI y)], [.int 0], m)) rfl ?_
    exact dx_ret (r := some (.int 0)) rfl (by
    have e : stN op w r y x = 0 := by unfold stN; rw [if_pos q]
    rw [e] at h1; exact h1)
  · refine dx_blk 0 (c' := (0, [.ref 3, .int (nI x), .int (nI y)], [], m)) rfl ?_
    refine dx_blk 3 (c' := (5, [.ref 3, .int (nI x), .int (nI y)], [.int (m.1 3 4), .int (nI y)], m)) rfl ?_
    refine dx_br (q := (nI y) ≤ (m.1 3 4)) (a := 10) (b := 8) (L := [.ref 3, .int (nI x), .int (nI y)]) (st := []) (m := m) rfl (fun _ => ?_) (fun h => absurd (by rw [er]; exact nI_le q (by omega)) h)
    have ewt : (m.1 5 y >>> (nI x &&& 31)) &&& 1 = bI (wetB op w r y x) := by rw [a9 y (by omega), Nat.add_sub_cancel]; exact bit_IM a2 hx
    have eop : (m.1 4 y >>> (nI x &&& 31)) &&& 1 = bI (op y x) := by rw [a8 y hy]; exact bit_IM a2 hx
    refine dx_blk 3 (c' := (15, [.ref 3, .int (nI x), .int (nI y)], [.int (nI y), .ref 5], m)) rfl ?_
    refine dx_aldN y rfl rfl rfl rfl (by omega) ?_
    refine dx_blk 0 (c' := (16, [.ref 3, .int (nI x), .int (nI y)], [.int (m.1 5 y)], m)) rfl ?_
    refine dx_blk 5 (c' := (21, [.ref 3, .int (nI x), .int (nI y)], [.int 1, .int (((m.1 5 y) >>> ((nI x) &&& 31)) &&& 1)], m)) rfl ?_
    refine dx_br (q := (((m.1 5 y) >>> ((nI x) &&& 31)) &&& 1) = 1) (a := 24) (b := 26) (L := [.ref 3, .int (nI x), .int (nI y)]) (st := []) (m := m) rfl (fun q21 => ?_) (fun q21 => ?_)
    · refine dx_blk 1 (c' := (25, [.ref 3, .int (nI x), .int (nI y)], [.int 1], m)) rfl ?_
      exact dx_ret (r := some (.int 1)) rfl (by
    have e : stN op w r y x = 1 := by unfold stN; rw [ewt] at q21; rw [if_neg (by omega), if_pos (bI_ne (by rw [q21]; decide))]
    rw [e] at h1; exact h1)
    · refine dx_blk 3 (c' := (31, [.ref 3, .int (nI x), .int (nI y)], [.int (nI y), .ref 4], m)) rfl ?_
      refine dx_aldN y rfl rfl rfl rfl (by omega) ?_
      refine dx_blk 0 (c' := (32, [.ref 3, .int (nI x), .int (nI y)], [.int (m.1 4 y)], m)) rfl ?_
      refine dx_blk 4 (c' := (36, [.ref 3, .int (nI x), .int (nI y)], [.int (((m.1 4 y) >>> ((nI x) &&& 31)) &&& 1)], m)) rfl ?_
      refine dx_br (q := (((m.1 4 y) >>> ((nI x) &&& 31)) &&& 1) = 0) (a := 39) (b := 43) (L := [.ref 3, .int (nI x), .int (nI y)]) (st := []) (m := m) rfl (fun q36 => ?_) (fun q36 => ?_)
      · refine dx_blk 2 (c' := (44, [.ref 3, .int (nI x), .int (nI y)], [.int 2], m)) rfl ?_
        exact dx_ret (r := some (.int 2)) rfl (by
    have e : stN op w r y x = 2 := by unfold stN; rw [ewt] at q21; have w0 : ¬ wetB op w r y x = true := fun z => q21 (bI_t z); rw [if_neg (by omega), if_neg w0]; rw [eop] at q36; rw [if_neg (by rw [bI_eq q36]; decide)]
    rw [e] at h1; exact h1)
      · refine dx_blk 1 (c' := (44, [.ref 3, .int (nI x), .int (nI y)], [.int 3], m)) rfl ?_
        exact dx_ret (r := some (.int 3)) rfl (by
    have e : stN op w r y x = 3 := by unfold stN; rw [ewt] at q21; have w0 : ¬ wetB op w r y x = true := fun z => q21 (bI_t z); rw [if_neg (by omega), if_neg w0]; rw [eop] at q36; rw [if_pos (bI_ne q36)]
    rw [e] at h1; exact h1)
set_option maxRecDepth 20000 in
theorem sX0_weightAcross {d : Nat} (m : dx_M) {W H : Nat} (hW : W ≤ 12) (hH : H ≤ 12) (eW : m.1 1 1 = nI W) (eH : m.1 1 2 = nI H) (t : Int32) {Z : Option Value → dx_M → Prop} (h : Z (some (.long (cutW (fun x y => trA t x y (nI W - 1) (nI H - 1)) (m.1 2) W H))) m) : dx_Sem dx_P lx_X (d + 2) 8 [.ref 1, .int t] m Z := by
  refine dx_sem km_X0_weightAcross rfl rfl ?_
  refine dx_blk 0 (c' := (0, [.ref 1, .int t, .null, .null, .null, .null, .null], [], m)) rfl ?_
  refine dx_blk 4 (c' := (5, [.ref 1, .int t, .long 0, .null, .int 0, .null, .null], [], m)) rfl ?_
  refine dx_blk 0 (c' := (5, [.ref 1, .int t, .long 0, .null, .int (nI 0), .null, .null], [], m)) rfl ?_
  refine dx_for (fun (y : Nat) (u : Int64) => ((5, [.ref 1, .int t, .long u, .null, .int (nI y), .null, .null], [], m) : dx_F)) (fun (y : Nat) (u : Int64) => nf (fun (x : Nat) (s : Int64) => stW (fun x y => trA t x y (nI W - 1) (nI H - 1)) (m.1 2) y x s) W u) (fun _ _ => True) H 0 trivial (fun y u hi hI hk => ?_) (fun _ _ _ _ => trivial) (fun hN => ?_)
  · refine dx_blk 0 (c' := (5, [.ref 1, .int t, .long u, .null, .int (nI y), .null, .null], [], m)) rfl ?_
    have hy : y < H := hi
    refine dx_blk 3 (c' := (11, [.ref 1, .int t, .long u, .null, .int (nI y), .null, .null], [.int (m.1 1 2), .int (nI y)], m)) rfl ?_
    refine dx_br (q := (m.1 1 2) ≤ (nI y)) (a := 83) (b := 14) (L := [.ref 1, .int t, .long u, .null, .int (nI y), .null, .null]) (st := []) (m := m) rfl (fun h => absurd h (by rw [show m.1 1 2 = nI H from eH]; exact nI_ge hi (by omega))) (fun _ => ?_)
    refine dx_blk 2 (c' := (17, [.ref 1, .int t, .long u, .null, .int (nI y), .int 0, .null], [], m)) rfl ?_
    refine dx_blk 0 (c' := (17, [.ref 1, .int t, .long u, .null, .int (nI y), .int (nI 0), .null], [], m)) rfl ?_
    refine dx_for (fun (x : Nat) (s : Int64) => ((17, [.ref 1, .int t, .long s, .null, .int (nI y), .int (nI x), .null], [], m) : dx_F)) (fun (x : Nat) (s : Int64) => stW (fun x y => trA t x y (nI W - 1) (nI H - 1)) (m.1 2) y x s) (fun _ _ => True) W u trivial (fun x s hi hI hk => ?_) (fun _ _ _ _ => trivial) (fun hN => ?_)
    · refine dx_blk 0 (c' := (17, [.ref 1, .int t, .long s, .null, .int (nI y), .int (nI x), .null], [], m)) rfl ?_
      refine dx_blk 3 (c' := (23, [.ref 1, .int t, .long s, .null, .int (nI y), .int (nI x), .null], [.int (m.1 1 1), .int (nI x)], m)) rfl ?_
      refine dx_br (q := (m.1 1 1) ≤ (nI x)) (a := 77) (b := 26) (L := [.ref 1, .int t, .long s, .null, .int (nI y), .int (nI x), .null]) (st := []) (m := m) rfl (fun h => absurd h (by rw [show m.1 1 1 = nI W from eW]; exact nI_ge hi (by omega))) (fun _ => ?_)
      refine dx_blk 3 (c' := (31, [.ref 1, .int t, .long s, .null, .int (nI y), .int (nI x), .null], [.int (nI y), .int (nI x), .ref 1], m)) rfl ?_
      refine dx_call (id := 2) (as := [.ref 1, .int (nI x), .int (nI y)]) (rest := []) rfl ?_
      refine sX0_weightOf (a := x) (b := y) (by omega) (by omega) _ ?_
      refine dx_blk 0 (c' := (34, [.ref 1, .int t, .long s, .null, .int (nI y), .int (nI x), .null], [.int (m.1 2 (y * 12 + x))], m)) rfl ?_
      refine dx_blk 1 (c' := (35, [.ref 1, .int t, .long s, .null, .int (nI y), .int (nI x), .null], [.int 0, .int (m.1 2 (y * 12 + x))], m)) rfl ?_
      refine dx_copy (c' := (38, [.ref 1, .int t, .long s, .null, .int (nI y), .int (nI x), .null], [.int (if (m.1 2 (y * 12 + x)) < 0 then 0 else (m.1 2 (y * 12 + x)))], m)) rfl ?_
      refine dx_blk 15 (c' := (61, [.ref 1, .int t, .long s, .null, .int (nI y), .int (nI x), .int (if (m.1 2 (y * 12 + x)) < 0 then 0 else (m.1 2 (y * 12 + x)))], [.int ((m.1 1 2) - 1), .int ((m.1 1 1) - 1), .int (nI y), .int (nI x), .int t, .int 2, .int (if (m.1 2 (y * 12 + x)) < 0 then 0 else (m.1 2 (y * 12 + x))), .long s], m)) rfl ?_
      refine dx_call (id := 80) (as := [.int t, .int (nI x), .int (nI y), .int ((m.1 1 1) - 1), .int ((m.1 1 2) - 1)]) (rest := [.int 2, .int (if (m.1 2 (y * 12 + x)) < 0 then 0 else (m.1 2 (y * 12 + x))), .long s]) rfl ?_
      refine sX3_turnedAcross t (nI x) (nI y) (m.1 1 1 - 1) (m.1 1 2 - 1) _ ?_
      rw [eW, eH]
      refine dx_blk 0 (c' := (64, [.ref 1, .int t, .long s, .null, .int (nI y), .int (nI x), .int (if (m.1 2 (y * 12 + x)) < 0 then 0 else (m.1 2 (y * 12 + x)))], [.int (trA t (nI x) (nI y) (nI W - 1) (nI H - 1)), .int 2, .int (if (m.1 2 (y * 12 + x)) < 0 then 0 else (m.1 2 (y * 12 + x))), .long s], m)) rfl ?_
      refine dx_blk 9 (c' := (17, [.ref 1, .int t, .long (s + (((if (m.1 2 (y * 12 + x)) < 0 then 0 else (m.1 2 (y * 12 + x))) * ((2 * (trA t (nI x) (nI y) (nI W - 1) (nI H - 1))) + 1)).toInt64)), .null, .int (nI y), .int ((nI x) + 1), .int (if (m.1 2 (y * 12 + x)) < 0 then 0 else (m.1 2 (y * 12 + x)))], [], m)) rfl ?_
      refine dx_fgt [.ref 1, .int t, .long (s + (((if (m.1 2 (y * 12 + x)) < 0 then 0 else (m.1 2 (y * 12 + x))) * ((2 * (trA t (nI x) (nI y) (nI W - 1) (nI H - 1))) + 1)).toInt64)), .null, .int (nI y), .int ((nI x) + 1), .null] (And.intro (Or.inr rfl) (And.intro (Or.inr rfl) (And.intro (Or.inr rfl) (And.intro (Or.inl rfl) (And.intro (Or.inr rfl) (And.intro (Or.inr rfl) (And.intro (Or.inl rfl) trivial))))))) ?_
      rw [← nI_succ]
      exact hk
    · refine dx_blk 0 (c' := (17, [.ref 1, .int t, .long (nf (fun (x : Nat) (s : Int64) => stW (fun x y => trA t x y (nI W - 1) (nI H - 1)) (m.1 2) y x s) W u), .null, .int (nI y), .int (nI W), .null], [], m)) rfl ?_
      refine dx_blk 3 (c' := (23, [.ref 1, .int t, .long (nf (fun (x : Nat) (s : Int64) => stW (fun x y => trA t x y (nI W - 1) (nI H - 1)) (m.1 2) y x s) W u), .null, .int (nI y), .int (nI W), .null], [.int (m.1 1 1), .int (nI W)], m)) rfl ?_
      refine dx_br (q := (m.1 1 1) ≤ (nI W)) (a := 77) (b := 26) (L := [.ref 1, .int t, .long (nf (fun (x : Nat) (s : Int64) => stW (fun x y => trA t x y (nI W - 1) (nI H - 1)) (m.1 2) y x s) W u), .null, .int (nI y), .int (nI W), .null]) (st := []) (m := m) rfl (fun _ => ?_) (fun h => absurd (by rw [show m.1 1 1 = nI W from eW]; exact nI_le (Nat.le_refl _) (by omega)) h)
      refine dx_blk 2 (c' := (5, [.ref 1, .int t, .long (nf (fun (x : Nat) (s : Int64) => stW (fun x y => trA t x y (nI W - 1) (nI H - 1)) (m.1 2) y x s) W u), .null, .int ((nI y) + 1), .int (nI W), .null], [], m)) rfl ?_
      refine dx_fgt [.ref 1, .int t, .long (nf (fun (x : Nat) (s : Int64) => stW (fun x y => trA t x y (nI W - 1) (nI H - 1)) (m.1 2) y x s) W u), .null, .int ((nI y) + 1), .null, .null] (And.intro (Or.inr rfl) (And.intro (Or.inr rfl) (And.intro (Or.inr rfl) (And.intro (Or.inl rfl) (And.intro (Or.inr rfl) (And.intro (Or.inl rfl) (And.intro (Or.inl rfl) trivial))))))) ?_
      rw [← nI_succ]
      exact hk
  · refine dx_blk 0 (c' := (5, [.ref 1, .int t, .long (nf (fun (y : Nat) (u : Int64) => nf (fun (x : Nat) (s : Int64) => stW (fun x y => trA t x y (nI W - 1) (nI H - 1)) (m.1 2) y x s) W u) H 0), .null, .int (nI H), .null, .null], [], m)) rfl ?_
    refine dx_blk 3 (c' := (11, [.ref 1, .int t, .long (nf (fun (y : Nat) (u : Int64) => nf (fun (x : Nat) (s : Int64) => stW (fun x y => trA t x y (nI W - 1) (nI H - 1)) (m.1 2) y x s) W u) H 0), .null, .int (nI H), .null, .null], [.int (m.1 1 2), .int (nI H)], m)) rfl ?_
    refine dx_br (q := (m.1 1 2) ≤ (nI H)) (a := 83) (b := 14) (L := [.ref 1, .int t, .long (nf (fun (y : Nat) (u : Int64) => nf (fun (x : Nat) (s : Int64) => stW (fun x y => trA t x y (nI W - 1) (nI H - 1)) (m.1 2) y x s) W u) H 0), .null, .int (nI H), .null, .null]) (st := []) (m := m) rfl (fun _ => ?_) (fun h => absurd (by rw [show m.1 1 2 = nI H from eH]; exact nI_le (Nat.le_refl _) (by omega)) h)
    refine dx_blk 1 (c' := (84, [.ref 1, .int t, .long (nf (fun (y : Nat) (u : Int64) => nf (fun (x : Nat) (s : Int64) => stW (fun x y => trA t x y (nI W - 1) (nI H - 1)) (m.1 2) y x s) W u) H 0), .null, .int (nI H), .null, .null], [.long (nf (fun (y : Nat) (u : Int64) => nf (fun (x : Nat) (s : Int64) => stW (fun x y => trA t x y (nI W - 1) (nI H - 1)) (m.1 2) y x s) W u) H 0)], m)) rfl ?_
    exact dx_ret (r := some (.long (nf (fun (y : Nat) (u : Int64) => nf (fun (x : Nat) (s : Int64) => stW (fun x y => trA t x y (nI W - 1) (nI H - 1)) (m.1 2) y x s) W u) H 0))) rfl h
set_option maxRecDepth 20000 in
theorem sX3_weightAcross {d : Nat} (m : dx_M) {W H : Nat} (hW : W ≤ 12) (hH : H ≤ 12) (eW : m.1 1 1 = nI W) (eH : m.1 1 2 = nI H) {E : Nat} (hE : E ≤ 10) (eE : m.1 0 7 = nI E) (t : Int32) {Z : Option Value → dx_M → Prop} (h : Z (some (.long (wAX m t W H E))) m) : dx_Sem dx_P lx_X (d + 3) 76 [.ref 0, .int t] m Z := by
  refine dx_sem km_X3_weightAcross rfl rfl ?_
  refine dx_blk 0 (c' := (0, [.ref 0, .int t, .null, .null, .null, .null], [], m)) rfl ?_
  refine dx_blk 3 (c' := (5, [.ref 0, .int t, .null, .null, .null, .null], [.int t, .ref 1], m)) rfl ?_
  refine dx_call (id := 8) (as := [.ref 1, .int t]) (rest := []) rfl ?_
  refine sX0_weightAcross _ hW hH eW eH t ?_
  refine dx_blk 0 (c' := (8, [.ref 0, .int t, .null, .null, .null, .null], [.long (cutW (fun x y => trA t x y (nI W - 1) (nI H - 1)) (m.1 2) W H)], m)) rfl ?_
  refine dx_blk 3 (c' := (12, [.ref 0, .int t, .long (cutW (fun x y => trA t x y (nI W - 1) (nI H - 1)) (m.1 2) W H), .null, .int 0, .null], [], m)) rfl ?_
  refine dx_blk 0 (c' := (12, [.ref 0, .int t, .long (cutW (fun x y => trA t x y (nI W - 1) (nI H - 1)) (m.1 2) W H), .null, .int (nI 0), .null], [], m)) rfl ?_
  refine dx_for (fun (i : Nat) (s : Int64) => ((12, [.ref 0, .int t, .long s, .null, .int (nI i), .null], [], m) : dx_F)) (fun (i : Nat) (s : Int64) => if thX m i = true then s + (m.1 (10 + i) 4 * (trA t (m.1 (10 + i) 2) (m.1 (10 + i) 3) (2 * nI W) (2 * nI H))).toInt64 else s) (fun _ _ => True) E (cutW (fun x y => trA t x y (nI W - 1) (nI H - 1)) (m.1 2) W H) trivial (fun i s hi hI hk => ?_) (fun _ _ _ _ => trivial) (fun hN => ?_)
  · refine dx_blk 0 (c' := (12, [.ref 0, .int t, .long s, .null, .int (nI i), .null], [], m)) rfl ?_
    refine dx_blk 3 (c' := (18, [.ref 0, .int t, .long s, .null, .int (nI i), .null], [.int (m.1 0 7), .int (nI i)], m)) rfl ?_
    refine dx_br (q := (m.1 0 7) ≤ (nI i)) (a := 86) (b := 21) (L := [.ref 0, .int t, .long s, .null, .int (nI i), .null]) (st := []) (m := m) rfl (fun h => absurd h (by rw [show m.1 0 7 = nI E from eE]; exact nI_ge hi (by omega))) (fun _ => ?_)
    refine dx_blk 3 (c' := (27, [.ref 0, .int t, .long s, .null, .int (nI i), .null], [.int (nI i), .ref 6], m)) rfl ?_
    refine dx_aadN i (q := (10 + i)) rfl rfl (Or.inl rfl) rfl (by omega) (lx_rs6 i (by omega)) ?_
    refine dx_blk 0 (c' := (28, [.ref 0, .int t, .long s, .null, .int (nI i), .null], [.ref (10 + i)], m)) rfl ?_
    refine dx_blk 2 (c' := (32, [.ref 0, .int t, .long s, .null, .int (nI i), .ref (10 + i)], [.ref (10 + i)], m)) rfl ?_
    refine dx_getS (k := (10 + i)) (v := .int (m.1 (10 + i) 0)) rfl rfl rfl rfl (lx_ld i (by omega)) rfl ?_
    refine dx_blk 0 (c' := (35, [.ref 0, .int t, .long s, .null, .int (nI i), .ref (10 + i)], [.int (m.1 (10 + i) 0)], m)) rfl ?_
    refine dx_br (q := (m.1 (10 + i) 0) = 0) (a := 80) (b := 38) (L := [.ref 0, .int t, .long s, .null, .int (nI i), .ref (10 + i)]) (st := []) (m := m) rfl (fun h35 => ?_) (fun h35 => ?_)
    · refine dx_blk 2 (c' := (12, [.ref 0, .int t, .long s, .null, .int ((nI i) + 1), .ref (10 + i)], [], m)) rfl ?_
      refine dx_fgt [.ref 0, .int t, .long s, .null, .int ((nI i) + 1), .null] (And.intro (Or.inr rfl) (And.intro (Or.inr rfl) (And.intro (Or.inr rfl) (And.intro (Or.inl rfl) (And.intro (Or.inr rfl) (And.intro (Or.inl rfl) trivial)))))) ?_
      first | (rw [if_neg (by rw [thX_f (by assumption)]; decide), nI_succ] at hk; exact hk) | (rw [if_pos (thX_t (by assumption)), nI_succ] at hk; exact hk)
    · refine dx_blk 2 (c' := (41, [.ref 0, .int t, .long s, .null, .int (nI i), .ref (10 + i)], [.ref (10 + i), .long s], m)) rfl ?_
      refine dx_getS (k := (10 + i)) (v := .int (m.1 (10 + i) 4)) rfl rfl rfl rfl (lx_ld i (by omega)) rfl ?_
      refine dx_blk 0 (c' := (44, [.ref 0, .int t, .long s, .null, .int (nI i), .ref (10 + i)], [.int (m.1 (10 + i) 4), .long s], m)) rfl ?_
      refine dx_blk 2 (c' := (47, [.ref 0, .int t, .long s, .null, .int (nI i), .ref (10 + i)], [.ref (10 + i), .int t, .int (m.1 (10 + i) 4), .long s], m)) rfl ?_
      refine dx_getS (k := (10 + i)) (v := .int (m.1 (10 + i) 2)) rfl rfl rfl rfl (lx_ld i (by omega)) rfl ?_
      refine dx_blk 0 (c' := (50, [.ref 0, .int t, .long s, .null, .int (nI i), .ref (10 + i)], [.int (m.1 (10 + i) 2), .int t, .int (m.1 (10 + i) 4), .long s], m)) rfl ?_
      refine dx_blk 1 (c' := (52, [.ref 0, .int t, .long s, .null, .int (nI i), .ref (10 + i)], [.ref (10 + i), .int (m.1 (10 + i) 2), .int t, .int (m.1 (10 + i) 4), .long s], m)) rfl ?_
      refine dx_getS (k := (10 + i)) (v := .int (m.1 (10 + i) 3)) rfl rfl rfl rfl (lx_ld i (by omega)) rfl ?_
      refine dx_blk 0 (c' := (55, [.ref 0, .int t, .long s, .null, .int (nI i), .ref (10 + i)], [.int (m.1 (10 + i) 3), .int (m.1 (10 + i) 2), .int t, .int (m.1 (10 + i) 4), .long s], m)) rfl ?_
      refine dx_blk 10 (c' := (73, [.ref 0, .int t, .long s, .null, .int (nI i), .ref (10 + i)], [.int (2 * (m.1 1 2)), .int (2 * (m.1 1 1)), .int (m.1 (10 + i) 3), .int (m.1 (10 + i) 2), .int t, .int (m.1 (10 + i) 4), .long s], m)) rfl ?_
      refine dx_call (id := 80) (as := [.int t, .int (m.1 (10 + i) 2), .int (m.1 (10 + i) 3), .int (2 * (m.1 1 1)), .int (2 * (m.1 1 2))]) (rest := [.int (m.1 (10 + i) 4), .long s]) rfl ?_
      refine sX3_turnedAcross t (m.1 (10 + i) 2) (m.1 (10 + i) 3) (2 * m.1 1 1) (2 * m.1 1 2) _ ?_
      rw [eW, eH]
      refine dx_blk 0 (c' := (76, [.ref 0, .int t, .long s, .null, .int (nI i), .ref (10 + i)], [.int (trA t (m.1 (10 + i) 2) (m.1 (10 + i) 3) (2 * nI W) (2 * nI H)), .int (m.1 (10 + i) 4), .long s], m)) rfl ?_
      refine dx_blk 6 (c' := (12, [.ref 0, .int t, .long (s + (((m.1 (10 + i) 4) * (trA t (m.1 (10 + i) 2) (m.1 (10 + i) 3) (2 * nI W) (2 * nI H))).toInt64)), .null, .int ((nI i) + 1), .ref (10 + i)], [], m)) rfl ?_
      refine dx_fgt [.ref 0, .int t, .long (s + (((m.1 (10 + i) 4) * (trA t (m.1 (10 + i) 2) (m.1 (10 + i) 3) (2 * nI W) (2 * nI H))).toInt64)), .null, .int ((nI i) + 1), .null] (And.intro (Or.inr rfl) (And.intro (Or.inr rfl) (And.intro (Or.inr rfl) (And.intro (Or.inl rfl) (And.intro (Or.inr rfl) (And.intro (Or.inl rfl) trivial)))))) ?_
      first | (rw [if_neg (by rw [thX_f (by assumption)]; decide), nI_succ] at hk; exact hk) | (rw [if_pos (thX_t (by assumption)), nI_succ] at hk; exact hk)
  · refine dx_blk 0 (c' := (12, [.ref 0, .int t, .long (nf (fun (i : Nat) (s : Int64) => if thX m i = true then s + (m.1 (10 + i) 4 * (trA t (m.1 (10 + i) 2) (m.1 (10 + i) 3) (2 * nI W) (2 * nI H))).toInt64 else s) E (cutW (fun x y => trA t x y (nI W - 1) (nI H - 1)) (m.1 2) W H)), .null, .int (nI E), .null], [], m)) rfl ?_
    refine dx_blk 3 (c' := (18, [.ref 0, .int t, .long (nf (fun (i : Nat) (s : Int64) => if thX m i = true then s + (m.1 (10 + i) 4 * (trA t (m.1 (10 + i) 2) (m.1 (10 + i) 3) (2 * nI W) (2 * nI H))).toInt64 else s) E (cutW (fun x y => trA t x y (nI W - 1) (nI H - 1)) (m.1 2) W H)), .null, .int (nI E), .null], [.int (m.1 0 7), .int (nI E)], m)) rfl ?_
    refine dx_br (q := (m.1 0 7) ≤ (nI E)) (a := 86) (b := 21) (L := [.ref 0, .int t, .long (nf (fun (i : Nat) (s : Int64) => if thX m i = true then s + (m.1 (10 + i) 4 * (trA t (m.1 (10 + i) 2) (m.1 (10 + i) 3) (2 * nI W) (2 * nI H))).toInt64 else s) E (cutW (fun x y => trA t x y (nI W - 1) (nI H - 1)) (m.1 2) W H)), .null, .int (nI E), .null]) (st := []) (m := m) rfl (fun _ => ?_) (fun h => absurd (by rw [show m.1 0 7 = nI E from eE]; exact nI_le (Nat.le_refl _) (by omega)) h)
    refine dx_blk 1 (c' := (87, [.ref 0, .int t, .long (nf (fun (i : Nat) (s : Int64) => if thX m i = true then s + (m.1 (10 + i) 4 * (trA t (m.1 (10 + i) 2) (m.1 (10 + i) 3) (2 * nI W) (2 * nI H))).toInt64 else s) E (cutW (fun x y => trA t x y (nI W - 1) (nI H - 1)) (m.1 2) W H)), .null, .int (nI E), .null], [.long (nf (fun (i : Nat) (s : Int64) => if thX m i = true then s + (m.1 (10 + i) 4 * (trA t (m.1 (10 + i) 2) (m.1 (10 + i) 3) (2 * nI W) (2 * nI H))).toInt64 else s) E (cutW (fun x y => trA t x y (nI W - 1) (nI H - 1)) (m.1 2) W H))], m)) rfl ?_
    exact dx_ret (r := some (.long (nf (fun (i : Nat) (s : Int64) => if thX m i = true then s + (m.1 (10 + i) 4 * (trA t (m.1 (10 + i) 2) (m.1 (10 + i) 3) (2 * nI W) (2 * nI H))).toInt64 else s) E (cutW (fun x y => trA t x y (nI W - 1) (nI H - 1)) (m.1 2) W H)))) rfl h
set_option maxRecDepth 20000 in
theorem sX0_weightUp {d : Nat} (m : dx_M) {W H : Nat} (hW : W ≤ 12) (hH : H ≤ 12) (eW : m.1 1 1 = nI W) (eH : m.1 1 2 = nI H) (t : Int32) {Z : Option Value → dx_M → Prop} (h : Z (some (.long (cutW (fun x y => trU t x y (nI W - 1) (nI H - 1)) (m.1 2) W H))) m) : dx_Sem dx_P lx_X (d + 2) 9 [.ref 1, .int t] m Z := by
  refine dx_sem km_X0_weightUp rfl rfl ?_
  refine dx_blk 0 (c' := (0, [.ref 1, .int t, .null, .null, .null, .null, .null], [], m)) rfl ?_
  refine dx_blk 4 (c' := (5, [.ref 1, .int t, .long 0, .null, .int 0, .null, .null], [], m)) rfl ?_
  refine dx_blk 0 (c' := (5, [.ref 1, .int t, .long 0, .null, .int (nI 0), .null, .null], [], m)) rfl ?_
  refine dx_for (fun (y : Nat) (u : Int64) => ((5, [.ref 1, .int t, .long u, .null, .int (nI y), .null, .null], [], m) : dx_F)) (fun (y : Nat) (u : Int64) => nf (fun (x : Nat) (s : Int64) => stW (fun x y => trU t x y (nI W - 1) (nI H - 1)) (m.1 2) y x s) W u) (fun _ _ => True) H 0 trivial (fun y u hi hI hk => ?_) (fun _ _ _ _ => trivial) (fun hN => ?_)
  · refine dx_blk 0 (c' := (5, [.ref 1, .int t, .long u, .null, .int (nI y), .null, .null], [], m)) rfl ?_
    have hy : y < H := hi
    refine dx_blk 3 (c' := (11, [.ref 1, .int t, .long u, .null, .int (nI y), .null, .null], [.int (m.1 1 2), .int (nI y)], m)) rfl ?_
    refine dx_br (q := (m.1 1 2) ≤ (nI y)) (a := 83) (b := 14) (L := [.ref 1, .int t, .long u, .null, .int (nI y), .null, .null]) (st := []) (m := m) rfl (fun h => absurd h (by rw [show m.1 1 2 = nI H from eH]; exact nI_ge hi (by omega))) (fun _ => ?_)
    refine dx_blk 2 (c' := (17, [.ref 1, .int t, .long u, .null, .int (nI y), .int 0, .null], [], m)) rfl ?_
    refine dx_blk 0 (c' := (17, [.ref 1, .int t, .long u, .null, .int (nI y), .int (nI 0), .null], [], m)) rfl ?_
    refine dx_for (fun (x : Nat) (s : Int64) => ((17, [.ref 1, .int t, .long s, .null, .int (nI y), .int (nI x), .null], [], m) : dx_F)) (fun (x : Nat) (s : Int64) => stW (fun x y => trU t x y (nI W - 1) (nI H - 1)) (m.1 2) y x s) (fun _ _ => True) W u trivial (fun x s hi hI hk => ?_) (fun _ _ _ _ => trivial) (fun hN => ?_)
    · refine dx_blk 0 (c' := (17, [.ref 1, .int t, .long s, .null, .int (nI y), .int (nI x), .null], [], m)) rfl ?_
      refine dx_blk 3 (c' := (23, [.ref 1, .int t, .long s, .null, .int (nI y), .int (nI x), .null], [.int (m.1 1 1), .int (nI x)], m)) rfl ?_
      refine dx_br (q := (m.1 1 1) ≤ (nI x)) (a := 77) (b := 26) (L := [.ref 1, .int t, .long s, .null, .int (nI y), .int (nI x), .null]) (st := []) (m := m) rfl (fun h => absurd h (by rw [show m.1 1 1 = nI W from eW]; exact nI_ge hi (by omega))) (fun _ => ?_)
      refine dx_blk 3 (c' := (31, [.ref 1, .int t, .long s, .null, .int (nI y), .int (nI x), .null], [.int (nI y), .int (nI x), .ref 1], m)) rfl ?_
      refine dx_call (id := 2) (as := [.ref 1, .int (nI x), .int (nI y)]) (rest := []) rfl ?_
      refine sX0_weightOf (a := x) (b := y) (by omega) (by omega) _ ?_
      refine dx_blk 0 (c' := (34, [.ref 1, .int t, .long s, .null, .int (nI y), .int (nI x), .null], [.int (m.1 2 (y * 12 + x))], m)) rfl ?_
      refine dx_blk 1 (c' := (35, [.ref 1, .int t, .long s, .null, .int (nI y), .int (nI x), .null], [.int 0, .int (m.1 2 (y * 12 + x))], m)) rfl ?_
      refine dx_copy (c' := (38, [.ref 1, .int t, .long s, .null, .int (nI y), .int (nI x), .null], [.int (if (m.1 2 (y * 12 + x)) < 0 then 0 else (m.1 2 (y * 12 + x)))], m)) rfl ?_
      refine dx_blk 15 (c' := (61, [.ref 1, .int t, .long s, .null, .int (nI y), .int (nI x), .int (if (m.1 2 (y * 12 + x)) < 0 then 0 else (m.1 2 (y * 12 + x)))], [.int ((m.1 1 2) - 1), .int ((m.1 1 1) - 1), .int (nI y), .int (nI x), .int t, .int 2, .int (if (m.1 2 (y * 12 + x)) < 0 then 0 else (m.1 2 (y * 12 + x))), .long s], m)) rfl ?_
      refine dx_call (id := 81) (as := [.int t, .int (nI x), .int (nI y), .int ((m.1 1 1) - 1), .int ((m.1 1 2) - 1)]) (rest := [.int 2, .int (if (m.1 2 (y * 12 + x)) < 0 then 0 else (m.1 2 (y * 12 + x))), .long s]) rfl ?_
      refine sX3_turnedUp t (nI x) (nI y) (m.1 1 1 - 1) (m.1 1 2 - 1) _ ?_
      rw [eW, eH]
      refine dx_blk 0 (c' := (64, [.ref 1, .int t, .long s, .null, .int (nI y), .int (nI x), .int (if (m.1 2 (y * 12 + x)) < 0 then 0 else (m.1 2 (y * 12 + x)))], [.int (trU t (nI x) (nI y) (nI W - 1) (nI H - 1)), .int 2, .int (if (m.1 2 (y * 12 + x)) < 0 then 0 else (m.1 2 (y * 12 + x))), .long s], m)) rfl ?_
      refine dx_blk 9 (c' := (17, [.ref 1, .int t, .long (s + (((if (m.1 2 (y * 12 + x)) < 0 then 0 else (m.1 2 (y * 12 + x))) * ((2 * (trU t (nI x) (nI y) (nI W - 1) (nI H - 1))) + 1)).toInt64)), .null, .int (nI y), .int ((nI x) + 1), .int (if (m.1 2 (y * 12 + x)) < 0 then 0 else (m.1 2 (y * 12 + x)))], [], m)) rfl ?_
      refine dx_fgt [.ref 1, .int t, .long (s + (((if (m.1 2 (y * 12 + x)) < 0 then 0 else (m.1 2 (y * 12 + x))) * ((2 * (trU t (nI x) (nI y) (nI W - 1) (nI H - 1))) + 1)).toInt64)), .null, .int (nI y), .int ((nI x) + 1), .null] (And.intro (Or.inr rfl) (And.intro (Or.inr rfl) (And.intro (Or.inr rfl) (And.intro (Or.inl rfl) (And.intro (Or.inr rfl) (And.intro (Or.inr rfl) (And.intro (Or.inl rfl) trivial))))))) ?_
      rw [← nI_succ]
      exact hk
    · refine dx_blk 0 (c' := (17, [.ref 1, .int t, .long (nf (fun (x : Nat) (s : Int64) => stW (fun x y => trU t x y (nI W - 1) (nI H - 1)) (m.1 2) y x s) W u), .null, .int (nI y), .int (nI W), .null], [], m)) rfl ?_
      refine dx_blk 3 (c' := (23, [.ref 1, .int t, .long (nf (fun (x : Nat) (s : Int64) => stW (fun x y => trU t x y (nI W - 1) (nI H - 1)) (m.1 2) y x s) W u), .null, .int (nI y), .int (nI W), .null], [.int (m.1 1 1), .int (nI W)], m)) rfl ?_
      refine dx_br (q := (m.1 1 1) ≤ (nI W)) (a := 77) (b := 26) (L := [.ref 1, .int t, .long (nf (fun (x : Nat) (s : Int64) => stW (fun x y => trU t x y (nI W - 1) (nI H - 1)) (m.1 2) y x s) W u), .null, .int (nI y), .int (nI W), .null]) (st := []) (m := m) rfl (fun _ => ?_) (fun h => absurd (by rw [show m.1 1 1 = nI W from eW]; exact nI_le (Nat.le_refl _) (by omega)) h)
      refine dx_blk 2 (c' := (5, [.ref 1, .int t, .long (nf (fun (x : Nat) (s : Int64) => stW (fun x y => trU t x y (nI W - 1) (nI H - 1)) (m.1 2) y x s) W u), .null, .int ((nI y) + 1), .int (nI W), .null], [], m)) rfl ?_
      refine dx_fgt [.ref 1, .int t, .long (nf (fun (x : Nat) (s : Int64) => stW (fun x y => trU t x y (nI W - 1) (nI H - 1)) (m.1 2) y x s) W u), .null, .int ((nI y) + 1), .null, .null] (And.intro (Or.inr rfl) (And.intro (Or.inr rfl) (And.intro (Or.inr rfl) (And.intro (Or.inl rfl) (And.intro (Or.inr rfl) (And.intro (Or.inl rfl) (And.intro (Or.inl rfl) trivial))))))) ?_
      rw [← nI_succ]
      exact hk
  · refine dx_blk 0 (c' := (5, [.ref 1, .int t, .long (nf (fun (y : Nat) (u : Int64) => nf (fun (x : Nat) (s : Int64) => stW (fun x y => trU t x y (nI W - 1) (nI H - 1)) (m.1 2) y x s) W u) H 0), .null, .int (nI H), .null, .null], [], m)) rfl ?_
    refine dx_blk 3 (c' := (11, [.ref 1, .int t, .long (nf (fun (y : Nat) (u : Int64) => nf (fun (x : Nat) (s : Int64) => stW (fun x y => trU t x y (nI W - 1) (nI H - 1)) (m.1 2) y x s) W u) H 0), .null, .int (nI H), .null, .null], [.int (m.1 1 2), .int (nI H)], m)) rfl ?_
    refine dx_br (q := (m.1 1 2) ≤ (nI H)) (a := 83) (b := 14) (L := [.ref 1, .int t, .long (nf (fun (y : Nat) (u : Int64) => nf (fun (x : Nat) (s : Int64) => stW (fun x y => trU t x y (nI W - 1) (nI H - 1)) (m.1 2) y x s) W u) H 0), .null, .int (nI H), .null, .null]) (st := []) (m := m) rfl (fun _ => ?_) (fun h => absurd (by rw [show m.1 1 2 = nI H from eH]; exact nI_le (Nat.le_refl _) (by omega)) h)
    refine dx_blk 1 (c' := (84, [.ref 1, .int t, .long (nf (fun (y : Nat) (u : Int64) => nf (fun (x : Nat) (s : Int64) => stW (fun x y => trU t x y (nI W - 1) (nI H - 1)) (m.1 2) y x s) W u) H 0), .null, .int (nI H), .null, .null], [.long (nf (fun (y : Nat) (u : Int64) => nf (fun (x : Nat) (s : Int64) => stW (fun x y => trU t x y (nI W - 1) (nI H - 1)) (m.1 2) y x s) W u) H 0)], m)) rfl ?_
    exact dx_ret (r := some (.long (nf (fun (y : Nat) (u : Int64) => nf (fun (x : Nat) (s : Int64) => stW (fun x y => trU t x y (nI W - 1) (nI H - 1)) (m.1 2) y x s) W u) H 0))) rfl h
set_option maxRecDepth 20000 in
theorem sX3_weightUp {d : Nat} (m : dx_M) {W H : Nat} (hW : W ≤ 12) (hH : H ≤ 12) (eW : m.1 1 1 = nI W) (eH : m.1 1 2 = nI H) {E : Nat} (hE : E ≤ 10) (eE : m.1 0 7 = nI E) (t : Int32) {Z : Option Value → dx_M → Prop} (h : Z (some (.long (wUX m t W H E))) m) : dx_Sem dx_P lx_X (d + 3) 77 [.ref 0, .int t] m Z := by
  refine dx_sem km_X3_weightUp rfl rfl ?_
  refine dx_blk 0 (c' := (0, [.ref 0, .int t, .null, .null, .null, .null], [], m)) rfl ?_
  refine dx_blk 3 (c' := (5, [.ref 0, .int t, .null, .null, .null, .null], [.int t, .ref 1], m)) rfl ?_
  refine dx_call (id := 9) (as := [.ref 1, .int t]) (rest := []) rfl ?_
  refine sX0_weightUp _ hW hH eW eH t ?_
  refine dx_blk 0 (c' := (8, [.ref 0, .int t, .null, .null, .null, .null], [.long (cutW (fun x y => trU t x y (nI W - 1) (nI H - 1)) (m.1 2) W H)], m)) rfl ?_
  refine dx_blk 3 (c' := (12, [.ref 0, .int t, .long (cutW (fun x y => trU t x y (nI W - 1) (nI H - 1)) (m.1 2) W H), .null, .int 0, .null], [], m)) rfl ?_
  refine dx_blk 0 (c' := (12, [.ref 0, .int t, .long (cutW (fun x y => trU t x y (nI W - 1) (nI H - 1)) (m.1 2) W H), .null, .int (nI 0), .null], [], m)) rfl ?_
  refine dx_for (fun (i : Nat) (s : Int64) => ((12, [.ref 0, .int t, .long s, .null, .int (nI i), .null], [], m) : dx_F)) (fun (i : Nat) (s : Int64) => if thX m i = true then s + (m.1 (10 + i) 4 * (trU t (m.1 (10 + i) 2) (m.1 (10 + i) 3) (2 * nI W) (2 * nI H) + m.1 (10 + i) 5)).toInt64 else s) (fun _ _ => True) E (cutW (fun x y => trU t x y (nI W - 1) (nI H - 1)) (m.1 2) W H) trivial (fun i s hi hI hk => ?_) (fun _ _ _ _ => trivial) (fun hN => ?_)
  · refine dx_blk 0 (c' := (12, [.ref 0, .int t, .long s, .null, .int (nI i), .null], [], m)) rfl ?_
    refine dx_blk 3 (c' := (18, [.ref 0, .int t, .long s, .null, .int (nI i), .null], [.int (m.1 0 7), .int (nI i)], m)) rfl ?_
    refine dx_br (q := (m.1 0 7) ≤ (nI i)) (a := 92) (b := 21) (L := [.ref 0, .int t, .long s, .null, .int (nI i), .null]) (st := []) (m := m) rfl (fun h => absurd h (by rw [show m.1 0 7 = nI E from eE]; exact nI_ge hi (by omega))) (fun _ => ?_)
    refine dx_blk 3 (c' := (27, [.ref 0, .int t, .long s, .null, .int (nI i), .null], [.int (nI i), .ref 6], m)) rfl ?_
    refine dx_aadN i (q := (10 + i)) rfl rfl (Or.inl rfl) rfl (by omega) (lx_rs6 i (by omega)) ?_
    refine dx_blk 0 (c' := (28, [.ref 0, .int t, .long s, .null, .int (nI i), .null], [.ref (10 + i)], m)) rfl ?_
    refine dx_blk 2 (c' := (32, [.ref 0, .int t, .long s, .null, .int (nI i), .ref (10 + i)], [.ref (10 + i)], m)) rfl ?_
    refine dx_getS (k := (10 + i)) (v := .int (m.1 (10 + i) 0)) rfl rfl rfl rfl (lx_ld i (by omega)) rfl ?_
    refine dx_blk 0 (c' := (35, [.ref 0, .int t, .long s, .null, .int (nI i), .ref (10 + i)], [.int (m.1 (10 + i) 0)], m)) rfl ?_
    refine dx_br (q := (m.1 (10 + i) 0) = 0) (a := 86) (b := 38) (L := [.ref 0, .int t, .long s, .null, .int (nI i), .ref (10 + i)]) (st := []) (m := m) rfl (fun h35 => ?_) (fun h35 => ?_)
    · refine dx_blk 2 (c' := (12, [.ref 0, .int t, .long s, .null, .int ((nI i) + 1), .ref (10 + i)], [], m)) rfl ?_
      refine dx_fgt [.ref 0, .int t, .long s, .null, .int ((nI i) + 1), .null] (And.intro (Or.inr rfl) (And.intro (Or.inr rfl) (And.intro (Or.inr rfl) (And.intro (Or.inl rfl) (And.intro (Or.inr rfl) (And.intro (Or.inl rfl) trivial)))))) ?_
      first | (rw [if_neg (by rw [thX_f (by assumption)]; decide), nI_succ] at hk; exact hk) | (rw [if_pos (thX_t (by assumption)), nI_succ] at hk; exact hk)
    · refine dx_blk 2 (c' := (41, [.ref 0, .int t, .long s, .null, .int (nI i), .ref (10 + i)], [.ref (10 + i), .long s], m)) rfl ?_
      refine dx_getS (k := (10 + i)) (v := .int (m.1 (10 + i) 4)) rfl rfl rfl rfl (lx_ld i (by omega)) rfl ?_
      refine dx_blk 0 (c' := (44, [.ref 0, .int t, .long s, .null, .int (nI i), .ref (10 + i)], [.int (m.1 (10 + i) 4), .long s], m)) rfl ?_
      refine dx_blk 2 (c' := (47, [.ref 0, .int t, .long s, .null, .int (nI i), .ref (10 + i)], [.ref (10 + i), .int t, .int (m.1 (10 + i) 4), .long s], m)) rfl ?_
      refine dx_getS (k := (10 + i)) (v := .int (m.1 (10 + i) 2)) rfl rfl rfl rfl (lx_ld i (by omega)) rfl ?_
      refine dx_blk 0 (c' := (50, [.ref 0, .int t, .long s, .null, .int (nI i), .ref (10 + i)], [.int (m.1 (10 + i) 2), .int t, .int (m.1 (10 + i) 4), .long s], m)) rfl ?_
      refine dx_blk 1 (c' := (52, [.ref 0, .int t, .long s, .null, .int (nI i), .ref (10 + i)], [.ref (10 + i), .int (m.1 (10 + i) 2), .int t, .int (m.1 (10 + i) 4), .long s], m)) rfl ?_
      refine dx_getS (k := (10 + i)) (v := .int (m.1 (10 + i) 3)) rfl rfl rfl rfl (lx_ld i (by omega)) rfl ?_
      refine dx_blk 0 (c' := (55, [.ref 0, .int t, .long s, .null, .int (nI i), .ref (10 + i)], [.int (m.1 (10 + i) 3), .int (m.1 (10 + i) 2), .int t, .int (m.1 (10 + i) 4), .long s], m)) rfl ?_
      refine dx_blk 10 (c' := (73, [.ref 0, .int t, .long s, .null, .int (nI i), .ref (10 + i)], [.int (2 * (m.1 1 2)), .int (2 * (m.1 1 1)), .int (m.1 (10 + i) 3), .int (m.1 (10 + i) 2), .int t, .int (m.1 (10 + i) 4), .long s], m)) rfl ?_
      refine dx_call (id := 81) (as := [.int t, .int (m.1 (10 + i) 2), .int (m.1 (10 + i) 3), .int (2 * (m.1 1 1)), .int (2 * (m.1 1 2))]) (rest := [.int (m.1 (10 + i) 4), .long s]) rfl ?_
      refine sX3_turnedUp t (m.1 (10 + i) 2) (m.1 (10 + i) 3) (2 * m.1 1 1) (2 * m.1 1 2) _ ?_
      rw [eW, eH]
      refine dx_blk 0 (c' := (76, [.ref 0, .int t, .long s, .null, .int (nI i), .ref (10 + i)], [.int (trU t (m.1 (10 + i) 2) (m.1 (10 + i) 3) (2 * nI W) (2 * nI H)), .int (m.1 (10 + i) 4), .long s], m)) rfl ?_
      refine dx_blk 1 (c' := (78, [.ref 0, .int t, .long s, .null, .int (nI i), .ref (10 + i)], [.ref (10 + i), .int (trU t (m.1 (10 + i) 2) (m.1 (10 + i) 3) (2 * nI W) (2 * nI H)), .int (m.1 (10 + i) 4), .long s], m)) rfl ?_
      refine dx_getS (k := (10 + i)) (v := .int (m.1 (10 + i) 5)) rfl rfl rfl rfl (lx_ld i (by omega)) rfl ?_
      refine dx_blk 0 (c' := (81, [.ref 0, .int t, .long s, .null, .int (nI i), .ref (10 + i)], [.int (m.1 (10 + i) 5), .int (trU t (m.1 (10 + i) 2) (m.1 (10 + i) 3) (2 * nI W) (2 * nI H)), .int (m.1 (10 + i) 4), .long s], m)) rfl ?_
      refine dx_blk 7 (c' := (12, [.ref 0, .int t, .long (s + (((m.1 (10 + i) 4) * ((trU t (m.1 (10 + i) 2) (m.1 (10 + i) 3) (2 * nI W) (2 * nI H)) + (m.1 (10 + i) 5))).toInt64)), .null, .int ((nI i) + 1), .ref (10 + i)], [], m)) rfl ?_
      refine dx_fgt [.ref 0, .int t, .long (s + (((m.1 (10 + i) 4) * ((trU t (m.1 (10 + i) 2) (m.1 (10 + i) 3) (2 * nI W) (2 * nI H)) + (m.1 (10 + i) 5))).toInt64)), .null, .int ((nI i) + 1), .null] (And.intro (Or.inr rfl) (And.intro (Or.inr rfl) (And.intro (Or.inr rfl) (And.intro (Or.inl rfl) (And.intro (Or.inr rfl) (And.intro (Or.inl rfl) trivial)))))) ?_
      first | (rw [if_neg (by rw [thX_f (by assumption)]; decide), nI_succ] at hk; exact hk) | (rw [if_pos (thX_t (by assumption)), nI_succ] at hk; exact hk)
  · refine dx_blk 0 (c' := (12, [.ref 0, .int t, .long (nf (fun (i : Nat) (s : Int64) => if thX m i = true then s + (m.1 (10 + i) 4 * (trU t (m.1 (10 + i) 2) (m.1 (10 + i) 3) (2 * nI W) (2 * nI H) + m.1 (10 + i) 5)).toInt64 else s) E (cutW (fun x y => trU t x y (nI W - 1) (nI H - 1)) (m.1 2) W H)), .null, .int (nI E), .null], [], m)) rfl ?_
    refine dx_blk 3 (c' := (18, [.ref 0, .int t, .long (nf (fun (i : Nat) (s : Int64) => if thX m i = true then s + (m.1 (10 + i) 4 * (trU t (m.1 (10 + i) 2) (m.1 (10 + i) 3) (2 * nI W) (2 * nI H) + m.1 (10 + i) 5)).toInt64 else s) E (cutW (fun x y => trU t x y (nI W - 1) (nI H - 1)) (m.1 2) W H)), .null, .int (nI E), .null], [.int (m.1 0 7), .int (nI E)], m)) rfl ?_
    refine dx_br (q := (m.1 0 7) ≤ (nI E)) (a := 92) (b := 21) (L := [.ref 0, .int t, .long (nf (fun (i : Nat) (s : Int64) => if thX m i = true then s + (m.1 (10 + i) 4 * (trU t (m.1 (10 + i) 2) (m.1 (10 + i) 3) (2 * nI W) (2 * nI H) + m.1 (10 + i) 5)).toInt64 else s) E (cutW (fun x y => trU t x y (nI W - 1) (nI H - 1)) (m.1 2) W H)), .null, .int (nI E), .null]) (st := []) (m := m) rfl (fun _ => ?_) (fun h => absurd (by rw [show m.1 0 7 = nI E from eE]; exact nI_le (Nat.le_refl _) (by omega)) h)
    refine dx_blk 1 (c' := (93, [.ref 0, .int t, .long (nf (fun (i : Nat) (s : Int64) => if thX m i = true then s + (m.1 (10 + i) 4 * (trU t (m.1 (10 + i) 2) (m.1 (10 + i) 3) (2 * nI W) (2 * nI H) + m.1 (10 + i) 5)).toInt64 else s) E (cutW (fun x y => trU t x y (nI W - 1) (nI H - 1)) (m.1 2) W H)), .null, .int (nI E), .null], [.long (nf (fun (i : Nat) (s : Int64) => if thX m i = true then s + (m.1 (10 + i) 4 * (trU t (m.1 (10 + i) 2) (m.1 (10 + i) 3) (2 * nI W) (2 * nI H) + m.1 (10 + i) 5)).toInt64 else s) E (cutW (fun x y => trU t x y (nI W - 1) (nI H - 1)) (m.1 2) W H))], m)) rfl ?_
    exact dx_ret (r := some (.long (nf (fun (i : Nat) (s : Int64) => if thX m i = true then s + (m.1 (10 + i) 4 * (trU t (m.1 (10 + i) 2) (m.1 (10 + i) 3) (2 * nI W) (2 * nI H) + m.1 (10 + i) 5)).toInt64 else s) E (cutW (fun x y => trU t x y (nI W - 1) (nI H - 1)) (m.1 2) W H)))) rfl h
