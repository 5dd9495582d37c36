/-! the reference: carries, trim, place, room, rests (printed by wip/whole/g47.py) -/
set_option maxRecDepth 20000 in
theorem sX4_carries {d : Nat} (m : dx_M) {f : Nat → Int32} {W H E D Wt sq : Nat} {wa wu : Nat → Int} (hg : GM m f W H E D Wt sq wa wu) (t : Int32) {Z : Option Value → dx_M → Prop} (h0 : inI t 0 3 = false → Z (some (.int (-1))) m) (h1 : inI t 0 3 = true → sq = 0 → Z (some (.int (-4))) m) (h2 : ∀ tn m', tn < 4 → t = nI tn → sq ≠ 0 → kG m m' → Z (some (.int (if nI (mxN (opS f tn W H) (wdN tn W H) (htN tn W H) * D) - nI Wt < 0 then -5 else nI (mxN (opS f tn W H) (wdN tn W H) (htN tn W H) * D) - nI Wt))) m') : dx_Sem dx_P lx_M (d + 5) 138 [.ref 0, .int t] m Z := by
  obtain ⟨g1, g2, g3, g4, g5, g6, g7, g8, g9, g10, g11, g12, g13, g14, g15, g16, g17, g18, g19⟩ := id hg
  have hE := g5
  have eE := g10
  have hW := g2
  have hH := g4
  have eW := g8
  have eH := g9
  refine dx_sem km_X4_carries rfl rfl ?_
  refine dx_blk 0 (c' := (0, [.ref 0, .int t, .null], [], m)) rfl ?_
  refine dx_blk 3 (c' := (3, [.ref 0, .int t, .null], [.int 3, .int 0, .int t], m)) rfl ?_
  refine dx_call (id := 82) (as := [.int t, .int 0, .int 3]) (rest := []) rfl ?_
  refine sX4_in t 0 3 _ ?_
  refine dx_blk 0 (c' := (6, [.ref 0, .int t, .null], [.int (bI (inI t 0 3))], m)) rfl ?_
  refine dx_brB (B := (inI t 0 3)) (a := 9) (b := 11) (L := [.ref 0, .int t, .null]) (st := []) (m := m) rfl (fun h6 => ?_) (fun h6 => ?_)
  · refine dx_blk 1 (c' := (10, [.ref 0, .int t, .null], [.int (-1)], m)) rfl ?_
    exact dx_ret (r := some (.int (-1))) rfl (h0 h6)
  · obtain ⟨tn, htn, rfl⟩ := in_N (n := 3) (x := t) (M := 3) rfl h6
    refine dx_blk 1 (c' := (12, [.ref 0, .int (nI tn), .null], [.ref 0], m)) rfl ?_
    refine dx_call (id := 111) (as := [.ref 0]) (rest := []) rfl ?_
    refine sX4_squareMany _ ?_
    rw [g12, g14]
    refine dx_blk 0 (c' := (15, [.ref 0, .int (nI tn), .null], [.int (nI sq)], m)) rfl ?_
    refine dx_br (q := (nI sq) = 0) (a := 18) (b := 21) (L := [.ref 0, .int (nI tn), .null]) (st := []) (m := m) rfl (fun h15 => ?_) (fun h15 => ?_)
    · have q2 : sq = 0 := nI_z h15 (by omega)
      refine dx_blk 1 (c' := (20, [.ref 0, .int (nI tn), .null], [.int (-4)], m)) rfl ?_
      exact dx_ret (r := some (.int (-4))) rfl (h1 h6 q2)
    · have q2 : sq ≠ 0 := fun z => h15 (by rw [z]; rfl)
      refine dx_blk 2 (c' := (23, [.ref 0, .int (nI tn), .null], [.int (nI tn), .ref 0], m)) rfl ?_
      refine dx_call (id := 115) (as := [.ref 0, .int (nI tn)]) (rest := []) rfl ?_
      refine sX4_layT _ g1 g2 g3 g4 g8 g9 g5 g10 g18 g12 (t := tn) (by omega) (fun m1 hl1 ea eu e13 hk1 => ?_)
      have hb1 : B13 m1 := fun k hk => by rw [e13]; exact g19 k hk
      have hga := GM_keep ⟨hk1, hb1⟩ hg
      have eE1 : m1.1 0 11 = nI E := hga.2.2.2.2.2.2.2.2.2.1
      rw [(g17 tn (by omega)).1] at ea
      rw [(g17 tn (by omega)).2.1] at eu
      refine dx_blk 0 (c' := (26, [.ref 0, .int (nI tn), .null], [], m1)) rfl ?_
      refine dx_blk 1 (c' := (27, [.ref 0, .int (nI tn), .null], [.ref 0], m1)) rfl ?_
      refine dx_call (id := 137) (as := [.ref 0]) (rest := []) rfl ?_
      refine sX4_mostRoom _ hl1 hb1 (fun m2 hk2 hb2 => ?_)
      have hg2 := GM_keep ⟨hk2.1, hb2⟩ hga
      refine dx_blk 0 (c' := (30, [.ref 0, .int (nI tn), .null], [.int (nI (mxN (opS f tn W H) (wdN tn W H) (htN tn W H)))], m2)) rfl ?_
      refine dx_blk 3 (c' := (35, [.ref 0, .int (nI tn), .null], [.int ((nI (mxN (opS f tn W H) (wdN tn W H) (htN tn W H))) * (m2.1 0 6))], m2)) rfl ?_
      rw [show m2.1 0 6 = nI D from hg2.2.2.2.2.2.2.2.2.2.2.1, pk_mul]
      refine dx_blk 1 (c' := (36, [.ref 0, .int (nI tn), .null], [.ref 0, .int (nI (mxN (opS f tn W H) (wdN tn W H) (htN tn W H) * D))], m2)) rfl ?_
      refine dx_call (id := 113) (as := [.ref 0]) (rest := [.int (nI (mxN (opS f tn W H) (wdN tn W H) (htN tn W H) * D))]) rfl ?_
      refine sX4_all _ hE hg2.2.2.2.2.2.2.2.2.2.1 ?_
      rw [show allM _ E = nI Wt from hg2.2.2.2.2.2.2.2.2.2.2.2.2.1]
      refine dx_blk 0 (c' := (39, [.ref 0, .int (nI tn), .null], [.int (nI Wt), .int (nI (mxN (opS f tn W H) (wdN tn W H) (htN tn W H) * D))], m2)) rfl ?_
      refine dx_blk 3 (c' := (42, [.ref 0, .int (nI tn), .int ((nI (mxN (opS f tn W H) (wdN tn W H) (htN tn W H) * D)) - (nI Wt))], [.int ((nI (mxN (opS f tn W H) (wdN tn W H) (htN tn W H) * D)) - (nI Wt))], m2)) rfl ?_
      refine dx_br (q := 0 ≤ ((nI (mxN (opS f tn W H) (wdN tn W H) (htN tn W H) * D)) - (nI Wt))) (a := 50) (b := 45) (L := [.ref 0, .int (nI tn), .int ((nI (mxN (opS f tn W H) (wdN tn W H) (htN tn W H) * D)) - (nI Wt))]) (st := []) (m := m2) rfl (fun q42 => ?_) (fun q42 => ?_)
      · refine dx_blk 1 (c' := (51, [.ref 0, .int (nI tn), .int ((nI (mxN (opS f tn W H) (wdN tn W H) (htN tn W H) * D)) - (nI Wt))], [.int ((nI (mxN (opS f tn W H) (wdN tn W H) (htN tn W H) * D)) - (nI Wt))], m2)) rfl ?_
        exact dx_ret (r := some (.int ((nI (mxN (opS f tn W H) (wdN tn W H) (htN tn W H) * D)) - (nI Wt)))) rfl (by
    have hz := h2 tn m2 (by omega) rfl q2 ⟨keepM_tr hk1 hk2.1, hb2⟩
    rw [if_neg (by rw [fa_lt]; rw [fa_le] at q42; have e : (0 : Int32).toInt = 0 := rfl; omega)] at hz; exact hz)
      · refine dx_blk 2 (c' := (51, [.ref 0, .int (nI tn), .int ((nI (mxN (opS f tn W H) (wdN tn W H) (htN tn W H) * D)) - (nI Wt))], [.int (-5)], m2)) rfl ?_
        exact dx_ret (r := some (.int (-5))) rfl (by
    have hz := h2 tn m2 (by omega) rfl q2 ⟨keepM_tr hk1 hk2.1, hb2⟩
    rw [if_pos (by rw [fa_lt]; rw [fa_le] at q42; have e : (0 : Int32).toInt = 0 := rfl; omega)] at hz; exact hz)
set_option maxRecDepth 20000 in
theorem sX4_trim {d : Nat} (m : dx_M) {f : Nat → Int32} {W H E D Wt sq : Nat} {wa wu : Nat → Int} (hg : GM m f W H E D Wt sq wa wu) (t k : Int32) {Z : Option Value → dx_M → Prop} (h0 : (inI t 0 3 && inI k 1 2000) = false → Z (some (.int (-1))) m) (h1 : (inI t 0 3 && inI k 1 2000) = true → sq = 0 → Z (some (.int (-4))) m) (h2 : ∀ tn kn m', tn < 4 → t = nI tn → k = nI kn → 1 ≤ kn → kn ≤ 2000 → sq ≠ 0 → (∀ r, r < (htN tn W H) → ¬ (Wt + kn) ≤ rmN (opS f tn W H) (wdN tn W H) r * D) → kG m m' → Z (some (.int (-5))) m') (h3 : ∀ tn kn r m', tn < 4 → t = nI tn → k = nI kn → 1 ≤ kn → kn ≤ 2000 → sq ≠ 0 → rfP (opS f tn W H) (wdN tn W H) (htN tn W H) D (Wt + kn) r → kG m m' → Z (some (.int 1)) (dx_pL (dx_pL m' 0 2 (tU (pwX (opS f tn W H) (wdN tn W H) r (pN (opS f tn W H) (wdN tn W H) r D (Wt + kn)) (qN (opS f tn W H) (wdN tn W H) r D) * D - wa tn * (qN (opS f tn W H) (wdN tn W H) r D)) (2 * (qN (opS f tn W H) (wdN tn W H) r D) * kn))) 0 3 (tL (pwX (opS f tn W H) (wdN tn W H) r (pN (opS f tn W H) (wdN tn W H) r D (Wt + kn)) (qN (opS f tn W H) (wdN tn W H) r D) * D - wa tn * (qN (opS f tn W H) (wdN tn W H) r D)) (2 * (qN (opS f tn W H) (wdN tn W H) r D) * kn)))) : dx_Sem dx_P lx_M (d + 5) 139 [.ref 0, .int t, .int k] m Z := by
  obtain ⟨g1, g2, g3, g4, g5, g6, g7, g8, g9, g10, g11, g12, g13, g14, g15, g16, g17, g18, g19⟩ := id hg
  have hE := g5
  have eE := g10
  have hW := g2
  have hH := g4
  have eW := g8
  have eH := g9
  refine dx_sem km_X4_trim rfl rfl ?_
  refine dx_blk 0 (c' := (0, [.ref 0, .int t, .int k], [], m)) rfl ?_
  refine dx_blk 3 (c' := (3, [.ref 0, .int t, .int k], [.int 3, .int 0, .int t], m)) rfl ?_
  refine dx_call (id := 82) (as := [.int t, .int 0, .int 3]) (rest := []) rfl ?_
  refine sX4_in t 0 3 _ ?_
  refine dx_blk 0 (c' := (6, [.ref 0, .int t, .int k], [.int (bI (inI t 0 3))], m)) rfl ?_
  refine dx_brB (B := (inI t 0 3)) (a := 20) (b := 9) (L := [.ref 0, .int t, .int k]) (st := []) (m := m) rfl (fun h6 => ?_) (fun h6 => ?_)
  · refine dx_blk 1 (c' := (21, [.ref 0, .int t, .int k], [.int (-1)], m)) rfl ?_
    exact dx_ret (r := some (.int (-1))) rfl (h0 (by simp [*]))
  · refine dx_blk 3 (c' := (14, [.ref 0, .int t, .int k], [.int 2000, .int 1, .int k], m)) rfl ?_
    refine dx_call (id := 82) (as := [.int k, .int 1, .int 2000]) (rest := []) rfl ?_
    refine sX4_in k 1 2000 _ ?_
    refine dx_blk 0 (c' := (17, [.ref 0, .int t, .int k], [.int (bI (inI k 1 2000))], m)) rfl ?_
    refine dx_brB (B := (inI k 1 2000)) (a := 20) (b := 22) (L := [.ref 0, .int t, .int k]) (st := []) (m := m) rfl (fun h17 => ?_) (fun h17 => ?_)
    · refine dx_blk 1 (c' := (21, [.ref 0, .int t, .int k], [.int (-1)], m)) rfl ?_
      exact dx_ret (r := some (.int (-1))) rfl (h0 (by simp [*]))
    · obtain ⟨tn, htn, rfl⟩ := in_N (n := 3) (x := t) (M := 3) rfl h6
      obtain ⟨kn, hkn1, hkn2, rfl⟩ := in_1 (n := 2000) (x := k) (M := 2000) rfl h17
      refine dx_blk 1 (c' := (23, [.ref 0, .int (nI tn), .int (nI kn)], [.ref 0], m)) rfl ?_
      refine dx_call (id := 111) (as := [.ref 0]) (rest := []) rfl ?_
      refine sX4_squareMany _ ?_
      rw [g12, g14]
      refine dx_blk 0 (c' := (26, [.ref 0, .int (nI tn), .int (nI kn)], [.int (nI sq)], m)) rfl ?_
      refine dx_br (q := (nI sq) = 0) (a := 29) (b := 32) (L := [.ref 0, .int (nI tn), .int (nI kn)]) (st := []) (m := m) rfl (fun h26 => ?_) (fun h26 => ?_)
      · have q2 : sq = 0 := nI_z h26 (by omega)
        refine dx_blk 1 (c' := (31, [.ref 0, .int (nI tn), .int (nI kn)], [.int (-4)], m)) rfl ?_
        exact dx_ret (r := some (.int (-4))) rfl (h1 (by simp [*]) q2)
      · have q2 : sq ≠ 0 := fun z => h26 (by rw [z]; rfl)
        refine dx_blk 2 (c' := (34, [.ref 0, .int (nI tn), .int (nI kn)], [.int (nI tn), .ref 0], m)) rfl ?_
        refine dx_call (id := 115) (as := [.ref 0, .int (nI tn)]) (rest := []) rfl ?_
        refine sX4_layT _ g1 g2 g3 g4 g8 g9 g5 g10 g18 g12 (t := tn) (by omega) (fun m1 hl1 ea eu e13 hk1 => ?_)
        have hb1 : B13 m1 := fun k hk => by rw [e13]; exact g19 k hk
        have hga := GM_keep ⟨hk1, hb1⟩ hg
        have eE1 : m1.1 0 11 = nI E := hga.2.2.2.2.2.2.2.2.2.1
        rw [(g17 tn (by omega)).1] at ea
        rw [(g17 tn (by omega)).2.1] at eu
        refine dx_blk 0 (c' := (37, [.ref 0, .int (nI tn), .int (nI kn)], [], m1)) rfl ?_
        refine dx_blk 2 (c' := (39, [.ref 0, .int (nI tn), .int (nI kn)], [.ref 0, .ref 0], m1)) rfl ?_
        refine dx_call (id := 113) (as := [.ref 0]) (rest := [.ref 0]) rfl ?_
        refine sX4_all _ hE (by first | exact eE | assumption) ?_
        rw [show allM _ E = nI Wt from hga.2.2.2.2.2.2.2.2.2.2.2.2.1]
        refine dx_blk 0 (c' := (42, [.ref 0, .int (nI tn), .int (nI kn)], [.int (nI Wt), .ref 0], m1)) rfl ?_
        refine dx_blk 2 (c' := (44, [.ref 0, .int (nI tn), .int (nI kn)], [.int ((nI Wt) + (nI kn)), .ref 0], m1)) rfl ?_
        refine dx_call (id := 120) (as := [.ref 0, .int ((nI Wt) + (nI kn))]) (rest := []) rfl ?_
        rw [nI_add]
        refine sX4_finds (Wt := (Wt + kn)) m1 (by omega) (by omega) g7 hga.2.2.2.2.2.2.2.2.2.2.1 hl1 hb1 (fun m2 hno hk2 hb2 => ?_) (fun r m2 hrf hk2 hA => ?_)
        · refine dx_blk 0 (c' := (47, [.ref 0, .int (nI tn), .int (nI kn)], [.int 0], m2)) rfl ?_
          refine dx_br (q := (0 : Int32) = 0) (a := 50) (b := 53) (L := [.ref 0, .int (nI tn), .int (nI kn)]) (st := []) (m := m2) rfl (fun _ => ?_) (fun h => absurd (by decide) h)
          refine dx_blk 1 (c' := (52, [.ref 0, .int (nI tn), .int (nI kn)], [.int (-5)], m2)) rfl ?_
          exact dx_ret (r := some (.int (-5))) rfl (h2 tn kn m2 (by omega) rfl rfl hkn1 hkn2 q2 hno ⟨keepM_tr hk1 hk2.1, hb2⟩)
        · have hg2 := GM_keep ⟨hk2.1, WM_B hA.2.1⟩ hga
          obtain ⟨y1, y2, y3⟩ := pq_ok (hw_le g2 g4) g7 (by omega) hrf
          have hh12 : htN tn W H ≤ 12 := ht_le g2 g4
          obtain ⟨w1, w2, w3, w4⟩ := hg2.2.2.2.2.2.2.2.2.2.2.2.2.2.2.2.2.1 tn (by omega)
          have hr := hrf.1
          have ea2 : m2.2 0 21 = lZ (wa tn) := hk2.2.2.2.2.1.trans ea
          refine dx_blk 0 (c' := (47, [.ref 0, .int (nI tn), .int (nI kn)], [.int 1], m2)) rfl ?_
          refine dx_br (q := (1 : Int32) = 0) (a := 50) (b := 53) (L := [.ref 0, .int (nI tn), .int (nI kn)]) (st := []) (m := m2) rfl (fun h => absurd h (by decide)) (fun _ => ?_)
          refine dx_blk 1 (c' := (54, [.ref 0, .int (nI tn), .int (nI kn)], [.ref 0], m2)) rfl ?_
          refine dx_call (id := 126) (as := [.ref 0]) (rest := []) rfl ?_
          refine sX4_layPowers _ hr hA (fun m3 hk3 e32 e33 e34 e35 => ?_)
          have eD3 : (m3.1 0 6).toInt64 = lZ D := by rw [hk3.1, hg2.2.2.2.2.2.2.2.2.2.2.1, lZ_n (by omega)]
          have ea3 : m3.2 0 21 = lZ (wa tn) := (hk3.2.2 21 (by decide)).trans ea2
          have tlt : tlP (2 * (pwX (opS f tn W H) (wdN tn W H) r (pN (opS f tn W H) (wdN tn W H) r D (Wt + kn)) (qN (opS f tn W H) (wdN tn W H) r D) * D - wa tn * (qN (opS f tn W H) (wdN tn W H) r D))) (2 * (2 * (qN (opS f tn W H) (wdN tn W H) r D) * kn)) := by
            have b1 := bd_sub (bd_mul (pwX_bd (op := (opS f tn W H)) (w := (wdN tn W H)) (r := r) (p := (pN (opS f tn W H) (wdN tn W H) r D (Wt + kn))) (Q := (qN (opS f tn W H) (wdN tn W H) r D)) (hw_le g2 g4) (by omega) y1 y2 y3) (bd_n g7)) (bd_mul w3 (show (qN (opS f tn W H) (wdN tn W H) r D).natAbs ≤ 240 by omega))
            have b2 := bd_mul (bd_mul (show (2 : Int).natAbs ≤ 2 by decide) (show (qN (opS f tn W H) (wdN tn W H) r D).natAbs ≤ 240 by omega)) (bd_n hkn2)
            have b3 : 0 < (2 * (qN (opS f tn W H) (wdN tn W H) r D) * kn) := Int.mul_pos (by omega) (by omega)
            exact tl_of (bd_mul (show (2 : Int).natAbs ≤ 2 by decide) b1) (bd_mul (show (2 : Int).natAbs ≤ 2 by decide) b2) (by omega) (by decide) (by decide)
          refine dx_blk 0 (c' := (57, [.ref 0, .int (nI tn), .int (nI kn)], [], m3)) rfl ?_
          refine dx_blk 22 (c' := (93, [.ref 0, .int (nI tn), .int (nI kn)], [.long ((2 * (m3.2 0 33)) * ((nI kn).toInt64)), .long (((2 * (m3.2 0 32)) * ((m3.1 0 6).toInt64)) - ((m3.2 0 21) * (m3.2 0 33))), .ref 0], m3)) rfl ?_
          refine dx_call (id := 87) (as := [.ref 0, .long (((2 * (m3.2 0 32)) * ((m3.1 0 6).toInt64)) - ((m3.2 0 21) * (m3.2 0 33))), .long ((2 * (m3.2 0 33)) * ((nI kn).toInt64))]) (rest := []) rfl ?_
          refine sX4_tellE _ (u := (2 * (pwX (opS f tn W H) (wdN tn W H) r (pN (opS f tn W H) (wdN tn W H) r D (Wt + kn)) (qN (opS f tn W H) (wdN tn W H) r D) * D - wa tn * (qN (opS f tn W H) (wdN tn W H) r D)))) (l := (2 * (2 * (qN (opS f tn W H) (wdN tn W H) r D) * kn))) (by rw [e32, e33, ea3, eD3, show (2 : Int64) = lZ 2 from rfl, lZ_mul, lZ_mul, lZ_mul, lZ_sub]; congr 1; grind) (by rw [e33, lZ_n (by omega), show (2 : Int64) = lZ 2 from rfl, lZ_mul, lZ_mul]; congr 1; grind) (by exact tlt) ?_
          rw [(t2 (pwX (opS f tn W H) (wdN tn W H) r (pN (opS f tn W H) (wdN tn W H) r D (Wt + kn)) (qN (opS f tn W H) (wdN tn W H) r D) * D - wa tn * (qN (opS f tn W H) (wdN tn W H) r D)) (2 * (qN (opS f tn W H) (wdN tn W H) r D) * kn)).1, (t2 (pwX (opS f tn W H) (wdN tn W H) r (pN (opS f tn W H) (wdN tn W H) r D (Wt + kn)) (qN (opS f tn W H) (wdN tn W H) r D) * D - wa tn * (qN (opS f tn W H) (wdN tn W H) r D)) (2 * (qN (opS f tn W H) (wdN tn W H) r D) * kn)).2]
          refine dx_blk 0 (c' := (96, [.ref 0, .int (nI tn), .int (nI kn)], [.int 1], dx_pL (dx_pL m3 0 2 (tU (pwX (opS f tn W H) (wdN tn W H) r (pN (opS f tn W H) (wdN tn W H) r D (Wt + kn)) (qN (opS f tn W H) (wdN tn W H) r D) * D - wa tn * (qN (opS f tn W H) (wdN tn W H) r D)) (2 * (qN (opS f tn W H) (wdN tn W H) r D) * kn))) 0 3 (tL (pwX (opS f tn W H) (wdN tn W H) r (pN (opS f tn W H) (wdN tn W H) r D (Wt + kn)) (qN (opS f tn W H) (wdN tn W H) r D) * D - wa tn * (qN (opS f tn W H) (wdN tn W H) r D)) (2 * (qN (opS f tn W H) (wdN tn W H) r D) * kn)))) rfl ?_
          exact dx_ret (r := some (.int 1)) rfl (h3 tn kn r m3 (by omega) rfl rfl hkn1 hkn2 q2 hrf ⟨keepM_tr hk1 (keepM_tr hk2.1 (keepP_L hk3).1), keepP_B hk3 (WM_B hA.2.1)⟩)
set_option maxRecDepth 20000 in
theorem sX4_place {d : Nat} (m : dx_M) {f : Nat → Int32} {W H E D Wt sq : Nat} {wa wu : Nat → Int} (hg : GM m f W H E D Wt sq wa wu) (t x y : Int32) {Z : Option Value → dx_M → Prop} (h0 : ∀ m', plB t x y W H = false → kG m m' → Z (some (.int (-1))) m') (hN : ∀ m', plB t x y W H = true → ouN f W H D Wt sq t < 3 → kG m m' → Z (some (.int (ansO (ouN f W H D Wt sq t)))) m') (hY : ∀ tn xn yn r m', tn < 4 → t = nI tn → x = nI xn → y = nI yn → xn < (wdN tn W H) → yn < (htN tn W H) → plB t x y W H = true → ouN f W H D Wt sq t = r + 3 → kG m m' → Z (some (.int (stN (opS f tn W H) (wdN tn W H) r yn xn))) m') : dx_Sem dx_P lx_M (d + 6) 128 [.ref 0, .int t, .int x, .int y] m Z := by
  obtain ⟨g1, g2, g3, g4, g5, g6, g7, g8, g9, g10, g11, g12, g13, g14, g15, g16, g17, g18, g19⟩ := id hg
  have hE := g5
  have eE := g10
  have hW := g2
  have hH := g4
  have eW := g8
  have eH := g9
  refine dx_sem km_X4_place rfl rfl ?_
  refine dx_blk 0 (c' := (0, [.ref 0, .int t, .int x, .int y, .null, .null], [], m)) rfl ?_
  refine dx_blk 3 (c' := (3, [.ref 0, .int t, .int x, .int y, .null, .null], [.int 3, .int 0, .int t], m)) rfl ?_
  refine dx_call (id := 82) (as := [.int t, .int 0, .int 3]) (rest := []) rfl ?_
  refine sX4_in t 0 3 _ ?_
  refine dx_blk 0 (c' := (6, [.ref 0, .int t, .int x, .int y, .null, .null], [.int (bI (inI t 0 3))], m)) rfl ?_
  refine dx_brB (B := (inI t 0 3)) (a := 67) (b := 9) (L := [.ref 0, .int t, .int x, .int y, .null, .null]) (st := []) (m := m) rfl (fun h6 => ?_) (fun h6 => ?_)
  · have hpl : plB t x y W H = false := by
      unfold plB
      rw [← g8, ← g9]
      first
      | (rw [h6]; rfl)
      | (simp [q14, h33]; done)
      | (simp [q14, h60]; done)
    refine dx_blk 5 (c' := (74, [.ref 0, .int t, .int x, .int y, .int 0, .null], [.int t, .int 0, .ref 0], m)) rfl ?_
    refine dx_call (id := 121) (as := [.ref 0, .int 0, .int t]) (rest := []) rfl ?_
    refine sX4_afloat _ false hg _ (fun m1 hk1 hS => ?_)
    refine dx_blk 0 (c' := (77, [.ref 0, .int t, .int x, .int y, .int 0, .null], [.int (-1)], m1)) rfl ?_
    refine dx_blk 2 (c' := (81, [.ref 0, .int t, .int x, .int y, .int 0, .int (-1)], [.int (-1)], m1)) rfl ?_
    refine dx_br (q := 0 ≤ ((-1) : Int32)) (a := 87) (b := 84) (L := [.ref 0, .int t, .int x, .int y, .int 0, .int (-1)]) (st := []) (m := m1) rfl (fun h => absurd h (by decide)) (fun _ => ?_)
    refine dx_blk 1 (c' := (86, [.ref 0, .int t, .int x, .int y, .int 0, .int (-1)], [.int (-1)], m1)) rfl ?_
    exact dx_ret (r := some (.int (-1))) rfl (h0 m1 hpl hk1)
  · refine dx_blk 5 (c' := (14, [.ref 0, .int t, .int x, .int y, .null, .null], [.int (t - t / 2 * 2), .int 0, .int x], m)) rfl ?_
    refine dx_br (q := (t - t / 2 * 2) = 0) (a := 17) (b := 24) (L := [.ref 0, .int t, .int x, .int y, .null, .null]) (st := [.int 0, .int x]) (m := m) rfl (fun q14 => ?_) (fun q14 => ?_)
    · refine dx_blk 5 (c' := (30, [.ref 0, .int t, .int x, .int y, .null, .null], [.int ((m.1 0 4) - 1), .int 0, .int x], m)) rfl ?_
      refine dx_call (id := 82) (as := [.int x, .int 0, .int ((m.1 0 4) - 1)]) (rest := []) rfl ?_
      refine sX4_in x 0 ((m.1 0 4) - 1) _ ?_
      refine dx_blk 0 (c' := (33, [.ref 0, .int t, .int x, .int y, .null, .null], [.int (bI (inI x 0 ((m.1 0 4) - 1)))], m)) rfl ?_
      refine dx_brB (B := (inI x 0 ((m.1 0 4) - 1))) (a := 67) (b := 36) (L := [.ref 0, .int t, .int x, .int y, .null, .null]) (st := []) (m := m) rfl (fun h33 => ?_) (fun h33 => ?_)
      · have hpl : plB t x y W H = false := by
          unfold plB
          rw [← g8, ← g9]
          first
          | (rw [h6]; rfl)
          | (simp [q14, h33]; done)
          | (simp [q14, h60]; done)
        refine dx_blk 5 (c' := (74, [.ref 0, .int t, .int x, .int y, .int 0, .null], [.int t, .int 0, .ref 0], m)) rfl ?_
        refine dx_call (id := 121) (as := [.ref 0, .int 0, .int t]) (rest := []) rfl ?_
        refine sX4_afloat _ false hg _ (fun m1 hk1 hS => ?_)
        refine dx_blk 0 (c' := (77, [.ref 0, .int t, .int x, .int y, .int 0, .null], [.int (-1)], m1)) rfl ?_
        refine dx_blk 2 (c' := (81, [.ref 0, .int t, .int x, .int y, .int 0, .int (-1)], [.int (-1)], m1)) rfl ?_
        refine dx_br (q := 0 ≤ ((-1) : Int32)) (a := 87) (b := 84) (L := [.ref 0, .int t, .int x, .int y, .int 0, .int (-1)]) (st := []) (m := m1) rfl (fun h => absurd h (by decide)) (fun _ => ?_)
        refine dx_blk 1 (c' := (86, [.ref 0, .int t, .int x, .int y, .int 0, .int (-1)], [.int (-1)], m1)) rfl ?_
        exact dx_ret (r := some (.int (-1))) rfl (h0 m1 hpl hk1)
      · refine dx_blk 5 (c' := (41, [.ref 0, .int t, .int x, .int y, .null, .null], [.int (t - t / 2 * 2), .int 0, .int y], m)) rfl ?_
        refine dx_br (q := (t - t / 2 * 2) = 0) (a := 44) (b := 51) (L := [.ref 0, .int t, .int x, .int y, .null, .null]) (st := [.int 0, .int y]) (m := m) rfl (fun _ => ?_) (fun h => absurd q14 h)
        refine dx_blk 5 (c' := (57, [.ref 0, .int t, .int x, .int y, .null, .null], [.int ((m.1 0 5) - 1), .int 0, .int y], m)) rfl ?_
        refine dx_call (id := 82) (as := [.int y, .int 0, .int ((m.1 0 5) - 1)]) (rest := []) rfl ?_
        refine sX4_in y 0 ((m.1 0 5) - 1) _ ?_
        refine dx_blk 0 (c' := (60, [.ref 0, .int t, .int x, .int y, .null, .null], [.int (bI (inI y 0 ((m.1 0 5) - 1)))], m)) rfl ?_
        refine dx_brB (B := (inI y 0 ((m.1 0 5) - 1))) (a := 67) (b := 63) (L := [.ref 0, .int t, .int x, .int y, .null, .null]) (st := []) (m := m) rfl (fun h60 => ?_) (fun h60 => ?_)
        · have hpl : plB t x y W H = false := by
            unfold plB
            rw [← g8, ← g9]
            first
            | (rw [h6]; rfl)
            | (simp [q14, h33]; done)
            | (simp [q14, h60]; done)
          refine dx_blk 5 (c' := (74, [.ref 0, .int t, .int x, .int y, .int 0, .null], [.int t, .int 0, .ref 0], m)) rfl ?_
          refine dx_call (id := 121) (as := [.ref 0, .int 0, .int t]) (rest := []) rfl ?_
          refine sX4_afloat _ false hg _ (fun m1 hk1 hS => ?_)
          refine dx_blk 0 (c' := (77, [.ref 0, .int t, .int x, .int y, .int 0, .null], [.int (-1)], m1)) rfl ?_
          refine dx_blk 2 (c' := (81, [.ref 0, .int t, .int x, .int y, .int 0, .int (-1)], [.int (-1)], m1)) rfl ?_
          refine dx_br (q := 0 ≤ ((-1) : Int32)) (a := 87) (b := 84) (L := [.ref 0, .int t, .int x, .int y, .int 0, .int (-1)]) (st := []) (m := m1) rfl (fun h => absurd h (by decide)) (fun _ => ?_)
          refine dx_blk 1 (c' := (86, [.ref 0, .int t, .int x, .int y, .int 0, .int (-1)], [.int (-1)], m1)) rfl ?_
          exact dx_ret (r := some (.int (-1))) rfl (h0 m1 hpl hk1)
        · have hpl : plB t x y W H = true := by
            unfold plB
            rw [← g8, ← g9]
            simp [q14, h6, h33, h60]
          refine dx_blk 6 (c' := (74, [.ref 0, .int t, .int x, .int y, .int 1, .null], [.int t, .int 1, .ref 0], m)) rfl ?_
          refine dx_call (id := 121) (as := [.ref 0, .int 1, .int t]) (rest := []) rfl ?_
          refine sX4_afloat _ true hg _ (fun m1 hk1 hS => ?_)
          refine dx_blk 0 (c' := (77, [.ref 0, .int t, .int x, .int y, .int 1, .null], [.int (ansO (ouN f W H D Wt sq t))], m1)) rfl ?_
          refine dx_blk 2 (c' := (81, [.ref 0, .int t, .int x, .int y, .int 1, .int (ansO (ouN f W H D Wt sq t))], [.int (ansO (ouN f W H D Wt sq t))], m1)) rfl ?_
          refine dx_br (q := 0 ≤ (ansO (ouN f W H D Wt sq t))) (a := 87) (b := 84) (L := [.ref 0, .int t, .int x, .int y, .int 1, .int (ansO (ouN f W H D Wt sq t))]) (st := []) (m := m1) rfl (fun q81 => ?_) (fun q81 => ?_)
          · obtain ⟨r, er⟩ := ans_g q81
            obtain ⟨tn, htn, rfl, hW0, hrf, hA, ea, eu⟩ := hS r er
            obtain ⟨hl, hm, er0, ef, ep, eq⟩ := id hA
            have hpl2 := hpl
            rw [plB_N htn, Bool.and_eq_true] at hpl2
            have hwd := hw_le (t := tn) g2 g4
            have hht := ht_le (t := tn) g2 g4
            have hr := hrf.1
            obtain ⟨xn, hxn, rfl⟩ := in_P (wd_1 g1 g3).1 (by omega) hpl2.1
            obtain ⟨yn, hyn, rfl⟩ := in_P (wd_1 g1 g3).2 (by omega) hpl2.2
            refine dx_blk 3 (c' := (92, [.ref 0, .int (nI tn), .int (nI xn), .int (nI yn), .int 1, .int (ansO (ouN f W H D Wt sq (nI tn)))], [.int (m1.1 0 24), .int (nI yn)], m1)) rfl ?_
            refine dx_br (q := (nI yn) ≤ (m1.1 0 24)) (a := 99) (b := 95) (L := [.ref 0, .int (nI tn), .int (nI xn), .int (nI yn), .int 1, .int (ansO (ouN f W H D Wt sq (nI tn)))]) (st := []) (m := m1) rfl (fun q92 => ?_) (fun q92 => ?_)
            · refine dx_blk 7 (c' := (109, [.ref 0, .int (nI tn), .int (nI xn), .int (nI yn), .int 1, .int (ansO (ouN f W H D Wt sq (nI tn)))], [.int ((12 * (nI yn)) + (nI xn)), .ref 13], m1)) rfl ?_
              refine dx_bldN (12 * yn + xn) rfl rfl (Or.inr rfl) (nI_ix2 _ _) (by omega) ?_
              refine dx_blk 0 (c' := (110, [.ref 0, .int (nI tn), .int (nI xn), .int (nI yn), .int 1, .int (ansO (ouN f W H D Wt sq (nI tn)))], [.int (m1.1 13 (12 * yn + xn))], m1)) rfl ?_
              refine dx_br (q := (m1.1 13 (12 * yn + xn)) = 0) (a := 117) (b := 113) (L := [.ref 0, .int (nI tn), .int (nI xn), .int (nI yn), .int 1, .int (ansO (ouN f W H D Wt sq (nI tn)))]) (st := []) (m := m1) rfl (fun q110 => ?_) (fun q110 => ?_)
              · refine dx_blk 7 (c' := (127, [.ref 0, .int (nI tn), .int (nI xn), .int (nI yn), .int 1, .int (ansO (ouN f W H D Wt sq (nI tn)))], [.int ((12 * (nI yn)) + (nI xn)), .ref 12], m1)) rfl ?_
                refine dx_aldN (12 * yn + xn) rfl rfl rfl (nI_ix2 _ _) (by omega) ?_
                refine dx_blk 0 (c' := (128, [.ref 0, .int (nI tn), .int (nI xn), .int (nI yn), .int 1, .int (ansO (ouN f W H D Wt sq (nI tn)))], [.int (m1.1 12 (12 * yn + xn))], m1)) rfl ?_
                refine dx_blk 1 (c' := (130, [.ref 0, .int (nI tn), .int (nI xn), .int (nI yn), .int 1, .int (ansO (ouN f W H D Wt sq (nI tn)))], [.int (-9), .int (m1.1 12 (12 * yn + xn))], m1)) rfl ?_
                refine dx_br (q := (m1.1 12 (12 * yn + xn)) = (-9)) (a := 133) (b := 137) (L := [.ref 0, .int (nI tn), .int (nI xn), .int (nI yn), .int 1, .int (ansO (ouN f W H D Wt sq (nI tn)))]) (st := []) (m := m1) rfl (fun q130 => ?_) (fun q130 => ?_)
                · refine dx_blk 2 (c' := (138, [.ref 0, .int (nI tn), .int (nI xn), .int (nI yn), .int 1, .int (ansO (ouN f W H D Wt sq (nI tn)))], [.int 3], m1)) rfl ?_
                  exact dx_ret (r := some (.int 3)) rfl (by
    have e : stN (opS f tn W H) (wdN tn W H) r yn xn = 3 := by unfold stN; rw [er0, fa_le, nI_toInt (by omega), nI_toInt (by omega)] at q92; rw [if_neg (by omega)]; rw [hm.2 yn xn (by omega) hxn] at q110; rw [if_neg (by rw [bI_eq q110]; decide)]; rw [if_pos (by rw [hl.2.2.2.2.2 yn xn hyn hxn]; exact decide_eq_true q130)]
    have hz := hY tn xn yn r m1 htn rfl rfl rfl hxn hyn hpl er hk1
    rw [e] at hz; exact hz)
                · refine dx_blk 1 (c' := (138, [.ref 0, .int (nI tn), .int (nI xn), .int (nI yn), .int 1, .int (ansO (ouN f W H D Wt sq (nI tn)))], [.int 2], m1)) rfl ?_
                  exact dx_ret (r := some (.int 2)) rfl (by
    have e : stN (opS f tn W H) (wdN tn W H) r yn xn = 2 := by unfold stN; rw [er0, fa_le, nI_toInt (by omega), nI_toInt (by omega)] at q92; rw [if_neg (by omega)]; rw [hm.2 yn xn (by omega) hxn] at q110; rw [if_neg (by rw [bI_eq q110]; decide)]; rw [if_neg (by rw [hl.2.2.2.2.2 yn xn hyn hxn, decide_eq_false q130]; decide)]
    have hz := hY tn xn yn r m1 htn rfl rfl rfl hxn hyn hpl er hk1
    rw [e] at hz; exact hz)
              · refine dx_blk 2 (c' := (138, [.ref 0, .int (nI tn), .int (nI xn), .int (nI yn), .int 1, .int (ansO (ouN f W H D Wt sq (nI tn)))], [.int 1], m1)) rfl ?_
                exact dx_ret (r := some (.int 1)) rfl (by
    have e : stN (opS f tn W H) (wdN tn W H) r yn xn = 1 := by unfold stN; rw [er0, fa_le, nI_toInt (by omega), nI_toInt (by omega)] at q92; rw [if_neg (by omega)]; rw [hm.2 yn xn (by omega) hxn] at q110; rw [if_pos (bI_ne q110)]
    have hz := hY tn xn yn r m1 htn rfl rfl rfl hxn hyn hpl er hk1
    rw [e] at hz; exact hz)
            · refine dx_blk 2 (c' := (138, [.ref 0, .int (nI tn), .int (nI xn), .int (nI yn), .int 1, .int (ansO (ouN f W H D Wt sq (nI tn)))], [.int 0], m1)) rfl ?_
              exact dx_ret (r := some (.int 0)) rfl (by
    have e : stN (opS f tn W H) (wdN tn W H) r yn xn = 0 := by unfold stN; rw [er0, fa_le, nI_toInt (by omega), nI_toInt (by omega)] at q92; rw [if_pos (by omega)]
    have hz := hY tn xn yn r m1 htn rfl rfl rfl hxn hyn hpl er hk1
    rw [e] at hz; exact hz)
          · refine dx_blk 1 (c' := (86, [.ref 0, .int t, .int x, .int y, .int 1, .int (ansO (ouN f W H D Wt sq t))], [.int (ansO (ouN f W H D Wt sq t))], m1)) rfl ?_
            exact dx_ret (r := some (.int (ansO (ouN f W H D Wt sq t)))) rfl (hN m1 hpl (ans_l q81) hk1)
    · refine dx_blk 4 (c' := (30, [.ref 0, .int t, .int x, .int y, .null, .null], [.int ((m.1 0 5) - 1), .int 0, .int x], m)) rfl ?_
      refine dx_call (id := 82) (as := [.int x, .int 0, .int ((m.1 0 5) - 1)]) (rest := []) rfl ?_
      refine sX4_in x 0 ((m.1 0 5) - 1) _ ?_
      refine dx_blk 0 (c' := (33, [.ref 0, .int t, .int x, .int y, .null, .null], [.int (bI (inI x 0 ((m.1 0 5) - 1)))], m)) rfl ?_
      refine dx_brB (B := (inI x 0 ((m.1 0 5) - 1))) (a := 67) (b := 36) (L := [.ref 0, .int t, .int x, .int y, .null, .null]) (st := []) (m := m) rfl (fun h33 => ?_) (fun h33 => ?_)
      · have hpl : plB t x y W H = false := by
          unfold plB
          rw [← g8, ← g9]
          first
          | (rw [h6]; rfl)
          | (simp [q14, h33]; done)
          | (simp [q14, h60]; done)
        refine dx_blk 5 (c' := (74, [.ref 0, .int t, .int x, .int y, .int 0, .null], [.int t, .int 0, .ref 0], m)) rfl ?_
        refine dx_call (id := 121) (as := [.ref 0, .int 0, .int t]) (rest := []) rfl ?_
        refine sX4_afloat _ false hg _ (fun m1 hk1 hS => ?_)
        refine dx_blk 0 (c' := (77, [.ref 0, .int t, .int x, .int y, .int 0, .null], [.int (-1)], m1)) rfl ?_
        refine dx_blk 2 (c' := (81, [.ref 0, .int t, .int x, .int y, .int 0, .int (-1)], [.int (-1)], m1)) rfl ?_
        refine dx_br (q := 0 ≤ ((-1) : Int32)) (a := 87) (b := 84) (L := [.ref 0, .int t, .int x, .int y, .int 0, .int (-1)]) (st := []) (m := m1) rfl (fun h => absurd h (by decide)) (fun _ => ?_)
        refine dx_blk 1 (c' := (86, [.ref 0, .int t, .int x, .int y, .int 0, .int (-1)], [.int (-1)], m1)) rfl ?_
        exact dx_ret (r := some (.int (-1))) rfl (h0 m1 hpl hk1)
      · refine dx_blk 5 (c' := (41, [.ref 0, .int t, .int x, .int y, .null, .null], [.int (t - t / 2 * 2), .int 0, .int y], m)) rfl ?_
        refine dx_br (q := (t - t / 2 * 2) = 0) (a := 44) (b := 51) (L := [.ref 0, .int t, .int x, .int y, .null, .null]) (st := [.int 0, .int y]) (m := m) rfl (fun h => absurd h q14) (fun _ => ?_)
        refine dx_blk 4 (c' := (57, [.ref 0, .int t, .int x, .int y, .null, .null], [.int ((m.1 0 4) - 1), .int 0, .int y], m)) rfl ?_
        refine dx_call (id := 82) (as := [.int y, .int 0, .int ((m.1 0 4) - 1)]) (rest := []) rfl ?_
        refine sX4_in y 0 ((m.1 0 4) - 1) _ ?_
        refine dx_blk 0 (c' := (60, [.ref 0, .int t, .int x, .int y, .null, .null], [.int (bI (inI y 0 ((m.1 0 4) - 1)))], m)) rfl ?_
        refine dx_brB (B := (inI y 0 ((m.1 0 4) - 1))) (a := 67) (b := 63) (L := [.ref 0, .int t, .int x, .int y, .null, .null]) (st := []) (m := m) rfl (fun h60 => ?_) (fun h60 => ?_)
        · have hpl : plB t x y W H = false := by
            unfold plB
            rw [← g8, ← g9]
            first
            | (rw [h6]; rfl)
            | (simp [q14, h33]; done)
            | (simp [q14, h60]; done)
          refine dx_blk 5 (c' := (74, [.ref 0, .int t, .int x, .int y, .int 0, .null], [.int t, .int 0, .ref 0], m)) rfl ?_
          refine dx_call (id := 121) (as := [.ref 0, .int 0, .int t]) (rest := []) rfl ?_
          refine sX4_afloat _ false hg _ (fun m1 hk1 hS => ?_)
          refine dx_blk 0 (c' := (77, [.ref 0, .int t, .int x, .int y, .int 0, .null], [.int (-1)], m1)) rfl ?_
          refine dx_blk 2 (c' := (81, [.ref 0, .int t, .int x, .int y, .int 0, .int (-1)], [.int (-1)], m1)) rfl ?_
          refine dx_br (q := 0 ≤ ((-1) : Int32)) (a := 87) (b := 84) (L := [.ref 0, .int t, .int x, .int y, .int 0, .int (-1)]) (st := []) (m := m1) rfl (fun h => absurd h (by decide)) (fun _ => ?_)
          refine dx_blk 1 (c' := (86, [.ref 0, .int t, .int x, .int y, .int 0, .int (-1)], [.int (-1)], m1)) rfl ?_
          exact dx_ret (r := some (.int (-1))) rfl (h0 m1 hpl hk1)
        · have hpl : plB t x y W H = true := by
            unfold plB
            rw [← g8, ← g9]
            simp [q14, h6, h33, h60]
          refine dx_blk 6 (c' := (74, [.ref 0, .int t, .int x, .int y, .int 1, .null], [.int t, .int 1, .ref 0], m)) rfl ?_
          refine dx_call (id := 121) (as := [.ref 0, .int 1, .int t]) (rest := []) rfl ?_
          refine sX4_afloat _ true hg _ (fun m1 hk1 hS => ?_)
          refine dx_blk 0 (c' := (77, [.ref 0, .int t, .int x, .int y, .int 1, .null], [.int (ansO (ouN f W H D Wt sq t))], m1)) rfl ?_
          refine dx_blk 2 (c' := (81, [.ref 0, .int t, .int x, .int y, .int 1, .int (ansO (ouN f W H D Wt sq t))], [.int (ansO (ouN f W H D Wt sq t))], m1)) rfl ?_
          refine dx_br (q := 0 ≤ (ansO (ouN f W H D Wt sq t))) (a := 87) (b := 84) (L := [.ref 0, .int t, .int x, .int y, .int 1, .int (ansO (ouN f W H D Wt sq t))]) (st := []) (m := m1) rfl (fun q81 => ?_) (fun q81 => ?_)
          · obtain ⟨r, er⟩ := ans_g q81
            obtain ⟨tn, htn, rfl, hW0, hrf, hA, ea, eu⟩ := hS r er
            obtain ⟨hl, hm, er0, ef, ep, eq⟩ := id hA
            have hpl2 := hpl
            rw [plB_N htn, Bool.and_eq_true] at hpl2
            have hwd := hw_le (t := tn) g2 g4
            have hht := ht_le (t := tn) g2 g4
            have hr := hrf.1
            obtain ⟨xn, hxn, rfl⟩ := in_P (wd_1 g1 g3).1 (by omega) hpl2.1
            obtain ⟨yn, hyn, rfl⟩ := in_P (wd_1 g1 g3).2 (by omega) hpl2.2
            refine dx_blk 3 (c' := (92, [.ref 0, .int (nI tn), .int (nI xn), .int (nI yn), .int 1, .int (ansO (ouN f W H D Wt sq (nI tn)))], [.int (m1.1 0 24), .int (nI yn)], m1)) rfl ?_
            refine dx_br (q := (nI yn) ≤ (m1.1 0 24)) (a := 99) (b := 95) (L := [.ref 0, .int (nI tn), .int (nI xn), .int (nI yn), .int 1, .int (ansO (ouN f W H D Wt sq (nI tn)))]) (st := []) (m := m1) rfl (fun q92 => ?_) (fun q92 => ?_)
            · refine dx_blk 7 (c' := (109, [.ref 0, .int (nI tn), .int (nI xn), .int (nI yn), .int 1, .int (ansO (ouN f W H D Wt sq (nI tn)))], [.int ((12 * (nI yn)) + (nI xn)), .ref 13], m1)) rfl ?_
              refine dx_bldN (12 * yn + xn) rfl rfl (Or.inr rfl) (nI_ix2 _ _) (by omega) ?_
              refine dx_blk 0 (c' := (110, [.ref 0, .int (nI tn), .int (nI xn), .int (nI yn), .int 1, .int (ansO (ouN f W H D Wt sq (nI tn)))], [.int (m1.1 13 (12 * yn + xn))], m1)) rfl ?_
              refine dx_br (q := (m1.1 13 (12 * yn + xn)) = 0) (a := 117) (b := 113) (L := [.ref 0, .int (nI tn), .int (nI xn), .int (nI yn), .int 1, .int (ansO (ouN f W H D Wt sq (nI tn)))]) (st := []) (m := m1) rfl (fun q110 => ?_) (fun q110 => ?_)
              · refine dx_blk 7 (c' := (127, [.ref 0, .int (nI tn), .int (nI xn), .int (nI yn), .int 1, .int (ansO (ouN f W H D Wt sq (nI tn)))], [.int ((12 * (nI yn)) + (nI xn)), .ref 12], m1)) rfl ?_
                refine dx_aldN (12 * yn + xn) rfl rfl rfl (nI_ix2 _ _) (by omega) ?_
                refine dx_blk 0 (c' := (128, [.ref 0, .int (nI tn), .int (nI xn), .int (nI yn), .int 1, .int (ansO (ouN f W H D Wt sq (nI tn)))], [.int (m1.1 12 (12 * yn + xn))], m1)) rfl ?_
                refine dx_blk 1 (c' := (130, [.ref 0, .int (nI tn), .int (nI xn), .int (nI yn), .int 1, .int (ansO (ouN f W H D Wt sq (nI tn)))], [.int (-9), .int (m1.1 12 (12 * yn + xn))], m1)) rfl ?_
                refine dx_br (q := (m1.1 12 (12 * yn + xn)) = (-9)) (a := 133) (b := 137) (L := [.ref 0, .int (nI tn), .int (nI xn), .int (nI yn), .int 1, .int (ansO (ouN f W H D Wt sq (nI tn)))]) (st := []) (m := m1) rfl (fun q130 => ?_) (fun q130 => ?_)
                · refine dx_blk 2 (c' := (138, [.ref 0, .int (nI tn), .int (nI xn), .int (nI yn), .int 1, .int (ansO (ouN f W H D Wt sq (nI tn)))], [.int 3], m1)) rfl ?_
                  exact dx_ret (r := some (.int 3)) rfl (by
    have e : stN (opS f tn W H) (wdN tn W H) r yn xn = 3 := by unfold stN; rw [er0, fa_le, nI_toInt (by omega), nI_toInt (by omega)] at q92; rw [if_neg (by omega)]; rw [hm.2 yn xn (by omega) hxn] at q110; rw [if_neg (by rw [bI_eq q110]; decide)]; rw [if_pos (by rw [hl.2.2.2.2.2 yn xn hyn hxn]; exact decide_eq_true q130)]
    have hz := hY tn xn yn r m1 htn rfl rfl rfl hxn hyn hpl er hk1
    rw [e] at hz; exact hz)
                · refine dx_blk 1 (c' := (138, [.ref 0, .int (nI tn), .int (nI xn), .int (nI yn), .int 1, .int (ansO (ouN f W H D Wt sq (nI tn)))], [.int 2], m1)) rfl ?_
                  exact dx_ret (r := some (.int 2)) rfl (by
    have e : stN (opS f tn W H) (wdN tn W H) r yn xn = 2 := by unfold stN; rw [er0, fa_le, nI_toInt (by omega), nI_toInt (by omega)] at q92; rw [if_neg (by omega)]; rw [hm.2 yn xn (by omega) hxn] at q110; rw [if_neg (by rw [bI_eq q110]; decide)]; rw [if_neg (by rw [hl.2.2.2.2.2 yn xn hyn hxn, decide_eq_false q130]; decide)]
    have hz := hY tn xn yn r m1 htn rfl rfl rfl hxn hyn hpl er hk1
    rw [e] at hz; exact hz)
              · refine dx_blk 2 (c' := (138, [.ref 0, .int (nI tn), .int (nI xn), .int (nI yn), .int 1, .int (ansO (ouN f W H D Wt sq (nI tn)))], [.int 1], m1)) rfl ?_
                exact dx_ret (r := some (.int 1)) rfl (by
    have e : stN (opS f tn W H) (wdN tn W H) r yn xn = 1 := by unfold stN; rw [er0, fa_le, nI_toInt (by omega), nI_toInt (by omega)] at q92; rw [if_neg (by omega)]; rw [hm.2 yn xn (by omega) hxn] at q110; rw [if_pos (bI_ne q110)]
    have hz := hY tn xn yn r m1 htn rfl rfl rfl hxn hyn hpl er hk1
    rw [e] at hz; exact hz)
            · refine dx_blk 2 (c' := (138, [.ref 0, .int (nI tn), .int (nI xn), .int (nI yn), .int 1, .int (ansO (ouN f W H D Wt sq (nI tn)))], [.int 0], m1)) rfl ?_
              exact dx_ret (r := some (.int 0)) rfl (by
    have e : stN (opS f tn W H) (wdN tn W H) r yn xn = 0 := by unfold stN; rw [er0, fa_le, nI_toInt (by omega), nI_toInt (by omega)] at q92; rw [if_pos (by omega)]
    have hz := hY tn xn yn r m1 htn rfl rfl rfl hxn hyn hpl er hk1
    rw [e] at hz; exact hz)
          · refine dx_blk 1 (c' := (86, [.ref 0, .int t, .int x, .int y, .int 1, .int (ansO (ouN f W H D Wt sq t))], [.int (ansO (ouN f W H D Wt sq t))], m1)) rfl ?_
            exact dx_ret (r := some (.int (ansO (ouN f W H D Wt sq t)))) rfl (hN m1 hpl (ans_l q81) hk1)
set_option maxRecDepth 20000 in
theorem sX4_room {d : Nat} (m : dx_M) {f : Nat → Int32} {W H E D Wt sq : Nat} {wa wu : Nat → Int} (hg : GM m f W H E D Wt sq wa wu) (t u l : Int32) {Z : Option Value → dx_M → Prop} (h0 : rmB t u l W H = false → Z (some (.int (-1))) m) (h1 : rmB t u l W H = true → u = 0 → Z (some (.int 1)) (dx_pL (dx_pL m 0 2 (tU (0 : Int) (1 : Int))) 0 3 (tL (0 : Int) (1 : Int)))) (h2 : ∀ tn un ln r m', tn < 4 → t = nI tn → u = nI un → l = nI ln → 1 ≤ un → un ≤ 24 → 1 ≤ ln → ln ≤ 12 → rmB t u l W H = true → r = (un - 1) / ln → r < (htN tn W H) → kG m m' → Z (some (.int 1)) (dx_pL (dx_pL m' 0 2 (tU ((fB (opS f tn W H) (wdN tn W H) r * ln + fA (opS f tn W H) (wdN tn W H) r * (un - r * ln) : Nat) : Int) ((ln : Nat) : Int))) 0 3 (tL ((fB (opS f tn W H) (wdN tn W H) r * ln + fA (opS f tn W H) (wdN tn W H) r * (un - r * ln) : Nat) : Int) ((ln : Nat) : Int)))) : dx_Sem dx_P lx_M (d + 5) 140 [.ref 0, .int t, .int u, .int l] m Z := by
  obtain ⟨g1, g2, g3, g4, g5, g6, g7, g8, g9, g10, g11, g12, g13, g14, g15, g16, g17, g18, g19⟩ := id hg
  have hE := g5
  have eE := g10
  have hW := g2
  have hH := g4
  have eW := g8
  have eH := g9
  refine dx_sem km_X4_room rfl rfl ?_
  refine dx_blk 0 (c' := (0, [.ref 0, .int t, .int u, .int l, .null], [], m)) rfl ?_
  refine dx_blk 3 (c' := (3, [.ref 0, .int t, .int u, .int l, .null], [.int 3, .int 0, .int t], m)) rfl ?_
  refine dx_call (id := 82) (as := [.int t, .int 0, .int 3]) (rest := []) rfl ?_
  refine sX4_in t 0 3 _ ?_
  refine dx_blk 0 (c' := (6, [.ref 0, .int t, .int u, .int l, .null], [.int (bI (inI t 0 3))], m)) rfl ?_
  refine dx_brB (B := (inI t 0 3)) (a := 52) (b := 9) (L := [.ref 0, .int t, .int u, .int l, .null]) (st := []) (m := m) rfl (fun h6 => ?_) (fun h6 => ?_)
  · refine dx_blk 1 (c' := (53, [.ref 0, .int t, .int u, .int l, .null], [.int (-1)], m)) rfl ?_
    exact dx_ret (r := some (.int (-1))) rfl (h0 (by unfold rmB; first | (rw [h6]; rfl) | (rw [h16]; simp; done) | (rw [h26]; simp; done) | (rw [← g8, ← g9, Int32.mul_comm]; simp [q34, q49]; done)))
  · refine dx_blk 3 (c' := (13, [.ref 0, .int t, .int u, .int l, .null], [.int 24, .int 0, .int u], m)) rfl ?_
    refine dx_call (id := 82) (as := [.int u, .int 0, .int 24]) (rest := []) rfl ?_
    refine sX4_in u 0 24 _ ?_
    refine dx_blk 0 (c' := (16, [.ref 0, .int t, .int u, .int l, .null], [.int (bI (inI u 0 24))], m)) rfl ?_
    refine dx_brB (B := (inI u 0 24)) (a := 52) (b := 19) (L := [.ref 0, .int t, .int u, .int l, .null]) (st := []) (m := m) rfl (fun h16 => ?_) (fun h16 => ?_)
    · refine dx_blk 1 (c' := (53, [.ref 0, .int t, .int u, .int l, .null], [.int (-1)], m)) rfl ?_
      exact dx_ret (r := some (.int (-1))) rfl (h0 (by unfold rmB; first | (rw [h6]; rfl) | (rw [h16]; simp; done) | (rw [h26]; simp; done) | (rw [← g8, ← g9, Int32.mul_comm]; simp [q34, q49]; done)))
    · refine dx_blk 3 (c' := (23, [.ref 0, .int t, .int u, .int l, .null], [.int 12, .int 1, .int l], m)) rfl ?_
      refine dx_call (id := 82) (as := [.int l, .int 1, .int 12]) (rest := []) rfl ?_
      refine sX4_in l 1 12 _ ?_
      refine dx_blk 0 (c' := (26, [.ref 0, .int t, .int u, .int l, .null], [.int (bI (inI l 1 12))], m)) rfl ?_
      refine dx_brB (B := (inI l 1 12)) (a := 52) (b := 29) (L := [.ref 0, .int t, .int u, .int l, .null]) (st := []) (m := m) rfl (fun h26 => ?_) (fun h26 => ?_)
      · refine dx_blk 1 (c' := (53, [.ref 0, .int t, .int u, .int l, .null], [.int (-1)], m)) rfl ?_
        exact dx_ret (r := some (.int (-1))) rfl (h0 (by unfold rmB; first | (rw [h6]; rfl) | (rw [h16]; simp; done) | (rw [h26]; simp; done) | (rw [← g8, ← g9, Int32.mul_comm]; simp [q34, q49]; done)))
      · refine dx_blk 5 (c' := (34, [.ref 0, .int t, .int u, .int l, .null], [.int (t - t / 2 * 2), .int l, .int u], m)) rfl ?_
        refine dx_br (q := (t - t / 2 * 2) = 0) (a := 37) (b := 44) (L := [.ref 0, .int t, .int u, .int l, .null]) (st := [.int l, .int u]) (m := m) rfl (fun q34 => ?_) (fun q34 => ?_)
        · refine dx_blk 4 (c' := (49, [.ref 0, .int t, .int u, .int l, .null], [.int (l * (m.1 0 5)), .int u], m)) rfl ?_
          refine dx_br (q := u ≤ (l * (m.1 0 5))) (a := 54) (b := 52) (L := [.ref 0, .int t, .int u, .int l, .null]) (st := []) (m := m) rfl (fun q49 => ?_) (fun q49 => ?_)
          · have hrm : rmB t u l W H = true := by
              unfold rmB
              rw [← g8, ← g9, Int32.mul_comm, h6, h16, h26]
              simp [q34, q49]
            obtain ⟨tn, htn, rfl⟩ := in_N (n := 3) (x := t) (M := 3) rfl h6
            obtain ⟨un, hun, rfl⟩ := in_N (n := 24) (x := u) (M := 24) rfl h16
            obtain ⟨ln, hl1, hl2, rfl⟩ := in_1 (n := 12) (x := l) (M := 12) rfl h26
            have hrm2 := hrm
            rw [rmB_N (by omega), Bool.and_eq_true, Bool.and_eq_true, decide_eq_true_eq] at hrm2
            have h38 := hrm2.2.2
            refine dx_blk 1 (c' := (55, [.ref 0, .int (nI tn), .int (nI un), .int (nI ln), .null], [.int (nI un)], m)) rfl ?_
            refine dx_br (q := (nI un) = 0) (a := 58) (b := 65) (L := [.ref 0, .int (nI tn), .int (nI un), .int (nI ln), .null]) (st := []) (m := m) rfl (fun q55 => ?_) (fun q55 => ?_)
            · refine dx_blk 3 (c' := (61, [.ref 0, .int (nI tn), .int (nI un), .int (nI ln), .null], [.long 1, .long 0, .ref 0], m)) rfl ?_
              refine dx_call (id := 87) (as := [.ref 0, .long 0, .long 1]) (rest := []) rfl ?_
              refine sX4_tellE _ (u := 0) (l := 1) rfl rfl (tl_of (A := 1) (B := 1) (by decide) (by decide) (by decide) (by decide) (by decide)) ?_
              refine dx_blk 0 (c' := (64, [.ref 0, .int (nI tn), .int (nI un), .int (nI ln), .null], [.int 1], dx_pL (dx_pL m 0 2 (tU (0 : Int) (1 : Int))) 0 3 (tL (0 : Int) (1 : Int)))) rfl ?_
              exact dx_ret (r := some (.int 1)) rfl (h1 hrm q55)
            · have hun1 : 1 ≤ un := by
                rcases Nat.eq_zero_or_pos un with z | z
                · exact absurd (by rw [z]; rfl) q55
                · exact z
              have hhh := ht_le (t := tn) g2 g4
              have hle : un ≤ htN tn W H * ln := by
                rw [pk_mul] at h38
                have hb : htN tn W H * ln ≤ 12 * 12 := Nat.mul_le_mul hhh hl2
                rw [fa_le, nI_toInt (by omega), nI_toInt (by omega)] at h38
                omega
              obtain ⟨r, er⟩ : ∃ r, r = (un - 1) / ln := ⟨_, rfl⟩
              have hrl : r * ln ≤ un - 1 := by rw [er]; exact Nat.div_mul_le_self _ _
              have hrh : r < htN tn W H := by
                rcases Nat.lt_or_ge r (htN tn W H) with z | z
                · exact z
                · have := Nat.mul_le_mul_right ln z
                  omega
              have ediv : (nI un - 1) / nI ln = nI r := by
                rw [show nI un - 1 = nI (un - 1) from pk_sub (a := un) (b := 1) (by omega), pk_div (by omega) (by omega) (by omega), er]
              refine dx_blk 2 (c' := (67, [.ref 0, .int (nI tn), .int (nI un), .int (nI ln), .null], [.int (nI tn), .ref 0], m)) rfl ?_
              refine dx_call (id := 115) (as := [.ref 0, .int (nI tn)]) (rest := []) rfl ?_
              refine sX4_layT _ g1 g2 g3 g4 g8 g9 g5 g10 g18 g12 (t := tn) (by omega) (fun m1 hlx ea eu e13 hk1 => ?_)
              have hb1 : B13 m1 := fun k hk => by rw [e13]; exact g19 k hk
              have hga := GM_keep ⟨hk1, hb1⟩ hg
              have eE1 : m1.1 0 11 = nI E := hga.2.2.2.2.2.2.2.2.2.1
              rw [(g17 tn (by omega)).1] at ea
              rw [(g17 tn (by omega)).2.1] at eu
              refine dx_blk 0 (c' := (70, [.ref 0, .int (nI tn), .int (nI un), .int (nI ln), .null], [], m1)) rfl ?_
              refine dx_blk 4 (c' := (74, [.ref 0, .int (nI tn), .int (nI un), .int (nI ln), .null], [.int (nI ln), .int ((nI un) - 1)], m1)) rfl ?_
              refine dx_step (c' := (75, [.ref 0, .int (nI tn), .int (nI un), .int (nI ln), .null], [.int (((nI un) - 1) / (nI ln))], m1)) (if_pos (nI_ne0 (by omega) (by omega))) ?_
              refine dx_blk 1 (c' := (77, [.ref 0, .int (nI tn), .int (nI un), .int (nI ln), .int (((nI un) - 1) / (nI ln))], [], m1)) rfl ?_
              rw [ediv]
              refine dx_blk 2 (c' := (80, [.ref 0, .int (nI tn), .int (nI un), .int (nI ln), .int (nI r)], [.int (nI r), .ref 0], m1)) rfl ?_
              refine dx_call (id := 117) (as := [.ref 0, .int (nI r)]) (rest := []) rfl ?_
              refine sX4_spreadL _ hlx hrh hb1 (fun g hgg => ?_)
              refine dx_blk 0 (c' := (83, [.ref 0, .int (nI tn), .int (nI un), .int (nI ln), .int (nI r)], [], dx_pR m1 13 g)) rfl ?_
              refine dx_blk 3 (c' := (87, [.ref 0, .int (nI tn), .int (nI un), .int (nI ln), .int (nI r)], [.int (nI r), .ref 0, .ref 0], dx_pR m1 13 g)) rfl ?_
              refine dx_call (id := 119) (as := [.ref 0, .int (nI r)]) (rest := [.ref 0]) rfl ?_
              refine sX4_firmBelow (dx_pR m1 13 g) (r := r) (LM_13 hlx g) hgg hrh (n := r) (by omega) ?_
              refine dx_blk 0 (c' := (90, [.ref 0, .int (nI tn), .int (nI un), .int (nI ln), .int (nI r)], [.int (nI (fB (opS f tn W H) (wdN tn W H) r)), .ref 0], dx_pR m1 13 g)) rfl ?_
              refine dx_blk 12 (c' := (104, [.ref 0, .int (nI tn), .int (nI un), .int (nI ln), .int (nI r)], [.int (nI r), .ref 0, .long (((nI un) - ((nI r) * (nI ln))).toInt64), .long (((nI (fB (opS f tn W H) (wdN tn W H) r)).toInt64) * ((nI ln).toInt64)), .ref 0], dx_pR m1 13 g)) rfl ?_
              refine dx_call (id := 118) (as := [.ref 0, .int (nI r)]) (rest := [.long (((nI un) - ((nI r) * (nI ln))).toInt64), .long (((nI (fB (opS f tn W H) (wdN tn W H) r)).toInt64) * ((nI ln).toInt64)), .ref 0]) rfl ?_
              refine sX4_firmIn (dx_pR m1 13 g) (r := r) (LM_13 hlx g) hgg hrh (y := r) (by omega) ?_
              refine dx_blk 0 (c' := (107, [.ref 0, .int (nI tn), .int (nI un), .int (nI ln), .int (nI r)], [.int (nI (fA (opS f tn W H) (wdN tn W H) r)), .long (((nI un) - ((nI r) * (nI ln))).toInt64), .long (((nI (fB (opS f tn W H) (wdN tn W H) r)).toInt64) * ((nI ln).toInt64)), .ref 0], dx_pR m1 13 g)) rfl ?_
              refine dx_blk 5 (c' := (112, [.ref 0, .int (nI tn), .int (nI un), .int (nI ln), .int (nI r)], [.long ((nI ln).toInt64), .long ((((nI (fB (opS f tn W H) (wdN tn W H) r)).toInt64) * ((nI ln).toInt64)) + ((((nI un) - ((nI r) * (nI ln))).toInt64) * ((nI (fA (opS f tn W H) (wdN tn W H) r)).toInt64))), .ref 0], dx_pR m1 13 g)) rfl ?_
              refine dx_call (id := 87) (as := [.ref 0, .long ((((nI (fB (opS f tn W H) (wdN tn W H) r)).toInt64) * ((nI ln).toInt64)) + ((((nI un) - ((nI r) * (nI ln))).toInt64) * ((nI (fA (opS f tn W H) (wdN tn W H) r)).toInt64))), .long ((nI ln).toInt64)]) (rest := []) rfl ?_
              have bb := fB_le (opS f tn W H) (hw_le (t := tn) g2 g4) (show r ≤ 12 by omega)
              have ba := fA_le (opS f tn W H) r (hw_le (t := tn) g2 g4)
              refine sX4_tellE _ (u := ((fB (opS f tn W H) (wdN tn W H) r * ln + fA (opS f tn W H) (wdN tn W H) r * (un - r * ln) : Nat) : Int)) (l := ((ln : Nat) : Int)) ?_ (lZ_n (by omega)) (tl_room (hw_le g2 g4) (by omega) hun hl2 (by omega)) ?_
              · rw [pk_mul, pk_sub (by omega), lZ_n (by omega), lZ_n (by omega), lZ_n (by omega), lZ_n (by omega), lZ_mul, lZ_mul, lZ_add]
                congr 1
                rw [Int.natCast_add, Int.natCast_mul, Int.natCast_mul, Int.mul_comm ((un - r * ln : Nat) : Int)]
              refine dx_blk 0 (c' := (115, [.ref 0, .int (nI tn), .int (nI un), .int (nI ln), .int (nI r)], [.int 1], dx_pL (dx_pL (dx_pR m1 13 g) 0 2 (tU ((fB (opS f tn W H) (wdN tn W H) r * ln + fA (opS f tn W H) (wdN tn W H) r * (un - r * ln) : Nat) : Int) ((ln : Nat) : Int))) 0 3 (tL ((fB (opS f tn W H) (wdN tn W H) r * ln + fA (opS f tn W H) (wdN tn W H) r * (un - r * ln) : Nat) : Int) ((ln : Nat) : Int)))) rfl ?_
              exact dx_ret (r := some (.int 1)) rfl (h2 tn un ln r _ (by omega) rfl rfl rfl hun1 hun hl1 hl2 hrm er hrh ⟨keepM_tr hk1 (keepM_13 m1 g), WM_B hgg⟩)
          · refine dx_blk 1 (c' := (53, [.ref 0, .int t, .int u, .int l, .null], [.int (-1)], m)) rfl ?_
            exact dx_ret (r := some (.int (-1))) rfl (h0 (by unfold rmB; first | (rw [h6]; rfl) | (rw [h16]; simp; done) | (rw [h26]; simp; done) | (rw [← g8, ← g9, Int32.mul_comm]; simp [q34, q49]; done)))
        · refine dx_blk 3 (c' := (49, [.ref 0, .int t, .int u, .int l, .null], [.int (l * (m.1 0 4)), .int u], m)) rfl ?_
          refine dx_br (q := u ≤ (l * (m.1 0 4))) (a := 54) (b := 52) (L := [.ref 0, .int t, .int u, .int l, .null]) (st := []) (m := m) rfl (fun q49 => ?_) (fun q49 => ?_)
          · have hrm : rmB t u l W H = true := by
              unfold rmB
              rw [← g8, ← g9, Int32.mul_comm, h6, h16, h26]
              simp [q34, q49]
            obtain ⟨tn, htn, rfl⟩ := in_N (n := 3) (x := t) (M := 3) rfl h6
            obtain ⟨un, hun, rfl⟩ := in_N (n := 24) (x := u) (M := 24) rfl h16
            obtain ⟨ln, hl1, hl2, rfl⟩ := in_1 (n := 12) (x := l) (M := 12) rfl h26
            have hrm2 := hrm
            rw [rmB_N (by omega), Bool.and_eq_true, Bool.and_eq_true, decide_eq_true_eq] at hrm2
            have h38 := hrm2.2.2
            refine dx_blk 1 (c' := (55, [.ref 0, .int (nI tn), .int (nI un), .int (nI ln), .null], [.int (nI un)], m)) rfl ?_
            refine dx_br (q := (nI un) = 0) (a := 58) (b := 65) (L := [.ref 0, .int (nI tn), .int (nI un), .int (nI ln), .null]) (st := []) (m := m) rfl (fun q55 => ?_) (fun q55 => ?_)
            · refine dx_blk 3 (c' := (61, [.ref 0, .int (nI tn), .int (nI un), .int (nI ln), .null], [.long 1, .long 0, .ref 0], m)) rfl ?_
              refine dx_call (id := 87) (as := [.ref 0, .long 0, .long 1]) (rest := []) rfl ?_
              refine sX4_tellE _ (u := 0) (l := 1) rfl rfl (tl_of (A := 1) (B := 1) (by decide) (by decide) (by decide) (by decide) (by decide)) ?_
              refine dx_blk 0 (c' := (64, [.ref 0, .int (nI tn), .int (nI un), .int (nI ln), .null], [.int 1], dx_pL (dx_pL m 0 2 (tU (0 : Int) (1 : Int))) 0 3 (tL (0 : Int) (1 : Int)))) rfl ?_
              exact dx_ret (r := some (.int 1)) rfl (h1 hrm q55)
            · have hun1 : 1 ≤ un := by
                rcases Nat.eq_zero_or_pos un with z | z
                · exact absurd (by rw [z]; rfl) q55
                · exact z
              have hhh := ht_le (t := tn) g2 g4
              have hle : un ≤ htN tn W H * ln := by
                rw [pk_mul] at h38
                have hb : htN tn W H * ln ≤ 12 * 12 := Nat.mul_le_mul hhh hl2
                rw [fa_le, nI_toInt (by omega), nI_toInt (by omega)] at h38
                omega
              obtain ⟨r, er⟩ : ∃ r, r = (un - 1) / ln := ⟨_, rfl⟩
              have hrl : r * ln ≤ un - 1 := by rw [er]; exact Nat.div_mul_le_self _ _
              have hrh : r < htN tn W H := by
                rcases Nat.lt_or_ge r (htN tn W H) with z | z
                · exact z
                · have := Nat.mul_le_mul_right ln z
                  omega
              have ediv : (nI un - 1) / nI ln = nI r := by
                rw [show nI un - 1 = nI (un - 1) from pk_sub (a := un) (b := 1) (by omega), pk_div (by omega) (by omega) (by omega), er]
              refine dx_blk 2 (c' := (67, [.ref 0, .int (nI tn), .int (nI un), .int (nI ln), .null], [.int (nI tn), .ref 0], m)) rfl ?_
              refine dx_call (id := 115) (as := [.ref 0, .int (nI tn)]) (rest := []) rfl ?_
              refine sX4_layT _ g1 g2 g3 g4 g8 g9 g5 g10 g18 g12 (t := tn) (by omega) (fun m1 hlx ea eu e13 hk1 => ?_)
              have hb1 : B13 m1 := fun k hk => by rw [e13]; exact g19 k hk
              have hga := GM_keep ⟨hk1, hb1⟩ hg
              have eE1 : m1.1 0 11 = nI E := hga.2.2.2.2.2.2.2.2.2.1
              rw [(g17 tn (by omega)).1] at ea
              rw [(g17 tn (by omega)).2.1] at eu
              refine dx_blk 0 (c' := (70, [.ref 0, .int (nI tn), .int (nI un), .int (nI ln), .null], [], m1)) rfl ?_
              refine dx_blk 4 (c' := (74, [.ref 0, .int (nI tn), .int (nI un), .int (nI ln), .null], [.int (nI ln), .int ((nI un) - 1)], m1)) rfl ?_
              refine dx_step (c' := (75, [.ref 0, .int (nI tn), .int (nI un), .int (nI ln), .null], [.int (((nI un) - 1) / (nI ln))], m1)) (if_pos (nI_ne0 (by omega) (by omega))) ?_
              refine dx_blk 1 (c' := (77, [.ref 0, .int (nI tn), .int (nI un), .int (nI ln), .int (((nI un) - 1) / (nI ln))], [], m1)) rfl ?_
              rw [ediv]
              refine dx_blk 2 (c' := (80, [.ref 0, .int (nI tn), .int (nI un), .int (nI ln), .int (nI r)], [.int (nI r), .ref 0], m1)) rfl ?_
              refine dx_call (id := 117) (as := [.ref 0, .int (nI r)]) (rest := []) rfl ?_
              refine sX4_spreadL _ hlx hrh hb1 (fun g hgg => ?_)
              refine dx_blk 0 (c' := (83, [.ref 0, .int (nI tn), .int (nI un), .int (nI ln), .int (nI r)], [], dx_pR m1 13 g)) rfl ?_
              refine dx_blk 3 (c' := (87, [.ref 0, .int (nI tn), .int (nI un), .int (nI ln), .int (nI r)], [.int (nI r), .ref 0, .ref 0], dx_pR m1 13 g)) rfl ?_
              refine dx_call (id := 119) (as := [.ref 0, .int (nI r)]) (rest := [.ref 0]) rfl ?_
              refine sX4_firmBelow (dx_pR m1 13 g) (r := r) (LM_13 hlx g) hgg hrh (n := r) (by omega) ?_
              refine dx_blk 0 (c' := (90, [.ref 0, .int (nI tn), .int (nI un), .int (nI ln), .int (nI r)], [.int (nI (fB (opS f tn W H) (wdN tn W H) r)), .ref 0], dx_pR m1 13 g)) rfl ?_
              refine dx_blk 12 (c' := (104, [.ref 0, .int (nI tn), .int (nI un), .int (nI ln), .int (nI r)], [.int (nI r), .ref 0, .long (((nI un) - ((nI r) * (nI ln))).toInt64), .long (((nI (fB (opS f tn W H) (wdN tn W H) r)).toInt64) * ((nI ln).toInt64)), .ref 0], dx_pR m1 13 g)) rfl ?_
              refine dx_call (id := 118) (as := [.ref 0, .int (nI r)]) (rest := [.long (((nI un) - ((nI r) * (nI ln))).toInt64), .long (((nI (fB (opS f tn W H) (wdN tn W H) r)).toInt64) * ((nI ln).toInt64)), .ref 0]) rfl ?_
              refine sX4_firmIn (dx_pR m1 13 g) (r := r) (LM_13 hlx g) hgg hrh (y := r) (by omega) ?_
              refine dx_blk 0 (c' := (107, [.ref 0, .int (nI tn), .int (nI un), .int (nI ln), .int (nI r)], [.int (nI (fA (opS f tn W H) (wdN tn W H) r)), .long (((nI un) - ((nI r) * (nI ln))).toInt64), .long (((nI (fB (opS f tn W H) (wdN tn W H) r)).toInt64) * ((nI ln).toInt64)), .ref 0], dx_pR m1 13 g)) rfl ?_
              refine dx_blk 5 (c' := (112, [.ref 0, .int (nI tn), .int (nI un), .int (nI ln), .int (nI r)], [.long ((nI ln).toInt64), .long ((((nI (fB (opS f tn W H) (wdN tn W H) r)).toInt64) * ((nI ln).toInt64)) + ((((nI un) - ((nI r) * (nI ln))).toInt64) * ((nI (fA (opS f tn W H) (wdN tn W H) r)).toInt64))), .ref 0], dx_pR m1 13 g)) rfl ?_
              refine dx_call (id := 87) (as := [.ref 0, .long ((((nI (fB (opS f tn W H) (wdN tn W H) r)).toInt64) * ((nI ln).toInt64)) + ((((nI un) - ((nI r) * (nI ln))).toInt64) * ((nI (fA (opS f tn W H) (wdN tn W H) r)).toInt64))), .long ((nI ln).toInt64)]) (rest := []) rfl ?_
              have bb := fB_le (opS f tn W H) (hw_le (t := tn) g2 g4) (show r ≤ 12 by omega)
              have ba := fA_le (opS f tn W H) r (hw_le (t := tn) g2 g4)
              refine sX4_tellE _ (u := ((fB (opS f tn W H) (wdN tn W H) r * ln + fA (opS f tn W H) (wdN tn W H) r * (un - r * ln) : Nat) : Int)) (l := ((ln : Nat) : Int)) ?_ (lZ_n (by omega)) (tl_room (hw_le g2 g4) (by omega) hun hl2 (by omega)) ?_
              · rw [pk_mul, pk_sub (by omega), lZ_n (by omega), lZ_n (by omega), lZ_n (by omega), lZ_n (by omega), lZ_mul, lZ_mul, lZ_add]
                congr 1
                rw [Int.natCast_add, Int.natCast_mul, Int.natCast_mul, Int.mul_comm ((un - r * ln : Nat) : Int)]
              refine dx_blk 0 (c' := (115, [.ref 0, .int (nI tn), .int (nI un), .int (nI ln), .int (nI r)], [.int 1], dx_pL (dx_pL (dx_pR m1 13 g) 0 2 (tU ((fB (opS f tn W H) (wdN tn W H) r * ln + fA (opS f tn W H) (wdN tn W H) r * (un - r * ln) : Nat) : Int) ((ln : Nat) : Int))) 0 3 (tL ((fB (opS f tn W H) (wdN tn W H) r * ln + fA (opS f tn W H) (wdN tn W H) r * (un - r * ln) : Nat) : Int) ((ln : Nat) : Int)))) rfl ?_
              exact dx_ret (r := some (.int 1)) rfl (h2 tn un ln r _ (by omega) rfl rfl rfl hun1 hun hl1 hl2 hrm er hrh ⟨keepM_tr hk1 (keepM_13 m1 g), WM_B hgg⟩)
          · refine dx_blk 1 (c' := (53, [.ref 0, .int t, .int u, .int l, .null], [.int (-1)], m)) rfl ?_
            exact dx_ret (r := some (.int (-1))) rfl (h0 (by unfold rmB; first | (rw [h6]; rfl) | (rw [h16]; simp; done) | (rw [h26]; simp; done) | (rw [← g8, ← g9, Int32.mul_comm]; simp [q34, q49]; done)))
set_option maxRecDepth 20000 in
theorem lp_mrests {d : Nat} {Z : Option Value → dx_M → Prop} (m0 : dx_M) {f : Nat → Int32} {W H E D Wt sq : Nat} {wa wu : Nat → Int} (hg0 : GM m0 f W H E D Wt sq wa wu) (h1 : ∀ m', (Wt = 0 ∨ sq = 0) → kG m0 m' → Z (some (.int (-4))) m') (h2 : ∀ m', ¬ (Wt = 0 ∨ sq = 0) → kG m0 m' → Z (some (.int (rsI f W H D Wt sq wa wu 4))) m') : ∀ (n k : Nat) (m : dx_M), k + n = 4 → (0 < k → ¬ (Wt = 0 ∨ sq = 0)) → kG m0 m → dx_Go (d + 5) (dx_Sem dx_P lx_M (d + 5)) lx_M km_X4_rests Z (4, [.ref 0, .int (rsI f W H D Wt sq wa wu k), .int (nI k), .null], [], m) := by
  intro n
  induction n with
  | zero =>
    intro k m hk hst hkm
    obtain rfl : k = 4 := by omega
    refine dx_blk 0 (c' := (4, [.ref 0, .int (rsI f W H D Wt sq wa wu 4), .int (nI 4), .null], [], m)) rfl ?_
    refine dx_blk 2 (c' := (6, [.ref 0, .int (rsI f W H D Wt sq wa wu 4), .int (nI 4), .null], [.int 4, .int (nI 4)], m)) rfl ?_
    refine dx_br (q := 4 ≤ (nI 4)) (a := 54) (b := 9) (L := [.ref 0, .int (rsI f W H D Wt sq wa wu 4), .int (nI 4), .null]) (st := []) (m := m) rfl (fun _ => ?_) (fun h => absurd (by decide) h)
    refine dx_blk 1 (c' := (55, [.ref 0, .int (rsI f W H D Wt sq wa wu 4), .int (nI 4), .null], [.int (rsI f W H D Wt sq wa wu 4)], m)) rfl ?_
    exact dx_ret (r := some (.int (rsI f W H D Wt sq wa wu 4))) rfl (h2 m (hst (by decide)) hkm)
  | succ n ih =>
    intro k m hk hst hkm
    have hg := GM_keep hkm hg0
    obtain ⟨g1, g2, g3, g4, g5, g6, g7, g8, g9, g10, g11, g12, g13, g14, g15, g16, g17, g18, g19⟩ := id hg
    have hE := g5
    have eE := g10
    have hW := g2
    have hH := g4
    have eW := g8
    have eH := g9
    refine dx_blk 0 (c' := (4, [.ref 0, .int (rsI f W H D Wt sq wa wu k), .int (nI k), .null], [], m)) rfl ?_
    refine dx_blk 2 (c' := (6, [.ref 0, .int (rsI f W H D Wt sq wa wu k), .int (nI k), .null], [.int 4, .int (nI k)], m)) rfl ?_
    refine dx_br (q := 4 ≤ (nI k)) (a := 54) (b := 9) (L := [.ref 0, .int (rsI f W H D Wt sq wa wu k), .int (nI k), .null]) (st := []) (m := m) rfl (fun h => absurd h (nI_ge (a := k) (b := 4) (by omega) (by decide))) (fun _ => ?_)
    refine dx_blk 3 (c' := (12, [.ref 0, .int (rsI f W H D Wt sq wa wu k), .int (nI k), .null], [.int (nI k), .int 1, .ref 0], m)) rfl ?_
    refine dx_call (id := 121) (as := [.ref 0, .int 1, .int (nI k)]) (rest := []) rfl ?_
    refine sX4_afloat _ true hg _ (fun m1 hk1 hS => ?_)
    refine dx_blk 0 (c' := (15, [.ref 0, .int (rsI f W H D Wt sq wa wu k), .int (nI k), .null], [.int (ansO (ouN f W H D Wt sq (nI k)))], m1)) rfl ?_
    refine dx_blk 3 (c' := (19, [.ref 0, .int (rsI f W H D Wt sq wa wu k), .int (nI k), .int (ansO (ouN f W H D Wt sq (nI k)))], [.int (-4), .int (ansO (ouN f W H D Wt sq (nI k)))], m1)) rfl ?_
    refine dx_br (q := (ansO (ouN f W H D Wt sq (nI k))) = (-4)) (a := 22) (b := 25) (L := [.ref 0, .int (rsI f W H D Wt sq wa wu k), .int (nI k), .int (ansO (ouN f W H D Wt sq (nI k)))]) (st := []) (m := m1) rfl (fun q19 => ?_) (fun q19 => ?_)
    · refine dx_blk 1 (c' := (24, [.ref 0, .int (rsI f W H D Wt sq wa wu k), .int (nI k), .int (ansO (ouN f W H D Wt sq (nI k)))], [.int (-4)], m1)) rfl ?_
      exact dx_ret (r := some (.int (-4))) rfl (h1 m1 (ou_st (by omega) (ans_st.mp q19)) (kG_tr hkm hk1))
    · refine dx_blk 3 (c' := (28, [.ref 0, .int (rsI f W H D Wt sq wa wu k), .int (nI k), .int (ansO (ouN f W H D Wt sq (nI k)))], [.int 1, .int (ansO (ouN f W H D Wt sq (nI k))), .int (rsI f W H D Wt sq wa wu k)], m1)) rfl ?_
      refine dx_br (q := (ansO (ouN f W H D Wt sq (nI k))) = 1) (a := 31) (b := 45) (L := [.ref 0, .int (rsI f W H D Wt sq wa wu k), .int (nI k), .int (ansO (ouN f W H D Wt sq (nI k)))]) (st := [.int (rsI f W H D Wt sq wa wu k)]) (m := m1) rfl (fun q28 => ?_) (fun q28 => ?_)
      · obtain ⟨r, er⟩ := ans_1 q28
        obtain ⟨tn, htn, et, hW0, hrf, hA, ea, eu⟩ := hS r er
        obtain rfl : k = tn := by
          have e := congrArg Int32.toNatClampNeg et
          rw [nI_clamp (by omega), nI_clamp (by omega)] at e
          exact e
        have hg1 := GM_keep hk1 hg
        obtain ⟨y1, y2, y3⟩ := pq_ok (hw_le g2 g4) g7 hW0 hrf
        refine dx_blk 1 (c' := (32, [.ref 0, .int (rsI f W H D Wt sq wa wu k), .int (nI k), .int (ansO (ouN f W H D Wt sq (nI k)))], [.ref 0, .int (rsI f W H D Wt sq wa wu k)], m1)) rfl ?_
        refine dx_call (id := 134) (as := [.ref 0]) (rest := [.int (rsI f W H D Wt sq wa wu k)]) rfl ?_
        refine sX4_holdsNow _ hg1 hrf.1 htn hA ea eu y1 y2 y3 (fun m2 hk2 => ?_)
        refine dx_blk 0 (c' := (35, [.ref 0, .int (rsI f W H D Wt sq wa wu k), .int (nI k), .int (ansO (ouN f W H D Wt sq (nI k)))], [.int (hoT (opS f k W H) (wdN k W H) (htN k W H) r D (pN (opS f k W H) (wdN k W H) r D Wt) (qN (opS f k W H) (wdN k W H) r D) (wa k) (wu k)), .int (rsI f W H D Wt sq wa wu k)], m2)) rfl ?_
        refine dx_blk 1 (c' := (36, [.ref 0, .int (rsI f W H D Wt sq wa wu k), .int (nI k), .int (ansO (ouN f W H D Wt sq (nI k)))], [.int 2, .int (hoT (opS f k W H) (wdN k W H) (htN k W H) r D (pN (opS f k W H) (wdN k W H) r D Wt) (qN (opS f k W H) (wdN k W H) r D) (wa k) (wu k)), .int (rsI f W H D Wt sq wa wu k)], m2)) rfl ?_
        refine dx_br (q := (hoT (opS f k W H) (wdN k W H) (htN k W H) r D (pN (opS f k W H) (wdN k W H) r D Wt) (qN (opS f k W H) (wdN k W H) r D) (wa k) (wu k)) = 2) (a := 39) (b := 45) (L := [.ref 0, .int (rsI f W H D Wt sq wa wu k), .int (nI k), .int (ansO (ouN f W H D Wt sq (nI k)))]) (st := [.int (rsI f W H D Wt sq wa wu k)]) (m := m2) rfl (fun q36 => ?_) (fun q36 => ?_)
        · refine dx_blk 8 (c' := (4, [.ref 0, .int ((rsI f W H D Wt sq wa wu k) ||| ((1 : Int32) <<< ((nI k) &&& 31))), .int ((nI k) + 1), .int (ansO (ouN f W H D Wt sq (nI k)))], [], m2)) rfl ?_
          refine dx_fgt [.ref 0, .int ((rsI f W H D Wt sq wa wu k) ||| ((1 : Int32) <<< ((nI k) &&& 31))), .int ((nI k) + 1), .null] (And.intro (Or.inr rfl) (And.intro (Or.inr rfl) (And.intro (Or.inr rfl) (And.intro (Or.inl rfl) trivial)))) ?_
          rw [show (rsI f W H D Wt sq wa wu k) ||| ((1 : Int32) <<< ((nI k) &&& 31)) = rsI f W H D Wt sq wa wu (k + 1) from (by rw [rsI_s, if_pos (rsB_t er q36)])]
          rw [← nI_succ]
          exact ih (k + 1) m2 (by omega) (fun _ z => q19 (ans_st.mpr (ou_1 (in_03 (by omega)) z))) (kG_tr hkm (kG_tr hk1 hk2))
        · refine dx_blk 5 (c' := (4, [.ref 0, .int ((rsI f W H D Wt sq wa wu k) ||| 0), .int ((nI k) + 1), .int (ansO (ouN f W H D Wt sq (nI k)))], [], m2)) rfl ?_
          refine dx_fgt [.ref 0, .int ((rsI f W H D Wt sq wa wu k) ||| 0), .int ((nI k) + 1), .null] (And.intro (Or.inr rfl) (And.intro (Or.inr rfl) (And.intro (Or.inr rfl) (And.intro (Or.inl rfl) trivial)))) ?_
          rw [show (rsI f W H D Wt sq wa wu k) ||| 0 = rsI f W H D Wt sq wa wu (k + 1) from (by rw [or_0, rsI_s, if_neg (rsB_f er q36)])]
          rw [← nI_succ]
          exact ih (k + 1) m2 (by omega) (fun _ z => q19 (ans_st.mpr (ou_1 (in_03 (by omega)) z))) (kG_tr hkm (kG_tr hk1 hk2))
      · refine dx_blk 5 (c' := (4, [.ref 0, .int ((rsI f W H D Wt sq wa wu k) ||| 0), .int ((nI k) + 1), .int (ansO (ouN f W H D Wt sq (nI k)))], [], m1)) rfl ?_
        refine dx_fgt [.ref 0, .int ((rsI f W H D Wt sq wa wu k) ||| 0), .int ((nI k) + 1), .null] (And.intro (Or.inr rfl) (And.intro (Or.inr rfl) (And.intro (Or.inr rfl) (And.intro (Or.inl rfl) trivial)))) ?_
        rw [show (rsI f W H D Wt sq wa wu k) ||| 0 = rsI f W H D Wt sq wa wu (k + 1) from (by rw [or_0, rsI_s, if_neg (rsB_n (ans_n q28))])]
        rw [← nI_succ]
        exact ih (k + 1) m1 (by omega) (fun _ z => q19 (ans_st.mpr (ou_1 (in_03 (by omega)) z))) (kG_tr hkm hk1)
theorem sX4_rests {d : Nat} (m0 : dx_M) {f : Nat → Int32} {W H E D Wt sq : Nat} {wa wu : Nat → Int} (hg : GM m0 f W H E D Wt sq wa wu) {Z : Option Value → dx_M → Prop} (h1 : ∀ m', (Wt = 0 ∨ sq = 0) → kG m0 m' → Z (some (.int (-4))) m') (h2 : ∀ m', ¬ (Wt = 0 ∨ sq = 0) → kG m0 m' → Z (some (.int (rsI f W H D Wt sq wa wu 4))) m') : dx_Sem dx_P lx_M (d + 6) 136 [.ref 0] m0 Z := by
  refine dx_sem km_X4_rests rfl rfl ?_
  refine dx_blk 4 (c' := (4, [.ref 0, .int 0, .int 0, .null], [], m0)) rfl ?_
  exact lp_mrests m0 hg h1 h2 4 0 m0 rfl (fun h => absurd h (by omega)) (kG_rf hg)
