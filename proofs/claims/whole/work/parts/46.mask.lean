/-! the reference: floats, draft .. room (printed by wip/whole/g46.py) -/
set_option maxRecDepth 20000 in
theorem sX4_floats {d : Nat} (m : dx_M) {f : Nat → Int32} {W H E D Wt sq : Nat} {wa wu : Nat → Int} (hg : GM m f W H E D Wt sq wa wu) (t : Int32) {Z : Option Value → dx_M → Prop} (h1 : ∀ m', kG m m' → Z (some (.int (ansO (ouN f W H D Wt sq t)))) m') : dx_Sem dx_P lx_M (d + 6) 122 [.ref 0, .int t] m Z := by
  obtain ⟨g1, g2, g3, g4, g5, g6, g7, g8, g9, g10, g11, g12, g13, g14, g15, g16, g17, g18, g19⟩ := id hg
  have hE := g5
  have eE := g10
  have hW := g2
  have hH := g4
  have eW := g8
  have eH := g9
  refine dx_sem km_X4_floats rfl rfl ?_
  refine dx_blk 0 (c' := (0, [.ref 0, .int t], [], m)) rfl ?_
  refine dx_blk 3 (c' := (3, [.ref 0, .int t], [.int t, .int 1, .ref 0], m)) rfl ?_
  refine dx_call (id := 121) (as := [.ref 0, .int 1, .int t]) (rest := []) rfl ?_
  refine sX4_afloat _ true hg _ (fun m1 hk1 hS => ?_)
  refine dx_blk 0 (c' := (6, [.ref 0, .int t], [.int (ansO (ouN f W H D Wt sq t))], m1)) rfl ?_
  exact dx_ret (r := some (.int (ansO (ouN f W H D Wt sq t)))) rfl (h1 m1 hk1)
set_option maxRecDepth 20000 in
theorem sX4_draft {d : Nat} (m : dx_M) {f : Nat → Int32} {W H E D Wt sq : Nat} {wa wu : Nat → Int} (hg : GM m f W H E D Wt sq wa wu) (t : Int32) {Z : Option Value → dx_M → Prop} (hN : ∀ m', ouN f W H D Wt sq t < 3 → kG m m' → Z (some (.int (ansO (ouN f W H D Wt sq t)))) m') (hY : ∀ tn r m', tn < 4 → t = nI tn → ouN f W H D Wt sq t = r + 3 → 0 < Wt → rfP (opS f tn W H) (wdN tn W H) (htN tn W H) D Wt r → kG m m' → Z (some (.int 1)) (dx_pL (dx_pL m' 0 2 (tU ((r : Int) * (qN (opS f tn W H) (wdN tn W H) r D) + (pN (opS f tn W H) (wdN tn W H) r D Wt)) (qN (opS f tn W H) (wdN tn W H) r D))) 0 3 (tL ((r : Int) * (qN (opS f tn W H) (wdN tn W H) r D) + (pN (opS f tn W H) (wdN tn W H) r D Wt)) (qN (opS f tn W H) (wdN tn W H) r D)))) : dx_Sem dx_P lx_M (d + 6) 123 [.ref 0, .int t] m Z := by
  obtain ⟨g1, g2, g3, g4, g5, g6, g7, g8, g9, g10, g11, g12, g13, g14, g15, g16, g17, g18, g19⟩ := id hg
  have hE := g5
  have eE := g10
  have hW := g2
  have hH := g4
  have eW := g8
  have eH := g9
  refine dx_sem km_X4_draft rfl rfl ?_
  refine dx_blk 0 (c' := (0, [.ref 0, .int t, .null], [], m)) rfl ?_
  refine dx_blk 3 (c' := (3, [.ref 0, .int t, .null], [.int t, .int 1, .ref 0], m)) rfl ?_
  refine dx_call (id := 121) (as := [.ref 0, .int 1, .int t]) (rest := []) rfl ?_
  refine sX4_afloat _ true hg _ (fun m1 hk1 hS => ?_)
  refine dx_blk 0 (c' := (6, [.ref 0, .int t, .null], [.int (ansO (ouN f W H D Wt sq t))], m1)) rfl ?_
  refine dx_blk 2 (c' := (8, [.ref 0, .int t, .int (ansO (ouN f W H D Wt sq t))], [.int (ansO (ouN f W H D Wt sq t))], m1)) rfl ?_
  refine dx_br (q := 0 ≤ (ansO (ouN f W H D Wt sq t))) (a := 15) (b := 11) (L := [.ref 0, .int t, .int (ansO (ouN f W H D Wt sq t))]) (st := []) (m := m1) rfl (fun q8 => ?_) (fun q8 => ?_)
  · obtain ⟨r, er⟩ := ans_g q8
    obtain ⟨tn, htn, rfl, hW0, hrf, hA, ea, eu⟩ := hS r er
    have hg1 := GM_keep hk1 hg
    obtain ⟨y1, y2, y3⟩ := pq_ok (hw_le g2 g4) g7 hW0 hrf
    have hr := hrf.1
    have hh12 : htN tn W H ≤ 12 := ht_le g2 g4
    obtain ⟨w1, w2, w3, w4⟩ := hg1.2.2.2.2.2.2.2.2.2.2.2.2.2.2.2.2.1 tn htn
    have eD : (m1.1 0 6).toInt64 = lZ D := by rw [hg1.2.2.2.2.2.2.2.2.2.2.1, lZ_n (by omega)]
    obtain ⟨hl, hm, er0, ef, ep, eq⟩ := id hA
    refine dx_blk 12 (c' := (35, [.ref 0, .int (nI tn), .int (ansO (ouN f W H D Wt sq (nI tn)))], [.long (m1.2 0 26), .long ((((m1.1 0 24).toInt64) * (m1.2 0 26)) + (m1.2 0 25)), .ref 0], m1)) rfl ?_
    refine dx_call (id := 87) (as := [.ref 0, .long ((((m1.1 0 24).toInt64) * (m1.2 0 26)) + (m1.2 0 25)), .long (m1.2 0 26)]) (rest := []) rfl ?_
    refine sX4_tellE _ (u := ((r : Int) * (qN (opS f tn W H) (wdN tn W H) r D) + (pN (opS f tn W H) (wdN tn W H) r D Wt))) (l := (qN (opS f tn W H) (wdN tn W H) r D)) (by rw [er0, lZ_n (by omega), eq, ep, lZ_mul, lZ_add]) (by exact eq) (by exact tl_draft (by omega) y1 y2 y3) ?_
    refine dx_blk 0 (c' := (38, [.ref 0, .int (nI tn), .int (ansO (ouN f W H D Wt sq (nI tn)))], [.int 1], dx_pL (dx_pL m1 0 2 (tU ((r : Int) * (qN (opS f tn W H) (wdN tn W H) r D) + (pN (opS f tn W H) (wdN tn W H) r D Wt)) (qN (opS f tn W H) (wdN tn W H) r D))) 0 3 (tL ((r : Int) * (qN (opS f tn W H) (wdN tn W H) r D) + (pN (opS f tn W H) (wdN tn W H) r D Wt)) (qN (opS f tn W H) (wdN tn W H) r D)))) rfl ?_
    exact dx_ret (r := some (.int 1)) rfl (hY tn r m1 htn rfl er hW0 hrf hk1)
  · refine dx_blk 2 (c' := (38, [.ref 0, .int t, .int (ansO (ouN f W H D Wt sq t))], [.int (ansO (ouN f W H D Wt sq t))], m1)) rfl ?_
    exact dx_ret (r := some (.int (ansO (ouN f W H D Wt sq t)))) rfl (hN m1 (ans_l q8) hk1)
set_option maxRecDepth 20000 in
theorem sX4_above {d : Nat} (m : dx_M) {f : Nat → Int32} {W H E D Wt sq : Nat} {wa wu : Nat → Int} (hg : GM m f W H E D Wt sq wa wu) (t : Int32) {Z : Option Value → dx_M → Prop} (hN : ∀ m', ouN f W H D Wt sq t < 3 → kG m m' → Z (some (.int (ansO (ouN f W H D Wt sq t)))) m') (hY : ∀ tn r m', tn < 4 → t = nI tn → ouN f W H D Wt sq t = r + 3 → 0 < Wt → rfP (opS f tn W H) (wdN tn W H) (htN tn W H) D Wt r → kG m m' → Z (some (.int 1)) (dx_pL (dx_pL m' 0 2 (tU ((((htN tn W H : Nat) : Int) - r) * (qN (opS f tn W H) (wdN tn W H) r D) - (pN (opS f tn W H) (wdN tn W H) r D Wt)) (qN (opS f tn W H) (wdN tn W H) r D))) 0 3 (tL ((((htN tn W H : Nat) : Int) - r) * (qN (opS f tn W H) (wdN tn W H) r D) - (pN (opS f tn W H) (wdN tn W H) r D Wt)) (qN (opS f tn W H) (wdN tn W H) r D)))) : dx_Sem dx_P lx_M (d + 6) 124 [.ref 0, .int t] m Z := by
  obtain ⟨g1, g2, g3, g4, g5, g6, g7, g8, g9, g10, g11, g12, g13, g14, g15, g16, g17, g18, g19⟩ := id hg
  have hE := g5
  have eE := g10
  have hW := g2
  have hH := g4
  have eW := g8
  have eH := g9
  refine dx_sem km_X4_above rfl rfl ?_
  refine dx_blk 0 (c' := (0, [.ref 0, .int t, .null], [], m)) rfl ?_
  refine dx_blk 3 (c' := (3, [.ref 0, .int t, .null], [.int t, .int 1, .ref 0], m)) rfl ?_
  refine dx_call (id := 121) (as := [.ref 0, .int 1, .int t]) (rest := []) rfl ?_
  refine sX4_afloat _ true hg _ (fun m1 hk1 hS => ?_)
  refine dx_blk 0 (c' := (6, [.ref 0, .int t, .null], [.int (ansO (ouN f W H D Wt sq t))], m1)) rfl ?_
  refine dx_blk 2 (c' := (8, [.ref 0, .int t, .int (ansO (ouN f W H D Wt sq t))], [.int (ansO (ouN f W H D Wt sq t))], m1)) rfl ?_
  refine dx_br (q := 0 ≤ (ansO (ouN f W H D Wt sq t))) (a := 15) (b := 11) (L := [.ref 0, .int t, .int (ansO (ouN f W H D Wt sq t))]) (st := []) (m := m1) rfl (fun q8 => ?_) (fun q8 => ?_)
  · obtain ⟨r, er⟩ := ans_g q8
    obtain ⟨tn, htn, rfl, hW0, hrf, hA, ea, eu⟩ := hS r er
    have hg1 := GM_keep hk1 hg
    obtain ⟨y1, y2, y3⟩ := pq_ok (hw_le g2 g4) g7 hW0 hrf
    have hr := hrf.1
    have hh12 : htN tn W H ≤ 12 := ht_le g2 g4
    obtain ⟨w1, w2, w3, w4⟩ := hg1.2.2.2.2.2.2.2.2.2.2.2.2.2.2.2.2.1 tn htn
    have eD : (m1.1 0 6).toInt64 = lZ D := by rw [hg1.2.2.2.2.2.2.2.2.2.2.1, lZ_n (by omega)]
    obtain ⟨hl, hm, er0, ef, ep, eq⟩ := id hA
    refine dx_blk 15 (c' := (40, [.ref 0, .int (nI tn), .int (ansO (ouN f W H D Wt sq (nI tn)))], [.long (m1.2 0 26), .long (((((m1.1 0 19) - (m1.1 0 24)).toInt64) * (m1.2 0 26)) - (m1.2 0 25)), .ref 0], m1)) rfl ?_
    refine dx_call (id := 87) (as := [.ref 0, .long (((((m1.1 0 19) - (m1.1 0 24)).toInt64) * (m1.2 0 26)) - (m1.2 0 25)), .long (m1.2 0 26)]) (rest := []) rfl ?_
    refine sX4_tellE _ (u := (((htN tn W H : Nat) : Int) - r) * (qN (opS f tn W H) (wdN tn W H) r D) - (pN (opS f tn W H) (wdN tn W H) r D Wt)) (l := (qN (opS f tn W H) (wdN tn W H) r D)) (by rw [er0, hl.2.2.2.2.1, sub_I (by omega) (by omega), eq, ep, lZ_mul, lZ_sub]) (by exact eq) (by exact tl_above hh12 hr y1 y2 y3) ?_
    refine dx_blk 0 (c' := (43, [.ref 0, .int (nI tn), .int (ansO (ouN f W H D Wt sq (nI tn)))], [.int 1], dx_pL (dx_pL m1 0 2 (tU ((((htN tn W H : Nat) : Int) - r) * (qN (opS f tn W H) (wdN tn W H) r D) - (pN (opS f tn W H) (wdN tn W H) r D Wt)) (qN (opS f tn W H) (wdN tn W H) r D))) 0 3 (tL ((((htN tn W H : Nat) : Int) - r) * (qN (opS f tn W H) (wdN tn W H) r D) - (pN (opS f tn W H) (wdN tn W H) r D Wt)) (qN (opS f tn W H) (wdN tn W H) r D)))) rfl ?_
    exact dx_ret (r := some (.int 1)) rfl (hY tn r m1 htn rfl er hW0 hrf hk1)
  · refine dx_blk 2 (c' := (43, [.ref 0, .int t, .int (ansO (ouN f W H D Wt sq t))], [.int (ansO (ouN f W H D Wt sq t))], m1)) rfl ?_
    exact dx_ret (r := some (.int (ansO (ouN f W H D Wt sq t)))) rfl (hN m1 (ans_l q8) hk1)
set_option maxRecDepth 20000 in
theorem sX4_leans {d : Nat} (m : dx_M) {f : Nat → Int32} {W H E D Wt sq : Nat} {wa wu : Nat → Int} (hg : GM m f W H E D Wt sq wa wu) (t : Int32) {Z : Option Value → dx_M → Prop} (hN : ∀ m', ouN f W H D Wt sq t < 3 → kG m m' → Z (some (.int (ansO (ouN f W H D Wt sq t)))) m') (hY : ∀ tn r m', tn < 4 → t = nI tn → ouN f W H D Wt sq t = r + 3 → 0 < Wt → rfP (opS f tn W H) (wdN tn W H) (htN tn W H) D Wt r → kG m m' → Z (some (.int (leT (opS f tn W H) (wdN tn W H) r D (pN (opS f tn W H) (wdN tn W H) r D Wt) (qN (opS f tn W H) (wdN tn W H) r D) (wa tn)))) m') : dx_Sem dx_P lx_M (d + 6) 130 [.ref 0, .int t] m Z := by
  obtain ⟨g1, g2, g3, g4, g5, g6, g7, g8, g9, g10, g11, g12, g13, g14, g15, g16, g17, g18, g19⟩ := id hg
  have hE := g5
  have eE := g10
  have hW := g2
  have hH := g4
  have eW := g8
  have eH := g9
  refine dx_sem km_X4_leans rfl rfl ?_
  refine dx_blk 0 (c' := (0, [.ref 0, .int t, .null], [], m)) rfl ?_
  refine dx_blk 3 (c' := (3, [.ref 0, .int t, .null], [.int t, .int 1, .ref 0], m)) rfl ?_
  refine dx_call (id := 121) (as := [.ref 0, .int 1, .int t]) (rest := []) rfl ?_
  refine sX4_afloat _ true hg _ (fun m1 hk1 hS => ?_)
  refine dx_blk 0 (c' := (6, [.ref 0, .int t, .null], [.int (ansO (ouN f W H D Wt sq t))], m1)) rfl ?_
  refine dx_blk 2 (c' := (8, [.ref 0, .int t, .int (ansO (ouN f W H D Wt sq t))], [.int (ansO (ouN f W H D Wt sq t))], m1)) rfl ?_
  refine dx_br (q := 0 ≤ (ansO (ouN f W H D Wt sq t))) (a := 13) (b := 11) (L := [.ref 0, .int t, .int (ansO (ouN f W H D Wt sq t))]) (st := []) (m := m1) rfl (fun q8 => ?_) (fun q8 => ?_)
  · obtain ⟨r, er⟩ := ans_g q8
    obtain ⟨tn, htn, rfl, hW0, hrf, hA, ea, eu⟩ := hS r er
    have hg1 := GM_keep hk1 hg
    obtain ⟨y1, y2, y3⟩ := pq_ok (hw_le g2 g4) g7 hW0 hrf
    have hr := hrf.1
    have hh12 : htN tn W H ≤ 12 := ht_le g2 g4
    obtain ⟨w1, w2, w3, w4⟩ := hg1.2.2.2.2.2.2.2.2.2.2.2.2.2.2.2.2.1 tn htn
    have eD : (m1.1 0 6).toInt64 = lZ D := by rw [hg1.2.2.2.2.2.2.2.2.2.2.1, lZ_n (by omega)]
    obtain ⟨hl, hm, er0, ef, ep, eq⟩ := id hA
    refine dx_blk 1 (c' := (14, [.ref 0, .int (nI tn), .int (ansO (ouN f W H D Wt sq (nI tn)))], [.ref 0], m1)) rfl ?_
    refine dx_call (id := 126) (as := [.ref 0]) (rest := []) rfl ?_
    refine sX4_layPowers _ hr hA (fun m2 hk2 e32 e33 e34 e35 => ?_)
    have eD2 : m2.1 0 6 = nI D := by rw [hk2.1]; exact hg1.2.2.2.2.2.2.2.2.2.2.1
    have hg2 := GM_keep (keepP_G hk2 hk1.2) hg1
    have ea2 : m2.2 0 21 = lZ (wa tn) := (hk2.2.2 21 (by decide)).trans ea
    have eu2 : m2.2 0 22 = lZ (wu tn) := (hk2.2.2 22 (by decide)).trans eu
    have eD3 : (m2.1 0 6).toInt64 = lZ D := by rw [eD2, lZ_n (by omega)]
    refine dx_blk 0 (c' := (17, [.ref 0, .int (nI tn), .int (ansO (ouN f W H D Wt sq (nI tn)))], [], m2)) rfl ?_
    refine dx_blk 1 (c' := (18, [.ref 0, .int (nI tn), .int (ansO (ouN f W H D Wt sq (nI tn)))], [.ref 0], m2)) rfl ?_
    refine dx_call (id := 129) (as := [.ref 0]) (rest := []) rfl ?_
    refine sX4_lean _ g7 eD2 ea2 e33 e32 ?_
    refine dx_blk 0 (c' := (21, [.ref 0, .int (nI tn), .int (ansO (ouN f W H D Wt sq (nI tn)))], [.long (lZ (2 * (wa tn * (qN (opS f tn W H) (wdN tn W H) r D)) - 2 * (pwX (opS f tn W H) (wdN tn W H) r (pN (opS f tn W H) (wdN tn W H) r D Wt) (qN (opS f tn W H) (wdN tn W H) r D) * D)))], m2)) rfl ?_
    refine dx_blk 2 (c' := (23, [.ref 0, .int (nI tn), .int (ansO (ouN f W H D Wt sq (nI tn)))], [.int (lg_cmp (lZ (2 * (wa tn * (qN (opS f tn W H) (wdN tn W H) r D)) - 2 * (pwX (opS f tn W H) (wdN tn W H) r (pN (opS f tn W H) (wdN tn W H) r D Wt) (qN (opS f tn W H) (wdN tn W H) r D) * D))) 0)], m2)) rfl ?_
    refine dx_brQ (q := (lg_cmp (lZ (2 * (wa tn * (qN (opS f tn W H) (wdN tn W H) r D)) - 2 * (pwX (opS f tn W H) (wdN tn W H) r (pN (opS f tn W H) (wdN tn W H) r D Wt) (qN (opS f tn W H) (wdN tn W H) r D) * D))) 0) = 0) (a := 26) (b := 30) (L := [.ref 0, .int (nI tn), .int (ansO (ouN f W H D Wt sq (nI tn)))]) (st := []) (m := m2) (lc_eq _ _) rfl (fun q23 => ?_) (fun q23 => ?_)
    · refine dx_blk 2 (c' := (44, [.ref 0, .int (nI tn), .int (ansO (ouN f W H D Wt sq (nI tn)))], [.int 0], m2)) rfl ?_
      exact dx_ret (r := some (.int 0)) rfl (by
    have e1 := (lZ_eqB (bd_sub (bd_mul (show (2 : Int).natAbs ≤ 2 by decide) (bd_mul w3 (show (qN (opS f tn W H) (wdN tn W H) r D).natAbs ≤ 240 by omega))) (bd_mul (show (2 : Int).natAbs ≤ 2 by decide) (bd_mul (pwX_bd (hw_le g2 g4) (by omega) y1 y2 y3) (bd_n g7)))) (show (0 : Int).natAbs ≤ 0 by decide) (by decide) (by decide)).mp q23
    have e : leT (opS f tn W H) (wdN tn W H) r D (pN (opS f tn W H) (wdN tn W H) r D Wt) (qN (opS f tn W H) (wdN tn W H) r D) (wa tn) = 0 := by unfold leT leZ; rw [if_pos (by omega)]
    have hz := hY tn r m2 htn rfl er hW0 hrf (kG_tr hk1 (keepP_G hk2 hk1.2))
    rw [e] at hz; exact hz)
    · refine dx_blk 1 (c' := (31, [.ref 0, .int (nI tn), .int (ansO (ouN f W H D Wt sq (nI tn)))], [.ref 0], m2)) rfl ?_
      refine dx_call (id := 129) (as := [.ref 0]) (rest := []) rfl ?_
      refine sX4_lean _ g7 eD2 ea2 e33 e32 ?_
      refine dx_blk 0 (c' := (34, [.ref 0, .int (nI tn), .int (ansO (ouN f W H D Wt sq (nI tn)))], [.long (lZ (2 * (wa tn * (qN (opS f tn W H) (wdN tn W H) r D)) - 2 * (pwX (opS f tn W H) (wdN tn W H) r (pN (opS f tn W H) (wdN tn W H) r D Wt) (qN (opS f tn W H) (wdN tn W H) r D) * D)))], m2)) rfl ?_
      refine dx_blk 2 (c' := (36, [.ref 0, .int (nI tn), .int (ansO (ouN f W H D Wt sq (nI tn)))], [.int (lg_cmp (lZ (2 * (wa tn * (qN (opS f tn W H) (wdN tn W H) r D)) - 2 * (pwX (opS f tn W H) (wdN tn W H) r (pN (opS f tn W H) (wdN tn W H) r D Wt) (qN (opS f tn W H) (wdN tn W H) r D) * D))) 0)], m2)) rfl ?_
      refine dx_brQ (q := 0 ≤ (lg_cmp (lZ (2 * (wa tn * (qN (opS f tn W H) (wdN tn W H) r D)) - 2 * (pwX (opS f tn W H) (wdN tn W H) r (pN (opS f tn W H) (wdN tn W H) r D Wt) (qN (opS f tn W H) (wdN tn W H) r D) * D))) 0)) (a := 43) (b := 39) (L := [.ref 0, .int (nI tn), .int (ansO (ouN f W H D Wt sq (nI tn)))]) (st := []) (m := m2) (lc_ge _ _) rfl (fun q36 => ?_) (fun q36 => ?_)
      · refine dx_blk 1 (c' := (44, [.ref 0, .int (nI tn), .int (ansO (ouN f W H D Wt sq (nI tn)))], [.int 2], m2)) rfl ?_
        exact dx_ret (r := some (.int 2)) rfl (by
    have e1 : ¬ (2 * (wa tn * (qN (opS f tn W H) (wdN tn W H) r D)) - 2 * (pwX (opS f tn W H) (wdN tn W H) r (pN (opS f tn W H) (wdN tn W H) r D Wt) (qN (opS f tn W H) (wdN tn W H) r D) * D) = 0) := fun z => q23 ((lZ_eqB (bd_sub (bd_mul (show (2 : Int).natAbs ≤ 2 by decide) (bd_mul w3 (show (qN (opS f tn W H) (wdN tn W H) r D).natAbs ≤ 240 by omega))) (bd_mul (show (2 : Int).natAbs ≤ 2 by decide) (bd_mul (pwX_bd (hw_le g2 g4) (by omega) y1 y2 y3) (bd_n g7)))) (show (0 : Int).natAbs ≤ 0 by decide) (by decide) (by decide)).mpr z)
    have e2 := (lZ_leB (show (0 : Int).natAbs ≤ 0 by decide) (bd_sub (bd_mul (show (2 : Int).natAbs ≤ 2 by decide) (bd_mul w3 (show (qN (opS f tn W H) (wdN tn W H) r D).natAbs ≤ 240 by omega))) (bd_mul (show (2 : Int).natAbs ≤ 2 by decide) (bd_mul (pwX_bd (hw_le g2 g4) (by omega) y1 y2 y3) (bd_n g7)))) (by decide) (by decide)).mp q36
    have e : leT (opS f tn W H) (wdN tn W H) r D (pN (opS f tn W H) (wdN tn W H) r D Wt) (qN (opS f tn W H) (wdN tn W H) r D) (wa tn) = 2 := by unfold leT leZ; rw [if_neg (by omega), if_neg (by omega)]
    have hz := hY tn r m2 htn rfl er hW0 hrf (kG_tr hk1 (keepP_G hk2 hk1.2))
    rw [e] at hz; exact hz)
      · refine dx_blk 2 (c' := (44, [.ref 0, .int (nI tn), .int (ansO (ouN f W H D Wt sq (nI tn)))], [.int 1], m2)) rfl ?_
        exact dx_ret (r := some (.int 1)) rfl (by
    have e1 : ¬ (2 * (wa tn * (qN (opS f tn W H) (wdN tn W H) r D)) - 2 * (pwX (opS f tn W H) (wdN tn W H) r (pN (opS f tn W H) (wdN tn W H) r D Wt) (qN (opS f tn W H) (wdN tn W H) r D) * D) = 0) := fun z => q23 ((lZ_eqB (bd_sub (bd_mul (show (2 : Int).natAbs ≤ 2 by decide) (bd_mul w3 (show (qN (opS f tn W H) (wdN tn W H) r D).natAbs ≤ 240 by omega))) (bd_mul (show (2 : Int).natAbs ≤ 2 by decide) (bd_mul (pwX_bd (hw_le g2 g4) (by omega) y1 y2 y3) (bd_n g7)))) (show (0 : Int).natAbs ≤ 0 by decide) (by decide) (by decide)).mpr z)
    have e2 : ¬ (0 ≤ 2 * (wa tn * (qN (opS f tn W H) (wdN tn W H) r D)) - 2 * (pwX (opS f tn W H) (wdN tn W H) r (pN (opS f tn W H) (wdN tn W H) r D Wt) (qN (opS f tn W H) (wdN tn W H) r D) * D)) := fun z => q36 ((lZ_leB (show (0 : Int).natAbs ≤ 0 by decide) (bd_sub (bd_mul (show (2 : Int).natAbs ≤ 2 by decide) (bd_mul w3 (show (qN (opS f tn W H) (wdN tn W H) r D).natAbs ≤ 240 by omega))) (bd_mul (show (2 : Int).natAbs ≤ 2 by decide) (bd_mul (pwX_bd (hw_le g2 g4) (by omega) y1 y2 y3) (bd_n g7)))) (by decide) (by decide)).mpr z)
    have e : leT (opS f tn W H) (wdN tn W H) r D (pN (opS f tn W H) (wdN tn W H) r D Wt) (qN (opS f tn W H) (wdN tn W H) r D) (wa tn) = 1 := by unfold leT leZ; rw [if_neg (by omega), if_pos (by omega)]
    have hz := hY tn r m2 htn rfl er hW0 hrf (kG_tr hk1 (keepP_G hk2 hk1.2))
    rw [e] at hz; exact hz)
  · refine dx_blk 1 (c' := (12, [.ref 0, .int t, .int (ansO (ouN f W H D Wt sq t))], [.int (ansO (ouN f W H D Wt sq t))], m1)) rfl ?_
    exact dx_ret (r := some (.int (ansO (ouN f W H D Wt sq t)))) rfl (hN m1 (ans_l q8) hk1)
set_option maxRecDepth 20000 in
theorem sX4_holds {d : Nat} (m : dx_M) {f : Nat → Int32} {W H E D Wt sq : Nat} {wa wu : Nat → Int} (hg : GM m f W H E D Wt sq wa wu) (t : Int32) {Z : Option Value → dx_M → Prop} (hN : ∀ m', ouN f W H D Wt sq t < 3 → kG m m' → Z (some (.int (ansO (ouN f W H D Wt sq t)))) m') (hY : ∀ tn r m', tn < 4 → t = nI tn → ouN f W H D Wt sq t = r + 3 → 0 < Wt → rfP (opS f tn W H) (wdN tn W H) (htN tn W H) D Wt r → kG m m' → Z (some (.int (hoT (opS f tn W H) (wdN tn W H) (htN tn W H) r D (pN (opS f tn W H) (wdN tn W H) r D Wt) (qN (opS f tn W H) (wdN tn W H) r D) (wa tn) (wu tn)))) m') : dx_Sem dx_P lx_M (d + 6) 135 [.ref 0, .int t] m Z := by
  obtain ⟨g1, g2, g3, g4, g5, g6, g7, g8, g9, g10, g11, g12, g13, g14, g15, g16, g17, g18, g19⟩ := id hg
  have hE := g5
  have eE := g10
  have hW := g2
  have hH := g4
  have eW := g8
  have eH := g9
  refine dx_sem km_X4_holds rfl rfl ?_
  refine dx_blk 0 (c' := (0, [.ref 0, .int t, .null], [], m)) rfl ?_
  refine dx_blk 3 (c' := (3, [.ref 0, .int t, .null], [.int t, .int 1, .ref 0], m)) rfl ?_
  refine dx_call (id := 121) (as := [.ref 0, .int 1, .int t]) (rest := []) rfl ?_
  refine sX4_afloat _ true hg _ (fun m1 hk1 hS => ?_)
  refine dx_blk 0 (c' := (6, [.ref 0, .int t, .null], [.int (ansO (ouN f W H D Wt sq t))], m1)) rfl ?_
  refine dx_blk 2 (c' := (8, [.ref 0, .int t, .int (ansO (ouN f W H D Wt sq t))], [.int (ansO (ouN f W H D Wt sq t))], m1)) rfl ?_
  refine dx_br (q := 0 ≤ (ansO (ouN f W H D Wt sq t))) (a := 15) (b := 11) (L := [.ref 0, .int t, .int (ansO (ouN f W H D Wt sq t))]) (st := []) (m := m1) rfl (fun q8 => ?_) (fun q8 => ?_)
  · obtain ⟨r, er⟩ := ans_g q8
    obtain ⟨tn, htn, rfl, hW0, hrf, hA, ea, eu⟩ := hS r er
    have hg1 := GM_keep hk1 hg
    obtain ⟨y1, y2, y3⟩ := pq_ok (hw_le g2 g4) g7 hW0 hrf
    have hr := hrf.1
    have hh12 : htN tn W H ≤ 12 := ht_le g2 g4
    obtain ⟨w1, w2, w3, w4⟩ := hg1.2.2.2.2.2.2.2.2.2.2.2.2.2.2.2.2.1 tn htn
    have eD : (m1.1 0 6).toInt64 = lZ D := by rw [hg1.2.2.2.2.2.2.2.2.2.2.1, lZ_n (by omega)]
    obtain ⟨hl, hm, er0, ef, ep, eq⟩ := id hA
    refine dx_blk 1 (c' := (16, [.ref 0, .int (nI tn), .int (ansO (ouN f W H D Wt sq (nI tn)))], [.ref 0], m1)) rfl ?_
    refine dx_call (id := 134) (as := [.ref 0]) (rest := []) rfl ?_
    refine sX4_holdsNow _ hg1 hr htn hA ea eu y1 y2 y3 (fun m2 hk2 => ?_)
    refine dx_blk 0 (c' := (19, [.ref 0, .int (nI tn), .int (ansO (ouN f W H D Wt sq (nI tn)))], [.int (hoT (opS f tn W H) (wdN tn W H) (htN tn W H) r D (pN (opS f tn W H) (wdN tn W H) r D Wt) (qN (opS f tn W H) (wdN tn W H) r D) (wa tn) (wu tn))], m2)) rfl ?_
    exact dx_ret (r := some (.int (hoT (opS f tn W H) (wdN tn W H) (htN tn W H) r D (pN (opS f tn W H) (wdN tn W H) r D Wt) (qN (opS f tn W H) (wdN tn W H) r D) (wa tn) (wu tn)))) rfl (hY tn r m2 htn rfl er hW0 hrf (kG_tr hk1 hk2))
  · refine dx_blk 2 (c' := (19, [.ref 0, .int t, .int (ansO (ouN f W H D Wt sq t))], [.int (ansO (ouN f W H D Wt sq t))], m1)) rfl ?_
    exact dx_ret (r := some (.int (ansO (ouN f W H D Wt sq t)))) rfl (hN m1 (ans_l q8) hk1)
set_option maxRecDepth 20000 in
theorem sX4_breadth {d : Nat} (m : dx_M) {f : Nat → Int32} {W H E D Wt sq : Nat} {wa wu : Nat → Int} (hg : GM m f W H E D Wt sq wa wu) (t : Int32) {Z : Option Value → dx_M → Prop} (hN : ∀ m', ouN f W H D Wt sq t < 3 → kG m m' → Z (some (.int (ansO (ouN f W H D Wt sq t)))) m') (hY : ∀ tn r m', tn < 4 → t = nI tn → ouN f W H D Wt sq t = r + 3 → 0 < Wt → rfP (opS f tn W H) (wdN tn W H) (htN tn W H) D Wt r → kG m m' → Z (some (.int 1)) (dx_pL (dx_pL m' 0 2 (tU (brU (opS f tn W H) (wdN tn W H) (htN tn W H) r (pN (opS f tn W H) (wdN tn W H) r D Wt) (qN (opS f tn W H) (wdN tn W H) r D)) (brL (opS f tn W H) (wdN tn W H) (htN tn W H) r (pN (opS f tn W H) (wdN tn W H) r D Wt) (qN (opS f tn W H) (wdN tn W H) r D)))) 0 3 (tL (brU (opS f tn W H) (wdN tn W H) (htN tn W H) r (pN (opS f tn W H) (wdN tn W H) r D Wt) (qN (opS f tn W H) (wdN tn W H) r D)) (brL (opS f tn W H) (wdN tn W H) (htN tn W H) r (pN (opS f tn W H) (wdN tn W H) r D Wt) (qN (opS f tn W H) (wdN tn W H) r D))))) : dx_Sem dx_P lx_M (d + 6) 133 [.ref 0, .int t] m Z := by
  obtain ⟨g1, g2, g3, g4, g5, g6, g7, g8, g9, g10, g11, g12, g13, g14, g15, g16, g17, g18, g19⟩ := id hg
  have hE := g5
  have eE := g10
  have hW := g2
  have hH := g4
  have eW := g8
  have eH := g9
  refine dx_sem km_X4_breadth rfl rfl ?_
  refine dx_blk 0 (c' := (0, [.ref 0, .int t, .null], [], m)) rfl ?_
  refine dx_blk 3 (c' := (3, [.ref 0, .int t, .null], [.int t, .int 1, .ref 0], m)) rfl ?_
  refine dx_call (id := 121) (as := [.ref 0, .int 1, .int t]) (rest := []) rfl ?_
  refine sX4_afloat _ true hg _ (fun m1 hk1 hS => ?_)
  refine dx_blk 0 (c' := (6, [.ref 0, .int t, .null], [.int (ansO (ouN f W H D Wt sq t))], m1)) rfl ?_
  refine dx_blk 2 (c' := (8, [.ref 0, .int t, .int (ansO (ouN f W H D Wt sq t))], [.int (ansO (ouN f W H D Wt sq t))], m1)) rfl ?_
  refine dx_br (q := 0 ≤ (ansO (ouN f W H D Wt sq t))) (a := 13) (b := 11) (L := [.ref 0, .int t, .int (ansO (ouN f W H D Wt sq t))]) (st := []) (m := m1) rfl (fun q8 => ?_) (fun q8 => ?_)
  · obtain ⟨r, er⟩ := ans_g q8
    obtain ⟨tn, htn, rfl, hW0, hrf, hA, ea, eu⟩ := hS r er
    have hg1 := GM_keep hk1 hg
    obtain ⟨y1, y2, y3⟩ := pq_ok (hw_le g2 g4) g7 hW0 hrf
    have hr := hrf.1
    have hh12 : htN tn W H ≤ 12 := ht_le g2 g4
    obtain ⟨w1, w2, w3, w4⟩ := hg1.2.2.2.2.2.2.2.2.2.2.2.2.2.2.2.2.1 tn htn
    have eD : (m1.1 0 6).toInt64 = lZ D := by rw [hg1.2.2.2.2.2.2.2.2.2.2.1, lZ_n (by omega)]
    obtain ⟨hl, hm, er0, ef, ep, eq⟩ := id hA
    refine dx_blk 1 (c' := (14, [.ref 0, .int (nI tn), .int (ansO (ouN f W H D Wt sq (nI tn)))], [.ref 0], m1)) rfl ?_
    refine dx_call (id := 132) (as := [.ref 0]) (rest := []) rfl ?_
    refine sX4_leastBreadth _ hr hA (fun m2 hk2 hm2 e36 e37 => ?_)
    refine dx_blk 0 (c' := (17, [.ref 0, .int (nI tn), .int (ansO (ouN f W H D Wt sq (nI tn)))], [], m2)) rfl ?_
    refine dx_blk 5 (c' := (26, [.ref 0, .int (nI tn), .int (ansO (ouN f W H D Wt sq (nI tn)))], [.long (m2.2 0 37), .long (m2.2 0 36), .ref 0], m2)) rfl ?_
    refine dx_call (id := 87) (as := [.ref 0, .long (m2.2 0 36), .long (m2.2 0 37)]) (rest := []) rfl ?_
    refine sX4_tellE _ (u := (brU (opS f tn W H) (wdN tn W H) (htN tn W H) r (pN (opS f tn W H) (wdN tn W H) r D Wt) (qN (opS f tn W H) (wdN tn W H) r D))) (l := (brL (opS f tn W H) (wdN tn W H) (htN tn W H) r (pN (opS f tn W H) (wdN tn W H) r D Wt) (qN (opS f tn W H) (wdN tn W H) r D))) (by exact e36) (by exact e37) (by exact tl_br (hw_le g2 g4)) ?_
    refine dx_blk 0 (c' := (29, [.ref 0, .int (nI tn), .int (ansO (ouN f W H D Wt sq (nI tn)))], [.int 1], dx_pL (dx_pL m2 0 2 (tU (brU (opS f tn W H) (wdN tn W H) (htN tn W H) r (pN (opS f tn W H) (wdN tn W H) r D Wt) (qN (opS f tn W H) (wdN tn W H) r D)) (brL (opS f tn W H) (wdN tn W H) (htN tn W H) r (pN (opS f tn W H) (wdN tn W H) r D Wt) (qN (opS f tn W H) (wdN tn W H) r D)))) 0 3 (tL (brU (opS f tn W H) (wdN tn W H) (htN tn W H) r (pN (opS f tn W H) (wdN tn W H) r D Wt) (qN (opS f tn W H) (wdN tn W H) r D)) (brL (opS f tn W H) (wdN tn W H) (htN tn W H) r (pN (opS f tn W H) (wdN tn W H) r D Wt) (qN (opS f tn W H) (wdN tn W H) r D))))) rfl ?_
    exact dx_ret (r := some (.int 1)) rfl (hY tn r m2 htn rfl er hW0 hrf (kG_tr hk1 ⟨hk2.1.1, WM_B hm2⟩))
  · refine dx_blk 1 (c' := (12, [.ref 0, .int t, .int (ansO (ouN f W H D Wt sq t))], [.int (ansO (ouN f W H D Wt sq t))], m1)) rfl ?_
    exact dx_ret (r := some (.int (ansO (ouN f W H D Wt sq t)))) rfl (hN m1 (ans_l q8) hk1)
set_option maxRecDepth 20000 in
theorem sX4_middle {d : Nat} (m : dx_M) {f : Nat → Int32} {W H E D Wt sq : Nat} {wa wu : Nat → Int} (hg : GM m f W H E D Wt sq wa wu) (t what : Int32) {Z : Option Value → dx_M → Prop} (h0 : ∀ m', inI what 0 3 = false → kG m m' → Z (some (.int (-1))) m') (hN : ∀ m', inI what 0 3 = true → ouN f W H D Wt sq t < 3 → kG m m' → Z (some (.int (ansO (ouN f W H D Wt sq t)))) m') (hY0 : ∀ tn r m', tn < 4 → t = nI tn → what = 0 → ouN f W H D Wt sq t = r + 3 → 0 < Wt → rfP (opS f tn W H) (wdN tn W H) (htN tn W H) D Wt r → kG m m' → Z (some (.int 1)) (dx_pL (dx_pL m' 0 2 (tU (pwX (opS f tn W H) (wdN tn W H) r (pN (opS f tn W H) (wdN tn W H) r D Wt) (qN (opS f tn W H) (wdN tn W H) r D) * D) (2 * (qN (opS f tn W H) (wdN tn W H) r D) * Wt))) 0 3 (tL (pwX (opS f tn W H) (wdN tn W H) r (pN (opS f tn W H) (wdN tn W H) r D Wt) (qN (opS f tn W H) (wdN tn W H) r D) * D) (2 * (qN (opS f tn W H) (wdN tn W H) r D) * Wt)))) (hY1 : ∀ tn r m', tn < 4 → t = nI tn → what = 1 → ouN f W H D Wt sq t = r + 3 → 0 < Wt → rfP (opS f tn W H) (wdN tn W H) (htN tn W H) D Wt r → kG m m' → Z (some (.int 1)) (dx_pL (dx_pL m' 0 2 (tU (pwY (opS f tn W H) (wdN tn W H) r (pN (opS f tn W H) (wdN tn W H) r D Wt) (qN (opS f tn W H) (wdN tn W H) r D) * D) (2 * (qN (opS f tn W H) (wdN tn W H) r D) * (qN (opS f tn W H) (wdN tn W H) r D) * Wt))) 0 3 (tL (pwY (opS f tn W H) (wdN tn W H) r (pN (opS f tn W H) (wdN tn W H) r D Wt) (qN (opS f tn W H) (wdN tn W H) r D) * D) (2 * (qN (opS f tn W H) (wdN tn W H) r D) * (qN (opS f tn W H) (wdN tn W H) r D) * Wt)))) (hY2 : ∀ tn r m', tn < 4 → t = nI tn → what = 2 → ouN f W H D Wt sq t = r + 3 → 0 < Wt → rfP (opS f tn W H) (wdN tn W H) (htN tn W H) D Wt r → kG m m' → Z (some (.int 1)) (dx_pL (dx_pL m' 0 2 (tU (wa tn) (2 * (Wt : Int)))) 0 3 (tL (wa tn) (2 * (Wt : Int))))) (hY3 : ∀ tn r m', tn < 4 → t = nI tn → inI what 0 3 = true → ¬ what = 0 → ¬ what = 1 → ¬ what = 2 → ouN f W H D Wt sq t = r + 3 → 0 < Wt → rfP (opS f tn W H) (wdN tn W H) (htN tn W H) D Wt r → kG m m' → Z (some (.int 1)) (dx_pL (dx_pL m' 0 2 (tU (wu tn) (2 * (Wt : Int)))) 0 3 (tL (wu tn) (2 * (Wt : Int))))) : dx_Sem dx_P lx_M (d + 6) 127 [.ref 0, .int t, .int what] m Z := by
  obtain ⟨g1, g2, g3, g4, g5, g6, g7, g8, g9, g10, g11, g12, g13, g14, g15, g16, g17, g18, g19⟩ := id hg
  have hE := g5
  have eE := g10
  have hW := g2
  have hH := g4
  have eW := g8
  have eH := g9
  refine dx_sem km_X4_middle rfl rfl ?_
  refine dx_blk 0 (c' := (0, [.ref 0, .int t, .int what, .null], [], m)) rfl ?_
  refine dx_blk 4 (c' := (4, [.ref 0, .int t, .int what, .null], [.int 3, .int 0, .int what, .ref 0], m)) rfl ?_
  refine dx_call (id := 82) (as := [.int what, .int 0, .int 3]) (rest := [.ref 0]) rfl ?_
  refine sX4_in what 0 3 _ ?_
  refine dx_blk 0 (c' := (7, [.ref 0, .int t, .int what, .null], [.int (bI (inI what 0 3)), .ref 0], m)) rfl ?_
  refine dx_blk 1 (c' := (8, [.ref 0, .int t, .int what, .null], [.int t, .int (bI (inI what 0 3)), .ref 0], m)) rfl ?_
  refine dx_call (id := 121) (as := [.ref 0, .int (bI (inI what 0 3)), .int t]) (rest := []) rfl ?_
  refine sX4_afloat _ (inI what 0 3) hg _ (fun m1 hk1 hS => ?_)
  refine dx_blk 0 (c' := (11, [.ref 0, .int t, .int what, .null], [.int (ansO (ouG (inI what 0 3) f W H D Wt sq t))], m1)) rfl ?_
  refine dx_blk 2 (c' := (13, [.ref 0, .int t, .int what, .int (ansO (ouG (inI what 0 3) f W H D Wt sq t))], [.int (ansO (ouG (inI what 0 3) f W H D Wt sq t))], m1)) rfl ?_
  refine dx_br (q := 0 ≤ (ansO (ouG (inI what 0 3) f W H D Wt sq t))) (a := 18) (b := 16) (L := [.ref 0, .int t, .int what, .int (ansO (ouG (inI what 0 3) f W H D Wt sq t))]) (st := []) (m := m1) rfl (fun q13 => ?_) (fun q13 => ?_)
  · have hq : inI what 0 3 = true := by
      cases hq : inI what 0 3 with
      | true => rfl
      | false => rw [ouG_f hq] at q13; exact absurd q13 (by decide)
    rw [ouG_t hq] at q13 ⊢
    rw [ouG_t hq] at hS
    obtain ⟨r, er⟩ := ans_g q13
    obtain ⟨tn, htn, rfl, hW0, hrf, hA, ea, eu⟩ := hS r er
    have hg1 := GM_keep hk1 hg
    obtain ⟨y1, y2, y3⟩ := pq_ok (hw_le g2 g4) g7 hW0 hrf
    have hr := hrf.1
    have hh12 : htN tn W H ≤ 12 := ht_le g2 g4
    obtain ⟨w1, w2, w3, w4⟩ := hg1.2.2.2.2.2.2.2.2.2.2.2.2.2.2.2.2.1 tn htn
    have eD : (m1.1 0 6).toInt64 = lZ D := by rw [hg1.2.2.2.2.2.2.2.2.2.2.1, lZ_n (by omega)]
    obtain ⟨hl, hm, er0, ef, ep, eq⟩ := id hA
    have eWt : (nI Wt).toInt64 = lZ Wt := lZ_n (by omega)
    refine dx_blk 1 (c' := (19, [.ref 0, .int (nI tn), .int what, .int (ansO (ouN f W H D Wt sq (nI tn)))], [.ref 0], m1)) rfl ?_
    refine dx_call (id := 126) (as := [.ref 0]) (rest := []) rfl ?_
    refine sX4_layPowers _ hr hA (fun m2 hk2 e32 e33 e34 e35 => ?_)
    have eD2 : m2.1 0 6 = nI D := by rw [hk2.1]; exact hg1.2.2.2.2.2.2.2.2.2.2.1
    have hg2 := GM_keep (keepP_G hk2 hk1.2) hg1
    have ea2 : m2.2 0 21 = lZ (wa tn) := (hk2.2.2 21 (by decide)).trans ea
    have eu2 : m2.2 0 22 = lZ (wu tn) := (hk2.2.2 22 (by decide)).trans eu
    have eD3 : (m2.1 0 6).toInt64 = lZ D := by rw [eD2, lZ_n (by omega)]
    refine dx_blk 0 (c' := (22, [.ref 0, .int (nI tn), .int what, .int (ansO (ouN f W H D Wt sq (nI tn)))], [], m2)) rfl ?_
    refine dx_blk 1 (c' := (23, [.ref 0, .int (nI tn), .int what, .int (ansO (ouN f W H D Wt sq (nI tn)))], [.int what], m2)) rfl ?_
    refine dx_br (q := what = 0) (a := 48) (b := (if what = 1 then 73 else (if what = 2 then 98 else 116))) (L := [.ref 0, .int (nI tn), .int what, .int (ansO (ouN f W H D Wt sq (nI tn)))]) (st := []) (m := m2) rfl (fun h2300 => ?_) (fun h2300 => ?_)
    · refine dx_blk 10 (c' := (64, [.ref 0, .int (nI tn), .int what, .int (ansO (ouN f W H D Wt sq (nI tn)))], [.ref 0, .long (m2.2 0 33), .long ((m2.2 0 32) * ((m2.1 0 6).toInt64)), .ref 0], m2)) rfl ?_
      refine dx_call (id := 113) (as := [.ref 0]) (rest := [.long (m2.2 0 33), .long ((m2.2 0 32) * ((m2.1 0 6).toInt64)), .ref 0]) rfl ?_
      refine sX4_all _ hE hg2.2.2.2.2.2.2.2.2.2.1 ?_
      rw [show allM _ E = nI Wt from hg2.2.2.2.2.2.2.2.2.2.2.2.2.1]
      refine dx_blk 0 (c' := (67, [.ref 0, .int (nI tn), .int what, .int (ansO (ouN f W H D Wt sq (nI tn)))], [.int (nI Wt), .long (m2.2 0 33), .long ((m2.2 0 32) * ((m2.1 0 6).toInt64)), .ref 0], m2)) rfl ?_
      refine dx_blk 2 (c' := (69, [.ref 0, .int (nI tn), .int what, .int (ansO (ouN f W H D Wt sq (nI tn)))], [.long ((m2.2 0 33) * ((nI Wt).toInt64)), .long ((m2.2 0 32) * ((m2.1 0 6).toInt64)), .ref 0], m2)) rfl ?_
      refine dx_call (id := 87) (as := [.ref 0, .long ((m2.2 0 32) * ((m2.1 0 6).toInt64)), .long ((m2.2 0 33) * ((nI Wt).toInt64))]) (rest := []) rfl ?_
      refine sX4_tellE _ (u := (pwX (opS f tn W H) (wdN tn W H) r (pN (opS f tn W H) (wdN tn W H) r D Wt) (qN (opS f tn W H) (wdN tn W H) r D) * D)) (l := (2 * (qN (opS f tn W H) (wdN tn W H) r D) * Wt)) (by rw [e32, eD3, lZ_mul]) (by rw [e33, eWt, lZ_mul]) (by exact tl_mid0 (hw_le g2 g4) (by omega) g7 g15 hW0 y1 y2 y3) ?_
      refine dx_blk 0 (c' := (72, [.ref 0, .int (nI tn), .int what, .int (ansO (ouN f W H D Wt sq (nI tn)))], [.int 1], dx_pL (dx_pL m2 0 2 (tU (pwX (opS f tn W H) (wdN tn W H) r (pN (opS f tn W H) (wdN tn W H) r D Wt) (qN (opS f tn W H) (wdN tn W H) r D) * D) (2 * (qN (opS f tn W H) (wdN tn W H) r D) * Wt))) 0 3 (tL (pwX (opS f tn W H) (wdN tn W H) r (pN (opS f tn W H) (wdN tn W H) r D Wt) (qN (opS f tn W H) (wdN tn W H) r D) * D) (2 * (qN (opS f tn W H) (wdN tn W H) r D) * Wt)))) rfl ?_
      exact dx_ret (r := some (.int 1)) rfl (hY0 tn r m2 htn rfl h2300 er hW0 hrf (kG_tr hk1 (keepP_G hk2 hk1.2)))
    · refine dx_sp (q := what = 1) (fun h2301 => ?_) (fun h2301 => ?_)
      · refine dx_blk 10 (c' := (89, [.ref 0, .int (nI tn), .int what, .int (ansO (ouN f W H D Wt sq (nI tn)))], [.ref 0, .long (m2.2 0 35), .long ((m2.2 0 34) * ((m2.1 0 6).toInt64)), .ref 0], m2)) rfl ?_
        refine dx_call (id := 113) (as := [.ref 0]) (rest := [.long (m2.2 0 35), .long ((m2.2 0 34) * ((m2.1 0 6).toInt64)), .ref 0]) rfl ?_
        refine sX4_all _ hE hg2.2.2.2.2.2.2.2.2.2.1 ?_
        rw [show allM _ E = nI Wt from hg2.2.2.2.2.2.2.2.2.2.2.2.2.1]
        refine dx_blk 0 (c' := (92, [.ref 0, .int (nI tn), .int what, .int (ansO (ouN f W H D Wt sq (nI tn)))], [.int (nI Wt), .long (m2.2 0 35), .long ((m2.2 0 34) * ((m2.1 0 6).toInt64)), .ref 0], m2)) rfl ?_
        refine dx_blk 2 (c' := (94, [.ref 0, .int (nI tn), .int what, .int (ansO (ouN f W H D Wt sq (nI tn)))], [.long ((m2.2 0 35) * ((nI Wt).toInt64)), .long ((m2.2 0 34) * ((m2.1 0 6).toInt64)), .ref 0], m2)) rfl ?_
        refine dx_call (id := 87) (as := [.ref 0, .long ((m2.2 0 34) * ((m2.1 0 6).toInt64)), .long ((m2.2 0 35) * ((nI Wt).toInt64))]) (rest := []) rfl ?_
        refine sX4_tellE _ (u := (pwY (opS f tn W H) (wdN tn W H) r (pN (opS f tn W H) (wdN tn W H) r D Wt) (qN (opS f tn W H) (wdN tn W H) r D) * D)) (l := (2 * (qN (opS f tn W H) (wdN tn W H) r D) * (qN (opS f tn W H) (wdN tn W H) r D) * Wt)) (by rw [e34, eD3, lZ_mul]) (by rw [e35, eWt, lZ_mul]) (by exact tl_mid1 (hw_le g2 g4) (by omega) g7 g15 hW0 y1 y2 y3) ?_
        refine dx_blk 0 (c' := (97, [.ref 0, .int (nI tn), .int what, .int (ansO (ouN f W H D Wt sq (nI tn)))], [.int 1], dx_pL (dx_pL m2 0 2 (tU (pwY (opS f tn W H) (wdN tn W H) r (pN (opS f tn W H) (wdN tn W H) r D Wt) (qN (opS f tn W H) (wdN tn W H) r D) * D) (2 * (qN (opS f tn W H) (wdN tn W H) r D) * (qN (opS f tn W H) (wdN tn W H) r D) * Wt))) 0 3 (tL (pwY (opS f tn W H) (wdN tn W H) r (pN (opS f tn W H) (wdN tn W H) r D Wt) (qN (opS f tn W H) (wdN tn W H) r D) * D) (2 * (qN (opS f tn W H) (wdN tn W H) r D) * (qN (opS f tn W H) (wdN tn W H) r D) * Wt)))) rfl ?_
        exact dx_ret (r := some (.int 1)) rfl (hY1 tn r m2 htn rfl h2301 er hW0 hrf (kG_tr hk1 (keepP_G hk2 hk1.2)))
      · refine dx_sp (q := what = 2) (fun h2302 => ?_) (fun h2302 => ?_)
        · refine dx_blk 5 (c' := (107, [.ref 0, .int (nI tn), .int what, .int (ansO (ouN f W H D Wt sq (nI tn)))], [.ref 0, .long 2, .long (m2.2 0 21), .ref 0], m2)) rfl ?_
          refine dx_call (id := 113) (as := [.ref 0]) (rest := [.long 2, .long (m2.2 0 21), .ref 0]) rfl ?_
          refine sX4_all _ hE hg2.2.2.2.2.2.2.2.2.2.1 ?_
          rw [show allM _ E = nI Wt from hg2.2.2.2.2.2.2.2.2.2.2.2.2.1]
          refine dx_blk 0 (c' := (110, [.ref 0, .int (nI tn), .int what, .int (ansO (ouN f W H D Wt sq (nI tn)))], [.int (nI Wt), .long 2, .long (m2.2 0 21), .ref 0], m2)) rfl ?_
          refine dx_blk 2 (c' := (112, [.ref 0, .int (nI tn), .int what, .int (ansO (ouN f W H D Wt sq (nI tn)))], [.long (2 * ((nI Wt).toInt64)), .long (m2.2 0 21), .ref 0], m2)) rfl ?_
          refine dx_call (id := 87) (as := [.ref 0, .long (m2.2 0 21), .long (2 * ((nI Wt).toInt64))]) (rest := []) rfl ?_
          refine sX4_tellE _ (u := (wa tn)) (l := (2 * (Wt : Int))) (by exact ea2) (by rw [eWt, show (2 : Int64) = lZ 2 from rfl, lZ_mul]) (by exact tl_mid2 w3 g15 hW0) ?_
          refine dx_blk 0 (c' := (115, [.ref 0, .int (nI tn), .int what, .int (ansO (ouN f W H D Wt sq (nI tn)))], [.int 1], dx_pL (dx_pL m2 0 2 (tU (wa tn) (2 * (Wt : Int)))) 0 3 (tL (wa tn) (2 * (Wt : Int))))) rfl ?_
          exact dx_ret (r := some (.int 1)) rfl (hY2 tn r m2 htn rfl h2302 er hW0 hrf (kG_tr hk1 (keepP_G hk2 hk1.2)))
        · refine dx_blk 5 (c' := (125, [.ref 0, .int (nI tn), .int what, .int (ansO (ouN f W H D Wt sq (nI tn)))], [.ref 0, .long 2, .long (m2.2 0 22), .ref 0], m2)) rfl ?_
          refine dx_call (id := 113) (as := [.ref 0]) (rest := [.long 2, .long (m2.2 0 22), .ref 0]) rfl ?_
          refine sX4_all _ hE hg2.2.2.2.2.2.2.2.2.2.1 ?_
          rw [show allM _ E = nI Wt from hg2.2.2.2.2.2.2.2.2.2.2.2.2.1]
          refine dx_blk 0 (c' := (128, [.ref 0, .int (nI tn), .int what, .int (ansO (ouN f W H D Wt sq (nI tn)))], [.int (nI Wt), .long 2, .long (m2.2 0 22), .ref 0], m2)) rfl ?_
          refine dx_blk 2 (c' := (130, [.ref 0, .int (nI tn), .int what, .int (ansO (ouN f W H D Wt sq (nI tn)))], [.long (2 * ((nI Wt).toInt64)), .long (m2.2 0 22), .ref 0], m2)) rfl ?_
          refine dx_call (id := 87) (as := [.ref 0, .long (m2.2 0 22), .long (2 * ((nI Wt).toInt64))]) (rest := []) rfl ?_
          refine sX4_tellE _ (u := (wu tn)) (l := (2 * (Wt : Int))) (by exact eu2) (by rw [eWt, show (2 : Int64) = lZ 2 from rfl, lZ_mul]) (by exact tl_mid2 w4 g15 hW0) ?_
          refine dx_blk 0 (c' := (133, [.ref 0, .int (nI tn), .int what, .int (ansO (ouN f W H D Wt sq (nI tn)))], [.int 1], dx_pL (dx_pL m2 0 2 (tU (wu tn) (2 * (Wt : Int)))) 0 3 (tL (wu tn) (2 * (Wt : Int))))) rfl ?_
          exact dx_ret (r := some (.int 1)) rfl (hY3 tn r m2 htn rfl hq h2300 h2301 h2302 er hW0 hrf (kG_tr hk1 (keepP_G hk2 hk1.2)))
  · refine dx_blk 1 (c' := (17, [.ref 0, .int t, .int what, .int (ansO (ouG (inI what 0 3) f W H D Wt sq t))], [.int (ansO (ouG (inI what 0 3) f W H D Wt sq t))], m1)) rfl ?_
    exact dx_ret (r := some (.int (ansO (ouG (inI what 0 3) f W H D Wt sq t)))) rfl (by
    cases hq : inI what 0 3 with
    | false =>
      exact h0 m1 hq hk1
    | true =>
      rw [ouG_t hq] at q13
      exact hN m1 hq (ans_l q13) hk1)
