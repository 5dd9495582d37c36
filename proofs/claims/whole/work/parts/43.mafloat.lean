/-! the reference: how it lies (printed by wip/whole/g43.py) -/
/-- what the reference knows of the log -/
def GM (m : dx_M) (f : Nat → Int32) (W H E D Wt sq : Nat) (wa wu : Nat → Int) : Prop :=
  1 ≤ W ∧ W ≤ 12 ∧ 1 ≤ H ∧ H ≤ 12 ∧ E ≤ 10 ∧ 1 ≤ D ∧ D ≤ 20 ∧ m.1 0 4 = nI W ∧ m.1 0 5 = nI H ∧ m.1 0 11 = nI E ∧ m.1 0 6 = nI D ∧ m.1 2 = f ∧ allM m E = nI Wt ∧ n_cnt f = nI sq ∧ Wt ≤ 5000 ∧ sq ≤ 144 ∧ (∀ k, k < 4 → wAM m (nI k) W H E = lZ (wa k) ∧ wUM m (nI k) W H E = lZ (wu k) ∧ (wa k).natAbs ≤ 200000 ∧ (wu k).natAbs ≤ 200000) ∧ (∀ c, c < 144 → sqP (m.1 2 c)) ∧ B13 m
def kG (m m' : dx_M) : Prop := keepM m m' ∧ B13 m'
theorem kG_tr {a b c : dx_M} (h : kG a b) (h2 : kG b c) : kG a c := ⟨keepM_tr h.1 h2.1, h2.2⟩
theorem keepM_all {m m' : dx_M} (hk : keepM m m') (E : Nat) : allM m' E = allM m E ∧ (∀ t W H, wAM m' t W H E = wAM m t W H E) ∧ ∀ t W H, wUM m' t W H E = wUM m t W H E := by
  have e : ∀ k, k ≠ 0 → k ≠ 12 → k ≠ 13 → m'.1 k = m.1 k := hk.1
  have e2 : thM m' = thM m := funext fun i => by unfold thM; rw [e 11 (by decide) (by decide) (by decide)]
  refine ⟨?_, fun t W H => ?_, fun t W H => ?_⟩
  · unfold allM
    rw [e2, e 2 (by decide) (by decide) (by decide), e 9 (by decide) (by decide) (by decide)]
  · unfold wAM
    rw [e2, e 2 (by decide) (by decide) (by decide), e 9 (by decide) (by decide) (by decide), e 7 (by decide) (by decide) (by decide), e 8 (by decide) (by decide) (by decide)]
  · unfold wUM
    rw [e2, e 2 (by decide) (by decide) (by decide), e 9 (by decide) (by decide) (by decide), e 7 (by decide) (by decide) (by decide), e 8 (by decide) (by decide) (by decide), e 10 (by decide) (by decide) (by decide)]
theorem GM_keep {m m' : dx_M} {f : Nat → Int32} {W H E D Wt sq : Nat} {wa wu : Nat → Int} (hk : kG m m') (hg : GM m f W H E D Wt sq wa wu) : GM m' f W H E D Wt sq wa wu := by
  obtain ⟨k1, k2, k3⟩ := keepM_all hk.1 E
  obtain ⟨g1, g2, g3, g4, g5, g6, g7, g8, g9, g10, g11, g12, g13, g14, g15, g16, g17, g18, g19⟩ := hg
  obtain ⟨⟨q1, ⟨q2, q3, q4, q5, q6⟩, q7, q8⟩, q9⟩ := hk
  have e3 : m'.1 2 = m.1 2 := q1 2 (by decide) (by decide) (by decide)
  exact ⟨g1, g2, g3, g4, g5, g6, g7, q3.trans g8, q4.trans g9, q6.trans g10, q5.trans g11, e3.trans g12, k1.trans g13, g14, g15, g16, fun k hk4 => ⟨(k2 _ _ _).trans (g17 k hk4).1, (k3 _ _ _).trans (g17 k hk4).2.1, (g17 k hk4).2.2⟩, fun c hc => by rw [e3]; exact g18 c hc, q9⟩
theorem kG_rf {m : dx_M} {f : Nat → Int32} {W H E D Wt sq : Nat} {wa wu : Nat → Int} (hg : GM m f W H E D Wt sq wa wu) : kG m m := ⟨keepM_rf m, hg.2.2.2.2.2.2.2.2.2.2.2.2.2.2.2.2.2.2⟩
noncomputable def ouG (g : Bool) (f : Nat → Int32) (W H D Wt sq : Nat) (t : Int32) : Nat := if g = true then ouN f W H D Wt sq t else 0
theorem ouG_t {g : Bool} (h : g = true) (f : Nat → Int32) (W H D Wt sq : Nat) (t : Int32) : ouG g f W H D Wt sq t = ouN f W H D Wt sq t := if_pos h
theorem ouG_f {g : Bool} (h : g = false) (f : Nat → Int32) (W H D Wt sq : Nat) (t : Int32) : ouG g f W H D Wt sq t = 0 := if_neg (by rw [h]; decide)
theorem nI_z {n : Nat} (h : nI n = 0) (hn : n < 100000) : n = 0 := by
  rcases Nat.eq_zero_or_pos n with z | z
  · exact z
  · exact absurd h (nI_ne0 z (by omega))
theorem ans_p {o : Nat} (h : ¬ ansO o < 0) : ∃ r, o = r + 3 := by
  rw [ans_neg] at h
  exact ⟨o - 3, by omega⟩
set_option maxRecDepth 20000 in
theorem sX4_afloat {d : Nat} (m : dx_M) {f : Nat → Int32} {W H E D Wt sq : Nat} {wa wu : Nat → Int} (g : Bool) (hg : GM m f W H E D Wt sq wa wu) (t : Int32) {Z : Option Value → dx_M → Prop} (h1 : ∀ m', kG m m' → (∀ r, ouG g f W H D Wt sq t = r + 3 → ∃ tn, tn < 4 ∧ t = nI tn ∧ 0 < Wt ∧ rfP (opS f tn W H) (wdN tn W H) (htN tn W H) D Wt r ∧ AM m' (opS f tn W H) (wdN tn W H) (htN tn W H) r (pN (opS f tn W H) (wdN tn W H) r D Wt) (qN (opS f tn W H) (wdN tn W H) r D) ∧ m'.2 0 21 = lZ (wa tn) ∧ m'.2 0 22 = lZ (wu tn)) → Z (some (.int (ansO (ouG g f W H D Wt sq t)))) m') : dx_Sem dx_P lx_M (d + 5) 121 [.ref 0, .int (bI g), .int t] m Z := by
  obtain ⟨g1, g2, g3, g4, g5, g6, g7, g8, g9, g10, g11, g12, g13, g14, g15, g16, g17, g18, g19⟩ := id hg
  have hE := g5
  have eE := g10
  have hW := g2
  have hH := g4
  have eW := g8
  have eH := g9
  refine dx_sem km_X4_afloat rfl rfl ?_
  refine dx_blk 0 (c' := (0, [.ref 0, .int (bI g), .int t], [], m)) rfl ?_
  refine dx_blk 3 (c' := (3, [.ref 0, .int (bI g), .int t], [.int 3, .int 0, .int t], m)) rfl ?_
  refine dx_call (id := 82) (as := [.int t, .int 0, .int 3]) (rest := []) rfl ?_
  refine sX4_in t 0 3 _ ?_
  refine dx_blk 0 (c' := (6, [.ref 0, .int (bI g), .int t], [.int (bI (inI t 0 3))], m)) rfl ?_
  refine dx_brB (B := (inI t 0 3)) (a := 13) (b := 9) (L := [.ref 0, .int (bI g), .int t]) (st := []) (m := m) rfl (fun h6 => ?_) (fun h6 => ?_)
  · refine dx_blk 1 (c' := (14, [.ref 0, .int (bI g), .int t], [.int (-1)], m)) rfl ?_
    exact dx_ret (r := some (.int (-1))) rfl (by
    have eo : ouG g f W H D Wt sq t = 0 := by first | exact ouG_f (by assumption) .. | (cases g with | true => rw [ouG_t rfl]; exact ou_0 (by assumption) | false => rfl)
    have hz := h1 m (kG_rf hg) (fun r' e => absurd e (by omega))
    rw [eo] at hz; exact hz)
  · refine dx_blk 1 (c' := (10, [.ref 0, .int (bI g), .int t], [.int (bI g)], m)) rfl ?_
    refine dx_brB (B := g) (a := 13) (b := 15) (L := [.ref 0, .int (bI g), .int t]) (st := []) (m := m) rfl (fun q10 => ?_) (fun q10 => ?_)
    · refine dx_blk 1 (c' := (14, [.ref 0, .int (bI g), .int t], [.int (-1)], m)) rfl ?_
      exact dx_ret (r := some (.int (-1))) rfl (by
    have eo : ouG g f W H D Wt sq t = 0 := by first | exact ouG_f (by assumption) .. | (cases g with | true => rw [ouG_t rfl]; exact ou_0 (by assumption) | false => rfl)
    have hz := h1 m (kG_rf hg) (fun r' e => absurd e (by omega))
    rw [eo] at hz; exact hz)
    · obtain rfl : g = true := by first | exact q10 | exact bI_ne q10
      obtain ⟨tn, htn, rfl⟩ := in_N (n := 3) (x := t) (M := 3) rfl h6
      refine dx_blk 1 (c' := (16, [.ref 0, .int (bI true), .int (nI tn)], [.ref 0], m)) rfl ?_
      refine dx_call (id := 111) (as := [.ref 0]) (rest := []) rfl ?_
      refine sX4_squareMany _ ?_
      rw [g12, g14]
      refine dx_blk 0 (c' := (19, [.ref 0, .int (bI true), .int (nI tn)], [.int (nI sq)], m)) rfl ?_
      refine dx_br (q := (nI sq) = 0) (a := 29) (b := 22) (L := [.ref 0, .int (bI true), .int (nI tn)]) (st := []) (m := m) rfl (fun q19 => ?_) (fun q19 => ?_)
      · have z9 : Wt = 0 ∨ sq = 0 := by
          first
          | exact Or.inr (nI_z q19 (by omega))
          | exact Or.inl (nI_z q26 (by omega))
        refine dx_blk 1 (c' := (31, [.ref 0, .int (bI true), .int (nI tn)], [.int (-4)], m)) rfl ?_
        exact dx_ret (r := some (.int (-4))) rfl (by
    have eo : ouG true f W H D Wt sq (nI tn) = 1 := by rw [ouG_t rfl]; exact ou_1 h6 z9
    have hz := h1 m (kG_rf hg) (fun r' e => absurd e (by omega))
    rw [eo] at hz; exact hz)
      · have q2 : sq ≠ 0 := fun z => q19 (by rw [z]; rfl)
        refine dx_blk 1 (c' := (23, [.ref 0, .int (bI true), .int (nI tn)], [.ref 0], m)) rfl ?_
        refine dx_call (id := 113) (as := [.ref 0]) (rest := []) rfl ?_
        refine sX4_all _ hE (by first | exact eE | assumption) ?_
        rw [show allM _ E = nI Wt from g13]
        refine dx_blk 0 (c' := (26, [.ref 0, .int (bI true), .int (nI tn)], [.int (nI Wt)], m)) rfl ?_
        refine dx_br (q := (nI Wt) = 0) (a := 29) (b := 32) (L := [.ref 0, .int (bI true), .int (nI tn)]) (st := []) (m := m) rfl (fun q26 => ?_) (fun q26 => ?_)
        · have z9 : Wt = 0 ∨ sq = 0 := by
            first
            | exact Or.inr (nI_z q19 (by omega))
            | exact Or.inl (nI_z q26 (by omega))
          refine dx_blk 1 (c' := (31, [.ref 0, .int (bI true), .int (nI tn)], [.int (-4)], m)) rfl ?_
          exact dx_ret (r := some (.int (-4))) rfl (by
    have eo : ouG true f W H D Wt sq (nI tn) = 1 := by rw [ouG_t rfl]; exact ou_1 h6 z9
    have hz := h1 m (kG_rf hg) (fun r' e => absurd e (by omega))
    rw [eo] at hz; exact hz)
        · have q1 : Wt ≠ 0 := fun z => q26 (by rw [z]; rfl)
          refine dx_blk 2 (c' := (34, [.ref 0, .int (bI true), .int (nI tn)], [.int (nI tn), .ref 0], m)) rfl ?_
          refine dx_call (id := 115) (as := [.ref 0, .int (nI tn)]) (rest := []) rfl ?_
          refine sX4_layT _ g1 g2 g3 g4 g8 g9 g5 g10 g18 g12 (t := tn) (by omega) (fun m1 hl1 ea eu e13 hk1 => ?_)
          have hb1 : B13 m1 := fun k hk => by rw [e13]; exact g19 k hk
          have hga := GM_keep ⟨hk1, hb1⟩ hg
          have eE1 : m1.1 0 11 = nI E := hga.2.2.2.2.2.2.2.2.2.1
          rw [(g17 tn (by omega)).1] at ea
          rw [(g17 tn (by omega)).2.1] at eu
          refine dx_blk 0 (c' := (37, [.ref 0, .int (bI true), .int (nI tn)], [], m1)) rfl ?_
          refine dx_blk 2 (c' := (39, [.ref 0, .int (bI true), .int (nI tn)], [.ref 0, .ref 0], m1)) rfl ?_
          refine dx_call (id := 113) (as := [.ref 0]) (rest := [.ref 0]) rfl ?_
          refine sX4_all _ hE (by first | exact eE | assumption) ?_
          rw [show allM _ E = nI Wt from hga.2.2.2.2.2.2.2.2.2.2.2.2.1]
          refine dx_blk 0 (c' := (42, [.ref 0, .int (bI true), .int (nI tn)], [.int (nI Wt), .ref 0], m1)) rfl ?_
          refine dx_call (id := 120) (as := [.ref 0, .int (nI Wt)]) (rest := []) rfl ?_
          refine sX4_finds (Wt := Wt) m1 (by omega) (by omega) g7 hga.2.2.2.2.2.2.2.2.2.2.1 hl1 hb1 (fun m2 hno hk2 hb2 => ?_) (fun r m2 hrf hk2 hA => ?_)
          · refine dx_blk 0 (c' := (45, [.ref 0, .int (bI true), .int (nI tn)], [.int 0], m2)) rfl ?_
            refine dx_br (q := (0 : Int32) = 0) (a := 52) (b := 48) (L := [.ref 0, .int (bI true), .int (nI tn)]) (st := []) (m := m2) rfl (fun _ => ?_) (fun h => absurd (by decide) h)
            refine dx_blk 1 (c' := (54, [.ref 0, .int (bI true), .int (nI tn)], [.int (-5)], m2)) rfl ?_
            exact dx_ret (r := some (.int (-5))) rfl (by
    have eo : ouG true f W H D Wt sq (nI tn) = 2 := by rw [ouG_t rfl, ou_2 (by omega) q1 q2]; exact rowO_2 hno
    have hz := h1 m2 ⟨keepM_tr hk1 hk2.1, hb2⟩ (fun r' e => absurd e (by omega))
    rw [eo] at hz; exact hz)
          · refine dx_blk 0 (c' := (45, [.ref 0, .int (bI true), .int (nI tn)], [.int 1], m2)) rfl ?_
            refine dx_br (q := (1 : Int32) = 0) (a := 52) (b := 48) (L := [.ref 0, .int (bI true), .int (nI tn)]) (st := []) (m := m2) rfl (fun h => absurd h (by decide)) (fun _ => ?_)
            refine dx_blk 2 (c' := (54, [.ref 0, .int (bI true), .int (nI tn)], [.int 1], m2)) rfl ?_
            exact dx_ret (r := some (.int 1)) rfl (by
    have eo : ouG true f W H D Wt sq (nI tn) = r + 3 := by rw [ouG_t rfl, ou_2 (by omega) q1 q2]; exact rowO_r hrf
    have hz := h1 m2 ⟨keepM_tr hk1 hk2.1, WM_B hA.2.1⟩ (fun r' e => ?_)
    · rw [eo, ans_r] at hz; exact hz
    · obtain rfl : r = r' := by omega
      exact ⟨tn, by omega, rfl, by omega, hrf, hA, hk2.2.2.2.2.1.trans ea, hk2.2.2.2.2.2.trans eu⟩)
