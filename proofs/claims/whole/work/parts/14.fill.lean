/-! fill: both programs (printed by wip/whole/g14.py) -/
def fv (t : Int32) : Int32 := if t < 0 then -9 else if 20 < t then 20 else t
def st_neg (f : Nat → Int32) (i : Nat) (s : Int32) : Int32 := s + (if f i < 0 then 0 else 1)
theorem i_nl {t : Int32} (h : 0 ≤ t) : ¬ t < 0 := by rw [fa_lt]; rw [fa_le] at h; omega
theorem i_nl2 {t : Int32} (h : ¬ 0 ≤ t) : t < 0 := by rw [fa_lt]; rw [fa_le] at h; omega
theorem i_nl3 {t : Int32} (h : t ≤ 20) : ¬ 20 < t := by rw [fa_lt]; rw [fa_le] at h; omega
theorem i_nl4 {t : Int32} (h : ¬ t ≤ 20) : 20 < t := by rw [fa_lt]; rw [fa_le] at h; omega
set_option maxRecDepth 20000 in
theorem sX3_fill {d : Nat} (m : dx_M) {W H : Nat} (hW1 : 1 ≤ W) (hW : W ≤ 12) (hH : H ≤ 12) (eW : m.1 1 1 = nI W) (eH : m.1 1 2 = nI H) (hz : ∀ a : Nat, a < 6 → szP (m.1 8 a)) (y s : Int32) {Z : Option Value → dx_M → Prop} (h1 : (inI y 0 (nI H - 1) && inI s 0 5) = false → Z (some (.int (-1))) m) (h2 : ∀ a : Nat, a < 6 → s = nI a → m.1 8 a = -1 → inI y 0 (nI H - 1) = true → Z (some (.int (-3))) (fndX m 1)) (h3 : ∀ a z : Nat, a < 6 → s = nI a → z ≤ 12 → m.1 8 a = nI z → z < W → inI y 0 (nI H - 1) = true → Z (some (.int (-3))) (fndX m 2)) (h4 : ∀ a b z : Nat, a < 6 → b < H → s = nI a → y = nI b → z ≤ 12 → m.1 8 a = nI z → W ≤ z → Z (some (.int (nf (st_neg (m.1 (20 + a))) W 0))) (dx_pR m 2 (fb_put (m.1 2) (fun x => fv ((m.1 (20 + a)) x)) (b * 12) W))) : dx_Sem dx_P lx_X (d + 3) 34 [.ref 0, .int y, .int s] m Z := by
  refine dx_sem km_X3_fill rfl rfl ?_
  refine dx_blk 0 (c' := (0, [.ref 0, .int y, .int s, .null, .null, .null], [], m)) rfl ?_
  refine dx_blk 4 (c' := (6, [.ref 0, .int y, .int s, .null, .null, .null], [.int y, .int 0, .ref 1], m)) rfl ?_
  refine dx_call (id := 1) (as := [.ref 1, .int 0, .int y]) (rest := []) rfl ?_
  refine sX0_has 0 y _ ?_
  refine dx_blk 0 (c' := (9, [.ref 0, .int y, .int s, .null, .null, .null], [.int (bI (inI 0 0 (m.1 1 1 - 1) && inI y 0 (m.1 1 2 - 1)))], m)) rfl ?_
  refine dx_brB (B := (inI 0 0 (m.1 1 1 - 1) && inI y 0 (m.1 1 2 - 1))) (a := 19) (b := 12) (L := [.ref 0, .int y, .int s, .null, .null, .null]) (st := []) (m := m) rfl (fun h9 => ?_) (fun h9 => ?_)
  · refine dx_blk 1 (c' := (20, [.ref 0, .int y, .int s, .null, .null, .null], [.int (-1)], m)) rfl ?_
    exact dx_ret (r := some (.int (-1))) rfl (by
    rw [eW, eH, show inI 0 0 (nI W - 1) = true from W_in hW hW1, Bool.true_and] at h9
    exact h1 (by simp_all))
  · refine dx_blk 1 (c' := (13, [.ref 0, .int y, .int s, .null, .null, .null], [.int s], m)) rfl ?_
    refine dx_call (id := 66) (as := [.int s]) (rest := []) rfl ?_
    refine sX3_isSheet s _ ?_
    refine dx_blk 0 (c' := (16, [.ref 0, .int y, .int s, .null, .null, .null], [.int (bI (inI s 0 5))], m)) rfl ?_
    refine dx_brB (B := (inI s 0 5)) (a := 19) (b := 21) (L := [.ref 0, .int y, .int s, .null, .null, .null]) (st := []) (m := m) rfl (fun q16 => ?_) (fun q16 => ?_)
    · refine dx_blk 1 (c' := (20, [.ref 0, .int y, .int s, .null, .null, .null], [.int (-1)], m)) rfl ?_
      exact dx_ret (r := some (.int (-1))) rfl (by
    rw [eW, eH, show inI 0 0 (nI W - 1) = true from W_in hW hW1, Bool.true_and] at h9
    exact h1 (by simp_all))
    · have hyH : inI y 0 (nI H - 1) = true := (by rw [eW, eH] at h9; rw [show inI 0 0 (nI W - 1) = true from W_in hW hW1, Bool.true_and] at h9; exact h9)
      obtain ⟨a, ha0, rfl⟩ := in_N (n := 5) rfl q16
      have ha : a < 6 := by omega
      refine dx_blk 3 (c' := (26, [.ref 0, .int y, .int (nI a), .null, .null, .null], [.int (nI a), .ref 8], m)) rfl ?_
      refine dx_aldN a rfl rfl rfl rfl (by omega) ?_
      refine dx_blk 0 (c' := (27, [.ref 0, .int y, .int (nI a), .null, .null, .null], [.int (m.1 8 a)], m)) rfl ?_
      refine dx_blk 1 (c' := (28, [.ref 0, .int y, .int (nI a), .null, .null, .null], [.int (-1), .int (m.1 8 a)], m)) rfl ?_
      refine dx_br (q := (m.1 8 a) = (-1)) (a := 31) (b := 37) (L := [.ref 0, .int y, .int (nI a), .null, .null, .null]) (st := []) (m := m) rfl (fun h28 => ?_) (fun h28 => ?_)
      · refine dx_blk 2 (c' := (33, [.ref 0, .int y, .int (nI a), .null, .null, .null], [.int 1, .ref 0], m)) rfl ?_
        refine dx_call (id := 70) (as := [.ref 0, .int 1]) (rest := []) rfl ?_
        refine sX3_find 1 (by decide) _ ?_
        refine dx_blk 0 (c' := (36, [.ref 0, .int y, .int (nI a), .null, .null, .null], [.int (-3)], (fndX m 1))) rfl ?_
        exact dx_ret (r := some (.int (-3))) rfl (h2 a ha rfl (by assumption) hyH)
      · obtain ⟨z, hz1, ez⟩ := szC (hz a ha) (by assumption)
        refine dx_blk 3 (c' := (42, [.ref 0, .int y, .int (nI a), .null, .null, .null], [.int (nI a), .ref 8], m)) rfl ?_
        refine dx_aldN a rfl rfl rfl rfl (by omega) ?_
        refine dx_blk 0 (c' := (43, [.ref 0, .int y, .int (nI a), .null, .null, .null], [.int (m.1 8 a)], m)) rfl ?_
        refine dx_blk 3 (c' := (50, [.ref 0, .int y, .int (nI a), .null, .null, .null], [.int (m.1 1 1), .int (m.1 8 a)], m)) rfl ?_
        refine dx_br (q := (m.1 1 1) ≤ (m.1 8 a)) (a := 59) (b := 53) (L := [.ref 0, .int y, .int (nI a), .null, .null, .null]) (st := []) (m := m) rfl (fun h50 => ?_) (fun h50 => ?_)
        · have hWz : W ≤ z := (by rcases Nat.lt_or_ge z W with q | q; exact absurd h50 (by rw [ez, eW]; exact nI_ge q (by omega)); exact q)
          obtain ⟨b, hb, rfl⟩ := in_W hH hyH
          refine dx_blk 4 (c' := (64, [.ref 0, .int (nI b), .int (nI a), .int 0, .int 0, .null], [], m)) rfl ?_
          refine dx_mem (m' := dx_pR m 2 (fb_put (m.1 2) (fun x => fv (m.1 (20 + a) x)) (b * 12) 0)) (by rw [fb_put_0]; exact (dx_pR_self _ 2).symm) ?_
          refine dx_blk 0 (c' := (64, [.ref 0, .int (nI b), .int (nI a), .int 0, .int (nI 0), .null], [], dx_pR m 2 (fb_put (m.1 2) (fun x => fv (m.1 (20 + a) x)) (b * 12) 0))) rfl ?_
          refine dx_for (fun (i : Nat) (s : Int32) => ((64, [.ref 0, .int (nI b), .int (nI a), .int s, .int (nI i), .null], [], dx_pR m 2 (fb_put (m.1 2) (fun x => fv (m.1 (20 + a) x)) (b * 12) i)) : dx_F)) (st_neg (m.1 (20 + a))) (fun _ _ => True) W 0 trivial (fun i s hi hI hk => ?_) (fun _ _ _ _ => trivial) (fun hN => ?_)
          · refine dx_blk 0 (c' := (64, [.ref 0, .int (nI b), .int (nI a), .int s, .int (nI i), .null], [], dx_pR m 2 (fb_put (m.1 2) (fun x => fv (m.1 (20 + a) x)) (b * 12) i))) rfl ?_
            refine dx_blk 4 (c' := (73, [.ref 0, .int (nI b), .int (nI a), .int s, .int (nI i), .null], [.int (m.1 1 1), .int (nI i)], dx_pR m 2 (fb_put (m.1 2) (fun x => fv (m.1 (20 + a) x)) (b * 12) i))) rfl ?_
            refine dx_br (q := (m.1 1 1) ≤ (nI i)) (a := 133) (b := 76) (L := [.ref 0, .int (nI b), .int (nI a), .int s, .int (nI i), .null]) (st := []) (m := dx_pR m 2 (fb_put (m.1 2) (fun x => fv (m.1 (20 + a) x)) (b * 12) i)) rfl (fun h => absurd h (by rw [show (m.1 1 1) = nI W from eW]; exact nI_ge hi (by omega))) (fun _ => ?_)
            refine dx_blk 3 (c' := (81, [.ref 0, .int (nI b), .int (nI a), .int s, .int (nI i), .null], [.int (nI a), .ref 7], dx_pR m 2 (fb_put (m.1 2) (fun x => fv (m.1 (20 + a) x)) (b * 12) i))) rfl ?_
            refine dx_aadN a (q := (20 + a)) rfl rfl (Or.inr rfl) rfl (by omega) (lx_rs7 a (by omega)) ?_
            refine dx_blk 0 (c' := (82, [.ref 0, .int (nI b), .int (nI a), .int s, .int (nI i), .null], [.ref (20 + a)], dx_pR m 2 (fb_put (m.1 2) (fun x => fv (m.1 (20 + a) x)) (b * 12) i))) rfl ?_
            refine dx_blk 1 (c' := (84, [.ref 0, .int (nI b), .int (nI a), .int s, .int (nI i), .null], [.int (nI i), .ref (20 + a)], dx_pR m 2 (fb_put (m.1 2) (fun x => fv (m.1 (20 + a) x)) (b * 12) i))) rfl ?_
            refine dx_bldN i rfl rfl (Or.inl (lx_row a ha)) rfl (by omega) ?_
            refine dx_blk 0 (c' := (85, [.ref 0, .int (nI b), .int (nI a), .int s, .int (nI i), .null], [.int ((dx_pR m 2 (fb_put (m.1 2) (fun x => fv (m.1 (20 + a) x)) (b * 12) i)).1 (20 + a) i)], dx_pR m 2 (fb_put (m.1 2) (fun x => fv (m.1 (20 + a) x)) (b * 12) i))) rfl ?_
            refine dx_nmI (fun told e_told => ?_)
            rw [dx_rd (by omega)] at e_told
            refine dx_blk 6 (c' := (96, [.ref 0, .int (nI b), .int (nI a), .int s, .int (nI i), .int told], [.int told, .int (nI b), .int (nI i), .ref 1], dx_pR m 2 (fb_put (m.1 2) (fun x => fv (m.1 (20 + a) x)) (b * 12) i))) rfl ?_
            refine dx_br (q := 0 ≤ told) (a := 104) (b := 99) (L := [.ref 0, .int (nI b), .int (nI a), .int s, .int (nI i), .int told]) (st := [.int (nI b), .int (nI i), .ref 1]) (m := dx_pR m 2 (fb_put (m.1 2) (fun x => fv (m.1 (20 + a) x)) (b * 12) i)) rfl (fun h96 => ?_) (fun h96 => ?_)
            · refine dx_blk 2 (c' := (108, [.ref 0, .int (nI b), .int (nI a), .int s, .int (nI i), .int told], [.int 20, .int told, .int (nI b), .int (nI i), .ref 1], dx_pR m 2 (fb_put (m.1 2) (fun x => fv (m.1 (20 + a) x)) (b * 12) i))) rfl ?_
              refine dx_copy (c' := (111, [.ref 0, .int (nI b), .int (nI a), .int s, .int (nI i), .int told], [.int (if 20 < told then 20 else told), .int (nI b), .int (nI i), .ref 1], dx_pR m 2 (fb_put (m.1 2) (fun x => fv (m.1 (20 + a) x)) (b * 12) i))) rfl ?_
              refine dx_call (id := 3) (as := [.ref 1, .int (nI i), .int (nI b), .int (if 20 < told then 20 else told)]) (rest := []) rfl ?_
              refine sX0_put (a := i) (b := b) (if 20 < told then 20 else told) (by omega) (by omega) _ ?_
              refine dx_blk 0 (c' := (114, [.ref 0, .int (nI b), .int (nI a), .int s, .int (nI i), .int told], [], dx_pI (dx_pR m 2 (fb_put (m.1 2) (fun x => fv (m.1 (20 + a) x)) (b * 12) i)) 2 (b * 12 + i) (if 20 < told then 20 else told))) rfl ?_
              refine dx_blk 2 (c' := (117, [.ref 0, .int (nI b), .int (nI a), .int s, .int (nI i), .int told], [.int told, .int s], dx_pI (dx_pR m 2 (fb_put (m.1 2) (fun x => fv (m.1 (20 + a) x)) (b * 12) i)) 2 (b * 12 + i) (if 20 < told then 20 else told))) rfl ?_
              refine dx_br (q := 0 ≤ told) (a := 124) (b := 120) (L := [.ref 0, .int (nI b), .int (nI a), .int s, .int (nI i), .int told]) (st := [.int s]) (m := dx_pI (dx_pR m 2 (fb_put (m.1 2) (fun x => fv (m.1 (20 + a) x)) (b * 12) i)) 2 (b * 12 + i) (if 20 < told then 20 else told)) rfl (fun _ => ?_) (fun h => absurd h96 h)
              refine dx_blk 5 (c' := (64, [.ref 0, .int (nI b), .int (nI a), .int (s + 1), .int ((nI i) + 1), .int told], [], dx_pI (dx_pR m 2 (fb_put (m.1 2) (fun x => fv (m.1 (20 + a) x)) (b * 12) i)) 2 (b * 12 + i) (if 20 < told then 20 else told))) rfl ?_
              refine dx_fgt [.ref 0, .int (nI b), .int (nI a), .int (s + 1), .int ((nI i) + 1), .null] (And.intro (Or.inr rfl) (And.intro (Or.inr rfl) (And.intro (Or.inr rfl) (And.intro (Or.inr rfl) (And.intro (Or.inr rfl) (And.intro (Or.inl rfl) trivial)))))) ?_
              simp only [st_neg, ← e_told] at hk
              first | (rw [if_pos (i_nl2 (by assumption))] at hk) | (rw [if_neg (i_nl (by assumption))] at hk)
              rw [dx_pI_pR, ← (show fv (m.1 (20 + a) i) = (if 20 < told then 20 else told) by rw [← e_told]; first | exact if_pos (i_nl2 (by assumption)) | exact if_neg (i_nl (by assumption))), fb_put_succ (m.1 2) (fun x => fv (m.1 (20 + a) x)) (b * 12) i, ← nI_succ]
              exact hk
            · refine dx_blk 2 (c' := (111, [.ref 0, .int (nI b), .int (nI a), .int s, .int (nI i), .int told], [.int (-9), .int (nI b), .int (nI i), .ref 1], dx_pR m 2 (fb_put (m.1 2) (fun x => fv (m.1 (20 + a) x)) (b * 12) i))) rfl ?_
              refine dx_call (id := 3) (as := [.ref 1, .int (nI i), .int (nI b), .int (-9)]) (rest := []) rfl ?_
              refine sX0_put (a := i) (b := b) (-9) (by omega) (by omega) _ ?_
              refine dx_blk 0 (c' := (114, [.ref 0, .int (nI b), .int (nI a), .int s, .int (nI i), .int told], [], dx_pI (dx_pR m 2 (fb_put (m.1 2) (fun x => fv (m.1 (20 + a) x)) (b * 12) i)) 2 (b * 12 + i) (-9))) rfl ?_
              refine dx_blk 2 (c' := (117, [.ref 0, .int (nI b), .int (nI a), .int s, .int (nI i), .int told], [.int told, .int s], dx_pI (dx_pR m 2 (fb_put (m.1 2) (fun x => fv (m.1 (20 + a) x)) (b * 12) i)) 2 (b * 12 + i) (-9))) rfl ?_
              refine dx_br (q := 0 ≤ told) (a := 124) (b := 120) (L := [.ref 0, .int (nI b), .int (nI a), .int s, .int (nI i), .int told]) (st := [.int s]) (m := dx_pI (dx_pR m 2 (fb_put (m.1 2) (fun x => fv (m.1 (20 + a) x)) (b * 12) i)) 2 (b * 12 + i) (-9)) rfl (fun h => absurd h h96) (fun _ => ?_)
              refine dx_blk 6 (c' := (64, [.ref 0, .int (nI b), .int (nI a), .int (s + 0), .int ((nI i) + 1), .int told], [], dx_pI (dx_pR m 2 (fb_put (m.1 2) (fun x => fv (m.1 (20 + a) x)) (b * 12) i)) 2 (b * 12 + i) (-9))) rfl ?_
              refine dx_fgt [.ref 0, .int (nI b), .int (nI a), .int (s + 0), .int ((nI i) + 1), .null] (And.intro (Or.inr rfl) (And.intro (Or.inr rfl) (And.intro (Or.inr rfl) (And.intro (Or.inr rfl) (And.intro (Or.inr rfl) (And.intro (Or.inl rfl) trivial)))))) ?_
              simp only [st_neg, ← e_told] at hk
              first | (rw [if_pos (i_nl2 (by assumption))] at hk) | (rw [if_neg (i_nl (by assumption))] at hk)
              rw [dx_pI_pR, ← (show fv (m.1 (20 + a) i) = (-9) by rw [← e_told]; first | exact if_pos (i_nl2 (by assumption)) | exact if_neg (i_nl (by assumption))), fb_put_succ (m.1 2) (fun x => fv (m.1 (20 + a) x)) (b * 12) i, ← nI_succ]
              exact hk
          · refine dx_blk 0 (c' := (64, [.ref 0, .int (nI b), .int (nI a), .int (nf (st_neg (m.1 (20 + a))) W 0), .int (nI W), .null], [], dx_pR m 2 (fb_put (m.1 2) (fun x => fv (m.1 (20 + a) x)) (b * 12) W))) rfl ?_
            refine dx_blk 4 (c' := (73, [.ref 0, .int (nI b), .int (nI a), .int (nf (st_neg (m.1 (20 + a))) W 0), .int (nI W), .null], [.int (m.1 1 1), .int (nI W)], dx_pR m 2 (fb_put (m.1 2) (fun x => fv (m.1 (20 + a) x)) (b * 12) W))) rfl ?_
            refine dx_br (q := (m.1 1 1) ≤ (nI W)) (a := 133) (b := 76) (L := [.ref 0, .int (nI b), .int (nI a), .int (nf (st_neg (m.1 (20 + a))) W 0), .int (nI W), .null]) (st := []) (m := dx_pR m 2 (fb_put (m.1 2) (fun x => fv (m.1 (20 + a) x)) (b * 12) W)) rfl (fun _ => ?_) (fun h => absurd (by rw [show (m.1 1 1) = nI W from eW]; exact nI_le (Nat.le_refl _) (by omega)) h)
            refine dx_blk 1 (c' := (134, [.ref 0, .int (nI b), .int (nI a), .int (nf (st_neg (m.1 (20 + a))) W 0), .int (nI W), .null], [.int (nf (st_neg (m.1 (20 + a))) W 0)], dx_pR m 2 (fb_put (m.1 2) (fun x => fv (m.1 (20 + a) x)) (b * 12) W))) rfl ?_
            exact dx_ret (r := some (.int (nf (st_neg (m.1 (20 + a))) W 0))) rfl (h4 a b z ha hb rfl rfl hz1 ez hWz)
        · refine dx_blk 2 (c' := (55, [.ref 0, .int y, .int (nI a), .null, .null, .null], [.int 2, .ref 0], m)) rfl ?_
          refine dx_call (id := 70) (as := [.ref 0, .int 2]) (rest := []) rfl ?_
          refine sX3_find 2 (by decide) _ ?_
          refine dx_blk 0 (c' := (58, [.ref 0, .int y, .int (nI a), .null, .null, .null], [.int (-3)], (fndX m 2))) rfl ?_
          exact dx_ret (r := some (.int (-3))) rfl (h3 a z ha rfl hz1 ez (by rcases Nat.lt_or_ge z W with q | q; exact q; exact absurd (by rw [ez, eW]; exact nI_le q (by omega)) h50) hyH)
set_option maxRecDepth 20000 in
theorem sX4_fill {d : Nat} (m : dx_M) {W H : Nat} (hW1 : 1 ≤ W) (hW : W ≤ 12) (hH : H ≤ 12) (eW : m.1 0 4 = nI W) (eH : m.1 0 5 = nI H) (hz : ∀ a : Nat, a < 6 → szP (m.1 3 a)) (y s : Int32) {Z : Option Value → dx_M → Prop} (h1 : (inI y 0 (nI H - 1) && inI s 0 5) = false → Z (some (.int (-1))) m) (h2 : ∀ a : Nat, a < 6 → s = nI a → m.1 3 a = -1 → inI y 0 (nI H - 1) = true → Z (some (.int (-3))) (fndM m 1)) (h3 : ∀ a z : Nat, a < 6 → s = nI a → z ≤ 12 → m.1 3 a = nI z → z < W → inI y 0 (nI H - 1) = true → Z (some (.int (-3))) (fndM m 2)) (h4 : ∀ a b z : Nat, a < 6 → b < H → s = nI a → y = nI b → z ≤ 12 → m.1 3 a = nI z → W ≤ z → Z (some (.int (nf (st_neg (fun x => m.1 4 (12 * a + x))) W 0))) (dx_pR m 2 (fb_put (m.1 2) (fun x => fv (m.1 4 (12 * a + x))) (12 * b) W))) : dx_Sem dx_P lx_M (d + 3) 101 [.ref 0, .int y, .int s] m Z := by
  refine dx_sem km_X4_fill rfl rfl ?_
  refine dx_blk 0 (c' := (0, [.ref 0, .int y, .int s, .null, .null, .null], [], m)) rfl ?_
  refine dx_blk 6 (c' := (8, [.ref 0, .int y, .int s, .null, .null, .null], [.int ((m.1 0 5) - 1), .int 0, .int y], m)) rfl ?_
  refine dx_call (id := 82) (as := [.int y, .int 0, .int ((m.1 0 5) - 1)]) (rest := []) rfl ?_
  refine sX4_in y 0 ((m.1 0 5) - 1) _ ?_
  refine dx_blk 0 (c' := (11, [.ref 0, .int y, .int s, .null, .null, .null], [.int (bI (inI y 0 ((m.1 0 5) - 1)))], m)) rfl ?_
  refine dx_brB (B := (inI y 0 ((m.1 0 5) - 1))) (a := 21) (b := 14) (L := [.ref 0, .int y, .int s, .null, .null, .null]) (st := []) (m := m) rfl (fun q11 => ?_) (fun q11 => ?_)
  · refine dx_blk 1 (c' := (22, [.ref 0, .int y, .int s, .null, .null, .null], [.int (-1)], m)) rfl ?_
    exact dx_ret (r := some (.int (-1))) rfl (by
    rw [eH] at q11
    exact h1 (by simp_all))
  · refine dx_blk 1 (c' := (15, [.ref 0, .int y, .int s, .null, .null, .null], [.int s], m)) rfl ?_
    refine dx_call (id := 96) (as := [.int s]) (rest := []) rfl ?_
    refine sX4_isSheet s _ ?_
    refine dx_blk 0 (c' := (18, [.ref 0, .int y, .int s, .null, .null, .null], [.int (bI (inI s 0 5))], m)) rfl ?_
    refine dx_brB (B := (inI s 0 5)) (a := 21) (b := 23) (L := [.ref 0, .int y, .int s, .null, .null, .null]) (st := []) (m := m) rfl (fun q18 => ?_) (fun q18 => ?_)
    · refine dx_blk 1 (c' := (22, [.ref 0, .int y, .int s, .null, .null, .null], [.int (-1)], m)) rfl ?_
      exact dx_ret (r := some (.int (-1))) rfl (by
    rw [eH] at q11
    exact h1 (by simp_all))
    · have hyH : inI y 0 (nI H - 1) = true := by rw [← eH]; exact q11
      obtain ⟨a, ha0, rfl⟩ := in_N (n := 5) rfl q18
      have ha : a < 6 := by omega
      refine dx_blk 3 (c' := (28, [.ref 0, .int y, .int (nI a), .null, .null, .null], [.int (nI a), .ref 3], m)) rfl ?_
      refine dx_aldN a rfl rfl rfl rfl (by omega) ?_
      refine dx_blk 0 (c' := (29, [.ref 0, .int y, .int (nI a), .null, .null, .null], [.int (m.1 3 a)], m)) rfl ?_
      refine dx_br (q := 0 ≤ (m.1 3 a)) (a := 38) (b := 32) (L := [.ref 0, .int y, .int (nI a), .null, .null, .null]) (st := []) (m := m) rfl (fun h29 => ?_) (fun h29 => ?_)
      · obtain ⟨z, hz1, ez⟩ := szB (hz a ha) (by assumption)
        refine dx_blk 3 (c' := (43, [.ref 0, .int y, .int (nI a), .null, .null, .null], [.int (nI a), .ref 3], m)) rfl ?_
        refine dx_aldN a rfl rfl rfl rfl (by omega) ?_
        refine dx_blk 0 (c' := (44, [.ref 0, .int y, .int (nI a), .null, .null, .null], [.int (m.1 3 a)], m)) rfl ?_
        refine dx_blk 2 (c' := (48, [.ref 0, .int y, .int (nI a), .null, .null, .null], [.int (m.1 0 4), .int (m.1 3 a)], m)) rfl ?_
        refine dx_br (q := (m.1 0 4) ≤ (m.1 3 a)) (a := 57) (b := 51) (L := [.ref 0, .int y, .int (nI a), .null, .null, .null]) (st := []) (m := m) rfl (fun h48 => ?_) (fun h48 => ?_)
        · have hWz : W ≤ z := (by rcases Nat.lt_or_ge z W with q | q; exact absurd h48 (by rw [ez, eW]; exact nI_ge q (by omega)); exact q)
          obtain ⟨b, hb, rfl⟩ := in_W hH hyH
          refine dx_blk 4 (c' := (62, [.ref 0, .int (nI b), .int (nI a), .int 0, .int 0, .null], [], m)) rfl ?_
          refine dx_mem (m' := dx_pR m 2 (fb_put (m.1 2) (fun x => fv (m.1 4 (12 * a + x))) (12 * b) 0)) (by rw [fb_put_0]; exact (dx_pR_self _ 2).symm) ?_
          refine dx_blk 0 (c' := (62, [.ref 0, .int (nI b), .int (nI a), .int 0, .int (nI 0), .null], [], dx_pR m 2 (fb_put (m.1 2) (fun x => fv (m.1 4 (12 * a + x))) (12 * b) 0))) rfl ?_
          refine dx_for (fun (i : Nat) (s : Int32) => ((62, [.ref 0, .int (nI b), .int (nI a), .int s, .int (nI i), .null], [], dx_pR m 2 (fb_put (m.1 2) (fun x => fv (m.1 4 (12 * a + x))) (12 * b) i)) : dx_F)) (st_neg (fun x => m.1 4 (12 * a + x))) (fun _ _ => True) W 0 trivial (fun i s hi hI hk => ?_) (fun _ _ _ _ => trivial) (fun hN => ?_)
          · refine dx_blk 0 (c' := (62, [.ref 0, .int (nI b), .int (nI a), .int s, .int (nI i), .null], [], dx_pR m 2 (fb_put (m.1 2) (fun x => fv (m.1 4 (12 * a + x))) (12 * b) i))) rfl ?_
            refine dx_blk 3 (c' := (68, [.ref 0, .int (nI b), .int (nI a), .int s, .int (nI i), .null], [.int (m.1 0 4), .int (nI i)], dx_pR m 2 (fb_put (m.1 2) (fun x => fv (m.1 4 (12 * a + x))) (12 * b) i))) rfl ?_
            refine dx_br (q := (m.1 0 4) ≤ (nI i)) (a := 140) (b := 71) (L := [.ref 0, .int (nI b), .int (nI a), .int s, .int (nI i), .null]) (st := []) (m := dx_pR m 2 (fb_put (m.1 2) (fun x => fv (m.1 4 (12 * a + x))) (12 * b) i)) rfl (fun h => absurd h (by rw [show (m.1 0 4) = nI W from eW]; exact nI_ge hi (by omega))) (fun _ => ?_)
            refine dx_blk 7 (c' := (82, [.ref 0, .int (nI b), .int (nI a), .int s, .int (nI i), .null], [.int ((12 * (nI a)) + (nI i)), .ref 4], dx_pR m 2 (fb_put (m.1 2) (fun x => fv (m.1 4 (12 * a + x))) (12 * b) i))) rfl ?_
            refine dx_bldN (12 * a + i) rfl rfl (Or.inl rfl) (nI_ix2 a i) (by omega) ?_
            refine dx_blk 0 (c' := (83, [.ref 0, .int (nI b), .int (nI a), .int s, .int (nI i), .null], [.int (m.1 4 (12 * a + i))], dx_pR m 2 (fb_put (m.1 2) (fun x => fv (m.1 4 (12 * a + x))) (12 * b) i))) rfl ?_
            refine dx_nmI (fun told e_told => ?_)
            refine dx_blk 9 (c' := (98, [.ref 0, .int (nI b), .int (nI a), .int s, .int (nI i), .int told], [.int told, .int ((12 * (nI b)) + (nI i)), .ref 2], dx_pR m 2 (fb_put (m.1 2) (fun x => fv (m.1 4 (12 * a + x))) (12 * b) i))) rfl ?_
            refine dx_br (q := 0 ≤ told) (a := 106) (b := 101) (L := [.ref 0, .int (nI b), .int (nI a), .int s, .int (nI i), .int told]) (st := [.int ((12 * (nI b)) + (nI i)), .ref 2]) (m := dx_pR m 2 (fb_put (m.1 2) (fun x => fv (m.1 4 (12 * a + x))) (12 * b) i)) rfl (fun h98 => ?_) (fun h98 => ?_)
            · refine dx_blk 2 (c' := (110, [.ref 0, .int (nI b), .int (nI a), .int s, .int (nI i), .int told], [.int 20, .int told, .int ((12 * (nI b)) + (nI i)), .ref 2], dx_pR m 2 (fb_put (m.1 2) (fun x => fv (m.1 4 (12 * a + x))) (12 * b) i))) rfl ?_
              refine dx_br (q := told ≤ 20) (a := 118) (b := 113) (L := [.ref 0, .int (nI b), .int (nI a), .int s, .int (nI i), .int told]) (st := [.int ((12 * (nI b)) + (nI i)), .ref 2]) (m := dx_pR m 2 (fb_put (m.1 2) (fun x => fv (m.1 4 (12 * a + x))) (12 * b) i)) rfl (fun h110 => ?_) (fun h110 => ?_)
              · refine dx_blk 1 (c' := (120, [.ref 0, .int (nI b), .int (nI a), .int s, .int (nI i), .int told], [.int told, .int ((12 * (nI b)) + (nI i)), .ref 2], dx_pR m 2 (fb_put (m.1 2) (fun x => fv (m.1 4 (12 * a + x))) (12 * b) i))) rfl ?_
                refine dx_astN (12 * b + i) rfl rfl rfl (nI_ix2 b i) (by omega) ?_
                refine dx_blk 0 (c' := (121, [.ref 0, .int (nI b), .int (nI a), .int s, .int (nI i), .int told], [], dx_pI (dx_pR m 2 (fb_put (m.1 2) (fun x => fv (m.1 4 (12 * a + x))) (12 * b) i)) 2 (12 * b + i) told)) rfl ?_
                refine dx_blk 2 (c' := (124, [.ref 0, .int (nI b), .int (nI a), .int s, .int (nI i), .int told], [.int told, .int s], dx_pI (dx_pR m 2 (fb_put (m.1 2) (fun x => fv (m.1 4 (12 * a + x))) (12 * b) i)) 2 (12 * b + i) told)) rfl ?_
                refine dx_br (q := 0 ≤ told) (a := 131) (b := 127) (L := [.ref 0, .int (nI b), .int (nI a), .int s, .int (nI i), .int told]) (st := [.int s]) (m := dx_pI (dx_pR m 2 (fb_put (m.1 2) (fun x => fv (m.1 4 (12 * a + x))) (12 * b) i)) 2 (12 * b + i) told) rfl (fun _ => ?_) (fun h => absurd h98 h)
                refine dx_blk 5 (c' := (62, [.ref 0, .int (nI b), .int (nI a), .int (s + 1), .int ((nI i) + 1), .int told], [], dx_pI (dx_pR m 2 (fb_put (m.1 2) (fun x => fv (m.1 4 (12 * a + x))) (12 * b) i)) 2 (12 * b + i) told)) rfl ?_
                refine dx_fgt [.ref 0, .int (nI b), .int (nI a), .int (s + 1), .int ((nI i) + 1), .null] (And.intro (Or.inr rfl) (And.intro (Or.inr rfl) (And.intro (Or.inr rfl) (And.intro (Or.inr rfl) (And.intro (Or.inr rfl) (And.intro (Or.inl rfl) trivial)))))) ?_
                simp only [st_neg, ← e_told] at hk
                first | (rw [if_pos (i_nl2 (by assumption))] at hk) | (rw [if_neg (i_nl (by assumption))] at hk)
                rw [dx_pI_pR, ← (show fv (m.1 4 (12 * a + i)) = told by rw [← e_told]; unfold fv; first | exact if_pos (i_nl2 (by assumption)) | (rw [if_neg (i_nl (by assumption)), if_neg (i_nl3 (by assumption))]) | (rw [if_neg (i_nl (by assumption)), if_pos (i_nl4 (by assumption))])), fb_put_succ (m.1 2) (fun x => fv (m.1 4 (12 * a + x))) (12 * b) i, ← nI_succ]
                exact hk
              · refine dx_blk 2 (c' := (120, [.ref 0, .int (nI b), .int (nI a), .int s, .int (nI i), .int told], [.int 20, .int ((12 * (nI b)) + (nI i)), .ref 2], dx_pR m 2 (fb_put (m.1 2) (fun x => fv (m.1 4 (12 * a + x))) (12 * b) i))) rfl ?_
                refine dx_astN (12 * b + i) rfl rfl rfl (nI_ix2 b i) (by omega) ?_
                refine dx_blk 0 (c' := (121, [.ref 0, .int (nI b), .int (nI a), .int s, .int (nI i), .int told], [], dx_pI (dx_pR m 2 (fb_put (m.1 2) (fun x => fv (m.1 4 (12 * a + x))) (12 * b) i)) 2 (12 * b + i) 20)) rfl ?_
                refine dx_blk 2 (c' := (124, [.ref 0, .int (nI b), .int (nI a), .int s, .int (nI i), .int told], [.int told, .int s], dx_pI (dx_pR m 2 (fb_put (m.1 2) (fun x => fv (m.1 4 (12 * a + x))) (12 * b) i)) 2 (12 * b + i) 20)) rfl ?_
                refine dx_br (q := 0 ≤ told) (a := 131) (b := 127) (L := [.ref 0, .int (nI b), .int (nI a), .int s, .int (nI i), .int told]) (st := [.int s]) (m := dx_pI (dx_pR m 2 (fb_put (m.1 2) (fun x => fv (m.1 4 (12 * a + x))) (12 * b) i)) 2 (12 * b + i) 20) rfl (fun _ => ?_) (fun h => absurd h98 h)
                refine dx_blk 5 (c' := (62, [.ref 0, .int (nI b), .int (nI a), .int (s + 1), .int ((nI i) + 1), .int told], [], dx_pI (dx_pR m 2 (fb_put (m.1 2) (fun x => fv (m.1 4 (12 * a + x))) (12 * b) i)) 2 (12 * b + i) 20)) rfl ?_
                refine dx_fgt [.ref 0, .int (nI b), .int (nI a), .int (s + 1), .int ((nI i) + 1), .null] (And.intro (Or.inr rfl) (And.intro (Or.inr rfl) (And.intro (Or.inr rfl) (And.intro (Or.inr rfl) (And.intro (Or.inr rfl) (And.intro (Or.inl rfl) trivial)))))) ?_
                simp only [st_neg, ← e_told] at hk
                first | (rw [if_pos (i_nl2 (by assumption))] at hk) | (rw [if_neg (i_nl (by assumption))] at hk)
                rw [dx_pI_pR, ← (show fv (m.1 4 (12 * a + i)) = 20 by rw [← e_told]; unfold fv; first | exact if_pos (i_nl2 (by assumption)) | (rw [if_neg (i_nl (by assumption)), if_neg (i_nl3 (by assumption))]) | (rw [if_neg (i_nl (by assumption)), if_pos (i_nl4 (by assumption))])), fb_put_succ (m.1 2) (fun x => fv (m.1 4 (12 * a + x))) (12 * b) i, ← nI_succ]
                exact hk
            · refine dx_blk 2 (c' := (120, [.ref 0, .int (nI b), .int (nI a), .int s, .int (nI i), .int told], [.int (-9), .int ((12 * (nI b)) + (nI i)), .ref 2], dx_pR m 2 (fb_put (m.1 2) (fun x => fv (m.1 4 (12 * a + x))) (12 * b) i))) rfl ?_
              refine dx_astN (12 * b + i) rfl rfl rfl (nI_ix2 b i) (by omega) ?_
              refine dx_blk 0 (c' := (121, [.ref 0, .int (nI b), .int (nI a), .int s, .int (nI i), .int told], [], dx_pI (dx_pR m 2 (fb_put (m.1 2) (fun x => fv (m.1 4 (12 * a + x))) (12 * b) i)) 2 (12 * b + i) (-9))) rfl ?_
              refine dx_blk 2 (c' := (124, [.ref 0, .int (nI b), .int (nI a), .int s, .int (nI i), .int told], [.int told, .int s], dx_pI (dx_pR m 2 (fb_put (m.1 2) (fun x => fv (m.1 4 (12 * a + x))) (12 * b) i)) 2 (12 * b + i) (-9))) rfl ?_
              refine dx_br (q := 0 ≤ told) (a := 131) (b := 127) (L := [.ref 0, .int (nI b), .int (nI a), .int s, .int (nI i), .int told]) (st := [.int s]) (m := dx_pI (dx_pR m 2 (fb_put (m.1 2) (fun x => fv (m.1 4 (12 * a + x))) (12 * b) i)) 2 (12 * b + i) (-9)) rfl (fun h => absurd h h98) (fun _ => ?_)
              refine dx_blk 6 (c' := (62, [.ref 0, .int (nI b), .int (nI a), .int (s + 0), .int ((nI i) + 1), .int told], [], dx_pI (dx_pR m 2 (fb_put (m.1 2) (fun x => fv (m.1 4 (12 * a + x))) (12 * b) i)) 2 (12 * b + i) (-9))) rfl ?_
              refine dx_fgt [.ref 0, .int (nI b), .int (nI a), .int (s + 0), .int ((nI i) + 1), .null] (And.intro (Or.inr rfl) (And.intro (Or.inr rfl) (And.intro (Or.inr rfl) (And.intro (Or.inr rfl) (And.intro (Or.inr rfl) (And.intro (Or.inl rfl) trivial)))))) ?_
              simp only [st_neg, ← e_told] at hk
              first | (rw [if_pos (i_nl2 (by assumption))] at hk) | (rw [if_neg (i_nl (by assumption))] at hk)
              rw [dx_pI_pR, ← (show fv (m.1 4 (12 * a + i)) = (-9) by rw [← e_told]; unfold fv; first | exact if_pos (i_nl2 (by assumption)) | (rw [if_neg (i_nl (by assumption)), if_neg (i_nl3 (by assumption))]) | (rw [if_neg (i_nl (by assumption)), if_pos (i_nl4 (by assumption))])), fb_put_succ (m.1 2) (fun x => fv (m.1 4 (12 * a + x))) (12 * b) i, ← nI_succ]
              exact hk
          · refine dx_blk 0 (c' := (62, [.ref 0, .int (nI b), .int (nI a), .int (nf (st_neg (fun x => m.1 4 (12 * a + x))) W 0), .int (nI W), .null], [], dx_pR m 2 (fb_put (m.1 2) (fun x => fv (m.1 4 (12 * a + x))) (12 * b) W))) rfl ?_
            refine dx_blk 3 (c' := (68, [.ref 0, .int (nI b), .int (nI a), .int (nf (st_neg (fun x => m.1 4 (12 * a + x))) W 0), .int (nI W), .null], [.int (m.1 0 4), .int (nI W)], dx_pR m 2 (fb_put (m.1 2) (fun x => fv (m.1 4 (12 * a + x))) (12 * b) W))) rfl ?_
            refine dx_br (q := (m.1 0 4) ≤ (nI W)) (a := 140) (b := 71) (L := [.ref 0, .int (nI b), .int (nI a), .int (nf (st_neg (fun x => m.1 4 (12 * a + x))) W 0), .int (nI W), .null]) (st := []) (m := dx_pR m 2 (fb_put (m.1 2) (fun x => fv (m.1 4 (12 * a + x))) (12 * b) W)) rfl (fun _ => ?_) (fun h => absurd (by rw [show (m.1 0 4) = nI W from eW]; exact nI_le (Nat.le_refl _) (by omega)) h)
            refine dx_blk 1 (c' := (141, [.ref 0, .int (nI b), .int (nI a), .int (nf (st_neg (fun x => m.1 4 (12 * a + x))) W 0), .int (nI W), .null], [.int (nf (st_neg (fun x => m.1 4 (12 * a + x))) W 0)], dx_pR m 2 (fb_put (m.1 2) (fun x => fv (m.1 4 (12 * a + x))) (12 * b) W))) rfl ?_
            exact dx_ret (r := some (.int (nf (st_neg (fun x => m.1 4 (12 * a + x))) W 0))) rfl (h4 a b z ha hb rfl rfl hz1 ez hWz)
        · refine dx_blk 2 (c' := (53, [.ref 0, .int y, .int (nI a), .null, .null, .null], [.int 2, .ref 0], m)) rfl ?_
          refine dx_call (id := 83) (as := [.ref 0, .int 2]) (rest := []) rfl ?_
          refine sX4_meets 2 (by decide) _ ?_
          refine dx_blk 0 (c' := (56, [.ref 0, .int y, .int (nI a), .null, .null, .null], [.int (-3)], (fndM m 2))) rfl ?_
          exact dx_ret (r := some (.int (-3))) rfl (h3 a z ha rfl hz1 ez (by rcases Nat.lt_or_ge z W with q | q; exact q; exact absurd (by rw [ez, eW]; exact nI_le q (by omega)) h48) hyH)
      · refine dx_blk 2 (c' := (34, [.ref 0, .int y, .int (nI a), .null, .null, .null], [.int 1, .ref 0], m)) rfl ?_
        refine dx_call (id := 83) (as := [.ref 0, .int 1]) (rest := []) rfl ?_
        refine sX4_meets 1 (by decide) _ ?_
        refine dx_blk 0 (c' := (37, [.ref 0, .int y, .int (nI a), .null, .null, .null], [.int (-3)], (fndM m 1))) rfl ?_
        exact dx_ret (r := some (.int (-3))) rfl (h2 a ha rfl (szA (hz a ha) (by assumption)) hyH)
