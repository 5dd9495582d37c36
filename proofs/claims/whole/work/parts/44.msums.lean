/-! the reference: sums, powers, the line (printed by wip/whole/g44.py) -/
def keepP (m m' : dx_M) : Prop := m'.1 = m.1 ∧ (∀ k, k ≠ 0 → m'.2 k = m.2 k) ∧ ∀ j, j < 29 → m'.2 0 j = m.2 0 j
theorem keepP_L {m m' : dx_M} (h : keepP m m') : keepL m m' := by
  obtain ⟨h1, h2, h3⟩ := h
  exact ⟨⟨fun k _ _ _ => by rw [h1], ⟨by rw [h1], by rw [h1], by rw [h1], by rw [h1], by rw [h1]⟩, h3 2 (by decide), h3 3 (by decide)⟩, by rw [h1], by rw [h1], by rw [h1], h3 21 (by decide), h3 22 (by decide)⟩
theorem keepP_B {m m' : dx_M} (h : keepP m m') (hb : B13 m) : B13 m' := fun k hk => by rw [h.1]; exact hb k hk
theorem keepP_G {m m' : dx_M} (h : keepP m m') (hb : B13 m) : kG m m' := ⟨(keepP_L h).1, keepP_B h hb⟩
theorem keepP_A {m m' : dx_M} (h : keepP m m') {op : Nat → Nat → Bool} {w hh r : Nat} {p Q : Int} (ha : AM m op w hh r p Q) : AM m' op w hh r p Q := by
  obtain ⟨a1, a2, a3, a4, a5, a6⟩ := ha
  refine ⟨keepL_LM (keepP_L h) a1, ?_, by rw [h.1]; exact a3, by rw [h.1]; exact a4, (h.2.2 25 (by decide)).trans a5, (h.2.2 26 (by decide)).trans a6⟩
  unfold WM
  rw [h.1]
  exact a2
theorem lZ_aN (a b : Nat) : lZ (a : Int) + lZ (b : Int) = lZ ((a + b : Nat) : Int) := by rw [lZ_add]; rfl
theorem lZ_a0 (z : Int) : lZ z + 0 = lZ z := by rw [show (0 : Int64) = lZ 0 from rfl, lZ_add, Int.add_zero]
theorem od_L {n : Nat} (h : n < 1000) : ((2 : Int32) * nI n + 1).toInt64 = lZ ((2 * n + 1 : Nat) : Int) := by
  rw [show (2 : Int32) * nI n + 1 = nI (2 * n + 1) by rw [show (2 : Int32) = nI 2 from rfl, pk_mul, nI_1]]
  exact lZ_n (by omega)
theorem ol_L {n : Nat} (h : n < 1000) : (2 : Int64) * (nI n).toInt64 + 1 = lZ ((2 * n + 1 : Nat) : Int) := by
  rw [lZ_n (by omega), show (2 : Int64) = lZ 2 from rfl, show (1 : Int64) = lZ 1 from rfl, lZ_mul, lZ_add]
  congr 1
theorem cb_L {n : Nat} (h : n < 1000) : (3 : Int64) * (nI n).toInt64 * (nI n).toInt64 + 3 * (nI n).toInt64 + 1 = lZ ((3 * n * n + 3 * n + 1 : Nat) : Int) := by
  rw [lZ_n (by omega), show (3 : Int64) = lZ 3 from rfl, show (1 : Int64) = lZ 1 from rfl, lZ_mul, lZ_mul, lZ_add, lZ_add]
  congr 1
theorem sm_nf (b : dx_M) (x y z x' y' z' : Int64) : dx_pL (dx_pL (dx_pL (dx_pL (dx_pL (dx_pL b 0 29 x) 0 30 y) 0 31 z) 0 29 x') 0 31 z') 0 30 y' = dx_pL (dx_pL (dx_pL b 0 29 x') 0 30 y') 0 31 z' := by
  refine Prod.ext rfl (funext fun a => ?_)
  by_cases h : a = 0
  · subst h
    funext j
    show vp_updL (vp_updL (vp_updL (vp_updL (vp_updL (vp_updL (b.2 0) 29 x) 30 y) 31 z) 29 x') 31 z') 30 y' j = vp_updL (vp_updL (vp_updL (b.2 0) 29 x') 30 y') 31 z' j
    unfold vp_updL
    by_cases h1 : j = 29
    · simp [h1]
    · by_cases h2 : j = 30
      · simp [h2]
      · by_cases h3 : j = 31 <;> simp [h1, h2, h3]
  · simp [dx_pL, h]
theorem ct0_hv {p : Nat → Bool} : ∀ n, fb_ct p n = 0 → hvS p n = 0
  | 0, _ => rfl
  | n + 1, h => by
    cases e : p n with
    | true => rw [ct_t e] at h; omega
    | false => rw [ct_f e] at h; rw [hv_f e]; exact ct0_hv n h
set_option maxRecDepth 20000 in
theorem sX4_laySums {d : Nat} (m : dx_M) {Z : Option Value → dx_M → Prop} {op : Nat → Nat → Bool} {w h r : Nat} (hl : LM m op w h) (hm : WM m op w r) (hr : r < h) (er : m.1 0 24 = nI r) (h1 : Z none (dx_pL (dx_pL (dx_pL m 0 29 (lZ (sXN op w r))) 0 30 (lZ (rXN op w r))) 0 31 (lZ (sYN op w r)))) : dx_Sem dx_P lx_M (d + 1) 125 [.ref 0] m Z := by
  obtain ⟨a1, a2, a3, a4, a5, a6⟩ := id hl
  refine dx_sem km_X4_laySums rfl rfl ?_
  refine dx_blk 0 (c' := (0, [.ref 0, .null, .null], [], m)) rfl ?_
  refine dx_blk 11 (c' := (17, [.ref 0, .int 0, .null], [], dx_pL (dx_pL (dx_pL m 0 29 0) 0 30 0) 0 31 0)) rfl ?_
  refine dx_blk 0 (c' := (17, [.ref 0, .int (nI 0), .null], [], dx_pL (dx_pL (dx_pL m 0 29 (lZ ((fb_sm (fun y => hvS (fmB op w r y) w) 0 : Nat) : Int))) 0 30 (lZ 0)) 0 31 (lZ ((fb_sm (fun y => fb_ct (fmB op w r y) w * (2 * y + 1)) 0 : Nat) : Int)))) rfl ?_
  refine dx_for0 (fun (y : Nat) => ((17, [.ref 0, .int (nI y), .null], [], dx_pL (dx_pL (dx_pL m 0 29 (lZ ((fb_sm (fun y => hvS (fmB op w r y) w) y : Nat) : Int))) 0 30 (lZ 0)) 0 31 (lZ ((fb_sm (fun y => fb_ct (fmB op w r y) w * (2 * y + 1)) y : Nat) : Int))) : dx_F)) r (fun y hi hk => ?_) ?_
  · refine dx_blk 0 (c' := (17, [.ref 0, .int (nI y), .null], [], dx_pL (dx_pL (dx_pL m 0 29 (lZ ((fb_sm (fun y => hvS (fmB op w r y) w) y : Nat) : Int))) 0 30 (lZ 0)) 0 31 (lZ ((fb_sm (fun y => fb_ct (fmB op w r y) w * (2 * y + 1)) y : Nat) : Int)))) rfl ?_
    have hy : y < r := hi
    refine dx_blk 3 (c' := (22, [.ref 0, .int (nI y), .null], [.int (m.1 0 24), .int (nI y)], dx_pL (dx_pL (dx_pL m 0 29 (lZ ((fb_sm (fun y => hvS (fmB op w r y) w) y : Nat) : Int))) 0 30 (lZ 0)) 0 31 (lZ ((fb_sm (fun y => fb_ct (fmB op w r y) w * (2 * y + 1)) y : Nat) : Int)))) rfl ?_
    refine dx_br (q := (m.1 0 24) < (nI y)) (a := 142) (b := 25) (L := [.ref 0, .int (nI y), .null]) (st := []) (m := dx_pL (dx_pL (dx_pL m 0 29 (lZ ((fb_sm (fun y => hvS (fmB op w r y) w) y : Nat) : Int))) 0 30 (lZ 0)) 0 31 (lZ ((fb_sm (fun y => fb_ct (fmB op w r y) w * (2 * y + 1)) y : Nat) : Int))) rfl (fun h => absurd h (by rw [er]; exact nI_nlt (by omega) (by omega))) (fun _ => ?_)
    refine dx_blk 2 (c' := (27, [.ref 0, .int (nI y), .int 0], [], dx_pL (dx_pL (dx_pL m 0 29 (lZ ((fb_sm (fun y => hvS (fmB op w r y) w) y : Nat) : Int))) 0 30 (lZ 0)) 0 31 (lZ ((fb_sm (fun y => fb_ct (fmB op w r y) w * (2 * y + 1)) y : Nat) : Int)))) rfl ?_
    refine dx_mem (m' := dx_pL (dx_pL (dx_pL m 0 29 (lZ ((fb_sm (fun y => hvS (fmB op w r y) w) y + hvS (fmB op w r y) 0 : Nat) : Int))) 0 30 (lZ 0)) 0 31 (lZ ((fb_sm (fun y => fb_ct (fmB op w r y) w * (2 * y + 1)) y + fb_ct (fmB op w r y) 0 * (2 * y + 1) : Nat) : Int))) (by
      rw [show hvS (fmB op w r y) 0 = 0 from rfl, show fb_ct (fmB op w r y) 0 = 0 from rfl, Nat.zero_mul]; rfl) ?_
    refine dx_blk 0 (c' := (27, [.ref 0, .int (nI y), .int (nI 0)], [], dx_pL (dx_pL (dx_pL m 0 29 (lZ ((fb_sm (fun y => hvS (fmB op w r y) w) y + hvS (fmB op w r y) 0 : Nat) : Int))) 0 30 (lZ 0)) 0 31 (lZ ((fb_sm (fun y => fb_ct (fmB op w r y) w * (2 * y + 1)) y + fb_ct (fmB op w r y) 0 * (2 * y + 1) : Nat) : Int)))) rfl ?_
    refine dx_for0 (fun (x : Nat) => ((27, [.ref 0, .int (nI y), .int (nI x)], [], dx_pL (dx_pL (dx_pL m 0 29 (lZ ((fb_sm (fun y => hvS (fmB op w r y) w) y + hvS (fmB op w r y) x : Nat) : Int))) 0 30 (lZ 0)) 0 31 (lZ ((fb_sm (fun y => fb_ct (fmB op w r y) w * (2 * y + 1)) y + fb_ct (fmB op w r y) x * (2 * y + 1) : Nat) : Int))) : dx_F)) w (fun x hi hk => ?_) ?_
    · refine dx_blk 0 (c' := (27, [.ref 0, .int (nI y), .int (nI x)], [], dx_pL (dx_pL (dx_pL m 0 29 (lZ ((fb_sm (fun y => hvS (fmB op w r y) w) y + hvS (fmB op w r y) x : Nat) : Int))) 0 30 (lZ 0)) 0 31 (lZ ((fb_sm (fun y => fb_ct (fmB op w r y) w * (2 * y + 1)) y + fb_ct (fmB op w r y) x * (2 * y + 1) : Nat) : Int)))) rfl ?_
      refine dx_blk 3 (c' := (32, [.ref 0, .int (nI y), .int (nI x)], [.int (m.1 0 18), .int (nI x)], dx_pL (dx_pL (dx_pL m 0 29 (lZ ((fb_sm (fun y => hvS (fmB op w r y) w) y + hvS (fmB op w r y) x : Nat) : Int))) 0 30 (lZ 0)) 0 31 (lZ ((fb_sm (fun y => fb_ct (fmB op w r y) w * (2 * y + 1)) y + fb_ct (fmB op w r y) x * (2 * y + 1) : Nat) : Int)))) rfl ?_
      refine dx_br (q := (m.1 0 18) ≤ (nI x)) (a := 136) (b := 35) (L := [.ref 0, .int (nI y), .int (nI x)]) (st := []) (m := dx_pL (dx_pL (dx_pL m 0 29 (lZ ((fb_sm (fun y => hvS (fmB op w r y) w) y + hvS (fmB op w r y) x : Nat) : Int))) 0 30 (lZ 0)) 0 31 (lZ ((fb_sm (fun y => fb_ct (fmB op w r y) w * (2 * y + 1)) y + fb_ct (fmB op w r y) x * (2 * y + 1) : Nat) : Int))) rfl (fun h => absurd h (by rw [a4]; exact nI_ge hi (by omega))) (fun _ => ?_)
      refine dx_blk 7 (c' := (45, [.ref 0, .int (nI y), .int (nI x)], [.int ((12 * (nI y)) + (nI x)), .ref 13], dx_pL (dx_pL (dx_pL m 0 29 (lZ ((fb_sm (fun y => hvS (fmB op w r y) w) y + hvS (fmB op w r y) x : Nat) : Int))) 0 30 (lZ 0)) 0 31 (lZ ((fb_sm (fun y => fb_ct (fmB op w r y) w * (2 * y + 1)) y + fb_ct (fmB op w r y) x * (2 * y + 1) : Nat) : Int)))) rfl ?_
      refine dx_bldN (12 * y + x) rfl rfl (Or.inr rfl) (nI_ix2 _ _) (by omega) ?_
      refine dx_blk 0 (c' := (46, [.ref 0, .int (nI y), .int (nI x)], [.int (m.1 13 (12 * y + x))], dx_pL (dx_pL (dx_pL m 0 29 (lZ ((fb_sm (fun y => hvS (fmB op w r y) w) y + hvS (fmB op w r y) x : Nat) : Int))) 0 30 (lZ 0)) 0 31 (lZ ((fb_sm (fun y => fb_ct (fmB op w r y) w * (2 * y + 1)) y + fb_ct (fmB op w r y) x * (2 * y + 1) : Nat) : Int)))) rfl ?_
      refine dx_br (q := (m.1 13 (12 * y + x)) = 0) (a := 49) (b := 130) (L := [.ref 0, .int (nI y), .int (nI x)]) (st := []) (m := dx_pL (dx_pL (dx_pL m 0 29 (lZ ((fb_sm (fun y => hvS (fmB op w r y) w) y + hvS (fmB op w r y) x : Nat) : Int))) 0 30 (lZ 0)) 0 31 (lZ ((fb_sm (fun y => fb_ct (fmB op w r y) w * (2 * y + 1)) y + fb_ct (fmB op w r y) x * (2 * y + 1) : Nat) : Int))) rfl (fun q46 => ?_) (fun q46 => ?_)
      · refine dx_blk 6 (c' := (59, [.ref 0, .int (nI y), .int (nI x)], [.int (m.1 0 24), .int (nI y), .long (lZ ((fb_sm (fun y => hvS (fmB op w r y) w) y + hvS (fmB op w r y) x : Nat) : Int)), .ref 0], dx_pL (dx_pL (dx_pL m 0 29 (lZ ((fb_sm (fun y => hvS (fmB op w r y) w) y + hvS (fmB op w r y) x : Nat) : Int))) 0 30 (lZ 0)) 0 31 (lZ ((fb_sm (fun y => fb_ct (fmB op w r y) w * (2 * y + 1)) y + fb_ct (fmB op w r y) x * (2 * y + 1) : Nat) : Int)))) rfl ?_
        refine dx_br (q := (m.1 0 24) ≤ (nI y)) (a := 71) (b := 62) (L := [.ref 0, .int (nI y), .int (nI x)]) (st := [.long (lZ ((fb_sm (fun y => hvS (fmB op w r y) w) y + hvS (fmB op w r y) x : Nat) : Int)), .ref 0]) (m := dx_pL (dx_pL (dx_pL m 0 29 (lZ ((fb_sm (fun y => hvS (fmB op w r y) w) y + hvS (fmB op w r y) x : Nat) : Int))) 0 30 (lZ 0)) 0 31 (lZ ((fb_sm (fun y => fb_ct (fmB op w r y) w * (2 * y + 1)) y + fb_ct (fmB op w r y) x * (2 * y + 1) : Nat) : Int))) rfl (fun h => absurd h (by rw [er]; exact nI_ge hy (by omega))) (fun _ => ?_)
        refine dx_blk 15 (c' := (86, [.ref 0, .int (nI y), .int (nI x)], [.int (m.1 0 24), .int (nI y), .long (lZ ((fb_sm (fun y => fb_ct (fmB op w r y) w * (2 * y + 1)) y + fb_ct (fmB op w r y) x * (2 * y + 1) : Nat) : Int)), .ref 0], dx_pL (dx_pL (dx_pL (dx_pL m 0 29 (lZ ((fb_sm (fun y => hvS (fmB op w r y) w) y + hvS (fmB op w r y) x : Nat) : Int))) 0 30 (lZ 0)) 0 31 (lZ ((fb_sm (fun y => fb_ct (fmB op w r y) w * (2 * y + 1)) y + fb_ct (fmB op w r y) x * (2 * y + 1) : Nat) : Int))) 0 29 ((lZ ((fb_sm (fun y => hvS (fmB op w r y) w) y + hvS (fmB op w r y) x : Nat) : Int)) + (((2 * (nI x)) + 1).toInt64)))) rfl ?_
        refine dx_br (q := (m.1 0 24) ≤ (nI y)) (a := 98) (b := 89) (L := [.ref 0, .int (nI y), .int (nI x)]) (st := [.long (lZ ((fb_sm (fun y => fb_ct (fmB op w r y) w * (2 * y + 1)) y + fb_ct (fmB op w r y) x * (2 * y + 1) : Nat) : Int)), .ref 0]) (m := dx_pL (dx_pL (dx_pL (dx_pL m 0 29 (lZ ((fb_sm (fun y => hvS (fmB op w r y) w) y + hvS (fmB op w r y) x : Nat) : Int))) 0 30 (lZ 0)) 0 31 (lZ ((fb_sm (fun y => fb_ct (fmB op w r y) w * (2 * y + 1)) y + fb_ct (fmB op w r y) x * (2 * y + 1) : Nat) : Int))) 0 29 ((lZ ((fb_sm (fun y => hvS (fmB op w r y) w) y + hvS (fmB op w r y) x : Nat) : Int)) + (((2 * (nI x)) + 1).toInt64))) rfl (fun h => absurd h (by rw [er]; exact nI_ge hy (by omega))) (fun _ => ?_)
        refine dx_blk 15 (c' := (113, [.ref 0, .int (nI y), .int (nI x)], [.int (m.1 0 24), .int (nI y), .long (lZ 0), .ref 0], dx_pL (dx_pL (dx_pL (dx_pL (dx_pL m 0 29 (lZ ((fb_sm (fun y => hvS (fmB op w r y) w) y + hvS (fmB op w r y) x : Nat) : Int))) 0 30 (lZ 0)) 0 31 (lZ ((fb_sm (fun y => fb_ct (fmB op w r y) w * (2 * y + 1)) y + fb_ct (fmB op w r y) x * (2 * y + 1) : Nat) : Int))) 0 29 ((lZ ((fb_sm (fun y => hvS (fmB op w r y) w) y + hvS (fmB op w r y) x : Nat) : Int)) + (((2 * (nI x)) + 1).toInt64))) 0 31 ((lZ ((fb_sm (fun y => fb_ct (fmB op w r y) w * (2 * y + 1)) y + fb_ct (fmB op w r y) x * (2 * y + 1) : Nat) : Int)) + (((2 * (nI y)) + 1).toInt64)))) rfl ?_
        refine dx_br (q := (nI y) = (m.1 0 24)) (a := 116) (b := 125) (L := [.ref 0, .int (nI y), .int (nI x)]) (st := [.long (lZ 0), .ref 0]) (m := dx_pL (dx_pL (dx_pL (dx_pL (dx_pL m 0 29 (lZ ((fb_sm (fun y => hvS (fmB op w r y) w) y + hvS (fmB op w r y) x : Nat) : Int))) 0 30 (lZ 0)) 0 31 (lZ ((fb_sm (fun y => fb_ct (fmB op w r y) w * (2 * y + 1)) y + fb_ct (fmB op w r y) x * (2 * y + 1) : Nat) : Int))) 0 29 ((lZ ((fb_sm (fun y => hvS (fmB op w r y) w) y + hvS (fmB op w r y) x : Nat) : Int)) + (((2 * (nI x)) + 1).toInt64))) 0 31 ((lZ ((fb_sm (fun y => fb_ct (fmB op w r y) w * (2 * y + 1)) y + fb_ct (fmB op w r y) x * (2 * y + 1) : Nat) : Int)) + (((2 * (nI y)) + 1).toInt64))) rfl (fun h => absurd h (by rw [er]; intro z; have := nI_inj' (by omega) (by omega) z; omega)) (fun _ => ?_)
        refine dx_blk 5 (c' := (27, [.ref 0, .int (nI y), .int ((nI x) + 1)], [], dx_pL (dx_pL (dx_pL (dx_pL (dx_pL (dx_pL m 0 29 (lZ ((fb_sm (fun y => hvS (fmB op w r y) w) y + hvS (fmB op w r y) x : Nat) : Int))) 0 30 (lZ 0)) 0 31 (lZ ((fb_sm (fun y => fb_ct (fmB op w r y) w * (2 * y + 1)) y + fb_ct (fmB op w r y) x * (2 * y + 1) : Nat) : Int))) 0 29 ((lZ ((fb_sm (fun y => hvS (fmB op w r y) w) y + hvS (fmB op w r y) x : Nat) : Int)) + (((2 * (nI x)) + 1).toInt64))) 0 31 ((lZ ((fb_sm (fun y => fb_ct (fmB op w r y) w * (2 * y + 1)) y + fb_ct (fmB op w r y) x * (2 * y + 1) : Nat) : Int)) + (((2 * (nI y)) + 1).toInt64))) 0 30 ((lZ 0) + 0))) rfl ?_
        have hf := fm_t hm (Nat.le_of_lt hy) hi q46
        rw [sm_nf, show lZ ((fb_sm (fun y => hvS (fmB op w r y) w) y + hvS (fmB op w r y) x : Nat) : Int) + ((2 * (nI x)) + 1).toInt64 = lZ ((fb_sm (fun y => hvS (fmB op w r y) w) y + hvS (fmB op w r y) (x + 1) : Nat) : Int) from (by rw [od_L (by omega), lZ_aN, hv_t hf, Nat.add_assoc]), show lZ ((fb_sm (fun y => fb_ct (fmB op w r y) w * (2 * y + 1)) y + fb_ct (fmB op w r y) x * (2 * y + 1) : Nat) : Int) + ((2 * (nI y)) + 1).toInt64 = lZ ((fb_sm (fun y => fb_ct (fmB op w r y) w * (2 * y + 1)) y + fb_ct (fmB op w r y) (x + 1) * (2 * y + 1) : Nat) : Int) from (by rw [od_L (by omega), lZ_aN, ct_t hf, Nat.add_mul (fb_ct (fmB op w r y) x), Nat.one_mul, Nat.add_assoc]), lZ_a0, ← nI_succ]
        exact hk
      · refine dx_blk 2 (c' := (27, [.ref 0, .int (nI y), .int ((nI x) + 1)], [], dx_pL (dx_pL (dx_pL m 0 29 (lZ ((fb_sm (fun y => hvS (fmB op w r y) w) y + hvS (fmB op w r y) x : Nat) : Int))) 0 30 (lZ 0)) 0 31 (lZ ((fb_sm (fun y => fb_ct (fmB op w r y) w * (2 * y + 1)) y + fb_ct (fmB op w r y) x * (2 * y + 1) : Nat) : Int)))) rfl ?_
        have hf := fm_f hm (Nat.le_of_lt hy) hi q46
        rw [hv_f hf, ct_f hf, nI_succ] at hk
        exact hk
    · refine dx_blk 0 (c' := (27, [.ref 0, .int (nI y), .int (nI w)], [], dx_pL (dx_pL (dx_pL m 0 29 (lZ ((fb_sm (fun y => hvS (fmB op w r y) w) y + hvS (fmB op w r y) w : Nat) : Int))) 0 30 (lZ 0)) 0 31 (lZ ((fb_sm (fun y => fb_ct (fmB op w r y) w * (2 * y + 1)) y + fb_ct (fmB op w r y) w * (2 * y + 1) : Nat) : Int)))) rfl ?_
      refine dx_blk 3 (c' := (32, [.ref 0, .int (nI y), .int (nI w)], [.int (m.1 0 18), .int (nI w)], dx_pL (dx_pL (dx_pL m 0 29 (lZ ((fb_sm (fun y => hvS (fmB op w r y) w) y + hvS (fmB op w r y) w : Nat) : Int))) 0 30 (lZ 0)) 0 31 (lZ ((fb_sm (fun y => fb_ct (fmB op w r y) w * (2 * y + 1)) y + fb_ct (fmB op w r y) w * (2 * y + 1) : Nat) : Int)))) rfl ?_
      refine dx_br (q := (m.1 0 18) ≤ (nI w)) (a := 136) (b := 35) (L := [.ref 0, .int (nI y), .int (nI w)]) (st := []) (m := dx_pL (dx_pL (dx_pL m 0 29 (lZ ((fb_sm (fun y => hvS (fmB op w r y) w) y + hvS (fmB op w r y) w : Nat) : Int))) 0 30 (lZ 0)) 0 31 (lZ ((fb_sm (fun y => fb_ct (fmB op w r y) w * (2 * y + 1)) y + fb_ct (fmB op w r y) w * (2 * y + 1) : Nat) : Int))) rfl (fun _ => ?_) (fun h => absurd (by rw [a4]; exact nI_le (Nat.le_refl _) (by omega)) h)
      refine dx_blk 2 (c' := (17, [.ref 0, .int ((nI y) + 1), .int (nI w)], [], dx_pL (dx_pL (dx_pL m 0 29 (lZ ((fb_sm (fun y => hvS (fmB op w r y) w) y + hvS (fmB op w r y) w : Nat) : Int))) 0 30 (lZ 0)) 0 31 (lZ ((fb_sm (fun y => fb_ct (fmB op w r y) w * (2 * y + 1)) y + fb_ct (fmB op w r y) w * (2 * y + 1) : Nat) : Int)))) rfl ?_
      refine dx_fgt [.ref 0, .int ((nI y) + 1), .null] (And.intro (Or.inr rfl) (And.intro (Or.inr rfl) (And.intro (Or.inl rfl) trivial))) ?_
      rw [← nI_succ]
      exact hk
  · refine dx_blk 0 (c' := (17, [.ref 0, .int (nI r), .null], [], dx_pL (dx_pL (dx_pL m 0 29 (lZ ((fb_sm (fun y => hvS (fmB op w r y) w) r : Nat) : Int))) 0 30 (lZ 0)) 0 31 (lZ ((fb_sm (fun y => fb_ct (fmB op w r y) w * (2 * y + 1)) r : Nat) : Int)))) rfl ?_
    refine dx_blk 3 (c' := (22, [.ref 0, .int (nI r), .null], [.int (m.1 0 24), .int (nI r)], dx_pL (dx_pL (dx_pL m 0 29 (lZ ((fb_sm (fun y => hvS (fmB op w r y) w) r : Nat) : Int))) 0 30 (lZ 0)) 0 31 (lZ ((fb_sm (fun y => fb_ct (fmB op w r y) w * (2 * y + 1)) r : Nat) : Int)))) rfl ?_
    refine dx_br (q := (m.1 0 24) < (nI r)) (a := 142) (b := 25) (L := [.ref 0, .int (nI r), .null]) (st := []) (m := dx_pL (dx_pL (dx_pL m 0 29 (lZ ((fb_sm (fun y => hvS (fmB op w r y) w) r : Nat) : Int))) 0 30 (lZ 0)) 0 31 (lZ ((fb_sm (fun y => fb_ct (fmB op w r y) w * (2 * y + 1)) r : Nat) : Int))) rfl (fun h => absurd h (by rw [er]; exact nI_nlt (by omega) (by omega))) (fun _ => ?_)
    refine dx_blk 2 (c' := (27, [.ref 0, .int (nI r), .int 0], [], dx_pL (dx_pL (dx_pL m 0 29 (lZ ((fb_sm (fun y => hvS (fmB op w r y) w) r : Nat) : Int))) 0 30 (lZ 0)) 0 31 (lZ ((fb_sm (fun y => fb_ct (fmB op w r y) w * (2 * y + 1)) r : Nat) : Int)))) rfl ?_
    refine dx_blk 0 (c' := (27, [.ref 0, .int (nI r), .int (nI 0)], [], dx_pL (dx_pL (dx_pL m 0 29 (lZ ((fb_sm (fun y => hvS (fmB op w r y) w) r : Nat) : Int))) 0 30 (lZ ((hvS (fmB op w r r) 0 : Nat) : Int))) 0 31 (lZ ((fb_sm (fun y => fb_ct (fmB op w r y) w * (2 * y + 1)) r : Nat) : Int)))) rfl ?_
    refine dx_for0 (fun (x : Nat) => ((27, [.ref 0, .int (nI r), .int (nI x)], [], dx_pL (dx_pL (dx_pL m 0 29 (lZ ((fb_sm (fun y => hvS (fmB op w r y) w) r : Nat) : Int))) 0 30 (lZ ((hvS (fmB op w r r) x : Nat) : Int))) 0 31 (lZ ((fb_sm (fun y => fb_ct (fmB op w r y) w * (2 * y + 1)) r : Nat) : Int))) : dx_F)) w (fun x hi hk => ?_) ?_
    · refine dx_blk 0 (c' := (27, [.ref 0, .int (nI r), .int (nI x)], [], dx_pL (dx_pL (dx_pL m 0 29 (lZ ((fb_sm (fun y => hvS (fmB op w r y) w) r : Nat) : Int))) 0 30 (lZ ((hvS (fmB op w r r) x : Nat) : Int))) 0 31 (lZ ((fb_sm (fun y => fb_ct (fmB op w r y) w * (2 * y + 1)) r : Nat) : Int)))) rfl ?_
      refine dx_blk 3 (c' := (32, [.ref 0, .int (nI r), .int (nI x)], [.int (m.1 0 18), .int (nI x)], dx_pL (dx_pL (dx_pL m 0 29 (lZ ((fb_sm (fun y => hvS (fmB op w r y) w) r : Nat) : Int))) 0 30 (lZ ((hvS (fmB op w r r) x : Nat) : Int))) 0 31 (lZ ((fb_sm (fun y => fb_ct (fmB op w r y) w * (2 * y + 1)) r : Nat) : Int)))) rfl ?_
      refine dx_br (q := (m.1 0 18) ≤ (nI x)) (a := 136) (b := 35) (L := [.ref 0, .int (nI r), .int (nI x)]) (st := []) (m := dx_pL (dx_pL (dx_pL m 0 29 (lZ ((fb_sm (fun y => hvS (fmB op w r y) w) r : Nat) : Int))) 0 30 (lZ ((hvS (fmB op w r r) x : Nat) : Int))) 0 31 (lZ ((fb_sm (fun y => fb_ct (fmB op w r y) w * (2 * y + 1)) r : Nat) : Int))) rfl (fun h => absurd h (by rw [a4]; exact nI_ge hi (by omega))) (fun _ => ?_)
      refine dx_blk 7 (c' := (45, [.ref 0, .int (nI r), .int (nI x)], [.int ((12 * (nI r)) + (nI x)), .ref 13], dx_pL (dx_pL (dx_pL m 0 29 (lZ ((fb_sm (fun y => hvS (fmB op w r y) w) r : Nat) : Int))) 0 30 (lZ ((hvS (fmB op w r r) x : Nat) : Int))) 0 31 (lZ ((fb_sm (fun y => fb_ct (fmB op w r y) w * (2 * y + 1)) r : Nat) : Int)))) rfl ?_
      refine dx_bldN (12 * r + x) rfl rfl (Or.inr rfl) (nI_ix2 _ _) (by omega) ?_
      refine dx_blk 0 (c' := (46, [.ref 0, .int (nI r), .int (nI x)], [.int (m.1 13 (12 * r + x))], dx_pL (dx_pL (dx_pL m 0 29 (lZ ((fb_sm (fun y => hvS (fmB op w r y) w) r : Nat) : Int))) 0 30 (lZ ((hvS (fmB op w r r) x : Nat) : Int))) 0 31 (lZ ((fb_sm (fun y => fb_ct (fmB op w r y) w * (2 * y + 1)) r : Nat) : Int)))) rfl ?_
      refine dx_br (q := (m.1 13 (12 * r + x)) = 0) (a := 49) (b := 130) (L := [.ref 0, .int (nI r), .int (nI x)]) (st := []) (m := dx_pL (dx_pL (dx_pL m 0 29 (lZ ((fb_sm (fun y => hvS (fmB op w r y) w) r : Nat) : Int))) 0 30 (lZ ((hvS (fmB op w r r) x : Nat) : Int))) 0 31 (lZ ((fb_sm (fun y => fb_ct (fmB op w r y) w * (2 * y + 1)) r : Nat) : Int))) rfl (fun q46 => ?_) (fun q46 => ?_)
      · refine dx_blk 6 (c' := (59, [.ref 0, .int (nI r), .int (nI x)], [.int (m.1 0 24), .int (nI r), .long (lZ ((fb_sm (fun y => hvS (fmB op w r y) w) r : Nat) : Int)), .ref 0], dx_pL (dx_pL (dx_pL m 0 29 (lZ ((fb_sm (fun y => hvS (fmB op w r y) w) r : Nat) : Int))) 0 30 (lZ ((hvS (fmB op w r r) x : Nat) : Int))) 0 31 (lZ ((fb_sm (fun y => fb_ct (fmB op w r y) w * (2 * y + 1)) r : Nat) : Int)))) rfl ?_
        refine dx_br (q := (m.1 0 24) ≤ (nI r)) (a := 71) (b := 62) (L := [.ref 0, .int (nI r), .int (nI x)]) (st := [.long (lZ ((fb_sm (fun y => hvS (fmB op w r y) w) r : Nat) : Int)), .ref 0]) (m := dx_pL (dx_pL (dx_pL m 0 29 (lZ ((fb_sm (fun y => hvS (fmB op w r y) w) r : Nat) : Int))) 0 30 (lZ ((hvS (fmB op w r r) x : Nat) : Int))) 0 31 (lZ ((fb_sm (fun y => fb_ct (fmB op w r y) w * (2 * y + 1)) r : Nat) : Int))) rfl (fun _ => ?_) (fun h => absurd (by rw [er]; exact nI_le (Nat.le_refl _) (by omega)) h)
        refine dx_blk 9 (c' := (86, [.ref 0, .int (nI r), .int (nI x)], [.int (m.1 0 24), .int (nI r), .long (lZ ((fb_sm (fun y => fb_ct (fmB op w r y) w * (2 * y + 1)) r : Nat) : Int)), .ref 0], dx_pL (dx_pL (dx_pL (dx_pL m 0 29 (lZ ((fb_sm (fun y => hvS (fmB op w r y) w) r : Nat) : Int))) 0 30 (lZ ((hvS (fmB op w r r) x : Nat) : Int))) 0 31 (lZ ((fb_sm (fun y => fb_ct (fmB op w r y) w * (2 * y + 1)) r : Nat) : Int))) 0 29 ((lZ ((fb_sm (fun y => hvS (fmB op w r y) w) r : Nat) : Int)) + 0))) rfl ?_
        refine dx_br (q := (m.1 0 24) ≤ (nI r)) (a := 98) (b := 89) (L := [.ref 0, .int (nI r), .int (nI x)]) (st := [.long (lZ ((fb_sm (fun y => fb_ct (fmB op w r y) w * (2 * y + 1)) r : Nat) : Int)), .ref 0]) (m := dx_pL (dx_pL (dx_pL (dx_pL m 0 29 (lZ ((fb_sm (fun y => hvS (fmB op w r y) w) r : Nat) : Int))) 0 30 (lZ ((hvS (fmB op w r r) x : Nat) : Int))) 0 31 (lZ ((fb_sm (fun y => fb_ct (fmB op w r y) w * (2 * y + 1)) r : Nat) : Int))) 0 29 ((lZ ((fb_sm (fun y => hvS (fmB op w r y) w) r : Nat) : Int)) + 0)) rfl (fun _ => ?_) (fun h => absurd (by rw [er]; exact nI_le (Nat.le_refl _) (by omega)) h)
        refine dx_blk 9 (c' := (113, [.ref 0, .int (nI r), .int (nI x)], [.int (m.1 0 24), .int (nI r), .long (lZ ((hvS (fmB op w r r) x : Nat) : Int)), .ref 0], dx_pL (dx_pL (dx_pL (dx_pL (dx_pL m 0 29 (lZ ((fb_sm (fun y => hvS (fmB op w r y) w) r : Nat) : Int))) 0 30 (lZ ((hvS (fmB op w r r) x : Nat) : Int))) 0 31 (lZ ((fb_sm (fun y => fb_ct (fmB op w r y) w * (2 * y + 1)) r : Nat) : Int))) 0 29 ((lZ ((fb_sm (fun y => hvS (fmB op w r y) w) r : Nat) : Int)) + 0)) 0 31 ((lZ ((fb_sm (fun y => fb_ct (fmB op w r y) w * (2 * y + 1)) r : Nat) : Int)) + 0))) rfl ?_
        refine dx_br (q := (nI r) = (m.1 0 24)) (a := 116) (b := 125) (L := [.ref 0, .int (nI r), .int (nI x)]) (st := [.long (lZ ((hvS (fmB op w r r) x : Nat) : Int)), .ref 0]) (m := dx_pL (dx_pL (dx_pL (dx_pL (dx_pL m 0 29 (lZ ((fb_sm (fun y => hvS (fmB op w r y) w) r : Nat) : Int))) 0 30 (lZ ((hvS (fmB op w r r) x : Nat) : Int))) 0 31 (lZ ((fb_sm (fun y => fb_ct (fmB op w r y) w * (2 * y + 1)) r : Nat) : Int))) 0 29 ((lZ ((fb_sm (fun y => hvS (fmB op w r y) w) r : Nat) : Int)) + 0)) 0 31 ((lZ ((fb_sm (fun y => fb_ct (fmB op w r y) w * (2 * y + 1)) r : Nat) : Int)) + 0)) rfl (fun _ => ?_) (fun h => absurd (by rw [er]) h)
        refine dx_blk 11 (c' := (27, [.ref 0, .int (nI r), .int ((nI x) + 1)], [], dx_pL (dx_pL (dx_pL (dx_pL (dx_pL (dx_pL m 0 29 (lZ ((fb_sm (fun y => hvS (fmB op w r y) w) r : Nat) : Int))) 0 30 (lZ ((hvS (fmB op w r r) x : Nat) : Int))) 0 31 (lZ ((fb_sm (fun y => fb_ct (fmB op w r y) w * (2 * y + 1)) r : Nat) : Int))) 0 29 ((lZ ((fb_sm (fun y => hvS (fmB op w r y) w) r : Nat) : Int)) + 0)) 0 31 ((lZ ((fb_sm (fun y => fb_ct (fmB op w r y) w * (2 * y + 1)) r : Nat) : Int)) + 0)) 0 30 ((lZ ((hvS (fmB op w r r) x : Nat) : Int)) + (((2 * (nI x)) + 1).toInt64)))) rfl ?_
        have hf := fm_t hm (Nat.le_refl r) hi q46
        rw [sm_nf, show lZ ((hvS (fmB op w r r) x : Nat) : Int) + ((2 * (nI x)) + 1).toInt64 = lZ ((hvS (fmB op w r r) (x + 1) : Nat) : Int) from (by rw [od_L (by omega), lZ_aN, hv_t hf]), lZ_a0, lZ_a0, ← nI_succ]
        exact hk
      · refine dx_blk 2 (c' := (27, [.ref 0, .int (nI r), .int ((nI x) + 1)], [], dx_pL (dx_pL (dx_pL m 0 29 (lZ ((fb_sm (fun y => hvS (fmB op w r y) w) r : Nat) : Int))) 0 30 (lZ ((hvS (fmB op w r r) x : Nat) : Int))) 0 31 (lZ ((fb_sm (fun y => fb_ct (fmB op w r y) w * (2 * y + 1)) r : Nat) : Int)))) rfl ?_
        have hf := fm_f hm (Nat.le_refl r) hi q46
        rw [hv_f hf, nI_succ] at hk
        exact hk
    · refine dx_blk 0 (c' := (27, [.ref 0, .int (nI r), .int (nI w)], [], dx_pL (dx_pL (dx_pL m 0 29 (lZ ((fb_sm (fun y => hvS (fmB op w r y) w) r : Nat) : Int))) 0 30 (lZ ((hvS (fmB op w r r) w : Nat) : Int))) 0 31 (lZ ((fb_sm (fun y => fb_ct (fmB op w r y) w * (2 * y + 1)) r : Nat) : Int)))) rfl ?_
      refine dx_blk 3 (c' := (32, [.ref 0, .int (nI r), .int (nI w)], [.int (m.1 0 18), .int (nI w)], dx_pL (dx_pL (dx_pL m 0 29 (lZ ((fb_sm (fun y => hvS (fmB op w r y) w) r : Nat) : Int))) 0 30 (lZ ((hvS (fmB op w r r) w : Nat) : Int))) 0 31 (lZ ((fb_sm (fun y => fb_ct (fmB op w r y) w * (2 * y + 1)) r : Nat) : Int)))) rfl ?_
      refine dx_br (q := (m.1 0 18) ≤ (nI w)) (a := 136) (b := 35) (L := [.ref 0, .int (nI r), .int (nI w)]) (st := []) (m := dx_pL (dx_pL (dx_pL m 0 29 (lZ ((fb_sm (fun y => hvS (fmB op w r y) w) r : Nat) : Int))) 0 30 (lZ ((hvS (fmB op w r r) w : Nat) : Int))) 0 31 (lZ ((fb_sm (fun y => fb_ct (fmB op w r y) w * (2 * y + 1)) r : Nat) : Int))) rfl (fun _ => ?_) (fun h => absurd (by rw [a4]; exact nI_le (Nat.le_refl _) (by omega)) h)
      refine dx_blk 5 (c' := (22, [.ref 0, .int ((nI r) + 1), .int (nI w)], [.int (m.1 0 24), .int ((nI r) + 1)], dx_pL (dx_pL (dx_pL m 0 29 (lZ ((fb_sm (fun y => hvS (fmB op w r y) w) r : Nat) : Int))) 0 30 (lZ ((hvS (fmB op w r r) w : Nat) : Int))) 0 31 (lZ ((fb_sm (fun y => fb_ct (fmB op w r y) w * (2 * y + 1)) r : Nat) : Int)))) rfl ?_
      refine dx_br (q := (m.1 0 24) < ((nI r) + 1)) (a := 142) (b := 25) (L := [.ref 0, .int ((nI r) + 1), .int (nI w)]) (st := []) (m := dx_pL (dx_pL (dx_pL m 0 29 (lZ ((fb_sm (fun y => hvS (fmB op w r y) w) r : Nat) : Int))) 0 30 (lZ ((hvS (fmB op w r r) w : Nat) : Int))) 0 31 (lZ ((fb_sm (fun y => fb_ct (fmB op w r y) w * (2 * y + 1)) r : Nat) : Int))) rfl (fun _ => ?_) (fun h => absurd (by rw [er, nI_1]; exact nI_lt (by omega) (by omega)) h)
      exact dx_ret (r := none) rfl (by exact h1)
set_option maxRecDepth 20000 in
theorem sX4_layPowers {d : Nat} (m : dx_M) {Z : Option Value → dx_M → Prop} {op : Nat → Nat → Bool} {w h r : Nat} {p Q : Int} (hr : r < h) (hA : AM m op w h r p Q) (h1 : ∀ m', keepP m m' → m'.2 0 32 = lZ (pwX op w r p Q) → m'.2 0 33 = lZ (2 * Q) → m'.2 0 34 = lZ (pwY op w r p Q) → m'.2 0 35 = lZ (2 * Q * Q) → Z none m') : dx_Sem dx_P lx_M (d + 2) 126 [.ref 0] m Z := by
  obtain ⟨hl, hm, er, ef, ep, eq⟩ := id hA
  obtain ⟨a1, a2, a3, a4, a5, a6⟩ := id hl
  refine dx_sem km_X4_layPowers rfl rfl ?_
  refine dx_blk 0 (c' := (0, [.ref 0], [], m)) rfl ?_
  refine dx_blk 1 (c' := (1, [.ref 0], [.ref 0], m)) rfl ?_
  refine dx_call (id := 125) (as := [.ref 0]) (rest := []) rfl ?_
  refine sX4_laySums _ hl hm hr er ?_
  refine dx_blk 0 (c' := (4, [.ref 0], [], dx_pL (dx_pL (dx_pL m 0 29 (lZ (sXN op w r))) 0 30 (lZ (rXN op w r))) 0 31 (lZ (sYN op w r)))) rfl ?_
  refine dx_blk 60 (c' := (110, [.ref 0], [], dx_pL (dx_pL (dx_pL (dx_pL (dx_pL (dx_pL (dx_pL m 0 29 (lZ (sXN op w r))) 0 30 (lZ (rXN op w r))) 0 31 (lZ (sYN op w r))) 0 32 (((lZ (sXN op w r)) * (m.2 0 26)) + ((lZ (rXN op w r)) * (m.2 0 25)))) 0 33 (2 * (m.2 0 26))) 0 34 ((((lZ (sYN op w r)) * (m.2 0 26)) * (m.2 0 26)) + (((m.1 0 28).toInt64) * ((((2 * ((m.1 0 24).toInt64)) * (m.2 0 25)) * (m.2 0 26)) + ((m.2 0 25) * (m.2 0 25)))))) 0 35 ((2 * (m.2 0 26)) * (m.2 0 26)))) rfl ?_
  exact dx_ret (r := none) rfl (by
    refine h1 _ ⟨rfl, fun k hk => (by simp [dx_pL, hk]), fun j hj => ?_⟩ ?_ ?_ ?_ ?_
    · show vp_updL (vp_updL (vp_updL (vp_updL (vp_updL (vp_updL (vp_updL (m.2 0) 29 _) 30 _) 31 _) 32 _) 33 _) 34 _) 35 _ j = _
      unfold vp_updL
      rw [if_neg (by omega), if_neg (by omega), if_neg (by omega), if_neg (by omega), if_neg (by omega), if_neg (by omega), if_neg (by omega)]
    · show lZ (sXN op w r) * m.2 0 26 + lZ (rXN op w r) * m.2 0 25 = _
      rw [ep, eq, lZ_mul, lZ_mul, lZ_add]; rfl
    · show (2 : Int64) * m.2 0 26 = _
      rw [eq, show (2 : Int64) = lZ 2 from rfl, lZ_mul]
    · show lZ (sYN op w r) * m.2 0 26 * m.2 0 26 + (m.1 0 28).toInt64 * (2 * (m.1 0 24).toInt64 * m.2 0 25 * m.2 0 26 + m.2 0 25 * m.2 0 25) = _
      rw [ep, eq, ef, er, lZ_n (by have := fA_le op r a2; omega), lZ_n (by omega), show (2 : Int64) = lZ 2 from rfl, lZ_mul, lZ_mul, lZ_mul, lZ_mul, lZ_mul, lZ_mul, lZ_add, lZ_mul, lZ_add]
      congr 1
      unfold pwY
      rw [Int.natCast_mul]
      grind
    · show (2 : Int64) * m.2 0 26 * m.2 0 26 = _
      rw [eq, show (2 : Int64) = lZ 2 from rfl, lZ_mul, lZ_mul])
set_option maxRecDepth 20000 in
theorem sX4_layBreadth {d : Nat} (m : dx_M) {Z : Option Value → dx_M → Prop} {op : Nat → Nat → Bool} {w h r : Nat} (hl : LM m op w h) (hm : WM m op w r) (hr : r < h) (h1 : Z none (dx_pL (dx_pL m 0 36 (lZ (bUZ op w r))) 0 37 (lZ (bLZ op w r)))) : dx_Sem dx_P lx_M (d + 1) 131 [.ref 0, .int (nI r)] m Z := by
  obtain ⟨a1, a2, a3, a4, a5, a6⟩ := id hl
  refine dx_sem km_X4_layBreadth rfl rfl ?_
  refine dx_blk 0 (c' := (0, [.ref 0, .int (nI r), .null, .null, .null, .null, .null, .null, .null], [], m)) rfl ?_
  refine dx_blk 8 (c' := (11, [.ref 0, .int (nI r), .long 0, .null, .long 0, .null, .long 0, .null, .int 0], [], m)) rfl ?_
  refine dx_blk 0 (c' := (11, [.ref 0, .int (nI r), .long (lZ ((fb_ct (fmB op w r r) 0 : Nat) : Int)), .null, .long (lZ ((thS (fmB op w r r) 0 : Nat) : Int)), .null, .long (lZ ((hvS (fmB op w r r) 0 : Nat) : Int)), .null, .int (nI 0)], [], m)) rfl ?_
  refine dx_for0 (fun (x : Nat) => ((11, [.ref 0, .int (nI r), .long (lZ ((fb_ct (fmB op w r r) x : Nat) : Int)), .null, .long (lZ ((thS (fmB op w r r) x : Nat) : Int)), .null, .long (lZ ((hvS (fmB op w r r) x : Nat) : Int)), .null, .int (nI x)], [], m) : dx_F)) w (fun x hi hk => ?_) ?_
  · refine dx_blk 0 (c' := (11, [.ref 0, .int (nI r), .long (lZ ((fb_ct (fmB op w r r) x : Nat) : Int)), .null, .long (lZ ((thS (fmB op w r r) x : Nat) : Int)), .null, .long (lZ ((hvS (fmB op w r r) x : Nat) : Int)), .null, .int (nI x)], [], m)) rfl ?_
    refine dx_blk 3 (c' := (17, [.ref 0, .int (nI r), .long (lZ ((fb_ct (fmB op w r r) x : Nat) : Int)), .null, .long (lZ ((thS (fmB op w r r) x : Nat) : Int)), .null, .long (lZ ((hvS (fmB op w r r) x : Nat) : Int)), .null, .int (nI x)], [.int (m.1 0 18), .int (nI x)], m)) rfl ?_
    refine dx_br (q := (m.1 0 18) ≤ (nI x)) (a := 85) (b := 20) (L := [.ref 0, .int (nI r), .long (lZ ((fb_ct (fmB op w r r) x : Nat) : Int)), .null, .long (lZ ((thS (fmB op w r r) x : Nat) : Int)), .null, .long (lZ ((hvS (fmB op w r r) x : Nat) : Int)), .null, .int (nI x)]) (st := []) (m := m) rfl (fun h => absurd h (by rw [a4]; exact nI_ge hi (by omega))) (fun _ => ?_)
    refine dx_blk 7 (c' := (31, [.ref 0, .int (nI r), .long (lZ ((fb_ct (fmB op w r r) x : Nat) : Int)), .null, .long (lZ ((thS (fmB op w r r) x : Nat) : Int)), .null, .long (lZ ((hvS (fmB op w r r) x : Nat) : Int)), .null, .int (nI x)], [.int ((12 * (nI r)) + (nI x)), .ref 13], m)) rfl ?_
    refine dx_bldN (12 * r + x) rfl rfl (Or.inr rfl) (nI_ix2 _ _) (by omega) ?_
    refine dx_blk 0 (c' := (32, [.ref 0, .int (nI r), .long (lZ ((fb_ct (fmB op w r r) x : Nat) : Int)), .null, .long (lZ ((thS (fmB op w r r) x : Nat) : Int)), .null, .long (lZ ((hvS (fmB op w r r) x : Nat) : Int)), .null, .int (nI x)], [.int (m.1 13 (12 * r + x))], m)) rfl ?_
    refine dx_br (q := (m.1 13 (12 * r + x)) = 0) (a := 35) (b := 79) (L := [.ref 0, .int (nI r), .long (lZ ((fb_ct (fmB op w r r) x : Nat) : Int)), .null, .long (lZ ((thS (fmB op w r r) x : Nat) : Int)), .null, .long (lZ ((hvS (fmB op w r r) x : Nat) : Int)), .null, .int (nI x)]) (st := []) (m := m) rfl (fun q32 => ?_) (fun q32 => ?_)
    · refine dx_blk 32 (c' := (11, [.ref 0, .int (nI r), .long ((lZ ((fb_ct (fmB op w r r) x : Nat) : Int)) + 1), .null, .long ((lZ ((thS (fmB op w r r) x : Nat) : Int)) + ((((3 * ((nI x).toInt64)) * ((nI x).toInt64)) + (3 * ((nI x).toInt64))) + 1)), .null, .long ((lZ ((hvS (fmB op w r r) x : Nat) : Int)) + ((2 * ((nI x).toInt64)) + 1)), .null, .int ((nI x) + 1)], [], m)) rfl ?_
      have hf := fm_t hm (Nat.le_refl r) hi q32
      rw [cb_L (by omega), ol_L (by omega), show (1 : Int64) = lZ ((1 : Nat) : Int) from rfl, lZ_aN, lZ_aN, lZ_aN, ← ct_t hf, ← hv_t hf, ← th_t hf, ← nI_succ]
      exact hk
    · refine dx_blk 2 (c' := (11, [.ref 0, .int (nI r), .long (lZ ((fb_ct (fmB op w r r) x : Nat) : Int)), .null, .long (lZ ((thS (fmB op w r r) x : Nat) : Int)), .null, .long (lZ ((hvS (fmB op w r r) x : Nat) : Int)), .null, .int ((nI x) + 1)], [], m)) rfl ?_
      have hf := fm_f hm (Nat.le_refl r) hi q32
      rw [hv_f hf, ct_f hf, th_f hf, nI_succ] at hk
      exact hk
  · refine dx_blk 0 (c' := (11, [.ref 0, .int (nI r), .long (lZ ((fb_ct (fmB op w r r) w : Nat) : Int)), .null, .long (lZ ((thS (fmB op w r r) w : Nat) : Int)), .null, .long (lZ ((hvS (fmB op w r r) w : Nat) : Int)), .null, .int (nI w)], [], m)) rfl ?_
    refine dx_blk 3 (c' := (17, [.ref 0, .int (nI r), .long (lZ ((fb_ct (fmB op w r r) w : Nat) : Int)), .null, .long (lZ ((thS (fmB op w r r) w : Nat) : Int)), .null, .long (lZ ((hvS (fmB op w r r) w : Nat) : Int)), .null, .int (nI w)], [.int (m.1 0 18), .int (nI w)], m)) rfl ?_
    refine dx_br (q := (m.1 0 18) ≤ (nI w)) (a := 85) (b := 20) (L := [.ref 0, .int (nI r), .long (lZ ((fb_ct (fmB op w r r) w : Nat) : Int)), .null, .long (lZ ((thS (fmB op w r r) w : Nat) : Int)), .null, .long (lZ ((hvS (fmB op w r r) w : Nat) : Int)), .null, .int (nI w)]) (st := []) (m := m) rfl (fun _ => ?_) (fun h => absurd (by rw [a4]; exact nI_le (Nat.le_refl _) (by omega)) h)
    rcases Decidable.em (lZ ((fb_ct (fmB op w r r) w : Nat) : Int) = (0 : Int64)) with q89 | q89
    · refine dx_blk 0 (c' := (85, [.ref 0, .int (nI r), .long (lZ ((fb_ct (fmB op w r r) w : Nat) : Int)), .null, .long (lZ ((thS (fmB op w r r) w : Nat) : Int)), .null, .long (lZ ((hvS (fmB op w r r) w : Nat) : Int)), .null, .int (nI w)], [], m)) rfl ?_
      refine dx_blk 4 (c' := (89, [.ref 0, .int (nI r), .long (lZ ((fb_ct (fmB op w r r) w : Nat) : Int)), .null, .long (lZ ((thS (fmB op w r r) w : Nat) : Int)), .null, .long (lZ ((hvS (fmB op w r r) w : Nat) : Int)), .null, .int (nI w)], [.int (lg_cmp (lZ ((fb_ct (fmB op w r r) w : Nat) : Int)) 0), .ref 0], m)) rfl ?_
      refine dx_brQ (q := (lg_cmp (lZ ((fb_ct (fmB op w r r) w : Nat) : Int)) 0) = 0) (a := 92) (b := 96) (L := [.ref 0, .int (nI r), .long (lZ ((fb_ct (fmB op w r r) w : Nat) : Int)), .null, .long (lZ ((thS (fmB op w r r) w : Nat) : Int)), .null, .long (lZ ((hvS (fmB op w r r) w : Nat) : Int)), .null, .int (nI w)]) (st := [.ref 0]) (m := m) (lc_eq _ _) rfl (fun _ => ?_) (fun h => absurd q89 h)
      refine dx_blk 7 (c' := (121, [.ref 0, .int (nI r), .long (lZ ((fb_ct (fmB op w r r) w : Nat) : Int)), .null, .long (lZ ((thS (fmB op w r r) w : Nat) : Int)), .null, .long (lZ ((hvS (fmB op w r r) w : Nat) : Int)), .null, .int (nI w)], [.int (lg_cmp (lZ ((fb_ct (fmB op w r r) w : Nat) : Int)) 0), .ref 0], dx_pL m 0 36 0)) rfl ?_
      refine dx_brQ (q := (lg_cmp (lZ ((fb_ct (fmB op w r r) w : Nat) : Int)) 0) = 0) (a := 124) (b := 128) (L := [.ref 0, .int (nI r), .long (lZ ((fb_ct (fmB op w r r) w : Nat) : Int)), .null, .long (lZ ((thS (fmB op w r r) w : Nat) : Int)), .null, .long (lZ ((hvS (fmB op w r r) w : Nat) : Int)), .null, .int (nI w)]) (st := [.ref 0]) (m := dx_pL m 0 36 0) (lc_eq _ _) rfl (fun _ => ?_) (fun h => absurd q89 h)
      refine dx_blk 3 (c' := (136, [.ref 0, .int (nI r), .long (lZ ((fb_ct (fmB op w r r) w : Nat) : Int)), .null, .long (lZ ((thS (fmB op w r r) w : Nat) : Int)), .null, .long (lZ ((hvS (fmB op w r r) w : Nat) : Int)), .null, .int (nI w)], [], dx_pL (dx_pL m 0 36 0) 0 37 1)) rfl ?_
      exact dx_ret (r := none) rfl (by
    have q0 : fA op w r = 0 := by
      have := fA_le op r a2
      have e := (lZ_inj (a := ((fA op w r : Nat) : Int)) (b := 0) (by omega) (by omega) (by decide) (by decide)).mp q89
      omega
    have e1 : bUZ op w r = 0 := by
      have e2 : rXN op w r = 0 := ct0_hv w q0
      unfold bUZ; rw [e2, q0]
      show 4 * (0 : Int) * _ - 3 * 0 * 0 = 0
      rw [Int.mul_zero, Int.zero_mul]; rfl
    have e : bLZ op w r = 1 := by unfold bLZ; rw [if_pos q0]
    rw [e, e1] at h1; exact h1)
    · refine dx_blk 0 (c' := (85, [.ref 0, .int (nI r), .long (lZ ((fb_ct (fmB op w r r) w : Nat) : Int)), .null, .long (lZ ((thS (fmB op w r r) w : Nat) : Int)), .null, .long (lZ ((hvS (fmB op w r r) w : Nat) : Int)), .null, .int (nI w)], [], m)) rfl ?_
      refine dx_blk 4 (c' := (89, [.ref 0, .int (nI r), .long (lZ ((fb_ct (fmB op w r r) w : Nat) : Int)), .null, .long (lZ ((thS (fmB op w r r) w : Nat) : Int)), .null, .long (lZ ((hvS (fmB op w r r) w : Nat) : Int)), .null, .int (nI w)], [.int (lg_cmp (lZ ((fb_ct (fmB op w r r) w : Nat) : Int)) 0), .ref 0], m)) rfl ?_
      refine dx_brQ (q := (lg_cmp (lZ ((fb_ct (fmB op w r r) w : Nat) : Int)) 0) = 0) (a := 92) (b := 96) (L := [.ref 0, .int (nI r), .long (lZ ((fb_ct (fmB op w r r) w : Nat) : Int)), .null, .long (lZ ((thS (fmB op w r r) w : Nat) : Int)), .null, .long (lZ ((hvS (fmB op w r r) w : Nat) : Int)), .null, .int (nI w)]) (st := [.ref 0]) (m := m) (lc_eq _ _) rfl (fun h => absurd h q89) (fun _ => ?_)
      refine dx_blk 16 (c' := (121, [.ref 0, .int (nI r), .long (lZ ((fb_ct (fmB op w r r) w : Nat) : Int)), .null, .long (lZ ((thS (fmB op w r r) w : Nat) : Int)), .null, .long (lZ ((hvS (fmB op w r r) w : Nat) : Int)), .null, .int (nI w)], [.int (lg_cmp (lZ ((fb_ct (fmB op w r r) w : Nat) : Int)) 0), .ref 0], dx_pL m 0 36 (((4 * (lZ ((fb_ct (fmB op w r r) w : Nat) : Int))) * (lZ ((thS (fmB op w r r) w : Nat) : Int))) - ((3 * (lZ ((hvS (fmB op w r r) w : Nat) : Int))) * (lZ ((hvS (fmB op w r r) w : Nat) : Int)))))) rfl ?_
      refine dx_brQ (q := (lg_cmp (lZ ((fb_ct (fmB op w r r) w : Nat) : Int)) 0) = 0) (a := 124) (b := 128) (L := [.ref 0, .int (nI r), .long (lZ ((fb_ct (fmB op w r r) w : Nat) : Int)), .null, .long (lZ ((thS (fmB op w r r) w : Nat) : Int)), .null, .long (lZ ((hvS (fmB op w r r) w : Nat) : Int)), .null, .int (nI w)]) (st := [.ref 0]) (m := dx_pL m 0 36 (((4 * (lZ ((fb_ct (fmB op w r r) w : Nat) : Int))) * (lZ ((thS (fmB op w r r) w : Nat) : Int))) - ((3 * (lZ ((hvS (fmB op w r r) w : Nat) : Int))) * (lZ ((hvS (fmB op w r r) w : Nat) : Int))))) (lc_eq _ _) rfl (fun h => absurd h q89) (fun _ => ?_)
      refine dx_blk 4 (c' := (136, [.ref 0, .int (nI r), .long (lZ ((fb_ct (fmB op w r r) w : Nat) : Int)), .null, .long (lZ ((thS (fmB op w r r) w : Nat) : Int)), .null, .long (lZ ((hvS (fmB op w r r) w : Nat) : Int)), .null, .int (nI w)], [], dx_pL (dx_pL m 0 36 (((4 * (lZ ((fb_ct (fmB op w r r) w : Nat) : Int))) * (lZ ((thS (fmB op w r r) w : Nat) : Int))) - ((3 * (lZ ((hvS (fmB op w r r) w : Nat) : Int))) * (lZ ((hvS (fmB op w r r) w : Nat) : Int))))) 0 37 (12 * (lZ ((fb_ct (fmB op w r r) w : Nat) : Int))))) rfl ?_
      exact dx_ret (r := none) rfl (by
    have q0 : ¬ fA op w r = 0 := fun e => q89 (by show lZ ((fA op w r : Nat) : Int) = 0; rw [e]; rfl)
    have e : lZ (bLZ op w r) = 12 * lZ ((fA op w r : Nat) : Int) := by unfold bLZ; rw [if_neg q0, show (12 : Int64) = lZ 12 from rfl, lZ_mul]
    have e1 : lZ (bUZ op w r) = 4 * lZ ((fA op w r : Nat) : Int) * lZ ((thS (fmB op w r r) w : Nat) : Int) - 3 * lZ ((rXN op w r : Nat) : Int) * lZ ((rXN op w r : Nat) : Int) := by unfold bUZ; rw [show (4 : Int64) = lZ 4 from rfl, show (3 : Int64) = lZ 3 from rfl, lZ_mul, lZ_mul, lZ_mul, lZ_mul, lZ_sub]
    rw [e, e1] at h1; exact h1)
def keepQ (m m' : dx_M) : Prop := keepL m m' ∧ m'.1 0 = m.1 0 ∧ ∀ j, j < 36 → m'.2 0 j = m.2 0 j
set_option maxRecDepth 20000 in
theorem sX4_leastBreadth {d : Nat} (m : dx_M) {Z : Option Value → dx_M → Prop} {op : Nat → Nat → Bool} {w h r : Nat} {p Q : Int} (hr : r < h) (hA : AM m op w h r p Q) (h1 : ∀ m', keepQ m m' → WM m' op w r → m'.2 0 36 = lZ (brU op w h r p Q) → m'.2 0 37 = lZ (brL op w h r p Q) → Z none m') : dx_Sem dx_P lx_M (d + 4) 132 [.ref 0] m Z := by
  obtain ⟨hl, hm, er, ef, ep, eq⟩ := id hA
  obtain ⟨a1, a2, a3, a4, a5, a6⟩ := id hl
  refine dx_sem km_X4_leastBreadth rfl rfl ?_
  refine dx_blk 0 (c' := (0, [.ref 0, .null, .null, .null, .null], [], m)) rfl ?_
  refine dx_blk 3 (c' := (5, [.ref 0, .null, .null, .null, .null], [.int (m.1 0 24), .ref 0], m)) rfl ?_
  refine dx_call (id := 131) (as := [.ref 0, .int (m.1 0 24)]) (rest := []) rfl ?_
  rw [er]
  refine sX4_layBreadth m hl hm hr ?_
  refine dx_blk 0 (c' := (8, [.ref 0, .null, .null, .null, .null], [], dx_pL (dx_pL m 0 36 (lZ (bUZ op w r))) 0 37 (lZ (bLZ op w r)))) rfl ?_
  refine dx_blk 5 (c' := (17, [.ref 0, .null, .null, .null, .null], [.int (lg_cmp (m.2 0 25) (m.2 0 26))], dx_pL (dx_pL m 0 36 (lZ (bUZ op w r))) 0 37 (lZ (bLZ op w r)))) rfl ?_
  refine dx_brQ (q := (lg_cmp (m.2 0 25) (m.2 0 26)) = 0) (a := 20) (b := 97) (L := [.ref 0, .null, .null, .null, .null]) (st := []) (m := dx_pL (dx_pL m 0 36 (lZ (bUZ op w r))) 0 37 (lZ (bLZ op w r))) (lc_eq _ _) rfl (fun q17 => ?_) (fun q17 => ?_)
  · rcases Decidable.em (r + 1 < h) with qh | qh
    · refine dx_blk 0 (c' := (20, [.ref 0, .null, .null, .null, .null], [], dx_pL (dx_pL m 0 36 (lZ (bUZ op w r))) 0 37 (lZ (bLZ op w r)))) rfl ?_
      refine dx_blk 6 (c' := (30, [.ref 0, .null, .null, .null, .null], [.int (m.1 0 19), .int ((m.1 0 24) + 1)], dx_pL (dx_pL m 0 36 (lZ (bUZ op w r))) 0 37 (lZ (bLZ op w r)))) rfl ?_
      refine dx_br (q := (m.1 0 19) ≤ ((m.1 0 24) + 1)) (a := 97) (b := 33) (L := [.ref 0, .null, .null, .null, .null]) (st := []) (m := dx_pL (dx_pL m 0 36 (lZ (bUZ op w r))) 0 37 (lZ (bLZ op w r))) rfl (fun h => absurd h (by rw [er, a5, nI_1 r]; exact nI_ge qh (by omega))) (fun _ => ?_)
      refine dx_blk 11 (c' := (50, [.ref 0, .long (lZ (bUZ op w r)), .null, .long (lZ (bLZ op w r)), .null], [.int ((m.1 0 24) + 1), .ref 0], dx_pL (dx_pL m 0 36 (lZ (bUZ op w r))) 0 37 (lZ (bLZ op w r)))) rfl ?_
      refine dx_call (id := 117) (as := [.ref 0, .int ((m.1 0 24) + 1)]) (rest := []) rfl ?_
      rw [show m.1 0 24 + 1 = nI (r + 1) by rw [er]; exact nI_1 r]
      refine sX4_spreadL (dx_pL (dx_pL m 0 36 (lZ (bUZ op w r))) 0 37 (lZ (bLZ op w r))) (op := op) (w := w) (h := h) (r := r + 1) hl qh (WM_B hm) (fun g hg => ?_)
      refine dx_blk 0 (c' := (53, [.ref 0, .long (lZ (bUZ op w r)), .null, .long (lZ (bLZ op w r)), .null], [], dx_pR (dx_pL (dx_pL m 0 36 (lZ (bUZ op w r))) 0 37 (lZ (bLZ op w r))) 13 g)) rfl ?_
      refine dx_blk 5 (c' := (60, [.ref 0, .long (lZ (bUZ op w r)), .null, .long (lZ (bLZ op w r)), .null], [.int ((m.1 0 24) + 1), .ref 0], dx_pR (dx_pL (dx_pL m 0 36 (lZ (bUZ op w r))) 0 37 (lZ (bLZ op w r))) 13 g)) rfl ?_
      refine dx_call (id := 131) (as := [.ref 0, .int ((m.1 0 24) + 1)]) (rest := []) rfl ?_
      rw [show m.1 0 24 + 1 = nI (r + 1) by rw [er]; exact nI_1 r]
      refine sX4_layBreadth (dx_pR (dx_pL (dx_pL m 0 36 (lZ (bUZ op w r))) 0 37 (lZ (bLZ op w r))) 13 g) (op := op) (w := w) (h := h) (r := r + 1) hl hg qh ?_
      refine dx_blk 0 (c' := (63, [.ref 0, .long (lZ (bUZ op w r)), .null, .long (lZ (bLZ op w r)), .null], [], dx_pL (dx_pL (dx_pR (dx_pL (dx_pL m 0 36 (lZ (bUZ op w r))) 0 37 (lZ (bLZ op w r))) 13 g) 0 36 (lZ (bUZ op w (r + 1)))) 0 37 (lZ (bLZ op w (r + 1))))) rfl ?_
      refine dx_blk 3 (c' := (68, [.ref 0, .long (lZ (bUZ op w r)), .null, .long (lZ (bLZ op w r)), .null], [.int (m.1 0 24), .ref 0], dx_pL (dx_pL (dx_pR (dx_pL (dx_pL m 0 36 (lZ (bUZ op w r))) 0 37 (lZ (bLZ op w r))) 13 g) 0 36 (lZ (bUZ op w (r + 1)))) 0 37 (lZ (bLZ op w (r + 1))))) rfl ?_
      refine dx_call (id := 117) (as := [.ref 0, .int (m.1 0 24)]) (rest := []) rfl ?_
      rw [er]
      refine sX4_spreadL (dx_pL (dx_pL (dx_pR (dx_pL (dx_pL m 0 36 (lZ (bUZ op w r))) 0 37 (lZ (bLZ op w r))) 13 g) 0 36 (lZ (bUZ op w (r + 1)))) 0 37 (lZ (bLZ op w (r + 1)))) (op := op) (w := w) (h := h) (r := r) hl hr (WM_B hg) (fun g2 hg2 => ?_)
      refine dx_blk 0 (c' := (71, [.ref 0, .long (lZ (bUZ op w r)), .null, .long (lZ (bLZ op w r)), .null], [], dx_pR (dx_pL (dx_pL (dx_pR (dx_pL (dx_pL m 0 36 (lZ (bUZ op w r))) 0 37 (lZ (bLZ op w r))) 13 g) 0 36 (lZ (bUZ op w (r + 1)))) 0 37 (lZ (bLZ op w (r + 1)))) 13 g2)) rfl ?_
      refine dx_blk 9 (c' := (84, [.ref 0, .long (lZ (bUZ op w r)), .null, .long (lZ (bLZ op w r)), .null], [.int (lg_cmp ((lZ (bUZ op w r)) * (lZ (bLZ op w (r + 1)))) ((lZ (bUZ op w (r + 1))) * (lZ (bLZ op w r))))], dx_pR (dx_pL (dx_pL (dx_pR (dx_pL (dx_pL m 0 36 (lZ (bUZ op w r))) 0 37 (lZ (bLZ op w r))) 13 g) 0 36 (lZ (bUZ op w (r + 1)))) 0 37 (lZ (bLZ op w (r + 1)))) 13 g2)) rfl ?_
      refine dx_brQ (q := 0 ≤ (lg_cmp ((lZ (bUZ op w r)) * (lZ (bLZ op w (r + 1)))) ((lZ (bUZ op w (r + 1))) * (lZ (bLZ op w r))))) (a := 97) (b := 87) (L := [.ref 0, .long (lZ (bUZ op w r)), .null, .long (lZ (bLZ op w r)), .null]) (st := []) (m := dx_pR (dx_pL (dx_pL (dx_pR (dx_pL (dx_pL m 0 36 (lZ (bUZ op w r))) 0 37 (lZ (bLZ op w r))) 13 g) 0 36 (lZ (bUZ op w (r + 1)))) 0 37 (lZ (bLZ op w (r + 1)))) 13 g2) (lc_ge _ _) rfl (fun q84 => ?_) (fun q84 => ?_)
      · exact dx_ret (r := none) rfl (by
    rw [show lZ (bUZ op w r) * lZ (bLZ op w (r + 1)) = lZ (bUZ op w r * bLZ op w (r + 1)) from lZ_mul _ _, show lZ (bUZ op w (r + 1)) * lZ (bLZ op w r) = lZ (bUZ op w (r + 1) * bLZ op w r) from lZ_mul _ _, fa_le64] at q84
    have nb : brB op w h r p Q := ⟨⟨by rw [← ep, ← eq]; exact q17, qh⟩, by rw [fa_lt64]; omega⟩
    refine h1 _ ⟨⟨⟨fun k h3 h4 h5 => (by simp [dx_pR, dx_pL, h5]), ⟨rfl, rfl, rfl, rfl, rfl⟩, rfl, rfl⟩, rfl, rfl, rfl, rfl, rfl⟩, rfl, fun j hj => (by
      have e1 : j ≠ 36 := by omega
      have e2 : j ≠ 37 := by omega
      simp [dx_pR, dx_pL, vp_updL, e1, e2])⟩ hg2 ?_ ?_
    · rw [(brU_t nb).1]; rfl
    · rw [(brU_t nb).2]; rfl)
      · refine dx_blk 6 (c' := (97, [.ref 0, .long (lZ (bUZ op w r)), .null, .long (lZ (bLZ op w r)), .null], [], dx_pL (dx_pL (dx_pR (dx_pL (dx_pL (dx_pR (dx_pL (dx_pL m 0 36 (lZ (bUZ op w r))) 0 37 (lZ (bLZ op w r))) 13 g) 0 36 (lZ (bUZ op w (r + 1)))) 0 37 (lZ (bLZ op w (r + 1)))) 13 g2) 0 36 (lZ (bUZ op w r))) 0 37 (lZ (bLZ op w r)))) rfl ?_
        exact dx_ret (r := none) rfl (by
    rw [show lZ (bUZ op w r) * lZ (bLZ op w (r + 1)) = lZ (bUZ op w r * bLZ op w (r + 1)) from lZ_mul _ _, show lZ (bUZ op w (r + 1)) * lZ (bLZ op w r) = lZ (bUZ op w (r + 1) * bLZ op w r) from lZ_mul _ _, fa_le64] at q84
    have nb : ¬ brB op w h r p Q := fun q => q.2 (by rw [fa_lt64]; omega)
    refine h1 _ ⟨⟨⟨fun k h3 h4 h5 => (by simp [dx_pR, dx_pL, h5]), ⟨rfl, rfl, rfl, rfl, rfl⟩, rfl, rfl⟩, rfl, rfl, rfl, rfl, rfl⟩, rfl, fun j hj => (by
      have e1 : j ≠ 36 := by omega
      have e2 : j ≠ 37 := by omega
      simp [dx_pR, dx_pL, vp_updL, e1, e2])⟩ hg2 ?_ ?_
    · rw [(brU_f nb).1]; rfl
    · rw [(brU_f nb).2]; rfl)
    · refine dx_blk 0 (c' := (20, [.ref 0, .null, .null, .null, .null], [], dx_pL (dx_pL m 0 36 (lZ (bUZ op w r))) 0 37 (lZ (bLZ op w r)))) rfl ?_
      refine dx_blk 6 (c' := (30, [.ref 0, .null, .null, .null, .null], [.int (m.1 0 19), .int ((m.1 0 24) + 1)], dx_pL (dx_pL m 0 36 (lZ (bUZ op w r))) 0 37 (lZ (bLZ op w r)))) rfl ?_
      refine dx_br (q := (m.1 0 19) ≤ ((m.1 0 24) + 1)) (a := 97) (b := 33) (L := [.ref 0, .null, .null, .null, .null]) (st := []) (m := dx_pL (dx_pL m 0 36 (lZ (bUZ op w r))) 0 37 (lZ (bLZ op w r))) rfl (fun _ => ?_) (fun h => absurd (by rw [er, a5, nI_1 r]; exact nI_le (by omega) (by omega)) h)
      exact dx_ret (r := none) rfl (by
    have nb : ¬ brB op w h r p Q := fun q => (by first | exact q17 (by rw [ep, eq]; exact q.1.1) | exact qh q.1.2)
    refine h1 _ ⟨⟨⟨fun k h3 h4 h5 => (by simp [dx_pR, dx_pL, h5]), ⟨rfl, rfl, rfl, rfl, rfl⟩, rfl, rfl⟩, rfl, rfl, rfl, rfl, rfl⟩, rfl, fun j hj => (by
      have e1 : j ≠ 36 := by omega
      have e2 : j ≠ 37 := by omega
      simp [dx_pR, dx_pL, vp_updL, e1, e2])⟩ hm ?_ ?_
    · rw [(brU_f nb).1]; rfl
    · rw [(brU_f nb).2]; rfl)
  · exact dx_ret (r := none) rfl (by
    have nb : ¬ brB op w h r p Q := fun q => (by first | exact q17 (by rw [ep, eq]; exact q.1.1) | exact qh q.1.2)
    refine h1 _ ⟨⟨⟨fun k h3 h4 h5 => (by simp [dx_pR, dx_pL, h5]), ⟨rfl, rfl, rfl, rfl, rfl⟩, rfl, rfl⟩, rfl, rfl, rfl, rfl, rfl⟩, rfl, fun j hj => (by
      have e1 : j ≠ 36 := by omega
      have e2 : j ≠ 37 := by omega
      simp [dx_pR, dx_pL, vp_updL, e1, e2])⟩ hm ?_ ?_
    · rw [(brU_f nb).1]; rfl
    · rw [(brU_f nb).2]; rfl)
