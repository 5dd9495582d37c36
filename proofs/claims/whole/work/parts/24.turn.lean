/-! the log turned, water that rises (printed by wip/whole/g24.py) -/
def aN (t x y W H : Nat) : Nat := if t = 1 then H - 1 - y else if t = 2 then W - 1 - x else if t = 3 then y else x
def uN' (t x y W H : Nat) : Nat := if t = 1 then x else if t = 2 then H - 1 - y else if t = 3 then W - 1 - x else y
def x0 (t v u W H : Nat) : Nat := if t = 1 then v else if t = 2 then W - 1 - u else if t = 3 then W - 1 - v else u
def y0 (t v u W H : Nat) : Nat := if t = 1 then H - 1 - u else if t = 2 then H - 1 - v else if t = 3 then u else v
def wdN (t W H : Nat) : Nat := if t = 1 ∨ t = 3 then H else W
def htN (t W H : Nat) : Nat := if t = 1 ∨ t = 3 then W else H
def opS (f : Nat → Int32) (t W H v u : Nat) : Bool := decide (f (12 * y0 t v u W H + x0 t v u W H) = -9)
theorem t_cases {t : Nat} (h : t < 4) : t = 0 ∨ t = 1 ∨ t = 2 ∨ t = 3 := by omega
theorem aN_lt {t x y W H : Nat} (h : t < 4) (hx : x < W) (hy : y < H) : aN t x y W H < wdN t W H := by
  rcases t_cases h with rfl | rfl | rfl | rfl <;> simp [aN, wdN] <;> omega
theorem uN_lt {t x y W H : Nat} (h : t < 4) (hx : x < W) (hy : y < H) : uN' t x y W H < htN t W H := by
  rcases t_cases h with rfl | rfl | rfl | rfl <;> simp [uN', htN] <;> omega
theorem x0_lt {t v u W H : Nat} (h : t < 4) (hv : v < htN t W H) (hu : u < wdN t W H) : x0 t v u W H < W := by
  rcases t_cases h with rfl | rfl | rfl | rfl <;> simp [x0, wdN, htN] at * <;> omega
theorem y0_lt {t v u W H : Nat} (h : t < 4) (hv : v < htN t W H) (hu : u < wdN t W H) : y0 t v u W H < H := by
  rcases t_cases h with rfl | rfl | rfl | rfl <;> simp [y0, wdN, htN] at * <;> omega
theorem turn_inv {t v u x y W H : Nat} (h : t < 4) (hv : v < htN t W H) (hu : u < wdN t W H) (hx : x < W) (hy : y < H) : (x0 t v u W H = x ∧ y0 t v u W H = y) ↔ (v = uN' t x y W H ∧ u = aN t x y W H) := by
  rcases t_cases h with rfl | rfl | rfl | rfl <;> simp [x0, y0, aN, uN', wdN, htN] at * <;> omega
theorem sub1 {a b : Nat} (h : b < a) : nI a - 1 - nI b = nI (a - 1 - b) := by
  rw [show nI a - 1 = nI (a - 1) from pk_sub (a := a) (b := 1) (by omega), pk_sub (by omega)]
theorem trA_N {t x y W H : Nat} (h : t < 4) (hx : x < W) (hy : y < H) : trA (nI t) (nI x) (nI y) (nI W - 1) (nI H - 1) = nI (aN t x y W H) := by
  rcases t_cases h with rfl | rfl | rfl | rfl
  · rfl
  · show nI H - 1 - nI y = nI (H - 1 - y)
    exact sub1 hy
  · show nI W - 1 - nI x = nI (W - 1 - x)
    exact sub1 hx
  · rfl
theorem trU_N {t x y W H : Nat} (h : t < 4) (hx : x < W) (hy : y < H) : trU (nI t) (nI x) (nI y) (nI W - 1) (nI H - 1) = nI (uN' t x y W H) := by
  rcases t_cases h with rfl | rfl | rfl | rfl
  · rfl
  · rfl
  · show nI H - 1 - nI y = nI (H - 1 - y)
    exact sub1 hy
  · show nI W - 1 - nI x = nI (W - 1 - x)
    exact sub1 hx
theorem even_N : ∀ t, t < 4 → (nI t - nI t / 2 * 2 = 0 ↔ ¬ (t = 1 ∨ t = 3)) := by decide +kernel
theorem wd_N {t W H : Nat} (h : t < 4) : (if nI t - nI t / 2 * 2 = 0 then nI W else nI H) = nI (wdN t W H) := by
  unfold wdN
  by_cases q : t = 1 ∨ t = 3
  · rw [if_neg (fun z => (even_N t h).mp z q), if_pos q]
  · rw [if_pos ((even_N t h).mpr q), if_neg q]
theorem ht_N {t W H : Nat} (h : t < 4) : (if nI t - nI t / 2 * 2 = 0 then nI H else nI W) = nI (htN t W H) := by
  unfold htN
  by_cases q : t = 1 ∨ t = 3
  · rw [if_neg (fun z => (even_N t h).mp z q), if_pos q]
  · rw [if_pos ((even_N t h).mpr q), if_neg q]
def tstep (f : Nat → Int32) (t W H y x : Nat) (o : Nat → Int32) : Nat → Int32 := if f (y * 12 + x) = -9 then upd o (uN' t x y W H) (o (uN' t x y W H) ||| ((1 : Int32) <<< (nI (aN t x y W H) &&& 31))) else o
def tfull (f : Nat → Int32) (t W H : Nat) (o : Nat → Int32) : Nat → Int32 := nf (fun y o => nf (fun x o => tstep f t W H y x o) W o) H o
theorem dx_pI_45 (b : dx_M) (f g : Nat → Int32) (i j : Nat) (u v : Int32) : dx_pI (dx_pI (dx_pR (dx_pR b 4 f) 5 g) 4 i u) 5 j v = dx_pR (dx_pR b 4 (upd f i u)) 5 (upd g j v) := by
  unfold dx_pI dx_pR
  refine Prod.ext (funext fun a => ?_) rfl
  by_cases h : a = 4
  · subst h; simp
  · by_cases h2 : a = 5
    · subst h2; simp
    · simp [h, h2]
theorem dx_pI_45b (b : dx_M) (f g : Nat → Int32) (i : Nat) (u : Int32) : dx_pI (dx_pR (dx_pR b 4 f) 5 g) 4 i u = dx_pR (dx_pR b 4 (upd f i u)) 5 g := by
  unfold dx_pI dx_pR
  refine Prod.ext (funext fun a => ?_) rfl
  by_cases h : a = 4
  · subst h; simp
  · by_cases h2 : a = 5
    · subst h2; simp
    · simp [h, h2]
set_option maxRecDepth 20000 in
theorem sX1_turnTo {d : Nat} (m : dx_M) {W H : Nat} (hW : W ≤ 12) (hH : H ≤ 12) (eW : m.1 1 1 = nI W) (eH : m.1 1 2 = nI H) {t : Nat} (ht : t < 4) {Z : Option Value → dx_M → Prop} (h : Z none (dx_pR (dx_pR (dx_pI (dx_pI (dx_pI m 3 2 (nI (wdN t W H))) 3 3 (nI (htN t W H))) 3 4 (-1)) 4 (tfull (m.1 2) t W H (fa_fill (fun _ => 0) (m.1 4) 12))) 5 (fa_fill (fun _ => 0) (m.1 5) 12))) : dx_Sem dx_P lx_X (d + 2) 10 [.ref 3, .ref 1, .int (nI t)] m Z := by
  have hht : htN t W H ≤ 12 := by unfold htN; by_cases q : t = 1 ∨ t = 3 <;> simp [q] <;> omega
  refine dx_sem km_X1_turnTo rfl rfl ?_
  refine dx_blk 0 (c' := (0, [.ref 3, .ref 1, .int (nI t), .null, .null, .null], [], m)) rfl ?_
  refine dx_blk 3 (c' := (3, [.ref 3, .ref 1, .int (nI t), .null, .null, .null], [.int (nI t), .ref 1, .ref 3], m)) rfl ?_
  refine dx_call (id := 4) (as := [.ref 1, .int (nI t)]) (rest := [.ref 3]) rfl ?_
  refine sX0_across (nI t) _ ?_
  rw [eW, eH, wd_N ht]
  refine dx_blk 0 (c' := (6, [.ref 3, .ref 1, .int (nI t), .null, .null, .null], [.int (nI (wdN t W H)), .ref 3], m)) rfl ?_
  refine dx_blk 4 (c' := (12, [.ref 3, .ref 1, .int (nI t), .null, .null, .null], [.int (nI t), .ref 1, .ref 3], dx_pI m 3 2 (nI (wdN t W H)))) rfl ?_
  refine dx_call (id := 5) (as := [.ref 1, .int (nI t)]) (rest := [.ref 3]) rfl ?_
  refine sX0_up (nI t) _ ?_
  rw [show (dx_pI m 3 2 (nI (wdN t W H))).1 1 2 = nI H from eH, show (dx_pI m 3 2 (nI (wdN t W H))).1 1 1 = nI W from eW, ht_N ht]
  refine dx_blk 0 (c' := (15, [.ref 3, .ref 1, .int (nI t), .null, .null, .null], [.int (nI (htN t W H)), .ref 3], dx_pI m 3 2 (nI (wdN t W H)))) rfl ?_
  refine dx_blk 6 (c' := (25, [.ref 3, .ref 1, .int (nI t), .int 0, .null, .null], [], dx_pI (dx_pI (dx_pI m 3 2 (nI (wdN t W H))) 3 3 (nI (htN t W H))) 3 4 (-1))) rfl ?_
  refine dx_mem (m' := dx_pR (dx_pR (dx_pI (dx_pI (dx_pI m 3 2 (nI (wdN t W H))) 3 3 (nI (htN t W H))) 3 4 (-1)) 4 (fa_fill (fun _ => 0) (m.1 4) 0)) 5 (fa_fill (fun _ => 0) (m.1 5) 0)) (by
    rw [fa_fill_0, fa_fill_0, show m.1 4 = (dx_pI (dx_pI (dx_pI m 3 2 (nI (wdN t W H))) 3 3 (nI (htN t W H))) 3 4 (-1)).1 4 from rfl, dx_pR_self, show m.1 5 = (dx_pI (dx_pI (dx_pI m 3 2 (nI (wdN t W H))) 3 3 (nI (htN t W H))) 3 4 (-1)).1 5 from rfl, dx_pR_self]) ?_
  refine dx_blk 0 (c' := (25, [.ref 3, .ref 1, .int (nI t), .int (nI 0), .null, .null], [], dx_pR (dx_pR (dx_pI (dx_pI (dx_pI m 3 2 (nI (wdN t W H))) 3 3 (nI (htN t W H))) 3 4 (-1)) 4 (fa_fill (fun _ => 0) (m.1 4) 0)) 5 (fa_fill (fun _ => 0) (m.1 5) 0))) rfl ?_
  refine dx_for0 (fun (i : Nat) => ((25, [.ref 3, .ref 1, .int (nI t), .int (nI i), .null, .null], [], dx_pR (dx_pR (dx_pI (dx_pI (dx_pI m 3 2 (nI (wdN t W H))) 3 3 (nI (htN t W H))) 3 4 (-1)) 4 (fa_fill (fun _ => 0) (m.1 4) i)) 5 (fa_fill (fun _ => 0) (m.1 5) i)) : dx_F)) 12 (fun i hi hk => ?_) ?_
  · refine dx_blk 0 (c' := (25, [.ref 3, .ref 1, .int (nI t), .int (nI i), .null, .null], [], dx_pR (dx_pR (dx_pI (dx_pI (dx_pI m 3 2 (nI (wdN t W H))) 3 3 (nI (htN t W H))) 3 4 (-1)) 4 (fa_fill (fun _ => 0) (m.1 4) i)) 5 (fa_fill (fun _ => 0) (m.1 5) i))) rfl ?_
    refine dx_blk 2 (c' := (28, [.ref 3, .ref 1, .int (nI t), .int (nI i), .null, .null], [.int 12, .int (nI i)], dx_pR (dx_pR (dx_pI (dx_pI (dx_pI m 3 2 (nI (wdN t W H))) 3 3 (nI (htN t W H))) 3 4 (-1)) 4 (fa_fill (fun _ => 0) (m.1 4) i)) 5 (fa_fill (fun _ => 0) (m.1 5) i))) rfl ?_
    refine dx_br (q := 12 ≤ (nI i)) (a := 51) (b := 31) (L := [.ref 3, .ref 1, .int (nI t), .int (nI i), .null, .null]) (st := []) (m := dx_pR (dx_pR (dx_pI (dx_pI (dx_pI m 3 2 (nI (wdN t W H))) 3 3 (nI (htN t W H))) 3 4 (-1)) 4 (fa_fill (fun _ => 0) (m.1 4) i)) 5 (fa_fill (fun _ => 0) (m.1 5) i)) rfl (fun h => absurd h (nI_ge hi (by decide))) (fun _ => ?_)
    refine dx_blk 4 (c' := (37, [.ref 3, .ref 1, .int (nI t), .int (nI i), .null, .null], [.int 0, .int (nI i), .ref 4], dx_pR (dx_pR (dx_pI (dx_pI (dx_pI m 3 2 (nI (wdN t W H))) 3 3 (nI (htN t W H))) 3 4 (-1)) 4 (fa_fill (fun _ => 0) (m.1 4) i)) 5 (fa_fill (fun _ => 0) (m.1 5) i))) rfl ?_
    refine dx_astN i rfl rfl rfl rfl (by omega) ?_
    refine dx_blk 0 (c' := (38, [.ref 3, .ref 1, .int (nI t), .int (nI i), .null, .null], [], dx_pI (dx_pR (dx_pR (dx_pI (dx_pI (dx_pI m 3 2 (nI (wdN t W H))) 3 3 (nI (htN t W H))) 3 4 (-1)) 4 (fa_fill (fun _ => 0) (m.1 4) i)) 5 (fa_fill (fun _ => 0) (m.1 5) i)) 4 i 0)) rfl ?_
    refine dx_blk 4 (c' := (44, [.ref 3, .ref 1, .int (nI t), .int (nI i), .null, .null], [.int 0, .int (nI i), .ref 5], dx_pI (dx_pR (dx_pR (dx_pI (dx_pI (dx_pI m 3 2 (nI (wdN t W H))) 3 3 (nI (htN t W H))) 3 4 (-1)) 4 (fa_fill (fun _ => 0) (m.1 4) i)) 5 (fa_fill (fun _ => 0) (m.1 5) i)) 4 i 0)) rfl ?_
    refine dx_astN i rfl rfl rfl rfl (by omega) ?_
    refine dx_blk 0 (c' := (45, [.ref 3, .ref 1, .int (nI t), .int (nI i), .null, .null], [], dx_pI (dx_pI (dx_pR (dx_pR (dx_pI (dx_pI (dx_pI m 3 2 (nI (wdN t W H))) 3 3 (nI (htN t W H))) 3 4 (-1)) 4 (fa_fill (fun _ => 0) (m.1 4) i)) 5 (fa_fill (fun _ => 0) (m.1 5) i)) 4 i 0) 5 i 0)) rfl ?_
    refine dx_blk 2 (c' := (25, [.ref 3, .ref 1, .int (nI t), .int ((nI i) + 1), .null, .null], [], dx_pI (dx_pI (dx_pR (dx_pR (dx_pI (dx_pI (dx_pI m 3 2 (nI (wdN t W H))) 3 3 (nI (htN t W H))) 3 4 (-1)) 4 (fa_fill (fun _ => 0) (m.1 4) i)) 5 (fa_fill (fun _ => 0) (m.1 5) i)) 4 i 0) 5 i 0)) rfl ?_
    rw [dx_pI_45, show upd (fa_fill (fun _ => (0 : Int32)) (m.1 4) i) i 0 = fa_fill (fun _ => (0 : Int32)) (m.1 4) (i + 1) from fa_fill_succ (fun _ => 0) (m.1 4) i, show upd (fa_fill (fun _ => (0 : Int32)) (m.1 5) i) i 0 = fa_fill (fun _ => (0 : Int32)) (m.1 5) (i + 1) from fa_fill_succ (fun _ => 0) (m.1 5) i, ← nI_succ]
    exact hk
  · refine dx_blk 0 (c' := (25, [.ref 3, .ref 1, .int (nI t), .int (nI 12), .null, .null], [], dx_pR (dx_pR (dx_pI (dx_pI (dx_pI m 3 2 (nI (wdN t W H))) 3 3 (nI (htN t W H))) 3 4 (-1)) 4 (fa_fill (fun _ => 0) (m.1 4) 12)) 5 (fa_fill (fun _ => 0) (m.1 5) 12))) rfl ?_
    refine dx_blk 2 (c' := (28, [.ref 3, .ref 1, .int (nI t), .int (nI 12), .null, .null], [.int 12, .int (nI 12)], dx_pR (dx_pR (dx_pI (dx_pI (dx_pI m 3 2 (nI (wdN t W H))) 3 3 (nI (htN t W H))) 3 4 (-1)) 4 (fa_fill (fun _ => 0) (m.1 4) 12)) 5 (fa_fill (fun _ => 0) (m.1 5) 12))) rfl ?_
    refine dx_br (q := 12 ≤ (nI 12)) (a := 51) (b := 31) (L := [.ref 3, .ref 1, .int (nI t), .int (nI 12), .null, .null]) (st := []) (m := dx_pR (dx_pR (dx_pI (dx_pI (dx_pI m 3 2 (nI (wdN t W H))) 3 3 (nI (htN t W H))) 3 4 (-1)) 4 (fa_fill (fun _ => 0) (m.1 4) 12)) 5 (fa_fill (fun _ => 0) (m.1 5) 12)) rfl (fun _ => ?_) (fun h => absurd (nI_le (Nat.le_refl _) (by decide)) h)
    refine dx_blk 2 (c' := (53, [.ref 3, .ref 1, .int (nI t), .int 0, .null, .null], [], dx_pR (dx_pR (dx_pI (dx_pI (dx_pI m 3 2 (nI (wdN t W H))) 3 3 (nI (htN t W H))) 3 4 (-1)) 4 (fa_fill (fun _ => 0) (m.1 4) 12)) 5 (fa_fill (fun _ => 0) (m.1 5) 12))) rfl ?_
    refine dx_blk 0 (c' := (53, [.ref 3, .ref 1, .int (nI t), .int (nI 0), .null, .null], [], dx_pR (dx_pR (dx_pI (dx_pI (dx_pI m 3 2 (nI (wdN t W H))) 3 3 (nI (htN t W H))) 3 4 (-1)) 4 (fa_fill (fun _ => 0) (m.1 4) 12)) 5 (fa_fill (fun _ => 0) (m.1 5) 12))) rfl ?_
    refine dx_for (fun (y : Nat) (u : Nat → Int32) => ((53, [.ref 3, .ref 1, .int (nI t), .int (nI y), .null, .null], [], dx_pR (dx_pR (dx_pI (dx_pI (dx_pI m 3 2 (nI (wdN t W H))) 3 3 (nI (htN t W H))) 3 4 (-1)) 4 u) 5 (fa_fill (fun _ => 0) (m.1 5) 12)) : dx_F)) (fun (y : Nat) (u : Nat → Int32) => nf (fun (x : Nat) (o : Nat → Int32) => tstep (m.1 2) t W H y x o) W u) (fun _ _ => True) H (fa_fill (fun _ => 0) (m.1 4) 12) trivial (fun y u hi hI hk => ?_) (fun _ _ _ _ => trivial) (fun hN => ?_)
    · refine dx_blk 0 (c' := (53, [.ref 3, .ref 1, .int (nI t), .int (nI y), .null, .null], [], dx_pR (dx_pR (dx_pI (dx_pI (dx_pI m 3 2 (nI (wdN t W H))) 3 3 (nI (htN t W H))) 3 4 (-1)) 4 u) 5 (fa_fill (fun _ => 0) (m.1 5) 12))) rfl ?_
      have hy : y < H := hi
      refine dx_blk 3 (c' := (58, [.ref 3, .ref 1, .int (nI t), .int (nI y), .null, .null], [.int (m.1 1 2), .int (nI y)], dx_pR (dx_pR (dx_pI (dx_pI (dx_pI m 3 2 (nI (wdN t W H))) 3 3 (nI (htN t W H))) 3 4 (-1)) 4 u) 5 (fa_fill (fun _ => 0) (m.1 5) 12))) rfl ?_
      refine dx_br (q := (m.1 1 2) ≤ (nI y)) (a := 149) (b := 61) (L := [.ref 3, .ref 1, .int (nI t), .int (nI y), .null, .null]) (st := []) (m := dx_pR (dx_pR (dx_pI (dx_pI (dx_pI m 3 2 (nI (wdN t W H))) 3 3 (nI (htN t W H))) 3 4 (-1)) 4 u) 5 (fa_fill (fun _ => 0) (m.1 5) 12)) rfl (fun h => absurd h (by rw [show m.1 1 2 = nI H from eH]; exact nI_ge hi (by omega))) (fun _ => ?_)
      refine dx_blk 2 (c' := (64, [.ref 3, .ref 1, .int (nI t), .int (nI y), .int 0, .null], [], dx_pR (dx_pR (dx_pI (dx_pI (dx_pI m 3 2 (nI (wdN t W H))) 3 3 (nI (htN t W H))) 3 4 (-1)) 4 u) 5 (fa_fill (fun _ => 0) (m.1 5) 12))) rfl ?_
      refine dx_blk 0 (c' := (64, [.ref 3, .ref 1, .int (nI t), .int (nI y), .int (nI 0), .null], [], dx_pR (dx_pR (dx_pI (dx_pI (dx_pI m 3 2 (nI (wdN t W H))) 3 3 (nI (htN t W H))) 3 4 (-1)) 4 u) 5 (fa_fill (fun _ => 0) (m.1 5) 12))) rfl ?_
      refine dx_for (fun (x : Nat) (o : Nat → Int32) => ((64, [.ref 3, .ref 1, .int (nI t), .int (nI y), .int (nI x), .null], [], dx_pR (dx_pR (dx_pI (dx_pI (dx_pI m 3 2 (nI (wdN t W H))) 3 3 (nI (htN t W H))) 3 4 (-1)) 4 o) 5 (fa_fill (fun _ => 0) (m.1 5) 12)) : dx_F)) (fun (x : Nat) (o : Nat → Int32) => tstep (m.1 2) t W H y x o) (fun _ _ => True) W u trivial (fun x o hi hI hk => ?_) (fun _ _ _ _ => trivial) (fun hN => ?_)
      · refine dx_blk 0 (c' := (64, [.ref 3, .ref 1, .int (nI t), .int (nI y), .int (nI x), .null], [], dx_pR (dx_pR (dx_pI (dx_pI (dx_pI m 3 2 (nI (wdN t W H))) 3 3 (nI (htN t W H))) 3 4 (-1)) 4 o) 5 (fa_fill (fun _ => 0) (m.1 5) 12))) rfl ?_
        refine dx_blk 3 (c' := (70, [.ref 3, .ref 1, .int (nI t), .int (nI y), .int (nI x), .null], [.int (m.1 1 1), .int (nI x)], dx_pR (dx_pR (dx_pI (dx_pI (dx_pI m 3 2 (nI (wdN t W H))) 3 3 (nI (htN t W H))) 3 4 (-1)) 4 o) 5 (fa_fill (fun _ => 0) (m.1 5) 12))) rfl ?_
        refine dx_br (q := (m.1 1 1) ≤ (nI x)) (a := 143) (b := 73) (L := [.ref 3, .ref 1, .int (nI t), .int (nI y), .int (nI x), .null]) (st := []) (m := dx_pR (dx_pR (dx_pI (dx_pI (dx_pI m 3 2 (nI (wdN t W H))) 3 3 (nI (htN t W H))) 3 4 (-1)) 4 o) 5 (fa_fill (fun _ => 0) (m.1 5) 12)) rfl (fun h => absurd h (by rw [show m.1 1 1 = nI W from eW]; exact nI_ge hi (by omega))) (fun _ => ?_)
        refine dx_blk 3 (c' := (77, [.ref 3, .ref 1, .int (nI t), .int (nI y), .int (nI x), .null], [.int (nI y), .int (nI x), .ref 1], dx_pR (dx_pR (dx_pI (dx_pI (dx_pI m 3 2 (nI (wdN t W H))) 3 3 (nI (htN t W H))) 3 4 (-1)) 4 o) 5 (fa_fill (fun _ => 0) (m.1 5) 12))) rfl ?_
        refine dx_call (id := 2) (as := [.ref 1, .int (nI x), .int (nI y)]) (rest := []) rfl ?_
        refine sX0_weightOf (a := x) (b := y) (by omega) (by omega) _ ?_
        refine dx_blk 0 (c' := (80, [.ref 3, .ref 1, .int (nI t), .int (nI y), .int (nI x), .null], [.int (m.1 2 (y * 12 + x))], dx_pR (dx_pR (dx_pI (dx_pI (dx_pI m 3 2 (nI (wdN t W H))) 3 3 (nI (htN t W H))) 3 4 (-1)) 4 o) 5 (fa_fill (fun _ => 0) (m.1 5) 12))) rfl ?_
        refine dx_blk 1 (c' := (82, [.ref 3, .ref 1, .int (nI t), .int (nI y), .int (nI x), .null], [.int (-9), .int (m.1 2 (y * 12 + x))], dx_pR (dx_pR (dx_pI (dx_pI (dx_pI m 3 2 (nI (wdN t W H))) 3 3 (nI (htN t W H))) 3 4 (-1)) 4 o) 5 (fa_fill (fun _ => 0) (m.1 5) 12))) rfl ?_
        refine dx_br (q := (m.1 2 (y * 12 + x)) = (-9)) (a := 85) (b := 137) (L := [.ref 3, .ref 1, .int (nI t), .int (nI y), .int (nI x), .null]) (st := []) (m := dx_pR (dx_pR (dx_pI (dx_pI (dx_pI m 3 2 (nI (wdN t W H))) 3 3 (nI (htN t W H))) 3 4 (-1)) 4 o) 5 (fa_fill (fun _ => 0) (m.1 5) 12)) rfl (fun h82 => ?_) (fun h82 => ?_)
        · refine dx_blk 12 (c' := (102, [.ref 3, .ref 1, .int (nI t), .int (nI y), .int (nI x), .null], [.int ((m.1 1 2) - 1), .int ((m.1 1 1) - 1), .int (nI y), .int (nI x), .int (nI t), .int 1], dx_pR (dx_pR (dx_pI (dx_pI (dx_pI m 3 2 (nI (wdN t W H))) 3 3 (nI (htN t W H))) 3 4 (-1)) 4 o) 5 (fa_fill (fun _ => 0) (m.1 5) 12))) rfl ?_
          refine dx_call (id := 80) (as := [.int (nI t), .int (nI x), .int (nI y), .int ((m.1 1 1) - 1), .int ((m.1 1 2) - 1)]) (rest := [.int 1]) rfl ?_
          refine sX3_turnedAcross (nI t) (nI x) (nI y) (m.1 1 1 - 1) (m.1 1 2 - 1) _ ?_
          rw [eW, eH, trA_N ht hi hy]
          refine dx_blk 0 (c' := (105, [.ref 3, .ref 1, .int (nI t), .int (nI y), .int (nI x), .null], [.int (nI (aN t x y W H)), .int 1], dx_pR (dx_pR (dx_pI (dx_pI (dx_pI m 3 2 (nI (wdN t W H))) 3 3 (nI (htN t W H))) 3 4 (-1)) 4 o) 5 (fa_fill (fun _ => 0) (m.1 5) 12))) rfl ?_
          refine dx_blk 15 (c' := (128, [.ref 3, .ref 1, .int (nI t), .int (nI y), .int (nI x), .int ((1 : Int32) <<< ((nI (aN t x y W H)) &&& 31))], [.int ((m.1 1 2) - 1), .int ((m.1 1 1) - 1), .int (nI y), .int (nI x), .int (nI t), .ref 4], dx_pR (dx_pR (dx_pI (dx_pI (dx_pI m 3 2 (nI (wdN t W H))) 3 3 (nI (htN t W H))) 3 4 (-1)) 4 o) 5 (fa_fill (fun _ => 0) (m.1 5) 12))) rfl ?_
          refine dx_call (id := 81) (as := [.int (nI t), .int (nI x), .int (nI y), .int ((m.1 1 1) - 1), .int ((m.1 1 2) - 1)]) (rest := [.ref 4]) rfl ?_
          refine sX3_turnedUp (nI t) (nI x) (nI y) (m.1 1 1 - 1) (m.1 1 2 - 1) _ ?_
          rw [eW, eH, trU_N ht hi hy]
          refine dx_blk 0 (c' := (131, [.ref 3, .ref 1, .int (nI t), .int (nI y), .int (nI x), .int ((1 : Int32) <<< ((nI (aN t x y W H)) &&& 31))], [.int (nI (uN' t x y W H)), .ref 4], dx_pR (dx_pR (dx_pI (dx_pI (dx_pI m 3 2 (nI (wdN t W H))) 3 3 (nI (htN t W H))) 3 4 (-1)) 4 o) 5 (fa_fill (fun _ => 0) (m.1 5) 12))) rfl ?_
          refine dx_blk 1 (c' := (132, [.ref 3, .ref 1, .int (nI t), .int (nI y), .int (nI x), .int ((1 : Int32) <<< ((nI (aN t x y W H)) &&& 31))], [.int (nI (uN' t x y W H)), .ref 4, .int (nI (uN' t x y W H)), .ref 4], dx_pR (dx_pR (dx_pI (dx_pI (dx_pI m 3 2 (nI (wdN t W H))) 3 3 (nI (htN t W H))) 3 4 (-1)) 4 o) 5 (fa_fill (fun _ => 0) (m.1 5) 12))) rfl ?_
          refine dx_aldN (uN' t x y W H) rfl rfl rfl rfl (Nat.lt_of_lt_of_le (uN_lt ht hi hy) hht) ?_
          refine dx_blk 0 (c' := (133, [.ref 3, .ref 1, .int (nI t), .int (nI y), .int (nI x), .int ((1 : Int32) <<< ((nI (aN t x y W H)) &&& 31))], [.int (o (uN' t x y W H)), .int (nI (uN' t x y W H)), .ref 4], dx_pR (dx_pR (dx_pI (dx_pI (dx_pI m 3 2 (nI (wdN t W H))) 3 3 (nI (htN t W H))) 3 4 (-1)) 4 o) 5 (fa_fill (fun _ => 0) (m.1 5) 12))) rfl ?_
          refine dx_blk 2 (c' := (136, [.ref 3, .ref 1, .int (nI t), .int (nI y), .int (nI x), .int ((1 : Int32) <<< ((nI (aN t x y W H)) &&& 31))], [.int ((o (uN' t x y W H)) ||| ((1 : Int32) <<< ((nI (aN t x y W H)) &&& 31))), .int (nI (uN' t x y W H)), .ref 4], dx_pR (dx_pR (dx_pI (dx_pI (dx_pI m 3 2 (nI (wdN t W H))) 3 3 (nI (htN t W H))) 3 4 (-1)) 4 o) 5 (fa_fill (fun _ => 0) (m.1 5) 12))) rfl ?_
          refine dx_astN (uN' t x y W H) rfl rfl rfl rfl (Nat.lt_of_lt_of_le (uN_lt ht hi hy) hht) ?_
          refine dx_blk 0 (c' := (137, [.ref 3, .ref 1, .int (nI t), .int (nI y), .int (nI x), .int ((1 : Int32) <<< ((nI (aN t x y W H)) &&& 31))], [], dx_pI (dx_pR (dx_pR (dx_pI (dx_pI (dx_pI m 3 2 (nI (wdN t W H))) 3 3 (nI (htN t W H))) 3 4 (-1)) 4 o) 5 (fa_fill (fun _ => 0) (m.1 5) 12)) 4 (uN' t x y W H) ((o (uN' t x y W H)) ||| ((1 : Int32) <<< ((nI (aN t x y W H)) &&& 31))))) rfl ?_
          refine dx_blk 2 (c' := (64, [.ref 3, .ref 1, .int (nI t), .int (nI y), .int ((nI x) + 1), .int ((1 : Int32) <<< ((nI (aN t x y W H)) &&& 31))], [], dx_pI (dx_pR (dx_pR (dx_pI (dx_pI (dx_pI m 3 2 (nI (wdN t W H))) 3 3 (nI (htN t W H))) 3 4 (-1)) 4 o) 5 (fa_fill (fun _ => 0) (m.1 5) 12)) 4 (uN' t x y W H) ((o (uN' t x y W H)) ||| ((1 : Int32) <<< ((nI (aN t x y W H)) &&& 31))))) rfl ?_
          refine dx_fgt [.ref 3, .ref 1, .int (nI t), .int (nI y), .int ((nI x) + 1), .null] (And.intro (Or.inr rfl) (And.intro (Or.inr rfl) (And.intro (Or.inr rfl) (And.intro (Or.inr rfl) (And.intro (Or.inr rfl) (And.intro (Or.inl rfl) trivial)))))) ?_
          rw [tstep, if_pos (by assumption), nI_succ] at hk
          rw [dx_pI_45b]
          exact hk
        · refine dx_blk 2 (c' := (64, [.ref 3, .ref 1, .int (nI t), .int (nI y), .int ((nI x) + 1), .null], [], dx_pR (dx_pR (dx_pI (dx_pI (dx_pI m 3 2 (nI (wdN t W H))) 3 3 (nI (htN t W H))) 3 4 (-1)) 4 o) 5 (fa_fill (fun _ => 0) (m.1 5) 12))) rfl ?_
          rw [tstep, if_neg (by assumption), nI_succ] at hk
          exact hk
      · refine dx_blk 0 (c' := (64, [.ref 3, .ref 1, .int (nI t), .int (nI y), .int (nI W), .null], [], dx_pR (dx_pR (dx_pI (dx_pI (dx_pI m 3 2 (nI (wdN t W H))) 3 3 (nI (htN t W H))) 3 4 (-1)) 4 (nf (fun (x : Nat) (o : Nat → Int32) => tstep (m.1 2) t W H y x o) W u)) 5 (fa_fill (fun _ => 0) (m.1 5) 12))) rfl ?_
        refine dx_blk 3 (c' := (70, [.ref 3, .ref 1, .int (nI t), .int (nI y), .int (nI W), .null], [.int (m.1 1 1), .int (nI W)], dx_pR (dx_pR (dx_pI (dx_pI (dx_pI m 3 2 (nI (wdN t W H))) 3 3 (nI (htN t W H))) 3 4 (-1)) 4 (nf (fun (x : Nat) (o : Nat → Int32) => tstep (m.1 2) t W H y x o) W u)) 5 (fa_fill (fun _ => 0) (m.1 5) 12))) rfl ?_
        refine dx_br (q := (m.1 1 1) ≤ (nI W)) (a := 143) (b := 73) (L := [.ref 3, .ref 1, .int (nI t), .int (nI y), .int (nI W), .null]) (st := []) (m := dx_pR (dx_pR (dx_pI (dx_pI (dx_pI m 3 2 (nI (wdN t W H))) 3 3 (nI (htN t W H))) 3 4 (-1)) 4 (nf (fun (x : Nat) (o : Nat → Int32) => tstep (m.1 2) t W H y x o) W u)) 5 (fa_fill (fun _ => 0) (m.1 5) 12)) rfl (fun _ => ?_) (fun h => absurd (by rw [show m.1 1 1 = nI W from eW]; exact nI_le (Nat.le_refl _) (by omega)) h)
        refine dx_blk 2 (c' := (53, [.ref 3, .ref 1, .int (nI t), .int ((nI y) + 1), .int (nI W), .null], [], dx_pR (dx_pR (dx_pI (dx_pI (dx_pI m 3 2 (nI (wdN t W H))) 3 3 (nI (htN t W H))) 3 4 (-1)) 4 (nf (fun (x : Nat) (o : Nat → Int32) => tstep (m.1 2) t W H y x o) W u)) 5 (fa_fill (fun _ => 0) (m.1 5) 12))) rfl ?_
        refine dx_fgt [.ref 3, .ref 1, .int (nI t), .int ((nI y) + 1), .null, .null] (And.intro (Or.inr rfl) (And.intro (Or.inr rfl) (And.intro (Or.inr rfl) (And.intro (Or.inr rfl) (And.intro (Or.inl rfl) (And.intro (Or.inl rfl) trivial)))))) ?_
        rw [← nI_succ]
        exact hk
    · refine dx_blk 0 (c' := (53, [.ref 3, .ref 1, .int (nI t), .int (nI H), .null, .null], [], dx_pR (dx_pR (dx_pI (dx_pI (dx_pI m 3 2 (nI (wdN t W H))) 3 3 (nI (htN t W H))) 3 4 (-1)) 4 (nf (fun (y : Nat) (u : Nat → Int32) => nf (fun (x : Nat) (o : Nat → Int32) => tstep (m.1 2) t W H y x o) W u) H (fa_fill (fun _ => 0) (m.1 4) 12))) 5 (fa_fill (fun _ => 0) (m.1 5) 12))) rfl ?_
      refine dx_blk 3 (c' := (58, [.ref 3, .ref 1, .int (nI t), .int (nI H), .null, .null], [.int (m.1 1 2), .int (nI H)], dx_pR (dx_pR (dx_pI (dx_pI (dx_pI m 3 2 (nI (wdN t W H))) 3 3 (nI (htN t W H))) 3 4 (-1)) 4 (nf (fun (y : Nat) (u : Nat → Int32) => nf (fun (x : Nat) (o : Nat → Int32) => tstep (m.1 2) t W H y x o) W u) H (fa_fill (fun _ => 0) (m.1 4) 12))) 5 (fa_fill (fun _ => 0) (m.1 5) 12))) rfl ?_
      refine dx_br (q := (m.1 1 2) ≤ (nI H)) (a := 149) (b := 61) (L := [.ref 3, .ref 1, .int (nI t), .int (nI H), .null, .null]) (st := []) (m := dx_pR (dx_pR (dx_pI (dx_pI (dx_pI m 3 2 (nI (wdN t W H))) 3 3 (nI (htN t W H))) 3 4 (-1)) 4 (nf (fun (y : Nat) (u : Nat → Int32) => nf (fun (x : Nat) (o : Nat → Int32) => tstep (m.1 2) t W H y x o) W u) H (fa_fill (fun _ => 0) (m.1 4) 12))) 5 (fa_fill (fun _ => 0) (m.1 5) 12)) rfl (fun _ => ?_) (fun h => absurd (by rw [show m.1 1 2 = nI H from eH]; exact nI_le (Nat.le_refl _) (by omega)) h)
      exact dx_ret (r := none) rfl h
