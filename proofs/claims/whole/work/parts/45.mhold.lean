/-! the reference: its questions (printed by wip/whole/g45.py) -/
theorem ans_ge {o : Nat} : 0 ≤ ansO o ↔ 3 ≤ o := by
  match o with
  | 0 => decide
  | 1 => decide
  | 2 => decide
  | r + 3 => rw [ans_r]; exact ⟨fun _ => by omega, fun _ => by decide⟩
theorem ans_g {o : Nat} (h : 0 ≤ ansO o) : ∃ r, o = r + 3 := ⟨o - 3, by rw [ans_ge] at h; omega⟩
theorem ans_l {o : Nat} (h : ¬ 0 ≤ ansO o) : o < 3 := by rw [ans_ge] at h; omega
theorem sX4_tellE {d : Nat} (m : dx_M) {u l : Int} {a b : Int64} (ea : a = lZ u) (eb : b = lZ l) (ht : tlP u l) {Z : Option Value → dx_M → Prop} (h : Z (some (.int 1)) (dx_pL (dx_pL m 0 2 (tU u l)) 0 3 (tL u l))) : dx_Sem dx_P lx_M (d + 2) 87 [.ref 0, .long a, .long b] m Z := by
  subst ea; subst eb
  exact sX4_tells m ht h
theorem hoZ_mul {a b g : Int} (hg : 0 < g) : hoZ (a * g) (b * g) = hoZ a b := by
  unfold hoZ
  have e1 : b * g < a * g ↔ b < a := Int.mul_lt_mul_right hg
  have e2 : a * g = b * g ↔ a = b := Int.mul_eq_mul_right_iff (by omega)
  by_cases q : b < a
  · rw [if_pos q, if_pos (e1.mpr q)]
  · rw [if_neg q, if_neg (fun z => q (e1.mp z))]
    by_cases q2 : a = b
    · rw [if_pos q2, if_pos (e2.mpr q2)]
    · rw [if_neg q2, if_neg (fun z => q2 (e2.mp z))]
theorem gN_l (u l : Int) : l.tdiv (gN u l) * (gN u l) = l := Int.tdiv_mul_cancel (Int.ofNat_dvd_left.mpr (Nat.gcd_dvd_right _ _))
theorem gN_u (u l : Int) : u.tdiv (gN u l) * (gN u l) = u := Int.tdiv_mul_cancel (Int.ofNat_dvd_left.mpr (Nat.gcd_dvd_left _ _))
theorem ho_div {A L u l : Int} (hl : 0 < l) : hoZ (A * l.tdiv (gN u l)) (u.tdiv (gN u l) * L) = hoZ (A * l) (u * L) := by
  have e1 : A * l = A * l.tdiv (gN u l) * (gN u l) := by rw [Int.mul_assoc, gN_l]
  have e2 : u * L = u.tdiv (gN u l) * L * (gN u l) := by
    rw [Int.mul_assoc, Int.mul_comm L, ← Int.mul_assoc, gN_u]
  rw [e1, e2]
  exact (hoZ_mul (by have := gN_pos (u := u) hl; omega)).symm
theorem bd_td {a : Int} {g A : Nat} (h : a.natAbs ≤ A) : (a.tdiv g).natAbs ≤ A := by
  rw [Int.natAbs_tdiv]
  exact Nat.le_trans (Nat.div_le_self _ _) h
noncomputable def upM (op : Nat → Nat → Bool) (w r D : Nat) (p Q wu : Int) : Int := wu * (2 * Q * Q) - 2 * D * pwY op w r p Q
def loM (D : Nat) (Q : Int) : Int := 2 * D * (2 * Q * Q)
theorem loM_pos {D : Nat} {Q : Int} (hD : 1 ≤ D) (hQ : 0 < Q) : 0 < loM D Q := Int.mul_pos (by omega) (Int.mul_pos (by omega) hQ)
theorem loM_bd {D : Nat} {Q : Int} (hD : D ≤ 20) (h0 : 0 < Q) (hQ : Q ≤ 240) : (loM D Q).natAbs ≤ 2 * 20 * (2 * 240 * 240) :=
  bd_mul (bd_mul (show (2 : Int).natAbs ≤ 2 by decide) (bd_n hD)) (bd_mul (bd_mul (show (2 : Int).natAbs ≤ 2 by decide) (show Q.natAbs ≤ 240 by omega)) (show Q.natAbs ≤ 240 by omega))
theorem upM_bd {op : Nat → Nat → Bool} {w r D : Nat} {p Q wu : Int} (hw : w ≤ 12) (hr : r < 12) (hD : D ≤ 20) (h0 : 0 < p) (h1 : p ≤ Q) (h2 : Q ≤ 240) (hu : wu.natAbs ≤ 200000) : (upM op w r D p Q wu).natAbs ≤ 200000 * (2 * 240 * 240) + 2 * 20 * (3600 * 240 * 240 + 12 * 240 * (24 * 240 + 240)) :=
  bd_sub (bd_mul hu (bd_mul (bd_mul (show (2 : Int).natAbs ≤ 2 by decide) (show Q.natAbs ≤ 240 by omega)) (show Q.natAbs ≤ 240 by omega))) (bd_mul (bd_mul (show (2 : Int).natAbs ≤ 2 by decide) (bd_n hD)) (pwY_bd hw hr h0 h1 h2))
theorem hoM {op : Nat → Nat → Bool} {w h r D : Nat} {p Q wu : Int} (hl : 0 < loM D Q) : hoZ (brU op w h r p Q * (loM D Q).tdiv (gN (upM op w r D p Q wu) (loM D Q))) ((upM op w r D p Q wu).tdiv (gN (upM op w r D p Q wu) (loM D Q)) * brL op w h r p Q) = hoZ (hoA op w h r D p Q) (hoB op w h r D p Q wu) := by
  rw [ho_div hl, show brU op w h r p Q * loM D Q = hoA op w h r D p Q * 2 from ?_, show upM op w r D p Q wu * brL op w h r p Q = hoB op w h r D p Q wu * 2 from ?_]
  · exact hoZ_mul (by decide)
  · unfold upM hoB
    generalize pwY op w r p Q = a
    generalize brL op w h r p Q = b
    grind
  · unfold hoA loM
    generalize brU op w h r p Q = b
    grind
theorem t2_g (u l : Int) : gN (2 * u) (2 * l) = 2 * gN u l := by
  unfold gN
  rw [Int.natAbs_mul, Int.natAbs_mul]
  exact Nat.gcd_mul_left 2 _ _
theorem t2 (u l : Int) : tU (2 * u) (2 * l) = tU u l ∧ tL (2 * u) (2 * l) = tL u l := by
  unfold tU tL
  rw [t2_g]
  exact ⟨congrArg lZ (Int.mul_tdiv_mul_of_pos u (gN u l) (by decide)), congrArg lZ (Int.mul_tdiv_mul_of_pos l (gN u l) (by decide))⟩
theorem or_0 (x : Int32) : x ||| 0 = x := by
  refine Int32.toBitVec_inj.mp ?_
  rw [Int32.toBitVec_or]
  show x.toBitVec ||| 0#32 = x.toBitVec
  exact BitVec.or_zero
set_option maxRecDepth 20000 in
theorem sX4_lean {d : Nat} (m : dx_M) {Z : Option Value → dx_M → Prop} {D : Nat} {wa px Q : Int} (hD : D ≤ 20) (eD : m.1 0 6 = nI D) (e1 : m.2 0 21 = lZ wa) (e2 : m.2 0 33 = lZ (2 * Q)) (e3 : m.2 0 32 = lZ px) (h1 : Z (some (.long (lZ (2 * (wa * Q) - 2 * (px * D))))) m) : dx_Sem dx_P lx_M (d + 1) 129 [.ref 0] m Z := by
  refine dx_sem km_X4_lean rfl rfl ?_
  refine dx_blk 0 (c' := (0, [.ref 0], [], m)) rfl ?_
  refine dx_blk 14 (c' := (24, [.ref 0], [.long (((m.2 0 21) * (m.2 0 33)) - ((2 * (m.2 0 32)) * ((m.1 0 6).toInt64)))], m)) rfl ?_
  exact dx_ret (r := some (.long (((m.2 0 21) * (m.2 0 33)) - ((2 * (m.2 0 32)) * ((m.1 0 6).toInt64))))) rfl (by
    rw [eD, e1, e2, e3, lZ_n (by omega), show (2 : Int64) = lZ 2 from rfl, lZ_mul, lZ_mul, lZ_mul, lZ_sub, show wa * (2 * Q) - 2 * px * D = 2 * (wa * Q) - 2 * (px * D) by grind]
    exact h1)
set_option maxRecDepth 20000 in
theorem sX4_holdsNow {d : Nat} (m : dx_M) {f : Nat → Int32} {W H E D Wt sq : Nat} {wa wu : Nat → Int} (hg : GM m f W H E D Wt sq wa wu) {Z : Option Value → dx_M → Prop} {op : Nat → Nat → Bool} {w h r tn : Nat} {p Q : Int} (hr : r < h) (htn : tn < 4) (hA : AM m op w h r p Q) (ea : m.2 0 21 = lZ (wa tn)) (eu : m.2 0 22 = lZ (wu tn)) (h0 : 0 < p) (h2 : p ≤ Q) (h3 : Q ≤ 240) (h1 : ∀ m', kG m m' → Z (some (.int (hoT op w h r D p Q (wa tn) (wu tn)))) m') : dx_Sem dx_P lx_M (d + 5) 134 [.ref 0] m Z := by
  obtain ⟨g1, g2, g3, g4, g5, g6, g7, g8, g9, g10, g11, g12, g13, g14, g15, g16, g17, g18, g19⟩ := id hg
  have hE := g5
  have eE := g10
  have hW := g2
  have hH := g4
  have eW := g8
  have eH := g9
  obtain ⟨hl, hm, er, ef, ep, eq⟩ := id hA
  obtain ⟨a1, a2, a3, a4, a5, a6⟩ := id hl
  obtain ⟨w1, w2, w3, w4⟩ := g17 tn htn
  refine dx_sem km_X4_holdsNow rfl rfl ?_
  refine dx_blk 0 (c' := (0, [.ref 0, .null, .null, .null, .null, .null, .null, .null, .null, .null, .null], [], m)) rfl ?_
  refine dx_blk 1 (c' := (1, [.ref 0, .null, .null, .null, .null, .null, .null, .null, .null, .null, .null], [.ref 0], m)) rfl ?_
  refine dx_call (id := 126) (as := [.ref 0]) (rest := []) rfl ?_
  refine sX4_layPowers _ hr hA (fun m1 hk1 e32 e33 e34 e35 => ?_)
  have eD1 : m1.1 0 6 = nI D := by rw [hk1.1]; exact g11
  refine dx_blk 0 (c' := (4, [.ref 0, .null, .null, .null, .null, .null, .null, .null, .null, .null, .null], [], m1)) rfl ?_
  refine dx_blk 1 (c' := (5, [.ref 0, .null, .null, .null, .null, .null, .null, .null, .null, .null, .null], [.ref 0], m1)) rfl ?_
  refine dx_call (id := 129) (as := [.ref 0]) (rest := []) rfl ?_
  refine sX4_lean _ g7 eD1 ((hk1.2.2 21 (by decide)).trans ea) e33 e32 ?_
  refine dx_blk 0 (c' := (8, [.ref 0, .null, .null, .null, .null, .null, .null, .null, .null, .null, .null], [.long (lZ (2 * (wa tn * Q) - 2 * ((pwX op w r p Q) * D)))], m1)) rfl ?_
  refine dx_blk 2 (c' := (10, [.ref 0, .null, .null, .null, .null, .null, .null, .null, .null, .null, .null], [.int (lg_cmp (lZ (2 * (wa tn * Q) - 2 * ((pwX op w r p Q) * D))) 0)], m1)) rfl ?_
  refine dx_brQ (q := (lg_cmp (lZ (2 * (wa tn * Q) - 2 * ((pwX op w r p Q) * D))) 0) = 0) (a := 15) (b := 13) (L := [.ref 0, .null, .null, .null, .null, .null, .null, .null, .null, .null, .null]) (st := []) (m := m1) (lc_eq _ _) rfl (fun q10 => ?_) (fun q10 => ?_)
  · have q5 : leT op w r D p Q (wa tn) = 0 := by
      have e := (lZ_eqB (bd_sub (bd_mul (show (2 : Int).natAbs ≤ 2 by decide) (bd_mul w3 (show Q.natAbs ≤ 240 by omega))) (bd_mul (show (2 : Int).natAbs ≤ 2 by decide) (bd_mul (pwX_bd a2 (by omega) h0 h2 h3) (bd_n g7)))) (show (0 : Int).natAbs ≤ 0 by decide) (by decide) (by decide)).mp q10
      unfold leT leZ
      rw [if_pos (by omega)]
    refine dx_blk 1 (c' := (16, [.ref 0, .null, .null, .null, .null, .null, .null, .null, .null, .null, .null], [.ref 0], m1)) rfl ?_
    refine dx_call (id := 132) (as := [.ref 0]) (rest := []) rfl ?_
    refine sX4_leastBreadth _ hr (keepP_A hk1 hA) (fun m2 hk2 hm2 e36 e37 => ?_)
    have eD2 : (m2.1 0 6).toInt64 = lZ D := by rw [hk2.2.1, eD1, lZ_n (by omega)]
    have u22 : m2.2 0 22 = lZ (wu tn) := (hk2.2.2 22 (by decide)).trans ((hk1.2.2 22 (by decide)).trans eu)
    have u35 : m2.2 0 35 = lZ (2 * Q * Q) := (hk2.2.2 35 (by decide)).trans e35
    have u34 : m2.2 0 34 = lZ (pwY op w r p Q) := (hk2.2.2 34 (by decide)).trans e34
    refine dx_blk 0 (c' := (19, [.ref 0, .null, .null, .null, .null, .null, .null, .null, .null, .null, .null], [], m2)) rfl ?_
    refine dx_blk 24 (c' := (59, [.ref 0, .long (((m2.2 0 22) * (m2.2 0 35)) - ((2 * ((m2.1 0 6).toInt64)) * (m2.2 0 34))), .null, .long ((2 * ((m2.1 0 6).toInt64)) * (m2.2 0 35)), .null, .null, .null, .null, .null, .null, .null], [], m2)) rfl ?_
    rw [eD2, u22, u35, u34, show (2 : Int64) = lZ 2 from rfl, lZ_mul, lZ_mul, lZ_mul, lZ_sub, lZ_mul]
    refine dx_blk 2 (c' := (61, [.ref 0, .long (lZ (upM op w r D p Q (wu tn))), .null, .long (lZ (loM D Q)), .null, .null, .null, .null, .null, .null, .null], [.long (lZ (loM D Q)), .long (lZ (upM op w r D p Q (wu tn)))], m2)) rfl ?_
    refine dx_call (id := 86) (as := [.long (lZ (upM op w r D p Q (wu tn))), .long (lZ (loM D Q))]) (rest := []) rfl ?_
    have tl : tlP (upM op w r D p Q (wu tn)) (loM D Q) := tl_of (upM_bd a2 (by omega) g7 h0 h2 h3 w4) (loM_bd g7 (by omega) h3) (loM_pos g6 (by omega)) (by decide) (by decide)
    have g0 := gN_pos (u := (upM op w r D p Q (wu tn))) tl.2.2.1
    have gg := gN_le (u := (upM op w r D p Q (wu tn))) tl.2.2.1
    have gl := tl.2.2.2
    have gn : ¬ lZ ((gN (upM op w r D p Q (wu tn)) (loM D Q)) : Nat) = 0 := lZ_n0 (by omega) (by omega)
    refine sX4_gcd tl _ ?_
    refine dx_blk 0 (c' := (64, [.ref 0, .long (lZ (upM op w r D p Q (wu tn))), .null, .long (lZ (loM D Q)), .null, .null, .null, .null, .null, .null, .null], [.long (lZ ((gN (upM op w r D p Q (wu tn)) (loM D Q)) : Nat))], m2)) rfl ?_
    refine dx_blk 5 (c' := (73, [.ref 0, .long (lZ (upM op w r D p Q (wu tn))), .null, .long (lZ (loM D Q)), .null, .long (lZ ((gN (upM op w r D p Q (wu tn)) (loM D Q)) : Nat)), .null, .null, .null, .null, .null], [.long (lZ ((gN (upM op w r D p Q (wu tn)) (loM D Q)) : Nat)), .long (lZ (loM D Q)), .long (m2.2 0 36)], m2)) rfl ?_
    refine dx_step (c' := (74, [.ref 0, .long (lZ (upM op w r D p Q (wu tn))), .null, .long (lZ (loM D Q)), .null, .long (lZ ((gN (upM op w r D p Q (wu tn)) (loM D Q)) : Nat)), .null, .null, .null, .null, .null], [.long ((lZ (loM D Q)) / (lZ ((gN (upM op w r D p Q (wu tn)) (loM D Q)) : Nat))), .long (m2.2 0 36)], m2)) (if_pos gn) ?_
    refine dx_blk 4 (c' := (80, [.ref 0, .long (lZ (upM op w r D p Q (wu tn))), .null, .long (lZ (loM D Q)), .null, .long (lZ ((gN (upM op w r D p Q (wu tn)) (loM D Q)) : Nat)), .null, .long ((m2.2 0 36) * ((lZ (loM D Q)) / (lZ ((gN (upM op w r D p Q (wu tn)) (loM D Q)) : Nat)))), .null, .null, .null], [.long (lZ ((gN (upM op w r D p Q (wu tn)) (loM D Q)) : Nat)), .long (lZ (upM op w r D p Q (wu tn)))], m2)) rfl ?_
    refine dx_step (c' := (81, [.ref 0, .long (lZ (upM op w r D p Q (wu tn))), .null, .long (lZ (loM D Q)), .null, .long (lZ ((gN (upM op w r D p Q (wu tn)) (loM D Q)) : Nat)), .null, .long ((m2.2 0 36) * ((lZ (loM D Q)) / (lZ ((gN (upM op w r D p Q (wu tn)) (loM D Q)) : Nat)))), .null, .null, .null], [.long ((lZ (upM op w r D p Q (wu tn))) / (lZ ((gN (upM op w r D p Q (wu tn)) (loM D Q)) : Nat)))], m2)) (if_pos gn) ?_
    refine dx_blk 4 (c' := (88, [.ref 0, .long (lZ (upM op w r D p Q (wu tn))), .null, .long (lZ (loM D Q)), .null, .long (lZ ((gN (upM op w r D p Q (wu tn)) (loM D Q)) : Nat)), .null, .long ((m2.2 0 36) * ((lZ (loM D Q)) / (lZ ((gN (upM op w r D p Q (wu tn)) (loM D Q)) : Nat)))), .null, .long (((lZ (upM op w r D p Q (wu tn))) / (lZ ((gN (upM op w r D p Q (wu tn)) (loM D Q)) : Nat))) * (m2.2 0 37)), .null], [], m2)) rfl ?_
    rw [e36, e37, lZ_div (u := (loM D Q)) (by have := tl.2.2.1; omega) (by omega) (by omega), lZ_div tl.1 tl.2.1 (by omega), lZ_mul, lZ_mul]
    refine dx_blk 3 (c' := (93, [.ref 0, .long (lZ (upM op w r D p Q (wu tn))), .null, .long (lZ (loM D Q)), .null, .long (lZ ((gN (upM op w r D p Q (wu tn)) (loM D Q)) : Nat)), .null, .long (lZ (brU op w h r p Q * (loM D Q).tdiv (gN (upM op w r D p Q (wu tn)) (loM D Q)))), .null, .long (lZ ((upM op w r D p Q (wu tn)).tdiv (gN (upM op w r D p Q (wu tn)) (loM D Q)) * brL op w h r p Q)), .null], [.int (lg_cmp (lZ (brU op w h r p Q * (loM D Q).tdiv (gN (upM op w r D p Q (wu tn)) (loM D Q)))) (lZ ((upM op w r D p Q (wu tn)).tdiv (gN (upM op w r D p Q (wu tn)) (loM D Q)) * brL op w h r p Q)))], m2)) rfl ?_
    refine dx_brQ (q := (lg_cmp (lZ (brU op w h r p Q * (loM D Q).tdiv (gN (upM op w r D p Q (wu tn)) (loM D Q)))) (lZ ((upM op w r D p Q (wu tn)).tdiv (gN (upM op w r D p Q (wu tn)) (loM D Q)) * brL op w h r p Q))) ≤ 0) (a := 100) (b := 96) (L := [.ref 0, .long (lZ (upM op w r D p Q (wu tn))), .null, .long (lZ (loM D Q)), .null, .long (lZ ((gN (upM op w r D p Q (wu tn)) (loM D Q)) : Nat)), .null, .long (lZ (brU op w h r p Q * (loM D Q).tdiv (gN (upM op w r D p Q (wu tn)) (loM D Q)))), .null, .long (lZ ((upM op w r D p Q (wu tn)).tdiv (gN (upM op w r D p Q (wu tn)) (loM D Q)) * brL op w h r p Q)), .null]) (st := []) (m := m2) (lc_le _ _) rfl (fun q93 => ?_) (fun q93 => ?_)
    · refine dx_blk 3 (c' := (105, [.ref 0, .long (lZ (upM op w r D p Q (wu tn))), .null, .long (lZ (loM D Q)), .null, .long (lZ ((gN (upM op w r D p Q (wu tn)) (loM D Q)) : Nat)), .null, .long (lZ (brU op w h r p Q * (loM D Q).tdiv (gN (upM op w r D p Q (wu tn)) (loM D Q)))), .null, .long (lZ ((upM op w r D p Q (wu tn)).tdiv (gN (upM op w r D p Q (wu tn)) (loM D Q)) * brL op w h r p Q)), .null], [.int (lg_cmp (lZ (brU op w h r p Q * (loM D Q).tdiv (gN (upM op w r D p Q (wu tn)) (loM D Q)))) (lZ ((upM op w r D p Q (wu tn)).tdiv (gN (upM op w r D p Q (wu tn)) (loM D Q)) * brL op w h r p Q)))], m2)) rfl ?_
      refine dx_brQ (q := (lg_cmp (lZ (brU op w h r p Q * (loM D Q).tdiv (gN (upM op w r D p Q (wu tn)) (loM D Q)))) (lZ ((upM op w r D p Q (wu tn)).tdiv (gN (upM op w r D p Q (wu tn)) (loM D Q)) * brL op w h r p Q))) = 0) (a := 108) (b := 112) (L := [.ref 0, .long (lZ (upM op w r D p Q (wu tn))), .null, .long (lZ (loM D Q)), .null, .long (lZ ((gN (upM op w r D p Q (wu tn)) (loM D Q)) : Nat)), .null, .long (lZ (brU op w h r p Q * (loM D Q).tdiv (gN (upM op w r D p Q (wu tn)) (loM D Q)))), .null, .long (lZ ((upM op w r D p Q (wu tn)).tdiv (gN (upM op w r D p Q (wu tn)) (loM D Q)) * brL op w h r p Q)), .null]) (st := []) (m := m2) (lc_eq _ _) rfl (fun q105 => ?_) (fun q105 => ?_)
      · refine dx_blk 2 (c' := (113, [.ref 0, .long (lZ (upM op w r D p Q (wu tn))), .null, .long (lZ (loM D Q)), .null, .long (lZ ((gN (upM op w r D p Q (wu tn)) (loM D Q)) : Nat)), .null, .long (lZ (brU op w h r p Q * (loM D Q).tdiv (gN (upM op w r D p Q (wu tn)) (loM D Q)))), .null, .long (lZ ((upM op w r D p Q (wu tn)).tdiv (gN (upM op w r D p Q (wu tn)) (loM D Q)) * brL op w h r p Q)), .null], [.int 1], m2)) rfl ?_
        exact dx_ret (r := some (.int 1)) rfl (by
    rw [lZ_leB (bd_mul (br_bd (op := op) (h := h) (r := r) (p := p) (Q := Q) a2).1 (bd_td (loM_bd g7 (by omega) h3))) (bd_mul (bd_td (upM_bd a2 (by omega) g7 h0 h2 h3 w4)) (show (brL op w h r p Q).natAbs ≤ 144 by have := (br_bd (op := op) (h := h) (r := r) (p := p) (Q := Q) a2).2; omega)) (by decide) (by decide)] at q93
    rw [lZ_eqB (bd_mul (br_bd (op := op) (h := h) (r := r) (p := p) (Q := Q) a2).1 (bd_td (loM_bd g7 (by omega) h3))) (bd_mul (bd_td (upM_bd a2 (by omega) g7 h0 h2 h3 w4)) (show (brL op w h r p Q).natAbs ≤ 144 by have := (br_bd (op := op) (h := h) (r := r) (p := p) (Q := Q) a2).2; omega)) (by decide) (by decide)] at q105
    have e : hoT op w h r D p Q (wa tn) (wu tn) = 1 := by unfold hoT; rw [if_pos q5, ← hoM (loM_pos g6 (by omega))]; exact (by unfold hoZ; rw [if_neg (by omega), if_pos q105])
    have hz := h1 m2 (⟨keepM_tr (keepP_L hk1).1 hk2.1.1, WM_B hm2⟩ : kG m m2)
    rw [e] at hz; exact hz)
      · refine dx_blk 1 (c' := (113, [.ref 0, .long (lZ (upM op w r D p Q (wu tn))), .null, .long (lZ (loM D Q)), .null, .long (lZ ((gN (upM op w r D p Q (wu tn)) (loM D Q)) : Nat)), .null, .long (lZ (brU op w h r p Q * (loM D Q).tdiv (gN (upM op w r D p Q (wu tn)) (loM D Q)))), .null, .long (lZ ((upM op w r D p Q (wu tn)).tdiv (gN (upM op w r D p Q (wu tn)) (loM D Q)) * brL op w h r p Q)), .null], [.int 0], m2)) rfl ?_
        exact dx_ret (r := some (.int 0)) rfl (by
    rw [lZ_leB (bd_mul (br_bd (op := op) (h := h) (r := r) (p := p) (Q := Q) a2).1 (bd_td (loM_bd g7 (by omega) h3))) (bd_mul (bd_td (upM_bd a2 (by omega) g7 h0 h2 h3 w4)) (show (brL op w h r p Q).natAbs ≤ 144 by have := (br_bd (op := op) (h := h) (r := r) (p := p) (Q := Q) a2).2; omega)) (by decide) (by decide)] at q93
    rw [lZ_eqB (bd_mul (br_bd (op := op) (h := h) (r := r) (p := p) (Q := Q) a2).1 (bd_td (loM_bd g7 (by omega) h3))) (bd_mul (bd_td (upM_bd a2 (by omega) g7 h0 h2 h3 w4)) (show (brL op w h r p Q).natAbs ≤ 144 by have := (br_bd (op := op) (h := h) (r := r) (p := p) (Q := Q) a2).2; omega)) (by decide) (by decide)] at q105
    have e : hoT op w h r D p Q (wa tn) (wu tn) = 0 := by unfold hoT; rw [if_pos q5, ← hoM (loM_pos g6 (by omega))]; exact (by unfold hoZ; rw [if_neg (by omega), if_neg q105])
    have hz := h1 m2 (⟨keepM_tr (keepP_L hk1).1 hk2.1.1, WM_B hm2⟩ : kG m m2)
    rw [e] at hz; exact hz)
    · refine dx_blk 2 (c' := (113, [.ref 0, .long (lZ (upM op w r D p Q (wu tn))), .null, .long (lZ (loM D Q)), .null, .long (lZ ((gN (upM op w r D p Q (wu tn)) (loM D Q)) : Nat)), .null, .long (lZ (brU op w h r p Q * (loM D Q).tdiv (gN (upM op w r D p Q (wu tn)) (loM D Q)))), .null, .long (lZ ((upM op w r D p Q (wu tn)).tdiv (gN (upM op w r D p Q (wu tn)) (loM D Q)) * brL op w h r p Q)), .null], [.int 2], m2)) rfl ?_
      exact dx_ret (r := some (.int 2)) rfl (by
    rw [lZ_leB (bd_mul (br_bd (op := op) (h := h) (r := r) (p := p) (Q := Q) a2).1 (bd_td (loM_bd g7 (by omega) h3))) (bd_mul (bd_td (upM_bd a2 (by omega) g7 h0 h2 h3 w4)) (show (brL op w h r p Q).natAbs ≤ 144 by have := (br_bd (op := op) (h := h) (r := r) (p := p) (Q := Q) a2).2; omega)) (by decide) (by decide)] at q93
    have e : hoT op w h r D p Q (wa tn) (wu tn) = 2 := by unfold hoT; rw [if_pos q5, ← hoM (loM_pos g6 (by omega))]; exact (by unfold hoZ; rw [if_pos (by omega)])
    have hz := h1 m2 (⟨keepM_tr (keepP_L hk1).1 hk2.1.1, WM_B hm2⟩ : kG m m2)
    rw [e] at hz; exact hz)
  · refine dx_blk 1 (c' := (14, [.ref 0, .null, .null, .null, .null, .null, .null, .null, .null, .null, .null], [.int 0], m1)) rfl ?_
    exact dx_ret (r := some (.int 0)) rfl (by
    have e : hoT op w h r D p Q (wa tn) (wu tn) = 0 := by
      unfold hoT
      rw [if_neg]
      unfold leT leZ
      intro z
      refine q10 (show lZ _ = lZ 0 from congrArg lZ ?_)
      by_cases q : wa tn * Q = (pwX op w r p Q) * D
      · omega
      · rw [if_neg q] at z
        by_cases q3 : wa tn * Q < (pwX op w r p Q) * D
        · rw [if_pos q3] at z; exact absurd z (by decide)
        · rw [if_neg q3] at z; exact absurd z (by decide)
    have hz := h1 m1 (keepP_G hk1 g19)
    rw [e] at hz; exact hz)
