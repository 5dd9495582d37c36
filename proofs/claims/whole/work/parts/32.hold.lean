/-! the class's questions (printed by wip/whole/g32.py) -/
theorem bd_mul {a b : Int} {A B : Nat} (h1 : a.natAbs ≤ A) (h2 : b.natAbs ≤ B) : (a * b).natAbs ≤ A * B := by rw [Int.natAbs_mul]; exact Nat.mul_le_mul h1 h2
theorem bd_add {a b : Int} {A B : Nat} (h1 : a.natAbs ≤ A) (h2 : b.natAbs ≤ B) : (a + b).natAbs ≤ A + B := by omega
theorem bd_sub {a b : Int} {A B : Nat} (h1 : a.natAbs ≤ A) (h2 : b.natAbs ≤ B) : (a - b).natAbs ≤ A + B := by omega
theorem bd_n {n A : Nat} (h : n ≤ A) : (n : Int).natAbs ≤ A := by omega
theorem tl_of {u l : Int} {A B : Nat} (h : u.natAbs ≤ A) (h1 : l.natAbs ≤ B) (h0 : 0 < l) (hA : A ≤ 1152921504606846976) (hB : B ≤ 281474976710656) : tlP u l := ⟨by omega, by omega, h0, by omega⟩
theorem lZ_eqB {a b : Int} {A B : Nat} (h1 : a.natAbs ≤ A) (h2 : b.natAbs ≤ B) (hA : A ≤ 1152921504606846976) (hB : B ≤ 1152921504606846976) : lZ a = lZ b ↔ a = b := lZ_inj (by omega) (by omega) (by omega) (by omega)
theorem lZ_ltB {a b : Int} {A B : Nat} (h1 : a.natAbs ≤ A) (h2 : b.natAbs ≤ B) (hA : A ≤ 1152921504606846976) (hB : B ≤ 1152921504606846976) : lZ a < lZ b ↔ a < b := lZ_lt (by omega) (by omega) (by omega) (by omega)
theorem lZ_leB {a b : Int} {A B : Nat} (h1 : a.natAbs ≤ A) (h2 : b.natAbs ≤ B) (hA : A ≤ 1152921504606846976) (hB : B ≤ 1152921504606846976) : lZ a ≤ lZ b ↔ a ≤ b := by rw [fa_le64, lZ_to (by omega) (by omega), lZ_to (by omega) (by omega)]
noncomputable def pwX (op : Nat → Nat → Bool) (w r : Nat) (p Q : Int) : Int := sXN op w r * Q + rXN op w r * p
noncomputable def pwY (op : Nat → Nat → Bool) (w r : Nat) (p Q : Int) : Int := sYN op w r * Q * Q + fA op w r * p * ((2 * r : Nat) * Q + p)
theorem sX_le (op : Nat → Nat → Bool) {w r : Nat} (hw : w ≤ 12) (hr : r < 12) : sXN op w r ≤ 3600 := by
  have h := fb_sm_bound (f := fun y => hvS (fmB op w r y) w) (c := 300) (n := r) (fun k _ => hvS_le hw)
  unfold sXN
  omega
theorem sY_le (op : Nat → Nat → Bool) {w r : Nat} (hw : w ≤ 12) (hr : r < 12) : sYN op w r ≤ 3600 := by
  have h := fb_sm_bound (f := fun y => fb_ct (fmB op w r y) w * (2 * y + 1)) (c := 300) (n := r) (fun k hk => by
    have h1 := fb_ct_le (fmB op w r k) w
    exact Nat.le_trans (Nat.mul_le_mul (show fb_ct (fmB op w r k) w ≤ 12 by omega) (show 2 * k + 1 ≤ 25 by omega)) (by decide))
  unfold sYN
  omega
theorem rX_le (op : Nat → Nat → Bool) {w : Nat} (r : Nat) (hw : w ≤ 12) : rXN op w r ≤ 300 := hvS_le hw
theorem pwX_bd {op : Nat → Nat → Bool} {w r : Nat} {p Q : Int} (hw : w ≤ 12) (hr : r < 12) (h0 : 0 < p) (h1 : p ≤ Q) (h2 : Q ≤ 240) : (pwX op w r p Q).natAbs ≤ 3600 * 240 + 300 * 240 :=
  bd_add (bd_mul (bd_n (sX_le op hw hr)) (by omega)) (bd_mul (bd_n (rX_le op r hw)) (by omega))
theorem pwY_bd {op : Nat → Nat → Bool} {w r : Nat} {p Q : Int} (hw : w ≤ 12) (hr : r < 12) (h0 : 0 < p) (h1 : p ≤ Q) (h2 : Q ≤ 240) : (pwY op w r p Q).natAbs ≤ 3600 * 240 * 240 + 12 * 240 * (24 * 240 + 240) :=
  bd_add (bd_mul (bd_mul (bd_n (sY_le op hw hr)) (by omega)) (by omega)) (bd_mul (bd_mul (bd_n (fA_le op r hw)) (by omega)) (bd_add (bd_mul (bd_n (by omega)) (by omega)) (by omega)))
theorem bU_bd {op : Nat → Nat → Bool} {w r : Nat} (hw : w ≤ 12) : (bUZ op w r).natAbs ≤ 4 * 12 * 6000 + 3 * 300 * 300 :=
  bd_sub (bd_mul (bd_mul (by decide) (bd_n (fA_le op r hw))) (bd_n (thS_le hw))) (bd_mul (bd_mul (by decide) (bd_n (rX_le op r hw))) (bd_n (rX_le op r hw)))
theorem bL_bd {op : Nat → Nat → Bool} {w r : Nat} (hw : w ≤ 12) : 0 < bLZ op w r ∧ bLZ op w r ≤ 144 := by
  have := fA_le op r hw
  unfold bLZ
  by_cases q : fA op w r = 0
  · rw [if_pos q]; decide
  · rw [if_neg q]; omega
theorem br_bd {op : Nat → Nat → Bool} {w h r : Nat} {p Q : Int} (hw : w ≤ 12) : (brU op w h r p Q).natAbs ≤ 4 * 12 * 6000 + 3 * 300 * 300 ∧ 0 < brL op w h r p Q ∧ brL op w h r p Q ≤ 144 := by
  by_cases q : brB op w h r p Q
  · rw [(brU_t q).1, (brU_t q).2]; exact ⟨bU_bd hw, bL_bd hw⟩
  · rw [(brU_f q).1, (brU_f q).2]; exact ⟨bU_bd hw, bL_bd hw⟩
def leZ (a b : Int) : Int32 := if a = b then 0 else if a < b then 1 else 2
def hoZ (a b : Int) : Int32 := if b < a then 2 else if a = b then 1 else 0
theorem cm_ho {a b : Int} {A B : Nat} (h1 : a.natAbs ≤ A) (h2 : b.natAbs ≤ B) (hA : A ≤ 1152921504606846976) (hB : B ≤ 1152921504606846976) : (cmL (lZ a) (lZ b) ≤ 0 ↔ ¬ hoZ a b = 2) ∧ (cmL (lZ a) (lZ b) = 0 ↔ hoZ a b = 1) := by
  unfold cmL hoZ
  have e1 := lZ_ltB h1 h2 hA hB
  have e2 := lZ_eqB h1 h2 hA hB
  rcases Int.lt_trichotomy a b with q | q | q
  · rw [if_pos (e1.mpr q), if_neg (by omega), if_neg (by omega)]; decide
  · rw [if_neg (fun z => by have := e1.mp z; omega), if_pos (e2.mpr q), if_neg (by omega), if_pos q]; decide
  · rw [if_neg (fun z => by have := e1.mp z; omega), if_neg (fun z => by have := e2.mp z; omega), if_pos q]; decide
theorem hoZ_0 {a b : Int} (h : ¬ hoZ a b = 2) (h2 : ¬ hoZ a b = 1) : hoZ a b = 0 := by
  unfold hoZ at *
  by_cases q : b < a
  · rw [if_pos q] at h; exact absurd rfl h
  · rw [if_neg q] at h h2 ⊢
    by_cases q2 : a = b
    · rw [if_pos q2] at h2; exact absurd rfl h2
    · rw [if_neg q2]
noncomputable def leT (op : Nat → Nat → Bool) (w r D : Nat) (p Q wa : Int) : Int32 := leZ (wa * Q) (pwX op w r p Q * D)
noncomputable def hoA (op : Nat → Nat → Bool) (w h r D : Nat) (p Q : Int) : Int := brU op w h r p Q * 2 * D * (Q * Q)
noncomputable def hoB (op : Nat → Nat → Bool) (w h r D : Nat) (p Q wu : Int) : Int := (wu * (Q * Q) - pwY op w r p Q * D) * brL op w h r p Q
noncomputable def hoT (op : Nat → Nat → Bool) (w h r D : Nat) (p Q wa wu : Int) : Int32 := if leT op w r D p Q wa = 0 then hoZ (hoA op w h r D p Q) (hoB op w h r D p Q wu) else 0
theorem hoA_bd {op : Nat → Nat → Bool} {w h r D : Nat} {p Q : Int} (hw : w ≤ 12) (hD : D ≤ 20) (h0 : 0 < p) (h1 : p ≤ Q) (h2 : Q ≤ 240) : (hoA op w h r D p Q).natAbs ≤ (4 * 12 * 6000 + 3 * 300 * 300) * 2 * 20 * (240 * 240) :=
  bd_mul (bd_mul (bd_mul (br_bd hw).1 (by decide)) (bd_n hD)) (bd_mul (by omega) (by omega))
theorem hoB_bd {op : Nat → Nat → Bool} {w h r D : Nat} {p Q wu : Int} (hw : w ≤ 12) (hr : r < 12) (hD : D ≤ 20) (h0 : 0 < p) (h1 : p ≤ Q) (h2 : Q ≤ 240) (hu : wu.natAbs ≤ 200000) : (hoB op w h r D p Q wu).natAbs ≤ (200000 * (240 * 240) + (3600 * 240 * 240 + 12 * 240 * (24 * 240 + 240)) * 20) * 144 :=
  bd_mul (bd_sub (bd_mul hu (bd_mul (by omega) (by omega))) (bd_mul (pwY_bd hw hr h0 h1 h2) (bd_n hD))) (by have := (br_bd (op := op) (h := h) (r := r) (p := p) (Q := Q) hw).2; omega)
theorem sX3_tellE {d : Nat} (m : dx_M) {u l : Int} {a b : Int64} (ea : a = lZ u) (eb : b = lZ l) (ht : tlP u l) {Z : Option Value → dx_M → Prop} (h : Z (some (.int 1)) (dx_pL (dx_pL m 0 9 (tU u l)) 0 10 (tL u l))) : dx_Sem dx_P lx_X (d + 2) 71 [.ref 0, .long a, .long b] m Z := by
  subst ea; subst eb
  exact sX3_tell m ht h
set_option maxRecDepth 20000 in
theorem sX3_leaning {d : Nat} (m : dx_M) {f : Nat → Int32} {W H E D Wt sq : Nat} {wa wu : Nat → Int} (hg : GX m f W H E D Wt sq wa wu) {Z : Option Value → dx_M → Prop} {op : Nat → Nat → Bool} {w h r tn : Nat} {p Q : Int} (hr : r < h) (htn : tn < 4) (hA : AX m op w h r p Q) (h0 : 0 < p) (h2 : p ≤ Q) (h3 : Q ≤ 240) (h1 : Z (some (.int (leT op w r D p Q (wa tn)))) m) : dx_Sem dx_P lx_X (d + 4) 78 [.ref 0, .int (nI tn)] m Z := by
  obtain ⟨g1, g2, g3, g4, g5, g6, g7, g8, g9, g10, g11, g12, g13, g14, g15, g16, g17⟩ := id hg
  have hE := g5
  have eE := g10
  have hW := g2
  have hH := g4
  have eW := g8
  have eH := g9
  obtain ⟨a1, a2, a3, a4, a5, a6, a7, a8, a9⟩ := id hA.1.1
  obtain ⟨w1, w2, w3, w4⟩ := g17 tn htn
  have eD : (m.1 0 6).toInt64 = lZ D := by rw [g11, lZ_n (by omega)]
  refine dx_sem km_X3_leaning rfl rfl ?_
  refine dx_blk 0 (c' := (0, [.ref 0, .int (nI tn), .null, .null, .null, .null], [], m)) rfl ?_
  refine dx_blk 2 (c' := (4, [.ref 0, .int (nI tn), .null, .null, .null, .null], [.ref 3], m)) rfl ?_
  refine dx_call (id := 20) (as := [.ref 3]) (rest := []) rfl ?_
  refine sX1_momentAcross _ hA.1 hA.2.1 hA.2.2 ?_
  refine dx_blk 0 (c' := (7, [.ref 0, .int (nI tn), .null, .null, .null, .null], [.long (lZ (pwX op w r p Q))], m)) rfl ?_
  refine dx_blk 7 (c' := (16, [.ref 0, .int (nI tn), .long ((lZ (pwX op w r p Q)) * ((m.1 0 6).toInt64)), .null, .null, .null], [.int (nI tn), .ref 0], m)) rfl ?_
  refine dx_call (id := 76) (as := [.ref 0, .int (nI tn)]) (rest := []) rfl ?_
  refine sX3_weightAcross _ hW hH eW eH hE eE _ ?_
  rw [w1]
  refine dx_blk 0 (c' := (19, [.ref 0, .int (nI tn), .long ((lZ (pwX op w r p Q)) * ((m.1 0 6).toInt64)), .null, .null, .null], [.long (lZ (wa tn))], m)) rfl ?_
  refine dx_blk 5 (c' := (29, [.ref 0, .int (nI tn), .long ((lZ (pwX op w r p Q)) * ((m.1 0 6).toInt64)), .null, .long ((lZ (wa tn)) * (m.2 3 8)), .null], [], m)) rfl ?_
  rw [eD, hA.2.2, lZ_mul, lZ_mul]
  refine dx_blk 3 (c' := (33, [.ref 0, .int (nI tn), .long (lZ (pwX op w r p Q * D)), .null, .long (lZ (wa tn * Q)), .null], [.int (lg_cmp (lZ (wa tn * Q)) (lZ (pwX op w r p Q * D)))], m)) rfl ?_
  refine dx_brQ (q := (lg_cmp (lZ (wa tn * Q)) (lZ (pwX op w r p Q * D))) = 0) (a := 36) (b := 38) (L := [.ref 0, .int (nI tn), .long (lZ (pwX op w r p Q * D)), .null, .long (lZ (wa tn * Q)), .null]) (st := []) (m := m) (lc_eq _ _) rfl (fun q33 => ?_) (fun q33 => ?_)
  · refine dx_blk 1 (c' := (37, [.ref 0, .int (nI tn), .long (lZ (pwX op w r p Q * D)), .null, .long (lZ (wa tn * Q)), .null], [.int 0], m)) rfl ?_
    exact dx_ret (r := some (.int 0)) rfl (by
    rw [lZ_eqB (bd_mul w3 (show Q.natAbs ≤ 240 by omega)) (bd_mul (pwX_bd a2 (by omega) h0 h2 h3) (bd_n g7)) (by decide) (by decide)] at q33
    have e : leT op w r D p Q (wa tn) = 0 := by unfold leT leZ; rw [if_pos q33]
    rw [e] at h1; exact h1)
  · refine dx_blk 3 (c' := (42, [.ref 0, .int (nI tn), .long (lZ (pwX op w r p Q * D)), .null, .long (lZ (wa tn * Q)), .null], [.int (lg_cmp (lZ (wa tn * Q)) (lZ (pwX op w r p Q * D)))], m)) rfl ?_
    refine dx_brQ (q := 0 ≤ (lg_cmp (lZ (wa tn * Q)) (lZ (pwX op w r p Q * D)))) (a := 49) (b := 45) (L := [.ref 0, .int (nI tn), .long (lZ (pwX op w r p Q * D)), .null, .long (lZ (wa tn * Q)), .null]) (st := []) (m := m) (lc_ge _ _) rfl (fun q42 => ?_) (fun q42 => ?_)
    · refine dx_blk 1 (c' := (50, [.ref 0, .int (nI tn), .long (lZ (pwX op w r p Q * D)), .null, .long (lZ (wa tn * Q)), .null], [.int 2], m)) rfl ?_
      exact dx_ret (r := some (.int 2)) rfl (by
    rw [lZ_eqB (bd_mul w3 (show Q.natAbs ≤ 240 by omega)) (bd_mul (pwX_bd a2 (by omega) h0 h2 h3) (bd_n g7)) (by decide) (by decide)] at q33
    rw [lZ_leB (bd_mul (pwX_bd a2 (by omega) h0 h2 h3) (bd_n g7)) (bd_mul w3 (show Q.natAbs ≤ 240 by omega)) (by decide) (by decide)] at q42
    have e : leT op w r D p Q (wa tn) = 2 := by unfold leT leZ; rw [if_neg q33, if_neg (by omega)]
    rw [e] at h1; exact h1)
    · refine dx_blk 2 (c' := (50, [.ref 0, .int (nI tn), .long (lZ (pwX op w r p Q * D)), .null, .long (lZ (wa tn * Q)), .null], [.int 1], m)) rfl ?_
      exact dx_ret (r := some (.int 1)) rfl (by
    rw [lZ_eqB (bd_mul w3 (show Q.natAbs ≤ 240 by omega)) (bd_mul (pwX_bd a2 (by omega) h0 h2 h3) (bd_n g7)) (by decide) (by decide)] at q33
    rw [lZ_leB (bd_mul (pwX_bd a2 (by omega) h0 h2 h3) (bd_n g7)) (bd_mul w3 (show Q.natAbs ≤ 240 by omega)) (by decide) (by decide)] at q42
    have e : leT op w r D p Q (wa tn) = 1 := by unfold leT leZ; rw [if_neg q33, if_pos (by omega)]
    rw [e] at h1; exact h1)
set_option maxRecDepth 20000 in
theorem sX3_holding {d : Nat} (m : dx_M) {f : Nat → Int32} {W H E D Wt sq : Nat} {wa wu : Nat → Int} (hg : GX m f W H E D Wt sq wa wu) {Z : Option Value → dx_M → Prop} {op : Nat → Nat → Bool} {w h r tn : Nat} {p Q : Int} (hr : r < h) (htn : tn < 4) (hA : AX m op w h r p Q) (h0 : 0 < p) (h2 : p ≤ Q) (h3 : Q ≤ 240) (h1 : ∀ m', keepX m m' → Z (some (.int (hoT op w h r D p Q (wa tn) (wu tn)))) m') : dx_Sem dx_P lx_X (d + 6) 79 [.ref 0, .int (nI tn)] m Z := by
  obtain ⟨g1, g2, g3, g4, g5, g6, g7, g8, g9, g10, g11, g12, g13, g14, g15, g16, g17⟩ := id hg
  have hE := g5
  have eE := g10
  have hW := g2
  have hH := g4
  have eW := g8
  have eH := g9
  obtain ⟨a1, a2, a3, a4, a5, a6, a7, a8, a9⟩ := id hA.1.1
  obtain ⟨w1, w2, w3, w4⟩ := g17 tn htn
  have eD : (m.1 0 6).toInt64 = lZ D := by rw [g11, lZ_n (by omega)]
  refine dx_sem km_X3_holding rfl rfl ?_
  refine dx_blk 0 (c' := (0, [.ref 0, .int (nI tn), .null, .null, .null, .null, .null, .null, .null], [], m)) rfl ?_
  refine dx_blk 2 (c' := (2, [.ref 0, .int (nI tn), .null, .null, .null, .null, .null, .null, .null], [.int (nI tn), .ref 0], m)) rfl ?_
  refine dx_call (id := 78) (as := [.ref 0, .int (nI tn)]) (rest := []) rfl ?_
  refine sX3_leaning _ hg hr htn hA h0 h2 h3 ?_
  refine dx_blk 0 (c' := (5, [.ref 0, .int (nI tn), .null, .null, .null, .null, .null, .null, .null], [.int (leT op w r D p Q (wa tn))], m)) rfl ?_
  refine dx_br (q := (leT op w r D p Q (wa tn)) = 0) (a := 10) (b := 8) (L := [.ref 0, .int (nI tn), .null, .null, .null, .null, .null, .null, .null]) (st := []) (m := m) rfl (fun q5 => ?_) (fun q5 => ?_)
  · refine dx_blk 10 (c' := (28, [.ref 0, .int (nI tn), .long ((m.2 3 8) * (m.2 3 8)), .null, .null, .null, .null, .null, .null], [.int (nI tn), .ref 0], m)) rfl ?_
    refine dx_call (id := 77) (as := [.ref 0, .int (nI tn)]) (rest := []) rfl ?_
    refine sX3_weightUp _ hW hH eW eH hE eE _ ?_
    rw [w2]
    refine dx_blk 0 (c' := (31, [.ref 0, .int (nI tn), .long ((m.2 3 8) * (m.2 3 8)), .null, .null, .null, .null, .null, .null], [.long (lZ (wu tn))], m)) rfl ?_
    refine dx_blk 4 (c' := (37, [.ref 0, .int (nI tn), .long ((m.2 3 8) * (m.2 3 8)), .null, .null, .null, .null, .null, .null], [.ref 3, .long ((lZ (wu tn)) * ((m.2 3 8) * (m.2 3 8)))], m)) rfl ?_
    refine dx_call (id := 21) (as := [.ref 3]) (rest := [.long ((lZ (wu tn)) * ((m.2 3 8) * (m.2 3 8)))]) rfl ?_
    refine sX1_momentUp _ hA.1 hA.2.1 hA.2.2 ?_
    refine dx_blk 0 (c' := (40, [.ref 0, .int (nI tn), .long ((m.2 3 8) * (m.2 3 8)), .null, .null, .null, .null, .null, .null], [.long (lZ (pwY op w r p Q)), .long ((lZ (wu tn)) * ((m.2 3 8) * (m.2 3 8)))], m)) rfl ?_
    refine dx_blk 6 (c' := (49, [.ref 0, .int (nI tn), .long ((m.2 3 8) * (m.2 3 8)), .null, .long (((lZ (wu tn)) * ((m.2 3 8) * (m.2 3 8))) - ((lZ (pwY op w r p Q)) * ((m.1 0 6).toInt64))), .null, .null, .null, .null], [], m)) rfl ?_
    rw [eD, hA.2.2, lZ_mul, lZ_mul, lZ_mul, lZ_sub]
    refine dx_blk 2 (c' := (53, [.ref 0, .int (nI tn), .long (lZ (Q * Q)), .null, .long (lZ (wu tn * (Q * Q) - pwY op w r p Q * D)), .null, .null, .null, .null], [.ref 3], m)) rfl ?_
    refine dx_call (id := 22) (as := [.ref 3]) (rest := []) rfl ?_
    refine sX1_measureLine _ hA.1 hA.2.1 hA.2.2 (fun m2 hk2 e9 e10 => ?_)
    refine dx_blk 0 (c' := (56, [.ref 0, .int (nI tn), .long (lZ (Q * Q)), .null, .long (lZ (wu tn * (Q * Q) - pwY op w r p Q * D)), .null, .null, .null, .null], [], m2)) rfl ?_
    refine dx_blk 12 (c' := (77, [.ref 0, .int (nI tn), .long (lZ (Q * Q)), .null, .long (lZ (wu tn * (Q * Q) - pwY op w r p Q * D)), .null, .long ((((m2.2 3 9) * 2) * ((m2.1 0 6).toInt64)) * (lZ (Q * Q))), .null, .null], [], m2)) rfl ?_
    have eD2 : (m2.1 0 6).toInt64 = lZ D := by rw [(GX_keep hk2 hg).2.2.2.2.2.2.2.2.2.2.1, lZ_n (by omega)]
    rw [e9, eD2, show (2 : Int64) = lZ 2 from rfl, lZ_mul, lZ_mul, lZ_mul]
    refine dx_blk 6 (c' := (89, [.ref 0, .int (nI tn), .long (lZ (Q * Q)), .null, .long (lZ (wu tn * (Q * Q) - pwY op w r p Q * D)), .null, .long (lZ (hoA op w h r D p Q)), .null, .null], [.long ((lZ (wu tn * (Q * Q) - pwY op w r p Q * D)) * (m2.2 3 10)), .long (lZ (hoA op w h r D p Q))], m2)) rfl ?_
    refine dx_call (id := 144) (as := [.long (lZ (hoA op w h r D p Q)), .long ((lZ (wu tn * (Q * Q) - pwY op w r p Q * D)) * (m2.2 3 10))]) (rest := []) rfl ?_
    refine sJ13_compare _ _ _ ?_
    rw [e10, lZ_mul]
    refine dx_blk 0 (c' := (92, [.ref 0, .int (nI tn), .long (lZ (Q * Q)), .null, .long (lZ (wu tn * (Q * Q) - pwY op w r p Q * D)), .null, .long (lZ (hoA op w h r D p Q)), .null, .null], [.int (cmL (lZ (hoA op w h r D p Q)) (lZ (hoB op w h r D p Q (wu tn))))], m2)) rfl ?_
    refine dx_blk 2 (c' := (96, [.ref 0, .int (nI tn), .long (lZ (Q * Q)), .null, .long (lZ (wu tn * (Q * Q) - pwY op w r p Q * D)), .null, .long (lZ (hoA op w h r D p Q)), .null, .int (cmL (lZ (hoA op w h r D p Q)) (lZ (hoB op w h r D p Q (wu tn))))], [.int (cmL (lZ (hoA op w h r D p Q)) (lZ (hoB op w h r D p Q (wu tn))))], m2)) rfl ?_
    refine dx_br (q := (cmL (lZ (hoA op w h r D p Q)) (lZ (hoB op w h r D p Q (wu tn)))) ≤ 0) (a := 103) (b := 99) (L := [.ref 0, .int (nI tn), .long (lZ (Q * Q)), .null, .long (lZ (wu tn * (Q * Q) - pwY op w r p Q * D)), .null, .long (lZ (hoA op w h r D p Q)), .null, .int (cmL (lZ (hoA op w h r D p Q)) (lZ (hoB op w h r D p Q (wu tn))))]) (st := []) (m := m2) rfl (fun q96 => ?_) (fun q96 => ?_)
    · refine dx_blk 1 (c' := (105, [.ref 0, .int (nI tn), .long (lZ (Q * Q)), .null, .long (lZ (wu tn * (Q * Q) - pwY op w r p Q * D)), .null, .long (lZ (hoA op w h r D p Q)), .null, .int (cmL (lZ (hoA op w h r D p Q)) (lZ (hoB op w h r D p Q (wu tn))))], [.int (cmL (lZ (hoA op w h r D p Q)) (lZ (hoB op w h r D p Q (wu tn))))], m2)) rfl ?_
      refine dx_br (q := (cmL (lZ (hoA op w h r D p Q)) (lZ (hoB op w h r D p Q (wu tn)))) = 0) (a := 108) (b := 112) (L := [.ref 0, .int (nI tn), .long (lZ (Q * Q)), .null, .long (lZ (wu tn * (Q * Q) - pwY op w r p Q * D)), .null, .long (lZ (hoA op w h r D p Q)), .null, .int (cmL (lZ (hoA op w h r D p Q)) (lZ (hoB op w h r D p Q (wu tn))))]) (st := []) (m := m2) rfl (fun q105 => ?_) (fun q105 => ?_)
      · refine dx_blk 2 (c' := (113, [.ref 0, .int (nI tn), .long (lZ (Q * Q)), .null, .long (lZ (wu tn * (Q * Q) - pwY op w r p Q * D)), .null, .long (lZ (hoA op w h r D p Q)), .null, .int (cmL (lZ (hoA op w h r D p Q)) (lZ (hoB op w h r D p Q (wu tn))))], [.int 1], m2)) rfl ?_
        exact dx_ret (r := some (.int 1)) rfl (by
    have cm := cm_ho (hoA_bd (op := op) (h := h) (r := r) a2 g7 h0 h2 h3) (hoB_bd (op := op) (h := h) (r := r) a2 (by omega) g7 h0 h2 h3 w4) (by decide) (by decide)
    have e : hoT op w h r D p Q (wa tn) (wu tn) = 1 := by unfold hoT; rw [if_pos q5]; exact (cm.2.mp q105)
    have hz := h1 m2 hk2
    rw [e] at hz; exact hz)
      · refine dx_blk 1 (c' := (113, [.ref 0, .int (nI tn), .long (lZ (Q * Q)), .null, .long (lZ (wu tn * (Q * Q) - pwY op w r p Q * D)), .null, .long (lZ (hoA op w h r D p Q)), .null, .int (cmL (lZ (hoA op w h r D p Q)) (lZ (hoB op w h r D p Q (wu tn))))], [.int 0], m2)) rfl ?_
        exact dx_ret (r := some (.int 0)) rfl (by
    have cm := cm_ho (hoA_bd (op := op) (h := h) (r := r) a2 g7 h0 h2 h3) (hoB_bd (op := op) (h := h) (r := r) a2 (by omega) g7 h0 h2 h3 w4) (by decide) (by decide)
    have e : hoT op w h r D p Q (wa tn) (wu tn) = 0 := by unfold hoT; rw [if_pos q5]; exact (hoZ_0 (cm.1.mp q96) (fun z => q105 (cm.2.mpr z)))
    have hz := h1 m2 hk2
    rw [e] at hz; exact hz)
    · refine dx_blk 2 (c' := (113, [.ref 0, .int (nI tn), .long (lZ (Q * Q)), .null, .long (lZ (wu tn * (Q * Q) - pwY op w r p Q * D)), .null, .long (lZ (hoA op w h r D p Q)), .null, .int (cmL (lZ (hoA op w h r D p Q)) (lZ (hoB op w h r D p Q (wu tn))))], [.int 2], m2)) rfl ?_
      exact dx_ret (r := some (.int 2)) rfl (by
    have cm := cm_ho (hoA_bd (op := op) (h := h) (r := r) a2 g7 h0 h2 h3) (hoB_bd (op := op) (h := h) (r := r) a2 (by omega) g7 h0 h2 h3 w4) (by decide) (by decide)
    have e : hoT op w h r D p Q (wa tn) (wu tn) = 2 := by unfold hoT; rw [if_pos q5]; exact (by refine Classical.byContradiction (fun z => q96 (cm.1.mpr z)))
    have hz := h1 m2 hk2
    rw [e] at hz; exact hz)
  · refine dx_blk 1 (c' := (9, [.ref 0, .int (nI tn), .null, .null, .null, .null, .null, .null, .null], [.int 0], m)) rfl ?_
    exact dx_ret (r := some (.int 0)) rfl (by
    have e : hoT op w h r D p Q (wa tn) (wu tn) = 0 := by unfold hoT; rw [if_neg q5]
    have hz := h1 m (keepX_rf m)
    rw [e] at hz; exact hz)
