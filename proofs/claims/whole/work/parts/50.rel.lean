/-! both: the whole weight, the squares, the weights' moments (printed by wip/whole/g50.py) -/
def iZ (z : Int) : Int32 := Int32.ofInt z
theorem iZ_add (a b : Int) : iZ a + iZ b = iZ (a + b) := (Int32.ofInt_add a b).symm
theorem iZ_sub (a b : Int) : iZ a - iZ b = iZ (a - b) := (Int32.ofInt_sub a b).symm
theorem iZ_mul (a b : Int) : iZ a * iZ b = iZ (a * b) := (Int32.ofInt_mul a b).symm
theorem iZ_to {z : Int} (h1 : -2147483648 ≤ z) (h2 : z < 2147483648) : (iZ z).toInt = z := by
  unfold iZ
  rw [Int32.toInt_ofInt]
  exact Int.bmod_eq_of_le (by show -(2147483648 : Int) ≤ z; omega) (by show z < (2147483648 : Int); omega)
theorem iZ_n {n : Nat} (h : n < 2 ^ 31) : nI n = iZ n := by
  refine Int32.toInt_inj.mp ?_
  rw [nI_toInt h, iZ_to (by omega) (by omega)]
theorem iZ_L {z : Int} (h1 : -2147483648 ≤ z) (h2 : z < 2147483648) : (iZ z).toInt64 = lZ z := by rw [lZ_I, iZ_to h1 h2]
/-- a small whole number -/
def smI (v : Int32) (B : Nat) : Prop := ∃ z : Int, v = iZ z ∧ z.natAbs ≤ B
theorem sm_n {n B : Nat} (h : n ≤ B) (hB : B < 1000000) : smI (nI n) B := ⟨n, iZ_n (by omega), by omega⟩
theorem sm_mul {a b : Int32} {A B : Nat} (h1 : smI a A) (h2 : smI b B) : smI (a * b) (A * B) := by
  obtain ⟨x, rfl, hx⟩ := h1
  obtain ⟨y, rfl, hy⟩ := h2
  exact ⟨x * y, iZ_mul x y, bd_mul hx hy⟩
theorem sm_add {a b : Int32} {A B : Nat} (h1 : smI a A) (h2 : smI b B) : smI (a + b) (A + B) := by
  obtain ⟨x, rfl, hx⟩ := h1
  obtain ⟨y, rfl, hy⟩ := h2
  exact ⟨x + y, iZ_add x y, bd_add hx hy⟩
theorem sm_sub {a b : Int32} {A B : Nat} (h1 : smI a A) (h2 : smI b B) : smI (a - b) (A + B) := by
  obtain ⟨x, rfl, hx⟩ := h1
  obtain ⟨y, rfl, hy⟩ := h2
  exact ⟨x - y, iZ_sub x y, bd_sub hx hy⟩
theorem sm_le {a : Int32} {A B : Nat} (h1 : smI a A) (h : A ≤ B) : smI a B := by
  obtain ⟨x, rfl, hx⟩ := h1
  exact ⟨x, rfl, Nat.le_trans hx h⟩
def smL (v : Int64) (B : Nat) : Prop := ∃ z : Int, v = lZ z ∧ z.natAbs ≤ B
theorem smL_add {s : Int64} {v : Int32} {A B : Nat} (h1 : smL s A) (h2 : smI v B) (hB : B < 1000000) : smL (s + v.toInt64) (A + B) := by
  obtain ⟨x, rfl, hx⟩ := h1
  obtain ⟨y, rfl, hy⟩ := h2
  rw [iZ_L (by omega) (by omega), lZ_add]
  exact ⟨x + y, rfl, bd_add hx hy⟩
theorem smL_le {a : Int64} {A B : Nat} (h1 : smL a A) (h : A ≤ B) : smL a B := by
  obtain ⟨x, rfl, hx⟩ := h1
  exact ⟨x, rfl, Nat.le_trans hx h⟩
theorem smL_nf {f : Nat → Int64 → Int64} {c : Nat} : ∀ (n : Nat) {s : Int64} {A : Nat}, (∀ i s A, i < n → smL s A → smL (f i s) (A + c)) → smL s A → smL (nf f n s) (A + n * c)
  | 0, s, A, _, h => by rw [Nat.zero_mul]; exact h
  | n + 1, s, A, hs, h => by
    rw [nf_succ, Nat.succ_mul, ← Nat.add_assoc]
    exact hs n _ _ (Nat.lt_succ_self n) (smL_nf n (fun i s A hi => hs i s A (by omega)) h)
def smN (v : Int32) (B : Nat) : Prop := ∃ n : Nat, n ≤ B ∧ v = nI n
theorem smN_I {v : Int32} {B : Nat} (h : smN v B) (hB : B < 1000000) : smI v B := by
  obtain ⟨n, hn, rfl⟩ := h
  exact sm_n hn hB
theorem smN_sub {a b : Int32} {B : Nat} (h1 : smN a B) (h2 : smN b B) (hB : B < 1000000) : smI (a - b) B := by
  obtain ⟨x, hx, rfl⟩ := h1
  obtain ⟨y, hy, rfl⟩ := h2
  rw [iZ_n (by omega), iZ_n (by omega), iZ_sub]
  exact ⟨_, rfl, by omega⟩
theorem tr_sm {k : Nat} {a b p q : Int32} {B : Nat} (ha : smN a B) (hb : smN b B) (hp : smN p B) (hq : smN q B) (hB : B < 1000000) : smI (trA (nI k) a b p q) B ∧ smI (trU (nI k) a b p q) B := by
  unfold trA trU
  constructor
  · split
    · exact smN_sub hq hb hB
    · split
      · exact smN_sub hp ha hB
      · split
        · exact smN_I hb hB
        · exact smN_I ha hB
  · split
    · exact smN_I ha hB
    · split
      · exact smN_sub hq hb hB
      · split
        · exact smN_sub hp ha hB
        · exact smN_I hb hB
theorem mx0_sm {v : Int32} (h : sqP v) : smI (mx0 v) 20 := by
  unfold mx0
  rcases h with rfl | ⟨n, hn, rfl⟩
  · rw [if_pos (by decide)]; exact sm_n (n := 0) (by omega) (by omega)
  · rw [if_neg (by rw [fa_lt, nI_toInt (by omega)]; have e : (0 : Int32).toInt = 0 := rfl; omega)]; exact sm_n hn (by omega)
theorem one_sm : smI 1 1 := sm_n (n := 1) (by omega) (by omega)
theorem two_sm : smI 2 2 := sm_n (n := 2) (by omega) (by omega)
theorem cut_sm {tr : Int32 → Int32 → Int32} {f : Nat → Int32} {W H : Nat} (hW : W ≤ 12) (hH : H ≤ 12) (hq : ∀ c, c < 144 → sqP (f c)) (ht : ∀ x y, x < W → y < H → smI (tr (nI x) (nI y)) 11) : smL (cutW tr f W H) (0 + H * (W * (20 * (2 * 11 + 1)))) := by
  unfold cutW
  refine smL_nf H (fun y s A hy hs => ?_) ⟨0, rfl, by decide⟩
  refine smL_nf W (fun x s A hx hs => ?_) hs
  unfold stW
  exact smL_add hs (sm_mul (mx0_sm (hq _ (by omega))) (sm_add (sm_mul two_sm (ht x y hx hy)) one_sm)) (by omega)
theorem ld_sm {th : Nat → Bool} {wt v : Nat → Int32} {E A : Nat} {s : Int64} (hw : ∀ i, i < E → smI (wt i) 200) (hv : ∀ i, i < E → smI (v i) 44) (hs : smL s A) : smL (ldW th wt v E s) (A + E * (200 * 44)) := by
  unfold ldW
  refine smL_nf E (fun i s A hi hs => ?_) hs
  show smL (if th i = true then s + (wt i * v i).toInt64 else s) _
  by_cases q : th i = true
  · rw [if_pos q]; exact smL_add hs (sm_mul (hw i hi) (hv i hi)) (by omega)
  · rw [if_neg q]; exact smL_le hs (by omega)
theorem cnt_N (f : Nat → Int32) : ∀ n, nf (st_cnt f) n 0 = nI (fb_ct (fun i => decide (¬ f i = -9)) n)
  | 0 => rfl
  | n + 1 => by
    rw [nf_succ, cnt_N f n, fb_ct_succ]
    unfold st_cnt
    by_cases q : f n = -9
    · rw [if_pos q]; simp [q]
    · rw [if_neg q]; simp [q]; exact nI_1 _
theorem sum_N {f : Nat → Int32} : ∀ n, (∀ c, c < n → sqP (f c)) → ∃ S, nf (st_sum f) n 0 = nI S ∧ S ≤ n * 20
  | 0, _ => ⟨0, rfl, by omega⟩
  | n + 1, h => by
    obtain ⟨S, e, hS⟩ := sum_N n (fun c hc => h c (by omega))
    rw [nf_succ, e]
    unfold st_sum
    rcases h n (by omega) with q | ⟨k, hk, q⟩
    · rw [if_pos q]; exact ⟨S, nI_a0 S, by omega⟩
    · rw [if_neg (by rw [q]; intro z; have e2 := congrArg Int32.toInt z; rw [nI_toInt (by omega)] at e2; have e3 : (-9 : Int32).toInt = -9 := rfl; omega), q, nI_add]; exact ⟨S + k, rfl, by omega⟩
theorem all_N {th : Nat → Bool} {wt : Nat → Int32} {S : Nat} : ∀ n, (∀ c, c < n → ∃ k : Nat, k ≤ 200 ∧ wt c = nI k) → ∃ T, nf (st_ld th wt) n (nI S) = nI T ∧ T ≤ S + n * 200
  | 0, _ => ⟨S, rfl, by omega⟩
  | n + 1, h => by
    obtain ⟨T, e, hT⟩ := all_N (S := S) n (fun c hc => h c (by omega))
    obtain ⟨k, hk, q⟩ := h n (by omega)
    rw [nf_succ, e]
    unfold st_ld
    by_cases z : th n = true
    · rw [if_pos z, q, nI_add]; exact ⟨T + k, rfl, by omega⟩
    · rw [if_neg z]; exact ⟨T, nI_a0 T, by omega⟩
theorem in_sm {v M : Int32} {n : Nat} (hM : M.toInt = n) (hn : n < 1000) (h : inI v 0 M = true) : smI v n := by
  obtain ⟨j, hj, rfl⟩ := in_N hM h
  exact sm_n hj (by omega)
theorem smL_to {v : Int64} {B : Nat} (h : smL v B) (hB : B < 1000000000) : v.toInt.natAbs ≤ B := by
  obtain ⟨z, rfl, hz⟩ := h
  rw [lZ_to (by omega) (by omega)]
  exact hz
/-- THE RELATION of the two programs' memories -/
def RR (mx mm : dx_M) (W H E D : Nat) : Prop :=
  (1 ≤ W ∧ W ≤ 12 ∧ 1 ≤ H ∧ H ≤ 12 ∧ E ≤ 10 ∧ 1 ≤ D ∧ D ≤ 20) ∧
  (mx.1 1 1 = nI W ∧ mx.1 1 2 = nI H ∧ mx.1 0 7 = nI E ∧ mx.1 0 6 = nI D) ∧
  (mm.1 0 4 = nI W ∧ mm.1 0 5 = nI H ∧ mm.1 0 11 = nI E ∧ mm.1 0 6 = nI D) ∧
  (mx.1 2 = mm.1 2 ∧ ∀ c, c < 144 → sqP (mm.1 2 c)) ∧
  (∀ i, i < E → thX mx i = thM mm i ∧ mx.1 (10 + i) 1 = mm.1 6 i ∧ mx.1 (10 + i) 2 = mm.1 7 i ∧ mx.1 (10 + i) 3 = mm.1 8 i ∧ mx.1 (10 + i) 4 = mm.1 9 i ∧ mx.1 (10 + i) 5 = mm.1 10 i ∧ inI (mm.1 7 i) 0 24 = true ∧ inI (mm.1 8 i) 0 24 = true ∧ inI (mm.1 9 i) 0 200 = true ∧ inI (mm.1 10 i) 0 20 = true) ∧
  (∀ a, a < 6 → mx.1 8 a = mm.1 3 a ∧ szP (mm.1 3 a)) ∧
  (∀ a z j, a < 6 → mm.1 3 a = nI z → z ≤ 12 → j < z → mx.1 (20 + a) j = mm.1 4 (12 * a + j)) ∧
  (∀ a j, a < 6 → j < 12 → fits .byte (.int (mx.1 (20 + a) j)) = true) ∧
  (∀ c, c < 72 → (mm.1 4 c).toInt8.toInt32 = mm.1 4 c) ∧
  (∀ j, j < 6 → mx.1 9 j = mm.1 1 j) ∧
  (mx.1 0 8 = mm.1 0 0 ∧ mx.2 0 9 = mm.2 0 2 ∧ mx.2 0 10 = mm.2 0 3) ∧
  B13 mm
def RM (mx mm : dx_M) : Prop := ∃ W H E D, RR mx mm W H E D
theorem RR_all {mx mm : dx_M} {W H E D : Nat} (h : RR mx mm W H E D) : allX mx E = allM mm E ∧ (∀ t, wAX mx t W H E = wAM mm t W H E) ∧ (∀ t, wUX mx t W H E = wUM mm t W H E) ∧ n_ther (thX mx) E = n_ther (thM mm) E := by
  obtain ⟨-, -, -, ⟨r1, -⟩, r2, -⟩ := h
  refine ⟨?_, fun t => ?_, fun t => ?_, ?_⟩
  · show nf (st_ld (thX mx) (fun i => mx.1 (10 + i) 4)) E (n_sum (mx.1 2)) = nf (st_ld (thM mm) (mm.1 9)) E (n_sum (mm.1 2))
    rw [r1]
    refine nf_cong _ (fun i s hi => ?_)
    obtain ⟨e1, e2, e3, e4, e5, e6, -⟩ := r2 i hi
    show s + (if thX mx i = true then mx.1 (10 + i) 4 else 0) = s + (if thM mm i = true then mm.1 9 i else 0)
    rw [e1, e5]
  · show ldW _ _ _ E _ = ldW _ _ _ E _
    unfold ldW
    rw [r1]
    refine nf_cong _ (fun i s hi => ?_)
    obtain ⟨e1, e2, e3, e4, e5, e6, -⟩ := r2 i hi
    show (if thX mx i = true then s + (mx.1 (10 + i) 4 * trA t (mx.1 (10 + i) 2) (mx.1 (10 + i) 3) (2 * nI W) (2 * nI H)).toInt64 else s) = if thM mm i = true then s + (mm.1 9 i * trA t (mm.1 7 i) (mm.1 8 i) (2 * nI W) (2 * nI H)).toInt64 else s
    rw [e1, e3, e4, e5]
  · show ldW _ _ _ E _ = ldW _ _ _ E _
    unfold ldW
    rw [r1]
    refine nf_cong _ (fun i s hi => ?_)
    obtain ⟨e1, e2, e3, e4, e5, e6, -⟩ := r2 i hi
    show (if thX mx i = true then s + (mx.1 (10 + i) 4 * (trU t (mx.1 (10 + i) 2) (mx.1 (10 + i) 3) (2 * nI W) (2 * nI H) + mx.1 (10 + i) 5)).toInt64 else s) = if thM mm i = true then s + (mm.1 9 i * (trU t (mm.1 7 i) (mm.1 8 i) (2 * nI W) (2 * nI H) + mm.1 10 i)).toInt64 else s
    rw [e1, e3, e4, e5, e6]
  · unfold n_ther
    refine nf_cong _ (fun i s hi => ?_)
    obtain ⟨e1, -⟩ := r2 i hi
    unfold st_ld
    rw [e1]
theorem RR_G {mx mm : dx_M} {W H E D : Nat} (h : RR mx mm W H E D) : ∃ Wt sq wa wu, GX mx (mm.1 2) W H E D Wt sq wa wu ∧ GM mm (mm.1 2) W H E D Wt sq wa wu := by
  obtain ⟨k1, k2, k3, k4⟩ := RR_all h
  obtain ⟨⟨b1, b2, b3, b4, b5, b6, b7⟩, ⟨x1, x2, x3, x4⟩, ⟨y1, y2, y3, y4⟩, ⟨s1, s2⟩, r2, r3, r4, r5, r6, r7, r8, r9⟩ := h
  obtain ⟨S, eS, hS⟩ := sum_N 144 s2
  obtain ⟨Wt, eW, hWt⟩ := all_N (th := thM mm) (S := S) E (fun c hc => by
    obtain ⟨-, -, -, -, -, -, -, -, e, -⟩ := r2 c hc
    obtain ⟨j, hj, e⟩ := in_N (n := 200) (M := 200) rfl e
    exact ⟨j, hj, e⟩)
  have hall : allM mm E = nI Wt := by
    show nf (st_ld (thM mm) (mm.1 9)) E (nf (st_sum (mm.1 2)) 144 0) = nI Wt
    rw [eS, eW]
  have hcl : fb_ct (fun i => decide (¬ mm.1 2 i = -9)) 144 ≤ 144 := fb_ct_le _ 144
  have sW : smN (2 * nI W) 24 := ⟨2 * W, by omega, pk_mul 2 W⟩
  have sH : smN (2 * nI H) 24 := ⟨2 * H, by omega, pk_mul 2 H⟩
  have hHW : H * (W * (20 * (2 * 11 + 1))) ≤ 12 * (12 * (20 * (2 * 11 + 1))) := Nat.mul_le_mul b4 (Nat.mul_le_mul_right _ b2)
  have w1 : ∀ n : Nat, 1 ≤ n → n ≤ 12 → smN (nI n - 1) 11 := fun n h1 h2 => ⟨n - 1, by omega, pk_sub (a := n) (b := 1) (by omega)⟩
  have hA : ∀ k, smL (wAM mm (nI k) W H E) 200000 := fun k => by
    refine smL_le (ld_sm (fun i hi => ?_) (fun i hi => ?_) (cut_sm b2 b4 s2 (fun x y hx hy => ?_))) (by omega)
    · exact in_sm (n := 200) rfl (by omega) (r2 i hi).2.2.2.2.2.2.2.2.1
    · exact sm_le (tr_sm (in_N (n := 24) rfl (r2 i hi).2.2.2.2.2.2.1) (in_N (n := 24) rfl (r2 i hi).2.2.2.2.2.2.2.1) sW sH (by omega)).1 (by omega)
    · exact sm_le (tr_sm ⟨x, by omega, rfl⟩ ⟨y, by omega, rfl⟩ (w1 W b1 b2) (w1 H b3 b4) (by omega)).1 (by omega)
  have hU : ∀ k, smL (wUM mm (nI k) W H E) 200000 := fun k => by
    refine smL_le (ld_sm (fun i hi => ?_) (fun i hi => ?_) (cut_sm b2 b4 s2 (fun x y hx hy => ?_))) (by omega)
    · exact in_sm (n := 200) rfl (by omega) (r2 i hi).2.2.2.2.2.2.2.2.1
    · exact sm_le (sm_add (tr_sm (in_N (n := 24) rfl (r2 i hi).2.2.2.2.2.2.1) (in_N (n := 24) rfl (r2 i hi).2.2.2.2.2.2.2.1) sW sH (by omega)).2 (in_sm (n := 20) rfl (by omega) (r2 i hi).2.2.2.2.2.2.2.2.2)) (by omega)
    · exact sm_le (tr_sm ⟨x, by omega, rfl⟩ ⟨y, by omega, rfl⟩ (w1 W b1 b2) (w1 H b3 b4) (by omega)).2 (by omega)
  refine ⟨Wt, fb_ct (fun i => decide (¬ mm.1 2 i = -9)) 144, fun k => (wAM mm (nI k) W H E).toInt, fun k => (wUM mm (nI k) W H E).toInt, ?_, ?_⟩
  · exact ⟨b1, b2, b3, b4, b5, b6, b7, x1, x2, x3, x4, s1, k1.trans hall, cnt_N _ 144, by omega, hcl, fun k hk => ⟨(k2 _).trans (lZ_of _).symm, (k3 _).trans (lZ_of _).symm, smL_to (hA k) (by omega), smL_to (hU k) (by omega)⟩⟩
  · exact ⟨b1, b2, b3, b4, b5, b6, b7, y1, y2, y3, y4, rfl, hall, cnt_N _ 144, by omega, hcl, fun k hk => ⟨(lZ_of _).symm, (lZ_of _).symm, smL_to (hA k) (by omega), smL_to (hU k) (by omega)⟩, s2, r9⟩
