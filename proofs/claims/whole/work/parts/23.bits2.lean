/-! rows of bits: counts, ends, single bits -/
def pcN (k : Nat) : Nat := fb_ct (fun x => k.testBit x) 12
theorem bc_all : (List.range 4096).all (fun k => decide (bcI (nI k) = nI (pcN k))) = true := by decide +kernel
theorem bc_nI {k : Nat} (h : k < 4096) : bcI (nI k) = nI (pcN k) := of_decide_eq_true (List.all_eq_true.mp bc_all k (List.mem_range.mpr h))
theorem ct_cut {p q : Nat → Bool} {w : Nat} (h : ∀ x, x < w → q x = p x) (h2 : ∀ x, w ≤ x → q x = false) : ∀ n, w ≤ n → fb_ct q n = fb_ct p w := by
  intro n hn
  obtain ⟨k, rfl⟩ := Nat.exists_eq_add_of_le hn
  rw [fb_ct_split, fb_ct_zero.mpr (fun k _ => h2 (w + k) (by omega)), Nat.add_zero]
  exact fb_ct_cong h
theorem bc_IM {p : Nat → Bool} {w : Nat} (hw : w ≤ 12) : bcI (IM p w) = nI (fb_ct p w) := by
  have h1 : mk p w < 4096 := Nat.lt_of_lt_of_le (mk_lt p w) (Nat.pow_le_pow_right (by decide) hw)
  unfold IM
  rw [bc_nI h1]
  unfold pcN
  rw [ct_cut (p := p) (w := w) (fun x hx => by rw [mk_bit]; simp [hx]) (fun x hx => by rw [mk_bit]; simp [Nat.not_lt.mpr hx]) 12 hw]
theorem ones_all : ∀ w, w < 13 → ((1 : Int32) <<< (nI w &&& 31)) - 1 = nI (2 ^ w - 1) := by decide +kernel
theorem ones_bt {w i : Nat} (hw : w ≤ 12) (hi : i < 32) : bt (((1 : Int32) <<< (nI w &&& 31)) - 1) i = decide (i < w) := by
  rw [ones_all w (by omega), bt_nI hi, Nat.testBit_two_pow_sub_one]
theorem fm_IM {p : Nat → Bool} {w : Nat} (hw : w ≤ 12) : fmI (nI w) (IM p w) = IM (fun x => !p x) w := by
  refine IM_ext (fun i hi => ?_)
  unfold fmI
  rw [b_and, b_xor, ones_bt hw hi, bt_IM hi, b_m1 i hi]
  by_cases h : i < w <;> simp [h]
theorem wy_0 {w : Nat} (hw : w ≤ 12) : wyI (nI w) 0 = IM (fun _ => true) w := by
  refine IM_ext (fun i hi => ?_)
  unfold wyI
  rw [if_pos rfl, ones_bt hw hi, Bool.and_true]
theorem ends_all : ∀ w, w < 13 → 0 < w → (1 : Int32) ||| ((1 : Int32) <<< ((nI w - 1) &&& 31)) = nI (mk (fun x => decide (x = 0) || decide (x + 1 = w)) w) := by decide +kernel
theorem wy_n {w y : Nat} (hw : w ≤ 12) (hw1 : 0 < w) (hy : 0 < y) (hy2 : y < 12) : wyI (nI w) (nI y) = IM (fun x => decide (x = 0) || decide (x + 1 = w)) w := by
  unfold wyI
  rw [if_neg (nI_ne0 hy (by omega)), ends_all w (by omega) hw1]
  rfl
theorem bt_1 : ∀ i, i < 32 → bt 1 i = decide (i = 0) := by decide +kernel
theorem bt_bI (b : Bool) {i : Nat} (hi : i < 32) : bt (bI b) i = (decide (i = 0) && b) := by
  cases b
  · show bt 0 i = _
    rw [b_0]; simp
  · show bt 1 i = _
    rw [bt_1 i hi]; simp
theorem bit_IM {p : Nat → Bool} {w x : Nat} (hw : w ≤ 12) (hx : x < w) : (IM p w >>> (nI x &&& 31)) &&& 1 = bI (p x) := by
  refine b_ext (fun i hi => ?_)
  rw [b_and, b_sshr x (by omega) _ hi, bt_1 i hi, bt_bI _ hi]
  by_cases h : i = 0
  · subst h
    rw [if_pos (by omega), bt_IM (by omega)]
    simp [hx]
  · simp [h]
theorem bit_IM0 {p : Nat → Bool} {w x : Nat} (hw : w ≤ 12) (hx : x < 12) : (IM p w >>> (nI x &&& 31)) &&& 1 = bI (decide (x < w) && p x) := by
  refine b_ext (fun i hi => ?_)
  rw [b_and, b_sshr x (by omega) _ hi, bt_1 i hi, bt_bI _ hi]
  by_cases h : i = 0
  · subst h
    rw [if_pos (by omega), bt_IM (by omega)]
    simp
  · simp [h]
theorem bI_mul (b : Bool) (v : Nat) : bI b * nI v = nI (if b = true then v else 0) := by
  cases b
  · show (0 : Int32) * nI v = nI 0
    rw [show (0 : Int32) = nI 0 from rfl, pk_mul, Nat.zero_mul]
  · show (1 : Int32) * nI v = nI v
    rw [show (1 : Int32) = nI 1 from rfl, pk_mul, Nat.one_mul]
def hvS (p : Nat → Bool) (w : Nat) : Nat := fb_sm (fun x => if p x = true then 2 * x + 1 else 0) w
def thS (p : Nat → Bool) (w : Nat) : Nat := fb_sm (fun x => if p x = true then 3 * x * x + 3 * x + 1 else 0) w
theorem hv_IM {p : Nat → Bool} {w : Nat} (hw : w ≤ 12) : ∀ n, n ≤ w → nf (st_hv (IM p w)) n 0 = nI (hvS p n)
  | 0, _ => rfl
  | n + 1, hn => by
    rw [nf_succ, hv_IM hw n (by omega)]
    unfold st_hv hvS
    rw [bit_IM hw (by omega), fb_sm_succ, show (2 : Int32) * nI n + 1 = nI (2 * n + 1) by rw [show (2 : Int32) = nI 2 from rfl, pk_mul, nI_1], bI_mul, nI_add]
