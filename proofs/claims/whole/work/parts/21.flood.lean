/-! THE FLOOD: which places are wet with water in rows 0 to r, as the least set that is closed -/
def mk (p : Nat → Bool) : Nat → Nat
  | 0 => 0
  | n + 1 => mk p n ||| (if p n = true then 2 ^ n else 0)
theorem mk_bit (p : Nat → Bool) (x : Nat) : ∀ w, (mk p w).testBit x = (decide (x < w) && p x)
  | 0 => by simp [mk]
  | n + 1 => by
    have ih := mk_bit p x n
    unfold mk
    rw [Nat.testBit_or, ih]
    by_cases h : p n = true
    · rw [if_pos h, Nat.testBit_two_pow]
      by_cases e : n = x
      · subst e; simp [h]
      · have e2 : (x < n + 1) ↔ (x < n) := by omega
        simp [e, e2]
    · rw [if_neg h, Nat.zero_testBit, Bool.or_false]
      by_cases e : n = x
      · subst e; simp [h]
      · have e2 : (x < n + 1) ↔ (x < n) := by omega
        simp [e2]
theorem mk_lt (p : Nat → Bool) : ∀ w, mk p w < 2 ^ w
  | 0 => by simp [mk]
  | n + 1 => by
    have ih := mk_lt p n
    unfold mk
    refine Nat.or_lt_two_pow (Nat.lt_trans ih (Nat.pow_lt_pow_right (by decide) (by omega))) ?_
    by_cases h : p n = true
    · rw [if_pos h]; exact Nat.pow_lt_pow_right (by decide) (by omega)
    · rw [if_neg h]; exact Nat.two_pow_pos _
def IM (p : Nat → Bool) (w : Nat) : Int32 := nI (mk p w)
theorem bt_nI {n i : Nat} (hi : i < 32) : bt (nI n) i = n.testBit i := by
  unfold bt nI
  show (BitVec.ofNat 32 n).getLsbD i = n.testBit i
  rw [BitVec.getLsbD_ofNat]
  simp [hi]
theorem bt_IM {p : Nat → Bool} {w i : Nat} (hi : i < 32) : bt (IM p w) i = (decide (i < w) && p i) := by
  unfold IM
  rw [bt_nI hi, mk_bit]
theorem IM_ext {x : Int32} {p : Nat → Bool} {w : Nat} (h : ∀ i, i < 32 → bt x i = (decide (i < w) && p i)) : x = IM p w := b_ext (fun i hi => by rw [h i hi, bt_IM hi])
theorem IM_cong {p q : Nat → Bool} {w : Nat} (h : ∀ x, x < w → p x = q x) : IM p w = IM q w := IM_ext (fun i hi => by
  rw [bt_IM hi]
  by_cases e : i < w
  · rw [h i e]
  · simp [e])
theorem IM_inj {p q : Nat → Bool} {w : Nat} (hw : w ≤ 32) (h : IM p w = IM q w) : ∀ x, x < w → p x = q x := fun x hx => by
  have e := congrArg (fun z => bt z x) h
  simp only [bt_IM (show x < 32 by omega), hx, decide_true, Bool.true_and] at e
  exact e
def closedP (op : Nat → Nat → Bool) (w r : Nat) (S : Nat → Nat → Prop) : Prop :=
  ∀ y x, y ≤ r → x < w → op y x = true → (x = 0 ∨ x + 1 = w ∨ y = 0 ∨ (0 < x ∧ S y (x - 1)) ∨ (x + 1 < w ∧ S y (x + 1)) ∨ (0 < y ∧ S (y - 1) x) ∨ (y < r ∧ S (y + 1) x)) → S y x
def wetP (op : Nat → Nat → Bool) (w r y x : Nat) : Prop := ∀ S, closedP op w r S → S y x
noncomputable def wetB (op : Nat → Nat → Bool) (w r y x : Nat) : Bool := @decide (wetP op w r y x) (Classical.propDecidable _)
theorem wetB_t {op : Nat → Nat → Bool} {w r y x : Nat} : wetB op w r y x = true ↔ wetP op w r y x := by
  unfold wetB
  exact @decide_eq_true_iff _ (Classical.propDecidable _)
theorem wet_open {op : Nat → Nat → Bool} {w r y x : Nat} (h : wetB op w r y x = true) : op y x = true ∧ y ≤ r ∧ x < w :=
  wetB_t.mp h (fun y x => op y x = true ∧ y ≤ r ∧ x < w) (fun _ _ h1 h2 h3 _ => ⟨h3, h1, h2⟩)
theorem wet_closed (op : Nat → Nat → Bool) (w r : Nat) : closedP op w r (fun y x => wetB op w r y x = true) := by
  intro y x h1 h2 h3 h4
  refine wetB_t.mpr (fun S hS => hS y x h1 h2 h3 ?_)
  rcases h4 with h | h | h | ⟨h, k⟩ | ⟨h, k⟩ | ⟨h, k⟩ | ⟨h, k⟩
  · exact Or.inl h
  · exact Or.inr (Or.inl h)
  · exact Or.inr (Or.inr (Or.inl h))
  · exact Or.inr (Or.inr (Or.inr (Or.inl ⟨h, wetB_t.mp k S hS⟩)))
  · exact Or.inr (Or.inr (Or.inr (Or.inr (Or.inl ⟨h, wetB_t.mp k S hS⟩))))
  · exact Or.inr (Or.inr (Or.inr (Or.inr (Or.inr (Or.inl ⟨h, wetB_t.mp k S hS⟩)))))
  · exact Or.inr (Or.inr (Or.inr (Or.inr (Or.inr (Or.inr ⟨h, wetB_t.mp k S hS⟩)))))
theorem wet_least {op : Nat → Nat → Bool} {w r y x : Nat} {S : Nat → Nat → Prop} (hS : closedP op w r S) (h : wetB op w r y x = true) : S y x := wetB_t.mp h S hS
/-- water that rises leaves no place -/
theorem wet_mono {op : Nat → Nat → Bool} {w r r' y x : Nat} (hr : r ≤ r') (h : wetB op w r y x = true) : wetB op w r' y x = true := by
  refine wet_least (S := fun y x => wetB op w r' y x = true) (fun y x h1 h2 h3 h4 => ?_) h
  refine wet_closed op w r' y x (by omega) h2 h3 ?_
  rcases h4 with h | h | h | ⟨h, k⟩ | ⟨h, k⟩ | ⟨h, k⟩ | ⟨h, k⟩
  · exact Or.inl h
  · exact Or.inr (Or.inl h)
  · exact Or.inr (Or.inr (Or.inl h))
  · exact Or.inr (Or.inr (Or.inr (Or.inl ⟨h, k⟩)))
  · exact Or.inr (Or.inr (Or.inr (Or.inr (Or.inl ⟨h, k⟩))))
  · exact Or.inr (Or.inr (Or.inr (Or.inr (Or.inr (Or.inl ⟨h, k⟩)))))
  · exact Or.inr (Or.inr (Or.inr (Or.inr (Or.inr (Or.inr ⟨by omega, k⟩)))))
/-- a set that is sound and closed is the flood -/
theorem wet_is {op : Nat → Nat → Bool} {w r : Nat} {T : Nat → Nat → Bool} (h1 : ∀ y x, y ≤ r → x < w → T y x = true → wetB op w r y x = true) (h2 : closedP op w r (fun y x => y ≤ r ∧ x < w ∧ T y x = true)) : ∀ y x, y ≤ r → x < w → T y x = wetB op w r y x := by
  intro y x hy hx
  cases e : wetB op w r y x with
  | true => exact (wet_least h2 e).2.2
  | false =>
    cases e2 : T y x with
    | false => rfl
    | true => rw [h1 y x hy hx e2] at e; cases e
/-- a place as one look at its row sees it -/
def nbX (op wt : Nat → Nat → Bool) (w r y x : Nat) : Bool := (wt y x || (decide (0 < x) && wt y (x - 1)) || (decide (x + 1 < w) && wt y (x + 1)) || (decide (0 < y) && wt (y - 1) x) || (decide (y < r) && wt (y + 1) x)) && op y x
theorem rwI_IM {op wt : Nat → Nat → Bool} {o f : Nat → Int32} {w r y : Nat} (hw : w ≤ 12) (hy : y ≤ r) (ho : o y = IM (op y) w) (hf : ∀ y, y ≤ r → f y = IM (wt y) w) : rwI o f r y = IM (nbX op wt w r y) w := by
  refine IM_ext (fun i hi => ?_)
  unfold rwI
  rw [b_and, b_or, b_or, b_or, b_or, ho, bt_IM hi, hf y hy, bt_IM hi, show (1 : Int32) = nI 1 from rfl, b_shl 1 (by decide) _ hi, b_sshr 1 (by decide) _ hi, bt_IM (show i - 1 < 32 by omega)]
  have e1 : (if 1 + i < 32 then bt (IM (wt y) w) (1 + i) else bt (IM (wt y) w) 31) = (decide (i + 1 < w) && wt y (i + 1)) := by
    by_cases h : 1 + i < 32
    · rw [if_pos h, bt_IM h, Nat.add_comm 1 i]
    · rw [if_neg h, bt_IM (by decide)]
      have h2 : ¬ 31 < w := by omega
      have h3 : ¬ i + 1 < w := by omega
      simp [h2, h3]
  have e2 : bt (if 0 < y then f (y - 1) else 0) i = (decide (0 < y) && (decide (i < w) && wt (y - 1) i)) := by
    by_cases h : 0 < y
    · rw [if_pos h, hf (y - 1) (by omega), bt_IM hi]; simp [h]
    · rw [if_neg h, b_0]; simp [h]
  have e3 : bt (if y < r then f (y + 1) else 0) i = (decide (y < r) && (decide (i < w) && wt (y + 1) i)) := by
    by_cases h : y < r
    · rw [if_pos h, hf (y + 1) (by omega), bt_IM hi]; simp [h]
    · rw [if_neg h, b_0]; simp [h]
  rw [e1, e2, e3]
  unfold nbX
  by_cases h : i < w
  · have h2 : i - 1 < w := by omega
    have h3 : (1 ≤ i) = (0 < i) := rfl
    simp [h, h2, h3]
  · simp [h]
/-- what one pass does to the rows: the state before and after -/
def pasR (op wt wt' : Nat → Nat → Bool) (w r j : Nat) (more : Bool) : Prop :=
  (∀ y x, y ≤ r → x < w → wt y x = true → wt' y x = true) ∧
  ((∀ y x, y ≤ r → x < w → wt y x = true → wetB op w r y x = true) → ∀ y x, y ≤ r → x < w → wt' y x = true → wetB op w r y x = true) ∧
  (more = false → (∀ y x, y ≤ r → x < w → wt' y x = wt y x) ∧ ∀ y x, y < j → x < w → nbX op wt w r y x = wt y x) ∧
  (more = true → ∃ y x, y ≤ r ∧ x < w ∧ wt y x = false ∧ wt' y x = true)
