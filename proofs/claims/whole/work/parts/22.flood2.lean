theorem nbX_cong {op a b : Nat → Nat → Bool} {w r y x : Nat} (h : ∀ y x, y ≤ r → x < w → a y x = b y x) (hy : y ≤ r) (hx : x < w) : nbX op a w r y x = nbX op b w r y x := by
  unfold nbX
  have e1 : (decide (x + 1 < w) && a y (x + 1)) = (decide (x + 1 < w) && b y (x + 1)) := by
    by_cases q : x + 1 < w
    · rw [h y (x + 1) hy q]
    · simp [q]
  have e2 : (decide (y < r) && a (y + 1) x) = (decide (y < r) && b (y + 1) x) := by
    by_cases q : y < r
    · rw [h (y + 1) x (by omega) hx]
    · simp [q]
  rw [e1, e2, h y x hy hx, h y (x - 1) hy (by omega), h (y - 1) x (by omega) hx]
theorem nbX_ge {op a : Nat → Nat → Bool} {w r y x : Nat} (h : a y x = true) (ho : op y x = true) : nbX op a w r y x = true := by
  unfold nbX
  simp [h, ho]
theorem nbX_op {op a : Nat → Nat → Bool} {w r y x : Nat} (h : nbX op a w r y x = true) : op y x = true := by
  unfold nbX at h
  rw [Bool.and_eq_true] at h
  exact h.2
theorem nbX_wet {op a : Nat → Nat → Bool} {w r y x : Nat} (hy : y ≤ r) (hx : x < w) (ha : ∀ y x, y ≤ r → x < w → a y x = true → wetB op w r y x = true) (h : nbX op a w r y x = true) : wetB op w r y x = true := by
  have ho := nbX_op h
  unfold nbX at h
  simp only [Bool.and_eq_true, Bool.or_eq_true, decide_eq_true_eq] at h
  rcases h.1 with (((h | h) | h) | h) | h
  · exact ha y x hy hx h
  · exact wet_closed op w r y x hy hx ho (Or.inr (Or.inr (Or.inr (Or.inl ⟨h.1, ha y (x - 1) hy (by omega) h.2⟩))))
  · exact wet_closed op w r y x hy hx ho (Or.inr (Or.inr (Or.inr (Or.inr (Or.inl ⟨h.1, ha y (x + 1) hy h.1 h.2⟩)))))
  · exact wet_closed op w r y x hy hx ho (Or.inr (Or.inr (Or.inr (Or.inr (Or.inr (Or.inl ⟨h.1, ha (y - 1) x (by omega) hx h.2⟩))))))
  · exact wet_closed op w r y x hy hx ho (Or.inr (Or.inr (Or.inr (Or.inr (Or.inr (Or.inr ⟨h.1, ha (y + 1) x (by omega) hx h.2⟩))))))
theorem pass_spec {op wt : Nat → Nat → Bool} {o f : Nat → Int32} {w r : Nat} (hw : w ≤ 12) (ho : ∀ y, y ≤ r → o y = IM (op y) w) (hf : ∀ y, y ≤ r → f y = IM (wt y) w) (hop : ∀ y x, y ≤ r → x < w → wt y x = true → op y x = true) : ∀ j, j ≤ r + 1 → ∃ wt', (∀ y, y ≤ r → (nf (psI o r) j (f, false)).1 y = IM (wt' y) w) ∧ (∀ y, r < y → (nf (psI o r) j (f, false)).1 y = f y) ∧ (∀ y x, y ≤ r → x < w → wt' y x = true → op y x = true) ∧ pasR op wt wt' w r j (nf (psI o r) j (f, false)).2 := by
  intro j
  induction j with
  | zero =>
    intro _
    exact ⟨wt, hf, fun _ _ => rfl, hop, fun _ _ _ _ h => h, fun h => h, fun _ => ⟨fun _ _ _ _ => rfl, fun y x h => absurd h (by omega)⟩, fun h => by cases h⟩
  | succ j ih =>
    intro hj
    obtain ⟨wt1, h1, h2, h3, p1, p2, p3, p4⟩ := ih (by omega)
    rw [nf_succ]
    generalize nf (psI o r) j (f, false) = s at h1 h2 p3 p4 ⊢
    have hv : rwI o s.1 r j = IM (nbX op wt1 w r j) w := rwI_IM hw (by omega) (ho j (by omega)) h1
    have hge : ∀ y x, y ≤ r → x < w → wt1 y x = true → (if y = j then nbX op wt1 w r j x else wt1 y x) = true := by
      intro y x hy hx h
      by_cases e : y = j
      · subst e; rw [if_pos rfl]; exact nbX_ge h (h3 y x hy hx h)
      · rw [if_neg e]; exact h
    refine ⟨fun y x => if y = j then nbX op wt1 w r j x else wt1 y x, ?_, ?_, ?_, ?_, ?_, ?_, ?_⟩
    · intro y hy
      show upd s.1 j (rwI o s.1 r j) y = _
      by_cases e : y = j
      · subst e
        rw [pk_us, hv]
        exact IM_cong (fun x _ => by (try dsimp only); rw [if_pos rfl])
      · rw [pk_un e, h1 y hy]
        exact IM_cong (fun x _ => by (try dsimp only); rw [if_neg e])
    · intro y hy
      show upd s.1 j (rwI o s.1 r j) y = _
      rw [pk_un (by omega)]
      exact h2 y hy
    · intro y x hy hx h
      by_cases e : y = j
      · subst e; (try dsimp only at h); rw [if_pos rfl] at h; exact nbX_op h
      · (try dsimp only at h); rw [if_neg e] at h; exact h3 y x hy hx h
    · intro y x hy hx h
      exact hge y x hy hx (p1 y x hy hx h)
    · intro hs y x hy hx h
      have hs1 := p2 hs
      by_cases e : y = j
      · subst e; (try dsimp only at h); rw [if_pos rfl] at h; exact nbX_wet hy hx hs1 h
      · (try dsimp only at h); rw [if_neg e] at h; exact hs1 y x hy hx h
    · intro hm
      have hm2 : s.2 = false ∧ decide (¬ rwI o s.1 r j = s.1 j) = false := by
        have hm3 : (s.2 || decide (¬ rwI o s.1 r j = s.1 j)) = false := hm
        rw [Bool.or_eq_false_iff] at hm3
        exact hm3
      obtain ⟨q1, q2⟩ := p3 hm2.1
      have e1 : rwI o s.1 r j = s.1 j := Decidable.not_not.mp (of_decide_eq_false hm2.2)
      rw [hv, h1 j (by omega)] at e1
      have e2 := IM_inj (by omega) e1
      have e3 : ∀ x, x < w → nbX op wt w r j x = wt j x := fun x hx => by
        rw [← nbX_cong q1 (by omega) hx, e2 x hx, q1 j x (by omega) hx]
      refine ⟨fun y x hy hx => ?_, fun y x hy hx => ?_⟩
      · by_cases e : y = j
        · subst e; (try dsimp only); rw [if_pos rfl, e2 x hx, q1 y x hy hx]
        · (try dsimp only); rw [if_neg e, q1 y x hy hx]
      · by_cases e : y = j
        · subst e; exact e3 x hx
        · exact q2 y x (by omega) hx
    · intro hm
      by_cases hs : s.2 = true
      · obtain ⟨y, x, a1, a2, a3, a4⟩ := p4 hs
        exact ⟨y, x, a1, a2, a3, hge y x a1 a2 a4⟩
      · have hs2 : s.2 = false := by simpa using hs
        have hm3 : (s.2 || decide (¬ rwI o s.1 r j = s.1 j)) = true := hm
        rw [hs2, Bool.false_or] at hm3
        have hm4 := of_decide_eq_true hm3
        obtain ⟨q1, -⟩ := p3 hs2
        rw [hv, h1 j (by omega)] at hm4
        have ex : ∃ x, x < w ∧ nbX op wt1 w r j x ≠ wt1 j x := by
          refine Classical.byContradiction (fun hn => hm4 (IM_cong (fun x hx => ?_)))
          refine Classical.byContradiction (fun hn2 => hn ⟨x, hx, hn2⟩)
        obtain ⟨x, hx, hne⟩ := ex
        have e1 : wt1 j x = false := by
          cases e : wt1 j x with
          | false => rfl
          | true => rw [nbX_ge e (h3 j x (by omega) hx e), e] at hne; exact absurd rfl hne
        have e2 : nbX op wt1 w r j x = true := by
          cases e : nbX op wt1 w r j x with
          | true => rfl
          | false => rw [e, e1] at hne; exact absurd rfl hne
        refine ⟨j, x, by omega, hx, by rw [← q1 j x (by omega) hx]; exact e1, ?_⟩
        show (if j = j then nbX op wt1 w r j x else wt1 j x) = true
        rw [if_pos rfl]; exact e2
/-- how many places are wet -/
def wcnt (wt : Nat → Nat → Bool) (w r : Nat) : Nat := fb_sm (fun y => fb_ct (wt y) w) (r + 1)
theorem wcnt_le (wt : Nat → Nat → Bool) {w r : Nat} (hw : w ≤ 12) (hr : r < 12) : wcnt wt w r ≤ 144 := by
  have h := fb_sm_bound (f := fun y => fb_ct (wt y) w) (c := w) (n := r + 1) (fun k _ => fb_ct_le (wt k) w)
  have h2 : (r + 1) * w ≤ 12 * 12 := Nat.mul_le_mul (by omega) hw
  unfold wcnt
  omega
theorem sm_lt {f g : Nat → Nat} {n k : Nat} (h : ∀ i, i < n → f i ≤ g i) (hk : k < n) (hs : f k < g k) : fb_sm f n < fb_sm g n := by
  induction n with
  | zero => omega
  | succ n ih =>
    rw [fb_sm_succ, fb_sm_succ]
    by_cases e : k = n
    · subst e
      have := fb_sm_le (f := f) (g := g) (n := k) (fun i hi => h i (by omega))
      omega
    · have h1 := ih (fun i hi => h i (by omega)) (by omega)
      have h2 := h n (by omega)
      omega
theorem ct_lt {p q : Nat → Bool} {n k : Nat} (h : ∀ i, i < n → p i = true → q i = true) (hk : k < n) (h1 : p k = false) (h2 : q k = true) : fb_ct p n < fb_ct q n := by
  induction n with
  | zero => omega
  | succ n ih =>
    rw [fb_ct_succ, fb_ct_succ]
    by_cases e : k = n
    · subst e
      have := fb_ct_sub (p := p) (q := q) (n := k) (fun i hi => h i (by omega))
      rw [h1, h2]
      simp
      omega
    · have h3 := ih (fun i hi => h i (by omega)) (by omega)
      have h4 : (if p n = true then 1 else 0) ≤ (if q n = true then 1 else 0 : Nat) := by
        by_cases e2 : p n = true
        · rw [if_pos e2, if_pos (h n (by omega) e2)]; exact Nat.le_refl _
        · rw [if_neg e2]; exact Nat.zero_le _
      omega
theorem wcnt_lt {a b : Nat → Nat → Bool} {w r : Nat} (h : ∀ y x, y ≤ r → x < w → a y x = true → b y x = true) (hs : ∃ y x, y ≤ r ∧ x < w ∧ a y x = false ∧ b y x = true) : wcnt a w r < wcnt b w r := by
  obtain ⟨y, x, hy, hx, e1, e2⟩ := hs
  refine sm_lt (k := y) (fun i hi => fb_ct_sub (fun k hk => h i k (by omega) hk)) (by omega) ?_
  exact ct_lt (fun i hi => h y i hy hi) hx e1 e2
/-- the flood of the class, row by row of bits, is the flood -/
theorem spread_ok {op : Nat → Nat → Bool} {o : Nat → Int32} {w r : Nat} (hw : w ≤ 12) (hr : r < 12) (ho : ∀ y, y ≤ r → o y = IM (op y) w) : ∀ (n : Nat) (f : Nat → Int32) (wt : Nat → Nat → Bool), (∀ y, y ≤ r → f y = IM (wt y) w) → (∀ y x, y ≤ r → x < w → wt y x = true → wetB op w r y x = true) → (∀ y x, y ≤ r → x < w → op y x = true → (x = 0 ∨ x + 1 = w ∨ y = 0) → wt y x = true) → 145 ≤ wcnt wt w r + n → (∀ y, y ≤ r → spI o r n f y = IM (wetB op w r y) w) ∧ ∀ y, r < y → spI o r n f y = f y := by
  intro n
  induction n with
  | zero =>
    intro f wt _ _ _ h
    have := wcnt_le wt hw hr
    omega
  | succ n ih =>
    intro f wt hf hs hseed hn
    obtain ⟨wt', h1, h2, h3, p1, p2, p3, p4⟩ := pass_spec hw ho hf (fun y x hy hx h => (wet_open (hs y x hy hx h)).1) (r + 1) (Nat.le_refl _)
    cases e : (nf (psI o r) (r + 1) (f, false)).2 with
    | true =>
      rw [spI_t e]
      have hlt := wcnt_lt p1 (p4 e)
      obtain ⟨g1, g2⟩ := ih _ wt' h1 (p2 hs) (fun y x hy hx h4 h5 => p1 y x hy hx (hseed y x hy hx h4 h5)) (by omega)
      exact ⟨g1, fun y hy => by rw [g2 y hy, h2 y hy]⟩
    | false =>
      rw [spI_f e]
      obtain ⟨q1, q2⟩ := p3 e
      have hcl : closedP op w r (fun y x => y ≤ r ∧ x < w ∧ wt y x = true) := by
        intro y x hy hx hop hnb
        refine ⟨hy, hx, ?_⟩
        rw [← q2 y x (by omega) hx]
        unfold nbX
        simp only [Bool.and_eq_true, Bool.or_eq_true, decide_eq_true_eq]
        refine ⟨?_, hop⟩
        rcases hnb with h | h | h | ⟨h, -, -, k⟩ | ⟨h, -, -, k⟩ | ⟨h, -, -, k⟩ | ⟨h, -, -, k⟩
        · exact Or.inl (Or.inl (Or.inl (Or.inl (hseed y x hy hx hop (Or.inl h)))))
        · exact Or.inl (Or.inl (Or.inl (Or.inl (hseed y x hy hx hop (Or.inr (Or.inl h))))))
        · exact Or.inl (Or.inl (Or.inl (Or.inl (hseed y x hy hx hop (Or.inr (Or.inr h))))))
        · exact Or.inl (Or.inl (Or.inl (Or.inr ⟨h, k⟩)))
        · exact Or.inl (Or.inl (Or.inr ⟨h, k⟩))
        · exact Or.inl (Or.inr ⟨h, k⟩)
        · exact Or.inr ⟨h, k⟩
      have hw2 := wet_is hs hcl
      refine ⟨fun y hy => ?_, h2⟩
      rw [h1 y hy]
      exact IM_cong (fun x hx => by rw [q1 y x hy hx, hw2 y x hy hx])
