/-! turned, the rows of bits tell the open places -/
def prB (Y X y x : Nat) : Bool := decide (y < Y) || (decide (y = Y) && decide (x < X))
def tIn (f : Nat → Int32) (t W H Y X : Nat) (o : Nat → Int32) : Prop := ∀ v, v < htN t W H → o v = IM (fun u => opS f t W H v u && prB Y X (y0 t v u W H) (x0 t v u W H)) (wdN t W H)
theorem wd_le {t W H : Nat} (hW : W ≤ 12) (hH : H ≤ 12) : wdN t W H ≤ 12 := by unfold wdN; by_cases q : t = 1 ∨ t = 3 <;> simp [q] <;> omega
theorem ht_le {t W H : Nat} (hW : W ≤ 12) (hH : H ≤ 12) : htN t W H ≤ 12 := by unfold htN; by_cases q : t = 1 ∨ t = 3 <;> simp [q] <;> omega
theorem shl_bt {n i : Nat} (hn : n < 12) (hi : i < 32) : bt ((1 : Int32) <<< (nI n &&& 31)) i = decide (i = n) := by
  rw [b_shl n (by omega) _ hi]
  by_cases h : n ≤ i
  · rw [bt_1 (i - n) (by omega)]
    by_cases e : i = n
    · subst e; simp
    · have e2 : ¬ i - n = 0 := by omega
      simp [e, e2]
  · have e : ¬ i = n := by omega
    simp [h, e]
theorem tstep_ok {f : Nat → Int32} {t W H Y X : Nat} {o : Nat → Int32} (ht : t < 4) (hW : W ≤ 12) (hH : H ≤ 12) (hX : X < W) (hY : Y < H) (h : tIn f t W H Y X o) : tIn f t W H Y (X + 1) (tstep f t W H Y X o) := by
  intro v hv
  have hinv : ∀ u, u < wdN t W H → (prB Y (X + 1) (y0 t v u W H) (x0 t v u W H) = (prB Y X (y0 t v u W H) (x0 t v u W H) || decide (v = uN' t X Y W H ∧ u = aN t X Y W H))) := by
    intro u hu
    have e := turn_inv ht hv hu hX hY
    unfold prB
    by_cases q : v = uN' t X Y W H ∧ u = aN t X Y W H
    · obtain ⟨q1, q2⟩ := e.mpr q
      rw [q1, q2]
      simp [q]
    · have q2 : ¬ (x0 t v u W H = X ∧ y0 t v u W H = Y) := fun z => q (e.mp z)
      rw [decide_eq_false q, Bool.or_false]
      by_cases a : y0 t v u W H = Y
      · have b : ¬ x0 t v u W H = X := fun z => q2 ⟨z, a⟩
        have c : (x0 t v u W H < X + 1) ↔ (x0 t v u W H < X) := by omega
        simp [a, c]
      · simp [a]
  have hat : v = uN' t X Y W H → ∀ u, u = aN t X Y W H → u < wdN t W H → opS f t W H v u = decide (f (Y * 12 + X) = -9) := by
    intro hv2 u hu2 hu
    obtain ⟨q1, q2⟩ := (turn_inv ht hv hu hX hY).mpr ⟨hv2, hu2⟩
    unfold opS
    rw [q1, q2, Nat.mul_comm 12 Y]
  unfold tstep
  by_cases hf : f (Y * 12 + X) = -9
  · rw [if_pos hf]
    by_cases e : v = uN' t X Y W H
    · rw [← e, pk_us, h v hv]
      refine IM_ext (fun i hi => ?_)
      rw [b_or, bt_IM hi, shl_bt (Nat.lt_of_lt_of_le (aN_lt ht hX hY) (wd_le hW hH)) hi]
      by_cases hi2 : i < wdN t W H
      · rw [hinv i hi2]
        by_cases e2 : i = aN t X Y W H
        · have e3 := hat e i e2 hi2
          rw [e3]
          have e4 : aN t X Y W H < wdN t W H := e2 ▸ hi2
          simp [hf, e, e2, e4]
        · simp [hi2, e2]
      · have e2 : ¬ i = aN t X Y W H := fun z => hi2 (z ▸ aN_lt ht hX hY)
        simp [hi2, e2]
    · rw [pk_un e, h v hv]
      exact IM_cong (fun u hu => by rw [hinv u hu]; simp [e])
  · rw [if_neg hf, h v hv]
    refine IM_cong (fun u hu => ?_)
    rw [hinv u hu]
    by_cases e : v = uN' t X Y W H ∧ u = aN t X Y W H
    · rw [hat e.1 u e.2 hu, decide_eq_false hf]; rfl
    · simp [e]
theorem trow_ok {f : Nat → Int32} {t W H Y : Nat} {o : Nat → Int32} (ht : t < 4) (hW : W ≤ 12) (hH : H ≤ 12) (hY : Y < H) (h : tIn f t W H Y 0 o) : ∀ X, X ≤ W → tIn f t W H Y X (nf (fun x o => tstep f t W H Y x o) X o)
  | 0, _ => h
  | X + 1, hX => tstep_ok ht hW hH (by omega) hY (trow_ok ht hW hH hY h X (by omega))
theorem tIn_next {f : Nat → Int32} {t W H Y : Nat} {o : Nat → Int32} (ht : t < 4) (h : tIn f t W H Y W o) : tIn f t W H (Y + 1) 0 o := by
  intro v hv
  rw [h v hv]
  refine IM_cong (fun u hu => ?_)
  have := x0_lt ht hv hu
  unfold prB
  have e : (y0 t v u W H < Y + 1) ↔ (y0 t v u W H < Y ∨ y0 t v u W H = Y) := by omega
  by_cases a : y0 t v u W H = Y
  · simp [a, this]
  · have e2 : (y0 t v u W H < Y + 1) ↔ (y0 t v u W H < Y) := by omega
    simp [a, e2]
theorem tall_ok {f : Nat → Int32} {t W H : Nat} {o : Nat → Int32} (ht : t < 4) (hW : W ≤ 12) (hH : H ≤ 12) (h : tIn f t W H 0 0 o) : ∀ Y, Y ≤ H → tIn f t W H Y 0 (nf (fun y o => nf (fun x o => tstep f t W H y x o) W o) Y o)
  | 0, _ => h
  | Y + 1, hY => tIn_next ht (trow_ok ht hW hH (by omega) (tall_ok ht hW hH h Y (by omega)) W (Nat.le_refl W))
theorem IM_0 (w : Nat) : IM (fun _ => false) w = 0 := b_ext (fun i hi => by rw [bt_IM hi, b_0, Bool.and_false])
/-- the open places, row by row -/
theorem turn_ok {f : Nat → Int32} {t W H : Nat} {o : Nat → Int32} (ht : t < 4) (hW : W ≤ 12) (hH : H ≤ 12) (h : ∀ v, v < 12 → o v = 0) : ∀ v, v < htN t W H → tfull f t W H o v = IM (opS f t W H v) (wdN t W H) := by
  intro v hv
  have h0 : tIn f t W H 0 0 o := by
    intro v hv
    rw [h v (Nat.lt_of_lt_of_le hv (ht_le hW hH)), ← IM_0 (wdN t W H)]
    exact IM_cong (fun u hu => by unfold prB; simp)
  have h1 := tall_ok ht hW hH h0 H (Nat.le_refl H) v hv
  unfold tfull
  rw [h1]
  refine IM_cong (fun u hu => ?_)
  have := y0_lt ht hv hu
  unfold prB
  simp [this]
/-! water that rises -/
def LX (m : dx_M) (op : Nat → Nat → Bool) (w h k : Nat) : Prop := 1 ≤ w ∧ w ≤ 12 ∧ h ≤ 12 ∧ k ≤ h ∧ m.1 3 2 = nI w ∧ m.1 3 3 = nI h ∧ m.1 3 4 = nI k - 1 ∧ (∀ y, y < h → m.1 4 y = IM (op y) w) ∧ ∀ y, y < k → m.1 5 y = IM (wetB op w (k - 1) y) w
/-- nothing but the water's own cells has changed -/
def keepX (m m' : dx_M) : Prop := (∀ k, k ≠ 3 → k ≠ 4 → k ≠ 5 → m'.1 k = m.1 k) ∧ (∀ k, k ≠ 3 → m'.2 k = m.2 k)
theorem keepX_rf (m : dx_M) : keepX m m := ⟨fun _ _ _ _ => rfl, fun _ _ => rfl⟩
theorem keepX_tr {a b c : dx_M} (h : keepX a b) (h2 : keepX b c) : keepX a c := ⟨fun k h3 h4 h5 => (h2.1 k h3 h4 h5).trans (h.1 k h3 h4 h5), fun k h3 => (h2.2 k h3).trans (h.2 k h3)⟩
noncomputable def fA (op : Nat → Nat → Bool) (w r : Nat) : Nat := fb_ct (fun x => !wetB op w r r x) w
noncomputable def fB (op : Nat → Nat → Bool) (w r : Nat) : Nat := fb_sm (fun y => fb_ct (fun x => !wetB op w r y x) w) r
def LF (m : dx_M) (op : Nat → Nat → Bool) (w h r : Nat) : Prop := LX m op w h (r + 1) ∧ m.1 3 5 = nI (fB op w r) ∧ m.1 3 6 = nI (fA op w r)
/-- one row more under water -/
theorem rise_row {m : dx_M} {op : Nat → Nat → Bool} {w h k : Nat} (hl : LX m op w h k) (hk : k < h) : ∀ y, y ≤ k → spI (m.1 4) k 145 (upd (m.1 5) k (m.1 4 k &&& wyI (nI w) (nI k))) y = IM (wetB op w k y) w := by
  obtain ⟨a1, a2, a3, a4, a5, a6, a7, a8, a9⟩ := hl
  have hways : ∀ x, x < w → ((decide (k = 0) || (decide (x = 0) || decide (x + 1 = w))) = true ↔ (x = 0 ∨ x + 1 = w ∨ k = 0)) := by
    intro x hx
    simp only [Bool.or_eq_true, decide_eq_true_eq]
    omega
  have hrow : m.1 4 k &&& wyI (nI w) (nI k) = IM (fun x => op k x && (decide (k = 0) || (decide (x = 0) || decide (x + 1 = w)))) w := by
    refine IM_ext (fun i hi => ?_)
    rw [b_and, a8 k hk, bt_IM hi]
    by_cases e : k = 0
    · subst e
      rw [show nI 0 = 0 from rfl, wy_0 a2, bt_IM hi]
      by_cases q : i < w <;> simp [q]
    · rw [wy_n a2 a1 (by omega) (by omega), bt_IM hi]
      by_cases q : i < w <;> simp [q, e]
  refine (spread_ok a2 (by omega) (fun y hy => a8 y (by omega)) 145 _ (fun y x => if y = k then (op k x && (decide (k = 0) || (decide (x = 0) || decide (x + 1 = w)))) else wetB op w (k - 1) y x) ?_ ?_ ?_ (by omega)).1
  · intro y hy
    by_cases e : y = k
    · subst e
      rw [pk_us, hrow]
      exact IM_cong (fun x _ => by (try dsimp only); rw [if_pos rfl])
    · rw [pk_un e, a9 y (by omega)]
      exact IM_cong (fun x _ => by (try dsimp only); rw [if_neg e])
  · intro y x hy hx h
    by_cases e : y = k
    · subst e
      rw [if_pos rfl, Bool.and_eq_true] at h
      exact wet_closed op w y y x (Nat.le_refl _) hx h.1 (by
        rcases (hways x hx).mp h.2 with q | q | q
        · exact Or.inl q
        · exact Or.inr (Or.inl q)
        · exact Or.inr (Or.inr (Or.inl q)))
    · rw [if_neg e] at h
      exact wet_mono (by omega) h
  · intro y x hy hx hop hs
    by_cases e : y = k
    · subst e
      rw [if_pos rfl, Bool.and_eq_true]
      exact ⟨hop, (hways x hx).mpr hs⟩
    · rw [if_neg e]
      exact wet_closed op w (k - 1) y x (by omega) hx hop (by
        rcases hs with q | q | q
        · exact Or.inl q
        · exact Or.inr (Or.inl q)
        · exact Or.inr (Or.inr (Or.inl q)))
theorem fb_ok {m : dx_M} {op : Nat → Nat → Bool} {w h r : Nat} (hl : LX m op w h (r + 1)) : ∀ n, n ≤ r → nf (st_fb (nI w) (m.1 5)) n 0 = nI (fb_sm (fun y => fb_ct (fun x => !wetB op w r y x) w) n)
  | 0, _ => rfl
  | n + 1, hn => by
    obtain ⟨a1, a2, a3, a4, a5, a6, a7, a8, a9⟩ := id hl
    rw [nf_succ, fb_ok hl n (by omega)]
    unfold st_fb
    rw [a9 n (by omega), Nat.add_sub_cancel, fm_IM a2, bc_IM a2, fb_sm_succ, nI_add]
