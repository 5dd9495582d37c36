/-! the reference: its flood (printed by wip/whole/g41.py) -/
def lyIn (f : Nat → Int32) (t W H Y X : Nat) (l : Nat → Int32) : Prop := ∀ v u, v < htN t W H → u < wdN t W H → (y0 t v u W H < Y ∨ (y0 t v u W H = Y ∧ x0 t v u W H < X)) → l (12 * v + u) = f (y0 t v u W H * 12 + x0 t v u W H)
theorem lyT_ok {f : Nat → Int32} {t W H Y X : Nat} {l : Nat → Int32} (ht : t < 4) (hW : W ≤ 12) (hH : H ≤ 12) (hX : X < W) (hY : Y < H) (h : lyIn f t W H Y X l) : lyIn f t W H Y (X + 1) (lyT f t W H Y X l) := by
  intro v u hv hu hp
  have e := turn_inv ht hv hu hX hY
  have b1 : u < 12 := Nat.lt_of_lt_of_le hu (wd_le hW hH)
  have b2 : aN t X Y W H < 12 := Nat.lt_of_lt_of_le (aN_lt ht hX hY) (wd_le hW hH)
  by_cases q : v = uN' t X Y W H ∧ u = aN t X Y W H
  · obtain ⟨e1, e2⟩ := e.mpr q
    rw [e1, e2]
    show upd l _ _ (12 * v + u) = _
    rw [show 12 * v + u = 12 * uN' t X Y W H + aN t X Y W H by omega, pk_us]
  · show upd l _ _ (12 * v + u) = _
    rw [pk_un (by omega)]
    refine h v u hv hu ?_
    have : ¬ (x0 t v u W H = X ∧ y0 t v u W H = Y) := fun z => q (e.mp z)
    omega
theorem lyR_ok {f : Nat → Int32} {t W H Y : Nat} {l : Nat → Int32} (ht : t < 4) (hW : W ≤ 12) (hH : H ≤ 12) (hY : Y < H) (h : lyIn f t W H Y 0 l) : ∀ X, X ≤ W → lyIn f t W H Y X (nf (fun x l => lyT f t W H Y x l) X l)
  | 0, _ => h
  | X + 1, hX => lyT_ok ht hW hH (by omega) hY (lyR_ok ht hW hH hY h X (by omega))
theorem lyA_ok {f : Nat → Int32} {t W H : Nat} {l : Nat → Int32} (ht : t < 4) (hW : W ≤ 12) (hH : H ≤ 12) : ∀ Y, Y ≤ H → lyIn f t W H Y 0 (nf (fun y l => nf (fun x l => lyT f t W H y x l) W l) Y l)
  | 0, _ => fun v u _ _ hp => absurd hp (by omega)
  | Y + 1, hY => fun v u hv hu hp => lyR_ok ht hW hH (by omega) (lyA_ok ht hW hH Y (by omega)) W (Nat.le_refl W) v u hv hu (by
      have := x0_lt ht hv hu
      omega)
theorem lyS_ok {f : Nat → Int32} {t W H : Nat} {l : Nat → Int32} (ht : t < 4) (hW : W ≤ 12) (hH : H ≤ 12) {v u : Nat} (hv : v < htN t W H) (hu : u < wdN t W H) : opS f t W H v u = decide (lyS f t W H l (12 * v + u) = -9) := by
  unfold lyS opS
  rw [lyA_ok ht hW hH H (Nat.le_refl H) v u hv hu (Or.inl (y0_lt ht hv hu)), Nat.mul_comm]
def LM (m : dx_M) (op : Nat → Nat → Bool) (w h : Nat) : Prop := 1 ≤ w ∧ w ≤ 12 ∧ h ≤ 12 ∧ m.1 0 18 = nI w ∧ m.1 0 19 = nI h ∧ ∀ v u, v < h → u < w → op v u = decide (m.1 12 (12 * v + u) = -9)
def keepM (m m' : dx_M) : Prop := (∀ k, k ≠ 0 → k ≠ 12 → k ≠ 13 → m'.1 k = m.1 k) ∧ (m'.1 0 0 = m.1 0 0 ∧ m'.1 0 4 = m.1 0 4 ∧ m'.1 0 5 = m.1 0 5 ∧ m'.1 0 6 = m.1 0 6 ∧ m'.1 0 11 = m.1 0 11) ∧ m'.2 0 2 = m.2 0 2 ∧ m'.2 0 3 = m.2 0 3
theorem keepM_rf (m : dx_M) : keepM m m := ⟨fun _ _ _ _ => rfl, ⟨rfl, rfl, rfl, rfl, rfl⟩, rfl, rfl⟩
theorem keepM_tr {a b c : dx_M} (h : keepM a b) (h2 : keepM b c) : keepM a c := by
  obtain ⟨p1, ⟨p2, p3, p4, p5, p6⟩, p7, p8⟩ := h
  obtain ⟨q1, ⟨q2, q3, q4, q5, q6⟩, q7, q8⟩ := h2
  exact ⟨fun k h3 h4 h5 => (q1 k h3 h4 h5).trans (p1 k h3 h4 h5), ⟨q2.trans p2, q3.trans p3, q4.trans p4, q5.trans p5, q6.trans p6⟩, q7.trans p7, q8.trans p8⟩
theorem keepM_13 (m : dx_M) (g : Nat → Int32) : keepM m (dx_pR m 13 g) := ⟨fun k _ _ h => by simp [dx_pR, h], ⟨rfl, rfl, rfl, rfl, rfl⟩, rfl, rfl⟩
theorem LM_13 {m : dx_M} {op : Nat → Nat → Bool} {w h : Nat} (hl : LM m op w h) (g : Nat → Int32) : LM (dx_pR m 13 g) op w h := hl
theorem sX4_layT {d : Nat} (m : dx_M) {W H E : Nat} (hW1 : 1 ≤ W) (hW : W ≤ 12) (hH1 : 1 ≤ H) (hH : H ≤ 12) (eW : m.1 0 4 = nI W) (eH : m.1 0 5 = nI H) (hE : E ≤ 10) (eE : m.1 0 11 = nI E) (hq : ∀ c, c < 144 → sqP (m.1 2 c)) {f : Nat → Int32} (ef : m.1 2 = f) {t : Nat} (ht : t < 4) {Z : Option Value → dx_M → Prop} (h : ∀ m', LM m' (opS f t W H) (wdN t W H) (htN t W H) → m'.2 0 21 = wAM m (nI t) W H E → m'.2 0 22 = wUM m (nI t) W H E → m'.1 13 = m.1 13 → keepM m m' → Z none m') : dx_Sem dx_P lx_M (d + 1) 115 [.ref 0, .int (nI t)] m Z := by
  subst ef
  have hd := wd_1 (t := t) hW1 hH1
  have k1 := wd_le (t := t) hW hH
  have k2 := ht_le (t := t) hW hH
  rcases t_cases ht with rfl | rfl | rfl | rfl
  · exact sX4_lay0 m hW hH eW eH hE eE hq (h _ ⟨hd.1, k1, k2, eW, eH, fun v u hv hu => lyS_ok ht hW hH hv hu⟩ rfl rfl rfl ⟨fun k h1 h2 h3 => by simp [dx_pI, dx_pR, dx_pL, h1, h2], ⟨rfl, rfl, rfl, rfl, rfl⟩, rfl, rfl⟩)
  · exact sX4_lay1 m hW hH eW eH hE eE hq (h _ ⟨hd.1, k1, k2, eH, eW, fun v u hv hu => lyS_ok ht hW hH hv hu⟩ rfl rfl rfl ⟨fun k h1 h2 h3 => by simp [dx_pI, dx_pR, dx_pL, h1, h2], ⟨rfl, rfl, rfl, rfl, rfl⟩, rfl, rfl⟩)
  · exact sX4_lay2 m hW hH eW eH hE eE hq (h _ ⟨hd.1, k1, k2, eW, eH, fun v u hv hu => lyS_ok ht hW hH hv hu⟩ rfl rfl rfl ⟨fun k h1 h2 h3 => by simp [dx_pI, dx_pR, dx_pL, h1, h2], ⟨rfl, rfl, rfl, rfl, rfl⟩, rfl, rfl⟩)
  · exact sX4_lay3 m hW hH eW eH hE eE hq (h _ ⟨hd.1, k1, k2, eH, eW, fun v u hv hu => lyS_ok ht hW hH hv hu⟩ rfl rfl rfl ⟨fun k h1 h2 h3 => by simp [dx_pI, dx_pR, dx_pL, h1, h2], ⟨rfl, rfl, rfl, rfl, rfl⟩, rfl, rfl⟩)
def nb1 (g : Nat → Int32) (y x : Nat) : Bool := decide (0 < x) && decide (¬ g (12 * y + (x - 1)) = 0)
def nb2 (g : Nat → Int32) (w y x : Nat) : Bool := decide (x + 1 < w) && decide (¬ g (12 * y + (x + 1)) = 0)
def nb3 (g : Nat → Int32) (y x : Nat) : Bool := decide (0 < y) && decide (¬ g (12 * (y - 1) + x) = 0)
def nb4 (g : Nat → Int32) (r y x : Nat) : Bool := decide (y < r) && decide (¬ g (12 * (y + 1) + x) = 0)
def msB (op : Nat → Nat → Bool) (w r y x : Nat) (g : Nat → Int32) : Bool := (op y x && decide (g (12 * y + x) = 0)) && (decide (x = 0) || (decide (x + 1 = w) || (decide (y = 0) || (nb1 g y x || (nb2 g w y x || (nb3 g y x || nb4 g r y x))))))
def msS (op : Nat → Nat → Bool) (w r y x : Nat) (s : (Nat → Int32) × Bool) : (Nat → Int32) × Bool := if msB op w r y x s.1 = true then (upd s.1 (12 * y + x) 1, true) else s
def msP (op : Nat → Nat → Bool) (w r : Nat) (g : Nat → Int32) : (Nat → Int32) × Bool := nf (fun y s => nf (fun x s => msS op w r y x s) w s) (r + 1) (g, false)
theorem msB_t {op : Nat → Nat → Bool} {w r y x : Nat} {g : Nat → Int32} (ho : op y x = true) (hz : g (12 * y + x) = 0) (hn : x = 0 ∨ x + 1 = w ∨ y = 0 ∨ nb1 g y x = true ∨ nb2 g w y x = true ∨ nb3 g y x = true ∨ nb4 g r y x = true) : msB op w r y x g = true := by
  unfold msB
  simp only [Bool.and_eq_true, Bool.or_eq_true, decide_eq_true_eq]
  exact ⟨⟨ho, hz⟩, hn⟩
theorem msB_f1 {op : Nat → Nat → Bool} {w r y x : Nat} {g : Nat → Int32} (ho : ¬ op y x = true) : ¬ msB op w r y x g = true := by
  unfold msB
  simp only [Bool.and_eq_true]
  exact fun z => ho z.1.1
theorem msB_f2 {op : Nat → Nat → Bool} {w r y x : Nat} {g : Nat → Int32} (ho : ¬ g (12 * y + x) = 0) : ¬ msB op w r y x g = true := by
  unfold msB
  simp only [Bool.and_eq_true, decide_eq_true_eq]
  exact fun z => ho z.1.2
theorem msB_f3 {op : Nat → Nat → Bool} {w r y x : Nat} {g : Nat → Int32} (h1 : ¬ x = 0) (h2 : ¬ x + 1 = w) (h3 : ¬ y = 0) (h4 : nb1 g y x = false) (h5 : nb2 g w y x = false) (h6 : nb3 g y x = false) (h7 : nb4 g r y x = false) : ¬ msB op w r y x g = true := by
  unfold msB
  rw [h4, h5, h6, h7]
  simp [h1, h2, h3]
/-- one pass of the reference's flood, as far as it has come -/
def msI (op : Nat → Nat → Bool) (w r : Nat) (g0 : Nat → Int32) (Y X : Nat) (s : (Nat → Int32) × Bool) : Prop :=
  (∀ y x, y ≤ r → x < w → ¬ g0 (12 * y + x) = 0 → ¬ s.1 (12 * y + x) = 0) ∧
  (∀ k, s.1 k = 0 ∨ s.1 k = 1) ∧
  (∀ y x, y ≤ r → x < w → ¬ s.1 (12 * y + x) = 0 → wetB op w r y x = true) ∧
  (s.2 = false → s.1 = g0 ∧ ∀ y x, (y < Y ∨ (y = Y ∧ x < X)) → y ≤ r → x < w → msB op w r y x g0 = false) ∧
  (s.2 = true → ∃ y x, y ≤ r ∧ x < w ∧ g0 (12 * y + x) = 0 ∧ ¬ s.1 (12 * y + x) = 0)
theorem msB_wet {op : Nat → Nat → Bool} {w r y x : Nat} {g : Nat → Int32} (hy : y ≤ r) (hx : x < w) (hs : ∀ y x, y ≤ r → x < w → ¬ g (12 * y + x) = 0 → wetB op w r y x = true) (h : msB op w r y x g = true) : wetB op w r y x = true := by
  unfold msB nb1 nb2 nb3 nb4 at h
  simp only [Bool.and_eq_true, Bool.or_eq_true, decide_eq_true_eq] at h
  obtain ⟨⟨ho, -⟩, h⟩ := h
  refine wet_closed op w r y x hy hx ho ?_
  rcases h with h | h | h | ⟨h, k⟩ | ⟨h, k⟩ | ⟨h, k⟩ | ⟨h, k⟩
  · exact Or.inl h
  · exact Or.inr (Or.inl h)
  · exact Or.inr (Or.inr (Or.inl h))
  · exact Or.inr (Or.inr (Or.inr (Or.inl ⟨h, hs y (x - 1) hy (by omega) k⟩)))
  · exact Or.inr (Or.inr (Or.inr (Or.inr (Or.inl ⟨h, hs y (x + 1) hy h k⟩))))
  · exact Or.inr (Or.inr (Or.inr (Or.inr (Or.inr (Or.inl ⟨h, hs (y - 1) x (by omega) hx k⟩)))))
  · exact Or.inr (Or.inr (Or.inr (Or.inr (Or.inr (Or.inr ⟨h, hs (y + 1) x (by omega) hx k⟩)))))
theorem msS_ok {op : Nat → Nat → Bool} {w r Y X : Nat} {g0 : Nat → Int32} {s : (Nat → Int32) × Bool} (hw : w ≤ 12) (hY : Y ≤ r) (hX : X < w) (h : msI op w r g0 Y X s) : msI op w r g0 Y (X + 1) (msS op w r Y X s) := by
  obtain ⟨h1, h2, h3, h4, h5⟩ := h
  unfold msS
  by_cases q : msB op w r Y X s.1 = true
  · rw [if_pos q]
    have hz : s.1 (12 * Y + X) = 0 := by
      unfold msB at q
      simp only [Bool.and_eq_true, decide_eq_true_eq] at q
      exact q.1.2
    have hup : ∀ y x, x < w → ¬ upd s.1 (12 * Y + X) 1 (12 * y + x) = 0 → (y = Y ∧ x = X) ∨ ¬ s.1 (12 * y + x) = 0 := by
      intro y x hx hne
      by_cases e : y = Y ∧ x = X
      · exact Or.inl e
      · rw [pk_un (by omega)] at hne
        exact Or.inr hne
    refine ⟨fun y x hy hx hne => ?_, fun k => ?_, fun y x hy hx hne => ?_, (fun hf => (by cases hf)), fun _ => ⟨Y, X, hY, hX, ?_, ?_⟩⟩
    · show ¬ upd s.1 (12 * Y + X) 1 (12 * y + x) = 0
      by_cases e : 12 * y + x = 12 * Y + X
      · rw [e, pk_us]; decide
      · rw [pk_un e]; exact h1 y x hy hx hne
    · show upd s.1 (12 * Y + X) 1 k = 0 ∨ upd s.1 (12 * Y + X) 1 k = 1
      by_cases e : k = 12 * Y + X
      · rw [e, pk_us]; exact Or.inr rfl
      · rw [pk_un e]; exact h2 k
    · rcases hup y x hx hne with ⟨rfl, rfl⟩ | k
      · exact msB_wet hy hx h3 q
      · exact h3 y x hy hx k
    · refine Decidable.not_not.mp (fun z => h1 Y X hY hX z hz)
    · show ¬ upd s.1 (12 * Y + X) 1 (12 * Y + X) = 0
      rw [pk_us]; decide
  · rw [if_neg q]
    refine ⟨h1, h2, h3, fun hf => ⟨(h4 hf).1, fun y x hp hy hx => ?_⟩, h5⟩
    by_cases e : y = Y ∧ x = X
    · obtain ⟨rfl, rfl⟩ := e
      rw [(h4 hf).1] at q
      simpa using q
    · exact (h4 hf).2 y x (by omega) hy hx
theorem msR_ok {op : Nat → Nat → Bool} {w r Y : Nat} {g0 : Nat → Int32} {s : (Nat → Int32) × Bool} (hw : w ≤ 12) (hY : Y ≤ r) (h : msI op w r g0 Y 0 s) : ∀ X, X ≤ w → msI op w r g0 Y X (nf (fun x s => msS op w r Y x s) X s)
  | 0, _ => h
  | X + 1, hX => msS_ok hw hY (by omega) (msR_ok hw hY h X (by omega))
theorem msA_ok {op : Nat → Nat → Bool} {w r : Nat} {g0 : Nat → Int32} (hw : w ≤ 12) (hb : ∀ k, g0 k = 0 ∨ g0 k = 1) (hs : ∀ y x, y ≤ r → x < w → ¬ g0 (12 * y + x) = 0 → wetB op w r y x = true) : ∀ Y, Y ≤ r + 1 → msI op w r g0 Y 0 (nf (fun y s => nf (fun x s => msS op w r y x s) w s) Y (g0, false))
  | 0, _ => ⟨fun _ _ _ _ h => h, hb, hs, fun _ => ⟨rfl, fun y x hp _ _ => absurd hp (by omega)⟩, fun h => by cases h⟩
  | Y + 1, hY => by
    obtain ⟨h1, h2, h3, h4, h5⟩ := msR_ok hw (show Y ≤ r by omega) (msA_ok hw hb hs Y (by omega)) w (Nat.le_refl w)
    exact ⟨h1, h2, h3, fun hf => ⟨(h4 hf).1, fun y x hp hy hx => (h4 hf).2 y x (by omega) hy hx⟩, h5⟩
/-- the pass that changes nothing has the flood -/
theorem ms_end {op : Nat → Nat → Bool} {w r : Nat} {g : Nat → Int32} (hb : ∀ k, g k = 0 ∨ g k = 1) (hs : ∀ y x, y ≤ r → x < w → ¬ g (12 * y + x) = 0 → wetB op w r y x = true) (hc : ∀ y x, y ≤ r → x < w → msB op w r y x g = false) : ∀ y x, y ≤ r → x < w → g (12 * y + x) = bI (wetB op w r y x) := by
  have key := wet_is (op := op) (w := w) (r := r) (T := fun y x => decide (¬ g (12 * y + x) = 0)) (fun y x hy hx h => hs y x hy hx (of_decide_eq_true h)) (fun y x hy hx ho hn => ⟨hy, hx, ?_⟩)
  · intro y x hy hx
    rw [← key y x hy hx]
    rcases hb (12 * y + x) with e | e
    · rw [e]; rfl
    · rw [e]; rfl
  · refine decide_eq_true (fun z => ?_)
    have e := hc y x hy hx
    have e2 : msB op w r y x g = true := by
      unfold msB nb1 nb2 nb3 nb4
      simp only [Bool.and_eq_true, Bool.or_eq_true, decide_eq_true_eq]
      refine ⟨⟨ho, z⟩, ?_⟩
      rcases hn with h | h | h | ⟨h, -, -, k⟩ | ⟨h, -, -, k⟩ | ⟨h, -, -, k⟩ | ⟨h, -, -, k⟩
      · exact Or.inl h
      · exact Or.inr (Or.inl h)
      · exact Or.inr (Or.inr (Or.inl h))
      · exact Or.inr (Or.inr (Or.inr (Or.inl ⟨h, of_decide_eq_true k⟩)))
      · exact Or.inr (Or.inr (Or.inr (Or.inr (Or.inl ⟨h, of_decide_eq_true k⟩))))
      · exact Or.inr (Or.inr (Or.inr (Or.inr (Or.inr (Or.inl ⟨h, of_decide_eq_true k⟩)))))
      · exact Or.inr (Or.inr (Or.inr (Or.inr (Or.inr (Or.inr ⟨h, of_decide_eq_true k⟩)))))
    rw [e] at e2
    cases e2
theorem in_le {a n : Nat} (h : a ≤ n) (hn : n < 1000) : inI (nI a) 0 (nI n) = true := inI_t.mpr ⟨nI_le (a := 0) (by omega) (by omega), nI_le h (by omega)⟩
theorem nI_inj' {a b : Nat} (ha : a < 1000) (hb : b < 1000) (h : nI a = nI b) : a = b := by
  have e := congrArg Int32.toInt h
  rw [nI_toInt (by omega), nI_toInt (by omega)] at e
  omega
theorem nI_m1 {x a : Nat} (hx : x < 1000) (ha : a < 1000) (h : nI x - 1 = nI a) : x = a + 1 := by
  have e := congrArg Int32.toInt h
  rw [nI_toInt (by omega), show (nI x - 1).toInt = (x : Int) - 1 from pk_sub_toInt (a := x) (b := 1) (by omega) (by decide)] at e
  omega
set_option maxRecDepth 20000 in
theorem sX4_isWetAt {d : Nat} (m : dx_M) {w r : Nat} (hw1 : 1 ≤ w) (hw : w ≤ 12) (hr : r < 12) (ew : m.1 0 18 = nI w) (a b : Int32) {Z : Option Value → dx_M → Prop} (h1 : (inI a 0 (nI w - 1) && inI b 0 (nI r)) = false → Z (some (.int 0)) m) (h2 : ∀ xa yb : Nat, a = nI xa → b = nI yb → xa < w → yb ≤ r → Z (some (.int (bI (decide (¬ m.1 13 (12 * yb + xa) = 0))))) m) : dx_Sem dx_P lx_M (d + 2) 116 [.ref 0, .int a, .int b, .int (nI r)] m Z := by
  refine dx_sem km_X4_isWetAt rfl rfl ?_
  refine dx_blk 0 (c' := (0, [.ref 0, .int a, .int b, .int (nI r)], [], m)) rfl ?_
  refine dx_blk 6 (c' := (8, [.ref 0, .int a, .int b, .int (nI r)], [.int ((m.1 0 18) - 1), .int 0, .int a], m)) rfl ?_
  refine dx_call (id := 82) (as := [.int a, .int 0, .int ((m.1 0 18) - 1)]) (rest := []) rfl ?_
  refine sX4_in _ _ _ _ ?_
  rw [ew]
  refine dx_blk 0 (c' := (11, [.ref 0, .int a, .int b, .int (nI r)], [.int (bI (inI a 0 (nI w - 1)))], m)) rfl ?_
  refine dx_brB (B := (inI a 0 (nI w - 1))) (a := 41) (b := 14) (L := [.ref 0, .int a, .int b, .int (nI r)]) (st := []) (m := m) rfl (fun h11 => ?_) (fun h11 => ?_)
  · refine dx_blk 1 (c' := (42, [.ref 0, .int a, .int b, .int (nI r)], [.int 0], m)) rfl ?_
    exact dx_ret (r := some (.int 0)) rfl (by first | (have hz := h2 xa yb rfl rfl hxa hyb; rw [decide_eq_false (fun z => z q34)] at hz; exact hz) | exact h1 (by simp [*]))
  · refine dx_blk 3 (c' := (17, [.ref 0, .int a, .int b, .int (nI r)], [.int (nI r), .int 0, .int b], m)) rfl ?_
    refine dx_call (id := 82) (as := [.int b, .int 0, .int (nI r)]) (rest := []) rfl ?_
    refine sX4_in b 0 (nI r) _ ?_
    refine dx_blk 0 (c' := (20, [.ref 0, .int a, .int b, .int (nI r)], [.int (bI (inI b 0 (nI r)))], m)) rfl ?_
    refine dx_brB (B := (inI b 0 (nI r))) (a := 41) (b := 23) (L := [.ref 0, .int a, .int b, .int (nI r)]) (st := []) (m := m) rfl (fun h20 => ?_) (fun h20 => ?_)
    · refine dx_blk 1 (c' := (42, [.ref 0, .int a, .int b, .int (nI r)], [.int 0], m)) rfl ?_
      exact dx_ret (r := some (.int 0)) rfl (by first | (have hz := h2 xa yb rfl rfl hxa hyb; rw [decide_eq_false (fun z => z q34)] at hz; exact hz) | exact h1 (by simp [*]))
    · obtain ⟨xa, hxa, rfl⟩ := in_P hw1 (by omega) h11
      obtain ⟨yb, hyb, rfl⟩ := in_N (n := r) (x := b) (M := nI r) (nI_toInt (by omega)) h20
      refine dx_blk 7 (c' := (33, [.ref 0, .int (nI xa), .int (nI yb), .int (nI r)], [.int ((12 * (nI yb)) + (nI xa)), .ref 13], m)) rfl ?_
      refine dx_bldN (12 * yb + xa) rfl rfl (Or.inr rfl) (nI_ix2 _ _) (by omega) ?_
      refine dx_blk 0 (c' := (34, [.ref 0, .int (nI xa), .int (nI yb), .int (nI r)], [.int (m.1 13 (12 * yb + xa))], m)) rfl ?_
      refine dx_br (q := (m.1 13 (12 * yb + xa)) = 0) (a := 41) (b := 37) (L := [.ref 0, .int (nI xa), .int (nI yb), .int (nI r)]) (st := []) (m := m) rfl (fun q34 => ?_) (fun q34 => ?_)
      · refine dx_blk 1 (c' := (42, [.ref 0, .int (nI xa), .int (nI yb), .int (nI r)], [.int 0], m)) rfl ?_
        exact dx_ret (r := some (.int 0)) rfl (by first | (have hz := h2 xa yb rfl rfl hxa hyb; rw [decide_eq_false (fun z => z q34)] at hz; exact hz) | exact h1 (by simp [*]))
      · refine dx_blk 2 (c' := (42, [.ref 0, .int (nI xa), .int (nI yb), .int (nI r)], [.int 1], m)) rfl ?_
        exact dx_ret (r := some (.int 1)) rfl (by have hz := h2 xa yb rfl rfl hxa hyb; rw [decide_eq_true q34] at hz; exact hz)
theorem sX4_wet1 {d : Nat} (m : dx_M) {w r : Nat} (hw1 : 1 ≤ w) (hw : w ≤ 12) (hr : r < 12) (ew : m.1 0 18 = nI w) {x y : Nat} (hx : x < w) (hy : y ≤ r) {Z : Option Value → dx_M → Prop} (h : Z (some (.int (bI (nb1 (m.1 13) y x)))) m) : dx_Sem dx_P lx_M (d + 2) 116 [.ref 0, .int (nI x - 1), .int (nI y), .int (nI r)] m Z := by
  refine sX4_isWetAt m hw1 hw hr ew _ _ (fun e => ?_) (fun xa yb ea eb hxa hyb => ?_)
  · have q : ¬ 0 < x := fun q => by
      rw [show nI x - 1 = nI (x - 1) from pk_sub (a := x) (b := 1) (by omega), show nI w - 1 = nI (w - 1) from pk_sub (a := w) (b := 1) (by omega), in_le (by omega) (by omega), in_le (by omega) (by omega)] at e
      cases e
    have e2 : nb1 (m.1 13) y x = false := by unfold nb1; rw [decide_eq_false q, Bool.false_and]
    rw [e2] at h
    exact h
  · have q : xa = x - 1 ∧ yb = y ∧ 0 < x := by have := nI_m1 (by omega) (by omega) ea; have := nI_inj' (by omega) (by omega) eb; omega
    have e2 : nb1 (m.1 13) y x = decide (¬ m.1 13 (12 * yb + xa) = 0) := by unfold nb1; rw [q.1, q.2.1, decide_eq_true q.2.2, Bool.true_and]
    rw [e2] at h
    exact h
theorem sX4_wet2 {d : Nat} (m : dx_M) {w r : Nat} (hw1 : 1 ≤ w) (hw : w ≤ 12) (hr : r < 12) (ew : m.1 0 18 = nI w) {x y : Nat} (hx : x < w) (hy : y ≤ r) {Z : Option Value → dx_M → Prop} (h : Z (some (.int (bI (nb2 (m.1 13) w y x)))) m) : dx_Sem dx_P lx_M (d + 2) 116 [.ref 0, .int (nI x + 1), .int (nI y), .int (nI r)] m Z := by
  refine sX4_isWetAt m hw1 hw hr ew _ _ (fun e => ?_) (fun xa yb ea eb hxa hyb => ?_)
  · have q : ¬ x + 1 < w := fun q => by
      rw [nI_1, show nI w - 1 = nI (w - 1) from pk_sub (a := w) (b := 1) (by omega), in_le (by omega) (by omega), in_le (by omega) (by omega)] at e
      cases e
    have e2 : nb2 (m.1 13) w y x = false := by unfold nb2; rw [decide_eq_false q, Bool.false_and]
    rw [e2] at h
    exact h
  · have q : xa = x + 1 ∧ yb = y ∧ x + 1 < w := by rw [nI_1] at ea; have := nI_inj' (by omega) (by omega) ea; have := nI_inj' (by omega) (by omega) eb; omega
    have e2 : nb2 (m.1 13) w y x = decide (¬ m.1 13 (12 * yb + xa) = 0) := by unfold nb2; rw [q.1, q.2.1, decide_eq_true q.2.2, Bool.true_and]
    rw [e2] at h
    exact h
theorem sX4_wet3 {d : Nat} (m : dx_M) {w r : Nat} (hw1 : 1 ≤ w) (hw : w ≤ 12) (hr : r < 12) (ew : m.1 0 18 = nI w) {x y : Nat} (hx : x < w) (hy : y ≤ r) {Z : Option Value → dx_M → Prop} (h : Z (some (.int (bI (nb3 (m.1 13) y x)))) m) : dx_Sem dx_P lx_M (d + 2) 116 [.ref 0, .int (nI x), .int (nI y - 1), .int (nI r)] m Z := by
  refine sX4_isWetAt m hw1 hw hr ew _ _ (fun e => ?_) (fun xa yb ea eb hxa hyb => ?_)
  · have q : ¬ 0 < y := fun q => by
      rw [show nI y - 1 = nI (y - 1) from pk_sub (a := y) (b := 1) (by omega), show nI w - 1 = nI (w - 1) from pk_sub (a := w) (b := 1) (by omega), in_le (by omega) (by omega), in_le (by omega) (by omega)] at e
      cases e
    have e2 : nb3 (m.1 13) y x = false := by unfold nb3; rw [decide_eq_false q, Bool.false_and]
    rw [e2] at h
    exact h
  · have q : xa = x ∧ yb = y - 1 ∧ 0 < y := by have := nI_inj' (by omega) (by omega) ea; have := nI_m1 (by omega) (by omega) eb; omega
    have e2 : nb3 (m.1 13) y x = decide (¬ m.1 13 (12 * yb + xa) = 0) := by unfold nb3; rw [q.1, q.2.1, decide_eq_true q.2.2, Bool.true_and]
    rw [e2] at h
    exact h
theorem sX4_wet4 {d : Nat} (m : dx_M) {w r : Nat} (hw1 : 1 ≤ w) (hw : w ≤ 12) (hr : r < 12) (ew : m.1 0 18 = nI w) {x y : Nat} (hx : x < w) (hy : y ≤ r) {Z : Option Value → dx_M → Prop} (h : Z (some (.int (bI (nb4 (m.1 13) r y x)))) m) : dx_Sem dx_P lx_M (d + 2) 116 [.ref 0, .int (nI x), .int (nI y + 1), .int (nI r)] m Z := by
  refine sX4_isWetAt m hw1 hw hr ew _ _ (fun e => ?_) (fun xa yb ea eb hxa hyb => ?_)
  · have q : ¬ y < r := fun q => by
      rw [nI_1, show nI w - 1 = nI (w - 1) from pk_sub (a := w) (b := 1) (by omega), in_le (by omega) (by omega), in_le (by omega) (by omega)] at e
      cases e
    have e2 : nb4 (m.1 13) r y x = false := by unfold nb4; rw [decide_eq_false q, Bool.false_and]
    rw [e2] at h
    exact h
  · have q : xa = x ∧ yb = y + 1 ∧ y < r := by rw [nI_1] at eb; have := nI_inj' (by omega) (by omega) ea; have := nI_inj' (by omega) (by omega) eb; omega
    have e2 : nb4 (m.1 13) r y x = decide (¬ m.1 13 (12 * yb + xa) = 0) := by unfold nb4; rw [q.1, q.2.1, decide_eq_true q.2.2, Bool.true_and]
    rw [e2] at h
    exact h
set_option maxRecDepth 20000 in
set_option maxHeartbeats 2000000 in
theorem lp_mpass {d : Nat} (m : dx_M) {Z : Option Value → dx_M → Prop} {op : Nat → Nat → Bool} {w r : Nat} (hw1 : 1 ≤ w) (hw : w ≤ 12) (hr : r < 12) (ew : m.1 0 18 = nI w) (hop : ∀ v u, v ≤ r → u < w → op v u = decide (m.1 12 (12 * v + u) = -9)) (g : Nat → Int32) (hk : dx_Go (d + 2) (dx_Sem dx_P lx_M (d + 2)) lx_M km_X4_spread Z (24, [.ref 0, .int (nI r), .int (bI (msP op w r g).2), .null, .null, .null, .null], [], dx_pR m 13 ((msP op w r g).1))) : dx_Go (d + 2) (dx_Sem dx_P lx_M (d + 2)) lx_M km_X4_spread Z (24, [.ref 0, .int (nI r), .int (bI true), .null, .null, .null, .null], [], dx_pR m 13 g) := by
  refine dx_blk 0 (c' := (24, [.ref 0, .int (nI r), .int (bI true), .null, .null, .null, .null], [], dx_pR m 13 g)) rfl ?_
  refine dx_blk 1 (c' := (25, [.ref 0, .int (nI r), .int (bI true), .null, .null, .null, .null], [.int (bI true)], dx_pR m 13 g)) rfl ?_
  refine dx_br (q := (bI true) = 0) (a := 207) (b := 28) (L := [.ref 0, .int (nI r), .int (bI true), .null, .null, .null, .null]) (st := []) (m := dx_pR m 13 g) rfl (fun h => absurd h (by decide)) (fun _ => ?_)
  refine dx_blk 4 (c' := (32, [.ref 0, .int (nI r), .int 0, .int 0, .null, .null, .null], [], dx_pR m 13 g)) rfl ?_
  refine dx_blk 0 (c' := (32, [.ref 0, .int (nI r), .int (bI (g, false).2), .int (nI 0), .null, .null, .null], [], dx_pR m 13 ((g, false).1))) rfl ?_
  refine dx_for (fun (y : Nat) (u : (Nat → Int32) × Bool) => ((32, [.ref 0, .int (nI r), .int (bI u.2), .int (nI y), .null, .null, .null], [], dx_pR m 13 u.1) : dx_F)) (fun (y : Nat) (u : (Nat → Int32) × Bool) => nf (fun (x : Nat) (s : (Nat → Int32) × Bool) => msS op w r y x s) w u) (fun _ _ => True) (r + 1) (g, false) trivial (fun y u hi hI hk => ?_) (fun _ _ _ _ => trivial) (fun hN => ?_)
  · refine dx_blk 0 (c' := (32, [.ref 0, .int (nI r), .int (bI u.2), .int (nI y), .null, .null, .null], [], dx_pR m 13 u.1)) rfl ?_
    have hy : y < r + 1 := hi
    refine dx_blk 2 (c' := (34, [.ref 0, .int (nI r), .int (bI u.2), .int (nI y), .null, .null, .null], [.int (nI r), .int (nI y)], dx_pR m 13 u.1)) rfl ?_
    refine dx_br (q := (nI r) < (nI y)) (a := 204) (b := 37) (L := [.ref 0, .int (nI r), .int (bI u.2), .int (nI y), .null, .null, .null]) (st := []) (m := dx_pR m 13 u.1) rfl (fun h => absurd h (nI_nlt (by omega) (by omega))) (fun _ => ?_)
    refine dx_blk 2 (c' := (40, [.ref 0, .int (nI r), .int (bI u.2), .int (nI y), .int 0, .null, .null], [], dx_pR m 13 u.1)) rfl ?_
    refine dx_blk 0 (c' := (40, [.ref 0, .int (nI r), .int (bI u.2), .int (nI y), .int (nI 0), .null, .null], [], dx_pR m 13 u.1)) rfl ?_
    refine dx_for (fun (x : Nat) (s : (Nat → Int32) × Bool) => ((40, [.ref 0, .int (nI r), .int (bI s.2), .int (nI y), .int (nI x), .null, .null], [], dx_pR m 13 s.1) : dx_F)) (fun (x : Nat) (s : (Nat → Int32) × Bool) => msS op w r y x s) (fun _ _ => True) w u trivial (fun x s hi hI hk => ?_) (fun _ _ _ _ => trivial) (fun hN => ?_)
    · refine dx_blk 0 (c' := (40, [.ref 0, .int (nI r), .int (bI s.2), .int (nI y), .int (nI x), .null, .null], [], dx_pR m 13 s.1)) rfl ?_
      refine dx_blk 3 (c' := (46, [.ref 0, .int (nI r), .int (bI s.2), .int (nI y), .int (nI x), .null, .null], [.int (m.1 0 18), .int (nI x)], dx_pR m 13 s.1)) rfl ?_
      refine dx_br (q := (m.1 0 18) ≤ (nI x)) (a := 198) (b := 49) (L := [.ref 0, .int (nI r), .int (bI s.2), .int (nI y), .int (nI x), .null, .null]) (st := []) (m := dx_pR m 13 s.1) rfl (fun h => absurd h (by rw [ew]; exact nI_ge hi (by omega))) (fun _ => ?_)
      rcases Decidable.em (op y x = true) with qo | qo
      · refine dx_blk 0 (c' := (49, [.ref 0, .int (nI r), .int (bI s.2), .int (nI y), .int (nI x), .null, .null], [], dx_pR m 13 s.1)) rfl ?_
        refine dx_blk 7 (c' := (60, [.ref 0, .int (nI r), .int (bI s.2), .int (nI y), .int (nI x), .null, .null], [.int ((12 * (nI y)) + (nI x)), .ref 12], dx_pR m 13 s.1)) rfl ?_
        refine dx_aldN (12 * y + x) rfl rfl rfl (nI_ix2 _ _) (by omega) ?_
        refine dx_blk 0 (c' := (61, [.ref 0, .int (nI r), .int (bI s.2), .int (nI y), .int (nI x), .null, .null], [.int (m.1 12 (12 * y + x))], dx_pR m 13 s.1)) rfl ?_
        refine dx_blk 1 (c' := (63, [.ref 0, .int (nI r), .int (bI s.2), .int (nI y), .int (nI x), .null, .null], [.int (-9), .int (m.1 12 (12 * y + x))], dx_pR m 13 s.1)) rfl ?_
        refine dx_br (q := (m.1 12 (12 * y + x)) = (-9)) (a := 66) (b := 85) (L := [.ref 0, .int (nI r), .int (bI s.2), .int (nI y), .int (nI x), .null, .null]) (st := []) (m := dx_pR m 13 s.1) rfl (fun _ => ?_) (fun h => absurd (of_decide_eq_true ((hop y x (by omega) hi).symm.trans qo)) h)
        refine dx_blk 7 (c' := (77, [.ref 0, .int (nI r), .int (bI s.2), .int (nI y), .int (nI x), .null, .null], [.int ((12 * (nI y)) + (nI x)), .ref 13], dx_pR m 13 s.1)) rfl ?_
        refine dx_bldN (12 * y + x) rfl rfl (Or.inr rfl) (nI_ix2 _ _) (by omega) ?_
        refine dx_blk 0 (c' := (78, [.ref 0, .int (nI r), .int (bI s.2), .int (nI y), .int (nI x), .null, .null], [.int (s.1 (12 * y + x))], dx_pR m 13 s.1)) rfl ?_
        refine dx_br (q := (s.1 (12 * y + x)) = 0) (a := 81) (b := 85) (L := [.ref 0, .int (nI r), .int (bI s.2), .int (nI y), .int (nI x), .null, .null]) (st := []) (m := dx_pR m 13 s.1) rfl (fun q78 => ?_) (fun q78 => ?_)
        · refine dx_blk 3 (c' := (88, [.ref 0, .int (nI r), .int (bI s.2), .int (nI y), .int (nI x), .int 1, .null], [], dx_pR m 13 s.1)) rfl ?_
          rcases Decidable.em (x = 0) with qx | qx
          · refine dx_blk 0 (c' := (88, [.ref 0, .int (nI r), .int (bI s.2), .int (nI y), .int (nI x), .int 1, .null], [], dx_pR m 13 s.1)) rfl ?_
            refine dx_blk 1 (c' := (90, [.ref 0, .int (nI r), .int (bI s.2), .int (nI y), .int (nI x), .int 1, .null], [.int (nI x)], dx_pR m 13 s.1)) rfl ?_
            refine dx_br (q := (nI x) = 0) (a := 108) (b := 93) (L := [.ref 0, .int (nI r), .int (bI s.2), .int (nI y), .int (nI x), .int 1, .null]) (st := []) (m := dx_pR m 13 s.1) rfl (fun _ => ?_) (fun h => absurd (by rw [qx]; rfl) h)
            refine dx_blk 4 (c' := (117, [.ref 0, .int (nI r), .int (bI s.2), .int (nI y), .int (nI x), .int 1, .int 1], [.int 1], dx_pR m 13 s.1)) rfl ?_
            refine dx_br (q := (1 : Int32) = 0) (a := 192) (b := 120) (L := [.ref 0, .int (nI r), .int (bI s.2), .int (nI y), .int (nI x), .int 1, .int 1]) (st := []) (m := dx_pR m 13 s.1) rfl (fun h => absurd h (by decide)) (fun _ => ?_)
            refine dx_blk 1 (c' := (122, [.ref 0, .int (nI r), .int (bI s.2), .int (nI y), .int (nI x), .int 1, .int 1], [.int 1], dx_pR m 13 s.1)) rfl ?_
            refine dx_br (q := (1 : Int32) = 0) (a := 125) (b := 177) (L := [.ref 0, .int (nI r), .int (bI s.2), .int (nI y), .int (nI x), .int 1, .int 1]) (st := []) (m := dx_pR m 13 s.1) rfl (fun h => absurd h (by decide)) (fun _ => ?_)
            refine dx_blk 8 (c' := (189, [.ref 0, .int (nI r), .int (bI s.2), .int (nI y), .int (nI x), .int 1, .int 1], [.int 1, .int ((12 * (nI y)) + (nI x)), .ref 13], dx_pR m 13 s.1)) rfl ?_
            refine dx_bstZ (12 * y + x) rfl rfl rfl (nI_ix2 _ _) (by omega) (Or.inr rfl) ?_
            refine dx_blk 0 (c' := (190, [.ref 0, .int (nI r), .int (bI s.2), .int (nI y), .int (nI x), .int 1, .int 1], [], dx_pI (dx_pR m 13 s.1) 13 (12 * y + x) 1)) rfl ?_
            refine dx_blk 4 (c' := (40, [.ref 0, .int (nI r), .int 1, .int (nI y), .int ((nI x) + 1), .int 1, .int 1], [], dx_pI (dx_pR m 13 s.1) 13 (12 * y + x) 1)) rfl ?_
            refine dx_fgt [.ref 0, .int (nI r), .int 1, .int (nI y), .int ((nI x) + 1), .null, .null] (And.intro (Or.inr rfl) (And.intro (Or.inr rfl) (And.intro (Or.inr rfl) (And.intro (Or.inr rfl) (And.intro (Or.inr rfl) (And.intro (Or.inl rfl) (And.intro (Or.inl rfl) trivial))))))) ?_
            have e : msB op w r y x s.1 = true := by first | exact msB_t qo q78 (Or.inl qx) | exact msB_t qo q78 (Or.inr (Or.inl qw)) | exact msB_t qo q78 (Or.inr (Or.inr (Or.inl qy))) | exact msB_t qo q78 (Or.inr (Or.inr (Or.inr (Or.inl h135)))) | exact msB_t qo q78 (Or.inr (Or.inr (Or.inr (Or.inr (Or.inl h148))))) | exact msB_t qo q78 (Or.inr (Or.inr (Or.inr (Or.inr (Or.inr (Or.inl h161)))))) | exact msB_t qo q78 (Or.inr (Or.inr (Or.inr (Or.inr (Or.inr (Or.inr h174))))))
            unfold msS at hk
            rw [if_pos e] at hk
            rw [dx_pI_pR, ← nI_succ]
            exact hk
          · refine dx_blk 0 (c' := (88, [.ref 0, .int (nI r), .int (bI s.2), .int (nI y), .int (nI x), .int 1, .null], [], dx_pR m 13 s.1)) rfl ?_
            refine dx_blk 1 (c' := (90, [.ref 0, .int (nI r), .int (bI s.2), .int (nI y), .int (nI x), .int 1, .null], [.int (nI x)], dx_pR m 13 s.1)) rfl ?_
            refine dx_br (q := (nI x) = 0) (a := 108) (b := 93) (L := [.ref 0, .int (nI r), .int (bI s.2), .int (nI y), .int (nI x), .int 1, .null]) (st := []) (m := dx_pR m 13 s.1) rfl (fun h => absurd h (nI_ne0 (by omega) (by omega))) (fun _ => ?_)
            rcases Decidable.em (x + 1 = w) with qw | qw
            · refine dx_blk 0 (c' := (93, [.ref 0, .int (nI r), .int (bI s.2), .int (nI y), .int (nI x), .int 1, .null], [], dx_pR m 13 s.1)) rfl ?_
              refine dx_blk 5 (c' := (101, [.ref 0, .int (nI r), .int (bI s.2), .int (nI y), .int (nI x), .int 1, .null], [.int ((m.1 0 18) - 1), .int (nI x)], dx_pR m 13 s.1)) rfl ?_
              refine dx_br (q := (nI x) = ((m.1 0 18) - 1)) (a := 108) (b := 104) (L := [.ref 0, .int (nI r), .int (bI s.2), .int (nI y), .int (nI x), .int 1, .null]) (st := []) (m := dx_pR m 13 s.1) rfl (fun _ => ?_) (fun h => absurd (by rw [ew, ← qw, nI_pred]) h)
              refine dx_blk 4 (c' := (117, [.ref 0, .int (nI r), .int (bI s.2), .int (nI y), .int (nI x), .int 1, .int 1], [.int 1], dx_pR m 13 s.1)) rfl ?_
              refine dx_br (q := (1 : Int32) = 0) (a := 192) (b := 120) (L := [.ref 0, .int (nI r), .int (bI s.2), .int (nI y), .int (nI x), .int 1, .int 1]) (st := []) (m := dx_pR m 13 s.1) rfl (fun h => absurd h (by decide)) (fun _ => ?_)
              refine dx_blk 1 (c' := (122, [.ref 0, .int (nI r), .int (bI s.2), .int (nI y), .int (nI x), .int 1, .int 1], [.int 1], dx_pR m 13 s.1)) rfl ?_
              refine dx_br (q := (1 : Int32) = 0) (a := 125) (b := 177) (L := [.ref 0, .int (nI r), .int (bI s.2), .int (nI y), .int (nI x), .int 1, .int 1]) (st := []) (m := dx_pR m 13 s.1) rfl (fun h => absurd h (by decide)) (fun _ => ?_)
              refine dx_blk 8 (c' := (189, [.ref 0, .int (nI r), .int (bI s.2), .int (nI y), .int (nI x), .int 1, .int 1], [.int 1, .int ((12 * (nI y)) + (nI x)), .ref 13], dx_pR m 13 s.1)) rfl ?_
              refine dx_bstZ (12 * y + x) rfl rfl rfl (nI_ix2 _ _) (by omega) (Or.inr rfl) ?_
              refine dx_blk 0 (c' := (190, [.ref 0, .int (nI r), .int (bI s.2), .int (nI y), .int (nI x), .int 1, .int 1], [], dx_pI (dx_pR m 13 s.1) 13 (12 * y + x) 1)) rfl ?_
              refine dx_blk 4 (c' := (40, [.ref 0, .int (nI r), .int 1, .int (nI y), .int ((nI x) + 1), .int 1, .int 1], [], dx_pI (dx_pR m 13 s.1) 13 (12 * y + x) 1)) rfl ?_
              refine dx_fgt [.ref 0, .int (nI r), .int 1, .int (nI y), .int ((nI x) + 1), .null, .null] (And.intro (Or.inr rfl) (And.intro (Or.inr rfl) (And.intro (Or.inr rfl) (And.intro (Or.inr rfl) (And.intro (Or.inr rfl) (And.intro (Or.inl rfl) (And.intro (Or.inl rfl) trivial))))))) ?_
              have e : msB op w r y x s.1 = true := by first | exact msB_t qo q78 (Or.inl qx) | exact msB_t qo q78 (Or.inr (Or.inl qw)) | exact msB_t qo q78 (Or.inr (Or.inr (Or.inl qy))) | exact msB_t qo q78 (Or.inr (Or.inr (Or.inr (Or.inl h135)))) | exact msB_t qo q78 (Or.inr (Or.inr (Or.inr (Or.inr (Or.inl h148))))) | exact msB_t qo q78 (Or.inr (Or.inr (Or.inr (Or.inr (Or.inr (Or.inl h161)))))) | exact msB_t qo q78 (Or.inr (Or.inr (Or.inr (Or.inr (Or.inr (Or.inr h174))))))
              unfold msS at hk
              rw [if_pos e] at hk
              rw [dx_pI_pR, ← nI_succ]
              exact hk
            · refine dx_blk 0 (c' := (93, [.ref 0, .int (nI r), .int (bI s.2), .int (nI y), .int (nI x), .int 1, .null], [], dx_pR m 13 s.1)) rfl ?_
              refine dx_blk 5 (c' := (101, [.ref 0, .int (nI r), .int (bI s.2), .int (nI y), .int (nI x), .int 1, .null], [.int ((m.1 0 18) - 1), .int (nI x)], dx_pR m 13 s.1)) rfl ?_
              refine dx_br (q := (nI x) = ((m.1 0 18) - 1)) (a := 108) (b := 104) (L := [.ref 0, .int (nI r), .int (bI s.2), .int (nI y), .int (nI x), .int 1, .null]) (st := []) (m := dx_pR m 13 s.1) rfl (fun h => absurd h (by rw [ew, show nI w - 1 = nI (w - 1) from pk_sub (a := w) (b := 1) (by omega)]; intro z; have := nI_inj' (by omega) (by omega) z; omega)) (fun _ => ?_)
              rcases Decidable.em (y = 0) with qy | qy
              · refine dx_blk 0 (c' := (104, [.ref 0, .int (nI r), .int (bI s.2), .int (nI y), .int (nI x), .int 1, .null], [], dx_pR m 13 s.1)) rfl ?_
                refine dx_blk 1 (c' := (105, [.ref 0, .int (nI r), .int (bI s.2), .int (nI y), .int (nI x), .int 1, .null], [.int (nI y)], dx_pR m 13 s.1)) rfl ?_
                refine dx_br (q := (nI y) = 0) (a := 108) (b := 112) (L := [.ref 0, .int (nI r), .int (bI s.2), .int (nI y), .int (nI x), .int 1, .null]) (st := []) (m := dx_pR m 13 s.1) rfl (fun _ => ?_) (fun h => absurd (by rw [qy]; rfl) h)
                refine dx_blk 4 (c' := (117, [.ref 0, .int (nI r), .int (bI s.2), .int (nI y), .int (nI x), .int 1, .int 1], [.int 1], dx_pR m 13 s.1)) rfl ?_
                refine dx_br (q := (1 : Int32) = 0) (a := 192) (b := 120) (L := [.ref 0, .int (nI r), .int (bI s.2), .int (nI y), .int (nI x), .int 1, .int 1]) (st := []) (m := dx_pR m 13 s.1) rfl (fun h => absurd h (by decide)) (fun _ => ?_)
                refine dx_blk 1 (c' := (122, [.ref 0, .int (nI r), .int (bI s.2), .int (nI y), .int (nI x), .int 1, .int 1], [.int 1], dx_pR m 13 s.1)) rfl ?_
                refine dx_br (q := (1 : Int32) = 0) (a := 125) (b := 177) (L := [.ref 0, .int (nI r), .int (bI s.2), .int (nI y), .int (nI x), .int 1, .int 1]) (st := []) (m := dx_pR m 13 s.1) rfl (fun h => absurd h (by decide)) (fun _ => ?_)
                refine dx_blk 8 (c' := (189, [.ref 0, .int (nI r), .int (bI s.2), .int (nI y), .int (nI x), .int 1, .int 1], [.int 1, .int ((12 * (nI y)) + (nI x)), .ref 13], dx_pR m 13 s.1)) rfl ?_
                refine dx_bstZ (12 * y + x) rfl rfl rfl (nI_ix2 _ _) (by omega) (Or.inr rfl) ?_
                refine dx_blk 0 (c' := (190, [.ref 0, .int (nI r), .int (bI s.2), .int (nI y), .int (nI x), .int 1, .int 1], [], dx_pI (dx_pR m 13 s.1) 13 (12 * y + x) 1)) rfl ?_
                refine dx_blk 4 (c' := (40, [.ref 0, .int (nI r), .int 1, .int (nI y), .int ((nI x) + 1), .int 1, .int 1], [], dx_pI (dx_pR m 13 s.1) 13 (12 * y + x) 1)) rfl ?_
                refine dx_fgt [.ref 0, .int (nI r), .int 1, .int (nI y), .int ((nI x) + 1), .null, .null] (And.intro (Or.inr rfl) (And.intro (Or.inr rfl) (And.intro (Or.inr rfl) (And.intro (Or.inr rfl) (And.intro (Or.inr rfl) (And.intro (Or.inl rfl) (And.intro (Or.inl rfl) trivial))))))) ?_
                have e : msB op w r y x s.1 = true := by first | exact msB_t qo q78 (Or.inl qx) | exact msB_t qo q78 (Or.inr (Or.inl qw)) | exact msB_t qo q78 (Or.inr (Or.inr (Or.inl qy))) | exact msB_t qo q78 (Or.inr (Or.inr (Or.inr (Or.inl h135)))) | exact msB_t qo q78 (Or.inr (Or.inr (Or.inr (Or.inr (Or.inl h148))))) | exact msB_t qo q78 (Or.inr (Or.inr (Or.inr (Or.inr (Or.inr (Or.inl h161)))))) | exact msB_t qo q78 (Or.inr (Or.inr (Or.inr (Or.inr (Or.inr (Or.inr h174))))))
                unfold msS at hk
                rw [if_pos e] at hk
                rw [dx_pI_pR, ← nI_succ]
                exact hk
              · refine dx_blk 0 (c' := (104, [.ref 0, .int (nI r), .int (bI s.2), .int (nI y), .int (nI x), .int 1, .null], [], dx_pR m 13 s.1)) rfl ?_
                refine dx_blk 1 (c' := (105, [.ref 0, .int (nI r), .int (bI s.2), .int (nI y), .int (nI x), .int 1, .null], [.int (nI y)], dx_pR m 13 s.1)) rfl ?_
                refine dx_br (q := (nI y) = 0) (a := 108) (b := 112) (L := [.ref 0, .int (nI r), .int (bI s.2), .int (nI y), .int (nI x), .int 1, .null]) (st := []) (m := dx_pR m 13 s.1) rfl (fun h => absurd h (nI_ne0 (by omega) (by omega))) (fun _ => ?_)
                refine dx_blk 3 (c' := (117, [.ref 0, .int (nI r), .int (bI s.2), .int (nI y), .int (nI x), .int 1, .int 0], [.int 1], dx_pR m 13 s.1)) rfl ?_
                refine dx_br (q := (1 : Int32) = 0) (a := 192) (b := 120) (L := [.ref 0, .int (nI r), .int (bI s.2), .int (nI y), .int (nI x), .int 1, .int 0]) (st := []) (m := dx_pR m 13 s.1) rfl (fun h => absurd h (by decide)) (fun _ => ?_)
                refine dx_blk 1 (c' := (122, [.ref 0, .int (nI r), .int (bI s.2), .int (nI y), .int (nI x), .int 1, .int 0], [.int 0], dx_pR m 13 s.1)) rfl ?_
                refine dx_br (q := (0 : Int32) = 0) (a := 125) (b := 177) (L := [.ref 0, .int (nI r), .int (bI s.2), .int (nI y), .int (nI x), .int 1, .int 0]) (st := []) (m := dx_pR m 13 s.1) rfl (fun _ => ?_) (fun h => absurd (by decide) h)
                refine dx_blk 6 (c' := (132, [.ref 0, .int (nI r), .int (bI s.2), .int (nI y), .int (nI x), .int 1, .int 0], [.int (nI r), .int (nI y), .int ((nI x) - 1), .ref 0], dx_pR m 13 s.1)) rfl ?_
                refine dx_call (id := 116) (as := [.ref 0, .int ((nI x) - 1), .int (nI y), .int (nI r)]) (rest := []) rfl ?_
                refine sX4_wet1 (w := w) (r := r) (x := x) (y := y) (dx_pR m 13 s.1) hw1 hw (by omega) ew hi (by omega) ?_
                refine dx_blk 0 (c' := (135, [.ref 0, .int (nI r), .int (bI s.2), .int (nI y), .int (nI x), .int 1, .int 0], [.int (bI (nb1 s.1 y x))], dx_pR m 13 s.1)) rfl ?_
                refine dx_brB (B := (nb1 s.1 y x)) (a := 138) (b := 177) (L := [.ref 0, .int (nI r), .int (bI s.2), .int (nI y), .int (nI x), .int 1, .int 0]) (st := []) (m := dx_pR m 13 s.1) rfl (fun h135 => ?_) (fun h135 => ?_)
                · refine dx_blk 6 (c' := (145, [.ref 0, .int (nI r), .int (bI s.2), .int (nI y), .int (nI x), .int 1, .int 0], [.int (nI r), .int (nI y), .int ((nI x) + 1), .ref 0], dx_pR m 13 s.1)) rfl ?_
                  refine dx_call (id := 116) (as := [.ref 0, .int ((nI x) + 1), .int (nI y), .int (nI r)]) (rest := []) rfl ?_
                  refine sX4_wet2 (w := w) (r := r) (x := x) (y := y) (dx_pR m 13 s.1) hw1 hw (by omega) ew hi (by omega) ?_
                  refine dx_blk 0 (c' := (148, [.ref 0, .int (nI r), .int (bI s.2), .int (nI y), .int (nI x), .int 1, .int 0], [.int (bI (nb2 s.1 w y x))], dx_pR m 13 s.1)) rfl ?_
                  refine dx_brB (B := (nb2 s.1 w y x)) (a := 151) (b := 177) (L := [.ref 0, .int (nI r), .int (bI s.2), .int (nI y), .int (nI x), .int 1, .int 0]) (st := []) (m := dx_pR m 13 s.1) rfl (fun h148 => ?_) (fun h148 => ?_)
                  · refine dx_blk 6 (c' := (158, [.ref 0, .int (nI r), .int (bI s.2), .int (nI y), .int (nI x), .int 1, .int 0], [.int (nI r), .int ((nI y) - 1), .int (nI x), .ref 0], dx_pR m 13 s.1)) rfl ?_
                    refine dx_call (id := 116) (as := [.ref 0, .int (nI x), .int ((nI y) - 1), .int (nI r)]) (rest := []) rfl ?_
                    refine sX4_wet3 (w := w) (r := r) (x := x) (y := y) (dx_pR m 13 s.1) hw1 hw (by omega) ew hi (by omega) ?_
                    refine dx_blk 0 (c' := (161, [.ref 0, .int (nI r), .int (bI s.2), .int (nI y), .int (nI x), .int 1, .int 0], [.int (bI (nb3 s.1 y x))], dx_pR m 13 s.1)) rfl ?_
                    refine dx_brB (B := (nb3 s.1 y x)) (a := 164) (b := 177) (L := [.ref 0, .int (nI r), .int (bI s.2), .int (nI y), .int (nI x), .int 1, .int 0]) (st := []) (m := dx_pR m 13 s.1) rfl (fun h161 => ?_) (fun h161 => ?_)
                    · refine dx_blk 6 (c' := (171, [.ref 0, .int (nI r), .int (bI s.2), .int (nI y), .int (nI x), .int 1, .int 0], [.int (nI r), .int ((nI y) + 1), .int (nI x), .ref 0], dx_pR m 13 s.1)) rfl ?_
                      refine dx_call (id := 116) (as := [.ref 0, .int (nI x), .int ((nI y) + 1), .int (nI r)]) (rest := []) rfl ?_
                      refine sX4_wet4 (w := w) (r := r) (x := x) (y := y) (dx_pR m 13 s.1) hw1 hw (by omega) ew hi (by omega) ?_
                      refine dx_blk 0 (c' := (174, [.ref 0, .int (nI r), .int (bI s.2), .int (nI y), .int (nI x), .int 1, .int 0], [.int (bI (nb4 s.1 r y x))], dx_pR m 13 s.1)) rfl ?_
                      refine dx_brB (B := (nb4 s.1 r y x)) (a := 192) (b := 177) (L := [.ref 0, .int (nI r), .int (bI s.2), .int (nI y), .int (nI x), .int 1, .int 0]) (st := []) (m := dx_pR m 13 s.1) rfl (fun h174 => ?_) (fun h174 => ?_)
                      · refine dx_blk 2 (c' := (40, [.ref 0, .int (nI r), .int (bI s.2), .int (nI y), .int ((nI x) + 1), .int 1, .int 0], [], dx_pR m 13 s.1)) rfl ?_
                        refine dx_fgt [.ref 0, .int (nI r), .int (bI s.2), .int (nI y), .int ((nI x) + 1), .null, .null] (And.intro (Or.inr rfl) (And.intro (Or.inr rfl) (And.intro (Or.inr rfl) (And.intro (Or.inr rfl) (And.intro (Or.inr rfl) (And.intro (Or.inl rfl) (And.intro (Or.inl rfl) trivial))))))) ?_
                        have e : ¬ msB op w r y x s.1 = true := by first | exact msB_f1 qo | exact msB_f2 q78 | exact msB_f3 qx qw qy h135 h148 h161 h174
                        unfold msS at hk
                        rw [if_neg e] at hk
                        rw [← nI_succ]
                        exact hk
                      · refine dx_blk 8 (c' := (189, [.ref 0, .int (nI r), .int (bI s.2), .int (nI y), .int (nI x), .int 1, .int 0], [.int 1, .int ((12 * (nI y)) + (nI x)), .ref 13], dx_pR m 13 s.1)) rfl ?_
                        refine dx_bstZ (12 * y + x) rfl rfl rfl (nI_ix2 _ _) (by omega) (Or.inr rfl) ?_
                        refine dx_blk 0 (c' := (190, [.ref 0, .int (nI r), .int (bI s.2), .int (nI y), .int (nI x), .int 1, .int 0], [], dx_pI (dx_pR m 13 s.1) 13 (12 * y + x) 1)) rfl ?_
                        refine dx_blk 4 (c' := (40, [.ref 0, .int (nI r), .int 1, .int (nI y), .int ((nI x) + 1), .int 1, .int 0], [], dx_pI (dx_pR m 13 s.1) 13 (12 * y + x) 1)) rfl ?_
                        refine dx_fgt [.ref 0, .int (nI r), .int 1, .int (nI y), .int ((nI x) + 1), .null, .null] (And.intro (Or.inr rfl) (And.intro (Or.inr rfl) (And.intro (Or.inr rfl) (And.intro (Or.inr rfl) (And.intro (Or.inr rfl) (And.intro (Or.inl rfl) (And.intro (Or.inl rfl) trivial))))))) ?_
                        have e : msB op w r y x s.1 = true := by first | exact msB_t qo q78 (Or.inl qx) | exact msB_t qo q78 (Or.inr (Or.inl qw)) | exact msB_t qo q78 (Or.inr (Or.inr (Or.inl qy))) | exact msB_t qo q78 (Or.inr (Or.inr (Or.inr (Or.inl h135)))) | exact msB_t qo q78 (Or.inr (Or.inr (Or.inr (Or.inr (Or.inl h148))))) | exact msB_t qo q78 (Or.inr (Or.inr (Or.inr (Or.inr (Or.inr (Or.inl h161)))))) | exact msB_t qo q78 (Or.inr (Or.inr (Or.inr (Or.inr (Or.inr (Or.inr h174))))))
                        unfold msS at hk
                        rw [if_pos e] at hk
                        rw [dx_pI_pR, ← nI_succ]
                        exact hk
                    · refine dx_blk 8 (c' := (189, [.ref 0, .int (nI r), .int (bI s.2), .int (nI y), .int (nI x), .int 1, .int 0], [.int 1, .int ((12 * (nI y)) + (nI x)), .ref 13], dx_pR m 13 s.1)) rfl ?_
                      refine dx_bstZ (12 * y + x) rfl rfl rfl (nI_ix2 _ _) (by omega) (Or.inr rfl) ?_
                      refine dx_blk 0 (c' := (190, [.ref 0, .int (nI r), .int (bI s.2), .int (nI y), .int (nI x), .int 1, .int 0], [], dx_pI (dx_pR m 13 s.1) 13 (12 * y + x) 1)) rfl ?_
                      refine dx_blk 4 (c' := (40, [.ref 0, .int (nI r), .int 1, .int (nI y), .int ((nI x) + 1), .int 1, .int 0], [], dx_pI (dx_pR m 13 s.1) 13 (12 * y + x) 1)) rfl ?_
                      refine dx_fgt [.ref 0, .int (nI r), .int 1, .int (nI y), .int ((nI x) + 1), .null, .null] (And.intro (Or.inr rfl) (And.intro (Or.inr rfl) (And.intro (Or.inr rfl) (And.intro (Or.inr rfl) (And.intro (Or.inr rfl) (And.intro (Or.inl rfl) (And.intro (Or.inl rfl) trivial))))))) ?_
                      have e : msB op w r y x s.1 = true := by first | exact msB_t qo q78 (Or.inl qx) | exact msB_t qo q78 (Or.inr (Or.inl qw)) | exact msB_t qo q78 (Or.inr (Or.inr (Or.inl qy))) | exact msB_t qo q78 (Or.inr (Or.inr (Or.inr (Or.inl h135)))) | exact msB_t qo q78 (Or.inr (Or.inr (Or.inr (Or.inr (Or.inl h148))))) | exact msB_t qo q78 (Or.inr (Or.inr (Or.inr (Or.inr (Or.inr (Or.inl h161)))))) | exact msB_t qo q78 (Or.inr (Or.inr (Or.inr (Or.inr (Or.inr (Or.inr h174))))))
                      unfold msS at hk
                      rw [if_pos e] at hk
                      rw [dx_pI_pR, ← nI_succ]
                      exact hk
                  · refine dx_blk 8 (c' := (189, [.ref 0, .int (nI r), .int (bI s.2), .int (nI y), .int (nI x), .int 1, .int 0], [.int 1, .int ((12 * (nI y)) + (nI x)), .ref 13], dx_pR m 13 s.1)) rfl ?_
                    refine dx_bstZ (12 * y + x) rfl rfl rfl (nI_ix2 _ _) (by omega) (Or.inr rfl) ?_
                    refine dx_blk 0 (c' := (190, [.ref 0, .int (nI r), .int (bI s.2), .int (nI y), .int (nI x), .int 1, .int 0], [], dx_pI (dx_pR m 13 s.1) 13 (12 * y + x) 1)) rfl ?_
                    refine dx_blk 4 (c' := (40, [.ref 0, .int (nI r), .int 1, .int (nI y), .int ((nI x) + 1), .int 1, .int 0], [], dx_pI (dx_pR m 13 s.1) 13 (12 * y + x) 1)) rfl ?_
                    refine dx_fgt [.ref 0, .int (nI r), .int 1, .int (nI y), .int ((nI x) + 1), .null, .null] (And.intro (Or.inr rfl) (And.intro (Or.inr rfl) (And.intro (Or.inr rfl) (And.intro (Or.inr rfl) (And.intro (Or.inr rfl) (And.intro (Or.inl rfl) (And.intro (Or.inl rfl) trivial))))))) ?_
                    have e : msB op w r y x s.1 = true := by first | exact msB_t qo q78 (Or.inl qx) | exact msB_t qo q78 (Or.inr (Or.inl qw)) | exact msB_t qo q78 (Or.inr (Or.inr (Or.inl qy))) | exact msB_t qo q78 (Or.inr (Or.inr (Or.inr (Or.inl h135)))) | exact msB_t qo q78 (Or.inr (Or.inr (Or.inr (Or.inr (Or.inl h148))))) | exact msB_t qo q78 (Or.inr (Or.inr (Or.inr (Or.inr (Or.inr (Or.inl h161)))))) | exact msB_t qo q78 (Or.inr (Or.inr (Or.inr (Or.inr (Or.inr (Or.inr h174))))))
                    unfold msS at hk
                    rw [if_pos e] at hk
                    rw [dx_pI_pR, ← nI_succ]
                    exact hk
                · refine dx_blk 8 (c' := (189, [.ref 0, .int (nI r), .int (bI s.2), .int (nI y), .int (nI x), .int 1, .int 0], [.int 1, .int ((12 * (nI y)) + (nI x)), .ref 13], dx_pR m 13 s.1)) rfl ?_
                  refine dx_bstZ (12 * y + x) rfl rfl rfl (nI_ix2 _ _) (by omega) (Or.inr rfl) ?_
                  refine dx_blk 0 (c' := (190, [.ref 0, .int (nI r), .int (bI s.2), .int (nI y), .int (nI x), .int 1, .int 0], [], dx_pI (dx_pR m 13 s.1) 13 (12 * y + x) 1)) rfl ?_
                  refine dx_blk 4 (c' := (40, [.ref 0, .int (nI r), .int 1, .int (nI y), .int ((nI x) + 1), .int 1, .int 0], [], dx_pI (dx_pR m 13 s.1) 13 (12 * y + x) 1)) rfl ?_
                  refine dx_fgt [.ref 0, .int (nI r), .int 1, .int (nI y), .int ((nI x) + 1), .null, .null] (And.intro (Or.inr rfl) (And.intro (Or.inr rfl) (And.intro (Or.inr rfl) (And.intro (Or.inr rfl) (And.intro (Or.inr rfl) (And.intro (Or.inl rfl) (And.intro (Or.inl rfl) trivial))))))) ?_
                  have e : msB op w r y x s.1 = true := by first | exact msB_t qo q78 (Or.inl qx) | exact msB_t qo q78 (Or.inr (Or.inl qw)) | exact msB_t qo q78 (Or.inr (Or.inr (Or.inl qy))) | exact msB_t qo q78 (Or.inr (Or.inr (Or.inr (Or.inl h135)))) | exact msB_t qo q78 (Or.inr (Or.inr (Or.inr (Or.inr (Or.inl h148))))) | exact msB_t qo q78 (Or.inr (Or.inr (Or.inr (Or.inr (Or.inr (Or.inl h161)))))) | exact msB_t qo q78 (Or.inr (Or.inr (Or.inr (Or.inr (Or.inr (Or.inr h174))))))
                  unfold msS at hk
                  rw [if_pos e] at hk
                  rw [dx_pI_pR, ← nI_succ]
                  exact hk
        · refine dx_blk 2 (c' := (88, [.ref 0, .int (nI r), .int (bI s.2), .int (nI y), .int (nI x), .int 0, .null], [], dx_pR m 13 s.1)) rfl ?_
          rcases Decidable.em (x = 0) with qx | qx
          · refine dx_blk 0 (c' := (88, [.ref 0, .int (nI r), .int (bI s.2), .int (nI y), .int (nI x), .int 0, .null], [], dx_pR m 13 s.1)) rfl ?_
            refine dx_blk 1 (c' := (90, [.ref 0, .int (nI r), .int (bI s.2), .int (nI y), .int (nI x), .int 0, .null], [.int (nI x)], dx_pR m 13 s.1)) rfl ?_
            refine dx_br (q := (nI x) = 0) (a := 108) (b := 93) (L := [.ref 0, .int (nI r), .int (bI s.2), .int (nI y), .int (nI x), .int 0, .null]) (st := []) (m := dx_pR m 13 s.1) rfl (fun _ => ?_) (fun h => absurd (by rw [qx]; rfl) h)
            refine dx_blk 4 (c' := (117, [.ref 0, .int (nI r), .int (bI s.2), .int (nI y), .int (nI x), .int 0, .int 1], [.int 0], dx_pR m 13 s.1)) rfl ?_
            refine dx_br (q := (0 : Int32) = 0) (a := 192) (b := 120) (L := [.ref 0, .int (nI r), .int (bI s.2), .int (nI y), .int (nI x), .int 0, .int 1]) (st := []) (m := dx_pR m 13 s.1) rfl (fun _ => ?_) (fun h => absurd (by decide) h)
            refine dx_blk 2 (c' := (40, [.ref 0, .int (nI r), .int (bI s.2), .int (nI y), .int ((nI x) + 1), .int 0, .int 1], [], dx_pR m 13 s.1)) rfl ?_
            refine dx_fgt [.ref 0, .int (nI r), .int (bI s.2), .int (nI y), .int ((nI x) + 1), .null, .null] (And.intro (Or.inr rfl) (And.intro (Or.inr rfl) (And.intro (Or.inr rfl) (And.intro (Or.inr rfl) (And.intro (Or.inr rfl) (And.intro (Or.inl rfl) (And.intro (Or.inl rfl) trivial))))))) ?_
            have e : ¬ msB op w r y x s.1 = true := by first | exact msB_f1 qo | exact msB_f2 q78 | exact msB_f3 qx qw qy h135 h148 h161 h174
            unfold msS at hk
            rw [if_neg e] at hk
            rw [← nI_succ]
            exact hk
          · refine dx_blk 0 (c' := (88, [.ref 0, .int (nI r), .int (bI s.2), .int (nI y), .int (nI x), .int 0, .null], [], dx_pR m 13 s.1)) rfl ?_
            refine dx_blk 1 (c' := (90, [.ref 0, .int (nI r), .int (bI s.2), .int (nI y), .int (nI x), .int 0, .null], [.int (nI x)], dx_pR m 13 s.1)) rfl ?_
            refine dx_br (q := (nI x) = 0) (a := 108) (b := 93) (L := [.ref 0, .int (nI r), .int (bI s.2), .int (nI y), .int (nI x), .int 0, .null]) (st := []) (m := dx_pR m 13 s.1) rfl (fun h => absurd h (nI_ne0 (by omega) (by omega))) (fun _ => ?_)
            rcases Decidable.em (x + 1 = w) with qw | qw
            · refine dx_blk 0 (c' := (93, [.ref 0, .int (nI r), .int (bI s.2), .int (nI y), .int (nI x), .int 0, .null], [], dx_pR m 13 s.1)) rfl ?_
              refine dx_blk 5 (c' := (101, [.ref 0, .int (nI r), .int (bI s.2), .int (nI y), .int (nI x), .int 0, .null], [.int ((m.1 0 18) - 1), .int (nI x)], dx_pR m 13 s.1)) rfl ?_
              refine dx_br (q := (nI x) = ((m.1 0 18) - 1)) (a := 108) (b := 104) (L := [.ref 0, .int (nI r), .int (bI s.2), .int (nI y), .int (nI x), .int 0, .null]) (st := []) (m := dx_pR m 13 s.1) rfl (fun _ => ?_) (fun h => absurd (by rw [ew, ← qw, nI_pred]) h)
              refine dx_blk 4 (c' := (117, [.ref 0, .int (nI r), .int (bI s.2), .int (nI y), .int (nI x), .int 0, .int 1], [.int 0], dx_pR m 13 s.1)) rfl ?_
              refine dx_br (q := (0 : Int32) = 0) (a := 192) (b := 120) (L := [.ref 0, .int (nI r), .int (bI s.2), .int (nI y), .int (nI x), .int 0, .int 1]) (st := []) (m := dx_pR m 13 s.1) rfl (fun _ => ?_) (fun h => absurd (by decide) h)
              refine dx_blk 2 (c' := (40, [.ref 0, .int (nI r), .int (bI s.2), .int (nI y), .int ((nI x) + 1), .int 0, .int 1], [], dx_pR m 13 s.1)) rfl ?_
              refine dx_fgt [.ref 0, .int (nI r), .int (bI s.2), .int (nI y), .int ((nI x) + 1), .null, .null] (And.intro (Or.inr rfl) (And.intro (Or.inr rfl) (And.intro (Or.inr rfl) (And.intro (Or.inr rfl) (And.intro (Or.inr rfl) (And.intro (Or.inl rfl) (And.intro (Or.inl rfl) trivial))))))) ?_
              have e : ¬ msB op w r y x s.1 = true := by first | exact msB_f1 qo | exact msB_f2 q78 | exact msB_f3 qx qw qy h135 h148 h161 h174
              unfold msS at hk
              rw [if_neg e] at hk
              rw [← nI_succ]
              exact hk
            · refine dx_blk 0 (c' := (93, [.ref 0, .int (nI r), .int (bI s.2), .int (nI y), .int (nI x), .int 0, .null], [], dx_pR m 13 s.1)) rfl ?_
              refine dx_blk 5 (c' := (101, [.ref 0, .int (nI r), .int (bI s.2), .int (nI y), .int (nI x), .int 0, .null], [.int ((m.1 0 18) - 1), .int (nI x)], dx_pR m 13 s.1)) rfl ?_
              refine dx_br (q := (nI x) = ((m.1 0 18) - 1)) (a := 108) (b := 104) (L := [.ref 0, .int (nI r), .int (bI s.2), .int (nI y), .int (nI x), .int 0, .null]) (st := []) (m := dx_pR m 13 s.1) rfl (fun h => absurd h (by rw [ew, show nI w - 1 = nI (w - 1) from pk_sub (a := w) (b := 1) (by omega)]; intro z; have := nI_inj' (by omega) (by omega) z; omega)) (fun _ => ?_)
              rcases Decidable.em (y = 0) with qy | qy
              · refine dx_blk 0 (c' := (104, [.ref 0, .int (nI r), .int (bI s.2), .int (nI y), .int (nI x), .int 0, .null], [], dx_pR m 13 s.1)) rfl ?_
                refine dx_blk 1 (c' := (105, [.ref 0, .int (nI r), .int (bI s.2), .int (nI y), .int (nI x), .int 0, .null], [.int (nI y)], dx_pR m 13 s.1)) rfl ?_
                refine dx_br (q := (nI y) = 0) (a := 108) (b := 112) (L := [.ref 0, .int (nI r), .int (bI s.2), .int (nI y), .int (nI x), .int 0, .null]) (st := []) (m := dx_pR m 13 s.1) rfl (fun _ => ?_) (fun h => absurd (by rw [qy]; rfl) h)
                refine dx_blk 4 (c' := (117, [.ref 0, .int (nI r), .int (bI s.2), .int (nI y), .int (nI x), .int 0, .int 1], [.int 0], dx_pR m 13 s.1)) rfl ?_
                refine dx_br (q := (0 : Int32) = 0) (a := 192) (b := 120) (L := [.ref 0, .int (nI r), .int (bI s.2), .int (nI y), .int (nI x), .int 0, .int 1]) (st := []) (m := dx_pR m 13 s.1) rfl (fun _ => ?_) (fun h => absurd (by decide) h)
                refine dx_blk 2 (c' := (40, [.ref 0, .int (nI r), .int (bI s.2), .int (nI y), .int ((nI x) + 1), .int 0, .int 1], [], dx_pR m 13 s.1)) rfl ?_
                refine dx_fgt [.ref 0, .int (nI r), .int (bI s.2), .int (nI y), .int ((nI x) + 1), .null, .null] (And.intro (Or.inr rfl) (And.intro (Or.inr rfl) (And.intro (Or.inr rfl) (And.intro (Or.inr rfl) (And.intro (Or.inr rfl) (And.intro (Or.inl rfl) (And.intro (Or.inl rfl) trivial))))))) ?_
                have e : ¬ msB op w r y x s.1 = true := by first | exact msB_f1 qo | exact msB_f2 q78 | exact msB_f3 qx qw qy h135 h148 h161 h174
                unfold msS at hk
                rw [if_neg e] at hk
                rw [← nI_succ]
                exact hk
              · refine dx_blk 0 (c' := (104, [.ref 0, .int (nI r), .int (bI s.2), .int (nI y), .int (nI x), .int 0, .null], [], dx_pR m 13 s.1)) rfl ?_
                refine dx_blk 1 (c' := (105, [.ref 0, .int (nI r), .int (bI s.2), .int (nI y), .int (nI x), .int 0, .null], [.int (nI y)], dx_pR m 13 s.1)) rfl ?_
                refine dx_br (q := (nI y) = 0) (a := 108) (b := 112) (L := [.ref 0, .int (nI r), .int (bI s.2), .int (nI y), .int (nI x), .int 0, .null]) (st := []) (m := dx_pR m 13 s.1) rfl (fun h => absurd h (nI_ne0 (by omega) (by omega))) (fun _ => ?_)
                refine dx_blk 3 (c' := (117, [.ref 0, .int (nI r), .int (bI s.2), .int (nI y), .int (nI x), .int 0, .int 0], [.int 0], dx_pR m 13 s.1)) rfl ?_
                refine dx_br (q := (0 : Int32) = 0) (a := 192) (b := 120) (L := [.ref 0, .int (nI r), .int (bI s.2), .int (nI y), .int (nI x), .int 0, .int 0]) (st := []) (m := dx_pR m 13 s.1) rfl (fun _ => ?_) (fun h => absurd (by decide) h)
                refine dx_blk 2 (c' := (40, [.ref 0, .int (nI r), .int (bI s.2), .int (nI y), .int ((nI x) + 1), .int 0, .int 0], [], dx_pR m 13 s.1)) rfl ?_
                refine dx_fgt [.ref 0, .int (nI r), .int (bI s.2), .int (nI y), .int ((nI x) + 1), .null, .null] (And.intro (Or.inr rfl) (And.intro (Or.inr rfl) (And.intro (Or.inr rfl) (And.intro (Or.inr rfl) (And.intro (Or.inr rfl) (And.intro (Or.inl rfl) (And.intro (Or.inl rfl) trivial))))))) ?_
                have e : ¬ msB op w r y x s.1 = true := by first | exact msB_f1 qo | exact msB_f2 q78 | exact msB_f3 qx qw qy h135 h148 h161 h174
                unfold msS at hk
                rw [if_neg e] at hk
                rw [← nI_succ]
                exact hk
      · refine dx_blk 0 (c' := (49, [.ref 0, .int (nI r), .int (bI s.2), .int (nI y), .int (nI x), .null, .null], [], dx_pR m 13 s.1)) rfl ?_
        refine dx_blk 7 (c' := (60, [.ref 0, .int (nI r), .int (bI s.2), .int (nI y), .int (nI x), .null, .null], [.int ((12 * (nI y)) + (nI x)), .ref 12], dx_pR m 13 s.1)) rfl ?_
        refine dx_aldN (12 * y + x) rfl rfl rfl (nI_ix2 _ _) (by omega) ?_
        refine dx_blk 0 (c' := (61, [.ref 0, .int (nI r), .int (bI s.2), .int (nI y), .int (nI x), .null, .null], [.int (m.1 12 (12 * y + x))], dx_pR m 13 s.1)) rfl ?_
        refine dx_blk 1 (c' := (63, [.ref 0, .int (nI r), .int (bI s.2), .int (nI y), .int (nI x), .null, .null], [.int (-9), .int (m.1 12 (12 * y + x))], dx_pR m 13 s.1)) rfl ?_
        refine dx_br (q := (m.1 12 (12 * y + x)) = (-9)) (a := 66) (b := 85) (L := [.ref 0, .int (nI r), .int (bI s.2), .int (nI y), .int (nI x), .null, .null]) (st := []) (m := dx_pR m 13 s.1) rfl (fun h => absurd h (fun z => qo ((hop y x (by omega) hi).trans (decide_eq_true z)))) (fun _ => ?_)
        refine dx_blk 2 (c' := (88, [.ref 0, .int (nI r), .int (bI s.2), .int (nI y), .int (nI x), .int 0, .null], [], dx_pR m 13 s.1)) rfl ?_
        rcases Decidable.em (x = 0) with qx | qx
        · refine dx_blk 0 (c' := (88, [.ref 0, .int (nI r), .int (bI s.2), .int (nI y), .int (nI x), .int 0, .null], [], dx_pR m 13 s.1)) rfl ?_
          refine dx_blk 1 (c' := (90, [.ref 0, .int (nI r), .int (bI s.2), .int (nI y), .int (nI x), .int 0, .null], [.int (nI x)], dx_pR m 13 s.1)) rfl ?_
          refine dx_br (q := (nI x) = 0) (a := 108) (b := 93) (L := [.ref 0, .int (nI r), .int (bI s.2), .int (nI y), .int (nI x), .int 0, .null]) (st := []) (m := dx_pR m 13 s.1) rfl (fun _ => ?_) (fun h => absurd (by rw [qx]; rfl) h)
          refine dx_blk 4 (c' := (117, [.ref 0, .int (nI r), .int (bI s.2), .int (nI y), .int (nI x), .int 0, .int 1], [.int 0], dx_pR m 13 s.1)) rfl ?_
          refine dx_br (q := (0 : Int32) = 0) (a := 192) (b := 120) (L := [.ref 0, .int (nI r), .int (bI s.2), .int (nI y), .int (nI x), .int 0, .int 1]) (st := []) (m := dx_pR m 13 s.1) rfl (fun _ => ?_) (fun h => absurd (by decide) h)
          refine dx_blk 2 (c' := (40, [.ref 0, .int (nI r), .int (bI s.2), .int (nI y), .int ((nI x) + 1), .int 0, .int 1], [], dx_pR m 13 s.1)) rfl ?_
          refine dx_fgt [.ref 0, .int (nI r), .int (bI s.2), .int (nI y), .int ((nI x) + 1), .null, .null] (And.intro (Or.inr rfl) (And.intro (Or.inr rfl) (And.intro (Or.inr rfl) (And.intro (Or.inr rfl) (And.intro (Or.inr rfl) (And.intro (Or.inl rfl) (And.intro (Or.inl rfl) trivial))))))) ?_
          have e : ¬ msB op w r y x s.1 = true := by first | exact msB_f1 qo | exact msB_f2 q78 | exact msB_f3 qx qw qy h135 h148 h161 h174
          unfold msS at hk
          rw [if_neg e] at hk
          rw [← nI_succ]
          exact hk
        · refine dx_blk 0 (c' := (88, [.ref 0, .int (nI r), .int (bI s.2), .int (nI y), .int (nI x), .int 0, .null], [], dx_pR m 13 s.1)) rfl ?_
          refine dx_blk 1 (c' := (90, [.ref 0, .int (nI r), .int (bI s.2), .int (nI y), .int (nI x), .int 0, .null], [.int (nI x)], dx_pR m 13 s.1)) rfl ?_
          refine dx_br (q := (nI x) = 0) (a := 108) (b := 93) (L := [.ref 0, .int (nI r), .int (bI s.2), .int (nI y), .int (nI x), .int 0, .null]) (st := []) (m := dx_pR m 13 s.1) rfl (fun h => absurd h (nI_ne0 (by omega) (by omega))) (fun _ => ?_)
          rcases Decidable.em (x + 1 = w) with qw | qw
          · refine dx_blk 0 (c' := (93, [.ref 0, .int (nI r), .int (bI s.2), .int (nI y), .int (nI x), .int 0, .null], [], dx_pR m 13 s.1)) rfl ?_
            refine dx_blk 5 (c' := (101, [.ref 0, .int (nI r), .int (bI s.2), .int (nI y), .int (nI x), .int 0, .null], [.int ((m.1 0 18) - 1), .int (nI x)], dx_pR m 13 s.1)) rfl ?_
            refine dx_br (q := (nI x) = ((m.1 0 18) - 1)) (a := 108) (b := 104) (L := [.ref 0, .int (nI r), .int (bI s.2), .int (nI y), .int (nI x), .int 0, .null]) (st := []) (m := dx_pR m 13 s.1) rfl (fun _ => ?_) (fun h => absurd (by rw [ew, ← qw, nI_pred]) h)
            refine dx_blk 4 (c' := (117, [.ref 0, .int (nI r), .int (bI s.2), .int (nI y), .int (nI x), .int 0, .int 1], [.int 0], dx_pR m 13 s.1)) rfl ?_
            refine dx_br (q := (0 : Int32) = 0) (a := 192) (b := 120) (L := [.ref 0, .int (nI r), .int (bI s.2), .int (nI y), .int (nI x), .int 0, .int 1]) (st := []) (m := dx_pR m 13 s.1) rfl (fun _ => ?_) (fun h => absurd (by decide) h)
            refine dx_blk 2 (c' := (40, [.ref 0, .int (nI r), .int (bI s.2), .int (nI y), .int ((nI x) + 1), .int 0, .int 1], [], dx_pR m 13 s.1)) rfl ?_
            refine dx_fgt [.ref 0, .int (nI r), .int (bI s.2), .int (nI y), .int ((nI x) + 1), .null, .null] (And.intro (Or.inr rfl) (And.intro (Or.inr rfl) (And.intro (Or.inr rfl) (And.intro (Or.inr rfl) (And.intro (Or.inr rfl) (And.intro (Or.inl rfl) (And.intro (Or.inl rfl) trivial))))))) ?_
            have e : ¬ msB op w r y x s.1 = true := by first | exact msB_f1 qo | exact msB_f2 q78 | exact msB_f3 qx qw qy h135 h148 h161 h174
            unfold msS at hk
            rw [if_neg e] at hk
            rw [← nI_succ]
            exact hk
          · refine dx_blk 0 (c' := (93, [.ref 0, .int (nI r), .int (bI s.2), .int (nI y), .int (nI x), .int 0, .null], [], dx_pR m 13 s.1)) rfl ?_
            refine dx_blk 5 (c' := (101, [.ref 0, .int (nI r), .int (bI s.2), .int (nI y), .int (nI x), .int 0, .null], [.int ((m.1 0 18) - 1), .int (nI x)], dx_pR m 13 s.1)) rfl ?_
            refine dx_br (q := (nI x) = ((m.1 0 18) - 1)) (a := 108) (b := 104) (L := [.ref 0, .int (nI r), .int (bI s.2), .int (nI y), .int (nI x), .int 0, .null]) (st := []) (m := dx_pR m 13 s.1) rfl (fun h => absurd h (by rw [ew, show nI w - 1 = nI (w - 1) from pk_sub (a := w) (b := 1) (by omega)]; intro z; have := nI_inj' (by omega) (by omega) z; omega)) (fun _ => ?_)
            rcases Decidable.em (y = 0) with qy | qy
            · refine dx_blk 0 (c' := (104, [.ref 0, .int (nI r), .int (bI s.2), .int (nI y), .int (nI x), .int 0, .null], [], dx_pR m 13 s.1)) rfl ?_
              refine dx_blk 1 (c' := (105, [.ref 0, .int (nI r), .int (bI s.2), .int (nI y), .int (nI x), .int 0, .null], [.int (nI y)], dx_pR m 13 s.1)) rfl ?_
              refine dx_br (q := (nI y) = 0) (a := 108) (b := 112) (L := [.ref 0, .int (nI r), .int (bI s.2), .int (nI y), .int (nI x), .int 0, .null]) (st := []) (m := dx_pR m 13 s.1) rfl (fun _ => ?_) (fun h => absurd (by rw [qy]; rfl) h)
              refine dx_blk 4 (c' := (117, [.ref 0, .int (nI r), .int (bI s.2), .int (nI y), .int (nI x), .int 0, .int 1], [.int 0], dx_pR m 13 s.1)) rfl ?_
              refine dx_br (q := (0 : Int32) = 0) (a := 192) (b := 120) (L := [.ref 0, .int (nI r), .int (bI s.2), .int (nI y), .int (nI x), .int 0, .int 1]) (st := []) (m := dx_pR m 13 s.1) rfl (fun _ => ?_) (fun h => absurd (by decide) h)
              refine dx_blk 2 (c' := (40, [.ref 0, .int (nI r), .int (bI s.2), .int (nI y), .int ((nI x) + 1), .int 0, .int 1], [], dx_pR m 13 s.1)) rfl ?_
              refine dx_fgt [.ref 0, .int (nI r), .int (bI s.2), .int (nI y), .int ((nI x) + 1), .null, .null] (And.intro (Or.inr rfl) (And.intro (Or.inr rfl) (And.intro (Or.inr rfl) (And.intro (Or.inr rfl) (And.intro (Or.inr rfl) (And.intro (Or.inl rfl) (And.intro (Or.inl rfl) trivial))))))) ?_
              have e : ¬ msB op w r y x s.1 = true := by first | exact msB_f1 qo | exact msB_f2 q78 | exact msB_f3 qx qw qy h135 h148 h161 h174
              unfold msS at hk
              rw [if_neg e] at hk
              rw [← nI_succ]
              exact hk
            · refine dx_blk 0 (c' := (104, [.ref 0, .int (nI r), .int (bI s.2), .int (nI y), .int (nI x), .int 0, .null], [], dx_pR m 13 s.1)) rfl ?_
              refine dx_blk 1 (c' := (105, [.ref 0, .int (nI r), .int (bI s.2), .int (nI y), .int (nI x), .int 0, .null], [.int (nI y)], dx_pR m 13 s.1)) rfl ?_
              refine dx_br (q := (nI y) = 0) (a := 108) (b := 112) (L := [.ref 0, .int (nI r), .int (bI s.2), .int (nI y), .int (nI x), .int 0, .null]) (st := []) (m := dx_pR m 13 s.1) rfl (fun h => absurd h (nI_ne0 (by omega) (by omega))) (fun _ => ?_)
              refine dx_blk 3 (c' := (117, [.ref 0, .int (nI r), .int (bI s.2), .int (nI y), .int (nI x), .int 0, .int 0], [.int 0], dx_pR m 13 s.1)) rfl ?_
              refine dx_br (q := (0 : Int32) = 0) (a := 192) (b := 120) (L := [.ref 0, .int (nI r), .int (bI s.2), .int (nI y), .int (nI x), .int 0, .int 0]) (st := []) (m := dx_pR m 13 s.1) rfl (fun _ => ?_) (fun h => absurd (by decide) h)
              refine dx_blk 2 (c' := (40, [.ref 0, .int (nI r), .int (bI s.2), .int (nI y), .int ((nI x) + 1), .int 0, .int 0], [], dx_pR m 13 s.1)) rfl ?_
              refine dx_fgt [.ref 0, .int (nI r), .int (bI s.2), .int (nI y), .int ((nI x) + 1), .null, .null] (And.intro (Or.inr rfl) (And.intro (Or.inr rfl) (And.intro (Or.inr rfl) (And.intro (Or.inr rfl) (And.intro (Or.inr rfl) (And.intro (Or.inl rfl) (And.intro (Or.inl rfl) trivial))))))) ?_
              have e : ¬ msB op w r y x s.1 = true := by first | exact msB_f1 qo | exact msB_f2 q78 | exact msB_f3 qx qw qy h135 h148 h161 h174
              unfold msS at hk
              rw [if_neg e] at hk
              rw [← nI_succ]
              exact hk
    · refine dx_blk 0 (c' := (40, [.ref 0, .int (nI r), .int (bI (nf (fun (x : Nat) (s : (Nat → Int32) × Bool) => msS op w r y x s) w u).2), .int (nI y), .int (nI w), .null, .null], [], dx_pR m 13 ((nf (fun (x : Nat) (s : (Nat → Int32) × Bool) => msS op w r y x s) w u).1))) rfl ?_
      refine dx_blk 3 (c' := (46, [.ref 0, .int (nI r), .int (bI (nf (fun (x : Nat) (s : (Nat → Int32) × Bool) => msS op w r y x s) w u).2), .int (nI y), .int (nI w), .null, .null], [.int (m.1 0 18), .int (nI w)], dx_pR m 13 ((nf (fun (x : Nat) (s : (Nat → Int32) × Bool) => msS op w r y x s) w u).1))) rfl ?_
      refine dx_br (q := (m.1 0 18) ≤ (nI w)) (a := 198) (b := 49) (L := [.ref 0, .int (nI r), .int (bI (nf (fun (x : Nat) (s : (Nat → Int32) × Bool) => msS op w r y x s) w u).2), .int (nI y), .int (nI w), .null, .null]) (st := []) (m := dx_pR m 13 ((nf (fun (x : Nat) (s : (Nat → Int32) × Bool) => msS op w r y x s) w u).1)) rfl (fun _ => ?_) (fun h => absurd (by rw [ew]; exact nI_le (Nat.le_refl _) (by omega)) h)
      refine dx_blk 2 (c' := (32, [.ref 0, .int (nI r), .int (bI (nf (fun (x : Nat) (s : (Nat → Int32) × Bool) => msS op w r y x s) w u).2), .int ((nI y) + 1), .int (nI w), .null, .null], [], dx_pR m 13 ((nf (fun (x : Nat) (s : (Nat → Int32) × Bool) => msS op w r y x s) w u).1))) rfl ?_
      refine dx_fgt [.ref 0, .int (nI r), .int (bI (nf (fun (x : Nat) (s : (Nat → Int32) × Bool) => msS op w r y x s) w u).2), .int ((nI y) + 1), .null, .null, .null] (And.intro (Or.inr rfl) (And.intro (Or.inr rfl) (And.intro (Or.inr rfl) (And.intro (Or.inr rfl) (And.intro (Or.inl rfl) (And.intro (Or.inl rfl) (And.intro (Or.inl rfl) trivial))))))) ?_
      rw [← nI_succ]
      exact hk
  · refine dx_blk 0 (c' := (32, [.ref 0, .int (nI r), .int (bI (nf (fun (y : Nat) (u : (Nat → Int32) × Bool) => nf (fun (x : Nat) (s : (Nat → Int32) × Bool) => msS op w r y x s) w u) (r + 1) (g, false)).2), .int (nI (r + 1)), .null, .null, .null], [], dx_pR m 13 ((nf (fun (y : Nat) (u : (Nat → Int32) × Bool) => nf (fun (x : Nat) (s : (Nat → Int32) × Bool) => msS op w r y x s) w u) (r + 1) (g, false)).1))) rfl ?_
    refine dx_blk 2 (c' := (34, [.ref 0, .int (nI r), .int (bI (nf (fun (y : Nat) (u : (Nat → Int32) × Bool) => nf (fun (x : Nat) (s : (Nat → Int32) × Bool) => msS op w r y x s) w u) (r + 1) (g, false)).2), .int (nI (r + 1)), .null, .null, .null], [.int (nI r), .int (nI (r + 1))], dx_pR m 13 ((nf (fun (y : Nat) (u : (Nat → Int32) × Bool) => nf (fun (x : Nat) (s : (Nat → Int32) × Bool) => msS op w r y x s) w u) (r + 1) (g, false)).1))) rfl ?_
    refine dx_br (q := (nI r) < (nI (r + 1))) (a := 204) (b := 37) (L := [.ref 0, .int (nI r), .int (bI (nf (fun (y : Nat) (u : (Nat → Int32) × Bool) => nf (fun (x : Nat) (s : (Nat → Int32) × Bool) => msS op w r y x s) w u) (r + 1) (g, false)).2), .int (nI (r + 1)), .null, .null, .null]) (st := []) (m := dx_pR m 13 ((nf (fun (y : Nat) (u : (Nat → Int32) × Bool) => nf (fun (x : Nat) (s : (Nat → Int32) × Bool) => msS op w r y x s) w u) (r + 1) (g, false)).1)) rfl (fun _ => ?_) (fun h => absurd (nI_lt (by omega) (by omega)) h)
    refine dx_blk 1 (c' := (24, [.ref 0, .int (nI r), .int (bI (nf (fun (y : Nat) (u : (Nat → Int32) × Bool) => nf (fun (x : Nat) (s : (Nat → Int32) × Bool) => msS op w r y x s) w u) (r + 1) (g, false)).2), .int (nI (r + 1)), .null, .null, .null], [], dx_pR m 13 ((nf (fun (y : Nat) (u : (Nat → Int32) × Bool) => nf (fun (x : Nat) (s : (Nat → Int32) × Bool) => msS op w r y x s) w u) (r + 1) (g, false)).1))) rfl ?_
    refine dx_fgt [.ref 0, .int (nI r), .int (bI (nf (fun (y : Nat) (u : (Nat → Int32) × Bool) => nf (fun (x : Nat) (s : (Nat → Int32) × Bool) => msS op w r y x s) w u) (r + 1) (g, false)).2), .null, .null, .null, .null] (And.intro (Or.inr rfl) (And.intro (Or.inr rfl) (And.intro (Or.inr rfl) (And.intro (Or.inl rfl) (And.intro (Or.inl rfl) (And.intro (Or.inl rfl) (And.intro (Or.inl rfl) trivial))))))) ?_
    exact hk
theorem lp_mspread {d : Nat} (m : dx_M) {Z : Option Value → dx_M → Prop} {op : Nat → Nat → Bool} {w r : Nat} (hw1 : 1 ≤ w) (hw : w ≤ 12) (hr : r < 12) (ew : m.1 0 18 = nI w) (hop : ∀ v u, v ≤ r → u < w → op v u = decide (m.1 12 (12 * v + u) = -9)) (h : ∀ g, (∀ k, g k = 0 ∨ g k = 1) → (∀ y x, y ≤ r → x < w → g (12 * y + x) = bI (wetB op w r y x)) → Z none (dx_pR m 13 g)) : ∀ (n : Nat) (g : Nat → Int32), 144 ≤ wcnt (fun y x => decide (¬ g (12 * y + x) = 0)) w r + n → (∀ k, g k = 0 ∨ g k = 1) → (∀ y x, y ≤ r → x < w → ¬ g (12 * y + x) = 0 → wetB op w r y x = true) → dx_Go (d + 2) (dx_Sem dx_P lx_M (d + 2)) lx_M km_X4_spread Z (24, [.ref 0, .int (nI r), .int (bI true), .null, .null, .null, .null], [], dx_pR m 13 g) := by
  intro n
  induction n with
  | zero =>
    intro g hn hb hs
    refine lp_mpass m hw1 hw hr ew hop g ?_
    obtain ⟨h1, h2, h3, h4, h5⟩ := msA_ok hw hb hs (r + 1) (Nat.le_refl _)
    change ((msP op w r g).2 = false → _) at h4
    change ((msP op w r g).2 = true → _) at h5
    cases e : (msP op w r g).2 with
    | true =>
      obtain ⟨y, x, a1, a2, a3, a4⟩ := h5 e
      have hlt := wcnt_lt (a := fun y x => decide (¬ g (12 * y + x) = 0)) (b := fun y x => decide (¬ (msP op w r g).1 (12 * y + x) = 0)) (w := w) (r := r) (fun y x hy hx hh => decide_eq_true (h1 y x hy hx (of_decide_eq_true hh))) ⟨y, x, a1, a2, decide_eq_false (fun z => z a3), decide_eq_true a4⟩
      have := wcnt_le (fun y x => decide (¬ (msP op w r g).1 (12 * y + x) = 0)) hw hr
      omega
    | false =>
      obtain ⟨e1, e2⟩ := h4 e
      have e1' : (msP op w r g).1 = g := e1
      rw [e1']
      refine dx_blk 1 (c' := (25, [.ref 0, .int (nI r), .int (bI false), .null, .null, .null, .null], [.int (bI false)], dx_pR m 13 g)) rfl ?_
      refine dx_br (q := bI false = 0) (a := 207) (b := 28) (L := [.ref 0, .int (nI r), .int (bI false), .null, .null, .null, .null]) (st := []) (m := dx_pR m 13 g) rfl (fun _ => ?_) (fun q => absurd (by decide) q)
      exact dx_ret (r := none) rfl (h g hb (ms_end hb hs (fun y x hy hx => e2 y x (by omega) hy hx)))
  | succ n ih =>
    intro g hn hb hs
    refine lp_mpass m hw1 hw hr ew hop g ?_
    obtain ⟨h1, h2, h3, h4, h5⟩ := msA_ok hw hb hs (r + 1) (Nat.le_refl _)
    change ((msP op w r g).2 = false → _) at h4
    change ((msP op w r g).2 = true → _) at h5
    cases e : (msP op w r g).2 with
    | true =>
      obtain ⟨y, x, a1, a2, a3, a4⟩ := h5 e
      have hlt := wcnt_lt (a := fun y x => decide (¬ g (12 * y + x) = 0)) (b := fun y x => decide (¬ (msP op w r g).1 (12 * y + x) = 0)) (w := w) (r := r) (fun y x hy hx hh => decide_eq_true (h1 y x hy hx (of_decide_eq_true hh))) ⟨y, x, a1, a2, decide_eq_false (fun z => z a3), decide_eq_true a4⟩
      exact ih (msP op w r g).1 (by omega) h2 h3
    | false =>
      obtain ⟨e1, e2⟩ := h4 e
      have e1' : (msP op w r g).1 = g := e1
      rw [e1']
      refine dx_blk 1 (c' := (25, [.ref 0, .int (nI r), .int (bI false), .null, .null, .null, .null], [.int (bI false)], dx_pR m 13 g)) rfl ?_
      refine dx_br (q := bI false = 0) (a := 207) (b := 28) (L := [.ref 0, .int (nI r), .int (bI false), .null, .null, .null, .null]) (st := []) (m := dx_pR m 13 g) rfl (fun _ => ?_) (fun q => absurd (by decide) q)
      exact dx_ret (r := none) rfl (h g hb (ms_end hb hs (fun y x hy hx => e2 y x (by omega) hy hx)))
set_option maxRecDepth 20000 in
theorem sX4_spreadG {d : Nat} (m : dx_M) {Z : Option Value → dx_M → Prop} {op : Nat → Nat → Bool} {w r : Nat} (hw1 : 1 ≤ w) (hw : w ≤ 12) (hr : r < 12) (ew : m.1 0 18 = nI w) (hop : ∀ v u, v ≤ r → u < w → op v u = decide (m.1 12 (12 * v + u) = -9)) (hb13 : ∀ k, 144 ≤ k → (m.1 13 k = 0 ∨ m.1 13 k = 1)) (h : ∀ g, (∀ k, g k = 0 ∨ g k = 1) → (∀ y x, y ≤ r → x < w → g (12 * y + x) = bI (wetB op w r y x)) → Z none (dx_pR m 13 g)) : dx_Sem dx_P lx_M (d + 3) 117 [.ref 0, .int (nI r)] m Z := by
  have hb0 : ∀ k, fa_fill (fun _ => (0 : Int32)) (m.1 13) 144 k = 0 ∨ fa_fill (fun _ => (0 : Int32)) (m.1 13) 144 k = 1 := fun k => by
    rcases Nat.lt_or_ge k 144 with q | q
    · exact Or.inl (fa_fill_in q)
    · rw [fa_fill_out q]; exact hb13 k q
  refine dx_sem km_X4_spread rfl rfl ?_
  refine dx_blk 0 (c' := (0, [.ref 0, .int (nI r), .null, .null, .null, .null, .null], [], m)) rfl ?_
  refine dx_blk 2 (c' := (2, [.ref 0, .int (nI r), .int 0, .null, .null, .null, .null], [], m)) rfl ?_
  refine dx_mem (m' := dx_pR m 13 (fa_fill (fun _ => 0) (m.1 13) 0)) (by
    rw [fa_fill_0, dx_pR_self]) ?_
  refine dx_blk 0 (c' := (2, [.ref 0, .int (nI r), .int (nI 0), .null, .null, .null, .null], [], dx_pR m 13 (fa_fill (fun _ => 0) (m.1 13) 0))) rfl ?_
  refine dx_for0 (fun (i : Nat) => ((2, [.ref 0, .int (nI r), .int (nI i), .null, .null, .null, .null], [], dx_pR m 13 (fa_fill (fun _ => 0) (m.1 13) i)) : dx_F)) 144 (fun i hi hk => ?_) ?_
  · refine dx_blk 0 (c' := (2, [.ref 0, .int (nI r), .int (nI i), .null, .null, .null, .null], [], dx_pR m 13 (fa_fill (fun _ => 0) (m.1 13) i))) rfl ?_
    refine dx_blk 2 (c' := (6, [.ref 0, .int (nI r), .int (nI i), .null, .null, .null, .null], [.int 144, .int (nI i)], dx_pR m 13 (fa_fill (fun _ => 0) (m.1 13) i))) rfl ?_
    refine dx_br (q := 144 ≤ (nI i)) (a := 22) (b := 9) (L := [.ref 0, .int (nI r), .int (nI i), .null, .null, .null, .null]) (st := []) (m := dx_pR m 13 (fa_fill (fun _ => 0) (m.1 13) i)) rfl (fun h => absurd h (nI_ge hi (by decide))) (fun _ => ?_)
    refine dx_blk 4 (c' := (15, [.ref 0, .int (nI r), .int (nI i), .null, .null, .null, .null], [.int 0, .int (nI i), .ref 13], dx_pR m 13 (fa_fill (fun _ => 0) (m.1 13) i))) rfl ?_
    refine dx_bstZ i rfl rfl rfl rfl (by omega) (Or.inl rfl) ?_
    refine dx_blk 0 (c' := (16, [.ref 0, .int (nI r), .int (nI i), .null, .null, .null, .null], [], dx_pI (dx_pR m 13 (fa_fill (fun _ => 0) (m.1 13) i)) 13 i 0)) rfl ?_
    refine dx_blk 2 (c' := (2, [.ref 0, .int (nI r), .int ((nI i) + 1), .null, .null, .null, .null], [], dx_pI (dx_pR m 13 (fa_fill (fun _ => 0) (m.1 13) i)) 13 i 0)) rfl ?_
    rw [dx_pI_pR, show upd (fa_fill (fun _ => (0 : Int32)) (m.1 13) i) i 0 = fa_fill (fun _ => (0 : Int32)) (m.1 13) (i + 1) from fa_fill_succ (fun _ => 0) (m.1 13) i, ← nI_succ]
    exact hk
  · refine dx_blk 0 (c' := (2, [.ref 0, .int (nI r), .int (nI 144), .null, .null, .null, .null], [], dx_pR m 13 (fa_fill (fun _ => 0) (m.1 13) 144))) rfl ?_
    refine dx_blk 2 (c' := (6, [.ref 0, .int (nI r), .int (nI 144), .null, .null, .null, .null], [.int 144, .int (nI 144)], dx_pR m 13 (fa_fill (fun _ => 0) (m.1 13) 144))) rfl ?_
    refine dx_br (q := 144 ≤ (nI 144)) (a := 22) (b := 9) (L := [.ref 0, .int (nI r), .int (nI 144), .null, .null, .null, .null]) (st := []) (m := dx_pR m 13 (fa_fill (fun _ => 0) (m.1 13) 144)) rfl (fun _ => ?_) (fun h => absurd (nI_le (Nat.le_refl _) (by decide)) h)
    refine dx_blk 2 (c' := (24, [.ref 0, .int (nI r), .int 1, .null, .null, .null, .null], [], dx_pR m 13 (fa_fill (fun _ => 0) (m.1 13) 144))) rfl ?_
    exact lp_mspread m hw1 hw hr ew hop h 144 (fa_fill (fun _ => 0) (m.1 13) 144) (by omega) hb0 (fun y x hy hx hne => absurd (fa_fill_in (by omega)) hne)
