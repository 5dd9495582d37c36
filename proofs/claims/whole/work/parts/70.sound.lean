/-! THE DEEP MACHINE IS THE MACHINE. A run of the deep machine is a walk of the machine over the cells that the layout tells. -/
def dx_T : List Cond := lw_tbl.filter goodWord
theorem dx_T_tbl {w : Cond} (h : w ∈ dx_T) : w ∈ lw_tbl := (List.mem_filter.mp h).1
theorem dx_T_of {w : Cond} (h : w ∈ lw_tbl) (g : goodWord w = true) : w ∈ dx_T := List.mem_filter.mpr ⟨h, g⟩
theorem dx_T_good {ws : List Cond} (h : ∀ w ∈ ws, w ∈ dx_T) : GoodIn dx_T ws := fun w hw => ⟨h w hw, good_of_word (List.mem_filter.mp (h w hw)).2⟩
def dx_nest : List (String × Nat × MethodName × String) := [("LogsAfloat$Cut", 26, yX3_within, "LogsAfloat"), ("LogsAfloat$Cut", 39, yX3_turnedAcross, "LogsAfloat"), ("LogsAfloat$Cut", 43, yX3_turnedUp, "LogsAfloat"), ("LogsAfloat$Lie", 43, yX3_turnedAcross, "LogsAfloat"), ("LogsAfloat$Lie", 47, yX3_turnedUp, "LogsAfloat")]
def dx_Ns (U : State) : Prop := ∀ q ∈ dx_nest, va_Nw (.methodLinkNest q.1 q.2.1 q.2.2.1 q.2.2.2) U
def dx_cv (ad : Nat → Nat) : Value → Value
  | .ref k => .ref (ad k)
  | v => v
theorem dx_cv_cat (ad : Nat → Nat) (v : Value) : (dx_cv ad v).category = v.category := by cases v <;> rfl
def dx_fv (ad : Nat → Nat) (x : Int32) (y : Int64) (q : Nat × Nat) : Value := match q.1 with
  | 0 => .int x
  | 1 => .int x
  | 2 => .long y
  | _ => .ref (ad q.2)
def dx_arr (ad : Nat → Nat) (f : Nat → Int32) (rs : List Nat) (t : Nat) : (Nat → Int32) ⊕ (Nat → Int64) ⊕ (Nat → UInt32) ⊕ (Nat → UInt64) ⊕ (Nat → Option Nat) := match t with
  | 0 => .inl f
  | 1 => .inl f
  | 2 => .inl f
  | _ => .inr (.inr (.inr (.inr (fun i => (rs[i]?).map ad))))
def dx_cell (ad : Nat → Nat) (cA : Nat → ClassId) (m : dx_M) (k : Nat) : dx_Cell → Nat × va_E
  | .inl (ci, fl) => (ad k, .inr (ci, fl.mapIdx (fun j q => dx_fv ad (m.1 k j) (m.2 k j) q)))
  | .inr (t, n, rs) => (ad k, .inl (cA t, n, dx_arr ad (m.1 k) rs t))
def dx_W (ad : Nat → Nat) (cA : Nat → ClassId) (lay : List dx_Cell) (m : dx_M) : va_W := lay.mapIdx (fun k q => dx_cell ad cA m k q)
theorem dx_W_get {ad : Nat → Nat} {cA : Nat → ClassId} {lay : List dx_Cell} {m : dx_M} {k : Nat} {q : dx_Cell} (h : lay[k]? = some q) : (dx_W ad cA lay m)[k]? = some (dx_cell ad cA m k q) := by
  unfold dx_W
  rw [List.getElem?_mapIdx, h]
  rfl
theorem dx_cell_cong {ad : Nat → Nat} {cA : Nat → ClassId} {m m' : dx_M} {k : Nat} (h1 : m'.1 k = m.1 k) (h2 : m'.2 k = m.2 k) (q : dx_Cell) : dx_cell ad cA m' k q = dx_cell ad cA m k q := by
  cases q with
  | inl q => obtain ⟨ci, fl⟩ := q; simp only [dx_cell, h1, h2]
  | inr q => obtain ⟨t, n, rs⟩ := q; simp only [dx_cell, h1]
theorem dx_W_set {ad : Nat → Nat} {cA : Nat → ClassId} {lay : List dx_Cell} {m m' : dx_M} {k : Nat} {q : dx_Cell} {x : Nat × va_E} (h : lay[k]? = some q) (hx : dx_cell ad cA m' k q = x) (h1 : ∀ i, i ≠ k → m'.1 i = m.1 i) (h2 : ∀ i, i ≠ k → m'.2 i = m.2 i) : (dx_W ad cA lay m).set k x = dx_W ad cA lay m' := by
  subst hx
  apply List.ext_getElem?
  intro i
  by_cases e : k = i
  · subst e
    have hl : k < (dx_W ad cA lay m).length := by
      unfold dx_W
      rw [List.length_mapIdx]
      exact (List.getElem?_eq_some_iff.mp h).1
    rw [List.getElem?_set_self hl]
    exact (dx_W_get h).symm
  · rw [List.getElem?_set_ne e]
    unfold dx_W
    rw [List.getElem?_mapIdx, List.getElem?_mapIdx]
    cases lay[i]? with
    | none => rfl
    | some q9 => exact congrArg some (dx_cell_cong (h1 i (fun z => e z.symm)) (h2 i (fun z => e z.symm)) q9).symm
theorem dx_pR_ne {m : dx_M} {k i : Nat} {f : Nat → Int32} (h : i ≠ k) : (dx_pR m k f).1 i = m.1 i := if_neg h
theorem dx_pR_eq {m : dx_M} {k : Nat} {f : Nat → Int32} : (dx_pR m k f).1 k = f := if_pos rfl
theorem dx_pL_ne {m : dx_M} {k i j : Nat} {v : Int64} (h : i ≠ k) : (dx_pL m k j v).2 i = m.2 i := if_neg h
theorem dx_pL_eq {m : dx_M} {k j : Nat} {v : Int64} : (dx_pL m k j v).2 k = vp_updL (m.2 k) j v := if_pos rfl
/-- an int array's row is set -/
theorem dx_W_row {ad : Nat → Nat} {cA : Nat → ClassId} {lay : List dx_Cell} {m : dx_M} {k t n : Nat} {rs : List Nat} {f : Nat → Int32} (h : lay[k]? = some (.inr (t, n, rs))) (ht : t < 3) : (dx_W ad cA lay m).set k (ad k, .inl (cA t, n, .inl f)) = dx_W ad cA lay (dx_pR m k f) := by
  refine dx_W_set h ?_ (fun i hi => dx_pR_ne hi) (fun i _ => rfl)
  match t, ht with
  | 0, _ => simp only [dx_cell, dx_pR_eq, dx_arr]
  | 1, _ => simp only [dx_cell, dx_pR_eq, dx_arr]
  | 2, _ => simp only [dx_cell, dx_pR_eq, dx_arr]
theorem dx_flI {ad : Nat → Nat} {m : dx_M} {k b : Nat} {fl : List (Nat × Nat)} {κ q : Nat} {x : Int32} (h : fl[b]? = some (κ, q)) (hκ : κ = 0 ∨ κ = 1) : fl.mapIdx (fun j q => dx_fv ad ((dx_pI m k b x).1 k j) ((dx_pI m k b x).2 k j) q) = (fl.mapIdx (fun j q => dx_fv ad (m.1 k j) (m.2 k j) q)).set b (.int x) := by
  apply List.ext_getElem?
  intro i
  by_cases e : b = i
  · subst e
    rw [List.getElem?_set_self (by rw [List.length_mapIdx]; exact (List.getElem?_eq_some_iff.mp h).1), List.getElem?_mapIdx, h]
    rcases hκ with rfl | rfl <;> simp [dx_fv, dx_pI, dx_pR, upd]
  · rw [List.getElem?_set_ne e, List.getElem?_mapIdx, List.getElem?_mapIdx]
    cases fl[i]? with
    | none => rfl
    | some q9 => simp [dx_pI, dx_pR, upd, Ne.symm e]
theorem dx_flL {ad : Nat → Nat} {m : dx_M} {k b : Nat} {fl : List (Nat × Nat)} {q : Nat} {x : Int64} (h : fl[b]? = some (2, q)) : fl.mapIdx (fun j q => dx_fv ad ((dx_pL m k b x).1 k j) ((dx_pL m k b x).2 k j) q) = (fl.mapIdx (fun j q => dx_fv ad (m.1 k j) (m.2 k j) q)).set b (.long x) := by
  apply List.ext_getElem?
  intro i
  by_cases e : b = i
  · subst e
    rw [List.getElem?_set_self (by rw [List.length_mapIdx]; exact (List.getElem?_eq_some_iff.mp h).1), List.getElem?_mapIdx, h]
    simp [dx_fv, dx_pL, vp_updL]
  · rw [List.getElem?_set_ne e, List.getElem?_mapIdx, List.getElem?_mapIdx]
    cases fl[i]? with
    | none => rfl
    | some q9 => simp [dx_pL, vp_updL, Ne.symm e]
theorem dx_W_int {ad : Nat → Nat} {cA : Nat → ClassId} {lay : List dx_Cell} {m : dx_M} {k b ci : Nat} {fl : List (Nat × Nat)} {κ q : Nat} {x : Int32} (h : lay[k]? = some (.inl (ci, fl))) (hb : fl[b]? = some (κ, q)) (hκ : κ = 0 ∨ κ = 1) : (dx_W ad cA lay m).set k (ad k, .inr (ci, (fl.mapIdx (fun j q => dx_fv ad (m.1 k j) (m.2 k j) q)).set b (.int x))) = dx_W ad cA lay (dx_pI m k b x) :=
  dx_W_set h (by simp only [dx_cell]; rw [dx_flI hb hκ]) (fun i hi => dx_pR_ne hi) (fun i _ => rfl)
theorem dx_W_long {ad : Nat → Nat} {cA : Nat → ClassId} {lay : List dx_Cell} {m : dx_M} {k b ci : Nat} {fl : List (Nat × Nat)} {q : Nat} {x : Int64} (h : lay[k]? = some (.inl (ci, fl))) (hb : fl[b]? = some (2, q)) : (dx_W ad cA lay m).set k (ad k, .inr (ci, (fl.mapIdx (fun j q => dx_fv ad (m.1 k j) (m.2 k j) q)).set b (.long x))) = dx_W ad cA lay (dx_pL m k b x) :=
  dx_W_set h (by simp only [dx_cell]; rw [dx_flL hb]) (fun i _ => rfl) (fun i hi => dx_pL_ne hi)
/-! locals -/
def dx_LO (ad : Nat → Nat) (ls : Array Slot) (L : List Value) : Prop := ls.size = L.length ∧ lv_wf ls ∧ ∀ (i : Nat) (v : Value), L[i]? = some v → v ≠ .null → ls[i]? = some (.val (dx_cv ad v))
def dx_al1 (ad : Nat → Nat) (i : Nat) : Option Value → Option (Nat × Value)
  | some .null => none
  | some v => some (i, dx_cv ad v)
  | none => none
def dx_al (ad : Nat → Nat) (L : List Value) : List (Nat × Value) := (List.range L.length).filterMap (fun i => dx_al1 ad i L[i]?)
theorem dx_al_mem {ad : Nat → Nat} {L : List Value} {q : Nat × Value} : q ∈ dx_al ad L ↔ ∃ v, L[q.1]? = some v ∧ v ≠ .null ∧ q.2 = dx_cv ad v := by
  unfold dx_al
  rw [List.mem_filterMap]
  constructor
  · rintro ⟨i, hi, h⟩
    cases hL : L[i]? with
    | none => rw [hL] at h; cases h
    | some v =>
      rw [hL] at h
      cases v <;> first | (cases h; done) | (cases h; exact ⟨_, hL, (fun z => by cases z), rfl⟩)
  · rintro ⟨v, h, hn, h2⟩
    refine ⟨q.1, List.mem_range.mpr (List.getElem?_eq_some_iff.mp h).1, ?_⟩
    rw [h]
    obtain ⟨q1, q2⟩ := q
    cases h2
    cases v <;> first | rfl | exact absurd rfl hn
theorem dx_LO.has {ad : Nat → Nat} {ls : Array Slot} {L : List Value} (h : dx_LO ad ls L) : lv_has ls L.length (dx_al ad L) := ⟨h.1, h.2.1, fun q hq => by
  obtain ⟨v, h1, h2, h3⟩ := dx_al_mem.mp hq
  rw [h3]
  exact h.2.2 q.1 v h1 h2⟩
theorem dx_LO.of {ad : Nat → Nat} {ls : Array Slot} {L : List Value} {n : Nat} {lv : List (Nat × Value)} (h : lv_has ls n lv) (hn : L.length = n) (hm : ∀ (i : Nat) (v : Value), L[i]? = some v → v ≠ .null → (i, dx_cv ad v) ∈ lv) : dx_LO ad ls L := ⟨h.1.trans hn.symm, h.2.1, fun i v h1 h2 => h.2.2 _ (hm i v h1 h2)⟩
theorem dx_ld_some {L : List Value} {i : Nat} {v : Value} (h : dx_ld L i = v) (hv : v ≠ .null) : L[i]? = some v := by
  induction L generalizing i with
  | nil => cases i <;> exact absurd h.symm hv
  | cons w t ih => cases i with
    | zero => exact congrArg some h
    | succ n => rw [List.getElem?_cons_succ]; exact ih h
theorem dx_st1_len : ∀ (L : List Value) (i : Nat) (v : Value), (dx_st1 L i v).length = L.length
  | [], _, _ => rfl
  | _ :: _, 0, _ => rfl
  | _ :: t, 1, v => by simp only [dx_st1, List.length_cons]; rw [dx_st1_len t 0 v]
  | _ :: t, n + 2, v => by simp only [dx_st1, List.length_cons]; rw [dx_st1_len t (n + 1) v]
theorem dx_tl0_len : ∀ L : List Value, (dx_tl0 L).length = L.length
  | [] => rfl
  | _ :: _ => rfl
theorem dx_st2_len : ∀ (L : List Value) (i : Nat) (v : Value), (dx_st2 L i v).length = L.length
  | [], _, _ => rfl
  | _ :: t, 0, _ => by simp only [dx_st2, List.length_cons, dx_tl0_len]
  | _ :: t, 1, v => by simp only [dx_st2, List.length_cons]; rw [dx_st2_len t 0 v]
  | _ :: t, n + 2, v => by simp only [dx_st2, List.length_cons]; rw [dx_st2_len t (n + 1) v]
theorem dx_kill_some {w v : Value} (h : dx_kill w = v) (hv : v ≠ .null) : w = v ∧ v.category ≠ 2 := by
  cases w <;> simp only [dx_kill] at h <;> subst h <;> first | exact absurd rfl hv | exact ⟨rfl, by decide⟩ | exact ⟨rfl, by simp [Value.category]⟩
theorem dx_st1_at : ∀ (L : List Value) (i : Nat) (v : Value) (j : Nat) (w : Value), (dx_st1 L i v)[j]? = some w → w ≠ .null → (j = i ∧ w = v) ∨ (j ≠ i ∧ L[j]? = some w ∧ ¬ (j + 1 = i ∧ w.category = 2))
  | [], _, _, _, _, h, _ => by simp [dx_st1] at h
  | a :: t, 0, v, j, w, h, hw => by
    cases j with
    | zero => simp [dx_st1] at h; exact Or.inl ⟨rfl, h.symm⟩
    | succ j => simp [dx_st1] at h; exact Or.inr ⟨by omega, by simpa using h, by omega⟩
  | a :: t, 1, v, j, w, h, hw => by
    cases j with
    | zero =>
      simp [dx_st1] at h
      obtain ⟨e1, e2⟩ := dx_kill_some h hw
      exact Or.inr ⟨by omega, by simp [e1], fun z => e2 z.2⟩
    | succ j =>
      simp only [dx_st1, List.getElem?_cons_succ] at h
      rcases dx_st1_at t 0 v j w h hw with ⟨e1, e2⟩ | ⟨e1, e2, e3⟩
      · exact Or.inl ⟨by omega, e2⟩
      · exact Or.inr ⟨by omega, by simpa using e2, by omega⟩
  | a :: t, n + 2, v, j, w, h, hw => by
    cases j with
    | zero => simp [dx_st1] at h; exact Or.inr ⟨by omega, by simp [h], by omega⟩
    | succ j =>
      simp only [dx_st1, List.getElem?_cons_succ] at h
      rcases dx_st1_at t (n + 1) v j w h hw with ⟨e1, e2⟩ | ⟨e1, e2, e3⟩
      · exact Or.inl ⟨by omega, e2⟩
      · exact Or.inr ⟨by omega, by simpa using e2, fun z => e3 ⟨by omega, z.2⟩⟩
theorem dx_tl0_at : ∀ (L : List Value) (j : Nat) (w : Value), (dx_tl0 L)[j]? = some w → w ≠ .null → j ≠ 0 ∧ L[j]? = some w
  | [], j, w, h, _ => by simp [dx_tl0] at h
  | a :: t, 0, w, h, hw => by simp [dx_tl0] at h; exact absurd h.symm hw
  | a :: t, j + 1, w, h, hw => by simp [dx_tl0] at h; exact ⟨by omega, by simpa using h⟩
theorem dx_st2_at : ∀ (L : List Value) (i : Nat) (v : Value) (j : Nat) (w : Value), (dx_st2 L i v)[j]? = some w → w ≠ .null → (j = i ∧ w = v) ∨ (j ≠ i ∧ j ≠ i + 1 ∧ L[j]? = some w ∧ ¬ (j + 1 = i ∧ w.category = 2))
  | [], _, _, _, _, h, _ => by simp [dx_st2] at h
  | a :: t, 0, v, j, w, h, hw => by
    cases j with
    | zero => simp [dx_st2] at h; exact Or.inl ⟨rfl, h.symm⟩
    | succ j =>
      simp only [dx_st2, List.getElem?_cons_succ] at h
      obtain ⟨e1, e2⟩ := dx_tl0_at t j w h hw
      exact Or.inr ⟨by omega, by omega, by simpa using e2, by omega⟩
  | a :: t, 1, v, j, w, h, hw => by
    cases j with
    | zero =>
      simp [dx_st2] at h
      obtain ⟨e1, e2⟩ := dx_kill_some h hw
      exact Or.inr ⟨by omega, by omega, by simp [e1], fun z => e2 z.2⟩
    | succ j =>
      simp only [dx_st2, List.getElem?_cons_succ] at h
      rcases dx_st2_at t 0 v j w h hw with ⟨e1, e2⟩ | ⟨e1, e4, e2, e3⟩
      · exact Or.inl ⟨by omega, e2⟩
      · exact Or.inr ⟨by omega, by omega, by simpa using e2, by omega⟩
  | a :: t, n + 2, v, j, w, h, hw => by
    cases j with
    | zero => simp [dx_st2] at h; exact Or.inr ⟨by omega, by omega, by simp [h], by omega⟩
    | succ j =>
      simp only [dx_st2, List.getElem?_cons_succ] at h
      rcases dx_st2_at t (n + 1) v j w h hw with ⟨e1, e2⟩ | ⟨e1, e4, e2, e3⟩
      · exact Or.inl ⟨by omega, e2⟩
      · exact Or.inr ⟨by omega, by omega, by simpa using e2, fun z => e3 ⟨by omega, z.2⟩⟩
theorem dx_LO.st1 {ad : Nat → Nat} {ls' : Array Slot} {L : List Value} {i : Nat} {v : Value} (h : lv_has ls' L.length ((i, dx_cv ad v) :: (dx_al ad L).filter (fun q => !(q.1 == i) && !(q.1 + 1 == i && q.2.category == 2)))) : dx_LO ad ls' (dx_st1 L i v) := by
  refine dx_LO.of h (dx_st1_len L i v) (fun j w hj hw => ?_)
  rcases dx_st1_at L i v j w hj hw with ⟨e1, e2⟩ | ⟨e1, e2, e3⟩
  · subst e1; subst e2; exact List.mem_cons_self
  · refine List.mem_cons_of_mem _ (List.mem_filter.mpr ⟨dx_al_mem.mpr ⟨w, e2, hw, rfl⟩, ?_⟩)
    simp only [Bool.and_eq_true, Bool.not_eq_true', beq_eq_false_iff_ne, Bool.and_eq_false_iff, dx_cv_cat]
    refine ⟨e1, ?_⟩
    by_cases q : j + 1 = i
    · exact Or.inr (fun z => e3 ⟨q, z⟩)
    · exact Or.inl q
theorem dx_LO.st2 {ad : Nat → Nat} {ls' : Array Slot} {L : List Value} {i : Nat} {v : Value} (h : lv_has ls' L.length ((i, dx_cv ad v) :: (dx_al ad L).filter (fun q => !(q.1 == i) && (!(q.1 == i + 1) && !(q.1 + 1 == i && q.2.category == 2))))) : dx_LO ad ls' (dx_st2 L i v) := by
  refine dx_LO.of h (dx_st2_len L i v) (fun j w hj hw => ?_)
  rcases dx_st2_at L i v j w hj hw with ⟨e1, e2⟩ | ⟨e1, e4, e2, e3⟩
  · subst e1; subst e2; exact List.mem_cons_self
  · refine List.mem_cons_of_mem _ (List.mem_filter.mpr ⟨dx_al_mem.mpr ⟨w, e2, hw, rfl⟩, ?_⟩)
    simp only [Bool.and_eq_true, Bool.not_eq_true', beq_eq_false_iff_ne, Bool.and_eq_false_iff, dx_cv_cat]
    refine ⟨e1, e4, ?_⟩
    by_cases q : j + 1 = i
    · exact Or.inr (fun z => e3 ⟨q, z⟩)
    · exact Or.inl q
theorem dx_LO.get {ad : Nat → Nat} {ls : Array Slot} {L : List Value} (h : dx_LO ad ls L) {i : Nat} {v : Value} (hv : dx_ld L i = v) (hn : v ≠ .null) : ls[i]? = some (.val (dx_cv ad v)) := h.2.2 i v (dx_ld_some hv hn) hn
/-! entry -/
def dx_ewd : List Value → Nat
  | [] => 0
  | v :: t => (if v.category = 2 then 2 else 1) + dx_ewd t
theorem dx_ent_len : ∀ (as : List Value) (n : Nat), (dx_ent n as).length = n → (lg_sl as).length ≤ n
  | [], n, _ => by simp [lg_sl]
  | .long x :: t, n, h => by
    simp only [dx_ent, List.length_cons] at h
    have h2 := dx_ent_len t (n - 2) (by omega)
    have e : (lg_sl (.long x :: t)).length = (lg_sl t).length + 2 := by simp [lg_sl, Value.category]
    omega
  | .double x :: t, n, h => by
    simp only [dx_ent, List.length_cons] at h
    have h2 := dx_ent_len t (n - 2) (by omega)
    have e : (lg_sl (.double x :: t)).length = (lg_sl t).length + 2 := by simp [lg_sl, Value.category]
    omega
  | .int x :: t, n, h => by
    simp only [dx_ent, List.length_cons] at h
    have h2 := dx_ent_len t (n - 1) (by omega)
    have e : (lg_sl (.int x :: t)).length = (lg_sl t).length + 1 := by simp [lg_sl, Value.category]
    omega
  | .float x :: t, n, h => by
    simp only [dx_ent, List.length_cons] at h
    have h2 := dx_ent_len t (n - 1) (by omega)
    have e : (lg_sl (.float x :: t)).length = (lg_sl t).length + 1 := by simp [lg_sl, Value.category]
    omega
  | .ref x :: t, n, h => by
    simp only [dx_ent, List.length_cons] at h
    have h2 := dx_ent_len t (n - 1) (by omega)
    have e : (lg_sl (.ref x :: t)).length = (lg_sl t).length + 1 := by simp [lg_sl, Value.category]
    omega
  | .null :: t, n, h => by
    simp only [dx_ent, List.length_cons] at h
    have h2 := dx_ent_len t (n - 1) (by omega)
    have e : (lg_sl (.null :: t)).length = (lg_sl t).length + 1 := by simp [lg_sl, Value.category]
    omega
  | .retAddr x :: t, n, h => by
    simp only [dx_ent, List.length_cons] at h
    have h2 := dx_ent_len t (n - 1) (by omega)
    have e : (lg_sl (.retAddr x :: t)).length = (lg_sl t).length + 1 := by simp [lg_sl, Value.category]
    omega
theorem dx_ent_at : ∀ (as : List Value) (n k i : Nat) (v : Value), (dx_ent n as)[i]? = some v → v ≠ .null → (k + i, v) ∈ lv_args k as
  | [], n, k, i, v, h, hv => by
    simp only [dx_ent, List.getElem?_replicate] at h
    split at h
    · exact absurd (Option.some.inj h).symm hv
    · cases h
  | w :: t, n, k, i, v, h, hv => by
    cases w with
    | long x =>
      simp only [dx_ent] at h
      match i, h with
      | 0, h => simp at h; subst h; exact List.mem_cons_self
      | 1, h => simp at h; exact absurd h.symm hv
      | i + 2, h =>
        simp only [List.getElem?_cons_succ] at h
        have q := dx_ent_at t (n - 2) (k + 2) i v h hv
        refine List.mem_cons_of_mem _ ?_
        rw [show k + (i + 2) = k + 2 + i by omega]
        simpa [Value.category] using q
    | double x =>
      simp only [dx_ent] at h
      match i, h with
      | 0, h => simp at h; subst h; exact List.mem_cons_self
      | 1, h => simp at h; exact absurd h.symm hv
      | i + 2, h =>
        simp only [List.getElem?_cons_succ] at h
        have q := dx_ent_at t (n - 2) (k + 2) i v h hv
        refine List.mem_cons_of_mem _ ?_
        rw [show k + (i + 2) = k + 2 + i by omega]
        simpa [Value.category] using q
    | _ =>
      simp only [dx_ent] at h
      match i, h with
      | 0, h => simp at h; subst h; exact List.mem_cons_self
      | i + 1, h =>
        simp only [List.getElem?_cons_succ] at h
        have q := dx_ent_at t (n - 1) (k + 1) i v h hv
        refine List.mem_cons_of_mem _ ?_
        rw [show k + (i + 1) = k + 1 + i by omega]
        simpa [Value.category] using q
theorem dx_args_map (ad : Nat → Nat) : ∀ (as : List Value) (k : Nat) (q : Nat × Value), q ∈ lv_args k as → (q.1, dx_cv ad q.2) ∈ lv_args k (as.map (dx_cv ad))
  | [], _, _, h => by cases h
  | v :: t, k, q, h => by
    simp only [lv_args, List.map_cons, dx_cv_cat] at h ⊢
    rcases List.mem_cons.mp h with rfl | h
    · exact List.mem_cons_self
    · exact List.mem_cons_of_mem _ (dx_args_map ad t _ q h)
theorem dx_sl_map (ad : Nat → Nat) : ∀ as : List Value, (lg_sl (as.map (dx_cv ad))).length = (lg_sl as).length
  | [] => rfl
  | v :: t => by
    have h := dx_sl_map ad t
    simp only [lg_sl, List.map_cons, List.flatMap_cons, List.length_append, dx_cv_cat] at h ⊢
    rw [h]
    split <;> rfl
/-- the locals at a method's entry -/
theorem dx_LO_entry {ad : Nat → Nat} {as : List Value} {n : Nat} (h : (dx_ent n as).length = n) : dx_LO ad ((lg_sl (as.map (dx_cv ad)) ++ List.replicate (n - (lg_sl (as.map (dx_cv ad))).length) Slot.unset).toArray) (dx_ent n as) := by
  have hl := lv_entry (as.map (dx_cv ad)) (n := n) (by rw [dx_sl_map]; exact dx_ent_len as n h)
  refine dx_LO.of hl h (fun i v h1 h2 => ?_)
  have q := dx_args_map ad as 0 (0 + i, v) (dx_ent_at as n 0 i v h1 h2)
  simpa using q
