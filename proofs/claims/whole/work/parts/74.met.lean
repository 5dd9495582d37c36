/-! returns, calls, the copy; a run of the deep machine gives the method's contract -/
theorem dx_rx_inv {ret : Option FieldType} {i : Instr} {st : List Value} {r : Option Value} (h : dx_rx ret i st = some r) :
    (i = .return_ ∧ ret = none ∧ st = [] ∧ r = none) ∨ (∃ v, i = .ireturn ∧ ret = some .int ∧ st = [.int v] ∧ r = some (.int v)) ∨ (∃ v, i = .ireturn ∧ ret = some .boolean ∧ st = [.int v] ∧ (v = 0 ∨ v = 1) ∧ r = some (.int v)) ∨ (∃ v, i = .lreturn ∧ ret = some .long ∧ st = [.long v] ∧ r = some (.long v)) := by
  unfold dx_rx at h
  split at h
  · exact Or.inl ⟨rfl, rfl, rfl, (Option.some.inj h).symm⟩
  · next v => exact Or.inr (Or.inl ⟨v, rfl, rfl, rfl, (Option.some.inj h).symm⟩)
  · next v => exact Or.inr (Or.inr (Or.inl ⟨v, rfl, rfl, rfl, (dx_if_some h).1, (dx_if_some h).2⟩))
  · next v => exact Or.inr (Or.inr (Or.inr ⟨v, rfl, rfl, rfl, (Option.some.inj h).symm⟩))
  · cases h
theorem dx_cS_inv {r : dx_I} {st : List Value} {q : Nat × List Value × List Value} (h : dx_cS r st = some q) : q.1 = r.2.2.2.2.1 ∧ q.2.1.length = r.2.2.2.2.2.1 ∧ st = q.2.1.reverse ++ q.2.2 ∧ (q.2.2.map fun v => v.category).sum ≤ 8 := by
  unfold dx_cS at h
  obtain ⟨⟨h1, h2⟩, h3⟩ := dx_if_some h
  subst h3
  exact ⟨rfl, by rw [List.length_reverse]; exact h1, by simp, h2⟩
theorem dx_cV_inv {lay : List dx_Cell} {r : dx_I} {st : List Value} {q : Nat × List Value × List Value} (h : dx_cV lay r st = some q) : ∃ (k ci : Nat) (as : List Value) (fl : List (Nat × Nat)), r.2.2.1 = .ref ci ∧ lay[k]? = some (.inl (ci, fl)) ∧ q.1 = r.2.2.2.2.1 ∧ q.2.1 = .ref k :: as ∧ as.length = r.2.2.2.2.2.1 ∧ st = as.reverse ++ .ref k :: q.2.2 ∧ (q.2.2.map fun v => v.category).sum ≤ 8 := by
  unfold dx_cV at h
  split at h
  · next k t ci e1 e2 =>
    split at h
    · next cj fl e3 =>
      obtain ⟨⟨h0, h1, h2⟩, h3⟩ := dx_if_some h
      subst h3
      subst h0
      refine ⟨k, cj, (st.take r.2.2.2.2.2.1).reverse, fl, e2, e3, rfl, rfl, by rw [List.length_reverse]; exact h1, ?_, h2⟩
      rw [List.reverse_reverse, ← e1, List.take_append_drop]
    · cases h
  · cases h
def dx_rm (d : Nat) : Room := { frames := d, cells := 0, slots := 0, locals := 38 * d }
def dx_ws (K : dx_K) : List Cond := Cond.code K.1.1 K.1.2.1 K.1.2.2.1 K.1.2.2.2 :: dx_T
def dx_B (D : va_G) (cA : Nat → ClassId) (tys : List (ClassId × FieldType)) (ad : Nat → Nat) (lay : List dx_Cell) (mm : dx_M) (U : State) : Prop := va_P D vwCl (dx_W ad cA lay mm) U.heap ∧ va_K D vwCl tys U ∧ dx_Ns U ∧ va_D (fun _ => True) (dx_W ad cA lay mm)
def dx_Q (D : va_G) (cA : Nat → ClassId) (ad : Nat → Nat) (lay : List dx_Cell) (A : Nat → Prop) (Z : Option Value → dx_M → Prop) : Array Value → State → Outcome → State → Prop := fun _ st oc t => (∃ (r : Option Value) (mm : dx_M), oc = .returned (r.map (dx_cv ad)) ∧ Z r mm ∧ va_P D vwCl (dx_W ad cA lay mm) t.heap ∧ va_D A (dx_W ad cA lay mm)) ∧ va_F A st t
/-- the contract of a method that the deep machine runs -/
def dx_Met (l : Launch) (K : dx_K) (lay : List dx_Cell) (d : Nat) (as : List Value) (mm : dx_M) (Z : Option Value → dx_M → Prop) : Prop :=
  ∀ (D : va_G) (cA : Nat → ClassId) (tys : List (ClassId × FieldType)) (ad : Nat → Nat) (sz : Nat), (∀ (k t n : Nat) (rs : List Nat), lay[k]? = some (.inr (t, n, rs)) → ∃ t0 : Nat, tys[t0]? = some (cA t, dx_ty t)) →
  Met l K.1.1 (dx_ws K) (dx_rm d) (va_Pc (as.map (dx_cv ad)) (fun U => U.heap.size = sz ∧ dx_B D cA tys ad lay mm U)) (dx_Q D cA ad lay (va_A (dx_W ad cA lay mm) sz) Z) 0 0 (va_A (dx_W ad cA lay mm) sz)
section DXM
variable {p : Program} {l : Launch} {e : Env} {R : Room} {s : State} {m : MethodId} {args : Array Value} {below : List Frame} {meth : Method} {c : Code} {H : Heap} {locs : List Loc} {cells slots : Nat} {Q : State → Prop}
variable {K : dx_K} {D : va_G} {cA : Nat → ClassId} {tys : List (ClassId × FieldType)} {lay : List dx_Cell} {A0 A1 : Nat → Prop} {H0 : Heap} {ad : Nat → Nat} {ls : Array Slot} {L st : List Value} {mm : dx_M} {pc : Nat} {P : List dx_K}
theorem dx_callg {Z : Option Value → dx_M → Prop} {rest st0 : List Value} {a : Array Value} {free : Addr → Prop} (hr : va_Run p l e R s m args below meth c H locs cells slots 0 0 (F0 m pc ls st0) rest (dx_Q D cA ad lay A1 Z a) free) (hS : va_S A0 H0 H locs) (hA : ∀ q, q < H.size → A1 q → A0 q) (hf : ∀ q, free q → A0 q)
    (kk : ∀ (r : Option Value) (mm' : dx_M) (H1 : Heap) (locs1 : List Loc), Z r mm' → va_P D vwCl (dx_W ad cA lay mm') H1 → va_D A1 (dx_W ad cA lay mm') → H.size ≤ H1.size → (∀ q : Nat, q < H.size → ¬ A1 q → H1[q]? = H[q]?) → va_S A0 H0 H1 locs1 → W p l e R s m args below meth c H1 locs1 cells slots Q (F0 m (pc + 3) ls ((r.map (dx_cv ad)).toList ++ rest))) : W p l e R s m args below meth c H locs cells slots Q (F0 m pc ls st0) := by
  intro T hT X
  obtain ⟨v, st₀, t, T', L, h0, X', hL, e1, e2, ⟨⟨r, mm', hv, hz, hp, hd⟩, hzz, hk⟩, st⟩ := hr T hT X
  cases hv
  rw [h0] at hzz hk
  obtain ⟨t2, a1, b1⟩ := kk r mm' T'.heap (locs ++ L) hz (by rw [e1]; exact hp) hd (by rw [e1]; exact hzz) (fun q h1 h2 => by rw [e1]; exact hk q h1 h2)
    ⟨Nat.le_trans hS.1 (by rw [e1]; exact hzz), fun q h1 h2 => by rw [e1, hk q (Nat.lt_of_lt_of_le h1 hS.1) (fun z => h2 (hA q (Nat.lt_of_lt_of_le h1 hS.1) z))]; exact hS.2.1 q h1 h2, fun q hq => by
      rcases List.mem_append.mp hq with h | h
      · exact hS.2.2 q h
      · exact hf _ (hL q h)⟩ T' rfl X'
  exact ⟨t2, st t2 a1, b1⟩
theorem dx_blind {D : va_G} {cA : Nat → ClassId} {tys : List (ClassId × FieldType)} {ad : Nat → Nat} {lay : List dx_Cell} {mm : dx_M} {av : List Value} {sz : Nat} : FrameBlind (va_Pc av (fun U => U.heap.size = sz ∧ dx_B D cA tys ad lay mm U)) := by
  intro a U g mk q
  obtain ⟨q0, q1, qP, qK, qN, qD⟩ := q
  exact ⟨q0, q1, qP, va_K.moved (u := U) (U := U.calling g mk a) (Vm.Alike.refl U.vm) qK, fun w hw => va_Nw.same rfl rfl (qN w hw), qD⟩
theorem dx_Ns_warm {s U : State} (hW : s.WarmedH U.vm) (h : dx_Ns s) : dx_Ns U := fun q hq => va_Nw.warmM hW (h q hq)
theorem dx_free (hW : dx_Wd D cA ad lay A0 H0 mm H locs) (hA : ∀ q, H0.size ≤ q → A0 q) : ∀ q, va_A (dx_W ad cA lay mm) H.size q → A0 q := by
  intro q h
  rcases h with ⟨k, e, h⟩ | h
  · exact hW.2.1.2 k (q, e) h
  · exact hA q (Nat.le_trans hW.2.2.1 h)
theorem dx_toList (r : Option Value) (rest : List Value) : (r.map (dx_cv ad)).toList ++ rest.map (dx_cv ad) = (r.toList ++ rest).map (dx_cv ad) := by cases r <;> rfl
theorem dx_cat_map (rest : List Value) : ((rest.map (dx_cv ad)).map fun v => v.category) = rest.map fun v => v.category := by
  rw [List.map_map]
  exact List.map_congr_left (fun v _ => dx_cv_cat ad v)
/-- a call, as the deep machine sees it -/
theorem dx_ex_call (X : dx_Cx p s m args c K D cA tys lay) (hN : dx_Ns s) (hlay : dx_layok lay) (hpk : ∀ (x : Nat) (e : Nat × Nat × Nat), dx_look K.2.2 x = some e → dx_pok P K.1.1.cls x e) (hPk : ∀ (id : Nat) (K' : dx_K), P[id]? = some K' → K'.1.2.2.1 ≤ 19) {r : dx_I} {id d : Nat} {as rest : List Value} {Z1 : Option Value → dx_M → Prop} (hd : decode K.1.2.1 pc = .ok (r.1, r.2.1)) (hr : dx_rch K pc r = true) (h : dx_cx lay r st = some (id, as, rest))
    (hM : ∀ K', P[id]? = some K' → dx_Met l K' lay d as mm Z1) (hR : d + 1 ≤ R.frames ∧ 38 * (d + 1) ≤ R.locals) (hRc : cells ≤ R.cells ∧ slots ≤ R.slots) (hA : ∀ q, H0.size ≤ q → A0 q)
    (hL : dx_LO ad ls L) (hLl : L.length = K.1.2.2.1) (hW : dx_Wd D cA ad lay A0 H0 mm H locs) (kk : ∀ (r : Option Value) (mm' : dx_M), Z1 r mm' → dx_at p l e R s m args below meth c cells slots Q D cA ad lay A0 H0 (pc + 3, L, r.toList ++ rest, mm')) : W p l e R s m args below meth c H locs cells slots Q (F0 m pc ls (st.map (dx_cv ad))) := by
  have hF := dx_free hW hA
  obtain ⟨hx, hb, hml, hown, hts, hK, hty⟩ := X
  have hP0 : ∀ U : State, U.heap = H → s.WarmedH U.vm → U.heap.size = H.size ∧ dx_B D cA tys ad lay mm U := fun U hU hWm => ⟨by rw [hU], by rw [hU]; exact hW.1, va_K.moved hWm.alike hK, dx_Ns_warm hWm hN, hW.2.1.weaken (fun _ _ _ _ => trivial)⟩
  have hsz : ls.size = K.1.2.2.1 := hL.1.trans hLl
  have fin : ∀ (r : Option Value) (mm' : dx_M) (H1 : Heap) (locs1 : List Loc), Z1 r mm' → va_P D vwCl (dx_W ad cA lay mm') H1 → va_D (va_A (dx_W ad cA lay mm) H.size) (dx_W ad cA lay mm') → H.size ≤ H1.size → (∀ q : Nat, q < H.size → ¬ va_A (dx_W ad cA lay mm) H.size q → H1[q]? = H[q]?) → va_S A0 H0 H1 locs1 → W p l e R s m args below meth c H1 locs1 cells slots Q (F0 m (pc + 3) ls ((r.map (dx_cv ad)).toList ++ rest.map (dx_cv ad))) := by
    intro r mm' H1 locs1 hz hp hd9 _ _ hs
    rw [dx_toList]
    exact kk r mm' hz ls H1 locs1 hL ⟨hp, hd9.weaken (fun k q _ z => hF q.1 z), hs⟩
  obtain ⟨i, n, v, a, b, cn, ts⟩ := r
  unfold dx_rch at hr
  rw [Bool.and_eq_true] at hr
  obtain ⟨hn, hr⟩ := hr
  dsimp only at hd hn
  unfold dx_cx at h
  dsimp only at h
  split at h
  · next x =>
    obtain rfl : n = 3 := of_decide_eq_true hn
    obtain ⟨k, ci, as', fl, e0, e1, e2, e3, e4, e5, e6⟩ := dx_cV_inv h
    dsimp only at e0 e2 e3 e4 e5 e6
    subst e0; subst e2; subst e3; subst e5
    dsimp only [dx_rc2] at hr
    rw [Bool.and_eq_true] at hr
    obtain ⟨hr, hr2⟩ := hr
    have hr3 : cn < 16 := of_decide_eq_true hr2
    obtain ⟨K', q, g1, g2, g3, g4, g5, g6, g7, g8, g9, g10, g11⟩ := hpk x _ (of_decide_eq_true hr)
    have hcn : (cn + 16 * ci) / 16 = ci ∧ (cn + 16 * ci) % 16 = cn := by omega
    rw [hcn.1] at g2
    rw [hcn.2] at g11
    have hml' := hPk _ _ g1
    have hst : ((as'.reverse ++ Value.ref k :: rest).map (dx_cv ad)) = (as'.map (dx_cv ad)).reverse ++ .ref (ad k) :: rest.map (dx_cv ad) := by
      rw [List.map_append, List.map_reverse, List.map_cons]; rfl
    rw [hst]
    refine dx_callg (va_runV (As := as'.map (dx_cv ad)) (rest := rest.map (dx_cv ad)) (C := K'.1.1.cls) ⟨hx, hb, hml, hown, hts⟩ (hM K' g1 D cA tys ad H.size hty) (cwV (bytes := K'.1.2.1) (maxL := K'.1.2.2.1) (ret := K'.1.2.2.2) cn hts (dx_T_good ?_) rfl rfl rfl ⟨rfl, g9, g10, g11⟩ ⟨hR.1, ?_⟩) ⟨dx_blind, ?_, fun U hU hWm => ⟨rfl, hP0 U hU hWm⟩⟩ rfl (by rw [List.length_map]; exact e4) hsz rfl (lv_room (by rw [dx_cat_map]; exact e6)) hd hRc) hW.2.2 (fun q _ z => hF q z) hF fin
    · intro w hw
      simp only [wsV, dx_ws, List.mem_append, List.mem_cons, List.not_mem_nil, or_false] at hw
      rcases hw with (rfl | rfl | rfl | rfl) | rfl | hw <;> assumption
    · have := hR.2
      show 8 + (K'.1.2.2.1 + 11) + 38 * d ≤ R.locals
      omega
    · rw [← g3]
      exact va_recv hK hW.1 (ci := ci) (q0 := k) g2 (dx_W_get e1)
  · next x =>
    obtain rfl : n = 3 := of_decide_eq_true hn
    obtain ⟨e2, e4, e5, e6⟩ := dx_cS_inv h
    dsimp only at e2 e4 e5 e6
    subst e2; subst e5
    obtain ⟨K', g1, g4, g5, g7, g8, g9, g10, g11⟩ := hpk x _ (of_decide_eq_true hr)
    have hml' := hPk _ _ g1
    have hst : ((as.reverse ++ rest).map (dx_cv ad)) = (as.map (dx_cv ad)).reverse ++ rest.map (dx_cv ad) := by
      rw [List.map_append, List.map_reverse]
    rw [hst]
    refine dx_callg (va_runS (As := as.map (dx_cv ad)) (rest := rest.map (dx_cv ad)) ⟨hx, hb, hml, hown, hts⟩ (hM K' g1 D cA tys ad H.size hty) (va_cwS (bytes := K'.1.2.1) (maxL := K'.1.2.2.1) (ret := K'.1.2.2.2) cn hts (dx_T_good ?_) rfl rfl rfl ⟨g9, g10, g11⟩ ⟨hR.1, ?_⟩) ⟨dx_blind, fun U hU hWm => ⟨rfl, hP0 U hU hWm⟩⟩ rfl (by rw [List.length_map]; exact e4) hsz rfl (lv_room (by rw [dx_cat_map]; exact e6)) hd hRc) hW.2.2 (fun q _ z => hF q z) hF fin
    · intro w hw
      simp only [va_wsS, dx_ws, List.mem_append, List.mem_cons, List.not_mem_nil, or_false] at hw
      rcases hw with (rfl | rfl | rfl) | rfl | hw <;> assumption
    · have := hR.2
      show 8 + (K'.1.2.2.1 + 11) + 38 * d ≤ R.locals
      omega
  · next x =>
    obtain rfl : n = 3 := of_decide_eq_true hn
    obtain ⟨e2, e4, e5, e6⟩ := dx_cS_inv h
    dsimp only at e2 e4 e5 e6
    subst e2; subst e5
    obtain ⟨K', host, g1, g4, g5, g7, g8, g9, g10, g11⟩ := hpk x _ (of_decide_eq_true hr)
    have hml' := hPk _ _ g1
    have hst : ((as.reverse ++ rest).map (dx_cv ad)) = (as.map (dx_cv ad)).reverse ++ rest.map (dx_cv ad) := by
      rw [List.map_append, List.map_reverse]
    rw [hst]
    refine dx_callg (va_runSN (As := as.map (dx_cv ad)) (rest := rest.map (dx_cv ad)) ⟨hx, hb, hml, hown, hts⟩ (hM K' g1 D cA tys ad H.size hty) ⟨va_cnB (host := host) (bytes := K'.1.2.1) (maxL := K'.1.2.2.1) (ret := K'.1.2.2.2) cn hts (dx_T_good ?_) rfl rfl rfl (hN _ g4) (hts _ g7) ⟨g9, g10, g11⟩ ⟨hR.1, ?_⟩, hts _ g5, trivial⟩ ⟨dx_blind, fun U hU hWm => ⟨rfl, hP0 U hU hWm⟩⟩ rfl (by rw [List.length_map]; exact e4) hsz rfl (lv_room (by rw [dx_cat_map]; exact e6)) hd hRc) hW.2.2 (fun q _ z => hF q z) hF fin
    · intro w hw
      simp only [dx_ws, List.mem_cons] at hw
      rcases hw with rfl | hw <;> assumption
    · have := hR.2
      show 8 + (K'.1.2.2.1 + 11) + 38 * d ≤ R.locals
      omega
  · cases h
end DXM
