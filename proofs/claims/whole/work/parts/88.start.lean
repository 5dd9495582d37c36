/-! the law, from its entry; the claim (printed by wip/whole/g88.py; the frame after the claim's skeleton) -/
theorem dx_cell_ad (ad : Nat → Nat) (cA : Nat → ClassId) (mm : dx_M) (k : Nat) (q : dx_Cell) : (dx_cell ad cA mm k q).1 = ad k := by cases q <;> rfl
theorem va_P_l {D : va_G} {cl : List vw_C} {ws : va_W} {x : Nat × va_E} {H : Heap} (h : va_P D cl (ws ++ [x]) H) : va_P D cl ws H := fun k q hk => h k q (by rw [List.getElem?_append_left (List.getElem?_eq_some_iff.mp hk).1]; exact hk)
theorem va_P_r {D : va_G} {cl : List vw_C} {ws : va_W} {x : Nat × va_E} {H : Heap} (h : va_P D cl (ws ++ [x]) H) : va_P D cl [x] H := fun k q hk => h (ws.length + k) q (by rw [List.getElem?_append_right (by omega), Nat.add_sub_cancel_left]; exact hk)
theorem va_D_1 {A : Nat → Prop} {a : Nat} {e : va_E} (h : A a) : va_D A [(a, e)] := by
  refine ⟨fun i j p q hi hj _ => ?_, fun k q hk => ?_⟩
  · have h1 := (List.getElem?_eq_some_iff.mp hi).1
    have h2 := (List.getElem?_eq_some_iff.mp hj).1
    simp at h1 h2
    omega
  · have h1 := (List.getElem?_eq_some_iff.mp hk).1
    simp at h1
    subst h1
    cases hk
    exact h
theorem va_A_1 {a : Nat} {e : va_E} {sz q : Nat} (h : va_A [(a, e)] sz q) : q = a ∨ sz ≤ q := by
  rcases h with ⟨k, e1, hk⟩ | h
  · have h1 := (List.getElem?_eq_some_iff.mp hk).1
    simp at h1
    subst h1
    cases hk
    exact Or.inl rfl
  · exact Or.inr h
theorem adOK_of {s : State} {A : Nat → Prop} {ad : Nat → Nat} {cA : Nat → ClassId} {lay : List dx_Cell} {mm : dx_M} (h : va_D A (dx_W ad cA lay mm)) (hF : ∀ q, A q → s.heap.size ≤ q) : adOK s ad lay.length := by
  have at1 : ∀ i, i < lay.length → ∃ q, (dx_W ad cA lay mm)[i]? = some q ∧ q.1 = ad i := fun i hi => by
    have e : lay[i]? = some lay[i] := List.getElem?_eq_getElem hi
    refine ⟨_, dx_W_get e, ?_⟩
    cases lay[i] <;> rfl
  refine ⟨fun i j hi hj e => ?_, fun k hk => ?_⟩
  · obtain ⟨p, h1, h2⟩ := at1 i hi
    obtain ⟨q, h3, h4⟩ := at1 j hj
    exact h.1 i j p q h1 h3 (by rw [h2, h4]; exact e)
  · obtain ⟨p, h1, h2⟩ := at1 k hk
    rw [← h2]
    exact hF _ (h.2 k p h1)
theorem dx_W_ad {D : va_G} {cl : List vw_C} {ad : Nat → Nat} {cA : Nat → ClassId} {lay : List dx_Cell} {mm : dx_M} {H : Heap} (h : va_P D cl (dx_W ad cA lay mm) H) {i : Nat} (hi : i < lay.length) : ad i < H.size := by
  have e : lay[i]? = some lay[i] := List.getElem?_eq_getElem hi
  have h1 := (h i _ (dx_W_get e)).lt
  have h2 : (dx_cell ad cA mm i lay[i]).1 = ad i := by cases lay[i] <;> rfl
  rw [h2] at h1
  exact h1
theorem SZ0_a {a : Nat} (h : a < 6) : SZ0 a = -1 := by
  match a, h with
  | 0, _ => rfl
  | 1, _ => rfl
  | 2, _ => rfl
  | 3, _ => rfl
  | 4, _ => rfl
  | 5, _ => rfl
/-- the two new objects are related -/
theorem RM_start : RM mxZ mmZ := by
  refine ⟨1, 1, 0, 10, ⟨by omega, by omega, by omega, by omega, by omega, by omega, by omega⟩, ⟨rfl, rfl, rfl, rfl⟩, ⟨rfl, rfl, rfl, rfl⟩, ⟨rfl, fun c hc => ?_⟩, fun i hi => absurd hi (by omega), fun a ha => ?_, fun a z j ha ez hz _ => ?_, fun a j ha hj => ?_, fun c _ => rfl, fun j _ => rfl, ⟨rfl, rfl, rfl⟩, fun k _ => Or.inl rfl⟩
  · show sqP (SQ0 c)
    unfold SQ0
    rw [fa_fill_in hc]
    exact Or.inl rfl
  · show SZ0 a = SZ0 a ∧ szP (SZ0 a)
    exact ⟨rfl, Or.inl (SZ0_a ha)⟩
  · have e : SZ0 a = nI z := ez
    rw [SZ0_a ha] at e
    exact absurd e (m1_n hz)
  · have e : mxZ.1 (20 + a) = fun _ => 0 := by
      unfold mxZ
      show (if 20 + a = 0 then _ else if 20 + a = 1 then _ else if 20 + a = 2 then SQ0 else if 20 + a = 8 then SZ0 else fun _ => 0) = _
      rw [if_neg (by omega), if_neg (by omega), if_neg (by omega), if_neg (by omega)]
    rw [e]
    show fits .byte (.int 0) = true
    decide
/-! THE CLAIM OUT OF ONE WALK OF THE LAW'S BODY. Your part is whole_start (and what it stands on); all else here is the same for every law, but numbers. -/
def lw_P (b : Addr) (xs : List Int32) (args : Array Value) (s : State) : Prop := args = #[.ref b] ∧ s.IntsAt b xs ∧ xs.length ≤ 3072 ∧ (Jvm.Cond.and given_1 narrow_1).before args s = true
def lw_Q (_ : Array Value) (s : State) (o : Outcome) (t : State) : Prop := o = .returned (some (.int 1)) ∧ Framed s o t [] 600000 7302250
def lw_Z (below : List Frame) (a : Array Value) (s : State) : State → Prop := fun t => ∃ o, t.status = .running ∧ Ended t below o ∧ lw_Q a s o t
/-- the law's own end, with 1 on the stack, nothing written that was there before, its room as the claim has it -/
theorem lw_ret {p : Program} {l : Launch} {e : Env} {s : State} {m : MethodId} {below : List Frame} {meth : Method} {c : Code} {b : Nat} (hx : p.tables.exec = Jvm.exec) (hb : c.code = code) (hr : meth.sig.returnType = ret) (hlocks : meth.locks = false) {pc : Nat} {H : Heap} {ls : Array Slot} (hdg : decode code pc = .ok (.ireturn, 1)) : W p l e room_1 s m #[Value.ref b] below meth c H [] 600000 7302250 (lw_Z below #[Value.ref b] s) (F0 m pc ls [.int 1]) := by
  intro T hT X
  obtain ⟨fs, hret, hrun, hended, hW, hframe⟩ := X.leave (v := some (.int 1)) (hlocks := hlocks) (fun h => by rw [hr] at h; cases h)
  have hmeth' : T.vm.method? m = some meth := X.method'
  refine ⟨T.setFrames fs, ?_, .returned (some (.int 1)), hrun, hended, rfl, ⟨_, rfl⟩, hW, hframe⟩
  jvm_step X.here [X.here.top, hx, hb, hdg, hmeth', hr, ret, narrow_b1]
  (try refine ⟨rfl, ?_⟩); (try refine ⟨rfl, ?_⟩)
  first | (intro acts; rw [hret _ acts rfl rfl rfl]) | rw [hret _ _ rfl rfl rfl]
  exact Steps.refl _
/-- what holds at the law's entry: the machine, the code, the tables' words (any of lw_tbl by 'hts w (by decide +kernel)'), the script of L ints xs at the cell b, what the Statement gives of the start (any of its parts by flat_of_before) -/
def lw_At (p : Program) (s : State) (m : MethodId) (meth : Method) (c : Code) (b L : Nat) (xs : Nat → Int32) : Prop :=
  p.tables.exec = Jvm.exec ∧ c.code = code ∧ meth.sig.returnType = ret ∧ c.maxLocals = 4 ∧ s.vm.findClass R_law = some m.cls ∧ (∀ w ∈ lw_tbl, w.before #[Value.ref b] s = true) ∧ va_X b L xs s s.heap ∧ b < s.heap.size ∧ meth.locks = false ∧ (Jvm.Cond.and given_1 narrow_1).before #[Value.ref b] s = true
set_option maxHeartbeats 4000000 in
set_option maxRecDepth 100000 in
/-- THE LAW, from its entry -/
theorem whole_start {p : Program} {e : Env} {s : State} {m : MethodId} {below : List Frame} {meth : Method} {c : Code} (l : Launch) {b L : Nat} {xs : Nat → Int32} (hL : L ≤ 3072) (C0 : lw_At p s m meth c b L xs) : W p l e room_1 s m #[Value.ref b] below meth c s.heap [] 0 0 (lw_Z below #[Value.ref b] s) (entryFrame m ([Value.ref b] : List Value).toArray 4) := by
  obtain ⟨hx, hb, hr, hml, hown, hts, hX, hbl, hlocks, hgv⟩ := id C0
  have htsT : ∀ w ∈ dx_T, w.before #[Value.ref b] s = true := fun w hw => hts w (dx_T_tbl hw)
  have hA : ∀ q : Nat, s.heap.size ≤ q → lw_A s q := fun _ h => h
  obtain ⟨c0, i0, n0⟩ := u_known (C := RX0) (T := TX0) (N := 3) (n := 3) htsT kl_in_X0 (htsT (.instantiable RX0 3) (dx_T_of (List.mem_of_getElem? (i := 55) (by decide +kernel)) (by decide +kernel)))
  obtain ⟨c1, i1, n1⟩ := u_known (C := RX1) (T := TX1) (N := 11) (n := 11) htsT kl_in_X1 (htsT (.instantiable RX1 11) (dx_T_of (List.mem_of_getElem? (i := 80) (by decide +kernel)) (by decide +kernel)))
  obtain ⟨c2, i2, n2⟩ := u_known (C := RX2) (T := TX2) (N := 6) (n := 6) htsT kl_in_X2 (htsT (.instantiable RX2 6) (dx_T_of (List.mem_of_getElem? (i := 129) (by decide +kernel)) (by decide +kernel)))
  obtain ⟨c3, i3, n3⟩ := u_known (C := RX3) (T := TX3) (N := 11) (n := 11) htsT kl_in_X3 (htsT (.instantiable RX3 11) (dx_T_of (List.mem_of_getElem? (i := 47) (by decide +kernel)) (by decide +kernel)))
  obtain ⟨c4, i4, n4⟩ := u_known (C := RX4) (T := TX4) (N := 38) (n := 38) htsT kl_in_X4 (htsT (.instantiable RX4 38) (dx_T_of (List.mem_of_getElem? (i := 554) (by decide +kernel)) (by decide +kernel)))
  obtain ⟨a0, k0, m0, f0, g0, h0⟩ := Cond.arrayClass_spec (htsT (.arrayClass .int) (dx_T_of (List.mem_of_getElem? (i := 78) (by decide +kernel)) (by decide +kernel)))
  obtain ⟨a1, k1, m1, f1, g1, h1⟩ := Cond.arrayClass_spec (htsT (.arrayClass .byte) (dx_T_of (List.mem_of_getElem? (i := 195) (by decide +kernel)) (by decide +kernel)))
  obtain ⟨a2, k2, m2, f2, g2, h2⟩ := Cond.arrayClass_spec (htsT (.arrayClass .boolean) (dx_T_of (List.mem_of_getElem? (i := 678) (by decide +kernel)) (by decide +kernel)))
  have hao : (Cond.arrayOver (.object "LogsAfloat$Load")).before #[Value.ref b] s = true := hts _ (List.mem_of_getElem? (i := 128) (by decide +kernel))
  have hab : (Cond.arrayOver (.array .byte)).before #[Value.ref b] s = true := hts _ (List.mem_of_getElem? (i := 160) (by decide +kernel))
  obtain ⟨m3, a3, k3, f3, -, g3, h3, j3⟩ := Cond.arrayOver_spec hao
  obtain ⟨m4, a4, k4, f4, -, g4, h4, j4⟩ := Stand.arrayOver_specB hab
  obtain ⟨D, hKc⟩ : ∃ D : va_G, ∀ (k : Nat) (q : vw_C), vwCl[k]? = some q → u_Kn s q.1 q.2.1 q.2.2 (D.1 k) (D.2 k) := by
    refine ⟨(fun k => if k = 0 then c0 else if k = 1 then c1 else if k = 2 then c2 else if k = 3 then c3 else c4, fun k => if k = 0 then i0 else if k = 1 then i1 else if k = 2 then i2 else if k = 3 then i3 else i4), ?_⟩
    intro k q hq
    match k, hq with
    | 0, hq => cases hq; exact n0
    | 1, hq => cases hq; exact n1
    | 2, hq => cases hq; exact n2
    | 3, hq => cases hq; exact n3
    | 4, hq => cases hq; exact n4
    | k + 5, hq => simp [vwCl] at hq
  obtain ⟨cA, hK⟩ : ∃ cA : Nat → ClassId, va_K D vwCl (TY cA) s := by
    refine ⟨fun t => if t = 0 then a0 else if t = 1 then a1 else if t = 2 then a2 else if t = 3 then a3 else a4, hKc, fun k q hq => ?_⟩
    match k, hq with
    | 0, hq => cases hq; exact ⟨fun n z => ⟨fun k h => (by cases h), k0, g0, m0, h0⟩, f0⟩
    | 1, hq => cases hq; exact ⟨fun n z => ⟨fun k h => (by cases h), k1, g1, m1, h1⟩, f1⟩
    | 2, hq => cases hq; exact ⟨fun n z => ⟨fun k h => (by cases h), k2, g2, m2, h2⟩, f2⟩
    | 3, hq => cases hq; exact ⟨fun n z => ⟨fun k h => (by cases h), k3, g3, m3, h3⟩, k3, m3, g3, h3, f3, j3⟩
    | 4, hq => cases hq; exact ⟨fun n z => ⟨fun k h => (by cases h), k4, g4, m4, h4⟩, j4⟩
    | k + 5, hq => simp [TY] at hq
  have hNs : dx_Ns s := show ∀ q ∈ dx_nest, va_Nw (.methodLinkNest q.1 q.2.1 q.2.2.1 q.2.2.2) s from List.forall_mem_cons.mpr ⟨va_Nw.of rfl (hts _ (List.mem_of_getElem? (i := 212) (by decide +kernel))), List.forall_mem_cons.mpr ⟨va_Nw.of rfl (hts _ (List.mem_of_getElem? (i := 432) (by decide +kernel))), List.forall_mem_cons.mpr ⟨va_Nw.of rfl (hts _ (List.mem_of_getElem? (i := 442) (by decide +kernel))), List.forall_mem_cons.mpr ⟨va_Nw.of rfl (hts _ (List.mem_of_getElem? (i := 349) (by decide +kernel))), List.forall_mem_cons.mpr ⟨va_Nw.of rfl (hts _ (List.mem_of_getElem? (i := 352) (by decide +kernel))), fun _ h => absurd h List.not_mem_nil⟩⟩⟩⟩⟩
  have hXN : XN s := ⟨hNs, va_AO.of hao, hab, va_Nw.of rfl (hts _ (List.mem_of_getElem? (i := 81) (by decide +kernel))), va_Nw.of rfl (hts _ (List.mem_of_getElem? (i := 130) (by decide +kernel)))⟩
  have hS : va_S (lw_A s) s.heap s.heap [] := va_S.rf
  have hP : va_P D vwCl [] s.heap := fun k q h => by simp at h
  have hD : va_D (lw_A s) [] := ⟨fun i j p q h => by simp at h, fun k q h => by simp at h⟩
  have hl := lv_entry ([.ref b]) (n := 4) (Nat.le_of_ble_eq_true rfl)
  rw [lg_entry_eq]
  generalize (lg_sl ([.ref b]) ++ List.replicate (4 - (lg_sl ([.ref b])).length) Slot.unset).toArray = ls at hl ⊢
  have hl : lv_has ls 4 [(0, .ref b)] := hl
  refine va_new (ci := 3) (fs := [.null, .null, .null, .null, .null, .null, .int 0, .int 0, .int 0, .long 0, .long 0]) (C := RX3) (T := TX3) (N := 11) hx hb htsT kl_in_X3 tyX3 tyX3_ok hown (htsT (.classLink R_law 7 RX3) (dx_T_of (List.mem_of_getElem? (i := 46) (by decide +kernel)) (by decide +kernel))) (htsT (.instantiable RX3 11) (dx_T_of (List.mem_of_getElem? (i := 47) (by decide +kernel)) (by decide +kernel))) (htsT (.initialized RX3) (dx_T_of (List.mem_of_getElem? (i := 37) (by decide +kernel)) (by decide +kernel))) hK hP hD hS hA rfl (fun j hj => by rcases (show j = 0 ∨ j = 1 ∨ j = 2 ∨ j = 3 ∨ j = 4 ∨ j = 5 ∨ j = 6 ∨ j = 7 ∨ j = 8 ∨ j = 9 ∨ j = 10 by omega) with rfl | rfl | rfl | rfl | rfl | rfl | rfl | rfl | rfl | rfl | rfl <;> rfl) (Nat.le_of_ble_eq_true rfl) (Nat.le_of_ble_eq_true rfl) dL_0 (fun q0 H1 hP hD hS => ?_)
  have hP : va_P D vwCl [(q0, .inr (3, [.null, .null, .null, .null, .null, .null, .int 0, .int 0, .int 0, .long 0, .long 0]))] H1 := hP
  have hD : va_D (lw_A s) [(q0, .inr (3, [.null, .null, .null, .null, .null, .null, .int 0, .int 0, .int 0, .long 0, .long 0]))] := hD
  refine W.widen (k := 1) (n := 11) (by omega) (by omega) ?_
  refine lv_dup hx hb dL_3 rfl ?_
  have hFc : ∀ q, va_A [(q0, .inr (3, [.null, .null, .null, .null, .null, .null, .int 0, .int 0, .int 0, .long 0, .long 0]))] H1.size q → lw_A s q := fun q h => by
    rcases va_A_1 h with rfl | h
    · exact hD.2 0 _ rfl
    · exact Nat.le_trans hS.1 h
  refine cs_callg (va_runI (As := []) (rest := [.ref q0]) ⟨hx, hb, hml, hown, htsT⟩ (c_X3_init l D cA q0 H1.size) (cwI 0 htsT (gd_ws (dx_T_of (List.mem_of_getElem? (i := 50) (by decide +kernel)) (by decide +kernel))) rfl rfl rfl (htsT (.initialized RX3) (dx_T_of (List.mem_of_getElem? (i := 37) (by decide +kernel)) (by decide +kernel))) (htsT (.methodLink R_law 9 yX3_init) (dx_T_of (List.mem_of_getElem? (i := 48) (by decide +kernel)) (by decide +kernel))) (htsT (.instanceMethod yX3_init) (dx_T_of (List.mem_of_getElem? (i := 49) (by decide +kernel)) (by decide +kernel))) rfl (by decide +kernel) ⟨Nat.le_of_ble_eq_true rfl, Nat.le_of_ble_eq_true rfl⟩) ⟨cs_blind, fun U hU hW => ⟨rfl, by rw [hU], by rw [hU]; exact hP, va_K.moved hW.alike hK, XN_warm hW hXN, hD.weaken (fun _ _ _ _ => trivial)⟩⟩ rfl rfl hl.1 rfl (lv_room (Nat.le_of_ble_eq_true rfl)) dL_4 ⟨Nat.le_of_ble_eq_true rfl, Nat.le_of_ble_eq_true rfl⟩) hS (fun q _ h => hFc q h) hFc (fun H2 locs2 hPost _ hk1 hS => ?_)
  obtain ⟨adX, eX, hPX, hDX⟩ := hPost
  have aX : adOK s adX 26 := adOK_of hDX hFc
  have hDX2 : va_D (lw_A s) (dx_W adX cA lx_X mxZ) := dx_W_D mxZ aX
  refine W.widen (k := 26) (n := 353) (by omega) (by omega) ?_
  refine lv_astore_n (lv' := [(1, .ref q0), (0, .ref b)]) hx hb dL_7 rfl hl (by decide) rfl (fun ls hl => ?_)
  refine va_new (ci := 4) (fs := [.int 0, .null, .long 0, .long 0, .int 0, .int 0, .int 0, .null, .null, .null, .null, .int 0, .null, .null, .null, .null, .null, .null, .int 0, .int 0, .null, .long 0, .long 0, .null, .int 0, .long 0, .long 0, .int 0, .int 0, .long 0, .long 0, .long 0, .long 0, .long 0, .long 0, .long 0, .long 0, .long 0]) (C := RX4) (T := TX4) (N := 38) hx hb htsT kl_in_X4 tyX4 tyX4_ok hown (htsT (.classLink R_law 10 RX4) (dx_T_of (List.mem_of_getElem? (i := 553) (by decide +kernel)) (by decide +kernel))) (htsT (.instantiable RX4 38) (dx_T_of (List.mem_of_getElem? (i := 554) (by decide +kernel)) (by decide +kernel))) (htsT (.initialized RX4) (dx_T_of (List.mem_of_getElem? (i := 41) (by decide +kernel)) (by decide +kernel))) hK hPX hDX2 hS hA rfl (fun j hj => by rcases (show j = 0 ∨ j = 1 ∨ j = 2 ∨ j = 3 ∨ j = 4 ∨ j = 5 ∨ j = 6 ∨ j = 7 ∨ j = 8 ∨ j = 9 ∨ j = 10 ∨ j = 11 ∨ j = 12 ∨ j = 13 ∨ j = 14 ∨ j = 15 ∨ j = 16 ∨ j = 17 ∨ j = 18 ∨ j = 19 ∨ j = 20 ∨ j = 21 ∨ j = 22 ∨ j = 23 ∨ j = 24 ∨ j = 25 ∨ j = 26 ∨ j = 27 ∨ j = 28 ∨ j = 29 ∨ j = 30 ∨ j = 31 ∨ j = 32 ∨ j = 33 ∨ j = 34 ∨ j = 35 ∨ j = 36 ∨ j = 37 by omega) with rfl | rfl | rfl | rfl | rfl | rfl | rfl | rfl | rfl | rfl | rfl | rfl | rfl | rfl | rfl | rfl | rfl | rfl | rfl | rfl | rfl | rfl | rfl | rfl | rfl | rfl | rfl | rfl | rfl | rfl | rfl | rfl | rfl | rfl | rfl | rfl | rfl | rfl <;> rfl) (Nat.le_of_ble_eq_true rfl) (Nat.le_of_ble_eq_true rfl) dL_8 (fun q1 H3 hP hD hS => ?_)
  have hPX3 := va_P_l hP
  have hP4 := va_P_r hP
  have hq1 : lw_A s q1 := hD.2 (dx_W adX cA lx_X mxZ).length _ (by rw [List.getElem?_append_right (Nat.le_refl _), Nat.sub_self]; rfl)
  have hne : ∀ i, i < 26 → adX i ≠ q1 := fun i hi e9 => by
    have ei : (lx_X)[i]? = some lx_X[i] := List.getElem?_eq_getElem hi
    have e1 : (dx_W adX cA lx_X mxZ ++ [(q1, (.inr (4, [.int 0, .null, .long 0, .long 0, .int 0, .int 0, .int 0, .null, .null, .null, .null, .int 0, .null, .null, .null, .null, .null, .null, .int 0, .int 0, .null, .long 0, .long 0, .null, .int 0, .long 0, .long 0, .int 0, .int 0, .long 0, .long 0, .long 0, .long 0, .long 0, .long 0, .long 0, .long 0, .long 0]) : va_E))])[i]? = some (dx_cell adX cA mxZ i lx_X[i]) := by rw [List.getElem?_append_left (List.getElem?_eq_some_iff.mp (dx_W_get ei)).1]; exact dx_W_get ei
    have e2 : (dx_W adX cA lx_X mxZ ++ [(q1, (.inr (4, [.int 0, .null, .long 0, .long 0, .int 0, .int 0, .int 0, .null, .null, .null, .null, .int 0, .null, .null, .null, .null, .null, .null, .int 0, .int 0, .null, .long 0, .long 0, .null, .int 0, .long 0, .long 0, .int 0, .int 0, .long 0, .long 0, .long 0, .long 0, .long 0, .long 0, .long 0, .long 0, .long 0]) : va_E))])[(dx_W adX cA lx_X mxZ).length]? = some (q1, .inr (4, [.int 0, .null, .long 0, .long 0, .int 0, .int 0, .int 0, .null, .null, .null, .null, .int 0, .null, .null, .null, .null, .null, .null, .int 0, .int 0, .null, .long 0, .long 0, .null, .int 0, .long 0, .long 0, .int 0, .int 0, .long 0, .long 0, .long 0, .long 0, .long 0, .long 0, .long 0, .long 0, .long 0])) := by rw [List.getElem?_append_right (Nat.le_refl _), Nat.sub_self]; rfl
    have e3 := hD.1 i _ _ _ e1 e2 ((dx_cell_ad _ _ _ _ _).trans e9)
    have e4 := (List.getElem?_eq_some_iff.mp (dx_W_get (ad := adX) (cA := cA) (m := mxZ) ei)).1
    omega
  have hD4 : va_D (lw_A s) [(q1, .inr (4, [.int 0, .null, .long 0, .long 0, .int 0, .int 0, .int 0, .null, .null, .null, .null, .int 0, .null, .null, .null, .null, .null, .null, .int 0, .int 0, .null, .long 0, .long 0, .null, .int 0, .long 0, .long 0, .int 0, .int 0, .long 0, .long 0, .long 0, .long 0, .long 0, .long 0, .long 0, .long 0, .long 0]))] := va_D_1 hq1
  refine W.widen (k := 27) (n := 391) (by omega) (by omega) ?_
  refine lv_dup hx hb dL_11 rfl ?_
  have hFm : ∀ q, va_A [(q1, .inr (4, [.int 0, .null, .long 0, .long 0, .int 0, .int 0, .int 0, .null, .null, .null, .null, .int 0, .null, .null, .null, .null, .null, .null, .int 0, .int 0, .null, .long 0, .long 0, .null, .int 0, .long 0, .long 0, .int 0, .int 0, .long 0, .long 0, .long 0, .long 0, .long 0, .long 0, .long 0, .long 0, .long 0]))] H3.size q → lw_A s q := fun q h => by
    rcases va_A_1 h with rfl | h
    · exact hq1
    · exact Nat.le_trans hS.1 h
  refine cs_callg (va_runI (As := []) (rest := [.ref q1]) ⟨hx, hb, hml, hown, htsT⟩ (c_X4_init l D cA q1 H3.size) (cwI 0 htsT (gd_ws (dx_T_of (List.mem_of_getElem? (i := 557) (by decide +kernel)) (by decide +kernel))) rfl rfl rfl (htsT (.initialized RX4) (dx_T_of (List.mem_of_getElem? (i := 41) (by decide +kernel)) (by decide +kernel))) (htsT (.methodLink R_law 12 yX4_init) (dx_T_of (List.mem_of_getElem? (i := 555) (by decide +kernel)) (by decide +kernel))) (htsT (.instanceMethod yX4_init) (dx_T_of (List.mem_of_getElem? (i := 556) (by decide +kernel)) (by decide +kernel))) rfl (by decide +kernel) ⟨Nat.le_of_ble_eq_true rfl, Nat.le_of_ble_eq_true rfl⟩) ⟨cs_blind, fun U hU hW => ⟨rfl, by rw [hU], by rw [hU]; exact hP4, va_K.moved hW.alike hK, XN_warm hW hXN, hD4.weaken (fun _ _ _ _ => trivial)⟩⟩ rfl rfl hl.1 rfl (lv_room (Nat.le_of_ble_eq_true rfl)) dL_12 ⟨Nat.le_of_ble_eq_true rfl, Nat.le_of_ble_eq_true rfl⟩) hS (fun q _ h => hFm q h) hFm (fun H4 locs4 hPost _ hk4 hS => ?_)
  obtain ⟨adM, eM, hPM, hDM⟩ := hPost
  have aM : adOK s adM 14 := adOK_of hDM hFm
  have hltX : ∀ i, i < 26 → adX i < H3.size := fun i hi => dx_W_ad hPX3 hi
  have hPX4 : va_P D vwCl (dx_W adX cA lx_X mxZ) H4 := hPX3.kept (fun k q hq => by
    obtain ⟨w1, w2⟩ := dx_W_at hq
    rw [w2]
    refine hk4 _ (hltX k w1) (fun z => ?_)
    rcases va_A_1 z with z | z
    · exact hne k w1 z
    · have := hltX k w1
      omega)
  have hsep : ∀ i j, i < 26 → j < 14 → adX i ≠ adM j := fun i j hi hj e9 => by
    have ej : (lx_M)[j]? = some lx_M[j] := List.getElem?_eq_getElem hj
    have w := hDM.2 j _ (dx_W_get ej)
    rw [dx_cell_ad] at w
    rcases va_A_1 w with z | z
    · exact hne i hi (e9.trans z)
    · have := hltX i hi
      omega
  subst eX
  subst eM
  refine W.widen (k := 600000) (n := 7302250) (by omega) (by omega) ?_
  refine lv_astore_n (lv' := [(2, .ref (adM 0)), (1, .ref (adX 0)), (0, .ref b)]) hx hb dL_15 rfl hl (by decide) rfl (fun ls hl => ?_)
  refine lv_iconst (v := 0) hx hb dL_16 (by decide) ?_
  refine lv_istore_n (lv' := [(3, .int 0), (2, .ref (adM 0)), (1, .ref (adX 0)), (0, .ref b)]) hx hb dL_17 rfl hl (by decide) rfl (fun ls hl => ?_)
  have hC : lw_C p s m c b L xs D cA (TY cA) adX adM := ⟨⟨hx, hb, hml, hown, htsT⟩, ⟨hX, hbl, hL⟩, hK, hNs, ⟨lw_ty_X cA, lw_ty_M cA⟩, aX, aM, hsep⟩
  refine lw_loop hC (fun ls9 H9 locs9 hS9 => ?_) (L + 7) 0 ls H4 locs4 mxZ mmZ (by omega) (by omega) hl RM_start ⟨hPX4, hPM, hS⟩
  refine lv_iconst (v := 1) hx hb dL_1192 (by decide) ?_
  refine va_forget (fun q hq => hS9.2.2 q hq) ?_
  exact lw_ret hx hb hr hlocks dL_1193
