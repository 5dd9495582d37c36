/-! the constructors (printed by wip/whole/g85.py) -/
theorem gd_ws {w0 : Cond} (h : w0 ∈ dx_T) : GoodIn dx_T (w0 :: dx_T) := dx_T_good (fun w hw => (List.mem_cons.mp hw).elim (fun e => e ▸ h) id)
def SQ0 : Nat → Int32 := fa_fill (fun _ => -9) (fun _ => 0) 144
section CSD
variable {p : Program} {l : Launch} {e : Env} {R : Room} {s : State} {m : MethodId} {args : Array Value} {below : List Frame} {meth : Method} {c : Code} {H : Heap} {locs : List Loc} {cells slots : Nat} {Q : State → Prop}
variable {D : va_G} {cA : Nat → ClassId} {tys : List (ClassId × FieldType)} {lay : List dx_Cell} {ad : Nat → Nat} {mm : dx_M} {A0 : Nat → Prop} {H0 : Heap} {ls : Array Slot} {cc : ByteArray} {nL : Nat} {own : String}
theorem cs_dcall (hx : p.tables.exec = Jvm.exec) (hb : c.code = cc) (hml : c.maxLocals = nL) (hown : s.vm.findClass own = some m.cls) (hts : ∀ w ∈ dx_T, w.before args s = true) (hK : va_K D vwCl tys s) (hN : dx_Ns s) (hlay : dx_layok lay) (hty : lw_ty tys cA lay) (d : Nat) {id idx e0 : Nat} {fl : List (Nat × Nat)} {as rest : List Value} {pc : Nat} {Z : Option Value → dx_M → Prop} (hp : dx_pok dx_P own idx (1, id, e0)) (hl0 : lay[0]? = some (.inl (e0 / 16, fl))) (hn : as.length = e0 % 16) (hS8 : dx_Sem dx_P lay (d + 1) id (.ref 0 :: as) mm Z) (hsz : ls.size = nL) (hd : decode cc pc = .ok (.invokevirtual idx, 3)) (hrest : (rest.map fun v => v.category).sum ≤ 8) (hR : d + 1 ≤ R.frames ∧ 38 + 38 * d ≤ R.locals) (hRc : cells ≤ R.cells ∧ slots ≤ R.slots) (hA : ∀ q, H0.size ≤ q → A0 q)
    (hP : va_P D vwCl (dx_W ad cA lay mm) H) (hD : va_D A0 (dx_W ad cA lay mm)) (hS : va_S A0 H0 H locs)
    (kk : ∀ (r : Option Value) (mm' : dx_M) (H1 : Heap) (locs1 : List Loc), Z r mm' → va_P D vwCl (dx_W ad cA lay mm') H1 → va_D A0 (dx_W ad cA lay mm') → va_S A0 H0 H1 locs1 → W p l e R s m args below meth c H1 locs1 cells slots Q (F0 m (pc + 3) ls ((r.map (dx_cv ad)).toList ++ rest))) :
    W p l e R s m args below meth c H locs cells slots Q (F0 m pc ls ((as.map (dx_cv ad)).reverse ++ .ref (ad 0) :: rest)) := by
  obtain ⟨K', q, g1, g2, g3, g4, g5, g6, g7, g8, g9, g10, g11⟩ := hp
  have hF := dx_free (D := D) (A0 := A0) (H0 := H0) ⟨hP, hD, hS⟩ hA
  have hM := dx_sound l dx_P_ok hlay d id (.ref 0 :: as) mm Z K' g1 hS8
  have hml' : K'.1.2.2.1 ≤ 19 := (dx_P_ok id K' g1).2.1
  have hP0 : ∀ U : State, U.heap = H → s.WarmedH U.vm → U.heap.size = H.size ∧ dx_B D cA tys ad lay mm U := fun U hU hWm => ⟨by rw [hU], by rw [hU]; exact hP, va_K.moved hWm.alike hK, dx_Ns_warm hWm hN, hD.weaken (fun _ _ _ _ => trivial)⟩
  refine dx_callg (va_runV (As := as.map (dx_cv ad)) (rest := rest) (C := K'.1.1.cls) ⟨hx, hb, hml, hown, hts⟩ (hM D cA tys ad H.size hty) (cwV (bytes := K'.1.2.1) (maxL := K'.1.2.2.1) (ret := K'.1.2.2.2) (e0 % 16) hts (dx_T_good ?_) rfl rfl rfl ⟨rfl, g9, g10, g11⟩ ⟨hR.1, ?_⟩) ⟨dx_blind, ?_, fun U hU hWm => ⟨rfl, hP0 U hU hWm⟩⟩ rfl (by rw [List.length_map]; exact hn) hsz rfl (lv_room hrest) hd hRc) hS (fun q _ z => hF q z) hF (fun r mm' H1 locs1 hz hp hd9 _ hk hs => kk r mm' H1 locs1 hz hp (hd9.weaken (fun k q _ z => hF q.1 z)) hs)
  · intro w hw
    simp only [wsV, dx_ws, List.mem_append, List.mem_cons, List.not_mem_nil, or_false] at hw
    rcases hw with (rfl | rfl | rfl | rfl) | rfl | hw <;> assumption
  · show 8 + (K'.1.2.2.1 + 11) + 38 * d ≤ R.locals
    have := hR.2
    omega
  · rw [← g3]
    exact va_recv hK hP (ci := e0 / 16) (q0 := 0) g2 (dx_W_get hl0)
end CSD
theorem mn_z (c : ClassId) : Jvm.Free.Multi.innerC c 12 (defaultValue .byte) = vp_cell c (12, .inl (fun _ => 0)) := arrV_new _ _ _
set_option maxRecDepth 20000 in
theorem kI_X0_begin : dx_pok dx_P RX0 15 (1, 0, 2) := dx_pok1 (K := km_X0_begin) (q := (RX0, TX0, 3)) rfl rfl rfl (dx_T_of (List.mem_of_getElem? (i := 60) (by decide +kernel)) (by decide +kernel)) (dx_T_of (List.mem_of_getElem? (i := 61) (by decide +kernel)) (by decide +kernel)) (dx_T_of (List.mem_of_getElem? (i := 62) (by decide +kernel)) (by decide +kernel)) ⟨(dx_T_of (List.mem_of_getElem? (i := 38) (by decide +kernel)) (by decide +kernel)), (dx_T_of (List.mem_of_getElem? (i := 63) (by decide +kernel)) (by decide +kernel)), by decide +kernel, by decide +kernel, by decide +kernel⟩ rfl
set_option maxRecDepth 20000 in
theorem kI_X4_begin : dx_pok dx_P RX4 59 (1, 90, 66) := dx_pok1 (K := km_X4_begin) (q := (RX4, TX4, 38)) rfl rfl rfl (dx_T_of (List.mem_of_getElem? (i := 559) (by decide +kernel)) (by decide +kernel)) (dx_T_of (List.mem_of_getElem? (i := 561) (by decide +kernel)) (by decide +kernel)) (dx_T_of (List.mem_of_getElem? (i := 14) (by decide +kernel)) (by decide +kernel)) ⟨(dx_T_of (List.mem_of_getElem? (i := 41) (by decide +kernel)) (by decide +kernel)), (dx_T_of (List.mem_of_getElem? (i := 562) (by decide +kernel)) (by decide +kernel)), by decide +kernel, by decide +kernel, by decide +kernel⟩ rfl
set_option maxHeartbeats 4000000 in
set_option maxRecDepth 100000 in
theorem c_X2_init (l : Launch) (D : va_G) (cA : Nat → ClassId) (h0 sz : Nat) : Met l yX2_init (Cond.code yX2_init cX2_init 1 none :: dx_T) ({ frames := 1, cells := 0, slots := 0, locals := 12 }) (va_Pc [.ref h0] (cs_B D cA h0 (.inr (2, [.int 0, .int 0, .int 0, .int 0, .int 0, .int 0])) sz)) (cs_Q (va_A [(h0, .inr (2, [.int 0, .int 0, .int 0, .int 0, .int 0, .int 0]))] sz) (fun H1 => va_P D vwCl [(h0, .inr (2, [.int 0, .int 0, .int 0, .int 0, .int 0, .int 0]))] H1 ∧ va_D (va_A [(h0, .inr (2, [.int 0, .int 0, .int 0, .int 0, .int 0, .int 0]))] sz) [(h0, .inr (2, [.int 0, .int 0, .int 0, .int 0, .int 0, .int 0]))])) 0 0 (va_A [(h0, .inr (2, [.int 0, .int 0, .int 0, .int 0, .int 0, .int 0]))] sz) := by
  refine Met.ofW (cc := cX2_init) (maxL := 1) (ret := none) (by decide) rfl ?_
  intro p e s m args below meth c s₁ B hml hv
  obtain ⟨rfl, hsz, hP, hK, hN, hD0⟩ := hv
  have hx := B.exec
  have hb := B.bytes
  have hr := B.returns
  have hts0 := atoms_spec (ws := (Cond.code yX2_init cX2_init 1 none :: dx_T)) B.pre
  have hts : ∀ w ∈ dx_T, w.before _ s = true := fun w hw => hts0 w (List.mem_cons_of_mem _ hw)
  have hown : s.vm.findClass RX2 = some m.cls := findClass_of_methodNamed B.named
  have hlocks := B.notSynchronized
  have hin : meth.name = "<init>" := (name_of_methodNamed B.named B.method).1
  subst hsz
  have hD := hD0.self (sz := s.heap.size)
  generalize hAe : va_A [(h0, .inr (2, [.int 0, .int 0, .int 0, .int 0, .int 0, .int 0]))] s.heap.size = A at hD ⊢
  have hA : ∀ q : Nat, s.heap.size ≤ q → A q := fun q h => by rw [← hAe]; exact Or.inr h
  have hS : va_S A s.heap s.heap [] := va_S.rf
  have hP : va_P D vwCl [(h0, .inr (2, [.int 0, .int 0, .int 0, .int 0, .int 0, .int 0]))] s.heap := hP
  have hl := lv_entry ([.ref h0]) (n := 1) (Nat.le_of_ble_eq_true rfl)
  rw [lg_entry_eq]
  generalize (lg_sl ([.ref h0]) ++ List.replicate (1 - (lg_sl ([.ref h0])).length) Slot.unset).toArray = ls at hl ⊢
  have hl : lv_has ls 1 [(0, .ref h0)] := hl
  refine lv_aload_n hx hb dX2_init_0 rfl (lv_at hl 0 rfl) ?_
  refine W.objInit hx hb hown (hts (.methodLink RX2 3 objectInit) (dx_T_of (List.mem_of_getElem? (i := 133) (by decide +kernel)) (by decide +kernel))) (hts (.instanceMethod objectInit) (dx_T_of (List.mem_of_getElem? (i := 52) (by decide +kernel)) (by decide +kernel))) (hts (.code objectInit ⟨#[0xb1]⟩ 1 none) (dx_T_of (List.mem_of_getElem? (i := 53) (by decide +kernel)) (by decide +kernel))) rfl (by rw [hml]; exact hl.1) rfl dX2_init_1 (Nat.le_of_ble_eq_true rfl) (Nat.le_of_ble_eq_true rfl) ?_
  refine W.eq (g2 := F0 m 4 ls []) rfl ?_
  exact W.vret hx hb hr (fun t ht hW => ⟨⟨rfl, by rw [ht]; exact ⟨hP, hD⟩⟩, hS.F ht⟩) hS.2.2 dX2_init_4
set_option maxHeartbeats 4000000 in
set_option maxRecDepth 100000 in
theorem c_X1_init (l : Launch) (D : va_G) (cA : Nat → ClassId) (h0 sz : Nat) : Met l yX1_init (Cond.code yX1_init cX1_init 1 none :: dx_T) ({ frames := 1, cells := 2, slots := 24, locals := 12 }) (va_Pc [.ref h0] (cs_B D cA h0 (.inr (1, [.null, .null, .int 0, .int 0, .int 0, .int 0, .int 0, .long 0, .long 0, .long 0, .long 0])) sz)) (cs_Q (va_A [(h0, .inr (1, [.null, .null, .int 0, .int 0, .int 0, .int 0, .int 0, .long 0, .long 0, .long 0, .long 0]))] sz) (fun H1 => ∃ q1 q2 : Nat, va_P D vwCl [(h0, .inr (1, [.ref q1, .ref q2, .int 0, .int 0, .int 0, .int 0, .int 0, .long 0, .long 0, .long 0, .long 0])), (q1, .inl (cA 0, 12, .inl (fun _ => 0))), (q2, .inl (cA 0, 12, .inl (fun _ => 0)))] H1 ∧ va_D (va_A [(h0, .inr (1, [.null, .null, .int 0, .int 0, .int 0, .int 0, .int 0, .long 0, .long 0, .long 0, .long 0]))] sz) [(h0, .inr (1, [.ref q1, .ref q2, .int 0, .int 0, .int 0, .int 0, .int 0, .long 0, .long 0, .long 0, .long 0])), (q1, .inl (cA 0, 12, .inl (fun _ => 0))), (q2, .inl (cA 0, 12, .inl (fun _ => 0)))])) 2 24 (va_A [(h0, .inr (1, [.null, .null, .int 0, .int 0, .int 0, .int 0, .int 0, .long 0, .long 0, .long 0, .long 0]))] sz) := by
  refine Met.ofW (cc := cX1_init) (maxL := 1) (ret := none) (by decide) rfl ?_
  intro p e s m args below meth c s₁ B hml hv
  obtain ⟨rfl, hsz, hP, hK, hN, hD0⟩ := hv
  have hx := B.exec
  have hb := B.bytes
  have hr := B.returns
  have hts0 := atoms_spec (ws := (Cond.code yX1_init cX1_init 1 none :: dx_T)) B.pre
  have hts : ∀ w ∈ dx_T, w.before _ s = true := fun w hw => hts0 w (List.mem_cons_of_mem _ hw)
  have hown : s.vm.findClass RX1 = some m.cls := findClass_of_methodNamed B.named
  have hlocks := B.notSynchronized
  have hin : meth.name = "<init>" := (name_of_methodNamed B.named B.method).1
  subst hsz
  have hD := hD0.self (sz := s.heap.size)
  generalize hAe : va_A [(h0, .inr (1, [.null, .null, .int 0, .int 0, .int 0, .int 0, .int 0, .long 0, .long 0, .long 0, .long 0]))] s.heap.size = A at hD ⊢
  have hA : ∀ q : Nat, s.heap.size ≤ q → A q := fun q h => by rw [← hAe]; exact Or.inr h
  have hS : va_S A s.heap s.heap [] := va_S.rf
  have hP : va_P D vwCl [(h0, .inr (1, [.null, .null, .int 0, .int 0, .int 0, .int 0, .int 0, .long 0, .long 0, .long 0, .long 0]))] s.heap := hP
  have hl := lv_entry ([.ref h0]) (n := 1) (Nat.le_of_ble_eq_true rfl)
  rw [lg_entry_eq]
  generalize (lg_sl ([.ref h0]) ++ List.replicate (1 - (lg_sl ([.ref h0])).length) Slot.unset).toArray = ls at hl ⊢
  have hl : lv_has ls 1 [(0, .ref h0)] := hl
  refine lv_aload_n hx hb dX1_init_0 rfl (lv_at hl 0 rfl) ?_
  refine W.objInit hx hb hown (hts (.methodLink RX1 3 objectInit) (dx_T_of (List.mem_of_getElem? (i := 84) (by decide +kernel)) (by decide +kernel))) (hts (.instanceMethod objectInit) (dx_T_of (List.mem_of_getElem? (i := 52) (by decide +kernel)) (by decide +kernel))) (hts (.code objectInit ⟨#[0xb1]⟩ 1 none) (dx_T_of (List.mem_of_getElem? (i := 53) (by decide +kernel)) (by decide +kernel))) rfl (by rw [hml]; exact hl.1) rfl dX1_init_1 (Nat.le_of_ble_eq_true rfl) (Nat.le_of_ble_eq_true rfl) ?_
  refine W.eq (g2 := F0 m 4 ls []) rfl ?_
  refine lv_aload_n hx hb dX1_init_4 rfl (lv_at hl 0 rfl) ?_
  refine lv_bipush (v := 12) hx hb dX1_init_5 (by decide) ?_
  refine va_newa (atype := .int) (ty := .int) (n := 12) (N' := 12) (a0 := (12, .inl (fun _ => 0))) hx hb (hts (.arrayClass .int) (dx_T_of (List.mem_of_getElem? (i := 78) (by decide +kernel)) (by decide +kernel))) rfl hK hP hD hS hA (fun _ => rfl) (by decide) (by decide) (by decide) (Nat.le_of_ble_eq_true rfl) (Nat.le_of_ble_eq_true rfl) dX1_init_7 (fun q1 cN H1 hKn hP hD hS => ?_)
  obtain rfl := cs_ty hKn (k := 0) rfl
  have hP : va_P D vwCl [(h0, .inr (1, [.null, .null, .int 0, .int 0, .int 0, .int 0, .int 0, .long 0, .long 0, .long 0, .long 0])), (q1, .inl (cA 0, 12, .inl (fun _ => 0)))] H1 := hP
  have hD : va_D A [(h0, .inr (1, [.null, .null, .int 0, .int 0, .int 0, .int 0, .int 0, .long 0, .long 0, .long 0, .long 0])), (q1, .inl (cA 0, 12, .inl (fun _ => 0)))] := hD
  refine W.widen (k := 1) (n := 12) (by omega) (by omega) ?_
  refine va_putF (D := D) (ci := 1) (v := .ref q1) (ty := (.array .int)) (C := RX1) (T := TX1) (N := 11) hx hb hts kl_in_X1 tyX1 tyX1_ok nmX1 hown hK hP hD hS 0 rfl rfl 0 (by decide) (hts (.fieldLink RX1 9 "LogsAfloat$Lie" "open" "[I") (dx_T_of (List.mem_of_getElem? (i := 85) (by decide +kernel)) (by decide +kernel))) (fun _ h9 => h9) rfl hin rfl (by decide +kernel) rfl rfl (Nat.le_of_ble_eq_true rfl) dX1_init_9 (fun H2 locs2 hP hD hS => ?_)
  have hP : va_P D vwCl [(h0, .inr (1, [.ref q1, .null, .int 0, .int 0, .int 0, .int 0, .int 0, .long 0, .long 0, .long 0, .long 0])), (q1, .inl (cA 0, 12, .inl (fun _ => 0)))] H2 := hP
  have hD : va_D A [(h0, .inr (1, [.ref q1, .null, .int 0, .int 0, .int 0, .int 0, .int 0, .long 0, .long 0, .long 0, .long 0])), (q1, .inl (cA 0, 12, .inl (fun _ => 0)))] := hD
  refine lv_aload_n hx hb dX1_init_12 rfl (lv_at hl 0 rfl) ?_
  refine lv_bipush (v := 12) hx hb dX1_init_13 (by decide) ?_
  refine va_newa (atype := .int) (ty := .int) (n := 12) (N' := 12) (a0 := (12, .inl (fun _ => 0))) hx hb (hts (.arrayClass .int) (dx_T_of (List.mem_of_getElem? (i := 78) (by decide +kernel)) (by decide +kernel))) rfl hK hP hD hS hA (fun _ => rfl) (by decide) (by decide) (by decide) (Nat.le_of_ble_eq_true rfl) (Nat.le_of_ble_eq_true rfl) dX1_init_15 (fun q3 cN H3 hKn hP hD hS => ?_)
  obtain rfl := cs_ty hKn (k := 0) rfl
  have hP : va_P D vwCl [(h0, .inr (1, [.ref q1, .null, .int 0, .int 0, .int 0, .int 0, .int 0, .long 0, .long 0, .long 0, .long 0])), (q1, .inl (cA 0, 12, .inl (fun _ => 0))), (q3, .inl (cA 0, 12, .inl (fun _ => 0)))] H3 := hP
  have hD : va_D A [(h0, .inr (1, [.ref q1, .null, .int 0, .int 0, .int 0, .int 0, .int 0, .long 0, .long 0, .long 0, .long 0])), (q1, .inl (cA 0, 12, .inl (fun _ => 0))), (q3, .inl (cA 0, 12, .inl (fun _ => 0)))] := hD
  refine W.widen (k := 2) (n := 24) (by omega) (by omega) ?_
  refine va_putF (D := D) (ci := 1) (v := .ref q3) (ty := (.array .int)) (C := RX1) (T := TX1) (N := 11) hx hb hts kl_in_X1 tyX1 tyX1_ok nmX1 hown hK hP hD hS 0 rfl rfl 1 (by decide) (hts (.fieldLink RX1 15 "LogsAfloat$Lie" "wet" "[I") (dx_T_of (List.mem_of_getElem? (i := 86) (by decide +kernel)) (by decide +kernel))) (fun _ h9 => h9) rfl hin rfl (by decide +kernel) rfl rfl (Nat.le_of_ble_eq_true rfl) dX1_init_17 (fun H4 locs4 hP hD hS => ?_)
  have hP : va_P D vwCl [(h0, .inr (1, [.ref q1, .ref q3, .int 0, .int 0, .int 0, .int 0, .int 0, .long 0, .long 0, .long 0, .long 0])), (q1, .inl (cA 0, 12, .inl (fun _ => 0))), (q3, .inl (cA 0, 12, .inl (fun _ => 0)))] H4 := hP
  have hD : va_D A [(h0, .inr (1, [.ref q1, .ref q3, .int 0, .int 0, .int 0, .int 0, .int 0, .long 0, .long 0, .long 0, .long 0])), (q1, .inl (cA 0, 12, .inl (fun _ => 0))), (q3, .inl (cA 0, 12, .inl (fun _ => 0)))] := hD
  exact W.vret hx hb hr (fun t ht hW => ⟨⟨rfl, by rw [ht]; exact ⟨q1, q3, hP, hD⟩⟩, hS.F ht⟩) hS.2.2 dX1_init_20
set_option maxHeartbeats 4000000 in
set_option maxRecDepth 100000 in
theorem c_X0_init (l : Launch) (D : va_G) (cA : Nat → ClassId) (h0 sz : Nat) : Met l yX0_init (Cond.code yX0_init cX0_init 1 none :: dx_T) ({ frames := 1, cells := 1, slots := 144, locals := 38 }) (va_Pc [.ref h0] (cs_B D cA h0 (.inr (0, [.null, .int 0, .int 0])) sz)) (cs_Q (va_A [(h0, .inr (0, [.null, .int 0, .int 0]))] sz) (fun H1 => ∃ q1 : Nat, va_P D vwCl [(h0, .inr (0, [.ref q1, .int 1, .int 1])), (q1, .inl (cA 0, 144, .inl SQ0))] H1 ∧ va_D (va_A [(h0, .inr (0, [.null, .int 0, .int 0]))] sz) [(h0, .inr (0, [.ref q1, .int 1, .int 1])), (q1, .inl (cA 0, 144, .inl SQ0))])) 1 144 (va_A [(h0, .inr (0, [.null, .int 0, .int 0]))] sz) := by
  refine Met.ofW (cc := cX0_init) (maxL := 1) (ret := none) (by decide) rfl ?_
  intro p e s m args below meth c s₁ B hml hv
  obtain ⟨rfl, hsz, hP, hK, hN, hD0⟩ := hv
  have hx := B.exec
  have hb := B.bytes
  have hr := B.returns
  have hts0 := atoms_spec (ws := (Cond.code yX0_init cX0_init 1 none :: dx_T)) B.pre
  have hts : ∀ w ∈ dx_T, w.before _ s = true := fun w hw => hts0 w (List.mem_cons_of_mem _ hw)
  have hown : s.vm.findClass RX0 = some m.cls := findClass_of_methodNamed B.named
  have hlocks := B.notSynchronized
  have hin : meth.name = "<init>" := (name_of_methodNamed B.named B.method).1
  subst hsz
  have hD := hD0.self (sz := s.heap.size)
  generalize hAe : va_A [(h0, .inr (0, [.null, .int 0, .int 0]))] s.heap.size = A at hD ⊢
  have hA : ∀ q : Nat, s.heap.size ≤ q → A q := fun q h => by rw [← hAe]; exact Or.inr h
  have hS : va_S A s.heap s.heap [] := va_S.rf
  have hP : va_P D vwCl [(h0, .inr (0, [.null, .int 0, .int 0]))] s.heap := hP
  have hl := lv_entry ([.ref h0]) (n := 1) (Nat.le_of_ble_eq_true rfl)
  rw [lg_entry_eq]
  generalize (lg_sl ([.ref h0]) ++ List.replicate (1 - (lg_sl ([.ref h0])).length) Slot.unset).toArray = ls at hl ⊢
  have hl : lv_has ls 1 [(0, .ref h0)] := hl
  refine lv_aload_n hx hb dX0_init_0 rfl (lv_at hl 0 rfl) ?_
  refine W.objInit hx hb hown (hts (.methodLink RX0 3 objectInit) (dx_T_of (List.mem_of_getElem? (i := 59) (by decide +kernel)) (by decide +kernel))) (hts (.instanceMethod objectInit) (dx_T_of (List.mem_of_getElem? (i := 52) (by decide +kernel)) (by decide +kernel))) (hts (.code objectInit ⟨#[0xb1]⟩ 1 none) (dx_T_of (List.mem_of_getElem? (i := 53) (by decide +kernel)) (by decide +kernel))) rfl (by rw [hml]; exact hl.1) rfl dX0_init_1 (Nat.le_of_ble_eq_true rfl) (Nat.le_of_ble_eq_true rfl) ?_
  refine W.eq (g2 := F0 m 4 ls []) rfl ?_
  refine lv_aload_n hx hb dX0_init_4 rfl (lv_at hl 0 rfl) ?_
  refine lv_sipush (v := 144) hx hb dX0_init_5 (by decide) ?_
  refine va_newa (atype := .int) (ty := .int) (n := 144) (N' := 144) (a0 := (144, .inl (fun _ => 0))) hx hb (hts (.arrayClass .int) (dx_T_of (List.mem_of_getElem? (i := 78) (by decide +kernel)) (by decide +kernel))) rfl hK hP hD hS hA (fun _ => rfl) (by decide) (by decide) (by decide) (Nat.le_of_ble_eq_true rfl) (Nat.le_of_ble_eq_true rfl) dX0_init_8 (fun q1 cN H1 hKn hP hD hS => ?_)
  obtain rfl := cs_ty hKn (k := 0) rfl
  have hP : va_P D vwCl [(h0, .inr (0, [.null, .int 0, .int 0])), (q1, .inl (cA 0, 144, .inl (fun _ => 0)))] H1 := hP
  have hD : va_D A [(h0, .inr (0, [.null, .int 0, .int 0])), (q1, .inl (cA 0, 144, .inl (fun _ => 0)))] := hD
  refine W.widen (k := 1) (n := 144) (by omega) (by omega) ?_
  refine va_putF (D := D) (ci := 0) (v := .ref q1) (ty := (.array .int)) (C := RX0) (T := TX0) (N := 3) hx hb hts kl_in_X0 tyX0 tyX0_ok nmX0 hown hK hP hD hS 0 rfl rfl 0 (by decide) (hts (.fieldLink RX0 9 "LogsAfloat$Cut" "weights" "[I") (dx_T_of (List.mem_of_getElem? (i := 64) (by decide +kernel)) (by decide +kernel))) (fun _ h9 => h9) rfl hin rfl (by decide +kernel) rfl rfl (Nat.le_of_ble_eq_true rfl) dX0_init_10 (fun H2 locs2 hP hD hS => ?_)
  have hP : va_P D vwCl [(h0, .inr (0, [.ref q1, .int 0, .int 0])), (q1, .inl (cA 0, 144, .inl (fun _ => 0)))] H2 := hP
  have hD : va_D A [(h0, .inr (0, [.ref q1, .int 0, .int 0])), (q1, .inl (cA 0, 144, .inl (fun _ => 0)))] := hD
  refine lv_aload_n hx hb dX0_init_13 rfl (lv_at hl 0 rfl) ?_
  refine lv_iconst (v := 1) hx hb dX0_init_14 (by decide) ?_
  refine lv_iconst (v := 1) hx hb dX0_init_15 (by decide) ?_
  have hP9 : va_P D vwCl (dx_W (fun k => ([h0, q1] : List Nat).getD k 0) cA lx_C (fun _ _ => 0, fun _ _ => 0)) H2 := hP
  have hD9 : va_D A (dx_W (fun k => ([h0, q1] : List Nat).getD k 0) cA lx_C (fun _ _ => 0, fun _ _ => 0)) := hD
  refine cs_dcall (as := [.int 1, .int 1]) (rest := []) (ad := fun k => ([h0, q1] : List Nat).getD k 0) (Z := fun r m9 => r = none ∧ m9 = dx_pR (dx_pI (dx_pI ((fun _ _ => 0, fun _ _ => 0) : dx_M) 0 1 1) 0 2 1) 1 SQ0) hx hb hml hown hts hK hN.1 lx_C_ok (fun k t n rs h => ?_) 0 kI_X0_begin rfl rfl (sC0_begin 1 1 _ ⟨rfl, rfl⟩) hl.1 dX0_init_16 (Nat.le_of_ble_eq_true rfl) ⟨Nat.le_of_ble_eq_true rfl, Nat.le_of_ble_eq_true rfl⟩ ⟨Nat.le_of_ble_eq_true rfl, Nat.le_of_ble_eq_true rfl⟩ hA hP9 hD9 hS (fun r m9 H9 locs9 hz hP hD hS => ?_)
  · match k, h with
    | 1, h => cases h; exact ⟨0, rfl⟩
  obtain ⟨rfl, rfl⟩ := hz
  have hP : va_P D vwCl [(h0, .inr (0, [.ref q1, .int 1, .int 1])), (q1, .inl (cA 0, 144, .inl SQ0))] H9 := hP
  have hD : va_D A [(h0, .inr (0, [.ref q1, .int 1, .int 1])), (q1, .inl (cA 0, 144, .inl SQ0))] := hD
  exact W.vret hx hb hr (fun t ht hW => ⟨⟨rfl, by rw [ht]; exact ⟨q1, hP, hD⟩⟩, hS.F ht⟩) hS.2.2 dX0_init_19
