/-! the layouts fit the classes -/
def dx_fok (T : u_T) (fl : List (Nat × Nat)) : Bool := (List.range fl.length).all (fun b => match fl[b]? with
  | some (0, _) => decide ((T b).2.2 = ("I", false))
  | some (1, _) => decide ((T b).2.2 = ("Z", false))
  | some (2, _) => decide ((T b).2.2 = ("J", false))
  | _ => true)
theorem dx_fok_of {T : u_T} {fl : List (Nat × Nat)} (h : dx_fok T fl = true) : ∀ (b κ q : Nat), fl[b]? = some (κ, q) → (κ = 0 → (T b).2.2 = ("I", false)) ∧ (κ = 1 → (T b).2.2 = ("Z", false)) ∧ (κ = 2 → (T b).2.2 = ("J", false)) := by
  intro b κ q hb
  have h1 := List.all_eq_true.mp h b (List.mem_range.mpr (List.getElem?_eq_some_iff.mp hb).1)
  rw [hb] at h1
  refine ⟨fun e => ?_, fun e => ?_, fun e => ?_⟩ <;> subst e <;> exact of_decide_eq_true h1
set_option maxRecDepth 20000 in
theorem kl_in_X0 : ∀ w ∈ u_ws RX0 TX0 3, w ∈ dx_T := by
  show ∀ w ∈ [u_lay RX0 TX0 0, u_lay RX0 TX0 1, u_lay RX0 TX0 2], w ∈ dx_T
  exact List.forall_mem_cons.mpr ⟨(dx_T_of (List.mem_of_getElem? (i := 71) (by decide +kernel)) (by decide +kernel)), List.forall_mem_cons.mpr ⟨(dx_T_of (List.mem_of_getElem? (i := 73) (by decide +kernel)) (by decide +kernel)), List.forall_mem_cons.mpr ⟨(dx_T_of (List.mem_of_getElem? (i := 75) (by decide +kernel)) (by decide +kernel)), fun _ h => absurd h List.not_mem_nil⟩⟩⟩
theorem kl_X0 : dx_clsok RX0 TX0 3 := ⟨⟨tyX0, tyX0_ok⟩, nmX0, kl_in_X0⟩
set_option maxRecDepth 20000 in
theorem kl_in_X1 : ∀ w ∈ u_ws RX1 TX1 11, w ∈ dx_T := by
  show ∀ w ∈ [u_lay RX1 TX1 0, u_lay RX1 TX1 1, u_lay RX1 TX1 2, u_lay RX1 TX1 3, u_lay RX1 TX1 4, u_lay RX1 TX1 5, u_lay RX1 TX1 6, u_lay RX1 TX1 7, u_lay RX1 TX1 8, u_lay RX1 TX1 9, u_lay RX1 TX1 10], w ∈ dx_T
  exact List.forall_mem_cons.mpr ⟨(dx_T_of (List.mem_of_getElem? (i := 104) (by decide +kernel)) (by decide +kernel)), List.forall_mem_cons.mpr ⟨(dx_T_of (List.mem_of_getElem? (i := 106) (by decide +kernel)) (by decide +kernel)), List.forall_mem_cons.mpr ⟨(dx_T_of (List.mem_of_getElem? (i := 108) (by decide +kernel)) (by decide +kernel)), List.forall_mem_cons.mpr ⟨(dx_T_of (List.mem_of_getElem? (i := 110) (by decide +kernel)) (by decide +kernel)), List.forall_mem_cons.mpr ⟨(dx_T_of (List.mem_of_getElem? (i := 112) (by decide +kernel)) (by decide +kernel)), List.forall_mem_cons.mpr ⟨(dx_T_of (List.mem_of_getElem? (i := 114) (by decide +kernel)) (by decide +kernel)), List.forall_mem_cons.mpr ⟨(dx_T_of (List.mem_of_getElem? (i := 116) (by decide +kernel)) (by decide +kernel)), List.forall_mem_cons.mpr ⟨(dx_T_of (List.mem_of_getElem? (i := 118) (by decide +kernel)) (by decide +kernel)), List.forall_mem_cons.mpr ⟨(dx_T_of (List.mem_of_getElem? (i := 120) (by decide +kernel)) (by decide +kernel)), List.forall_mem_cons.mpr ⟨(dx_T_of (List.mem_of_getElem? (i := 122) (by decide +kernel)) (by decide +kernel)), List.forall_mem_cons.mpr ⟨(dx_T_of (List.mem_of_getElem? (i := 124) (by decide +kernel)) (by decide +kernel)), fun _ h => absurd h List.not_mem_nil⟩⟩⟩⟩⟩⟩⟩⟩⟩⟩⟩
theorem kl_X1 : dx_clsok RX1 TX1 11 := ⟨⟨tyX1, tyX1_ok⟩, nmX1, kl_in_X1⟩
set_option maxRecDepth 20000 in
theorem kl_in_X2 : ∀ w ∈ u_ws RX2 TX2 6, w ∈ dx_T := by
  show ∀ w ∈ [u_lay RX2 TX2 0, u_lay RX2 TX2 1, u_lay RX2 TX2 2, u_lay RX2 TX2 3, u_lay RX2 TX2 4, u_lay RX2 TX2 5], w ∈ dx_T
  exact List.forall_mem_cons.mpr ⟨(dx_T_of (List.mem_of_getElem? (i := 146) (by decide +kernel)) (by decide +kernel)), List.forall_mem_cons.mpr ⟨(dx_T_of (List.mem_of_getElem? (i := 148) (by decide +kernel)) (by decide +kernel)), List.forall_mem_cons.mpr ⟨(dx_T_of (List.mem_of_getElem? (i := 150) (by decide +kernel)) (by decide +kernel)), List.forall_mem_cons.mpr ⟨(dx_T_of (List.mem_of_getElem? (i := 152) (by decide +kernel)) (by decide +kernel)), List.forall_mem_cons.mpr ⟨(dx_T_of (List.mem_of_getElem? (i := 154) (by decide +kernel)) (by decide +kernel)), List.forall_mem_cons.mpr ⟨(dx_T_of (List.mem_of_getElem? (i := 156) (by decide +kernel)) (by decide +kernel)), fun _ h => absurd h List.not_mem_nil⟩⟩⟩⟩⟩⟩
theorem kl_X2 : dx_clsok RX2 TX2 6 := ⟨⟨tyX2, tyX2_ok⟩, nmX2, kl_in_X2⟩
set_option maxRecDepth 20000 in
theorem kl_in_X3 : ∀ w ∈ u_ws RX3 TX3 11, w ∈ dx_T := by
  show ∀ w ∈ [u_lay RX3 TX3 0, u_lay RX3 TX3 1, u_lay RX3 TX3 2, u_lay RX3 TX3 3, u_lay RX3 TX3 4, u_lay RX3 TX3 5, u_lay RX3 TX3 6, u_lay RX3 TX3 7, u_lay RX3 TX3 8, u_lay RX3 TX3 9, u_lay RX3 TX3 10], w ∈ dx_T
  exact List.forall_mem_cons.mpr ⟨(dx_T_of (List.mem_of_getElem? (i := 172) (by decide +kernel)) (by decide +kernel)), List.forall_mem_cons.mpr ⟨(dx_T_of (List.mem_of_getElem? (i := 174) (by decide +kernel)) (by decide +kernel)), List.forall_mem_cons.mpr ⟨(dx_T_of (List.mem_of_getElem? (i := 176) (by decide +kernel)) (by decide +kernel)), List.forall_mem_cons.mpr ⟨(dx_T_of (List.mem_of_getElem? (i := 178) (by decide +kernel)) (by decide +kernel)), List.forall_mem_cons.mpr ⟨(dx_T_of (List.mem_of_getElem? (i := 180) (by decide +kernel)) (by decide +kernel)), List.forall_mem_cons.mpr ⟨(dx_T_of (List.mem_of_getElem? (i := 182) (by decide +kernel)) (by decide +kernel)), List.forall_mem_cons.mpr ⟨(dx_T_of (List.mem_of_getElem? (i := 184) (by decide +kernel)) (by decide +kernel)), List.forall_mem_cons.mpr ⟨(dx_T_of (List.mem_of_getElem? (i := 186) (by decide +kernel)) (by decide +kernel)), List.forall_mem_cons.mpr ⟨(dx_T_of (List.mem_of_getElem? (i := 188) (by decide +kernel)) (by decide +kernel)), List.forall_mem_cons.mpr ⟨(dx_T_of (List.mem_of_getElem? (i := 190) (by decide +kernel)) (by decide +kernel)), List.forall_mem_cons.mpr ⟨(dx_T_of (List.mem_of_getElem? (i := 192) (by decide +kernel)) (by decide +kernel)), fun _ h => absurd h List.not_mem_nil⟩⟩⟩⟩⟩⟩⟩⟩⟩⟩⟩
theorem kl_X3 : dx_clsok RX3 TX3 11 := ⟨⟨tyX3, tyX3_ok⟩, nmX3, kl_in_X3⟩
set_option maxRecDepth 20000 in
theorem kl_in_X4 : ∀ w ∈ u_ws RX4 TX4 38, w ∈ dx_T := by
  show ∀ w ∈ [u_lay RX4 TX4 0, u_lay RX4 TX4 1, u_lay RX4 TX4 2, u_lay RX4 TX4 3, u_lay RX4 TX4 4, u_lay RX4 TX4 5, u_lay RX4 TX4 6, u_lay RX4 TX4 7, u_lay RX4 TX4 8, u_lay RX4 TX4 9, u_lay RX4 TX4 10, u_lay RX4 TX4 11, u_lay RX4 TX4 12, u_lay RX4 TX4 13, u_lay RX4 TX4 14, u_lay RX4 TX4 15, u_lay RX4 TX4 16, u_lay RX4 TX4 17, u_lay RX4 TX4 18, u_lay RX4 TX4 19, u_lay RX4 TX4 20, u_lay RX4 TX4 21, u_lay RX4 TX4 22, u_lay RX4 TX4 23, u_lay RX4 TX4 24, u_lay RX4 TX4 25, u_lay RX4 TX4 26, u_lay RX4 TX4 27, u_lay RX4 TX4 28, u_lay RX4 TX4 29, u_lay RX4 TX4 30, u_lay RX4 TX4 31, u_lay RX4 TX4 32, u_lay RX4 TX4 33, u_lay RX4 TX4 34, u_lay RX4 TX4 35, u_lay RX4 TX4 36, u_lay RX4 TX4 37], w ∈ dx_T
  exact List.forall_mem_cons.mpr ⟨(dx_T_of (List.mem_of_getElem? (i := 601) (by decide +kernel)) (by decide +kernel)), List.forall_mem_cons.mpr ⟨(dx_T_of (List.mem_of_getElem? (i := 603) (by decide +kernel)) (by decide +kernel)), List.forall_mem_cons.mpr ⟨(dx_T_of (List.mem_of_getElem? (i := 605) (by decide +kernel)) (by decide +kernel)), List.forall_mem_cons.mpr ⟨(dx_T_of (List.mem_of_getElem? (i := 607) (by decide +kernel)) (by decide +kernel)), List.forall_mem_cons.mpr ⟨(dx_T_of (List.mem_of_getElem? (i := 609) (by decide +kernel)) (by decide +kernel)), List.forall_mem_cons.mpr ⟨(dx_T_of (List.mem_of_getElem? (i := 611) (by decide +kernel)) (by decide +kernel)), List.forall_mem_cons.mpr ⟨(dx_T_of (List.mem_of_getElem? (i := 613) (by decide +kernel)) (by decide +kernel)), List.forall_mem_cons.mpr ⟨(dx_T_of (List.mem_of_getElem? (i := 615) (by decide +kernel)) (by decide +kernel)), List.forall_mem_cons.mpr ⟨(dx_T_of (List.mem_of_getElem? (i := 617) (by decide +kernel)) (by decide +kernel)), List.forall_mem_cons.mpr ⟨(dx_T_of (List.mem_of_getElem? (i := 619) (by decide +kernel)) (by decide +kernel)), List.forall_mem_cons.mpr ⟨(dx_T_of (List.mem_of_getElem? (i := 621) (by decide +kernel)) (by decide +kernel)), List.forall_mem_cons.mpr ⟨(dx_T_of (List.mem_of_getElem? (i := 623) (by decide +kernel)) (by decide +kernel)), List.forall_mem_cons.mpr ⟨(dx_T_of (List.mem_of_getElem? (i := 625) (by decide +kernel)) (by decide +kernel)), List.forall_mem_cons.mpr ⟨(dx_T_of (List.mem_of_getElem? (i := 627) (by decide +kernel)) (by decide +kernel)), List.forall_mem_cons.mpr ⟨(dx_T_of (List.mem_of_getElem? (i := 629) (by decide +kernel)) (by decide +kernel)), List.forall_mem_cons.mpr ⟨(dx_T_of (List.mem_of_getElem? (i := 631) (by decide +kernel)) (by decide +kernel)), List.forall_mem_cons.mpr ⟨(dx_T_of (List.mem_of_getElem? (i := 633) (by decide +kernel)) (by decide +kernel)), List.forall_mem_cons.mpr ⟨(dx_T_of (List.mem_of_getElem? (i := 635) (by decide +kernel)) (by decide +kernel)), List.forall_mem_cons.mpr ⟨(dx_T_of (List.mem_of_getElem? (i := 637) (by decide +kernel)) (by decide +kernel)), List.forall_mem_cons.mpr ⟨(dx_T_of (List.mem_of_getElem? (i := 639) (by decide +kernel)) (by decide +kernel)), List.forall_mem_cons.mpr ⟨(dx_T_of (List.mem_of_getElem? (i := 641) (by decide +kernel)) (by decide +kernel)), List.forall_mem_cons.mpr ⟨(dx_T_of (List.mem_of_getElem? (i := 643) (by decide +kernel)) (by decide +kernel)), List.forall_mem_cons.mpr ⟨(dx_T_of (List.mem_of_getElem? (i := 645) (by decide +kernel)) (by decide +kernel)), List.forall_mem_cons.mpr ⟨(dx_T_of (List.mem_of_getElem? (i := 647) (by decide +kernel)) (by decide +kernel)), List.forall_mem_cons.mpr ⟨(dx_T_of (List.mem_of_getElem? (i := 649) (by decide +kernel)) (by decide +kernel)), List.forall_mem_cons.mpr ⟨(dx_T_of (List.mem_of_getElem? (i := 651) (by decide +kernel)) (by decide +kernel)), List.forall_mem_cons.mpr ⟨(dx_T_of (List.mem_of_getElem? (i := 653) (by decide +kernel)) (by decide +kernel)), List.forall_mem_cons.mpr ⟨(dx_T_of (List.mem_of_getElem? (i := 655) (by decide +kernel)) (by decide +kernel)), List.forall_mem_cons.mpr ⟨(dx_T_of (List.mem_of_getElem? (i := 657) (by decide +kernel)) (by decide +kernel)), List.forall_mem_cons.mpr ⟨(dx_T_of (List.mem_of_getElem? (i := 659) (by decide +kernel)) (by decide +kernel)), List.forall_mem_cons.mpr ⟨(dx_T_of (List.mem_of_getElem? (i := 661) (by decide +kernel)) (by decide +kernel)), List.forall_mem_cons.mpr ⟨(dx_T_of (List.mem_of_getElem? (i := 663) (by decide +kernel)) (by decide +kernel)), List.forall_mem_cons.mpr ⟨(dx_T_of (List.mem_of_getElem? (i := 665) (by decide +kernel)) (by decide +kernel)), List.forall_mem_cons.mpr ⟨(dx_T_of (List.mem_of_getElem? (i := 667) (by decide +kernel)) (by decide +kernel)), List.forall_mem_cons.mpr ⟨(dx_T_of (List.mem_of_getElem? (i := 669) (by decide +kernel)) (by decide +kernel)), List.forall_mem_cons.mpr ⟨(dx_T_of (List.mem_of_getElem? (i := 671) (by decide +kernel)) (by decide +kernel)), List.forall_mem_cons.mpr ⟨(dx_T_of (List.mem_of_getElem? (i := 673) (by decide +kernel)) (by decide +kernel)), List.forall_mem_cons.mpr ⟨(dx_T_of (List.mem_of_getElem? (i := 675) (by decide +kernel)) (by decide +kernel)), fun _ h => absurd h List.not_mem_nil⟩⟩⟩⟩⟩⟩⟩⟩⟩⟩⟩⟩⟩⟩⟩⟩⟩⟩⟩⟩⟩⟩⟩⟩⟩⟩⟩⟩⟩⟩⟩⟩⟩⟩⟩⟩⟩⟩
theorem kl_X4 : dx_clsok RX4 TX4 38 := ⟨⟨tyX4, tyX4_ok⟩, nmX4, kl_in_X4⟩
theorem lx_X_ok : dx_layok lx_X := by
  intro k ci fl h
  have hk := (List.getElem?_eq_some_iff.mp h).1
  have hk2 : k < 26 := hk
  match k, hk2, h with
  | 0, _, h => cases h; exact ⟨RX3, TX3, 11, rfl, kl_X3, rfl, dx_fok_of (by decide +kernel)⟩
  | 1, _, h => cases h; exact ⟨RX0, TX0, 3, rfl, kl_X0, rfl, dx_fok_of (by decide +kernel)⟩
  | 2, _, h => cases h
  | 3, _, h => cases h; exact ⟨RX1, TX1, 11, rfl, kl_X1, rfl, dx_fok_of (by decide +kernel)⟩
  | 4, _, h => cases h
  | 5, _, h => cases h
  | 6, _, h => cases h
  | 7, _, h => cases h
  | 8, _, h => cases h
  | 9, _, h => cases h
  | 10, _, h => cases h; exact ⟨RX2, TX2, 6, rfl, kl_X2, rfl, dx_fok_of (by decide +kernel)⟩
  | 11, _, h => cases h; exact ⟨RX2, TX2, 6, rfl, kl_X2, rfl, dx_fok_of (by decide +kernel)⟩
  | 12, _, h => cases h; exact ⟨RX2, TX2, 6, rfl, kl_X2, rfl, dx_fok_of (by decide +kernel)⟩
  | 13, _, h => cases h; exact ⟨RX2, TX2, 6, rfl, kl_X2, rfl, dx_fok_of (by decide +kernel)⟩
  | 14, _, h => cases h; exact ⟨RX2, TX2, 6, rfl, kl_X2, rfl, dx_fok_of (by decide +kernel)⟩
  | 15, _, h => cases h; exact ⟨RX2, TX2, 6, rfl, kl_X2, rfl, dx_fok_of (by decide +kernel)⟩
  | 16, _, h => cases h; exact ⟨RX2, TX2, 6, rfl, kl_X2, rfl, dx_fok_of (by decide +kernel)⟩
  | 17, _, h => cases h; exact ⟨RX2, TX2, 6, rfl, kl_X2, rfl, dx_fok_of (by decide +kernel)⟩
  | 18, _, h => cases h; exact ⟨RX2, TX2, 6, rfl, kl_X2, rfl, dx_fok_of (by decide +kernel)⟩
  | 19, _, h => cases h; exact ⟨RX2, TX2, 6, rfl, kl_X2, rfl, dx_fok_of (by decide +kernel)⟩
  | 20, _, h => cases h
  | 21, _, h => cases h
  | 22, _, h => cases h
  | 23, _, h => cases h
  | 24, _, h => cases h
  | 25, _, h => cases h
  | k + 26, hk2, h => omega
theorem lx_M_ok : dx_layok lx_M := by
  intro k ci fl h
  have hk := (List.getElem?_eq_some_iff.mp h).1
  have hk2 : k < 14 := hk
  match k, hk2, h with
  | 0, _, h => cases h; exact ⟨RX4, TX4, 38, rfl, kl_X4, rfl, dx_fok_of (by decide +kernel)⟩
  | 1, _, h => cases h
  | 2, _, h => cases h
  | 3, _, h => cases h
  | 4, _, h => cases h
  | 5, _, h => cases h
  | 6, _, h => cases h
  | 7, _, h => cases h
  | 8, _, h => cases h
  | 9, _, h => cases h
  | 10, _, h => cases h
  | 11, _, h => cases h
  | 12, _, h => cases h
  | 13, _, h => cases h
  | k + 14, hk2, h => omega
theorem lx_C_ok : dx_layok lx_C := by
  intro k ci fl h
  have hk := (List.getElem?_eq_some_iff.mp h).1
  have hk2 : k < 2 := hk
  match k, hk2, h with
  | 0, _, h => cases h; exact ⟨RX0, TX0, 3, rfl, kl_X0, rfl, dx_fok_of (by decide +kernel)⟩
  | 1, _, h => cases h
  | k + 2, hk2, h => omega
