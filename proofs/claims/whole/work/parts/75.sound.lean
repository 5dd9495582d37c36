section DXS
variable {p : Program} {l : Launch} {e : Env} {R : Room} {s : State} {m : MethodId} {args : Array Value} {below : List Frame} {meth : Method} {c : Code} {H : Heap} {locs : List Loc} {cells slots : Nat} {Q : State → Prop}
variable {K : dx_K} {D : va_G} {cA : Nat → ClassId} {tys : List (ClassId × FieldType)} {lay : List dx_Cell} {A : Nat → Prop} {H0 : Heap} {ad : Nat → Nat} {ls : Array Slot} {L st : List Value} {mm : dx_M} {pc : Nat} {P : List dx_K}
theorem dx_cpx_inv {r : dx_I} {c' : dx_F} (h : dx_cpx lay r pc L st mm = some c') : ∃ (x : Nat) (n j i : Int32) (k h9 n0 n1 : Nat) (r0 r1 : List Nat) (t : List Value), r.1 = .invokestatic x ∧ r.2.2.2.1 = 4 ∧ st = .int n :: .int j :: .ref k :: .int i :: .ref h9 :: t ∧ lay[h9]? = some (.inr (1, n0, r0)) ∧ lay[k]? = some (.inr (1, n1, r1)) ∧ (¬ i < 0 ∧ ¬ j < 0 ∧ ¬ n < 0 ∧ i.toNatClampNeg + n.toNatClampNeg ≤ n0 ∧ j.toNatClampNeg + n.toNatClampNeg ≤ n1 ∧ (∀ q, q < n.toNatClampNeg → fits .byte (.int (mm.1 h9 (i.toNatClampNeg + q))) = true) ∧ (t.map fun v => v.category).sum ≤ 8) ∧ c' = (pc + 3, L, t, dx_pR mm k (va_cpy (mm.1 h9) (mm.1 k) i.toNatClampNeg j.toNatClampNeg n.toNatClampNeg)) := by
  unfold dx_cpx at h
  split at h
  · next x n j k i h9 t e1 e2 =>
    split at h
    · next n0 r0 n1 r1 e3 e4 => exact ⟨x, n, j, i, k, h9, n0, n1, r0, r1, t, e1, e2, rfl, e3, e4, (dx_if_some h).1, (dx_if_some h).2⟩
    · cases h
  · cases h
theorem dx_ex_copy (X : dx_Cx p s m args c K D cA tys lay) (hpk : ∀ (x : Nat) (e : Nat × Nat × Nat), dx_look K.2.2 x = some e → dx_pok P K.1.1.cls x e) {r : dx_I} {c' : dx_F} (hd : decode K.1.2.1 pc = .ok (r.1, r.2.1)) (hr : dx_rch K pc r = true) (h : dx_cpx lay r pc L st mm = some c') (hR : 1 ≤ R.frames ∧ 38 ≤ R.locals) (hL : dx_LO ad ls L) (hLl : L.length = K.1.2.2.1) (hW : dx_Wd D cA ad lay A H0 mm H locs) (kk : dx_at p l e R s m args below meth c cells slots Q D cA ad lay A H0 c') : W p l e R s m args below meth c H locs cells slots Q (F0 m pc ls (st.map (dx_cv ad))) := by
  obtain ⟨hx, hb, hml, hown, hts, hK, hty⟩ := X
  obtain ⟨x, n, j, i, k, h9, n0, n1, r0, r1, t, e1, e2, rfl, e3, e4, ⟨f1, f2, f3, f4, f5, f6, f7⟩, rfl⟩ := dx_cpx_inv h
  obtain ⟨i0, n9, v, a, b, cn, ts⟩ := r
  dsimp only at e1 e2 hd
  subst e1; subst e2
  unfold dx_rch at hr
  rw [Bool.and_eq_true] at hr
  obtain ⟨hn, hr⟩ := hr
  obtain rfl : n9 = 3 := of_decide_eq_true hn
  obtain ⟨g1, g2, g3, g4⟩ := hpk x _ (of_decide_eq_true hr)
  obtain ⟨t0, ht0⟩ := hty h9 1 n0 r0 e3
  refine va_copyi (ty := .byte) hx hb (by rw [hml, ← hLl]; exact hL.1.symm) hown (hts _ g1) (hts _ g2) (hts _ g3) (hts _ g4) hK hW.1 hW.2.1 hW.2.2 h9 k t0 t0 (c0 := cA 1) (c1 := cA 1) (f := mm.1 h9) (g := mm.1 k) (dx_W_get e3) (dx_W_get e4) ht0 ht0 rfl f1 f2 f3 f4 f5 f6 hR.1 ?_ hd (fun H1 locs1 hP1 hD1 hS1 => ?_)
  · rw [dx_cat_map]
    have h3 : nativeFrameWords "java/lang/System" "arraycopy" 5 + 11 ≤ 30 := by decide +kernel
    have := hR.2
    omega
  · rw [dx_W_row e4 (by omega)] at hP1 hD1
    exact kk ls H1 locs1 hL ⟨hP1, hD1, hS1⟩
theorem dx_ex_mth (X : dx_Cx p s m args c K D cA tys lay) (hpk : ∀ (x : Nat) (e : Nat × Nat × Nat), dx_look K.2.2 x = some e → dx_pok P K.1.1.cls x e) {r : dx_I} {c' : dx_F} (hd : decode K.1.2.1 pc = .ok (r.1, r.2.1)) (hr : dx_rch K pc r = true) (h : dx_mth r pc L st mm = some c') (hR : 1 ≤ R.frames ∧ 38 ≤ R.locals) (hRc : cells ≤ R.cells ∧ slots ≤ R.slots) (hL : dx_LO ad ls L) (hLl : L.length = K.1.2.2.1) (hW : dx_Wd D cA ad lay A H0 mm H locs) (kk : dx_at p l e R s m args below meth c cells slots Q D cA ad lay A H0 c') : c'.2.1 = L ∧ W p l e R s m args below meth c H locs cells slots Q (F0 m pc ls (st.map (dx_cv ad))) := by
  obtain ⟨hx, hb, hml, hown, hts, hK, hty⟩ := X
  have hml2 : c.maxLocals = ls.size := by rw [hml, ← hLl]; exact hL.1.symm
  obtain ⟨i0, n9, v, a, b, cn, ts⟩ := r
  unfold dx_rch at hr
  rw [Bool.and_eq_true] at hr
  obtain ⟨hn, hr⟩ := hr
  unfold dx_mth at h
  dsimp only at hd hn h
  split at h
  · next x y z t =>
    obtain rfl : n9 = 3 := of_decide_eq_true hn
    obtain ⟨h1, rfl⟩ := dx_if_some h
    obtain ⟨g1, g2, g3, g4⟩ := hpk x _ (of_decide_eq_true hr)
    exact ⟨rfl, va_mmax hx hb hml2 hown (hts _ g1) (hts _ g2) (hts _ g3) (hts _ g4) hR.1 (by rw [dx_cat_map]; omega) hRc.1 hRc.2 hd (kk ls H locs hL hW)⟩
  · next x y z t =>
    obtain rfl : n9 = 3 := of_decide_eq_true hn
    obtain ⟨h1, rfl⟩ := dx_if_some h
    obtain ⟨g1, g2, g3, g4⟩ := hpk x _ (of_decide_eq_true hr)
    exact ⟨rfl, va_mmin hx hb hml2 hown (hts _ g1) (hts _ g2) (hts _ g3) (hts _ g4) hR.1 (by rw [dx_cat_map]; omega) hRc.1 hRc.2 hd (kk ls H locs hL hW)⟩
  · next x y t =>
    obtain rfl : n9 = 3 := of_decide_eq_true hn
    obtain ⟨h1, rfl⟩ := dx_if_some h
    obtain ⟨g1, g2, g3, g4⟩ := hpk x _ (of_decide_eq_true hr)
    exact ⟨rfl, va_mabs_long hx hb hml2 hown (hts _ g1) (hts _ g2) (hts _ g3) (hts _ g4) hR.1 (by rw [dx_cat_map]; omega) hRc.1 hRc.2 hd (kk ls H locs hL hW)⟩
  · cases h
theorem dx_mth_len {r : dx_I} {c' : dx_F} (h : dx_mth r pc L st mm = some c') : c'.2.1 = L := by
  unfold dx_mth at h
  split at h
  · rw [(dx_if_some h).2]
  · rw [(dx_if_some h).2]
  · rw [(dx_if_some h).2]
  · cases h
end DXS
theorem dx_ex_len {lay : List dx_Cell} {r : dx_I} {pc : Nat} {L st : List Value} {m : dx_M} {c' : dx_F} (h : dx_ex lay r pc L st m = some c') : c'.2.1.length = L.length := by
  obtain ⟨i, n, v, a, b, cc, ts⟩ := r
  cases i
  case ifCond cd off => cases cd <;> (obtain ⟨x, t, rfl, rfl⟩ := dx_if1_inv h; rfl)
  case if_icmp cd off => cases cd <;> (obtain ⟨x, y, t, rfl, rfl⟩ := dx_if2_inv h; rfl)
  all_goals first
    | exact absurd (show (none : Option dx_F) = some c' from h) (fun q => by cases q)
    | (obtain ⟨x, h1, rfl⟩ := dx_loI_inv h; rfl)
    | (obtain ⟨x, h1, rfl⟩ := dx_loL_inv h; rfl)
    | (obtain ⟨x, h1, rfl⟩ := dx_loA_inv h; rfl)
    | (obtain ⟨x, t, rfl, h1, rfl⟩ := dx_stI_inv h; exact dx_st1_len _ _ _)
    | (obtain ⟨x, t, rfl, h1, rfl⟩ := dx_stL_inv h; exact dx_st2_len _ _ _)
    | (obtain ⟨x, t, rfl, h1, rfl⟩ := dx_stA_inv h; exact dx_st1_len _ _ _)
    | (obtain ⟨x, y, h1, h2, h3, rfl⟩ := dx_inc_inv h; exact dx_st1_len _ _ _)
    | (obtain ⟨x, y, t, rfl, rfl⟩ := dx_bI_inv h; rfl)
    | (obtain ⟨x, y, t, rfl, rfl⟩ := dx_bL_inv h; rfl)
    | (obtain ⟨x, y, t, rfl, h1, rfl⟩ := dx_dI_inv h; rfl)
    | (obtain ⟨x, y, t, rfl, h1, rfl⟩ := dx_dL_inv h; rfl)
    | (obtain ⟨x, t, rfl, rfl⟩ := dx_if1_inv h; rfl)
    | (obtain ⟨x, t, rfl, rfl⟩ := dx_unI_inv h; rfl)
    | (obtain ⟨x, t, rfl, rfl⟩ := dx_unL_inv h; rfl)
    | (obtain ⟨x, y, t, rfl, rfl⟩ := dx_lcm_inv h; rfl)
    | (obtain ⟨v, t, rfl, h1, rfl⟩ := dx_dup_inv h; rfl)
    | (obtain ⟨x, y, t, rfl, rfl⟩ := dx_dup2_inv h; rfl)
    | (obtain ⟨k, t, fl, v, rfl, h1, h2, rfl⟩ := dx_get_inv h; rfl)
    | (rcases dx_put_inv h with ⟨z, k, t, fl, κ, q, rfl, h1, h2, h3, rfl⟩ | ⟨z, k, t, fl, q, rfl, h1, h2, rfl⟩ <;> rfl)
    | (obtain ⟨i, k, t, n, rs, rfl, h1, h2, rfl⟩ := dx_ald_inv h; rfl)
    | (obtain ⟨i, k, t, n, rs, rfl, h1, h2, rfl⟩ := dx_bld_inv h; rfl)
    | (obtain ⟨i, k, t, n, rs, q, rfl, h1, h2, h3, rfl⟩ := dx_aad_inv h; rfl)
    | (obtain ⟨x, i, k, t, n, rs, rfl, h1, h2, rfl⟩ := dx_ast_inv h; rfl)
    | (obtain ⟨x, i, k, t, n, rs, rfl, h2, ⟨h1, rfl⟩ | ⟨h1, rfl⟩⟩ := dx_bst_inv h <;> rfl)
    | (cases h; rfl)
theorem dx_body (l : Launch) {P : List dx_K} {lay : List dx_Cell} (hP : ∀ (id : Nat) (K : dx_K), P[id]? = some K → dx_Kok P K) (hlay : dx_layok lay) {d : Nat} {C : Nat → List Value → dx_M → (Option Value → dx_M → Prop) → Prop} (hC : ∀ (id : Nat) (as : List Value) (mm : dx_M) (Z1 : Option Value → dx_M → Prop), C id as mm Z1 → ∃ d', d = d' + 1 ∧ ∀ K', P[id]? = some K' → dx_Met l K' lay d' as mm Z1) {K : dx_K} (hK : dx_Kok P K) {as : List Value} {mm : dx_M} {Z : Option Value → dx_M → Prop} (hn : (dx_ent K.1.2.2.1 as).length = K.1.2.2.1) (g : dx_Go d C lay K Z (0, dx_ent K.1.2.2.1 as, [], mm)) : dx_Met l K lay d as mm Z := by
  intro D cA tys ad sz hty
  refine Met.ofW (cc := K.1.2.1) (maxL := K.1.2.2.1) (ret := K.1.2.2.2) hK.1 rfl ?_
  intro p e s m args below meth c s₁ B hml hv
  obtain ⟨rfl, hsz, hPw, hKw, hNs, hD0⟩ := hv
  subst hsz
  have hts0 := atoms_spec (ws := dx_ws K) B.pre
  have hts : ∀ w ∈ dx_T, w.before (as.map (dx_cv ad)).toArray s = true := fun w hw => hts0 w (List.mem_cons_of_mem _ hw)
  have hown : s.vm.findClass K.1.1.cls = some m.cls := findClass_of_methodNamed B.named
  have hlocks := B.notSynchronized
  have hret := B.returns
  have X : dx_Cx p s m (as.map (dx_cv ad)).toArray c K D cA tys lay := ⟨B.exec, B.bytes, hml, hown, hts, hKw, hty⟩
  have hD := hD0.self (sz := s.heap.size)
  generalize hAe : va_A (dx_W ad cA lay mm) s.heap.size = A at hD ⊢
  have hA : ∀ q : Nat, s.heap.size ≤ q → A q := fun q h => by rw [← hAe]; exact Or.inr h
  rw [lg_entry_eq]
  refine g (fun f => f.2.1.length = K.1.2.2.1 → dx_at p l e (headSpec (dx_ws K) (dx_rm d)).room s m (as.map (dx_cv ad)).toArray below meth c 0 0 (MQ below (dx_Q D cA ad lay A Z) (as.map (dx_cv ad)).toArray s 0 0 A) D cA ad lay A s.heap f) ?_ hn _ s.heap [] (dx_LO_entry hn) ⟨hPw, hD, va_S.rf⟩
  intro f hone hlen ls H locs hL hW
  obtain ⟨pc, L, st, mm1⟩ := f
  dsimp only at hlen hL hW ⊢
  rcases hone with ⟨c', h1, hx1⟩ | ⟨r, h1, hz⟩ | ⟨id, as1, rest, h1, hc⟩ | ⟨hd1, c', h1, hx1⟩
  · unfold dx_stp at h1
    split at h1
    · next r e1 =>
      obtain ⟨a1, a2⟩ := hK.2.2.1 pc r e1
      exact dx_ex_ok X hlay hK.2.2.2 a1 a2 h1 hL hW (hx1 (by rw [dx_ex_len h1]; exact hlen))
    · cases h1
  · unfold dx_rt at h1
    split at h1
    · next r9 e1 =>
      obtain ⟨a1, a2⟩ := hK.2.2.1 pc r9 e1
      obtain ⟨i, n, v, a, b, cn, ts⟩ := r9
      unfold dx_rch at a2
      rw [Bool.and_eq_true] at a2
      obtain ⟨hn1, -⟩ := a2
      dsimp only at a1 hn1 h1
      have hq : ∀ t : State, t.heap = H → s.WarmedH t.vm → dx_Q D cA ad lay A Z (as.map (dx_cv ad)).toArray s (.returned (r.map (dx_cv ad))) t := fun t ht _ => ⟨⟨r, mm1, rfl, hz, by rw [ht]; exact hW.1, hW.2.1⟩, hW.2.2.F ht⟩
      rcases dx_rx_inv h1 with ⟨rfl, b2, rfl, rfl⟩ | ⟨v9, rfl, b2, rfl, rfl⟩ | ⟨v9, rfl, b2, rfl, b3, rfl⟩ | ⟨v9, rfl, b2, rfl, rfl⟩
      · obtain rfl : n = 1 := of_decide_eq_true hn1
        exact W.vret B.exec B.bytes (hret.trans b2) hq hW.2.2.2.2 a1
      · obtain rfl : n = 1 := of_decide_eq_true hn1
        exact W.iret B.exec B.bytes (hret.trans b2) hq hW.2.2.2.2 a1
      · obtain rfl : n = 1 := of_decide_eq_true hn1
        exact W.zret B.exec B.bytes (hret.trans b2) (by rcases b3 with rfl | rfl <;> rfl) hq hW.2.2.2.2 a1
      · obtain rfl : n = 1 := of_decide_eq_true hn1
        exact W.lret B.exec B.bytes (hret.trans b2) hq hW.2.2.2.2 a1
    · cases h1
  · unfold dx_cl at h1
    split at h1
    · next r e1 =>
      obtain ⟨a1, a2⟩ := hK.2.2.1 pc r e1
      obtain ⟨d', rfl, hM⟩ := hC _ _ _ _ hc
      exact dx_ex_call X hNs hlay hK.2.2.2 (fun id K' h => (hP id K' h).2.1) a1 a2 h1 hM ⟨Nat.le_refl _, Nat.le_refl _⟩ ⟨Nat.le_refl _, Nat.le_refl _⟩ hA hL hlen hW (fun r mm' z => z hlen)
    · cases h1
  · unfold dx_cp at h1
    split at h1
    · next r e1 =>
      obtain ⟨a1, a2⟩ := hK.2.2.1 pc r e1
      have hR : 1 ≤ (headSpec (dx_ws K) (dx_rm d)).room.frames ∧ 38 ≤ (headSpec (dx_ws K) (dx_rm d)).room.locals := ⟨hd1, (by show 38 ≤ 38 * d; omega)⟩
      split at h1
      · next c9 e2 =>
        cases h1
        exact (dx_ex_mth X hK.2.2.2 a1 a2 e2 hR ⟨Nat.le_refl _, Nat.le_refl _⟩ hL hlen hW (hx1 (by rw [dx_mth_len e2]; exact hlen))).2
      · obtain ⟨x, n, j, i, k, h9, n0, n1, r0, r1, t, q1, q2, q3, q4, q5, q6, q7⟩ := dx_cpx_inv h1
        have hl2 : c'.2.1.length = K.1.2.2.1 := by rw [q7]; exact hlen
        exact dx_ex_copy X hK.2.2.2 a1 a2 h1 hR hL hlen hW (hx1 hl2)
    · cases h1
/-- WHAT THE DEEP MACHINE RUNS, THE MACHINE RUNS -/
theorem dx_sound (l : Launch) {P : List dx_K} {lay : List dx_Cell} (hP : ∀ (id : Nat) (K : dx_K), P[id]? = some K → dx_Kok P K) (hlay : dx_layok lay) : ∀ (d id : Nat) (as : List Value) (mm : dx_M) (Z : Option Value → dx_M → Prop) (K : dx_K), P[id]? = some K → dx_Sem P lay (d + 1) id as mm Z → dx_Met l K lay d as mm Z := by
  intro d
  induction d with
  | zero =>
    intro id as mm Z K hK ⟨K', h1, h2, h3⟩
    cases hK.symm.trans h1
    exact dx_body l hP hlay (fun _ _ _ _ h => h.elim) (hP id K hK) h2 h3
  | succ d ih =>
    intro id as mm Z K hK ⟨K', h1, h2, h3⟩
    cases hK.symm.trans h1
    exact dx_body l hP hlay (fun id1 as1 mm1 Z1 h => ⟨d, rfl, fun K1 hk1 => ih id1 as1 mm1 Z1 K1 hk1 h⟩) (hP id K hK) h2 h3
