section DXE
variable {p : Program} {l : Launch} {e : Env} {R : Room} {s : State} {m : MethodId} {args : Array Value} {below : List Frame} {meth : Method} {c : Code} {H : Heap} {locs : List Loc} {cells slots : Nat} {Q : State → Prop}
variable {K : dx_K} {D : va_G} {cA : Nat → ClassId} {tys : List (ClassId × FieldType)} {lay : List dx_Cell} {A : Nat → Prop} {H0 : Heap} {ad : Nat → Nat} {ls : Array Slot} {L st : List Value} {mm : dx_M} {pc : Nat} {P : List dx_K}
/-- what is to be shown of the machine at a frame of the deep machine -/
abbrev dx_at (p : Program) (l : Launch) (e : Env) (R : Room) (s : State) (m : MethodId) (args : Array Value) (below : List Frame) (meth : Method) (c : Code) (cells slots : Nat) (Q : State → Prop) (D : va_G) (cA : Nat → ClassId) (ad : Nat → Nat) (lay : List dx_Cell) (A : Nat → Prop) (H0 : Heap) (f : dx_F) : Prop :=
  ∀ (ls : Array Slot) (H : Heap) (locs : List Loc), dx_LO ad ls f.2.1 → dx_Wd D cA ad lay A H0 f.2.2.2 H locs → W p l e R s m args below meth c H locs cells slots Q (F0 m f.1 ls (f.2.2.1.map (dx_cv ad)))
theorem dx_ex_get (X : dx_Cx p s m args c K D cA tys lay) (hlay : dx_layok lay) (hpk : ∀ (x : Nat) (e : Nat × Nat × Nat), dx_look K.2.2 x = some e → dx_pok P K.1.1.cls x e) {x a b : Nat} {c' : dx_F} (hd : decode K.1.2.1 pc = .ok (.getfield x, 3)) (hk : dx_look K.2.2 x = some (0, a, b)) (h : dx_get lay a b (pc + 3) L st mm = some c') (hL : dx_LO ad ls L) (hW : dx_Wd D cA ad lay A H0 mm H locs) (kk : dx_at p l e R s m args below meth c cells slots Q D cA ad lay A H0 c') : W p l e R s m args below meth c H locs cells slots Q (F0 m pc ls (st.map (dx_cv ad))) := by
  obtain ⟨hx, hb, hml, hown, hts, hK, hty⟩ := X
  obtain ⟨k, t, fl, v, rfl, h1, h2, rfl⟩ := dx_get_inv h
  obtain ⟨C, T, N, g1, g2, g3⟩ := hpk x _ hk
  obtain ⟨C', T', N', g1', ⟨⟨ty0, q1⟩, q2, q3⟩, q4, q5⟩ := hlay k a fl h1
  have e1 := g1.symm.trans g1'
  cases e1
  exact va_get (D := D) (ci := a) (v := dx_cv ad v) (C := C) (T := T) (N := N) (Ts := dx_T) hx hb hts q3 hown hK hW.1 k (dx_W_get h1) g1 b g2 (hts _ g3) (fun _ h9 => h9) (dx_fld_cv h2) hd (kk ls H locs hL hW)
theorem dx_ex_put (X : dx_Cx p s m args c K D cA tys lay) (hlay : dx_layok lay) (hpk : ∀ (x : Nat) (e : Nat × Nat × Nat), dx_look K.2.2 x = some e → dx_pok P K.1.1.cls x e) {x a b : Nat} {c' : dx_F} (hd : decode K.1.2.1 pc = .ok (.putfield x, 3)) (hk : dx_look K.2.2 x = some (0, a, b)) (h : dx_put lay a b (pc + 3) L st mm = some c') (hL : dx_LO ad ls L) (hW : dx_Wd D cA ad lay A H0 mm H locs) (kk : dx_at p l e R s m args below meth c cells slots Q D cA ad lay A H0 c') : W p l e R s m args below meth c H locs cells slots Q (F0 m pc ls (st.map (dx_cv ad))) := by
  obtain ⟨hx, hb, hml, hown, hts, hK, hty⟩ := X
  obtain ⟨C, T, N, g1, g2, g3⟩ := hpk x _ hk
  rcases dx_put_inv h with ⟨z, k, t, fl, κ, q, rfl, h1, h2, h3, rfl⟩ | ⟨z, k, t, fl, q, rfl, h1, h2, rfl⟩
  · obtain ⟨C', T', N', g1', ⟨⟨ty0, q1⟩, q2, q3⟩, q4, q5⟩ := hlay k a fl h1
    have e1 := g1.symm.trans g1'
    cases e1
    have hbl : b < fl.length := (List.getElem?_eq_some_iff.mp h2).1
    rcases h3 with rfl | ⟨rfl, h3⟩
    · have q6 := (q5 b 0 q h2).1 rfl
      refine va_put (D := D) (ci := a) (v := .int z) (ty := .int) (C := C) (T := T) (N := N) (Ts := dx_T) hx hb hts q3 ty0 q1 q2 hown hK hW.1 hW.2.1 hW.2.2 k (dx_W_get h1) g1 b g2 (hts _ g3) (fun _ h9 => h9) (by rw [q6]) (by rw [q6]; decide +kernel) rfl rfl (by rw [List.length_mapIdx]; exact hbl) hd (fun H1 locs1 hP1 hD1 hS1 => ?_)
      rw [dx_W_int h1 h2 (Or.inl rfl)] at hP1 hD1
      exact kk ls H1 locs1 hL ⟨hP1, hD1, hS1⟩
    · have q6 := (q5 b 1 q h2).2.1 rfl
      refine va_put (D := D) (ci := a) (v := .int z) (ty := .boolean) (C := C) (T := T) (N := N) (Ts := dx_T) hx hb hts q3 ty0 q1 q2 hown hK hW.1 hW.2.1 hW.2.2 k (dx_W_get h1) g1 b g2 (hts _ g3) (fun _ h9 => h9) (by rw [q6]) (by rw [q6]; decide +kernel) (by rcases h3 with rfl | rfl <;> rfl) (by rcases h3 with rfl | rfl <;> rfl) (by rw [List.length_mapIdx]; exact hbl) hd (fun H1 locs1 hP1 hD1 hS1 => ?_)
      rw [dx_W_int h1 h2 (Or.inr rfl)] at hP1 hD1
      exact kk ls H1 locs1 hL ⟨hP1, hD1, hS1⟩
  · obtain ⟨C', T', N', g1', ⟨⟨ty0, q1⟩, q2, q3⟩, q4, q5⟩ := hlay k a fl h1
    have e1 := g1.symm.trans g1'
    cases e1
    have hbl : b < fl.length := (List.getElem?_eq_some_iff.mp h2).1
    have q6 := (q5 b 2 q h2).2.2 rfl
    refine va_put (D := D) (ci := a) (v := .long z) (ty := .long) (C := C) (T := T) (N := N) (Ts := dx_T) hx hb hts q3 ty0 q1 q2 hown hK hW.1 hW.2.1 hW.2.2 k (dx_W_get h1) g1 b g2 (hts _ g3) (fun _ h9 => h9) (by rw [q6]) (by rw [q6]; decide +kernel) rfl rfl (by rw [List.length_mapIdx]; exact hbl) hd (fun H1 locs1 hP1 hD1 hS1 => ?_)
    rw [dx_W_long h1 h2] at hP1 hD1
    exact kk ls H1 locs1 hL ⟨hP1, hD1, hS1⟩
theorem dx_ex_ald (X : dx_Cx p s m args c K D cA tys lay) {c' : dx_F} (hd : decode K.1.2.1 pc = .ok (.iaload, 1)) (h : dx_ald lay (pc + 1) L st mm = some c') (hL : dx_LO ad ls L) (hW : dx_Wd D cA ad lay A H0 mm H locs) (kk : dx_at p l e R s m args below meth c cells slots Q D cA ad lay A H0 c') : W p l e R s m args below meth c H locs cells slots Q (F0 m pc ls (st.map (dx_cv ad))) := by
  obtain ⟨hx, hb, hml, hown, hts, hK, hty⟩ := X
  obtain ⟨i, k, t, n, rs, rfl, h1, h2, rfl⟩ := dx_ald_inv h
  obtain ⟨t0, ht⟩ := hty k 0 n rs h1
  exact va_iald hx hb hK hW.1 k t0 (cA := cA 0) (n := n) (f := mm.1 k) (dx_W_get h1) ht h2 hd (kk ls H locs hL hW)
theorem dx_ex_bld (X : dx_Cx p s m args c K D cA tys lay) {c' : dx_F} (hd : decode K.1.2.1 pc = .ok (.baload, 1)) (h : dx_bld lay (pc + 1) L st mm = some c') (hL : dx_LO ad ls L) (hW : dx_Wd D cA ad lay A H0 mm H locs) (kk : dx_at p l e R s m args below meth c cells slots Q D cA ad lay A H0 c') : W p l e R s m args below meth c H locs cells slots Q (F0 m pc ls (st.map (dx_cv ad))) := by
  obtain ⟨hx, hb, hml, hown, hts, hK, hty⟩ := X
  obtain ⟨i, k, t, n, rs, rfl, h1, h2, rfl⟩ := dx_bld_inv h
  rcases h1 with h1 | h1
  · obtain ⟨t0, ht⟩ := hty k 1 n rs h1
    exact va_bald hx hb hK hW.1 k t0 (cA := cA 1) (n := n) (f := mm.1 k) (dx_W_get h1) ht h2 hd (kk ls H locs hL hW)
  · obtain ⟨t0, ht⟩ := hty k 2 n rs h1
    exact va_zald hx hb hK hW.1 k t0 (cA := cA 2) (n := n) (f := mm.1 k) (dx_W_get h1) ht h2 hd (kk ls H locs hL hW)
theorem dx_ex_aad (X : dx_Cx p s m args c K D cA tys lay) {c' : dx_F} (hd : decode K.1.2.1 pc = .ok (.aaload, 1)) (h : dx_aad lay (pc + 1) L st mm = some c') (hL : dx_LO ad ls L) (hW : dx_Wd D cA ad lay A H0 mm H locs) (kk : dx_at p l e R s m args below meth c cells slots Q D cA ad lay A H0 c') : W p l e R s m args below meth c H locs cells slots Q (F0 m pc ls (st.map (dx_cv ad))) := by
  obtain ⟨hx, hb, hml, hown, hts, hK, hty⟩ := X
  obtain ⟨i, k, t, n, rs, q, rfl, h1, h2, h3, rfl⟩ := dx_aad_inv h
  have hlt : i.toNatClampNeg < n := Nat.not_le.mp fun q => h2 (Or.inr q)
  rcases h1 with h1 | h1
  · obtain ⟨t0, ht⟩ := hty k 3 n rs h1
    have hc := hW.1 k _ (dx_W_get h1)
    refine W.aald (v := .ref (ad q)) (ty := .object "LogsAfloat$Load") hx hb (a := ad k) (cell := vp_cell (cA 3) (n, .inr (.inr (.inr (.inr (fun i => (rs[i]?).map ad)))))) hc ((hK.2 t0 _ ht).1 n (fun j => va_rf ((rs[j]?).map ad))) rfl (fun q => by cases q) (by show ¬ (i < 0 ∨ (arrV _ _ _).slots.size ≤ _); rw [arrV_size]; exact h2) (by show (arrV _ _ _).slots[_]? = _; rw [arrV_read _ _ hlt]; show some (va_rf ((rs[i.toNatClampNeg]?).map ad)) = _; rw [h3]; rfl) rfl rfl hd (kk ls H locs hL hW)
  · obtain ⟨t0, ht⟩ := hty k 4 n rs h1
    have hc := hW.1 k _ (dx_W_get h1)
    refine W.aald (v := .ref (ad q)) (ty := .array .byte) hx hb (a := ad k) (cell := vp_cell (cA 4) (n, .inr (.inr (.inr (.inr (fun i => (rs[i]?).map ad)))))) hc ((hK.2 t0 _ ht).1 n (fun j => va_rf ((rs[j]?).map ad))) rfl (fun q => by cases q) (by show ¬ (i < 0 ∨ (arrV _ _ _).slots.size ≤ _); rw [arrV_size]; exact h2) (by show (arrV _ _ _).slots[_]? = _; rw [arrV_read _ _ hlt]; show some (va_rf ((rs[i.toNatClampNeg]?).map ad)) = _; rw [h3]; rfl) rfl rfl hd (kk ls H locs hL hW)
theorem dx_ex_ast (X : dx_Cx p s m args c K D cA tys lay) {c' : dx_F} (hd : decode K.1.2.1 pc = .ok (.iastore, 1)) (h : dx_ast lay (pc + 1) L st mm = some c') (hL : dx_LO ad ls L) (hW : dx_Wd D cA ad lay A H0 mm H locs) (kk : dx_at p l e R s m args below meth c cells slots Q D cA ad lay A H0 c') : W p l e R s m args below meth c H locs cells slots Q (F0 m pc ls (st.map (dx_cv ad))) := by
  obtain ⟨hx, hb, hml, hown, hts, hK, hty⟩ := X
  obtain ⟨x, i, k, t, n, rs, rfl, h1, h2, rfl⟩ := dx_ast_inv h
  obtain ⟨t0, ht⟩ := hty k 0 n rs h1
  refine va_iast hx hb hK hW.1 hW.2.1 hW.2.2 k t0 (cA := cA 0) (n := n) (f := mm.1 k) (dx_W_get h1) ht h2 hd (fun H1 locs1 hP1 hD1 hS1 => ?_)
  rw [dx_W_row h1 (by omega)] at hP1 hD1
  exact kk ls H1 locs1 hL ⟨hP1, hD1, hS1⟩
theorem dx_ex_bst (X : dx_Cx p s m args c K D cA tys lay) {c' : dx_F} (hd : decode K.1.2.1 pc = .ok (.bastore, 1)) (h : dx_bst lay (pc + 1) L st mm = some c') (hL : dx_LO ad ls L) (hW : dx_Wd D cA ad lay A H0 mm H locs) (kk : dx_at p l e R s m args below meth c cells slots Q D cA ad lay A H0 c') : W p l e R s m args below meth c H locs cells slots Q (F0 m pc ls (st.map (dx_cv ad))) := by
  obtain ⟨hx, hb, hml, hown, hts, hK, hty⟩ := X
  obtain ⟨x, i, k, t, n, rs, rfl, h2, ⟨h1, rfl⟩ | ⟨h1, rfl⟩⟩ := dx_bst_inv h
  · obtain ⟨t0, ht⟩ := hty k 1 n rs h1
    refine va_bast hx hb hK hW.1 hW.2.1 hW.2.2 k t0 (cA := cA 1) (n := n) (f := mm.1 k) (dx_W_get h1) ht h2 hd (fun H1 locs1 hP1 hD1 hS1 => ?_)
    rw [dx_W_row h1 (by omega)] at hP1 hD1
    exact kk ls H1 locs1 hL ⟨hP1, hD1, hS1⟩
  · obtain ⟨t0, ht⟩ := hty k 2 n rs h1
    refine va_zast hx hb hK hW.1 hW.2.1 hW.2.2 k t0 (cA := cA 2) (n := n) (f := mm.1 k) (dx_W_get h1) ht h2 hd (fun H1 locs1 hP1 hD1 hS1 => ?_)
    rw [dx_W_row h1 (by omega)] at hP1 hD1
    exact kk ls H1 locs1 hL ⟨hP1, hD1, hS1⟩
theorem dx_ex_stI (X : dx_Cx p s m args c K D cA tys lay) {i n : Nat} {c' : dx_F} (hd : (decode K.1.2.1 pc = .ok (.istore i, 2) ∧ n = 2) ∨ (∃ k : Fin 4, k.val = i ∧ decode K.1.2.1 pc = .ok (.istore_n k, 1) ∧ n = 1)) (h : dx_stI (pc + n) L st mm i = some c') (hL : dx_LO ad ls L) (hW : dx_Wd D cA ad lay A H0 mm H locs) (kk : dx_at p l e R s m args below meth c cells slots Q D cA ad lay A H0 c') : W p l e R s m args below meth c H locs cells slots Q (F0 m pc ls (st.map (dx_cv ad))) := by
  obtain ⟨hx, hb, hml, hown, hts, hK, hty⟩ := X
  obtain ⟨x, t, rfl, h1, rfl⟩ := dx_stI_inv h
  rcases hd with ⟨hd, rfl⟩ | ⟨k, hk, hd, rfl⟩
  · exact lv_istore (x := x) hx hb hd hL.has h1 rfl (fun ls' hl => kk ls' H locs (dx_LO.st1 (v := .int x) hl) hW)
  · exact lv_istore_n (x := x) hx hb hd hk hL.has h1 rfl (fun ls' hl => kk ls' H locs (dx_LO.st1 (v := .int x) hl) hW)
theorem dx_ex_stL (X : dx_Cx p s m args c K D cA tys lay) {i n : Nat} {c' : dx_F} (hd : (decode K.1.2.1 pc = .ok (.lstore i, 2) ∧ n = 2) ∨ (∃ k : Fin 4, k.val = i ∧ decode K.1.2.1 pc = .ok (.lstore_n k, 1) ∧ n = 1)) (h : dx_stL (pc + n) L st mm i = some c') (hL : dx_LO ad ls L) (hW : dx_Wd D cA ad lay A H0 mm H locs) (kk : dx_at p l e R s m args below meth c cells slots Q D cA ad lay A H0 c') : W p l e R s m args below meth c H locs cells slots Q (F0 m pc ls (st.map (dx_cv ad))) := by
  obtain ⟨hx, hb, hml, hown, hts, hK, hty⟩ := X
  obtain ⟨x, t, rfl, h1, rfl⟩ := dx_stL_inv h
  rcases hd with ⟨hd, rfl⟩ | ⟨k, hk, hd, rfl⟩
  · exact lv_lstore (x := x) hx hb hd hL.has h1 rfl (fun ls' hl => kk ls' H locs (dx_LO.st2 (v := .long x) hl) hW)
  · exact lv_lstore_n (x := x) hx hb hd hk hL.has h1 rfl (fun ls' hl => kk ls' H locs (dx_LO.st2 (v := .long x) hl) hW)
theorem dx_ex_stA (X : dx_Cx p s m args c K D cA tys lay) {i n : Nat} {c' : dx_F} (hd : (decode K.1.2.1 pc = .ok (.astore i, 2) ∧ n = 2) ∨ (∃ k : Fin 4, k.val = i ∧ decode K.1.2.1 pc = .ok (.astore_n k, 1) ∧ n = 1)) (h : dx_stA (pc + n) L st mm i = some c') (hL : dx_LO ad ls L) (hW : dx_Wd D cA ad lay A H0 mm H locs) (kk : dx_at p l e R s m args below meth c cells slots Q D cA ad lay A H0 c') : W p l e R s m args below meth c H locs cells slots Q (F0 m pc ls (st.map (dx_cv ad))) := by
  obtain ⟨hx, hb, hml, hown, hts, hK, hty⟩ := X
  obtain ⟨x, t, rfl, h1, rfl⟩ := dx_stA_inv h
  rcases hd with ⟨hd, rfl⟩ | ⟨k, hk, hd, rfl⟩
  · exact lv_astore (x := ad x) hx hb hd hL.has h1 rfl (fun ls' hl => kk ls' H locs (dx_LO.st1 (v := .ref x) hl) hW)
  · exact lv_astore_n (x := ad x) hx hb hd hk hL.has h1 rfl (fun ls' hl => kk ls' H locs (dx_LO.st1 (v := .ref x) hl) hW)
theorem dx_ex_inc (X : dx_Cx p s m args c K D cA tys lay) {i : Nat} {z : Int} {v : Value} {c' : dx_F} (hd : decode K.1.2.1 pc = .ok (.iinc i z, 3)) (hv : v = .int (Int32.ofInt z)) (h : dx_inc (pc + 3) L st mm i v = some c') (hL : dx_LO ad ls L) (hW : dx_Wd D cA ad lay A H0 mm H locs) (kk : dx_at p l e R s m args below meth c cells slots Q D cA ad lay A H0 c') : W p l e R s m args below meth c H locs cells slots Q (F0 m pc ls (st.map (dx_cv ad))) := by
  obtain ⟨hx, hb, hml, hown, hts, hK, hty⟩ := X
  obtain ⟨x, y, h1, h2, h3, rfl⟩ := dx_inc_inv h
  subst hv
  cases h2
  have hm : (i, Value.int x) ∈ dx_al ad L := dx_al_mem.mpr ⟨.int x, dx_ld_some h1 (fun q => by cases q), (fun q => by cases q), rfl⟩
  obtain ⟨k, hk⟩ := List.getElem?_of_mem hm
  exact lv_iinc (x := x) hx hb hd hL.has hk rfl h3 rfl (fun ls' hl => kk ls' H locs (dx_LO.st1 (v := .int (x + Int32.ofInt z)) hl) hW)
theorem dx_ex_sw (X : dx_Cx p s m args c K D cA tys lay) {dflt lo hi : Int} {offs : Array Int} {len d : Nat} {ts : List (Int32 × Nat)} {c' : dx_F} (hd : decode K.1.2.1 pc = .ok (.tableswitch dflt lo hi offs, len)) (h0 : (pc : Int) + dflt = (d : Int)) (h1 : ∀ q ∈ ts, ¬ q.1.toInt < lo ∧ ¬ hi < q.1.toInt ∧ ∃ off, offs[(q.1.toInt - lo).toNat]? = some off ∧ (pc : Int) + off = (q.2 : Int)) (h2 : ∀ j : Nat, j < (hi - lo + 1).toNat → ∃ q ∈ ts, q.1.toInt = lo + (j : Int)) (h : dx_if1 (fun x => dx_sw ts x d) L st mm = some c') (hL : dx_LO ad ls L) (hW : dx_Wd D cA ad lay A H0 mm H locs) (kk : dx_at p l e R s m args below meth c cells slots Q D cA ad lay A H0 c') : W p l e R s m args below meth c H locs cells slots Q (F0 m pc ls (st.map (dx_cv ad))) := by
  obtain ⟨hx, hb, hml, hown, hts, hK, hty⟩ := X
  obtain ⟨x, t, rfl, rfl⟩ := dx_if1_inv h
  have key : ∀ ts : List (Int32 × Nat), (∃ q ∈ ts, x = q.1 ∧ dx_sw ts x d = q.2) ∨ ((∀ q ∈ ts, x ≠ q.1) ∧ dx_sw ts x d = d) := by
    intro ts
    induction ts with
    | nil => exact Or.inr ⟨fun q hq => (by cases hq), rfl⟩
    | cons a r ih =>
      obtain ⟨k, g⟩ := a
      by_cases e : x = k
      · exact Or.inl ⟨(k, g), List.mem_cons_self, e, by simp [dx_sw, e]⟩
      · rcases ih with ⟨q, hq, e1, e2⟩ | ⟨e1, e2⟩
        · exact Or.inl ⟨q, List.mem_cons_of_mem _ hq, e1, by simp only [dx_sw, if_neg e]; exact e2⟩
        · exact Or.inr ⟨fun q hq => (List.mem_cons.mp hq).elim (fun z => by rw [z]; exact e) (e1 q), by simp only [dx_sw, if_neg e]; exact e2⟩
  have kk2 := kk ls H locs hL hW
  rcases key ts with ⟨q, hq, e1, e2⟩ | ⟨e1, e2⟩
  · obtain ⟨a1, a2, off, a3, a4⟩ := h1 q hq
    refine lv_tableIn (x := x) (tgt := q.2) (off := off) hx hb hd (by rw [e1]; exact a1) (by rw [e1]; exact a2) (by rw [e1]; exact a3) a4 ?_
    have kk3 : W p l e R s m args below meth c H locs cells slots Q (F0 m (dx_sw ts x d) ls (t.map (dx_cv ad))) := kk2
    rw [e2] at kk3
    exact kk3
  · have hout : x.toInt < lo ∨ hi < x.toInt := by
      by_cases b1 : x.toInt < lo
      · exact Or.inl b1
      · by_cases b2 : hi < x.toInt
        · exact Or.inr b2
        · obtain ⟨q, hq, e3⟩ := h2 (x.toInt - lo).toNat (by omega)
          have e4 : q.1.toInt = x.toInt := by omega
          exact absurd (Int32.toInt_inj.mp e4).symm (e1 q hq)
    refine lv_tableOut (x := x) (tgt := d) hx hb hd hout h0 ?_
    have kk3 : W p l e R s m args below meth c H locs cells slots Q (F0 m (dx_sw ts x d) ls (t.map (dx_cv ad))) := kk2
    rw [e2] at kk3
    exact kk3
end DXE
