/-! what is known of the locals may be forgotten -/
def dx_Le : List Value → List Value → Prop
  | [], [] => True
  | a :: s, b :: t => (a = .null ∨ a = b) ∧ dx_Le s t
  | _, _ => False
theorem dx_Le_rf : ∀ L : List Value, dx_Le L L
  | [] => trivial
  | _ :: t => ⟨Or.inr rfl, dx_Le_rf t⟩
theorem dx_Le_ld : ∀ {L' L : List Value} (i : Nat) {v : Value}, dx_Le L' L → dx_ld L' i = v → v ≠ .null → dx_ld L i = v
  | [], [], _, _, _, h, _ => h
  | a :: s, b :: t, 0, v, hl, h, hv => by
    rcases hl.1 with e | e
    · exact absurd (h.symm.trans e) hv
    · exact e ▸ h
  | a :: s, b :: t, n + 1, v, hl, h, hv => dx_Le_ld n hl.2 h hv
theorem dx_Le_len : ∀ {L' L : List Value}, dx_Le L' L → L'.length = L.length
  | [], [], _ => rfl
  | _ :: _, _ :: _, h => congrArg Nat.succ (dx_Le_len h.2)
theorem dx_Le_kill {a b : Value} (h : a = .null ∨ a = b) : dx_kill a = .null ∨ dx_kill a = dx_kill b := by
  rcases h with rfl | rfl
  · exact Or.inl rfl
  · exact Or.inr rfl
theorem dx_Le_st1 : ∀ {L' L : List Value} (i : Nat) (v : Value), dx_Le L' L → dx_Le (dx_st1 L' i v) (dx_st1 L i v)
  | [], [], _, _, h => h
  | _ :: _, _ :: _, 0, _, h => ⟨Or.inr rfl, h.2⟩
  | _ :: _, _ :: _, 1, v, h => ⟨dx_Le_kill h.1, dx_Le_st1 0 v h.2⟩
  | _ :: _, _ :: _, n + 2, v, h => ⟨h.1, dx_Le_st1 (n + 1) v h.2⟩
theorem dx_Le_tl0 : ∀ {L' L : List Value}, dx_Le L' L → dx_Le (dx_tl0 L') (dx_tl0 L)
  | [], [], h => h
  | _ :: _, _ :: _, h => ⟨Or.inr rfl, h.2⟩
theorem dx_Le_st2 : ∀ {L' L : List Value} (i : Nat) (v : Value), dx_Le L' L → dx_Le (dx_st2 L' i v) (dx_st2 L i v)
  | [], [], _, _, h => h
  | _ :: _, _ :: _, 0, _, h => ⟨Or.inr rfl, dx_Le_tl0 h.2⟩
  | _ :: _, _ :: _, 1, v, h => ⟨dx_Le_kill h.1, dx_Le_st2 0 v h.2⟩
  | _ :: _, _ :: _, n + 2, v, h => ⟨h.1, dx_Le_st2 (n + 1) v h.2⟩
/-- a step that only carries the locals along -/
def dx_car (f : List Value → Option dx_F) : Prop := ∀ (L' L : List Value) (c' : dx_F), f L' = some c' → c'.2.1 = L' ∧ f L = some (c'.1, L, c'.2.2.1, c'.2.2.2)
theorem dx_car_bI (g : Int32 → Int32 → Int32) (pc : Nat) (st : List Value) (m : dx_M) : dx_car (fun L => dx_bI g pc L st m) := by
  intro L' L c' h
  unfold dx_bI at h ⊢
  split at h
  · cases h; exact ⟨rfl, rfl⟩
  · cases h
theorem dx_car_bL (g : Int64 → Int64 → Int64) (pc : Nat) (st : List Value) (m : dx_M) : dx_car (fun L => dx_bL g pc L st m) := by
  intro L' L c' h
  unfold dx_bL at h ⊢
  split at h
  · cases h; exact ⟨rfl, rfl⟩
  · cases h
theorem dx_ife {α : Type} {q : Prop} [Decidable q] {x y : α} (h : (if q then some x else none) = some y) : q ∧ y = x := by
  by_cases hq : q
  · rw [if_pos hq] at h; exact ⟨hq, (Option.some.inj h).symm⟩
  · rw [if_neg hq] at h; cases h
theorem dx_car_dI (g : Int32 → Int32 → Int32) (pc : Nat) (st : List Value) (m : dx_M) : dx_car (fun L => dx_dI g pc L st m) := by
  intro L' L c' h
  unfold dx_dI at h ⊢
  split at h
  · obtain ⟨h1, rfl⟩ := dx_ife h
    exact ⟨rfl, if_pos h1⟩
  · cases h
theorem dx_car_dL (g : Int64 → Int64 → Int64) (pc : Nat) (st : List Value) (m : dx_M) : dx_car (fun L => dx_dL g pc L st m) := by
  intro L' L c' h
  unfold dx_dL at h ⊢
  split at h
  · obtain ⟨h1, rfl⟩ := dx_ife h
    exact ⟨rfl, if_pos h1⟩
  · cases h
theorem dx_car_if1 (g : Int32 → Nat) (st : List Value) (m : dx_M) : dx_car (fun L => dx_if1 g L st m) := by
  intro L' L c' h
  unfold dx_if1 at h ⊢
  split at h
  · cases h; exact ⟨rfl, rfl⟩
  · cases h
theorem dx_car_if2 (g : Int32 → Int32 → Nat) (st : List Value) (m : dx_M) : dx_car (fun L => dx_if2 g L st m) := by
  intro L' L c' h
  unfold dx_if2 at h ⊢
  split at h
  · cases h; exact ⟨rfl, rfl⟩
  · cases h
theorem dx_car_unI (g : Int32 → Value) (pc : Nat) (st : List Value) (m : dx_M) : dx_car (fun L => dx_unI g pc L st m) := by
  intro L' L c' h
  unfold dx_unI at h ⊢
  split at h
  · cases h; exact ⟨rfl, rfl⟩
  · cases h
theorem dx_car_unL (g : Int64 → Value) (pc : Nat) (st : List Value) (m : dx_M) : dx_car (fun L => dx_unL g pc L st m) := by
  intro L' L c' h
  unfold dx_unL at h ⊢
  split at h
  · cases h; exact ⟨rfl, rfl⟩
  · cases h
theorem dx_car_lcm (pc : Nat) (st : List Value) (m : dx_M) : dx_car (fun L => dx_lcm pc L st m) := by
  intro L' L c' h
  unfold dx_lcm at h ⊢
  split at h
  · cases h; exact ⟨rfl, rfl⟩
  · cases h
theorem dx_car_dup (pc : Nat) (st : List Value) (m : dx_M) : dx_car (fun L => dx_dup pc L st m) := by
  intro L' L c' h
  unfold dx_dup at h ⊢
  split at h
  · cases h; exact ⟨rfl, rfl⟩
  · cases h; exact ⟨rfl, rfl⟩
  · cases h
theorem dx_car_dup2 (pc : Nat) (st : List Value) (m : dx_M) : dx_car (fun L => dx_dup2 pc L st m) := by
  intro L' L c' h
  unfold dx_dup2 at h ⊢
  split at h
  · cases h; exact ⟨rfl, rfl⟩
  · cases h
theorem dx_car_get (lay : List dx_Cell) (a b pc : Nat) (st : List Value) (m : dx_M) : dx_car (fun L => dx_get lay a b pc L st m) := by
  intro L' L c' h
  dsimp only at h ⊢
  unfold dx_get at h ⊢
  split at h
  · try dsimp only
    split at h
    · next e =>
      try rw [e]
      try dsimp only
      split at h
      · next e2 =>
        try rw [e2]
        try dsimp only
        split at h
        · next e3 => (try rw [e3]); cases h; exact ⟨rfl, rfl⟩
        · cases h
      · cases h
    · cases h
  · cases h
theorem dx_car_put (lay : List dx_Cell) (a b pc : Nat) (st : List Value) (m : dx_M) : dx_car (fun L => dx_put lay a b pc L st m) := by
  intro L' L c' h
  dsimp only at h ⊢
  unfold dx_put at h ⊢
  split at h
  · try dsimp only
    split at h
    · next e =>
      try rw [e]
      try dsimp only
      split at h
      · next e2 =>
        try rw [e2]
        try dsimp only
        split at h
        · next e3 => (try rw [e3]); cases h; exact ⟨rfl, rfl⟩
        · next e3 =>
          try rw [e3]
          obtain ⟨h1, rfl⟩ := dx_ife h
          exact ⟨rfl, if_pos h1⟩
        · cases h
      · cases h
    · cases h
  · try dsimp only
    split at h
    · next e =>
      try rw [e]
      try dsimp only
      split at h
      · next e2 =>
        try rw [e2]
        try dsimp only
        split at h
        · next e3 => (try rw [e3]); cases h; exact ⟨rfl, rfl⟩
        · cases h
      · cases h
    · cases h
  · cases h
theorem dx_car_ald (lay : List dx_Cell) (pc : Nat) (st : List Value) (m : dx_M) : dx_car (fun L => dx_ald lay pc L st m) := by
  intro L' L c' h
  dsimp only at h ⊢
  unfold dx_ald at h ⊢
  split at h
  · try dsimp only
    split at h
    · next e =>
      try rw [e]
      obtain ⟨h1, rfl⟩ := dx_ife h
      exact ⟨rfl, if_pos h1⟩
    · cases h
  · cases h
theorem dx_car_bld (lay : List dx_Cell) (pc : Nat) (st : List Value) (m : dx_M) : dx_car (fun L => dx_bld lay pc L st m) := by
  intro L' L c' h
  dsimp only at h ⊢
  unfold dx_bld at h ⊢
  split at h
  · try dsimp only
    split at h
    · next e =>
      try rw [e]
      obtain ⟨h1, rfl⟩ := dx_ife h
      exact ⟨rfl, if_pos h1⟩
    · next e =>
      try rw [e]
      obtain ⟨h1, rfl⟩ := dx_ife h
      exact ⟨rfl, if_pos h1⟩
    · cases h
  · cases h
theorem dx_car_rld (pc : Nat) (t : List Value) (m : dx_M) (n : Nat) (rs : List Nat) (i : Int32) : dx_car (fun L => dx_rld pc L t m n rs i) := by
  intro L' L c' h
  dsimp only at h ⊢
  unfold dx_rld at h ⊢
  by_cases hq : ¬ (i < 0 ∨ n ≤ i.toNatClampNeg)
  · rw [if_pos hq] at h ⊢
    split at h
    · next e => (try rw [e]); cases h; exact ⟨rfl, rfl⟩
    · cases h
  · rw [if_neg hq] at h; cases h
theorem dx_car_aad (lay : List dx_Cell) (pc : Nat) (st : List Value) (m : dx_M) : dx_car (fun L => dx_aad lay pc L st m) := by
  intro L' L c' h
  dsimp only at h ⊢
  unfold dx_aad at h ⊢
  split at h
  · try dsimp only
    split at h
    · next e => (try rw [e]); exact dx_car_rld _ _ _ _ _ _ L' L c' h
    · next e => (try rw [e]); exact dx_car_rld _ _ _ _ _ _ L' L c' h
    · cases h
  · cases h
theorem dx_car_ast (lay : List dx_Cell) (pc : Nat) (st : List Value) (m : dx_M) : dx_car (fun L => dx_ast lay pc L st m) := by
  intro L' L c' h
  dsimp only at h ⊢
  unfold dx_ast at h ⊢
  split at h
  · try dsimp only
    split at h
    · next e =>
      try rw [e]
      obtain ⟨h1, rfl⟩ := dx_ife h
      exact ⟨rfl, if_pos h1⟩
    · cases h
  · cases h
theorem dx_car_bst (lay : List dx_Cell) (pc : Nat) (st : List Value) (m : dx_M) : dx_car (fun L => dx_bst lay pc L st m) := by
  intro L' L c' h
  dsimp only at h ⊢
  unfold dx_bst at h ⊢
  split at h
  · try dsimp only
    split at h
    · next e =>
      try rw [e]
      obtain ⟨h1, rfl⟩ := dx_ife h
      exact ⟨rfl, if_pos h1⟩
    · next e =>
      try rw [e]
      obtain ⟨h1, rfl⟩ := dx_ife h
      exact ⟨rfl, if_pos h1⟩
    · cases h
  · cases h
theorem dx_loI_le {pc : Nat} {L' L st : List Value} {m : dx_M} {i : Nat} {c' : dx_F} (hl : dx_Le L' L) (h : dx_loI pc L' st m i = some c') : ∃ L2, dx_loI pc L st m i = some (c'.1, L2, c'.2.2.1, c'.2.2.2) ∧ dx_Le c'.2.1 L2 := by
  unfold dx_loI at h ⊢
  split at h
  · next x e => rw [dx_Le_ld i hl e (fun q => by cases q)]; cases h; exact ⟨L, rfl, hl⟩
  · cases h
theorem dx_loL_le {pc : Nat} {L' L st : List Value} {m : dx_M} {i : Nat} {c' : dx_F} (hl : dx_Le L' L) (h : dx_loL pc L' st m i = some c') : ∃ L2, dx_loL pc L st m i = some (c'.1, L2, c'.2.2.1, c'.2.2.2) ∧ dx_Le c'.2.1 L2 := by
  unfold dx_loL at h ⊢
  split at h
  · next x e => rw [dx_Le_ld i hl e (fun q => by cases q)]; cases h; exact ⟨L, rfl, hl⟩
  · cases h
theorem dx_loA_le {pc : Nat} {L' L st : List Value} {m : dx_M} {i : Nat} {c' : dx_F} (hl : dx_Le L' L) (h : dx_loA pc L' st m i = some c') : ∃ L2, dx_loA pc L st m i = some (c'.1, L2, c'.2.2.1, c'.2.2.2) ∧ dx_Le c'.2.1 L2 := by
  unfold dx_loA at h ⊢
  split at h
  · next x e => rw [dx_Le_ld i hl e (fun q => by cases q)]; cases h; exact ⟨L, rfl, hl⟩
  · cases h
theorem dx_stI_le {pc : Nat} {L' L st : List Value} {m : dx_M} {i : Nat} {c' : dx_F} (hl : dx_Le L' L) (h : dx_stI pc L' st m i = some c') : ∃ L2, dx_stI pc L st m i = some (c'.1, L2, c'.2.2.1, c'.2.2.2) ∧ dx_Le c'.2.1 L2 := by
  unfold dx_stI at h ⊢
  split at h
  · obtain ⟨h1, rfl⟩ := dx_ife h
    exact ⟨_, if_pos (by rw [← dx_Le_len hl]; exact h1), dx_Le_st1 i _ hl⟩
  · cases h
theorem dx_stL_le {pc : Nat} {L' L st : List Value} {m : dx_M} {i : Nat} {c' : dx_F} (hl : dx_Le L' L) (h : dx_stL pc L' st m i = some c') : ∃ L2, dx_stL pc L st m i = some (c'.1, L2, c'.2.2.1, c'.2.2.2) ∧ dx_Le c'.2.1 L2 := by
  unfold dx_stL at h ⊢
  split at h
  · obtain ⟨h1, rfl⟩ := dx_ife h
    exact ⟨_, if_pos (by rw [← dx_Le_len hl]; exact h1), dx_Le_st2 i _ hl⟩
  · cases h
theorem dx_stA_le {pc : Nat} {L' L st : List Value} {m : dx_M} {i : Nat} {c' : dx_F} (hl : dx_Le L' L) (h : dx_stA pc L' st m i = some c') : ∃ L2, dx_stA pc L st m i = some (c'.1, L2, c'.2.2.1, c'.2.2.2) ∧ dx_Le c'.2.1 L2 := by
  unfold dx_stA at h ⊢
  split at h
  · obtain ⟨h1, rfl⟩ := dx_ife h
    exact ⟨_, if_pos (by rw [← dx_Le_len hl]; exact h1), dx_Le_st1 i _ hl⟩
  · cases h
theorem dx_inc_le {pc : Nat} {L' L st : List Value} {m : dx_M} {i : Nat} {v : Value} {c' : dx_F} (hl : dx_Le L' L) (h : dx_inc pc L' st m i v = some c') : ∃ L2, dx_inc pc L st m i v = some (c'.1, L2, c'.2.2.1, c'.2.2.2) ∧ dx_Le c'.2.1 L2 := by
  unfold dx_inc at h ⊢
  split at h
  · next x y e =>
    rw [dx_Le_ld i hl e (fun q => by cases q)]
    obtain ⟨h1, rfl⟩ := dx_ife h
    exact ⟨_, if_pos (by rw [← dx_Le_len hl]; exact h1), dx_Le_st1 i _ hl⟩
  · cases h
theorem dx_car_le {f : List Value → Option dx_F} (hf : dx_car f) {L' L : List Value} {c' : dx_F} (hl : dx_Le L' L) (h : f L' = some c') : ∃ L2, f L = some (c'.1, L2, c'.2.2.1, c'.2.2.2) ∧ dx_Le c'.2.1 L2 := by
  obtain ⟨h1, h2⟩ := hf L' L c' h
  exact ⟨L, h2, by rw [h1]; exact hl⟩
set_option maxHeartbeats 4000000 in
theorem dx_ex_le {lay : List dx_Cell} {r : dx_I} {pc : Nat} {L' L st : List Value} {m : dx_M} {c' : dx_F} (hl : dx_Le L' L) (h : dx_ex lay r pc L' st m = some c') : ∃ L2, dx_ex lay r pc L st m = some (c'.1, L2, c'.2.2.1, c'.2.2.2) ∧ dx_Le c'.2.1 L2 := by
  obtain ⟨i, n, v, a, b, cc, ts⟩ := r
  cases i
  case ifCond cd off => cases cd <;> exact dx_car_le (dx_car_if1 _ _ _) hl h
  case if_icmp cd off => cases cd <;> exact dx_car_le (dx_car_if2 _ _ _) hl h
  case tableswitch => exact dx_car_le (dx_car_if1 _ _ _) hl h
  case iadd => exact dx_car_le (dx_car_bI _ _ _ _) hl h
  case isub => exact dx_car_le (dx_car_bI _ _ _ _) hl h
  case imul => exact dx_car_le (dx_car_bI _ _ _ _) hl h
  case iand => exact dx_car_le (dx_car_bI _ _ _ _) hl h
  case ior => exact dx_car_le (dx_car_bI _ _ _ _) hl h
  case ixor => exact dx_car_le (dx_car_bI _ _ _ _) hl h
  case ishl => exact dx_car_le (dx_car_bI _ _ _ _) hl h
  case ishr => exact dx_car_le (dx_car_bI _ _ _ _) hl h
  case iushr => exact dx_car_le (dx_car_bI _ _ _ _) hl h
  case idiv => exact dx_car_le (dx_car_dI _ _ _ _) hl h
  case irem => exact dx_car_le (dx_car_dI _ _ _ _) hl h
  case ladd => exact dx_car_le (dx_car_bL _ _ _ _) hl h
  case lsub => exact dx_car_le (dx_car_bL _ _ _ _) hl h
  case lmul => exact dx_car_le (dx_car_bL _ _ _ _) hl h
  case ldiv => exact dx_car_le (dx_car_dL _ _ _ _) hl h
  case lrem => exact dx_car_le (dx_car_dL _ _ _ _) hl h
  case lneg => exact dx_car_le (dx_car_unL _ _ _ _) hl h
  case i2l => exact dx_car_le (dx_car_unI _ _ _ _) hl h
  case i2b => exact dx_car_le (dx_car_unI _ _ _ _) hl h
  case lcmp => exact dx_car_le (dx_car_lcm _ _ _) hl h
  case dup => exact dx_car_le (dx_car_dup _ _ _) hl h
  case dup2 => exact dx_car_le (dx_car_dup2 _ _ _) hl h
  case getfield => exact dx_car_le (dx_car_get _ _ _ _ _ _) hl h
  case putfield => exact dx_car_le (dx_car_put _ _ _ _ _ _) hl h
  case iaload => exact dx_car_le (dx_car_ald _ _ _ _) hl h
  case baload => exact dx_car_le (dx_car_bld _ _ _ _) hl h
  case aaload => exact dx_car_le (dx_car_aad _ _ _ _) hl h
  case iastore => exact dx_car_le (dx_car_ast _ _ _ _) hl h
  case bastore => exact dx_car_le (dx_car_bst _ _ _ _) hl h
  case iload_n => exact dx_loI_le hl h
  case iload => exact dx_loI_le hl h
  case lload_n => exact dx_loL_le hl h
  case lload => exact dx_loL_le hl h
  case aload_n => exact dx_loA_le hl h
  case aload => exact dx_loA_le hl h
  case istore_n => exact dx_stI_le hl h
  case istore => exact dx_stI_le hl h
  case lstore_n => exact dx_stL_le hl h
  case lstore => exact dx_stL_le hl h
  case astore_n => exact dx_stA_le hl h
  case astore => exact dx_stA_le hl h
  case iinc => exact dx_inc_le hl h
  case iconst => cases h; exact ⟨L, rfl, hl⟩
  case bipush => cases h; exact ⟨L, rfl, hl⟩
  case sipush => cases h; exact ⟨L, rfl, hl⟩
  case lconst => cases h; exact ⟨L, rfl, hl⟩
  case ldc_w => cases h; exact ⟨L, rfl, hl⟩
  case ldc2_w => cases h; exact ⟨L, rfl, hl⟩
  case goto => cases h; exact ⟨L, rfl, hl⟩
  all_goals exact absurd (show (none : Option dx_F) = some c' from h) (fun q => by cases q)
theorem dx_mth_car (r : dx_I) (pc : Nat) (st : List Value) (m : dx_M) : dx_car (fun L => dx_mth r pc L st m) := by
  intro L' L c' h
  dsimp only at h ⊢
  obtain ⟨i, n, v, a, b, cc, ts⟩ := r
  unfold dx_mth at h ⊢
  dsimp only at h ⊢
  split at h
  · obtain ⟨h1, rfl⟩ := dx_ife h
    exact ⟨rfl, if_pos h1⟩
  · obtain ⟨h1, rfl⟩ := dx_ife h
    exact ⟨rfl, if_pos h1⟩
  · obtain ⟨h1, rfl⟩ := dx_ife h
    exact ⟨rfl, if_pos h1⟩
  · cases h
theorem dx_cpx_car (lay : List dx_Cell) (r : dx_I) (pc : Nat) (st : List Value) (m : dx_M) : dx_car (fun L => dx_cpx lay r pc L st m) := by
  intro L' L c' h
  dsimp only at h ⊢
  obtain ⟨i, n, v, a, b, cc, ts⟩ := r
  unfold dx_cpx at h ⊢
  dsimp only at h ⊢
  split at h
  · split at h
    · next e1 e2 =>
      obtain ⟨h1, rfl⟩ := dx_ife h
      exact ⟨rfl, if_pos h1⟩
    · cases h
  · cases h
theorem dx_weak {d : Nat} {C : Nat → List Value → dx_M → (Option Value → dx_M → Prop) → Prop} {lay : List dx_Cell} {K : dx_K} {Z : Option Value → dx_M → Prop} (hC : dx_mono C) {pc : Nat} {L' L st : List Value} {m : dx_M} (hl : dx_Le L' L) (g : dx_Go d C lay K Z (pc, L', st, m)) : dx_Go d C lay K Z (pc, L, st, m) := by
  intro X hX
  refine g (fun c' => ∀ L2, dx_Le c'.2.1 L2 → X (c'.1, L2, c'.2.2.1, c'.2.2.2)) ?_ L hl
  intro c hone L2 hl2
  obtain ⟨pc, L', st, m⟩ := c
  dsimp only at hl2 ⊢
  refine hX _ ?_
  rcases hone with ⟨c', h1, hx1⟩ | ⟨r, h1, hz⟩ | ⟨id, as1, rest, h1, hc⟩ | ⟨hd1, c', h1, hx1⟩
  · unfold dx_stp at h1
    split at h1
    · next r e1 =>
      obtain ⟨L3, h2, h3⟩ := dx_ex_le hl2 h1
      refine Or.inl ⟨_, ?_, hx1 L3 h3⟩
      unfold dx_stp
      rw [e1]
      exact h2
    · cases h1
  · exact Or.inr (Or.inl ⟨r, h1, hz⟩)
  · refine Or.inr (Or.inr (Or.inl ⟨id, as1, rest, h1, hC _ _ _ _ _ (fun r m' z => z L2 hl2) hc⟩))
  · refine Or.inr (Or.inr (Or.inr ⟨hd1, ?_⟩))
    unfold dx_cp at h1
    split at h1
    · next r e1 =>
      split at h1
      · next c9 e2 =>
        cases h1
        obtain ⟨h2, h3⟩ := dx_mth_car r pc st m L' L2 _ e2
        refine ⟨_, ?_, hx1 L2 (by rw [h2]; exact hl2)⟩
        unfold dx_cp
        rw [e1]
        dsimp only at h3 ⊢
        rw [h3]
      · next e2 =>
        obtain ⟨h2, h3⟩ := dx_cpx_car lay r pc st m L' L2 _ h1
        refine ⟨_, ?_, hx1 L2 (by rw [h2]; exact hl2)⟩
        unfold dx_cp
        rw [e1]
        dsimp only at h3 ⊢
        have e3 : dx_mth r pc L2 st m = none := by
          cases e4 : dx_mth r pc L2 st m with
          | none => rfl
          | some c9 =>
            have e5 := (dx_mth_car r pc st m L2 L' c9 e4).2
            dsimp only at e5 e2
            rw [e5] at e2
            cases e2
        rw [e3]
        exact h3
    · cases h1
theorem dx_fgt {P : List dx_K} {d d' : Nat} {lay : List dx_Cell} {K : dx_K} {Z : Option Value → dx_M → Prop} {pc : Nat} {L st : List Value} {m : dx_M} (L' : List Value) (hl : dx_Le L' L) (g : dx_Go d' (dx_Sem P lay d) lay K Z (pc, L', st, m)) : dx_Go d' (dx_Sem P lay d) lay K Z (pc, L, st, m) := dx_weak (dx_Sem_mono P lay d) hl g
