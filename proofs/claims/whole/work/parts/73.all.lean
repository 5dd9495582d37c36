section DXA
variable {p : Program} {l : Launch} {e : Env} {R : Room} {s : State} {m : MethodId} {args : Array Value} {below : List Frame} {meth : Method} {c : Code} {H : Heap} {locs : List Loc} {cells slots : Nat} {Q : State → Prop}
variable {K : dx_K} {D : va_G} {cA : Nat → ClassId} {tys : List (ClassId × FieldType)} {lay : List dx_Cell} {A : Nat → Prop} {H0 : Heap} {ad : Nat → Nat} {ls : Array Slot} {L st : List Value} {mm : dx_M} {pc : Nat} {P : List dx_K}
set_option maxHeartbeats 4000000 in
/-- one plain step of the deep machine is a step of the machine -/
theorem dx_ex_ok (X : dx_Cx p s m args c K D cA tys lay) (hlay : dx_layok lay) (hpk : ∀ (x : Nat) (e : Nat × Nat × Nat), dx_look K.2.2 x = some e → dx_pok P K.1.1.cls x e) {r : dx_I} {c' : dx_F} (hd : decode K.1.2.1 pc = .ok (r.1, r.2.1)) (hr : dx_rch K pc r = true) (h : dx_ex lay r pc L st mm = some c') (hL : dx_LO ad ls L) (hW : dx_Wd D cA ad lay A H0 mm H locs) (kk : dx_at p l e R s m args below meth c cells slots Q D cA ad lay A H0 c') : W p l e R s m args below meth c H locs cells slots Q (F0 m pc ls (st.map (dx_cv ad))) := by
  have X0 := X
  obtain ⟨hx, hb, hml, hown, hts, hK, hty⟩ := X
  obtain ⟨i, n, v, a, b, cc, ts⟩ := r
  unfold dx_rch at hr
  rw [Bool.and_eq_true] at hr
  obtain ⟨hn, hr⟩ := hr
  dsimp only at hd hn
  cases i
  case iconst z =>
    obtain rfl : n = 1 := of_decide_eq_true hn
    obtain rfl : v = .int (Int32.ofInt z) := of_decide_eq_true hr
    cases h
    exact lv_iconst hx hb hd rfl (kk ls H locs hL hW)
  case bipush z =>
    obtain rfl : n = 2 := of_decide_eq_true hn
    obtain rfl : v = .int (Int8.ofInt z).toInt32 := of_decide_eq_true hr
    cases h
    exact lv_bipush hx hb hd rfl (kk ls H locs hL hW)
  case sipush z =>
    obtain rfl : n = 3 := of_decide_eq_true hn
    obtain rfl : v = .int (Int16.ofInt z).toInt32 := of_decide_eq_true hr
    cases h
    exact lv_sipush hx hb hd rfl (kk ls H locs hL hW)
  case lconst z =>
    obtain rfl : n = 1 := of_decide_eq_true hn
    obtain rfl : v = .long (Int64.ofNat z) := of_decide_eq_true hr
    cases h
    exact lv_lconst hx hb hd rfl (kk ls H locs hL hW)
  case ldc_w x =>
    obtain rfl : n = 3 := of_decide_eq_true hn
    dsimp only [dx_rc2] at hr
    split at hr
    · next z w e1 =>
      obtain rfl : v = .int (Int32.ofInt ((z : Int) - 1000)) := of_decide_eq_true hr
      cases h
      exact lv_ldcw hx hb hown (hts _ (hpk x _ e1)) hd (kk ls H locs hL hW)
    · cases hr
  case ldc2_w x =>
    obtain rfl : n = 3 := of_decide_eq_true hn
    dsimp only [dx_rc2] at hr
    split at hr
    · next z w e1 =>
      obtain rfl : v = .long (Int64.ofInt ((z : Int) - 1000)) := of_decide_eq_true hr
      cases h
      exact lv_ldc2 hx hb hown (hts _ (hpk x _ e1)) hd (kk ls H locs hL hW)
    · cases hr
  case iload_n k =>
    obtain rfl : n = 1 := of_decide_eq_true hn
    obtain ⟨x, h1, rfl⟩ := dx_loI_inv h
    exact lv_iload_n hx hb hd rfl (hL.get h1 (fun q => by cases q)) (kk ls H locs hL hW)
  case iload k =>
    obtain rfl : n = 2 := of_decide_eq_true hn
    obtain ⟨x, h1, rfl⟩ := dx_loI_inv h
    exact lv_iload hx hb hd (hL.get h1 (fun q => by cases q)) (kk ls H locs hL hW)
  case lload_n k =>
    obtain rfl : n = 1 := of_decide_eq_true hn
    obtain ⟨x, h1, rfl⟩ := dx_loL_inv h
    exact lv_lload_n hx hb hd rfl (hL.get h1 (fun q => by cases q)) (kk ls H locs hL hW)
  case lload k =>
    obtain rfl : n = 2 := of_decide_eq_true hn
    obtain ⟨x, h1, rfl⟩ := dx_loL_inv h
    exact lv_lload hx hb hd (hL.get h1 (fun q => by cases q)) (kk ls H locs hL hW)
  case aload_n k =>
    obtain rfl : n = 1 := of_decide_eq_true hn
    obtain ⟨x, h1, rfl⟩ := dx_loA_inv h
    exact lv_aload_n hx hb hd rfl (hL.get h1 (fun q => by cases q)) (kk ls H locs hL hW)
  case aload k =>
    obtain rfl : n = 2 := of_decide_eq_true hn
    obtain ⟨x, h1, rfl⟩ := dx_loA_inv h
    exact lv_aload hx hb hd (hL.get h1 (fun q => by cases q)) (kk ls H locs hL hW)
  case istore_n k =>
    obtain rfl : n = 1 := of_decide_eq_true hn
    exact dx_ex_stI X0 (Or.inr ⟨k, rfl, hd, rfl⟩) h hL hW kk
  case istore k =>
    obtain rfl : n = 2 := of_decide_eq_true hn
    exact dx_ex_stI X0 (Or.inl ⟨hd, rfl⟩) h hL hW kk
  case lstore_n k =>
    obtain rfl : n = 1 := of_decide_eq_true hn
    exact dx_ex_stL X0 (Or.inr ⟨k, rfl, hd, rfl⟩) h hL hW kk
  case lstore k =>
    obtain rfl : n = 2 := of_decide_eq_true hn
    exact dx_ex_stL X0 (Or.inl ⟨hd, rfl⟩) h hL hW kk
  case astore_n k =>
    obtain rfl : n = 1 := of_decide_eq_true hn
    exact dx_ex_stA X0 (Or.inr ⟨k, rfl, hd, rfl⟩) h hL hW kk
  case astore k =>
    obtain rfl : n = 2 := of_decide_eq_true hn
    exact dx_ex_stA X0 (Or.inl ⟨hd, rfl⟩) h hL hW kk
  case iinc k z =>
    obtain rfl : n = 3 := of_decide_eq_true hn
    exact dx_ex_inc X0 hd (of_decide_eq_true hr) h hL hW kk
  case iadd =>
    obtain rfl : n = 1 := of_decide_eq_true hn
    obtain ⟨x, y, t, rfl, rfl⟩ := dx_bI_inv h
    exact lv_iadd hx hb hd (kk ls H locs hL hW)
  case isub =>
    obtain rfl : n = 1 := of_decide_eq_true hn
    obtain ⟨x, y, t, rfl, rfl⟩ := dx_bI_inv h
    exact lv_isub hx hb hd (kk ls H locs hL hW)
  case imul =>
    obtain rfl : n = 1 := of_decide_eq_true hn
    obtain ⟨x, y, t, rfl, rfl⟩ := dx_bI_inv h
    exact lv_imul hx hb hd (kk ls H locs hL hW)
  case iand =>
    obtain rfl : n = 1 := of_decide_eq_true hn
    obtain ⟨x, y, t, rfl, rfl⟩ := dx_bI_inv h
    exact lv_iand hx hb hd (kk ls H locs hL hW)
  case ior =>
    obtain rfl : n = 1 := of_decide_eq_true hn
    obtain ⟨x, y, t, rfl, rfl⟩ := dx_bI_inv h
    exact lv_ior hx hb hd (kk ls H locs hL hW)
  case ixor =>
    obtain rfl : n = 1 := of_decide_eq_true hn
    obtain ⟨x, y, t, rfl, rfl⟩ := dx_bI_inv h
    exact lv_ixor hx hb hd (kk ls H locs hL hW)
  case ishl =>
    obtain rfl : n = 1 := of_decide_eq_true hn
    obtain ⟨x, y, t, rfl, rfl⟩ := dx_bI_inv h
    exact lv_ishl hx hb hd (kk ls H locs hL hW)
  case ishr =>
    obtain rfl : n = 1 := of_decide_eq_true hn
    obtain ⟨x, y, t, rfl, rfl⟩ := dx_bI_inv h
    exact lv_ishr hx hb hd (kk ls H locs hL hW)
  case iushr =>
    obtain rfl : n = 1 := of_decide_eq_true hn
    obtain ⟨x, y, t, rfl, rfl⟩ := dx_bI_inv h
    exact lv_iushr hx hb hd rfl (kk ls H locs hL hW)
  case idiv =>
    obtain rfl : n = 1 := of_decide_eq_true hn
    obtain ⟨x, y, t, rfl, h0, rfl⟩ := dx_dI_inv h
    exact lv_idiv hx hb hd h0 (kk ls H locs hL hW)
  case irem =>
    obtain rfl : n = 1 := of_decide_eq_true hn
    obtain ⟨x, y, t, rfl, h0, rfl⟩ := dx_dI_inv h
    exact lv_irem hx hb hd h0 (kk ls H locs hL hW)
  case ladd =>
    obtain rfl : n = 1 := of_decide_eq_true hn
    obtain ⟨x, y, t, rfl, rfl⟩ := dx_bL_inv h
    exact lv_ladd hx hb hd (kk ls H locs hL hW)
  case lsub =>
    obtain rfl : n = 1 := of_decide_eq_true hn
    obtain ⟨x, y, t, rfl, rfl⟩ := dx_bL_inv h
    exact lv_lsub hx hb hd (kk ls H locs hL hW)
  case lmul =>
    obtain rfl : n = 1 := of_decide_eq_true hn
    obtain ⟨x, y, t, rfl, rfl⟩ := dx_bL_inv h
    exact lv_lmul hx hb hd (kk ls H locs hL hW)
  case ldiv =>
    obtain rfl : n = 1 := of_decide_eq_true hn
    obtain ⟨x, y, t, rfl, h0, rfl⟩ := dx_dL_inv h
    exact lv_ldiv hx hb hd h0 (kk ls H locs hL hW)
  case lrem =>
    obtain rfl : n = 1 := of_decide_eq_true hn
    obtain ⟨x, y, t, rfl, h0, rfl⟩ := dx_dL_inv h
    exact lv_lrem hx hb hd h0 (kk ls H locs hL hW)
  case lneg =>
    obtain rfl : n = 1 := of_decide_eq_true hn
    obtain ⟨x, t, rfl, rfl⟩ := dx_unL_inv h
    exact lv_lneg hx hb hd (kk ls H locs hL hW)
  case i2l =>
    obtain rfl : n = 1 := of_decide_eq_true hn
    obtain ⟨x, t, rfl, rfl⟩ := dx_unI_inv h
    exact lv_i2l hx hb hd rfl (kk ls H locs hL hW)
  case i2b =>
    obtain rfl : n = 1 := of_decide_eq_true hn
    obtain ⟨x, t, rfl, rfl⟩ := dx_unI_inv h
    exact lv_i2b hx hb hd rfl (kk ls H locs hL hW)
  case lcmp =>
    obtain rfl : n = 1 := of_decide_eq_true hn
    obtain ⟨x, y, t, rfl, rfl⟩ := dx_lcm_inv h
    exact W.lcmp hx hb hd (kk ls H locs hL hW)
  case dup =>
    obtain rfl : n = 1 := of_decide_eq_true hn
    obtain ⟨w, t, rfl, h1, rfl⟩ := dx_dup_inv h
    exact lv_dup hx hb hd (by rw [dx_cv_cat]; exact h1) (kk ls H locs hL hW)
  case dup2 =>
    obtain rfl : n = 1 := of_decide_eq_true hn
    obtain ⟨x, y, t, rfl, rfl⟩ := dx_dup2_inv h
    exact lv_dup2_11 hx hb hd rfl rfl (kk ls H locs hL hW)
  case goto off =>
    obtain rfl : n = 3 := of_decide_eq_true hn
    have ht : (pc : Int) + off = (a : Int) := of_decide_eq_true hr
    cases h
    exact lv_goto hx hb hd ht (kk ls H locs hL hW)
  case ifCond cd off =>
    obtain rfl : n = 3 := of_decide_eq_true hn
    have ht : (pc : Int) + off = (a : Int) := of_decide_eq_true hr
    cases cd
    · obtain ⟨x, t, rfl, rfl⟩ := dx_if1_inv h
      refine lv_if_eq hx hb hd ht (fun q => ?_) (fun q => ?_)
      · have k2 := kk ls H locs hL hW
        dsimp only at k2
        rw [if_pos q] at k2
        exact k2
      · have k2 := kk ls H locs hL hW
        dsimp only at k2
        rw [if_neg q] at k2
        exact k2
    · obtain ⟨x, t, rfl, rfl⟩ := dx_if1_inv h
      refine lv_if_ne hx hb hd ht (fun q => ?_) (fun q => ?_)
      · have k2 := kk ls H locs hL hW
        dsimp only at k2
        rw [if_neg q] at k2
        exact k2
      · have k2 := kk ls H locs hL hW
        dsimp only at k2
        rw [if_pos q] at k2
        exact k2
    · obtain ⟨x, t, rfl, rfl⟩ := dx_if1_inv h
      refine lv_if_lt hx hb hd ht (fun q => ?_) (fun q => ?_)
      · have k2 := kk ls H locs hL hW
        dsimp only at k2
        rw [if_pos q] at k2
        exact k2
      · have k2 := kk ls H locs hL hW
        dsimp only at k2
        rw [if_neg q] at k2
        exact k2
    · obtain ⟨x, t, rfl, rfl⟩ := dx_if1_inv h
      refine lv_if_ge hx hb hd ht (fun q => ?_) (fun q => ?_)
      · have k2 := kk ls H locs hL hW
        dsimp only at k2
        rw [if_pos q] at k2
        exact k2
      · have k2 := kk ls H locs hL hW
        dsimp only at k2
        rw [if_neg q] at k2
        exact k2
    · obtain ⟨x, t, rfl, rfl⟩ := dx_if1_inv h
      refine lv_if_gt hx hb hd ht (fun q => ?_) (fun q => ?_)
      · have k2 := kk ls H locs hL hW
        dsimp only at k2
        rw [if_pos q] at k2
        exact k2
      · have k2 := kk ls H locs hL hW
        dsimp only at k2
        rw [if_neg q] at k2
        exact k2
    · obtain ⟨x, t, rfl, rfl⟩ := dx_if1_inv h
      refine lv_if_le hx hb hd ht (fun q => ?_) (fun q => ?_)
      · have k2 := kk ls H locs hL hW
        dsimp only at k2
        rw [if_pos q] at k2
        exact k2
      · have k2 := kk ls H locs hL hW
        dsimp only at k2
        rw [if_neg q] at k2
        exact k2
  case if_icmp cd off =>
    obtain rfl : n = 3 := of_decide_eq_true hn
    have ht : (pc : Int) + off = (a : Int) := of_decide_eq_true hr
    cases cd
    · obtain ⟨x, y, t, rfl, rfl⟩ := dx_if2_inv h
      refine lv_icmp_eq hx hb hd ht (fun q => ?_) (fun q => ?_)
      · have k2 := kk ls H locs hL hW
        dsimp only at k2
        rw [if_pos q] at k2
        exact k2
      · have k2 := kk ls H locs hL hW
        dsimp only at k2
        rw [if_neg q] at k2
        exact k2
    · obtain ⟨x, y, t, rfl, rfl⟩ := dx_if2_inv h
      refine lv_icmp_ne hx hb hd ht (fun q => ?_) (fun q => ?_)
      · have k2 := kk ls H locs hL hW
        dsimp only at k2
        rw [if_neg q] at k2
        exact k2
      · have k2 := kk ls H locs hL hW
        dsimp only at k2
        rw [if_pos q] at k2
        exact k2
    · obtain ⟨x, y, t, rfl, rfl⟩ := dx_if2_inv h
      refine lv_icmp_lt hx hb hd ht (fun q => ?_) (fun q => ?_)
      · have k2 := kk ls H locs hL hW
        dsimp only at k2
        rw [if_pos q] at k2
        exact k2
      · have k2 := kk ls H locs hL hW
        dsimp only at k2
        rw [if_neg q] at k2
        exact k2
    · obtain ⟨x, y, t, rfl, rfl⟩ := dx_if2_inv h
      refine lv_icmp_ge hx hb hd ht (fun q => ?_) (fun q => ?_)
      · have k2 := kk ls H locs hL hW
        dsimp only at k2
        rw [if_pos q] at k2
        exact k2
      · have k2 := kk ls H locs hL hW
        dsimp only at k2
        rw [if_neg q] at k2
        exact k2
    · obtain ⟨x, y, t, rfl, rfl⟩ := dx_if2_inv h
      refine lv_icmp_gt hx hb hd ht (fun q => ?_) (fun q => ?_)
      · have k2 := kk ls H locs hL hW
        dsimp only at k2
        rw [if_pos q] at k2
        exact k2
      · have k2 := kk ls H locs hL hW
        dsimp only at k2
        rw [if_neg q] at k2
        exact k2
    · obtain ⟨x, y, t, rfl, rfl⟩ := dx_if2_inv h
      refine lv_icmp_le hx hb hd ht (fun q => ?_) (fun q => ?_)
      · have k2 := kk ls H locs hL hW
        dsimp only at k2
        rw [if_pos q] at k2
        exact k2
      · have k2 := kk ls H locs hL hW
        dsimp only at k2
        rw [if_neg q] at k2
        exact k2
  case tableswitch dflt lo hi offs =>
    dsimp only [dx_rc2] at hr
    simp only [Bool.and_eq_true, decide_eq_true_eq, List.all_eq_true, List.any_eq_true, List.mem_range] at hr
    obtain ⟨a1, a2, a3⟩ := hr
    refine dx_ex_sw X0 hd a1 (fun q hq => ?_) (fun j hj => ?_) h hL hW kk
    · obtain ⟨⟨b1, b2⟩, b3⟩ := a2 q hq
      split at b3
      · next off e1 => exact ⟨b1, b2, off, e1, of_decide_eq_true b3⟩
      · cases b3
    · obtain ⟨q, hq, e1⟩ := a3 j hj
      exact ⟨q, hq, e1⟩
  case getfield x =>
    obtain rfl : n = 3 := of_decide_eq_true hn
    exact dx_ex_get X0 hlay hpk hd (of_decide_eq_true hr) h hL hW kk
  case putfield x =>
    obtain rfl : n = 3 := of_decide_eq_true hn
    exact dx_ex_put X0 hlay hpk hd (of_decide_eq_true hr) h hL hW kk
  case iaload =>
    obtain rfl : n = 1 := of_decide_eq_true hn
    exact dx_ex_ald X0 hd h hL hW kk
  case baload =>
    obtain rfl : n = 1 := of_decide_eq_true hn
    exact dx_ex_bld X0 hd h hL hW kk
  case aaload =>
    obtain rfl : n = 1 := of_decide_eq_true hn
    exact dx_ex_aad X0 hd h hL hW kk
  case iastore =>
    obtain rfl : n = 1 := of_decide_eq_true hn
    exact dx_ex_ast X0 hd h hL hW kk
  case bastore =>
    obtain rfl : n = 1 := of_decide_eq_true hn
    exact dx_ex_bst X0 hd h hL hW kk
  all_goals exact absurd (show (none : Option dx_F) = some c' from h) (fun q => by cases q)
end DXA
