/-! both: copy, fill, loads, what is told (printed by wip/whole/g52.py) -/
theorem th_XM {mx mm : dx_M} {j : Nat} (h : thX mx j = thM mm j) : decide (¬ mx.1 (10 + j) 0 = 0) = decide (mm.1 11 j = 0) := h
theorem pr_copy {mx mm : dx_M} (hR : RM mx mm) (s i t j n : Int32) : PI 33 100 [.int s, .int i, .int t, .int j, .int n] mx mm := by
  obtain ⟨W, H, E, D, hR⟩ := hR
  obtain ⟨⟨b1, b2, b3, b4, b5, b6, b7⟩, ⟨x1, x2, x3, x4⟩, ⟨y1, y2, y3, y4⟩, ⟨s1, s2⟩, r5, r6, r7, r8, r9, r10, ⟨l1, l2, l3⟩, r12⟩ := id hR
  have hz : ∀ a : Nat, a < 6 → szP (mx.1 8 a) := fun a ha => by rw [(r6 a ha).1]; exact (r6 a ha).2
  have hz2 : ∀ a : Nat, a < 6 → szP (mm.1 3 a) := fun a ha => (r6 a ha).2
  unfold PI
  refine sX3_copy mx hz r8 s i t j n (fun c => ⟨_, rfl, ?_⟩) (fun a b ha hb ea eb e8 => ⟨_, rfl, ?_⟩) (fun a b z y ha hb ea eb hz12 hy12 e8 e9 c => ⟨_, rfl, ?_⟩) (fun a b z y p q k ha hb ea eb hz12 hy12 e8 e9 ei ej ek hp hq => ⟨_, rfl, ?_⟩)
  · refine sX4_copy mm hz2 r9 s i t j n (fun _ => ⟨rfl, RMk hR⟩) (fun a b ha hb ea eb _ => ?_) (fun a b z y ha hb ea eb _ _ _ _ _ => ?_) (fun a b z y p q k ha hb ea eb _ _ _ _ _ _ _ _ _ => ?_) <;> (rw [ea, eb, show inI (nI a) 0 5 = true from in_le (n := 5) (by omega) (by omega), show inI (nI b) 0 5 = true from in_le (n := 5) (by omega) (by omega)] at c; cases c)
  · subst ea; subst eb
    rw [(r6 a ha).1, (r6 b hb).1] at e8
    refine sX4_copy mm hz2 r9 _ i _ j n (fun c => ?_) (fun _ _ _ _ _ _ _ => ⟨rfl, RMk (RR_fnd hR 1 (by omega))⟩) (fun a' b' z y ha' hb' ea eb hz12 hy12 e3 e4 _ => ?_) (fun a' b' z y p q k ha' hb' ea eb hz12 hy12 e3 e4 _ _ _ _ _ => ?_)
    · rw [show inI (nI a) 0 5 = true from in_le (n := 5) (by omega) (by omega), show inI (nI b) 0 5 = true from in_le (n := 5) (by omega) (by omega)] at c; cases c
    · obtain rfl := nI_inj' (by omega) (by omega) ea
      obtain rfl := nI_inj' (by omega) (by omega) eb
      rcases e8 with e8 | e8
      · exact absurd (e8.symm.trans e3) (m1_n hz12)
      · exact absurd (e8.symm.trans e4) (m1_n hy12)
    · obtain rfl := nI_inj' (by omega) (by omega) ea
      obtain rfl := nI_inj' (by omega) (by omega) eb
      rcases e8 with e8 | e8
      · exact absurd (e8.symm.trans e3) (m1_n hz12)
      · exact absurd (e8.symm.trans e4) (m1_n hy12)
  · subst ea; subst eb
    rw [(r6 a ha).1] at e8
    rw [(r6 b hb).1] at e9
    refine sX4_copy mm hz2 r9 _ i _ j n (fun c => ?_) (fun a' b' ha' hb' ea eb e3 => ?_) (fun _ _ _ _ _ _ _ _ _ _ _ _ _ => ⟨rfl, RMk (RR_fnd hR 2 (by omega))⟩) (fun a' b' z' y' p q k ha' hb' ea eb hz' hy' e3 e4 ei ej ek hp hq => ?_)
    · rw [show inI (nI a) 0 5 = true from in_le (n := 5) (by omega) (by omega), show inI (nI b) 0 5 = true from in_le (n := 5) (by omega) (by omega)] at c; cases c
    · obtain rfl := nI_inj' (by omega) (by omega) ea
      obtain rfl := nI_inj' (by omega) (by omega) eb
      rcases e3 with e3 | e3
      · exact absurd (e3.symm.trans e8) (m1_n hz12)
      · exact absurd (e3.symm.trans e9) (m1_n hy12)
    · obtain rfl := nI_inj' (by omega) (by omega) ea
      obtain rfl := nI_inj' (by omega) (by omega) eb
      obtain rfl := nI_inj' (by omega) (by omega) (e8.symm.trans e3)
      obtain rfl := nI_inj' (by omega) (by omega) (e9.symm.trans e4)
      rw [ei, ej, ek] at c
      unfold rB at c
      rw [nI_toInt (by omega), nI_toInt (by omega), nI_toInt (by omega), decide_eq_true (by omega), decide_eq_true (by omega)] at c
      cases c
  · subst ea; subst eb; subst ei; subst ej; subst ek
    rw [(r6 a ha).1] at e8
    rw [(r6 b hb).1] at e9
    refine sX4_copy mm hz2 r9 _ _ _ _ _ (fun c => ?_) (fun a' b' ha' hb' ea eb e3 => ?_) (fun a' b' z' y' ha' hb' ea eb hz' hy' e3 e4 c => ?_) (fun a' b' z' y' p' q' k' ha' hb' ea eb hz' hy' e3 e4 ei ej ek hp' hq' => ⟨rfl, ?_⟩)
    · rw [show inI (nI a) 0 5 = true from in_le (n := 5) (by omega) (by omega), show inI (nI b) 0 5 = true from in_le (n := 5) (by omega) (by omega)] at c; cases c
    · obtain rfl := nI_inj' (by omega) (by omega) ea
      obtain rfl := nI_inj' (by omega) (by omega) eb
      rcases e3 with e3 | e3
      · exact absurd (e3.symm.trans e8) (m1_n hz12)
      · exact absurd (e3.symm.trans e9) (m1_n hy12)
    · obtain rfl := nI_inj' (by omega) (by omega) ea
      obtain rfl := nI_inj' (by omega) (by omega) eb
      obtain rfl := nI_inj' (by omega) (by omega) (e8.symm.trans e3)
      obtain rfl := nI_inj' (by omega) (by omega) (e9.symm.trans e4)
      unfold rB at c
      rw [nI_toInt (by omega), nI_toInt (by omega), nI_toInt (by omega), decide_eq_true (by omega), decide_eq_true (by omega)] at c
      cases c
    · obtain rfl := nI_inj' (by omega) (by omega) ea
      obtain rfl := nI_inj' (by omega) (by omega) eb
      obtain rfl := nI_inj' (by omega) (by omega) ei
      obtain rfl := nI_inj' (by omega) (by omega) ej
      obtain rfl := nI_inj' (by omega) (by omega) ek
      have ex : ∀ c, c ≠ 20 + b → (dx_pR mx (20 + b) (va_cpy (mx.1 (20 + a)) (mx.1 (20 + b)) p q k)).1 c = mx.1 c := fun c h2 => pR_i h2
      refine ⟨W, H, E, D, ⟨b1, b2, b3, b4, b5, b6, b7⟩, ⟨by rw [ex 1 (by omega)]; exact x1, by rw [ex 1 (by omega)]; exact x2, by rw [ex 0 (by omega)]; exact x3, by rw [ex 0 (by omega)]; exact x4⟩, ⟨y1, y2, y3, y4⟩, ⟨by rw [ex 2 (by omega)]; exact s1, s2⟩, C5_c r5 (fun i _ => ex _ (by omega)) rfl rfl rfl rfl rfl rfl, by rw [ex 8 (by omega)]; exact r6, fun c z2 x hc ez hz2' hx => ?_, fun c x hc hx => ?_, fun c hc => ?_, by rw [ex 9 (by omega)]; exact r10, ⟨by rw [ex 0 (by omega)]; exact l1, l2, l3⟩, r12⟩
      · show _ = fb_put (mm.1 4) (fun c => mm.1 4 (12 * a + p + c)) (12 * b + q) k (12 * c + x)
        have ez' : mm.1 3 c = nI z2 := ez
        by_cases w : c = b
        · subst w
          rw [pR_s]
          by_cases w2 : q ≤ x ∧ x < q + k
          · rw [pk_cpy_in w2.1 w2.2, fb_put_in (by omega) (by omega), r7 a z (p + (x - q)) ha e8 hz12 (by omega), show 12 * a + (p + (x - q)) = 12 * a + p + (12 * c + x - (12 * c + q)) by omega]
          · rw [pk_cpy_out (by omega), fb_put_out (by omega)]
            exact r7 c z2 x hc ez' hz2' hx
        · rw [ex _ (by omega), fb_put_out (by omega)]
          exact r7 c z2 x hc ez' hz2' hx
      · by_cases w : c = b
        · subst w
          rw [pR_s]
          by_cases w2 : q ≤ x ∧ x < q + k
          · rw [pk_cpy_in w2.1 w2.2]; exact r8 a _ ha (by omega)
          · rw [pk_cpy_out (by omega)]; exact r8 c x hc hx
        · rw [ex _ (by omega)]; exact r8 c x hc hx
      · show (fb_put (mm.1 4) (fun c => mm.1 4 (12 * a + p + c)) (12 * b + q) k c).toInt8.toInt32 = fb_put (mm.1 4) (fun c => mm.1 4 (12 * a + p + c)) (12 * b + q) k c
        by_cases w : 12 * b + q ≤ c ∧ c < 12 * b + q + k
        · rw [fb_put_in w.1 w.2]; exact r9 _ (by omega)
        · rw [fb_put_out (by omega)]; exact r9 c hc
theorem pr_fill {mx mm : dx_M} (hR : RM mx mm) (y s : Int32) : PI 34 101 [.int y, .int s] mx mm := by
  obtain ⟨W, H, E, D, hR⟩ := hR
  obtain ⟨⟨b1, b2, b3, b4, b5, b6, b7⟩, ⟨x1, x2, x3, x4⟩, ⟨y1, y2, y3, y4⟩, ⟨s1, s2⟩, r5, r6, r7, r8, r9, r10, ⟨l1, l2, l3⟩, r12⟩ := id hR
  have hz : ∀ a : Nat, a < 6 → szP (mx.1 8 a) := fun a ha => by rw [(r6 a ha).1]; exact (r6 a ha).2
  have hz2 : ∀ a : Nat, a < 6 → szP (mm.1 3 a) := fun a ha => (r6 a ha).2
  unfold PI
  refine sX3_fill mx b1 b2 b4 x1 x2 hz y s (fun c => ⟨_, rfl, ?_⟩) (fun a ha ea e8 hy => ⟨_, rfl, ?_⟩) (fun a z ha ea hz12 e8 hzW hy => ⟨_, rfl, ?_⟩) (fun a b z ha hb ea eb hz12 e8 hWz => ⟨_, rfl, ?_⟩)
  · refine sX4_fill mm b1 b2 b4 y1 y2 hz2 y s (fun _ => ⟨rfl, RMk hR⟩) (fun a ha ea _ hy => ?_) (fun a z ha ea _ _ _ hy => ?_) (fun a b z ha hb ea eb _ _ _ => ?_)
    · rw [ea, hy, show inI (nI a) 0 5 = true from in_le (n := 5) (by omega) (by omega)] at c; cases c
    · rw [ea, hy, show inI (nI a) 0 5 = true from in_le (n := 5) (by omega) (by omega)] at c; cases c
    · rw [ea, eb, show inI (nI a) 0 5 = true from in_le (n := 5) (by omega) (by omega), show nI H - 1 = nI (H - 1) from pk_sub (a := H) (b := 1) (by omega), in_le (by omega) (by omega)] at c; cases c
  · subst ea
    rw [(r6 a ha).1] at e8
    refine sX4_fill mm b1 b2 b4 y1 y2 hz2 y _ (fun c => ?_) (fun _ _ _ _ _ => ⟨rfl, RMk (RR_fnd hR 1 (by omega))⟩) (fun a2 z ha2 ea2 hz12 e3 _ _ => ?_) (fun a2 b z ha2 hb ea2 eb hz12 e3 _ => ?_)
    · rw [hy, show inI (nI a) 0 5 = true from in_le (n := 5) (by omega) (by omega)] at c; cases c
    · obtain rfl := nI_inj' (by omega) (by omega) ea2; exact absurd (e8.symm.trans e3) (m1_n hz12)
    · obtain rfl := nI_inj' (by omega) (by omega) ea2; exact absurd (e8.symm.trans e3) (m1_n hz12)
  · subst ea
    rw [(r6 a ha).1] at e8
    refine sX4_fill mm b1 b2 b4 y1 y2 hz2 y _ (fun c => ?_) (fun a2 _ ea2 e3 _ => ?_) (fun _ _ _ _ _ _ _ _ => ⟨rfl, RMk (RR_fnd hR 2 (by omega))⟩) (fun a2 b z2 ha2 hb ea2 eb hz22 e3 hW => ?_)
    · rw [hy, show inI (nI a) 0 5 = true from in_le (n := 5) (by omega) (by omega)] at c; cases c
    · obtain rfl := nI_inj' (by omega) (by omega) ea2; exact absurd (e3.symm.trans e8) (m1_n hz12)
    · obtain rfl := nI_inj' (by omega) (by omega) ea2
      have := nI_inj' (by omega) (by omega) (e8.symm.trans e3)
      omega
  · subst ea; subst eb
    rw [(r6 a ha).1] at e8
    refine sX4_fill mm b1 b2 b4 y1 y2 hz2 _ _ (fun c => ?_) (fun a2 _ ea2 e3 _ => ?_) (fun a2 z2 ha2 ea2 hz22 e3 hW _ => ?_) (fun a2 c z2 ha2 hc ea2 ec hz22 e3 hW => ?_)
    · rw [show inI (nI a) 0 5 = true from in_le (n := 5) (by omega) (by omega), show nI H - 1 = nI (H - 1) from pk_sub (a := H) (b := 1) (by omega), in_le (by omega) (by omega)] at c; cases c
    · obtain rfl := nI_inj' (by omega) (by omega) ea2; exact absurd (e3.symm.trans e8) (m1_n hz12)
    · obtain rfl := nI_inj' (by omega) (by omega) ea2
      have := nI_inj' (by omega) (by omega) (e8.symm.trans e3)
      omega
    · obtain rfl := nI_inj' (by omega) (by omega) ea2
      obtain rfl := nI_inj' (by omega) (by omega) ec
      have e7 : ∀ x, x < W → mx.1 (20 + a) x = mm.1 4 (12 * a + x) := fun x hx => r7 a z x ha e8 hz12 (by omega)
      have ex : ∀ q, q ≠ 2 → (dx_pR mx 2 (fb_put (mx.1 2) (fun x => fv ((mx.1 (20 + a)) x)) (b * 12) W)).1 q = mx.1 q := fun q h2 => pR_i h2
      refine ⟨?_, W, H, E, D, ⟨b1, b2, b3, b4, b5, b6, b7⟩, ⟨x1, x2, x3, x4⟩, ⟨y1, y2, y3, y4⟩, ⟨?_, fun i hi => ?_⟩, C5_c r5 (fun i _ => ex _ (by omega)) rfl rfl rfl rfl rfl rfl, r6, C7_c r7 (fun a _ => ex _ (by omega)) rfl rfl, C8_c r8 (fun a _ => ex _ (by omega)), r9, r10, ⟨l1, l2, l3⟩, r12⟩
      · rw [nf_cong (g := st_neg (mx.1 (20 + a))) 0 (fun x s hx => by unfold st_neg; rw [e7 x hx])]
      · show fb_put (mx.1 2) (fun x => fv ((mx.1 (20 + a)) x)) (b * 12) W = fb_put (mm.1 2) (fun x => fv (mm.1 4 (12 * a + x))) (12 * b) W
        rw [Nat.mul_comm b 12]
        exact fb_put_cong (fun k _ => by rw [s1]) (fun k hk => by rw [e7 k hk])
      · show sqP (fb_put (mm.1 2) (fun x => fv (mm.1 4 (12 * a + x))) (12 * b) W i)
        by_cases q : 12 * b ≤ i ∧ i < 12 * b + W
        · rw [fb_put_in q.1 q.2]; exact sqP_fv _
        · rw [fb_put_out (by omega)]; exact s2 i hi
theorem pr_load {mx mm : dx_M} (hR : RM mx mm) (k a b w : Int32) : PI 35 103 [.int k, .int a, .int b, .int w] mx mm := by
  obtain ⟨W, H, E, D, hR⟩ := hR
  obtain ⟨⟨b1, b2, b3, b4, b5, b6, b7⟩, ⟨x1, x2, x3, x4⟩, ⟨y1, y2, y3, y4⟩, ⟨s1, s2⟩, r5, r6, r7, r8, r9, r10, ⟨l1, l2, l3⟩, r12⟩ := id hR
  unfold PI
  refine sX3_load mx b5 x3 k a b w (fun c => ⟨_, rfl, ?_⟩) (fun c c2 => ⟨_, rfl, ?_⟩) (fun c c1 c2 c3 c4 => ⟨_, rfl, ?_⟩)
  · refine sX4_load mm b5 y3 k a b w (fun _ => ⟨rfl, RMk hR⟩) (fun _ d => ?_) (fun _ d1 d2 d3 d4 => ?_)
    · rw [d] at c; cases c
    · rw [d1, d2, d3, d4] at c; cases c
  · refine sX4_load mm b5 y3 k a b w (fun d => ?_) (fun _ _ => ⟨rfl, RMk hR⟩) (fun d _ _ _ _ => absurd d (by omega))
    rw [c2] at d; cases d
  · refine sX4_load mm b5 y3 k a b w (fun d => ?_) (fun d _ => absurd c (by omega)) (fun _ _ _ _ _ => ⟨rfl, ?_⟩)
    · rw [c1, c2, c3, c4] at d; cases d
    · have ex : ∀ q, q ≠ 0 → q ≠ 10 + E → (dx_pI (dx_pI (dx_pI (dx_pI (dx_pI (dx_pI (dx_pI mx (10 + E) 0 1) (10 + E) 1 k) (10 + E) 2 a) (10 + E) 3 b) (10 + E) 4 w) (10 + E) 5 0) 0 7 (nI (E + 1))).1 q = mx.1 q := fun q h h2 => by rw [pI_i h, pI_i h2, pI_i h2, pI_i h2, pI_i h2, pI_i h2, pI_i h2]
      have e0 : (dx_pI (dx_pI (dx_pI (dx_pI (dx_pI (dx_pI (dx_pI mx (10 + E) 0 1) (10 + E) 1 k) (10 + E) 2 a) (10 + E) 3 b) (10 + E) 4 w) (10 + E) 5 0) 0 7 (nI (E + 1))).1 0 = upd (mx.1 0) 7 (nI (E + 1)) := by rw [pI_s, pI_i (by omega), pI_i (by omega), pI_i (by omega), pI_i (by omega), pI_i (by omega), pI_i (by omega)]
      refine ⟨W, H, E + 1, D, ⟨b1, b2, b3, b4, by omega, b6, b7⟩, ⟨by rw [ex 1 (by omega) (by omega)]; exact x1, by rw [ex 1 (by omega) (by omega)]; exact x2, by rw [e0]; exact pk_us, by rw [e0, pk_un (by decide)]; exact x4⟩, ⟨y1, y2, rfl, y4⟩, ⟨by rw [ex 2 (by omega) (by omega)]; exact s1, s2⟩, fun i hi => ?_, by rw [ex 8 (by omega) (by omega)]; exact r6, C7_c r7 (fun i _ => ex _ (by omega) (by omega)) rfl rfl, C8_c r8 (fun i _ => ex _ (by omega) (by omega)), r9, by rw [ex 9 (by omega) (by omega)]; exact r10, ⟨by rw [e0, pk_un (by decide)]; exact l1, l2, l3⟩, r12⟩
      by_cases q : i = E
      · subst q
        have e1 : (dx_pI (dx_pI (dx_pI (dx_pI (dx_pI (dx_pI (dx_pI mx (10 + i) 0 1) (10 + i) 1 k) (10 + i) 2 a) (10 + i) 3 b) (10 + i) 4 w) (10 + i) 5 0) 0 7 (nI (i + 1))).1 (10 + i) = upd (upd (upd (upd (upd (upd (mx.1 (10 + i)) 0 1) 1 k) 2 a) 3 b) 4 w) 5 0 := by rw [pI_i (by omega), pI_s, pI_s, pI_s, pI_s, pI_s, pI_s]
        unfold thX thM
        rw [e1]
        show decide (¬ (1 : Int32) = 0) = decide (upd (mm.1 11) i 0 i = 0) ∧ k = upd (mm.1 6) i k i ∧ a = upd (mm.1 7) i a i ∧ b = upd (mm.1 8) i b i ∧ w = upd (mm.1 9) i w i ∧ (0 : Int32) = upd (mm.1 10) i 0 i ∧ inI (upd (mm.1 7) i a i) 0 24 = true ∧ inI (upd (mm.1 8) i b i) 0 24 = true ∧ inI (upd (mm.1 9) i w i) 0 200 = true ∧ inI (upd (mm.1 10) i 0 i) 0 20 = true
        rw [pk_us, pk_us, pk_us, pk_us, pk_us, pk_us]
        exact ⟨by decide, rfl, rfl, rfl, rfl, rfl, c2, c3, c4, by decide⟩
      · obtain ⟨t1, t2, t3, t4, t5, t6, t7⟩ := r5 i (by omega)
        unfold thX thM at *
        rw [ex _ (by omega) (by omega)]
        show decide (¬ mx.1 (10 + i) 0 = 0) = decide (upd (mm.1 11) E 0 i = 0) ∧ mx.1 (10 + i) 1 = upd (mm.1 6) E k i ∧ mx.1 (10 + i) 2 = upd (mm.1 7) E a i ∧ mx.1 (10 + i) 3 = upd (mm.1 8) E b i ∧ mx.1 (10 + i) 4 = upd (mm.1 9) E w i ∧ mx.1 (10 + i) 5 = upd (mm.1 10) E 0 i ∧ inI (upd (mm.1 7) E a i) 0 24 = true ∧ inI (upd (mm.1 8) E b i) 0 24 = true ∧ inI (upd (mm.1 9) E w i) 0 200 = true ∧ inI (upd (mm.1 10) E 0 i) 0 20 = true
        rw [pk_un q, pk_un q, pk_un q, pk_un q, pk_un q, pk_un q]
        exact ⟨t1, t2, t3, t4, t5, t6, t7⟩
theorem pr_move {mx mm : dx_M} (hR : RM mx mm) (l a b : Int32) : PI 36 105 [.int l, .int a, .int b] mx mm := by
  obtain ⟨W, H, E, D, hR⟩ := hR
  obtain ⟨⟨b1, b2, b3, b4, b5, b6, b7⟩, ⟨x1, x2, x3, x4⟩, ⟨y1, y2, y3, y4⟩, ⟨s1, s2⟩, r5, r6, r7, r8, r9, r10, ⟨l1, l2, l3⟩, r12⟩ := id hR
  unfold PI
  refine sX3_move mx b5 x3 l a b (fun c => ⟨_, rfl, ?_⟩) (fun j hj ej ct ce => ⟨_, rfl, ?_⟩) (fun j hj ej ct ck ce => ⟨_, rfl, ?_⟩) (fun j hj ej ct ck ce => ⟨_, rfl, ?_⟩)
  · refine sX4_move mm b5 y3 l a b (fun _ => ⟨rfl, RMk hR⟩) (fun j hj ej ct ce => ?_) (fun j hj ej ct ck ce => ?_) (fun j hj ej ct ck ce => ?_) <;> (rw [ej, show nI E - 1 = nI (E - 1) from pk_sub (a := E) (b := 1) (by omega), in_le (by omega) (by omega), ce] at c; cases c)
  · subst ej
    rw [th_XM (r5 j hj).1] at ct
    refine sX4_move mm b5 y3 _ a b (fun c => ?_) (fun j2 hj2 ej2 ct2 ce2 => ?_) (fun j2 hj2 ej2 ct2 ck2 ce2 => ?_) (fun j2 hj2 ej2 ct2 ck2 ce2 => ?_)
    · rw [show nI E - 1 = nI (E - 1) from pk_sub (a := E) (b := 1) (by omega), in_le (by omega) (by omega), ce] at c; cases c
    · exact ⟨rfl, RMk (RR_fnd hR 1 (by omega))⟩
    · obtain rfl := nI_inj' (by omega) (by omega) ej2
      exact absurd (ct.symm.trans ct2) (by decide)
    · obtain rfl := nI_inj' (by omega) (by omega) ej2
      exact absurd (ct.symm.trans ct2) (by decide)
  · subst ej
    rw [th_XM (r5 j hj).1] at ct
    rw [(r5 j hj).2.1] at ck
    refine sX4_move mm b5 y3 _ a b (fun c => ?_) (fun j2 hj2 ej2 ct2 ce2 => ?_) (fun j2 hj2 ej2 ct2 ck2 ce2 => ?_) (fun j2 hj2 ej2 ct2 ck2 ce2 => ?_)
    · rw [show nI E - 1 = nI (E - 1) from pk_sub (a := E) (b := 1) (by omega), in_le (by omega) (by omega), ce] at c; cases c
    · obtain rfl := nI_inj' (by omega) (by omega) ej2
      exact absurd (ct.symm.trans ct2) (by decide)
    · exact ⟨rfl, RMk (RR_fnd hR 3 (by omega))⟩
    · obtain rfl := nI_inj' (by omega) (by omega) ej2
      first | exact absurd ck ck2 | exact absurd ck2 ck
  · subst ej
    rw [th_XM (r5 j hj).1] at ct
    rw [(r5 j hj).2.1] at ck
    refine sX4_move mm b5 y3 _ a b (fun c => ?_) (fun j2 hj2 ej2 ct2 ce2 => ?_) (fun j2 hj2 ej2 ct2 ck2 ce2 => ?_) (fun j2 hj2 ej2 ct2 ck2 ce2 => ?_)
    · rw [show nI E - 1 = nI (E - 1) from pk_sub (a := E) (b := 1) (by omega), in_le (by omega) (by omega), ce] at c; cases c
    · obtain rfl := nI_inj' (by omega) (by omega) ej2
      exact absurd (ct.symm.trans ct2) (by decide)
    · obtain rfl := nI_inj' (by omega) (by omega) ej2
      first | exact absurd ck ck2 | exact absurd ck2 ck
    · obtain rfl := nI_inj' (by omega) (by omega) ej2
      have ex : ∀ q, q ≠ 10 + j → (dx_pI (dx_pI mx (10 + j) 2 a) (10 + j) 3 b).1 q = mx.1 q := fun q h2 => by rw [pI_i h2, pI_i h2]
      have e1 : (dx_pI (dx_pI mx (10 + j) 2 a) (10 + j) 3 b).1 (10 + j) = upd (upd (mx.1 (10 + j)) 2 a) 3 b := by rw [pI_s, pI_s]
      refine ⟨rfl, W, H, E, D, ⟨b1, b2, b3, b4, b5, b6, b7⟩, ⟨by rw [ex 1 (by omega)]; exact x1, by rw [ex 1 (by omega)]; exact x2, by rw [ex 0 (by omega)]; exact x3, by rw [ex 0 (by omega)]; exact x4⟩, ⟨y1, y2, y3, y4⟩, ⟨by rw [ex 2 (by omega)]; exact s1, s2⟩, fun i hi => ?_, by rw [ex 8 (by omega)]; exact r6, C7_c r7 (fun i _ => ex _ (by omega)) rfl rfl, C8_c r8 (fun i _ => ex _ (by omega)), r9, by rw [ex 9 (by omega)]; exact r10, ⟨by rw [ex 0 (by omega)]; exact l1, l2, l3⟩, r12⟩
      obtain ⟨t1, t2, t3, t4, t5, t6, t7, t8, t9, t10⟩ := r5 i hi
      unfold thX thM at *
      by_cases q : i = j
      · subst q
        rw [e1]
        show decide (¬ (upd (upd (mx.1 (10 + i)) 2 a) 3 b) 0 = 0) = decide ((mm.1 11) i = 0) ∧ (upd (upd (mx.1 (10 + i)) 2 a) 3 b) 1 = (mm.1 6) i ∧ (upd (upd (mx.1 (10 + i)) 2 a) 3 b) 2 = (upd (mm.1 7) i a) i ∧ (upd (upd (mx.1 (10 + i)) 2 a) 3 b) 3 = (upd (mm.1 8) i b) i ∧ (upd (upd (mx.1 (10 + i)) 2 a) 3 b) 4 = (mm.1 9) i ∧ (upd (upd (mx.1 (10 + i)) 2 a) 3 b) 5 = (mm.1 10) i ∧ inI ((upd (mm.1 7) i a) i) 0 24 = true ∧ inI ((upd (mm.1 8) i b) i) 0 24 = true ∧ inI ((mm.1 9) i) 0 200 = true ∧ inI ((mm.1 10) i) 0 20 = true
        repeat rw [pk_us]
        exact ⟨t1, t2, rfl, rfl, t5, t6, (Bool.and_eq_true _ _ ▸ ce).1, (Bool.and_eq_true _ _ ▸ ce).2, t9, t10⟩
      · rw [ex _ (by omega)]
        show decide (¬ mx.1 (10 + i) 0 = 0) = decide ((mm.1 11) i = 0) ∧ mx.1 (10 + i) 1 = (mm.1 6) i ∧ mx.1 (10 + i) 2 = (upd (mm.1 7) j a) i ∧ mx.1 (10 + i) 3 = (upd (mm.1 8) j b) i ∧ mx.1 (10 + i) 4 = (mm.1 9) i ∧ mx.1 (10 + i) 5 = (mm.1 10) i ∧ inI ((upd (mm.1 7) j a) i) 0 24 = true ∧ inI ((upd (mm.1 8) j b) i) 0 24 = true ∧ inI ((mm.1 9) i) 0 200 = true ∧ inI ((mm.1 10) i) 0 20 = true
        rw [pk_un q, pk_un q]
        exact ⟨t1, t2, t3, t4, t5, t6, t7, t8, t9, t10⟩
theorem pr_rope {mx mm : dx_M} (hR : RM mx mm) (l n : Int32) : PI 37 106 [.int l, .int n] mx mm := by
  obtain ⟨W, H, E, D, hR⟩ := hR
  obtain ⟨⟨b1, b2, b3, b4, b5, b6, b7⟩, ⟨x1, x2, x3, x4⟩, ⟨y1, y2, y3, y4⟩, ⟨s1, s2⟩, r5, r6, r7, r8, r9, r10, ⟨l1, l2, l3⟩, r12⟩ := id hR
  unfold PI
  refine sX3_rope mx b5 x3 l n (fun c => ⟨_, rfl, ?_⟩) (fun j hj ej ct ce => ⟨_, rfl, ?_⟩) (fun j hj ej ct ck ce => ⟨_, rfl, ?_⟩) (fun j hj ej ct ck ce => ⟨_, rfl, ?_⟩)
  · refine sX4_rope mm b5 y3 l n (fun _ => ⟨rfl, RMk hR⟩) (fun j hj ej ct ce => ?_) (fun j hj ej ct ck ce => ?_) (fun j hj ej ct ck ce => ?_) <;> (rw [ej, show nI E - 1 = nI (E - 1) from pk_sub (a := E) (b := 1) (by omega), in_le (by omega) (by omega), ce] at c; cases c)
  · subst ej
    rw [th_XM (r5 j hj).1] at ct
    refine sX4_rope mm b5 y3 _ n (fun c => ?_) (fun j2 hj2 ej2 ct2 ce2 => ?_) (fun j2 hj2 ej2 ct2 ck2 ce2 => ?_) (fun j2 hj2 ej2 ct2 ck2 ce2 => ?_)
    · rw [show nI E - 1 = nI (E - 1) from pk_sub (a := E) (b := 1) (by omega), in_le (by omega) (by omega), ce] at c; cases c
    · exact ⟨rfl, RMk (RR_fnd hR 1 (by omega))⟩
    · obtain rfl := nI_inj' (by omega) (by omega) ej2
      exact absurd (ct.symm.trans ct2) (by decide)
    · obtain rfl := nI_inj' (by omega) (by omega) ej2
      exact absurd (ct.symm.trans ct2) (by decide)
  · subst ej
    rw [th_XM (r5 j hj).1] at ct
    rw [(r5 j hj).2.1] at ck
    refine sX4_rope mm b5 y3 _ n (fun c => ?_) (fun j2 hj2 ej2 ct2 ce2 => ?_) (fun j2 hj2 ej2 ct2 ck2 ce2 => ?_) (fun j2 hj2 ej2 ct2 ck2 ce2 => ?_)
    · rw [show nI E - 1 = nI (E - 1) from pk_sub (a := E) (b := 1) (by omega), in_le (by omega) (by omega), ce] at c; cases c
    · obtain rfl := nI_inj' (by omega) (by omega) ej2
      exact absurd (ct.symm.trans ct2) (by decide)
    · exact ⟨rfl, RMk (RR_fnd hR 3 (by omega))⟩
    · obtain rfl := nI_inj' (by omega) (by omega) ej2
      first | exact absurd ck ck2 | exact absurd ck2 ck
  · subst ej
    rw [th_XM (r5 j hj).1] at ct
    rw [(r5 j hj).2.1] at ck
    refine sX4_rope mm b5 y3 _ n (fun c => ?_) (fun j2 hj2 ej2 ct2 ce2 => ?_) (fun j2 hj2 ej2 ct2 ck2 ce2 => ?_) (fun j2 hj2 ej2 ct2 ck2 ce2 => ?_)
    · rw [show nI E - 1 = nI (E - 1) from pk_sub (a := E) (b := 1) (by omega), in_le (by omega) (by omega), ce] at c; cases c
    · obtain rfl := nI_inj' (by omega) (by omega) ej2
      exact absurd (ct.symm.trans ct2) (by decide)
    · obtain rfl := nI_inj' (by omega) (by omega) ej2
      first | exact absurd ck ck2 | exact absurd ck2 ck
    · obtain rfl := nI_inj' (by omega) (by omega) ej2
      have ex : ∀ q, q ≠ 10 + j → (dx_pI mx (10 + j) 5 n).1 q = mx.1 q := fun q h2 => by rw [pI_i h2]
      have e1 : (dx_pI mx (10 + j) 5 n).1 (10 + j) = upd (mx.1 (10 + j)) 5 n := by rw [pI_s]
      refine ⟨by rw [(r5 j hj).2.2.2.2.2.1], W, H, E, D, ⟨b1, b2, b3, b4, b5, b6, b7⟩, ⟨by rw [ex 1 (by omega)]; exact x1, by rw [ex 1 (by omega)]; exact x2, by rw [ex 0 (by omega)]; exact x3, by rw [ex 0 (by omega)]; exact x4⟩, ⟨y1, y2, y3, y4⟩, ⟨by rw [ex 2 (by omega)]; exact s1, s2⟩, fun i hi => ?_, by rw [ex 8 (by omega)]; exact r6, C7_c r7 (fun i _ => ex _ (by omega)) rfl rfl, C8_c r8 (fun i _ => ex _ (by omega)), r9, by rw [ex 9 (by omega)]; exact r10, ⟨by rw [ex 0 (by omega)]; exact l1, l2, l3⟩, r12⟩
      obtain ⟨t1, t2, t3, t4, t5, t6, t7, t8, t9, t10⟩ := r5 i hi
      unfold thX thM at *
      by_cases q : i = j
      · subst q
        rw [e1]
        show decide (¬ (upd (mx.1 (10 + i)) 5 n) 0 = 0) = decide ((mm.1 11) i = 0) ∧ (upd (mx.1 (10 + i)) 5 n) 1 = (mm.1 6) i ∧ (upd (mx.1 (10 + i)) 5 n) 2 = (mm.1 7) i ∧ (upd (mx.1 (10 + i)) 5 n) 3 = (mm.1 8) i ∧ (upd (mx.1 (10 + i)) 5 n) 4 = (mm.1 9) i ∧ (upd (mx.1 (10 + i)) 5 n) 5 = (upd (mm.1 10) i n) i ∧ inI ((mm.1 7) i) 0 24 = true ∧ inI ((mm.1 8) i) 0 24 = true ∧ inI ((mm.1 9) i) 0 200 = true ∧ inI ((upd (mm.1 10) i n) i) 0 20 = true
        repeat rw [pk_us]
        exact ⟨t1, t2, t3, t4, t5, rfl, t7, t8, t9, ce⟩
      · rw [ex _ (by omega)]
        show decide (¬ mx.1 (10 + i) 0 = 0) = decide ((mm.1 11) i = 0) ∧ mx.1 (10 + i) 1 = (mm.1 6) i ∧ mx.1 (10 + i) 2 = (mm.1 7) i ∧ mx.1 (10 + i) 3 = (mm.1 8) i ∧ mx.1 (10 + i) 4 = (mm.1 9) i ∧ mx.1 (10 + i) 5 = (upd (mm.1 10) j n) i ∧ inI ((mm.1 7) i) 0 24 = true ∧ inI ((mm.1 8) i) 0 24 = true ∧ inI ((mm.1 9) i) 0 200 = true ∧ inI ((upd (mm.1 10) j n) i) 0 20 = true
        rw [pk_un q]
        exact ⟨t1, t2, t3, t4, t5, t6, t7, t8, t9, t10⟩
theorem pr_drop {mx mm : dx_M} (hR : RM mx mm) (l : Int32) : PI 38 107 [.int l] mx mm := by
  obtain ⟨W, H, E, D, hR⟩ := hR
  obtain ⟨⟨b1, b2, b3, b4, b5, b6, b7⟩, ⟨x1, x2, x3, x4⟩, ⟨y1, y2, y3, y4⟩, ⟨s1, s2⟩, r5, r6, r7, r8, r9, r10, ⟨l1, l2, l3⟩, r12⟩ := id hR
  unfold PI
  refine sX3_drop mx b5 x3 l (fun c => ⟨_, rfl, ?_⟩) (fun j hj ej ct => ⟨_, rfl, ?_⟩) (fun j hj ej ct => ⟨_, rfl, ?_⟩)
  · refine sX4_drop mm b5 y3 l (fun _ => ⟨rfl, RMk hR⟩) (fun j hj ej ct => ?_) (fun j hj ej ct => ?_) <;> (rw [ej, show nI E - 1 = nI (E - 1) from pk_sub (a := E) (b := 1) (by omega), in_le (by omega) (by omega)] at c; cases c)
  · subst ej
    rw [th_XM (r5 j hj).1] at ct
    refine sX4_drop mm b5 y3 _  (fun c => ?_) (fun j2 hj2 ej2 ct2 => ?_) (fun j2 hj2 ej2 ct2 => ?_)
    · rw [show nI E - 1 = nI (E - 1) from pk_sub (a := E) (b := 1) (by omega), in_le (by omega) (by omega)] at c; cases c
    · exact ⟨rfl, RMk (RR_fnd hR 1 (by omega))⟩
    · obtain rfl := nI_inj' (by omega) (by omega) ej2
      exact absurd (ct.symm.trans ct2) (by decide)
  · subst ej
    rw [th_XM (r5 j hj).1] at ct
    refine sX4_drop mm b5 y3 _  (fun c => ?_) (fun j2 hj2 ej2 ct2 => ?_) (fun j2 hj2 ej2 ct2 => ?_)
    · rw [show nI E - 1 = nI (E - 1) from pk_sub (a := E) (b := 1) (by omega), in_le (by omega) (by omega)] at c; cases c
    · obtain rfl := nI_inj' (by omega) (by omega) ej2
      exact absurd (ct.symm.trans ct2) (by decide)
    · obtain rfl := nI_inj' (by omega) (by omega) ej2
      have ex : ∀ q, q ≠ 10 + j → (dx_pI mx (10 + j) 0 0).1 q = mx.1 q := fun q h2 => by rw [pI_i h2]
      have e1 : (dx_pI mx (10 + j) 0 0).1 (10 + j) = upd (mx.1 (10 + j)) 0 0 := by rw [pI_s]
      refine ⟨rfl, W, H, E, D, ⟨b1, b2, b3, b4, b5, b6, b7⟩, ⟨by rw [ex 1 (by omega)]; exact x1, by rw [ex 1 (by omega)]; exact x2, by rw [ex 0 (by omega)]; exact x3, by rw [ex 0 (by omega)]; exact x4⟩, ⟨y1, y2, y3, y4⟩, ⟨by rw [ex 2 (by omega)]; exact s1, s2⟩, fun i hi => ?_, by rw [ex 8 (by omega)]; exact r6, C7_c r7 (fun i _ => ex _ (by omega)) rfl rfl, C8_c r8 (fun i _ => ex _ (by omega)), r9, by rw [ex 9 (by omega)]; exact r10, ⟨by rw [ex 0 (by omega)]; exact l1, l2, l3⟩, r12⟩
      obtain ⟨t1, t2, t3, t4, t5, t6, t7, t8, t9, t10⟩ := r5 i hi
      unfold thX thM at *
      by_cases q : i = j
      · subst q
        rw [e1]
        show decide (¬ (upd (mx.1 (10 + i)) 0 0) 0 = 0) = decide ((upd (mm.1 11) i 1) i = 0) ∧ (upd (mx.1 (10 + i)) 0 0) 1 = (mm.1 6) i ∧ (upd (mx.1 (10 + i)) 0 0) 2 = (mm.1 7) i ∧ (upd (mx.1 (10 + i)) 0 0) 3 = (mm.1 8) i ∧ (upd (mx.1 (10 + i)) 0 0) 4 = (mm.1 9) i ∧ (upd (mx.1 (10 + i)) 0 0) 5 = (mm.1 10) i ∧ inI ((mm.1 7) i) 0 24 = true ∧ inI ((mm.1 8) i) 0 24 = true ∧ inI ((mm.1 9) i) 0 200 = true ∧ inI ((mm.1 10) i) 0 20 = true
        repeat rw [pk_us]
        exact ⟨by decide, t2, t3, t4, t5, t6, t7, t8, t9, t10⟩
      · rw [ex _ (by omega)]
        show decide (¬ mx.1 (10 + i) 0 = 0) = decide ((upd (mm.1 11) j 1) i = 0) ∧ mx.1 (10 + i) 1 = (mm.1 6) i ∧ mx.1 (10 + i) 2 = (mm.1 7) i ∧ mx.1 (10 + i) 3 = (mm.1 8) i ∧ mx.1 (10 + i) 4 = (mm.1 9) i ∧ mx.1 (10 + i) 5 = (mm.1 10) i ∧ inI ((mm.1 7) i) 0 24 = true ∧ inI ((mm.1 8) i) 0 24 = true ∧ inI ((mm.1 9) i) 0 200 = true ∧ inI ((mm.1 10) i) 0 20 = true
        rw [pk_un q]
        exact ⟨t1, t2, t3, t4, t5, t6, t7, t8, t9, t10⟩
theorem pr_told {mx mm : dx_M} (hR : RM mx mm) (l w : Int32) : PI 39 109 [.int l, .int w] mx mm := by
  obtain ⟨W, H, E, D, hR⟩ := hR
  obtain ⟨⟨b1, b2, b3, b4, b5, b6, b7⟩, ⟨x1, x2, x3, x4⟩, ⟨y1, y2, y3, y4⟩, ⟨s1, s2⟩, r5, r6, r7, r8, r9, r10, ⟨l1, l2, l3⟩, r12⟩ := id hR
  unfold PI
  refine sX3_told mx b5 x3 l w (fun c => ⟨_, rfl, ?_⟩) (fun j hj ej ct ce => ⟨_, rfl, ?_⟩) (fun j hj ej ct ce => ⟨_, rfl, ?_⟩)
  · refine sX4_told mm b5 y3 l w (fun _ => ⟨rfl, RMk hR⟩) (fun j hj ej ct ce => ?_) (fun j hj ej ct ce => ?_) <;> (rw [ej, show nI E - 1 = nI (E - 1) from pk_sub (a := E) (b := 1) (by omega), in_le (by omega) (by omega), ce] at c; cases c)
  · subst ej
    rw [th_XM (r5 j hj).1] at ct
    refine sX4_told mm b5 y3 _ w (fun c => ?_) (fun j2 hj2 ej2 ct2 ce2 => ?_) (fun j2 hj2 ej2 ct2 ce2 => ?_)
    · rw [show nI E - 1 = nI (E - 1) from pk_sub (a := E) (b := 1) (by omega), in_le (by omega) (by omega), ce] at c; cases c
    · exact ⟨rfl, RMk (RR_fnd hR 1 (by omega))⟩
    · obtain rfl := nI_inj' (by omega) (by omega) ej2
      exact absurd (ct.symm.trans ct2) (by decide)
  · subst ej
    rw [th_XM (r5 j hj).1] at ct
    refine sX4_told mm b5 y3 _ w (fun c => ?_) (fun j2 hj2 ej2 ct2 ce2 => ?_) (fun j2 hj2 ej2 ct2 ce2 => ?_)
    · rw [show nI E - 1 = nI (E - 1) from pk_sub (a := E) (b := 1) (by omega), in_le (by omega) (by omega), ce] at c; cases c
    · obtain rfl := nI_inj' (by omega) (by omega) ej2
      exact absurd (ct.symm.trans ct2) (by decide)
    · obtain rfl := nI_inj' (by omega) (by omega) ej2
      obtain ⟨t1, t2, t3, t4, t5, t6, -⟩ := r5 j hj
      refine ⟨?_, RMk hR⟩
      unfold factX factM
      rw [t2, t3, t4, t5, t6]
theorem pr_is {mx mm : dx_M} (hR : RM mx mm) (l k : Int32) : PI 40 110 [.int l, .int k] mx mm := by
  obtain ⟨W, H, E, D, hR⟩ := hR
  obtain ⟨⟨b1, b2, b3, b4, b5, b6, b7⟩, ⟨x1, x2, x3, x4⟩, ⟨y1, y2, y3, y4⟩, ⟨s1, s2⟩, r5, r6, r7, r8, r9, r10, ⟨l1, l2, l3⟩, r12⟩ := id hR
  unfold PI
  refine sX3_is mx b5 x3 l k (fun c => ⟨_, rfl, ?_⟩) (fun j hj ej ct ce => ⟨_, rfl, ?_⟩) (fun j hj ej ct ce => ⟨_, rfl, ?_⟩)
  · refine sX4_is mm b5 y3 l k (fun _ => ⟨rfl, RMk hR⟩) (fun j hj ej ct ce => ?_) (fun j hj ej ct ce => ?_) <;> (rw [ej, show nI E - 1 = nI (E - 1) from pk_sub (a := E) (b := 1) (by omega), in_le (by omega) (by omega), ce] at c; cases c)
  · subst ej
    rw [th_XM (r5 j hj).1] at ct
    refine sX4_is mm b5 y3 _ k (fun c => ?_) (fun j2 hj2 ej2 ct2 ce2 => ?_) (fun j2 hj2 ej2 ct2 ce2 => ?_)
    · rw [show nI E - 1 = nI (E - 1) from pk_sub (a := E) (b := 1) (by omega), in_le (by omega) (by omega), ce] at c; cases c
    · exact ⟨rfl, RMk (RR_fnd hR 1 (by omega))⟩
    · obtain rfl := nI_inj' (by omega) (by omega) ej2
      exact absurd (ct.symm.trans ct2) (by decide)
  · subst ej
    rw [th_XM (r5 j hj).1] at ct
    refine sX4_is mm b5 y3 _ k (fun c => ?_) (fun j2 hj2 ej2 ct2 ce2 => ?_) (fun j2 hj2 ej2 ct2 ce2 => ?_)
    · rw [show nI E - 1 = nI (E - 1) from pk_sub (a := E) (b := 1) (by omega), in_le (by omega) (by omega), ce] at c; cases c
    · obtain rfl := nI_inj' (by omega) (by omega) ej2
      exact absurd (ct.symm.trans ct2) (by decide)
    · obtain rfl := nI_inj' (by omega) (by omega) ej2
      exact ⟨by rw [(r5 j hj).2.1], RMk hR⟩
theorem pr_all {mx mm : dx_M} (hR : RM mx mm) : PI 41 113 [] mx mm := by
  obtain ⟨W, H, E, D, hR⟩ := hR
  obtain ⟨⟨b1, b2, b3, b4, b5, b6, b7⟩, ⟨x1, x2, x3, x4⟩, ⟨y1, y2, y3, y4⟩, ⟨s1, s2⟩, r5, r6, r7, r8, r9, r10, ⟨l1, l2, l3⟩, r12⟩ := id hR
  unfold PI
  refine sX3_all mx b5 x3 ⟨_, rfl, ?_⟩
  exact sX4_all mm b5 y3 ⟨by rw [(RR_all hR).1], RMk hR⟩
theorem pr_mean {mx mm : dx_M} (hR : RM mx mm) : PI 42 114 [] mx mm := by
  obtain ⟨W, H, E, D, hR⟩ := hR
  obtain ⟨⟨b1, b2, b3, b4, b5, b6, b7⟩, ⟨x1, x2, x3, x4⟩, ⟨y1, y2, y3, y4⟩, ⟨s1, s2⟩, r5, r6, r7, r8, r9, r10, ⟨l1, l2, l3⟩, r12⟩ := id hR
  unfold PI
  refine sX3_mean mx (fun c => ⟨_, rfl, ?_⟩) (fun c => ⟨_, rfl, ?_⟩)
  · rw [s1] at c
    exact sX4_mean mm (fun _ => ⟨rfl, RMk (RR_fnd hR 4 (by omega))⟩) (fun c2 => absurd c c2)
  · rw [s1] at c
    exact sX4_mean mm (fun c2 => absurd c2 c) (fun _ => ⟨by rw [s1], RMk hR⟩)
theorem pr_upper {mx mm : dx_M} (hR : RM mx mm) : PL 55 88 [] mx mm := by
  obtain ⟨W, H, E, D, hR⟩ := hR
  obtain ⟨⟨b1, b2, b3, b4, b5, b6, b7⟩, ⟨x1, x2, x3, x4⟩, ⟨y1, y2, y3, y4⟩, ⟨s1, s2⟩, r5, r6, r7, r8, r9, r10, ⟨l1, l2, l3⟩, r12⟩ := id hR
  unfold PL
  refine sX3_upper mx ⟨_, rfl, ?_⟩
  exact sX4_upper mm ⟨by rw [l2], RMk hR⟩
theorem pr_lower {mx mm : dx_M} (hR : RM mx mm) : PL 56 89 [] mx mm := by
  obtain ⟨W, H, E, D, hR⟩ := hR
  obtain ⟨⟨b1, b2, b3, b4, b5, b6, b7⟩, ⟨x1, x2, x3, x4⟩, ⟨y1, y2, y3, y4⟩, ⟨s1, s2⟩, r5, r6, r7, r8, r9, r10, ⟨l1, l2, l3⟩, r12⟩ := id hR
  unfold PL
  refine sX3_lower mx ⟨_, rfl, ?_⟩
  exact sX4_lower mm ⟨by rw [l3], RMk hR⟩
theorem pr_count {mx mm : dx_M} (hR : RM mx mm) (w : Int32) : PI 57 141 [.int w] mx mm := by
  obtain ⟨W, H, E, D, hR⟩ := hR
  obtain ⟨⟨b1, b2, b3, b4, b5, b6, b7⟩, ⟨x1, x2, x3, x4⟩, ⟨y1, y2, y3, y4⟩, ⟨s1, s2⟩, r5, r6, r7, r8, r9, r10, ⟨l1, l2, l3⟩, r12⟩ := id hR
  unfold PI
  refine sX3_count mx b5 x3 w ⟨_, rfl, ?_⟩
  exact sX4_count mm b5 y3 w ⟨by rw [(RR_all hR).2.2.2, s1, x1, x2, x3, y1, y2, y3], RMk hR⟩
theorem pr_finding {mx mm : dx_M} (hR : RM mx mm) : PI 58 84 [] mx mm := by
  obtain ⟨W, H, E, D, hR⟩ := hR
  obtain ⟨⟨b1, b2, b3, b4, b5, b6, b7⟩, ⟨x1, x2, x3, x4⟩, ⟨y1, y2, y3, y4⟩, ⟨s1, s2⟩, r5, r6, r7, r8, r9, r10, ⟨l1, l2, l3⟩, r12⟩ := id hR
  unfold PI
  refine sX3_finding mx ⟨_, rfl, ?_⟩
  exact sX4_finding mm ⟨by rw [l1], RMk hR⟩
theorem pr_findings {mx mm : dx_M} (hR : RM mx mm) (f : Int32) : PI 59 85 [.int f] mx mm := by
  obtain ⟨W, H, E, D, hR⟩ := hR
  obtain ⟨⟨b1, b2, b3, b4, b5, b6, b7⟩, ⟨x1, x2, x3, x4⟩, ⟨y1, y2, y3, y4⟩, ⟨s1, s2⟩, r5, r6, r7, r8, r9, r10, ⟨l1, l2, l3⟩, r12⟩ := id hR
  unfold PI
  refine sX3_findings mx f (fun c => ⟨_, rfl, ?_⟩) (fun j hj ej c => ⟨_, rfl, ?_⟩)
  · exact sX4_findings mm f (fun _ => ⟨rfl, RMk hR⟩) (fun j hj ej c2 => absurd (c.symm.trans c2) (by decide))
  · subst ej
    refine sX4_findings mm _ (fun c2 => absurd (c2.symm.trans c) (by decide)) (fun j2 hj2 ej2 c2 => ⟨?_, RMk hR⟩)
    obtain rfl := nI_inj' (by omega) (by omega) ej2
    rw [r10 j hj]
theorem pr_digest {mx mm : dx_M} (hR : RM mx mm) : PL 60 142 [] mx mm := by
  obtain ⟨W, H, E, D, hR⟩ := hR
  obtain ⟨⟨b1, b2, b3, b4, b5, b6, b7⟩, ⟨x1, x2, x3, x4⟩, ⟨y1, y2, y3, y4⟩, ⟨s1, s2⟩, r5, r6, r7, r8, r9, r10, ⟨l1, l2, l3⟩, r12⟩ := id hR
  have hz : ∀ a : Nat, a < 6 → szP (mx.1 8 a) := fun a ha => by rw [(r6 a ha).1]; exact (r6 a ha).2
  have hz2 : ∀ a : Nat, a < 6 → szP (mm.1 3 a) := fun a ha => (r6 a ha).2
  unfold PL
  refine sX3_digest mx b2 b4 x1 x2 b5 x3 hz ⟨_, rfl, ?_⟩
  refine sX4_digest mm b2 b4 y1 y2 b5 y3 hz2 ⟨?_, RMk hR⟩
  have eP : ∀ v, dg_P (fun y x => mx.1 2 (y * 12 + x)) W H v = dg_P (fun y x => mm.1 2 (12 * y + x)) W H v := fun v => by
    rw [s1]
    congr 1
    funext y x
    rw [Nat.mul_comm]
  have eL : ∀ v, dg_L (thX mx) (factX mx) E v = dg_L (thM mm) (factM mm) E v := fun v => by
    unfold dg_L
    refine nf_cong _ (fun i s hi => ?_)
    obtain ⟨t1, t2, t3, t4, t5, t6, -⟩ := r5 i hi
    rw [t1]
    have ef : factX mx i = factM mm i := funext fun w => by
      unfold factX factM
      rw [t2, t3, t4, t5, t6]
    rw [ef]
  have eS : ∀ v, dg_S (mx.1 8) (fun s i => mx.1 (20 + s) i) v = dg_S (mm.1 3) (fun s i => mm.1 4 (12 * s + i)) v := fun v => by
    unfold dg_S
    refine nf_cong _ (fun a s ha => ?_)
    show nf (fun i v => 31 * v + (mx.1 (20 + a) i).toInt64) (szN (mx.1 8 a)) (31 * s + (mx.1 8 a).toInt64) = nf (fun i v => 31 * v + (mm.1 4 (12 * a + i)).toInt64) (szN (mm.1 3 a)) (31 * s + (mm.1 3 a).toInt64)
    rw [(r6 a ha).1]
    refine nf_cong _ (fun i s hi => ?_)
    rcases (r6 a ha).2 with e | ⟨z, hz12, e⟩
    · rw [e] at hi
      have e0 : szN (-1) = 0 := rfl
      omega
    · rw [e] at hi
      unfold szN at hi
      rw [if_neg (fun q => m1_n hz12 q.symm), nI_clamp (by omega)] at hi
      rw [r7 a z i ha e hz12 hi]
  rw [eP, eL, eS, x1, x2, x4, y1, y2, y4]
  rfl
