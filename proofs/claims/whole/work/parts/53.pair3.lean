/-! both: how it lies (printed by wip/whole/g53.py) -/
theorem nI_k {a b : Nat} (ha : a ≤ 2000) (hb : b ≤ 2000) (h : nI a = nI b) : a = b := by
  have e := congrArg Int32.toInt h
  rw [nI_toInt (by omega), nI_toInt (by omega)] at e
  omega
theorem pr_floats {mx mm : dx_M} (hR : RM mx mm) (t : Int32) : PI 43 122 [.int t] mx mm := by
  obtain ⟨W, H, E, D, hR⟩ := hR
  obtain ⟨Wt, sq, wa, wu, hgx, hgm⟩ := RR_G hR
  unfold PI
  refine sX3_floats mx hgx t (fun mx' hk => ⟨_, rfl, ?_⟩)
  exact sX4_floats mm hgm t (fun mm' hk2 => ⟨rfl, RMk (RR_keep hR hk hk2)⟩)
theorem pr_draft {mx mm : dx_M} (hR : RM mx mm) (t : Int32) : PI 44 123 [.int t] mx mm := by
  obtain ⟨W, H, E, D, hR⟩ := hR
  obtain ⟨Wt, sq, wa, wu, hgx, hgm⟩ := RR_G hR
  unfold PI
  refine sX3_draft mx hgx t (fun mx' hn hk => ⟨_, rfl, ?_⟩) (fun tn r mx' htn et er hW hrf hk => ⟨_, rfl, ?_⟩)
  · exact sX4_draft mm hgm t (fun mm' _ hk2 => ⟨rfl, RMk (RR_keep hR hk hk2)⟩) (fun tn r mm' _ _ er _ _ _ => absurd er (by omega))
  · subst et
    refine sX4_draft mm hgm _ (fun mm' hn _ => absurd hn (by omega)) (fun tn2 r2 mm' htn2 et2 er2 _ _ hk2 => ?_)
    obtain rfl := nI_inj' (by omega) (by omega) et2
    obtain rfl : r = r2 := by omega
    exact ⟨rfl, RMk (RR_told (RR_keep hR hk hk2) _ _)⟩
theorem pr_above {mx mm : dx_M} (hR : RM mx mm) (t : Int32) : PI 45 124 [.int t] mx mm := by
  obtain ⟨W, H, E, D, hR⟩ := hR
  obtain ⟨Wt, sq, wa, wu, hgx, hgm⟩ := RR_G hR
  unfold PI
  refine sX3_above mx hgx t (fun mx' hn hk => ⟨_, rfl, ?_⟩) (fun tn r mx' htn et er hW hrf hk => ⟨_, rfl, ?_⟩)
  · exact sX4_above mm hgm t (fun mm' _ hk2 => ⟨rfl, RMk (RR_keep hR hk hk2)⟩) (fun tn r mm' _ _ er _ _ _ => absurd er (by omega))
  · subst et
    refine sX4_above mm hgm _ (fun mm' hn _ => absurd hn (by omega)) (fun tn2 r2 mm' htn2 et2 er2 _ _ hk2 => ?_)
    obtain rfl := nI_inj' (by omega) (by omega) et2
    obtain rfl : r = r2 := by omega
    exact ⟨rfl, RMk (RR_told (RR_keep hR hk hk2) _ _)⟩
theorem pr_leans {mx mm : dx_M} (hR : RM mx mm) (t : Int32) : PI 48 130 [.int t] mx mm := by
  obtain ⟨W, H, E, D, hR⟩ := hR
  obtain ⟨Wt, sq, wa, wu, hgx, hgm⟩ := RR_G hR
  unfold PI
  refine sX3_leans mx hgx t (fun mx' hn hk => ⟨_, rfl, ?_⟩) (fun tn r mx' htn et er hW hrf hk => ⟨_, rfl, ?_⟩)
  · exact sX4_leans mm hgm t (fun mm' _ hk2 => ⟨rfl, RMk (RR_keep hR hk hk2)⟩) (fun tn r mm' _ _ er _ _ _ => absurd er (by omega))
  · subst et
    refine sX4_leans mm hgm _ (fun mm' hn _ => absurd hn (by omega)) (fun tn2 r2 mm' htn2 et2 er2 _ _ hk2 => ?_)
    obtain rfl := nI_inj' (by omega) (by omega) et2
    obtain rfl : r = r2 := by omega
    exact ⟨rfl, RMk (RR_keep hR hk hk2)⟩
theorem pr_holds {mx mm : dx_M} (hR : RM mx mm) (t : Int32) : PI 50 135 [.int t] mx mm := by
  obtain ⟨W, H, E, D, hR⟩ := hR
  obtain ⟨Wt, sq, wa, wu, hgx, hgm⟩ := RR_G hR
  unfold PI
  refine sX3_holds mx hgx t (fun mx' hn hk => ⟨_, rfl, ?_⟩) (fun tn r mx' htn et er hW hrf hk => ⟨_, rfl, ?_⟩)
  · exact sX4_holds mm hgm t (fun mm' _ hk2 => ⟨rfl, RMk (RR_keep hR hk hk2)⟩) (fun tn r mm' _ _ er _ _ _ => absurd er (by omega))
  · subst et
    refine sX4_holds mm hgm _ (fun mm' hn _ => absurd hn (by omega)) (fun tn2 r2 mm' htn2 et2 er2 _ _ hk2 => ?_)
    obtain rfl := nI_inj' (by omega) (by omega) et2
    obtain rfl : r = r2 := by omega
    exact ⟨rfl, RMk (RR_keep hR hk hk2)⟩
theorem pr_breadth {mx mm : dx_M} (hR : RM mx mm) (t : Int32) : PI 49 133 [.int t] mx mm := by
  obtain ⟨W, H, E, D, hR⟩ := hR
  obtain ⟨Wt, sq, wa, wu, hgx, hgm⟩ := RR_G hR
  unfold PI
  refine sX3_breadth mx hgx t (fun mx' hn hk => ⟨_, rfl, ?_⟩) (fun tn r mx' htn et er hW hrf hk => ⟨_, rfl, ?_⟩)
  · exact sX4_breadth mm hgm t (fun mm' _ hk2 => ⟨rfl, RMk (RR_keep hR hk hk2)⟩) (fun tn r mm' _ _ er _ _ _ => absurd er (by omega))
  · subst et
    refine sX4_breadth mm hgm _ (fun mm' hn _ => absurd hn (by omega)) (fun tn2 r2 mm' htn2 et2 er2 _ _ hk2 => ?_)
    obtain rfl := nI_inj' (by omega) (by omega) et2
    obtain rfl : r = r2 := by omega
    exact ⟨rfl, RMk (RR_told (RR_keep hR hk hk2) _ _)⟩
theorem pr_middle {mx mm : dx_M} (hR : RM mx mm) (t what : Int32) : PI 46 127 [.int t, .int what] mx mm := by
  obtain ⟨W, H, E, D, hR⟩ := hR
  obtain ⟨Wt, sq, wa, wu, hgx, hgm⟩ := RR_G hR
  unfold PI
  refine sX3_middle mx hgx t what (fun c => ⟨_, rfl, ?_⟩) (fun mx' c hn hk => ⟨_, rfl, ?_⟩) (fun tn r mx' htn et hw er hW hrf hk => ⟨_, rfl, ?_⟩) (fun tn r mx' htn et hw er hW hrf hk => ⟨_, rfl, ?_⟩) (fun tn r mx' htn et hw er hW hrf hk => ⟨_, rfl, ?_⟩) (fun tn r mx' htn et c n0 n1 n2 er hW hrf hk => ⟨_, rfl, ?_⟩)
  · have hk := keepX_rf mx
    exact sX4_middle mm hgm t what (fun mm' c2 hk2 => ⟨rfl, RMk (RR_keep hR hk hk2)⟩) (fun mm' c2 hn2 hk2 => absurd (c.symm.trans c2) (by decide)) (fun tn2 r2 mm' htn2 et2 hw2 er2 _ _ hk2 => absurd c (by rw [hw2]; decide)) (fun tn2 r2 mm' htn2 et2 hw2 er2 _ _ hk2 => absurd c (by rw [hw2]; decide)) (fun tn2 r2 mm' htn2 et2 hw2 er2 _ _ hk2 => absurd c (by rw [hw2]; decide)) (fun tn2 r2 mm' htn2 et2 c2 n0' n1' n2' er2 _ _ hk2 => absurd (c.symm.trans c2) (by decide))
  · exact sX4_middle mm hgm t what (fun mm' c2 hk2 => absurd (c.symm.trans c2) (by decide)) (fun mm' c2 hn2 hk2 => ⟨rfl, RMk (RR_keep hR hk hk2)⟩) (fun tn2 r2 mm' htn2 et2 hw2 er2 _ _ hk2 => absurd er2 (by omega)) (fun tn2 r2 mm' htn2 et2 hw2 er2 _ _ hk2 => absurd er2 (by omega)) (fun tn2 r2 mm' htn2 et2 hw2 er2 _ _ hk2 => absurd er2 (by omega)) (fun tn2 r2 mm' htn2 et2 c2 n0' n1' n2' er2 _ _ hk2 => absurd er2 (by omega))
  · subst et; subst hw
    refine sX4_middle mm hgm _ _ (fun mm' c2 hk2 => absurd c2 (by decide)) (fun mm' c2 hn2 hk2 => absurd hn2 (by omega)) (fun tn2 r2 mm' htn2 et2 hw2 er2 _ _ hk2 => ?_) (fun tn2 r2 mm' htn2 et2 hw2 er2 _ _ hk2 => absurd hw2 (by decide)) (fun tn2 r2 mm' htn2 et2 hw2 er2 _ _ hk2 => absurd hw2 (by decide)) (fun tn2 r2 mm' htn2 et2 c2 n0' n1' n2' er2 _ _ hk2 => absurd rfl n0')
    obtain rfl := nI_inj' (by omega) (by omega) et2
    obtain rfl : r = r2 := by omega
    exact ⟨rfl, RMk (RR_told (RR_keep hR hk hk2) _ _)⟩
  · subst et; subst hw
    refine sX4_middle mm hgm _ _ (fun mm' c2 hk2 => absurd c2 (by decide)) (fun mm' c2 hn2 hk2 => absurd hn2 (by omega)) (fun tn2 r2 mm' htn2 et2 hw2 er2 _ _ hk2 => absurd hw2 (by decide)) (fun tn2 r2 mm' htn2 et2 hw2 er2 _ _ hk2 => ?_) (fun tn2 r2 mm' htn2 et2 hw2 er2 _ _ hk2 => absurd hw2 (by decide)) (fun tn2 r2 mm' htn2 et2 c2 n0' n1' n2' er2 _ _ hk2 => absurd rfl n1')
    obtain rfl := nI_inj' (by omega) (by omega) et2
    obtain rfl : r = r2 := by omega
    exact ⟨rfl, RMk (RR_told (RR_keep hR hk hk2) _ _)⟩
  · subst et; subst hw
    refine sX4_middle mm hgm _ _ (fun mm' c2 hk2 => absurd c2 (by decide)) (fun mm' c2 hn2 hk2 => absurd hn2 (by omega)) (fun tn2 r2 mm' htn2 et2 hw2 er2 _ _ hk2 => absurd hw2 (by decide)) (fun tn2 r2 mm' htn2 et2 hw2 er2 _ _ hk2 => absurd hw2 (by decide)) (fun tn2 r2 mm' htn2 et2 hw2 er2 _ _ hk2 => ?_) (fun tn2 r2 mm' htn2 et2 c2 n0' n1' n2' er2 _ _ hk2 => absurd rfl n2')
    obtain rfl := nI_inj' (by omega) (by omega) et2
    obtain rfl : r = r2 := by omega
    exact ⟨rfl, RMk (RR_told (RR_keep hR hk hk2) _ _)⟩
  · subst et
    refine sX4_middle mm hgm _ what (fun mm' c2 hk2 => absurd (c.symm.trans c2) (by decide)) (fun mm' c2 hn2 hk2 => absurd hn2 (by omega)) (fun tn2 r2 mm' htn2 et2 hw2 er2 _ _ hk2 => absurd hw2 n0) (fun tn2 r2 mm' htn2 et2 hw2 er2 _ _ hk2 => absurd hw2 n1) (fun tn2 r2 mm' htn2 et2 hw2 er2 _ _ hk2 => absurd hw2 n2) (fun tn2 r2 mm' htn2 et2 c2 n0' n1' n2' er2 _ _ hk2 => ?_)
    obtain rfl := nI_inj' (by omega) (by omega) et2
    obtain rfl : r = r2 := by omega
    exact ⟨rfl, RMk (RR_told (RR_keep hR hk hk2) _ _)⟩
theorem pr_carries {mx mm : dx_M} (hR : RM mx mm) (t : Int32) : PI 52 138 [.int t] mx mm := by
  obtain ⟨W, H, E, D, hR⟩ := hR
  obtain ⟨Wt, sq, wa, wu, hgx, hgm⟩ := RR_G hR
  unfold PI
  refine sX3_carries mx hgx t (fun c => ⟨_, rfl, ?_⟩) (fun c hs => ⟨_, rfl, ?_⟩) (fun tn mx' htn et hs hk => ⟨_, rfl, ?_⟩)
  · exact sX4_carries mm hgm t (fun _ => ⟨rfl, RMk hR⟩) (fun c2 _ => absurd (c.symm.trans c2) (by decide)) (fun tn mm' htn et _ _ => absurd c (by rw [et, in_03 htn]; decide))
  · exact sX4_carries mm hgm t (fun c2 => absurd (c2.symm.trans c) (by decide)) (fun _ _ => ⟨rfl, RMk hR⟩) (fun tn mm' htn et hs2 _ => absurd hs hs2)
  · subst et
    refine sX4_carries mm hgm _ (fun c2 => absurd c2 (by rw [in_03 htn]; decide)) (fun _ hs2 => absurd hs2 hs) (fun tn2 mm' htn2 et2 _ hk2 => ?_)
    obtain rfl := nI_inj' (by omega) (by omega) et2
    exact ⟨rfl, RMk (RR_keep hR hk hk2)⟩
theorem pr_trim {mx mm : dx_M} (hR : RM mx mm) (t k : Int32) : PI 53 139 [.int t, .int k] mx mm := by
  obtain ⟨W, H, E, D, hR⟩ := hR
  obtain ⟨Wt, sq, wa, wu, hgx, hgm⟩ := RR_G hR
  unfold PI
  refine sX3_trim mx hgx t k (fun c => ⟨_, rfl, ?_⟩) (fun c hs => ⟨_, rfl, ?_⟩) (fun tn kn mx' htn et ek k1 k2 hs hno hk => ⟨_, rfl, ?_⟩) (fun tn kn r mx' htn et ek k1 k2 hs hrf hk => ⟨_, rfl, ?_⟩)
  · refine sX4_trim mm hgm t k (fun _ => ⟨rfl, RMk hR⟩) (fun c2 _ => absurd (c.symm.trans c2) (by decide)) (fun tn kn mm' htn et ek k1 k2 _ _ _ => ?_) (fun tn kn r mm' htn et ek k1 k2 _ _ _ => ?_) <;> (rw [et, ek, in_03 htn, show inI (nI kn) 1 2000 = true from inI_t.mpr ⟨nI_le (a := 1) (by omega) (by omega), nI_le (b := 2000) (by omega) (by decide)⟩] at c; cases c)
  · exact sX4_trim mm hgm t k (fun c2 => absurd (c2.symm.trans c) (by decide)) (fun _ _ => ⟨rfl, RMk hR⟩) (fun tn kn mm' htn et ek k1 k2 hs2 _ _ => absurd hs hs2) (fun tn kn r mm' htn et ek k1 k2 hs2 _ _ => absurd hs hs2)
  · subst et; subst ek
    have cg : (inI (nI tn) 0 3 && inI (nI kn) 1 2000) = true := by rw [in_03 htn, show inI (nI kn) 1 2000 = true from inI_t.mpr ⟨nI_le (a := 1) (by omega) (by omega), nI_le (b := 2000) (by omega) (by decide)⟩]; rfl
    refine sX4_trim mm hgm _ _ (fun c2 => absurd (c2.symm.trans cg) (by decide)) (fun _ hs2 => absurd hs2 hs) (fun tn2 kn2 mm' htn2 et2 ek2 _ _ _ _ hk2 => ⟨rfl, RMk (RR_keep hR hk hk2)⟩) (fun tn2 kn2 r mm' htn2 et2 ek2 k12 k22 _ hrf _ => ?_)
    obtain rfl := nI_inj' (by omega) (by omega) et2
    obtain rfl := nI_k k2 k22 ek2
    exact absurd hrf.2.1 (hno r hrf.1)
  · subst et; subst ek
    have cg : (inI (nI tn) 0 3 && inI (nI kn) 1 2000) = true := by rw [in_03 htn, show inI (nI kn) 1 2000 = true from inI_t.mpr ⟨nI_le (a := 1) (by omega) (by omega), nI_le (b := 2000) (by omega) (by decide)⟩]; rfl
    refine sX4_trim mm hgm _ _ (fun c2 => absurd (c2.symm.trans cg) (by decide)) (fun _ hs2 => absurd hs2 hs) (fun tn2 kn2 mm' htn2 et2 ek2 k12 k22 _ hno hk2 => ?_) (fun tn2 kn2 r2 mm' htn2 et2 ek2 k12 k22 _ hrf2 hk2 => ?_)
    · obtain rfl := nI_inj' (by omega) (by omega) et2
      obtain rfl := nI_k k2 k22 ek2
      exact absurd hrf.2.1 (hno r hrf.1)
    · obtain rfl := nI_inj' (by omega) (by omega) et2
      obtain rfl := nI_k k2 k22 ek2
      have e := (rowO_r hrf).symm.trans (rowO_r hrf2)
      obtain rfl : r = r2 := by omega
      exact ⟨rfl, RMk (RR_told (RR_keep hR hk hk2) _ _)⟩
theorem pr_place {mx mm : dx_M} (hR : RM mx mm) (t x y : Int32) : PI 47 128 [.int t, .int x, .int y] mx mm := by
  obtain ⟨W, H, E, D, hR⟩ := hR
  obtain ⟨Wt, sq, wa, wu, hgx, hgm⟩ := RR_G hR
  unfold PI
  refine sX3_place mx hgx t x y (fun c => ⟨_, rfl, ?_⟩) (fun mx' c hn hk => ⟨_, rfl, ?_⟩) (fun tn xn yn r mx' htn et ex ey hx hy c er hk => ⟨_, rfl, ?_⟩)
  · have hk := keepX_rf mx
    exact sX4_place mm hgm t x y (fun mm' _ hk2 => ⟨rfl, RMk (RR_keep hR hk hk2)⟩) (fun mm' c2 _ _ => absurd (c.symm.trans c2) (by decide)) (fun tn xn yn r mm' _ _ _ _ _ _ c2 _ _ => absurd (c.symm.trans c2) (by decide))
  · exact sX4_place mm hgm t x y (fun mm' c2 _ => absurd (c2.symm.trans c) (by decide)) (fun mm' _ _ hk2 => ⟨rfl, RMk (RR_keep hR hk hk2)⟩) (fun tn xn yn r mm' _ _ _ _ _ _ _ er _ => absurd er (by omega))
  · subst et; subst ex; subst ey
    have hgb := hgx
    obtain ⟨g1, g2, g3, g4, -⟩ := hgb
    have z1 := hw_le (t := tn) g2 g4
    have z2 := ht_le (t := tn) g2 g4
    refine sX4_place mm hgm _ _ _ (fun mm' c2 _ => absurd (c2.symm.trans c) (by decide)) (fun mm' _ hn _ => absurd hn (by omega)) (fun tn2 xn2 yn2 r2 mm' htn2 et2 ex2 ey2 hx2 hy2 _ er2 hk2 => ?_)
    obtain rfl := nI_inj' (by omega) (by omega) et2
    obtain rfl := nI_inj' (by omega) (by omega) ex2
    obtain rfl := nI_inj' (by omega) (by omega) ey2
    obtain rfl : r = r2 := by omega
    exact ⟨rfl, RMk (RR_keep hR hk hk2)⟩
theorem pr_room {mx mm : dx_M} (hR : RM mx mm) (t u l : Int32) : PI 54 140 [.int t, .int u, .int l] mx mm := by
  obtain ⟨W, H, E, D, hR⟩ := hR
  obtain ⟨Wt, sq, wa, wu, hgx, hgm⟩ := RR_G hR
  unfold PI
  refine sX3_room mx hgx t u l (fun c => ⟨_, rfl, ?_⟩) (fun c hu => ⟨_, rfl, ?_⟩) (fun tn un ln r mx' htn et eu el u1 u2 l1 l2 c er hr hk => ⟨_, rfl, ?_⟩)
  · exact sX4_room mm hgm t u l (fun _ => ⟨rfl, RMk hR⟩) (fun c2 _ => absurd (c.symm.trans c2) (by decide)) (fun tn un ln r mm' _ _ _ _ _ _ _ _ c2 _ _ _ => absurd (c.symm.trans c2) (by decide))
  · refine sX4_room mm hgm t u l (fun c2 => absurd (c2.symm.trans c) (by decide)) (fun _ _ => ⟨rfl, RMk (RR_told hR _ _)⟩) (fun tn un ln r mm' _ _ eu _ u1 u2 _ _ _ _ _ _ => ?_)
    exact absurd (nI_z (eu.symm.trans hu) (by omega)) (by omega)
  · subst et; subst eu; subst el
    refine sX4_room mm hgm _ _ _ (fun c2 => absurd (c2.symm.trans c) (by decide)) (fun _ hu => ?_) (fun tn2 un2 ln2 r2 mm' htn2 et2 eu2 el2 u12 u22 l12 l22 _ er2 _ hk2 => ?_)
    · exact absurd (nI_z hu (by omega)) (by omega)
    · obtain rfl := nI_inj' (by omega) (by omega) et2
      obtain rfl := nI_inj' (by omega) (by omega) eu2
      obtain rfl := nI_inj' (by omega) (by omega) el2
      obtain rfl : r = r2 := by rw [er, er2]
      exact ⟨rfl, RMk (RR_told (RR_keep hR hk hk2) _ _)⟩
theorem pr_rests {mx mm : dx_M} (hR : RM mx mm) : PI 51 136 [] mx mm := by
  obtain ⟨W, H, E, D, hR⟩ := hR
  obtain ⟨Wt, sq, wa, wu, hgx, hgm⟩ := RR_G hR
  unfold PI
  refine sX3_rests mx hgx (fun mx' hs hk => ⟨_, rfl, ?_⟩) (fun mx' hs hk => ⟨_, rfl, ?_⟩)
  · exact sX4_rests mm hgm (fun mm' _ hk2 => ⟨rfl, RMk (RR_keep hR hk hk2)⟩) (fun mm' hs2 _ => absurd hs hs2)
  · exact sX4_rests mm hgm (fun mm' hs2 _ => absurd hs2 hs) (fun mm' _ hk2 => ⟨rfl, RMk (RR_keep hR hk hk2)⟩)
