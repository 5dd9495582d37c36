/-! every row is what decode says (printed by wip/whole/check.py) -/
def dx_rowok (K : dx_K) (q : Nat × dx_I) : Bool := decide (decode K.1.2.1 q.1 = .ok (q.2.1, q.2.2.1)) && dx_rch K q.1 q.2
theorem dx_rows_ok {K : dx_K} (h : K.2.1.all (dx_rowok K) = true) : ∀ (pc : Nat) (r : dx_I), dx_look K.2.1 pc = some r → decode K.1.2.1 pc = .ok (r.1, r.2.1) ∧ dx_rch K pc r = true := fun pc r hr => by
  refine dx_look_all (F := fun pc r => decode K.1.2.1 pc = .ok (r.1, r.2.1) ∧ dx_rch K pc r = true) (fun q hq => ?_) hr
  have h1 := List.all_eq_true.mp h q hq
  unfold dx_rowok at h1
  rw [Bool.and_eq_true] at h1
  exact ⟨of_decide_eq_true h1.1, h1.2⟩
set_option maxRecDepth 100000 in
theorem ko_X0_begin : dx_Kok dx_P km_X0_begin := ⟨by decide +kernel, by decide, dx_rows_ok (by decide +kernel), kw_X0⟩
set_option maxRecDepth 100000 in
theorem ko_X0_has : dx_Kok dx_P km_X0_has := ⟨by decide +kernel, by decide, dx_rows_ok (by decide +kernel), kw_X0⟩
set_option maxRecDepth 100000 in
theorem ko_X0_weightOf : dx_Kok dx_P km_X0_weightOf := ⟨by decide +kernel, by decide, dx_rows_ok (by decide +kernel), kw_X0⟩
set_option maxRecDepth 100000 in
theorem ko_X0_put : dx_Kok dx_P km_X0_put := ⟨by decide +kernel, by decide, dx_rows_ok (by decide +kernel), kw_X0⟩
set_option maxRecDepth 100000 in
theorem ko_X0_across : dx_Kok dx_P km_X0_across := ⟨by decide +kernel, by decide, dx_rows_ok (by decide +kernel), kw_X0⟩
set_option maxRecDepth 100000 in
theorem ko_X0_up : dx_Kok dx_P km_X0_up := ⟨by decide +kernel, by decide, dx_rows_ok (by decide +kernel), kw_X0⟩
set_option maxRecDepth 100000 in
theorem ko_X0_squares : dx_Kok dx_P km_X0_squares := ⟨by decide +kernel, by decide, dx_rows_ok (by decide +kernel), kw_X0⟩
set_option maxRecDepth 100000 in
theorem ko_X0_weight : dx_Kok dx_P km_X0_weight := ⟨by decide +kernel, by decide, dx_rows_ok (by decide +kernel), kw_X0⟩
set_option maxRecDepth 100000 in
theorem ko_X0_weightAcross : dx_Kok dx_P km_X0_weightAcross := ⟨by decide +kernel, by decide, dx_rows_ok (by decide +kernel), kw_X0⟩
set_option maxRecDepth 100000 in
theorem ko_X0_weightUp : dx_Kok dx_P km_X0_weightUp := ⟨by decide +kernel, by decide, dx_rows_ok (by decide +kernel), kw_X0⟩
set_option maxRecDepth 100000 in
theorem ko_X1_turnTo : dx_Kok dx_P km_X1_turnTo := ⟨by decide +kernel, by decide, dx_rows_ok (by decide +kernel), kw_X1⟩
set_option maxRecDepth 100000 in
theorem ko_X1_riseTo : dx_Kok dx_P km_X1_riseTo := ⟨by decide +kernel, by decide, dx_rows_ok (by decide +kernel), kw_X1⟩
set_option maxRecDepth 100000 in
theorem ko_X1_waysInto : dx_Kok dx_P km_X1_waysInto := ⟨by decide +kernel, by decide, dx_rows_ok (by decide +kernel), kw_X1⟩
set_option maxRecDepth 100000 in
theorem ko_X1_spread : dx_Kok dx_P km_X1_spread := ⟨by decide +kernel, by decide, dx_rows_ok (by decide +kernel), kw_X1⟩
set_option maxRecDepth 100000 in
theorem ko_X1_firm : dx_Kok dx_P km_X1_firm := ⟨by decide +kernel, by decide, dx_rows_ok (by decide +kernel), kw_X1⟩
set_option maxRecDepth 100000 in
theorem ko_X1_countFirm : dx_Kok dx_P km_X1_countFirm := ⟨by decide +kernel, by decide, dx_rows_ok (by decide +kernel), kw_X1⟩
set_option maxRecDepth 100000 in
theorem ko_X1_bears : dx_Kok dx_P km_X1_bears := ⟨by decide +kernel, by decide, dx_rows_ok (by decide +kernel), kw_X1⟩
set_option maxRecDepth 100000 in
theorem ko_X1_mostRoom : dx_Kok dx_P km_X1_mostRoom := ⟨by decide +kernel, by decide, dx_rows_ok (by decide +kernel), kw_X1⟩
set_option maxRecDepth 100000 in
theorem ko_X1_stateOf : dx_Kok dx_P km_X1_stateOf := ⟨by decide +kernel, by decide, dx_rows_ok (by decide +kernel), kw_X1⟩
set_option maxRecDepth 100000 in
theorem ko_X1_halves : dx_Kok dx_P km_X1_halves := ⟨by decide +kernel, by decide, dx_rows_ok (by decide +kernel), kw_X1⟩
set_option maxRecDepth 100000 in
theorem ko_X1_momentAcross : dx_Kok dx_P km_X1_momentAcross := ⟨by decide +kernel, by decide, dx_rows_ok (by decide +kernel), kw_X1⟩
set_option maxRecDepth 100000 in
theorem ko_X1_momentUp : dx_Kok dx_P km_X1_momentUp := ⟨by decide +kernel, by decide, dx_rows_ok (by decide +kernel), kw_X1⟩
set_option maxRecDepth 100000 in
theorem ko_X1_measureLine : dx_Kok dx_P km_X1_measureLine := ⟨by decide +kernel, by decide, dx_rows_ok (by decide +kernel), kw_X1⟩
set_option maxRecDepth 100000 in
theorem ko_X1_measureRow : dx_Kok dx_P km_X1_measureRow := ⟨by decide +kernel, by decide, dx_rows_ok (by decide +kernel), kw_X1⟩
set_option maxRecDepth 100000 in
theorem ko_X2_begin : dx_Kok dx_P km_X2_begin := ⟨by decide +kernel, by decide, dx_rows_ok (by decide +kernel), kw_X2⟩
set_option maxRecDepth 100000 in
theorem ko_X2_fact : dx_Kok dx_P km_X2_fact := ⟨by decide +kernel, by decide, dx_rows_ok (by decide +kernel), kw_X2⟩
set_option maxRecDepth 100000 in
theorem ko_X3_log : dx_Kok dx_P km_X3_log := ⟨by decide +kernel, by decide, dx_rows_ok (by decide +kernel), kw_X3⟩
set_option maxRecDepth 100000 in
theorem ko_X3_square : dx_Kok dx_P km_X3_square := ⟨by decide +kernel, by decide, dx_rows_ok (by decide +kernel), kw_X3⟩
set_option maxRecDepth 100000 in
theorem ko_X3_at : dx_Kok dx_P km_X3_at := ⟨by decide +kernel, by decide, dx_rows_ok (by decide +kernel), kw_X3⟩
set_option maxRecDepth 100000 in
theorem ko_X3_water : dx_Kok dx_P km_X3_water := ⟨by decide +kernel, by decide, dx_rows_ok (by decide +kernel), kw_X3⟩
set_option maxRecDepth 100000 in
theorem ko_X3_sheet : dx_Kok dx_P km_X3_sheet := ⟨by decide +kernel, by decide, dx_rows_ok (by decide +kernel), kw_X3⟩
set_option maxRecDepth 100000 in
theorem ko_X3_lay : dx_Kok dx_P km_X3_lay := ⟨by decide +kernel, by decide, dx_rows_ok (by decide +kernel), kw_X3⟩
set_option maxRecDepth 100000 in
theorem ko_X3_tear : dx_Kok dx_P km_X3_tear := ⟨by decide +kernel, by decide, dx_rows_ok (by decide +kernel), kw_X3⟩
set_option maxRecDepth 100000 in
theorem ko_X3_copy : dx_Kok dx_P km_X3_copy := ⟨by decide +kernel, by decide, dx_rows_ok (by decide +kernel), kw_X3⟩
set_option maxRecDepth 100000 in
theorem ko_X3_fill : dx_Kok dx_P km_X3_fill := ⟨by decide +kernel, by decide, dx_rows_ok (by decide +kernel), kw_X3⟩
set_option maxRecDepth 100000 in
theorem ko_X3_load : dx_Kok dx_P km_X3_load := ⟨by decide +kernel, by decide, dx_rows_ok (by decide +kernel), kw_X3⟩
set_option maxRecDepth 100000 in
theorem ko_X3_move : dx_Kok dx_P km_X3_move := ⟨by decide +kernel, by decide, dx_rows_ok (by decide +kernel), kw_X3⟩
set_option maxRecDepth 100000 in
theorem ko_X3_rope : dx_Kok dx_P km_X3_rope := ⟨by decide +kernel, by decide, dx_rows_ok (by decide +kernel), kw_X3⟩
set_option maxRecDepth 100000 in
theorem ko_X3_drop : dx_Kok dx_P km_X3_drop := ⟨by decide +kernel, by decide, dx_rows_ok (by decide +kernel), kw_X3⟩
set_option maxRecDepth 100000 in
theorem ko_X3_told : dx_Kok dx_P km_X3_told := ⟨by decide +kernel, by decide, dx_rows_ok (by decide +kernel), kw_X3⟩
set_option maxRecDepth 100000 in
theorem ko_X3_is : dx_Kok dx_P km_X3_is := ⟨by decide +kernel, by decide, dx_rows_ok (by decide +kernel), kw_X3⟩
set_option maxRecDepth 100000 in
theorem ko_X3_all : dx_Kok dx_P km_X3_all := ⟨by decide +kernel, by decide, dx_rows_ok (by decide +kernel), kw_X3⟩
set_option maxRecDepth 100000 in
theorem ko_X3_mean : dx_Kok dx_P km_X3_mean := ⟨by decide +kernel, by decide, dx_rows_ok (by decide +kernel), kw_X3⟩
set_option maxRecDepth 100000 in
theorem ko_X3_floats : dx_Kok dx_P km_X3_floats := ⟨by decide +kernel, by decide, dx_rows_ok (by decide +kernel), kw_X3⟩
set_option maxRecDepth 100000 in
theorem ko_X3_draft : dx_Kok dx_P km_X3_draft := ⟨by decide +kernel, by decide, dx_rows_ok (by decide +kernel), kw_X3⟩
set_option maxRecDepth 100000 in
theorem ko_X3_above : dx_Kok dx_P km_X3_above := ⟨by decide +kernel, by decide, dx_rows_ok (by decide +kernel), kw_X3⟩
set_option maxRecDepth 100000 in
theorem ko_X3_middle : dx_Kok dx_P km_X3_middle := ⟨by decide +kernel, by decide, dx_rows_ok (by decide +kernel), kw_X3⟩
set_option maxRecDepth 100000 in
theorem ko_X3_place : dx_Kok dx_P km_X3_place := ⟨by decide +kernel, by decide, dx_rows_ok (by decide +kernel), kw_X3⟩
set_option maxRecDepth 100000 in
theorem ko_X3_leans : dx_Kok dx_P km_X3_leans := ⟨by decide +kernel, by decide, dx_rows_ok (by decide +kernel), kw_X3⟩
set_option maxRecDepth 100000 in
theorem ko_X3_breadth : dx_Kok dx_P km_X3_breadth := ⟨by decide +kernel, by decide, dx_rows_ok (by decide +kernel), kw_X3⟩
set_option maxRecDepth 100000 in
theorem ko_X3_holds : dx_Kok dx_P km_X3_holds := ⟨by decide +kernel, by decide, dx_rows_ok (by decide +kernel), kw_X3⟩
set_option maxRecDepth 100000 in
theorem ko_X3_rests : dx_Kok dx_P km_X3_rests := ⟨by decide +kernel, by decide, dx_rows_ok (by decide +kernel), kw_X3⟩
set_option maxRecDepth 100000 in
theorem ko_X3_carries : dx_Kok dx_P km_X3_carries := ⟨by decide +kernel, by decide, dx_rows_ok (by decide +kernel), kw_X3⟩
set_option maxRecDepth 100000 in
theorem ko_X3_trim : dx_Kok dx_P km_X3_trim := ⟨by decide +kernel, by decide, dx_rows_ok (by decide +kernel), kw_X3⟩
set_option maxRecDepth 100000 in
theorem ko_X3_room : dx_Kok dx_P km_X3_room := ⟨by decide +kernel, by decide, dx_rows_ok (by decide +kernel), kw_X3⟩
set_option maxRecDepth 100000 in
theorem ko_X3_upper : dx_Kok dx_P km_X3_upper := ⟨by decide +kernel, by decide, dx_rows_ok (by decide +kernel), kw_X3⟩
set_option maxRecDepth 100000 in
theorem ko_X3_lower : dx_Kok dx_P km_X3_lower := ⟨by decide +kernel, by decide, dx_rows_ok (by decide +kernel), kw_X3⟩
set_option maxRecDepth 100000 in
theorem ko_X3_count : dx_Kok dx_P km_X3_count := ⟨by decide +kernel, by decide, dx_rows_ok (by decide +kernel), kw_X3⟩
set_option maxRecDepth 100000 in
theorem ko_X3_finding : dx_Kok dx_P km_X3_finding := ⟨by decide +kernel, by decide, dx_rows_ok (by decide +kernel), kw_X3⟩
set_option maxRecDepth 100000 in
theorem ko_X3_findings : dx_Kok dx_P km_X3_findings := ⟨by decide +kernel, by decide, dx_rows_ok (by decide +kernel), kw_X3⟩
set_option maxRecDepth 100000 in
theorem ko_X3_digest : dx_Kok dx_P km_X3_digest := ⟨by decide +kernel, by decide, dx_rows_ok (by decide +kernel), kw_X3⟩
set_option maxRecDepth 100000 in
theorem ko_X3_digestPlaces : dx_Kok dx_P km_X3_digestPlaces := ⟨by decide +kernel, by decide, dx_rows_ok (by decide +kernel), kw_X3⟩
set_option maxRecDepth 100000 in
theorem ko_X3_digestLoads : dx_Kok dx_P km_X3_digestLoads := ⟨by decide +kernel, by decide, dx_rows_ok (by decide +kernel), kw_X3⟩
set_option maxRecDepth 100000 in
theorem ko_X3_digestSheets : dx_Kok dx_P km_X3_digestSheets := ⟨by decide +kernel, by decide, dx_rows_ok (by decide +kernel), kw_X3⟩
set_option maxRecDepth 100000 in
theorem ko_X3_within : dx_Kok dx_P km_X3_within := ⟨by decide +kernel, by decide, dx_rows_ok (by decide +kernel), kw_X3⟩
set_option maxRecDepth 100000 in
theorem ko_X3_isTurn : dx_Kok dx_P km_X3_isTurn := ⟨by decide +kernel, by decide, dx_rows_ok (by decide +kernel), kw_X3⟩
set_option maxRecDepth 100000 in
theorem ko_X3_isSheet : dx_Kok dx_P km_X3_isSheet := ⟨by decide +kernel, by decide, dx_rows_ok (by decide +kernel), kw_X3⟩
set_option maxRecDepth 100000 in
theorem ko_X3_isPoint : dx_Kok dx_P km_X3_isPoint := ⟨by decide +kernel, by decide, dx_rows_ok (by decide +kernel), kw_X3⟩
set_option maxRecDepth 100000 in
theorem ko_X3_isLoad : dx_Kok dx_P km_X3_isLoad := ⟨by decide +kernel, by decide, dx_rows_ok (by decide +kernel), kw_X3⟩
set_option maxRecDepth 100000 in
theorem ko_X3_reaches : dx_Kok dx_P km_X3_reaches := ⟨by decide +kernel, by decide, dx_rows_ok (by decide +kernel), kw_X3⟩
set_option maxRecDepth 100000 in
theorem ko_X3_find : dx_Kok dx_P km_X3_find := ⟨by decide +kernel, by decide, dx_rows_ok (by decide +kernel), kw_X3⟩
set_option maxRecDepth 100000 in
theorem ko_X3_tell : dx_Kok dx_P km_X3_tell := ⟨by decide +kernel, by decide, dx_rows_ok (by decide +kernel), kw_X3⟩
set_option maxRecDepth 100000 in
theorem ko_X3_commonDivisor : dx_Kok dx_P km_X3_commonDivisor := ⟨by decide +kernel, by decide, dx_rows_ok (by decide +kernel), kw_X3⟩
set_option maxRecDepth 100000 in
theorem ko_X3_loadsThere : dx_Kok dx_P km_X3_loadsThere := ⟨by decide +kernel, by decide, dx_rows_ok (by decide +kernel), kw_X3⟩
set_option maxRecDepth 100000 in
theorem ko_X3_wholeWeight : dx_Kok dx_P km_X3_wholeWeight := ⟨by decide +kernel, by decide, dx_rows_ok (by decide +kernel), kw_X3⟩
set_option maxRecDepth 100000 in
theorem ko_X3_settle : dx_Kok dx_P km_X3_settle := ⟨by decide +kernel, by decide, dx_rows_ok (by decide +kernel), kw_X3⟩
set_option maxRecDepth 100000 in
theorem ko_X3_weightAcross : dx_Kok dx_P km_X3_weightAcross := ⟨by decide +kernel, by decide, dx_rows_ok (by decide +kernel), kw_X3⟩
set_option maxRecDepth 100000 in
theorem ko_X3_weightUp : dx_Kok dx_P km_X3_weightUp := ⟨by decide +kernel, by decide, dx_rows_ok (by decide +kernel), kw_X3⟩
set_option maxRecDepth 100000 in
theorem ko_X3_leaning : dx_Kok dx_P km_X3_leaning := ⟨by decide +kernel, by decide, dx_rows_ok (by decide +kernel), kw_X3⟩
set_option maxRecDepth 100000 in
theorem ko_X3_holding : dx_Kok dx_P km_X3_holding := ⟨by decide +kernel, by decide, dx_rows_ok (by decide +kernel), kw_X3⟩
set_option maxRecDepth 100000 in
theorem ko_X3_turnedAcross : dx_Kok dx_P km_X3_turnedAcross := ⟨by decide +kernel, by decide, dx_rows_ok (by decide +kernel), kw_X3⟩
set_option maxRecDepth 100000 in
theorem ko_X3_turnedUp : dx_Kok dx_P km_X3_turnedUp := ⟨by decide +kernel, by decide, dx_rows_ok (by decide +kernel), kw_X3⟩
set_option maxRecDepth 100000 in
theorem ko_X4_in : dx_Kok dx_P km_X4_in := ⟨by decide +kernel, by decide, dx_rows_ok (by decide +kernel), kw_X4⟩
set_option maxRecDepth 100000 in
theorem ko_X4_meets : dx_Kok dx_P km_X4_meets := ⟨by decide +kernel, by decide, dx_rows_ok (by decide +kernel), kw_X4⟩
set_option maxRecDepth 100000 in
theorem ko_X4_finding : dx_Kok dx_P km_X4_finding := ⟨by decide +kernel, by decide, dx_rows_ok (by decide +kernel), kw_X4⟩
set_option maxRecDepth 100000 in
theorem ko_X4_findings : dx_Kok dx_P km_X4_findings := ⟨by decide +kernel, by decide, dx_rows_ok (by decide +kernel), kw_X4⟩
set_option maxRecDepth 100000 in
theorem ko_X4_gcd : dx_Kok dx_P km_X4_gcd := ⟨by decide +kernel, by decide, dx_rows_ok (by decide +kernel), kw_X4⟩
set_option maxRecDepth 100000 in
theorem ko_X4_tells : dx_Kok dx_P km_X4_tells := ⟨by decide +kernel, by decide, dx_rows_ok (by decide +kernel), kw_X4⟩
set_option maxRecDepth 100000 in
theorem ko_X4_upper : dx_Kok dx_P km_X4_upper := ⟨by decide +kernel, by decide, dx_rows_ok (by decide +kernel), kw_X4⟩
set_option maxRecDepth 100000 in
theorem ko_X4_lower : dx_Kok dx_P km_X4_lower := ⟨by decide +kernel, by decide, dx_rows_ok (by decide +kernel), kw_X4⟩
set_option maxRecDepth 100000 in
theorem ko_X4_begin : dx_Kok dx_P km_X4_begin := ⟨by decide +kernel, by decide, dx_rows_ok (by decide +kernel), kw_X4⟩
set_option maxRecDepth 100000 in
theorem ko_X4_log : dx_Kok dx_P km_X4_log := ⟨by decide +kernel, by decide, dx_rows_ok (by decide +kernel), kw_X4⟩
set_option maxRecDepth 100000 in
theorem ko_X4_isPlace : dx_Kok dx_P km_X4_isPlace := ⟨by decide +kernel, by decide, dx_rows_ok (by decide +kernel), kw_X4⟩
set_option maxRecDepth 100000 in
theorem ko_X4_square : dx_Kok dx_P km_X4_square := ⟨by decide +kernel, by decide, dx_rows_ok (by decide +kernel), kw_X4⟩
set_option maxRecDepth 100000 in
theorem ko_X4_at : dx_Kok dx_P km_X4_at := ⟨by decide +kernel, by decide, dx_rows_ok (by decide +kernel), kw_X4⟩
set_option maxRecDepth 100000 in
theorem ko_X4_water : dx_Kok dx_P km_X4_water := ⟨by decide +kernel, by decide, dx_rows_ok (by decide +kernel), kw_X4⟩
set_option maxRecDepth 100000 in
theorem ko_X4_isSheet : dx_Kok dx_P km_X4_isSheet := ⟨by decide +kernel, by decide, dx_rows_ok (by decide +kernel), kw_X4⟩
set_option maxRecDepth 100000 in
theorem ko_X4_sheet : dx_Kok dx_P km_X4_sheet := ⟨by decide +kernel, by decide, dx_rows_ok (by decide +kernel), kw_X4⟩
set_option maxRecDepth 100000 in
theorem ko_X4_lay : dx_Kok dx_P km_X4_lay := ⟨by decide +kernel, by decide, dx_rows_ok (by decide +kernel), kw_X4⟩
set_option maxRecDepth 100000 in
theorem ko_X4_tear : dx_Kok dx_P km_X4_tear := ⟨by decide +kernel, by decide, dx_rows_ok (by decide +kernel), kw_X4⟩
set_option maxRecDepth 100000 in
theorem ko_X4_copy : dx_Kok dx_P km_X4_copy := ⟨by decide +kernel, by decide, dx_rows_ok (by decide +kernel), kw_X4⟩
set_option maxRecDepth 100000 in
theorem ko_X4_fill : dx_Kok dx_P km_X4_fill := ⟨by decide +kernel, by decide, dx_rows_ok (by decide +kernel), kw_X4⟩
set_option maxRecDepth 100000 in
theorem ko_X4_isPoint : dx_Kok dx_P km_X4_isPoint := ⟨by decide +kernel, by decide, dx_rows_ok (by decide +kernel), kw_X4⟩
set_option maxRecDepth 100000 in
theorem ko_X4_load : dx_Kok dx_P km_X4_load := ⟨by decide +kernel, by decide, dx_rows_ok (by decide +kernel), kw_X4⟩
set_option maxRecDepth 100000 in
theorem ko_X4_need : dx_Kok dx_P km_X4_need := ⟨by decide +kernel, by decide, dx_rows_ok (by decide +kernel), kw_X4⟩
set_option maxRecDepth 100000 in
theorem ko_X4_move : dx_Kok dx_P km_X4_move := ⟨by decide +kernel, by decide, dx_rows_ok (by decide +kernel), kw_X4⟩
set_option maxRecDepth 100000 in
theorem ko_X4_rope : dx_Kok dx_P km_X4_rope := ⟨by decide +kernel, by decide, dx_rows_ok (by decide +kernel), kw_X4⟩
set_option maxRecDepth 100000 in
theorem ko_X4_drop : dx_Kok dx_P km_X4_drop := ⟨by decide +kernel, by decide, dx_rows_ok (by decide +kernel), kw_X4⟩
set_option maxRecDepth 100000 in
theorem ko_X4_toldOf : dx_Kok dx_P km_X4_toldOf := ⟨by decide +kernel, by decide, dx_rows_ok (by decide +kernel), kw_X4⟩
set_option maxRecDepth 100000 in
theorem ko_X4_told : dx_Kok dx_P km_X4_told := ⟨by decide +kernel, by decide, dx_rows_ok (by decide +kernel), kw_X4⟩
set_option maxRecDepth 100000 in
theorem ko_X4_is : dx_Kok dx_P km_X4_is := ⟨by decide +kernel, by decide, dx_rows_ok (by decide +kernel), kw_X4⟩
set_option maxRecDepth 100000 in
theorem ko_X4_squareMany : dx_Kok dx_P km_X4_squareMany := ⟨by decide +kernel, by decide, dx_rows_ok (by decide +kernel), kw_X4⟩
set_option maxRecDepth 100000 in
theorem ko_X4_squareWeights : dx_Kok dx_P km_X4_squareWeights := ⟨by decide +kernel, by decide, dx_rows_ok (by decide +kernel), kw_X4⟩
set_option maxRecDepth 100000 in
theorem ko_X4_all : dx_Kok dx_P km_X4_all := ⟨by decide +kernel, by decide, dx_rows_ok (by decide +kernel), kw_X4⟩
set_option maxRecDepth 100000 in
theorem ko_X4_mean : dx_Kok dx_P km_X4_mean := ⟨by decide +kernel, by decide, dx_rows_ok (by decide +kernel), kw_X4⟩
set_option maxRecDepth 100000 in
theorem ko_X4_lay_ : dx_Kok dx_P km_X4_lay_ := ⟨by decide +kernel, by decide, dx_rows_ok (by decide +kernel), kw_X4⟩
set_option maxRecDepth 100000 in
theorem ko_X4_isWetAt : dx_Kok dx_P km_X4_isWetAt := ⟨by decide +kernel, by decide, dx_rows_ok (by decide +kernel), kw_X4⟩
set_option maxRecDepth 100000 in
theorem ko_X4_spread : dx_Kok dx_P km_X4_spread := ⟨by decide +kernel, by decide, dx_rows_ok (by decide +kernel), kw_X4⟩
set_option maxRecDepth 100000 in
theorem ko_X4_firmIn : dx_Kok dx_P km_X4_firmIn := ⟨by decide +kernel, by decide, dx_rows_ok (by decide +kernel), kw_X4⟩
set_option maxRecDepth 100000 in
theorem ko_X4_firmBelow : dx_Kok dx_P km_X4_firmBelow := ⟨by decide +kernel, by decide, dx_rows_ok (by decide +kernel), kw_X4⟩
set_option maxRecDepth 100000 in
theorem ko_X4_finds : dx_Kok dx_P km_X4_finds := ⟨by decide +kernel, by decide, dx_rows_ok (by decide +kernel), kw_X4⟩
set_option maxRecDepth 100000 in
theorem ko_X4_afloat : dx_Kok dx_P km_X4_afloat := ⟨by decide +kernel, by decide, dx_rows_ok (by decide +kernel), kw_X4⟩
set_option maxRecDepth 100000 in
theorem ko_X4_floats : dx_Kok dx_P km_X4_floats := ⟨by decide +kernel, by decide, dx_rows_ok (by decide +kernel), kw_X4⟩
set_option maxRecDepth 100000 in
theorem ko_X4_draft : dx_Kok dx_P km_X4_draft := ⟨by decide +kernel, by decide, dx_rows_ok (by decide +kernel), kw_X4⟩
set_option maxRecDepth 100000 in
theorem ko_X4_above : dx_Kok dx_P km_X4_above := ⟨by decide +kernel, by decide, dx_rows_ok (by decide +kernel), kw_X4⟩
set_option maxRecDepth 100000 in
theorem ko_X4_laySums : dx_Kok dx_P km_X4_laySums := ⟨by decide +kernel, by decide, dx_rows_ok (by decide +kernel), kw_X4⟩
set_option maxRecDepth 100000 in
theorem ko_X4_layPowers : dx_Kok dx_P km_X4_layPowers := ⟨by decide +kernel, by decide, dx_rows_ok (by decide +kernel), kw_X4⟩
set_option maxRecDepth 100000 in
theorem ko_X4_middle : dx_Kok dx_P km_X4_middle := ⟨by decide +kernel, by decide, dx_rows_ok (by decide +kernel), kw_X4⟩
set_option maxRecDepth 100000 in
theorem ko_X4_place : dx_Kok dx_P km_X4_place := ⟨by decide +kernel, by decide, dx_rows_ok (by decide +kernel), kw_X4⟩
set_option maxRecDepth 100000 in
theorem ko_X4_lean : dx_Kok dx_P km_X4_lean := ⟨by decide +kernel, by decide, dx_rows_ok (by decide +kernel), kw_X4⟩
set_option maxRecDepth 100000 in
theorem ko_X4_leans : dx_Kok dx_P km_X4_leans := ⟨by decide +kernel, by decide, dx_rows_ok (by decide +kernel), kw_X4⟩
set_option maxRecDepth 100000 in
theorem ko_X4_layBreadth : dx_Kok dx_P km_X4_layBreadth := ⟨by decide +kernel, by decide, dx_rows_ok (by decide +kernel), kw_X4⟩
set_option maxRecDepth 100000 in
theorem ko_X4_leastBreadth : dx_Kok dx_P km_X4_leastBreadth := ⟨by decide +kernel, by decide, dx_rows_ok (by decide +kernel), kw_X4⟩
set_option maxRecDepth 100000 in
theorem ko_X4_breadth : dx_Kok dx_P km_X4_breadth := ⟨by decide +kernel, by decide, dx_rows_ok (by decide +kernel), kw_X4⟩
set_option maxRecDepth 100000 in
theorem ko_X4_holdsNow : dx_Kok dx_P km_X4_holdsNow := ⟨by decide +kernel, by decide, dx_rows_ok (by decide +kernel), kw_X4⟩
set_option maxRecDepth 100000 in
theorem ko_X4_holds : dx_Kok dx_P km_X4_holds := ⟨by decide +kernel, by decide, dx_rows_ok (by decide +kernel), kw_X4⟩
set_option maxRecDepth 100000 in
theorem ko_X4_rests : dx_Kok dx_P km_X4_rests := ⟨by decide +kernel, by decide, dx_rows_ok (by decide +kernel), kw_X4⟩
set_option maxRecDepth 100000 in
theorem ko_X4_mostRoom : dx_Kok dx_P km_X4_mostRoom := ⟨by decide +kernel, by decide, dx_rows_ok (by decide +kernel), kw_X4⟩
set_option maxRecDepth 100000 in
theorem ko_X4_carries : dx_Kok dx_P km_X4_carries := ⟨by decide +kernel, by decide, dx_rows_ok (by decide +kernel), kw_X4⟩
set_option maxRecDepth 100000 in
theorem ko_X4_trim : dx_Kok dx_P km_X4_trim := ⟨by decide +kernel, by decide, dx_rows_ok (by decide +kernel), kw_X4⟩
set_option maxRecDepth 100000 in
theorem ko_X4_room : dx_Kok dx_P km_X4_room := ⟨by decide +kernel, by decide, dx_rows_ok (by decide +kernel), kw_X4⟩
set_option maxRecDepth 100000 in
theorem ko_X4_count : dx_Kok dx_P km_X4_count := ⟨by decide +kernel, by decide, dx_rows_ok (by decide +kernel), kw_X4⟩
set_option maxRecDepth 100000 in
theorem ko_X4_digest : dx_Kok dx_P km_X4_digest := ⟨by decide +kernel, by decide, dx_rows_ok (by decide +kernel), kw_X4⟩
set_option maxRecDepth 100000 in
theorem ko_J6_bitCount_0f7a4 : dx_Kok dx_P km_J6_bitCount_0f7a4 := ⟨by decide +kernel, by decide, dx_rows_ok (by decide +kernel), kw_J6⟩
set_option maxRecDepth 100000 in
theorem ko_J13_compare_74951 : dx_Kok dx_P km_J13_compare_74951 := ⟨by decide +kernel, by decide, dx_rows_ok (by decide +kernel), kw_J13⟩
theorem dx_P_ok : ∀ (id : Nat) (K : dx_K), dx_P[id]? = some K → dx_Kok dx_P K := fun id K h => (show ∀ K ∈ dx_P, dx_Kok dx_P K from List.forall_mem_cons.mpr ⟨ko_X0_begin, List.forall_mem_cons.mpr ⟨ko_X0_has, List.forall_mem_cons.mpr ⟨ko_X0_weightOf, List.forall_mem_cons.mpr ⟨ko_X0_put, List.forall_mem_cons.mpr ⟨ko_X0_across, List.forall_mem_cons.mpr ⟨ko_X0_up, List.forall_mem_cons.mpr ⟨ko_X0_squares, List.forall_mem_cons.mpr ⟨ko_X0_weight, List.forall_mem_cons.mpr ⟨ko_X0_weightAcross, List.forall_mem_cons.mpr ⟨ko_X0_weightUp, List.forall_mem_cons.mpr ⟨ko_X1_turnTo, List.forall_mem_cons.mpr ⟨ko_X1_riseTo, List.forall_mem_cons.mpr ⟨ko_X1_waysInto, List.forall_mem_cons.mpr ⟨ko_X1_spread, List.forall_mem_cons.mpr ⟨ko_X1_firm, List.forall_mem_cons.mpr ⟨ko_X1_countFirm, List.forall_mem_cons.mpr ⟨ko_X1_bears, List.forall_mem_cons.mpr ⟨ko_X1_mostRoom, List.forall_mem_cons.mpr ⟨ko_X1_stateOf, List.forall_mem_cons.mpr ⟨ko_X1_halves, List.forall_mem_cons.mpr ⟨ko_X1_momentAcross, List.forall_mem_cons.mpr ⟨ko_X1_momentUp, List.forall_mem_cons.mpr ⟨ko_X1_measureLine, List.forall_mem_cons.mpr ⟨ko_X1_measureRow, List.forall_mem_cons.mpr ⟨ko_X2_begin, List.forall_mem_cons.mpr ⟨ko_X2_fact, List.forall_mem_cons.mpr ⟨ko_X3_log, List.forall_mem_cons.mpr ⟨ko_X3_square, List.forall_mem_cons.mpr ⟨ko_X3_at, List.forall_mem_cons.mpr ⟨ko_X3_water, List.forall_mem_cons.mpr ⟨ko_X3_sheet, List.forall_mem_cons.mpr ⟨ko_X3_lay, List.forall_mem_cons.mpr ⟨ko_X3_tear, List.forall_mem_cons.mpr ⟨ko_X3_copy, List.forall_mem_cons.mpr ⟨ko_X3_fill, List.forall_mem_cons.mpr ⟨ko_X3_load, List.forall_mem_cons.mpr ⟨ko_X3_move, List.forall_mem_cons.mpr ⟨ko_X3_rope, List.forall_mem_cons.mpr ⟨ko_X3_drop, List.forall_mem_cons.mpr ⟨ko_X3_told, List.forall_mem_cons.mpr ⟨ko_X3_is, List.forall_mem_cons.mpr ⟨ko_X3_all, List.forall_mem_cons.mpr ⟨ko_X3_mean, List.forall_mem_cons.mpr ⟨ko_X3_floats, List.forall_mem_cons.mpr ⟨ko_X3_draft, List.forall_mem_cons.mpr ⟨ko_X3_above, List.forall_mem_cons.mpr ⟨ko_X3_middle, List.forall_mem_cons.mpr ⟨ko_X3_place, List.forall_mem_cons.mpr ⟨ko_X3_leans, List.forall_mem_cons.mpr ⟨ko_X3_breadth, List.forall_mem_cons.mpr ⟨ko_X3_holds, List.forall_mem_cons.mpr ⟨ko_X3_rests, List.forall_mem_cons.mpr ⟨ko_X3_carries, List.forall_mem_cons.mpr ⟨ko_X3_trim, List.forall_mem_cons.mpr ⟨ko_X3_room, List.forall_mem_cons.mpr ⟨ko_X3_upper, List.forall_mem_cons.mpr ⟨ko_X3_lower, List.forall_mem_cons.mpr ⟨ko_X3_count, List.forall_mem_cons.mpr ⟨ko_X3_finding, List.forall_mem_cons.mpr ⟨ko_X3_findings, List.forall_mem_cons.mpr ⟨ko_X3_digest, List.forall_mem_cons.mpr ⟨ko_X3_digestPlaces, List.forall_mem_cons.mpr ⟨ko_X3_digestLoads, List.forall_mem_cons.mpr ⟨ko_X3_digestSheets, List.forall_mem_cons.mpr ⟨ko_X3_within, List.forall_mem_cons.mpr ⟨ko_X3_isTurn, List.forall_mem_cons.mpr ⟨ko_X3_isSheet, List.forall_mem_cons.mpr ⟨ko_X3_isPoint, List.forall_mem_cons.mpr ⟨ko_X3_isLoad, List.forall_mem_cons.mpr ⟨ko_X3_reaches, List.forall_mem_cons.mpr ⟨ko_X3_find, List.forall_mem_cons.mpr ⟨ko_X3_tell, List.forall_mem_cons.mpr ⟨ko_X3_commonDivisor, List.forall_mem_cons.mpr ⟨ko_X3_loadsThere, List.forall_mem_cons.mpr ⟨ko_X3_wholeWeight, List.forall_mem_cons.mpr ⟨ko_X3_settle, List.forall_mem_cons.mpr ⟨ko_X3_weightAcross, List.forall_mem_cons.mpr ⟨ko_X3_weightUp, List.forall_mem_cons.mpr ⟨ko_X3_leaning, List.forall_mem_cons.mpr ⟨ko_X3_holding, List.forall_mem_cons.mpr ⟨ko_X3_turnedAcross, List.forall_mem_cons.mpr ⟨ko_X3_turnedUp, List.forall_mem_cons.mpr ⟨ko_X4_in, List.forall_mem_cons.mpr ⟨ko_X4_meets, List.forall_mem_cons.mpr ⟨ko_X4_finding, List.forall_mem_cons.mpr ⟨ko_X4_findings, List.forall_mem_cons.mpr ⟨ko_X4_gcd, List.forall_mem_cons.mpr ⟨ko_X4_tells, List.forall_mem_cons.mpr ⟨ko_X4_upper, List.forall_mem_cons.mpr ⟨ko_X4_lower, List.forall_mem_cons.mpr ⟨ko_X4_begin, List.forall_mem_cons.mpr ⟨ko_X4_log, List.forall_mem_cons.mpr ⟨ko_X4_isPlace, List.forall_mem_cons.mpr ⟨ko_X4_square, List.forall_mem_cons.mpr ⟨ko_X4_at, List.forall_mem_cons.mpr ⟨ko_X4_water, List.forall_mem_cons.mpr ⟨ko_X4_isSheet, List.forall_mem_cons.mpr ⟨ko_X4_sheet, List.forall_mem_cons.mpr ⟨ko_X4_lay, List.forall_mem_cons.mpr ⟨ko_X4_tear, List.forall_mem_cons.mpr ⟨ko_X4_copy, List.forall_mem_cons.mpr ⟨ko_X4_fill, List.forall_mem_cons.mpr ⟨ko_X4_isPoint, List.forall_mem_cons.mpr ⟨ko_X4_load, List.forall_mem_cons.mpr ⟨ko_X4_need, List.forall_mem_cons.mpr ⟨ko_X4_move, List.forall_mem_cons.mpr ⟨ko_X4_rope, List.forall_mem_cons.mpr ⟨ko_X4_drop, List.forall_mem_cons.mpr ⟨ko_X4_toldOf, List.forall_mem_cons.mpr ⟨ko_X4_told, List.forall_mem_cons.mpr ⟨ko_X4_is, List.forall_mem_cons.mpr ⟨ko_X4_squareMany, List.forall_mem_cons.mpr ⟨ko_X4_squareWeights, List.forall_mem_cons.mpr ⟨ko_X4_all, List.forall_mem_cons.mpr ⟨ko_X4_mean, List.forall_mem_cons.mpr ⟨ko_X4_lay_, List.forall_mem_cons.mpr ⟨ko_X4_isWetAt, List.forall_mem_cons.mpr ⟨ko_X4_spread, List.forall_mem_cons.mpr ⟨ko_X4_firmIn, List.forall_mem_cons.mpr ⟨ko_X4_firmBelow, List.forall_mem_cons.mpr ⟨ko_X4_finds, List.forall_mem_cons.mpr ⟨ko_X4_afloat, List.forall_mem_cons.mpr ⟨ko_X4_floats, List.forall_mem_cons.mpr ⟨ko_X4_draft, List.forall_mem_cons.mpr ⟨ko_X4_above, List.forall_mem_cons.mpr ⟨ko_X4_laySums, List.forall_mem_cons.mpr ⟨ko_X4_layPowers, List.forall_mem_cons.mpr ⟨ko_X4_middle, List.forall_mem_cons.mpr ⟨ko_X4_place, List.forall_mem_cons.mpr ⟨ko_X4_lean, List.forall_mem_cons.mpr ⟨ko_X4_leans, List.forall_mem_cons.mpr ⟨ko_X4_layBreadth, List.forall_mem_cons.mpr ⟨ko_X4_leastBreadth, List.forall_mem_cons.mpr ⟨ko_X4_breadth, List.forall_mem_cons.mpr ⟨ko_X4_holdsNow, List.forall_mem_cons.mpr ⟨ko_X4_holds, List.forall_mem_cons.mpr ⟨ko_X4_rests, List.forall_mem_cons.mpr ⟨ko_X4_mostRoom, List.forall_mem_cons.mpr ⟨ko_X4_carries, List.forall_mem_cons.mpr ⟨ko_X4_trim, List.forall_mem_cons.mpr ⟨ko_X4_room, List.forall_mem_cons.mpr ⟨ko_X4_count, List.forall_mem_cons.mpr ⟨ko_X4_digest, List.forall_mem_cons.mpr ⟨ko_J6_bitCount_0f7a4, List.forall_mem_cons.mpr ⟨ko_J13_compare_74951, fun _ h => absurd h List.not_mem_nil⟩⟩⟩⟩⟩⟩⟩⟩⟩⟩⟩⟩⟩⟩⟩⟩⟩⟩⟩⟩⟩⟩⟩⟩⟩⟩⟩⟩⟩⟩⟩⟩⟩⟩⟩⟩⟩⟩⟩⟩⟩⟩⟩⟩⟩⟩⟩⟩⟩⟩⟩⟩⟩⟩⟩⟩⟩⟩⟩⟩⟩⟩⟩⟩⟩⟩⟩⟩⟩⟩⟩⟩⟩⟩⟩⟩⟩⟩⟩⟩⟩⟩⟩⟩⟩⟩⟩⟩⟩⟩⟩⟩⟩⟩⟩⟩⟩⟩⟩⟩⟩⟩⟩⟩⟩⟩⟩⟩⟩⟩⟩⟩⟩⟩⟩⟩⟩⟩⟩⟩⟩⟩⟩⟩⟩⟩⟩⟩⟩⟩⟩⟩⟩⟩⟩⟩⟩⟩⟩⟩⟩⟩⟩⟩⟩) K (List.mem_of_getElem? h)
