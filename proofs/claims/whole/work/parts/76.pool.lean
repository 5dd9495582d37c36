/-! the pools: each entry's words stand in the tables (printed by wip/whole/check.py) -/
theorem dx_look_all {α : Type} {F : Nat → α → Prop} : ∀ {l : List (Nat × α)} {x : Nat} {e : α}, (∀ q ∈ l, F q.1 q.2) → dx_look l x = some e → F x e
  | [], _, _, _, h => by cases h
  | (k, v) :: t, x, e, hl, h => by
    unfold dx_look at h
    split at h
    · next e1 =>
      cases h
      rw [← Nat.eq_of_beq_eq_true e1]
      exact hl (k, v) List.mem_cons_self
    · exact dx_look_all (fun q hq => hl q (List.mem_cons_of_mem _ hq)) h
theorem dx_pok0 {P : List dx_K} {own : String} {x a b : Nat} {C : String} {T : u_T} {N : Nat} (h1 : vwCl[a]? = some (C, T, N)) (h2 : b < N) (h3 : Cond.fieldLink own x (T b).1 (T b).2.1 (T b).2.2.1 ∈ dx_T) : dx_pok P own x (0, a, b) := by unfold dx_pok; exact ⟨C, T, N, h1, h2, h3⟩
/-- what a method needs to be called -/
def dx_Cok (K : dx_K) (n : Nat) : Prop := Cond.initialized K.1.1.cls ∈ dx_T ∧ Cond.code K.1.1 K.1.2.1 K.1.2.2.1 K.1.2.2.2 ∈ dx_T ∧ K.1.1.cls ≠ "java/lang/invoke/MethodHandle" ∧ K.1.1.cls ≠ "java/lang/invoke/VarHandle" ∧ (parseMethodDescriptor K.1.1.desc).map (fun d => d.parameters.length) = some n
theorem dx_pok1 {P : List dx_K} {own : String} {x id e n : Nat} {K : dx_K} {q : vw_C} (h0 : P[id]? = some K) (h1 : vwCl[e / 16]? = some q) (h2 : q.1 = K.1.1.cls) (h3 : Cond.methodLink own x K.1.1 ∈ dx_T) (h4 : Cond.instanceMethod K.1.1 ∈ dx_T) (h5 : Cond.selects K.1.1.cls K.1.1 K.1.1 ∈ dx_T) (h6 : dx_Cok K n) (h7 : e % 16 = n) : dx_pok P own x (1, id, e) := by
  unfold dx_pok
  exact ⟨K, q, h0, h1, h2, h3, h4, h5, h6.1, h6.2.1, h6.2.2.1, h6.2.2.2.1, by rw [h7]; exact h6.2.2.2.2⟩
theorem dx_pok2 {P : List dx_K} {own : String} {x id n : Nat} {K : dx_K} (h0 : P[id]? = some K) (h3 : Cond.methodLink own x K.1.1 ∈ dx_T) (h4 : Cond.static K.1.1 ∈ dx_T) (h6 : dx_Cok K n) : dx_pok P own x (2, id, n) := by
  unfold dx_pok
  exact ⟨K, h0, h3, h4, h6.1, h6.2.1, h6.2.2.1, h6.2.2.2.1, h6.2.2.2.2⟩
theorem dx_pok3 {P : List dx_K} {own : String} {x id n : Nat} {K : dx_K} {host : String} (h0 : P[id]? = some K) (h3 : (own, x, K.1.1, host) ∈ dx_nest) (h4 : Cond.static K.1.1 ∈ dx_T) (h6 : dx_Cok K n) : dx_pok P own x (3, id, n) := by
  unfold dx_pok
  exact ⟨K, host, h0, h3, h4, h6.1, h6.2.1, h6.2.2.1, h6.2.2.2.1, h6.2.2.2.2⟩
theorem dx_pok4 {P : List dx_K} {own : String} {x a b : Nat} (h1 : Cond.methodLink own x arraycopyName ∈ dx_T) (h2 : Cond.native arraycopyName ∈ dx_T) (h3 : Cond.static arraycopyName ∈ dx_T) (h4 : Cond.initialized "java/lang/System" ∈ dx_T) : dx_pok P own x (4, a, b) := by
  unfold dx_pok
  exact ⟨h1, h2, h3, h4⟩
theorem dx_pok7 {P : List dx_K} {own : String} {x a b : Nat} (h1 : Cond.methodLink own x Lib.Math.max.name ∈ dx_T) (h2 : Cond.static Lib.Math.max.name ∈ dx_T) (h3 : Cond.initialized "java/lang/Math" ∈ dx_T) (h4 : Cond.code Lib.Math.max.name Lib.Math.max.code 2 (some .int) ∈ dx_T) : dx_pok P own x (7, a, b) := by
  unfold dx_pok
  exact ⟨h1, h2, h3, h4⟩
theorem dx_pok8 {P : List dx_K} {own : String} {x a b : Nat} (h1 : Cond.methodLink own x Lib.Math.min.name ∈ dx_T) (h2 : Cond.static Lib.Math.min.name ∈ dx_T) (h3 : Cond.initialized "java/lang/Math" ∈ dx_T) (h4 : Cond.code Lib.Math.min.name Lib.Math.min.code 2 (some .int) ∈ dx_T) : dx_pok P own x (8, a, b) := by
  unfold dx_pok
  exact ⟨h1, h2, h3, h4⟩
theorem dx_pok9 {P : List dx_K} {own : String} {x a b : Nat} (h1 : Cond.methodLink own x Lib.MathLoose.abs_long.x ∈ dx_T) (h2 : Cond.static Lib.MathLoose.abs_long.x ∈ dx_T) (h3 : Cond.initialized "java/lang/Math" ∈ dx_T) (h4 : Cond.code Lib.MathLoose.abs_long.x Lib.MathLoose.abs_long.code 2 (some .long) ∈ dx_T) : dx_pok P own x (9, a, b) := by
  unfold dx_pok
  exact ⟨h1, h2, h3, h4⟩
theorem dx_pok5 {P : List dx_K} {own : String} {x z b : Nat} (h1 : Cond.constant own x (Int32.ofInt ((z : Int) - 1000)) ∈ dx_T) : dx_pok P own x (5, z, b) := by
  unfold dx_pok
  exact h1
theorem dx_pok6 {P : List dx_K} {own : String} {x z b : Nat} (h1 : Cond.constantLong own x (Int64.ofInt ((z : Int) - 1000)) ∈ dx_T) : dx_pok P own x (6, z, b) := by
  unfold dx_pok
  exact h1
set_option maxRecDepth 20000 in
theorem kc_X0_begin : dx_Cok km_X0_begin 2 := ⟨(dx_T_of (List.mem_of_getElem? (i := 38) (by decide +kernel)) (by decide +kernel)), (dx_T_of (List.mem_of_getElem? (i := 63) (by decide +kernel)) (by decide +kernel)), by decide +kernel, by decide +kernel, by decide +kernel⟩
set_option maxRecDepth 20000 in
theorem kc_X0_has : dx_Cok km_X0_has 2 := ⟨(dx_T_of (List.mem_of_getElem? (i := 38) (by decide +kernel)) (by decide +kernel)), (dx_T_of (List.mem_of_getElem? (i := 211) (by decide +kernel)) (by decide +kernel)), by decide +kernel, by decide +kernel, by decide +kernel⟩
set_option maxRecDepth 20000 in
theorem kc_X0_weightOf : dx_Cok km_X0_weightOf 2 := ⟨(dx_T_of (List.mem_of_getElem? (i := 38) (by decide +kernel)) (by decide +kernel)), (dx_T_of (List.mem_of_getElem? (i := 216) (by decide +kernel)) (by decide +kernel)), by decide +kernel, by decide +kernel, by decide +kernel⟩
set_option maxRecDepth 20000 in
theorem kc_X0_put : dx_Cok km_X0_put 3 := ⟨(dx_T_of (List.mem_of_getElem? (i := 38) (by decide +kernel)) (by decide +kernel)), (dx_T_of (List.mem_of_getElem? (i := 220) (by decide +kernel)) (by decide +kernel)), by decide +kernel, by decide +kernel, by decide +kernel⟩
set_option maxRecDepth 20000 in
theorem kc_X0_across : dx_Cok km_X0_across 1 := ⟨(dx_T_of (List.mem_of_getElem? (i := 38) (by decide +kernel)) (by decide +kernel)), (dx_T_of (List.mem_of_getElem? (i := 343) (by decide +kernel)) (by decide +kernel)), by decide +kernel, by decide +kernel, by decide +kernel⟩
set_option maxRecDepth 20000 in
theorem kc_X0_up : dx_Cok km_X0_up 1 := ⟨(dx_T_of (List.mem_of_getElem? (i := 38) (by decide +kernel)) (by decide +kernel)), (dx_T_of (List.mem_of_getElem? (i := 347) (by decide +kernel)) (by decide +kernel)), by decide +kernel, by decide +kernel, by decide +kernel⟩
set_option maxRecDepth 20000 in
theorem kc_X0_squares : dx_Cok km_X0_squares 0 := ⟨(dx_T_of (List.mem_of_getElem? (i := 38) (by decide +kernel)) (by decide +kernel)), (dx_T_of (List.mem_of_getElem? (i := 324) (by decide +kernel)) (by decide +kernel)), by decide +kernel, by decide +kernel, by decide +kernel⟩
set_option maxRecDepth 20000 in
theorem kc_X0_weight : dx_Cok km_X0_weight 0 := ⟨(dx_T_of (List.mem_of_getElem? (i := 38) (by decide +kernel)) (by decide +kernel)), (dx_T_of (List.mem_of_getElem? (i := 316) (by decide +kernel)) (by decide +kernel)), by decide +kernel, by decide +kernel, by decide +kernel⟩
set_option maxRecDepth 20000 in
theorem kc_X0_weightAcross : dx_Cok km_X0_weightAcross 1 := ⟨(dx_T_of (List.mem_of_getElem? (i := 38) (by decide +kernel)) (by decide +kernel)), (dx_T_of (List.mem_of_getElem? (i := 427) (by decide +kernel)) (by decide +kernel)), by decide +kernel, by decide +kernel, by decide +kernel⟩
set_option maxRecDepth 20000 in
theorem kc_X0_weightUp : dx_Cok km_X0_weightUp 1 := ⟨(dx_T_of (List.mem_of_getElem? (i := 38) (by decide +kernel)) (by decide +kernel)), (dx_T_of (List.mem_of_getElem? (i := 441) (by decide +kernel)) (by decide +kernel)), by decide +kernel, by decide +kernel, by decide +kernel⟩
set_option maxRecDepth 20000 in
theorem kc_X1_turnTo : dx_Cok km_X1_turnTo 2 := ⟨(dx_T_of (List.mem_of_getElem? (i := 39) (by decide +kernel)) (by decide +kernel)), (dx_T_of (List.mem_of_getElem? (i := 339) (by decide +kernel)) (by decide +kernel)), by decide +kernel, by decide +kernel, by decide +kernel⟩
set_option maxRecDepth 20000 in
theorem kc_X1_riseTo : dx_Cok km_X1_riseTo 1 := ⟨(dx_T_of (List.mem_of_getElem? (i := 39) (by decide +kernel)) (by decide +kernel)), (dx_T_of (List.mem_of_getElem? (i := 362) (by decide +kernel)) (by decide +kernel)), by decide +kernel, by decide +kernel, by decide +kernel⟩
set_option maxRecDepth 20000 in
theorem kc_X1_waysInto : dx_Cok km_X1_waysInto 1 := ⟨(dx_T_of (List.mem_of_getElem? (i := 39) (by decide +kernel)) (by decide +kernel)), (dx_T_of (List.mem_of_getElem? (i := 366) (by decide +kernel)) (by decide +kernel)), by decide +kernel, by decide +kernel, by decide +kernel⟩
set_option maxRecDepth 20000 in
theorem kc_X1_spread : dx_Cok km_X1_spread 0 := ⟨(dx_T_of (List.mem_of_getElem? (i := 39) (by decide +kernel)) (by decide +kernel)), (dx_T_of (List.mem_of_getElem? (i := 370) (by decide +kernel)) (by decide +kernel)), by decide +kernel, by decide +kernel, by decide +kernel⟩
set_option maxRecDepth 20000 in
theorem kc_X1_firm : dx_Cok km_X1_firm 1 := ⟨(dx_T_of (List.mem_of_getElem? (i := 39) (by decide +kernel)) (by decide +kernel)), (dx_T_of (List.mem_of_getElem? (i := 378) (by decide +kernel)) (by decide +kernel)), by decide +kernel, by decide +kernel, by decide +kernel⟩
set_option maxRecDepth 20000 in
theorem kc_X1_countFirm : dx_Cok km_X1_countFirm 0 := ⟨(dx_T_of (List.mem_of_getElem? (i := 39) (by decide +kernel)) (by decide +kernel)), (dx_T_of (List.mem_of_getElem? (i := 374) (by decide +kernel)) (by decide +kernel)), by decide +kernel, by decide +kernel, by decide +kernel⟩
set_option maxRecDepth 20000 in
theorem kc_X1_bears : dx_Cok km_X1_bears 2 := ⟨(dx_T_of (List.mem_of_getElem? (i := 39) (by decide +kernel)) (by decide +kernel)), (dx_T_of (List.mem_of_getElem? (i := 358) (by decide +kernel)) (by decide +kernel)), by decide +kernel, by decide +kernel, by decide +kernel⟩
set_option maxRecDepth 20000 in
theorem kc_X1_mostRoom : dx_Cok km_X1_mostRoom 0 := ⟨(dx_T_of (List.mem_of_getElem? (i := 39) (by decide +kernel)) (by decide +kernel)), (dx_T_of (List.mem_of_getElem? (i := 499) (by decide +kernel)) (by decide +kernel)), by decide +kernel, by decide +kernel, by decide +kernel⟩
set_option maxRecDepth 20000 in
theorem kc_X1_stateOf : dx_Cok km_X1_stateOf 2 := ⟨(dx_T_of (List.mem_of_getElem? (i := 39) (by decide +kernel)) (by decide +kernel)), (dx_T_of (List.mem_of_getElem? (i := 453) (by decide +kernel)) (by decide +kernel)), by decide +kernel, by decide +kernel, by decide +kernel⟩
set_option maxRecDepth 20000 in
theorem kc_X1_halves : dx_Cok km_X1_halves 1 := ⟨(dx_T_of (List.mem_of_getElem? (i := 39) (by decide +kernel)) (by decide +kernel)), (dx_T_of (List.mem_of_getElem? (i := 414) (by decide +kernel)) (by decide +kernel)), by decide +kernel, by decide +kernel, by decide +kernel⟩
set_option maxRecDepth 20000 in
theorem kc_X1_momentAcross : dx_Cok km_X1_momentAcross 0 := ⟨(dx_T_of (List.mem_of_getElem? (i := 39) (by decide +kernel)) (by decide +kernel)), (dx_T_of (List.mem_of_getElem? (i := 410) (by decide +kernel)) (by decide +kernel)), by decide +kernel, by decide +kernel, by decide +kernel⟩
set_option maxRecDepth 20000 in
theorem kc_X1_momentUp : dx_Cok km_X1_momentUp 0 := ⟨(dx_T_of (List.mem_of_getElem? (i := 39) (by decide +kernel)) (by decide +kernel)), (dx_T_of (List.mem_of_getElem? (i := 419) (by decide +kernel)) (by decide +kernel)), by decide +kernel, by decide +kernel, by decide +kernel⟩
set_option maxRecDepth 20000 in
theorem kc_X1_measureLine : dx_Cok km_X1_measureLine 0 := ⟨(dx_T_of (List.mem_of_getElem? (i := 39) (by decide +kernel)) (by decide +kernel)), (dx_T_of (List.mem_of_getElem? (i := 469) (by decide +kernel)) (by decide +kernel)), by decide +kernel, by decide +kernel, by decide +kernel⟩
set_option maxRecDepth 20000 in
theorem kc_X1_measureRow : dx_Cok km_X1_measureRow 0 := ⟨(dx_T_of (List.mem_of_getElem? (i := 39) (by decide +kernel)) (by decide +kernel)), (dx_T_of (List.mem_of_getElem? (i := 473) (by decide +kernel)) (by decide +kernel)), by decide +kernel, by decide +kernel, by decide +kernel⟩
set_option maxRecDepth 20000 in
theorem kc_X2_begin : dx_Cok km_X2_begin 4 := ⟨(dx_T_of (List.mem_of_getElem? (i := 40) (by decide +kernel)) (by decide +kernel)), (dx_T_of (List.mem_of_getElem? (i := 276) (by decide +kernel)) (by decide +kernel)), by decide +kernel, by decide +kernel, by decide +kernel⟩
set_option maxRecDepth 20000 in
theorem kc_X2_fact : dx_Cok km_X2_fact 1 := ⟨(dx_T_of (List.mem_of_getElem? (i := 40) (by decide +kernel)) (by decide +kernel)), (dx_T_of (List.mem_of_getElem? (i := 300) (by decide +kernel)) (by decide +kernel)), by decide +kernel, by decide +kernel, by decide +kernel⟩
set_option maxRecDepth 20000 in
theorem kc_X3_digestPlaces : dx_Cok km_X3_digestPlaces 1 := ⟨(dx_T_of (List.mem_of_getElem? (i := 37) (by decide +kernel)) (by decide +kernel)), (dx_T_of (List.mem_of_getElem? (i := 543) (by decide +kernel)) (by decide +kernel)), by decide +kernel, by decide +kernel, by decide +kernel⟩
set_option maxRecDepth 20000 in
theorem kc_X3_digestLoads : dx_Cok km_X3_digestLoads 1 := ⟨(dx_T_of (List.mem_of_getElem? (i := 37) (by decide +kernel)) (by decide +kernel)), (dx_T_of (List.mem_of_getElem? (i := 547) (by decide +kernel)) (by decide +kernel)), by decide +kernel, by decide +kernel, by decide +kernel⟩
set_option maxRecDepth 20000 in
theorem kc_X3_digestSheets : dx_Cok km_X3_digestSheets 1 := ⟨(dx_T_of (List.mem_of_getElem? (i := 37) (by decide +kernel)) (by decide +kernel)), (dx_T_of (List.mem_of_getElem? (i := 552) (by decide +kernel)) (by decide +kernel)), by decide +kernel, by decide +kernel, by decide +kernel⟩
set_option maxRecDepth 20000 in
theorem kc_X3_within : dx_Cok km_X3_within 3 := ⟨(dx_T_of (List.mem_of_getElem? (i := 37) (by decide +kernel)) (by decide +kernel)), (dx_T_of (List.mem_of_getElem? (i := 202) (by decide +kernel)) (by decide +kernel)), by decide +kernel, by decide +kernel, by decide +kernel⟩
set_option maxRecDepth 20000 in
theorem kc_X3_isTurn : dx_Cok km_X3_isTurn 1 := ⟨(dx_T_of (List.mem_of_getElem? (i := 37) (by decide +kernel)) (by decide +kernel)), (dx_T_of (List.mem_of_getElem? (i := 335) (by decide +kernel)) (by decide +kernel)), by decide +kernel, by decide +kernel, by decide +kernel⟩
set_option maxRecDepth 20000 in
theorem kc_X3_isSheet : dx_Cok km_X3_isSheet 1 := ⟨(dx_T_of (List.mem_of_getElem? (i := 37) (by decide +kernel)) (by decide +kernel)), (dx_T_of (List.mem_of_getElem? (i := 235) (by decide +kernel)) (by decide +kernel)), by decide +kernel, by decide +kernel, by decide +kernel⟩
set_option maxRecDepth 20000 in
theorem kc_X3_isPoint : dx_Cok km_X3_isPoint 2 := ⟨(dx_T_of (List.mem_of_getElem? (i := 37) (by decide +kernel)) (by decide +kernel)), (dx_T_of (List.mem_of_getElem? (i := 272) (by decide +kernel)) (by decide +kernel)), by decide +kernel, by decide +kernel, by decide +kernel⟩
set_option maxRecDepth 20000 in
theorem kc_X3_isLoad : dx_Cok km_X3_isLoad 1 := ⟨(dx_T_of (List.mem_of_getElem? (i := 37) (by decide +kernel)) (by decide +kernel)), (dx_T_of (List.mem_of_getElem? (i := 284) (by decide +kernel)) (by decide +kernel)), by decide +kernel, by decide +kernel, by decide +kernel⟩
set_option maxRecDepth 20000 in
theorem kc_X3_reaches : dx_Cok km_X3_reaches 3 := ⟨(dx_T_of (List.mem_of_getElem? (i := 37) (by decide +kernel)) (by decide +kernel)), (dx_T_of (List.mem_of_getElem? (i := 255) (by decide +kernel)) (by decide +kernel)), by decide +kernel, by decide +kernel, by decide +kernel⟩
set_option maxRecDepth 20000 in
theorem kc_X3_find : dx_Cok km_X3_find 1 := ⟨(dx_T_of (List.mem_of_getElem? (i := 37) (by decide +kernel)) (by decide +kernel)), (dx_T_of (List.mem_of_getElem? (i := 239) (by decide +kernel)) (by decide +kernel)), by decide +kernel, by decide +kernel, by decide +kernel⟩
set_option maxRecDepth 20000 in
theorem kc_X3_tell : dx_Cok km_X3_tell 2 := ⟨(dx_T_of (List.mem_of_getElem? (i := 37) (by decide +kernel)) (by decide +kernel)), (dx_T_of (List.mem_of_getElem? (i := 392) (by decide +kernel)) (by decide +kernel)), by decide +kernel, by decide +kernel, by decide +kernel⟩
set_option maxRecDepth 20000 in
theorem kc_X3_commonDivisor : dx_Cok km_X3_commonDivisor 2 := ⟨(dx_T_of (List.mem_of_getElem? (i := 37) (by decide +kernel)) (by decide +kernel)), (dx_T_of (List.mem_of_getElem? (i := 398) (by decide +kernel)) (by decide +kernel)), by decide +kernel, by decide +kernel, by decide +kernel⟩
set_option maxRecDepth 20000 in
theorem kc_X3_loadsThere : dx_Cok km_X3_loadsThere 0 := ⟨(dx_T_of (List.mem_of_getElem? (i := 37) (by decide +kernel)) (by decide +kernel)), (dx_T_of (List.mem_of_getElem? (i := 525) (by decide +kernel)) (by decide +kernel)), by decide +kernel, by decide +kernel, by decide +kernel⟩
set_option maxRecDepth 20000 in
theorem kc_X3_wholeWeight : dx_Cok km_X3_wholeWeight 0 := ⟨(dx_T_of (List.mem_of_getElem? (i := 37) (by decide +kernel)) (by decide +kernel)), (dx_T_of (List.mem_of_getElem? (i := 312) (by decide +kernel)) (by decide +kernel)), by decide +kernel, by decide +kernel, by decide +kernel⟩
set_option maxRecDepth 20000 in
theorem kc_X3_settle : dx_Cok km_X3_settle 1 := ⟨(dx_T_of (List.mem_of_getElem? (i := 37) (by decide +kernel)) (by decide +kernel)), (dx_T_of (List.mem_of_getElem? (i := 332) (by decide +kernel)) (by decide +kernel)), by decide +kernel, by decide +kernel, by decide +kernel⟩
set_option maxRecDepth 20000 in
theorem kc_X3_weightAcross : dx_Cok km_X3_weightAcross 1 := ⟨(dx_T_of (List.mem_of_getElem? (i := 37) (by decide +kernel)) (by decide +kernel)), (dx_T_of (List.mem_of_getElem? (i := 423) (by decide +kernel)) (by decide +kernel)), by decide +kernel, by decide +kernel, by decide +kernel⟩
set_option maxRecDepth 20000 in
theorem kc_X3_weightUp : dx_Cok km_X3_weightUp 1 := ⟨(dx_T_of (List.mem_of_getElem? (i := 37) (by decide +kernel)) (by decide +kernel)), (dx_T_of (List.mem_of_getElem? (i := 437) (by decide +kernel)) (by decide +kernel)), by decide +kernel, by decide +kernel, by decide +kernel⟩
set_option maxRecDepth 20000 in
theorem kc_X3_leaning : dx_Cok km_X3_leaning 1 := ⟨(dx_T_of (List.mem_of_getElem? (i := 37) (by decide +kernel)) (by decide +kernel)), (dx_T_of (List.mem_of_getElem? (i := 461) (by decide +kernel)) (by decide +kernel)), by decide +kernel, by decide +kernel, by decide +kernel⟩
set_option maxRecDepth 20000 in
theorem kc_X3_holding : dx_Cok km_X3_holding 1 := ⟨(dx_T_of (List.mem_of_getElem? (i := 37) (by decide +kernel)) (by decide +kernel)), (dx_T_of (List.mem_of_getElem? (i := 484) (by decide +kernel)) (by decide +kernel)), by decide +kernel, by decide +kernel, by decide +kernel⟩
set_option maxRecDepth 20000 in
theorem kc_X3_turnedAcross : dx_Cok km_X3_turnedAcross 5 := ⟨(dx_T_of (List.mem_of_getElem? (i := 37) (by decide +kernel)) (by decide +kernel)), (dx_T_of (List.mem_of_getElem? (i := 351) (by decide +kernel)) (by decide +kernel)), by decide +kernel, by decide +kernel, by decide +kernel⟩
set_option maxRecDepth 20000 in
theorem kc_X3_turnedUp : dx_Cok km_X3_turnedUp 5 := ⟨(dx_T_of (List.mem_of_getElem? (i := 37) (by decide +kernel)) (by decide +kernel)), (dx_T_of (List.mem_of_getElem? (i := 354) (by decide +kernel)) (by decide +kernel)), by decide +kernel, by decide +kernel, by decide +kernel⟩
set_option maxRecDepth 20000 in
theorem kc_X4_in : dx_Cok km_X4_in 3 := ⟨(dx_T_of (List.mem_of_getElem? (i := 41) (by decide +kernel)) (by decide +kernel)), (dx_T_of (List.mem_of_getElem? (i := 689) (by decide +kernel)) (by decide +kernel)), by decide +kernel, by decide +kernel, by decide +kernel⟩
set_option maxRecDepth 20000 in
theorem kc_X4_meets : dx_Cok km_X4_meets 1 := ⟨(dx_T_of (List.mem_of_getElem? (i := 41) (by decide +kernel)) (by decide +kernel)), (dx_T_of (List.mem_of_getElem? (i := 728) (by decide +kernel)) (by decide +kernel)), by decide +kernel, by decide +kernel, by decide +kernel⟩
set_option maxRecDepth 20000 in
theorem kc_X4_gcd : dx_Cok km_X4_gcd 2 := ⟨(dx_T_of (List.mem_of_getElem? (i := 41) (by decide +kernel)) (by decide +kernel)), (dx_T_of (List.mem_of_getElem? (i := 839) (by decide +kernel)) (by decide +kernel)), by decide +kernel, by decide +kernel, by decide +kernel⟩
set_option maxRecDepth 20000 in
theorem kc_X4_tells : dx_Cok km_X4_tells 2 := ⟨(dx_T_of (List.mem_of_getElem? (i := 41) (by decide +kernel)) (by decide +kernel)), (dx_T_of (List.mem_of_getElem? (i := 836) (by decide +kernel)) (by decide +kernel)), by decide +kernel, by decide +kernel, by decide +kernel⟩
set_option maxRecDepth 20000 in
theorem kc_X4_begin : dx_Cok km_X4_begin 2 := ⟨(dx_T_of (List.mem_of_getElem? (i := 41) (by decide +kernel)) (by decide +kernel)), (dx_T_of (List.mem_of_getElem? (i := 562) (by decide +kernel)) (by decide +kernel)), by decide +kernel, by decide +kernel, by decide +kernel⟩
set_option maxRecDepth 20000 in
theorem kc_X4_isPlace : dx_Cok km_X4_isPlace 2 := ⟨(dx_T_of (List.mem_of_getElem? (i := 41) (by decide +kernel)) (by decide +kernel)), (dx_T_of (List.mem_of_getElem? (i := 709) (by decide +kernel)) (by decide +kernel)), by decide +kernel, by decide +kernel, by decide +kernel⟩
set_option maxRecDepth 20000 in
theorem kc_X4_isSheet : dx_Cok km_X4_isSheet 1 := ⟨(dx_T_of (List.mem_of_getElem? (i := 41) (by decide +kernel)) (by decide +kernel)), (dx_T_of (List.mem_of_getElem? (i := 724) (by decide +kernel)) (by decide +kernel)), by decide +kernel, by decide +kernel, by decide +kernel⟩
set_option maxRecDepth 20000 in
theorem kc_X4_isPoint : dx_Cok km_X4_isPoint 2 := ⟨(dx_T_of (List.mem_of_getElem? (i := 41) (by decide +kernel)) (by decide +kernel)), (dx_T_of (List.mem_of_getElem? (i := 751) (by decide +kernel)) (by decide +kernel)), by decide +kernel, by decide +kernel, by decide +kernel⟩
set_option maxRecDepth 20000 in
theorem kc_X4_need : dx_Cok km_X4_need 2 := ⟨(dx_T_of (List.mem_of_getElem? (i := 41) (by decide +kernel)) (by decide +kernel)), (dx_T_of (List.mem_of_getElem? (i := 759) (by decide +kernel)) (by decide +kernel)), by decide +kernel, by decide +kernel, by decide +kernel⟩
set_option maxRecDepth 20000 in
theorem kc_X4_toldOf : dx_Cok km_X4_toldOf 2 := ⟨(dx_T_of (List.mem_of_getElem? (i := 41) (by decide +kernel)) (by decide +kernel)), (dx_T_of (List.mem_of_getElem? (i := 775) (by decide +kernel)) (by decide +kernel)), by decide +kernel, by decide +kernel, by decide +kernel⟩
set_option maxRecDepth 20000 in
theorem kc_X4_squareMany : dx_Cok km_X4_squareMany 0 := ⟨(dx_T_of (List.mem_of_getElem? (i := 41) (by decide +kernel)) (by decide +kernel)), (dx_T_of (List.mem_of_getElem? (i := 795) (by decide +kernel)) (by decide +kernel)), by decide +kernel, by decide +kernel, by decide +kernel⟩
set_option maxRecDepth 20000 in
theorem kc_X4_squareWeights : dx_Cok km_X4_squareWeights 0 := ⟨(dx_T_of (List.mem_of_getElem? (i := 41) (by decide +kernel)) (by decide +kernel)), (dx_T_of (List.mem_of_getElem? (i := 787) (by decide +kernel)) (by decide +kernel)), by decide +kernel, by decide +kernel, by decide +kernel⟩
set_option maxRecDepth 20000 in
theorem kc_X4_all : dx_Cok km_X4_all 0 := ⟨(dx_T_of (List.mem_of_getElem? (i := 41) (by decide +kernel)) (by decide +kernel)), (dx_T_of (List.mem_of_getElem? (i := 783) (by decide +kernel)) (by decide +kernel)), by decide +kernel, by decide +kernel, by decide +kernel⟩
set_option maxRecDepth 20000 in
theorem kc_X4_lay_ : dx_Cok km_X4_lay_ 1 := ⟨(dx_T_of (List.mem_of_getElem? (i := 41) (by decide +kernel)) (by decide +kernel)), (dx_T_of (List.mem_of_getElem? (i := 808) (by decide +kernel)) (by decide +kernel)), by decide +kernel, by decide +kernel, by decide +kernel⟩
set_option maxRecDepth 20000 in
theorem kc_X4_isWetAt : dx_Cok km_X4_isWetAt 3 := ⟨(dx_T_of (List.mem_of_getElem? (i := 41) (by decide +kernel)) (by decide +kernel)), (dx_T_of (List.mem_of_getElem? (i := 820) (by decide +kernel)) (by decide +kernel)), by decide +kernel, by decide +kernel, by decide +kernel⟩
set_option maxRecDepth 20000 in
theorem kc_X4_spread : dx_Cok km_X4_spread 1 := ⟨(dx_T_of (List.mem_of_getElem? (i := 41) (by decide +kernel)) (by decide +kernel)), (dx_T_of (List.mem_of_getElem? (i := 816) (by decide +kernel)) (by decide +kernel)), by decide +kernel, by decide +kernel, by decide +kernel⟩
set_option maxRecDepth 20000 in
theorem kc_X4_firmIn : dx_Cok km_X4_firmIn 1 := ⟨(dx_T_of (List.mem_of_getElem? (i := 41) (by decide +kernel)) (by decide +kernel)), (dx_T_of (List.mem_of_getElem? (i := 828) (by decide +kernel)) (by decide +kernel)), by decide +kernel, by decide +kernel, by decide +kernel⟩
set_option maxRecDepth 20000 in
theorem kc_X4_firmBelow : dx_Cok km_X4_firmBelow 1 := ⟨(dx_T_of (List.mem_of_getElem? (i := 41) (by decide +kernel)) (by decide +kernel)), (dx_T_of (List.mem_of_getElem? (i := 824) (by decide +kernel)) (by decide +kernel)), by decide +kernel, by decide +kernel, by decide +kernel⟩
set_option maxRecDepth 20000 in
theorem kc_X4_finds : dx_Cok km_X4_finds 1 := ⟨(dx_T_of (List.mem_of_getElem? (i := 41) (by decide +kernel)) (by decide +kernel)), (dx_T_of (List.mem_of_getElem? (i := 812) (by decide +kernel)) (by decide +kernel)), by decide +kernel, by decide +kernel, by decide +kernel⟩
set_option maxRecDepth 20000 in
theorem kc_X4_afloat : dx_Cok km_X4_afloat 2 := ⟨(dx_T_of (List.mem_of_getElem? (i := 41) (by decide +kernel)) (by decide +kernel)), (dx_T_of (List.mem_of_getElem? (i := 803) (by decide +kernel)) (by decide +kernel)), by decide +kernel, by decide +kernel, by decide +kernel⟩
set_option maxRecDepth 20000 in
theorem kc_X4_laySums : dx_Cok km_X4_laySums 0 := ⟨(dx_T_of (List.mem_of_getElem? (i := 41) (by decide +kernel)) (by decide +kernel)), (dx_T_of (List.mem_of_getElem? (i := 855) (by decide +kernel)) (by decide +kernel)), by decide +kernel, by decide +kernel, by decide +kernel⟩
set_option maxRecDepth 20000 in
theorem kc_X4_layPowers : dx_Cok km_X4_layPowers 0 := ⟨(dx_T_of (List.mem_of_getElem? (i := 41) (by decide +kernel)) (by decide +kernel)), (dx_T_of (List.mem_of_getElem? (i := 851) (by decide +kernel)) (by decide +kernel)), by decide +kernel, by decide +kernel, by decide +kernel⟩
set_option maxRecDepth 20000 in
theorem kc_X4_lean : dx_Cok km_X4_lean 0 := ⟨(dx_T_of (List.mem_of_getElem? (i := 41) (by decide +kernel)) (by decide +kernel)), (dx_T_of (List.mem_of_getElem? (i := 868) (by decide +kernel)) (by decide +kernel)), by decide +kernel, by decide +kernel, by decide +kernel⟩
set_option maxRecDepth 20000 in
theorem kc_X4_layBreadth : dx_Cok km_X4_layBreadth 1 := ⟨(dx_T_of (List.mem_of_getElem? (i := 41) (by decide +kernel)) (by decide +kernel)), (dx_T_of (List.mem_of_getElem? (i := 880) (by decide +kernel)) (by decide +kernel)), by decide +kernel, by decide +kernel, by decide +kernel⟩
set_option maxRecDepth 20000 in
theorem kc_X4_leastBreadth : dx_Cok km_X4_leastBreadth 0 := ⟨(dx_T_of (List.mem_of_getElem? (i := 41) (by decide +kernel)) (by decide +kernel)), (dx_T_of (List.mem_of_getElem? (i := 876) (by decide +kernel)) (by decide +kernel)), by decide +kernel, by decide +kernel, by decide +kernel⟩
set_option maxRecDepth 20000 in
theorem kc_X4_holdsNow : dx_Cok km_X4_holdsNow 0 := ⟨(dx_T_of (List.mem_of_getElem? (i := 41) (by decide +kernel)) (by decide +kernel)), (dx_T_of (List.mem_of_getElem? (i := 891) (by decide +kernel)) (by decide +kernel)), by decide +kernel, by decide +kernel, by decide +kernel⟩
set_option maxRecDepth 20000 in
theorem kc_X4_mostRoom : dx_Cok km_X4_mostRoom 0 := ⟨(dx_T_of (List.mem_of_getElem? (i := 41) (by decide +kernel)) (by decide +kernel)), (dx_T_of (List.mem_of_getElem? (i := 903) (by decide +kernel)) (by decide +kernel)), by decide +kernel, by decide +kernel, by decide +kernel⟩
set_option maxRecDepth 20000 in
theorem kc_J6_bitCount_0f7a4 : dx_Cok km_J6_bitCount_0f7a4 1 := ⟨(dx_T_of (List.mem_of_getElem? (i := 44) (by decide +kernel)) (by decide +kernel)), (dx_T_of (List.mem_of_getElem? (i := 381) (by decide +kernel)) (by decide +kernel)), by decide +kernel, by decide +kernel, by decide +kernel⟩
set_option maxRecDepth 20000 in
theorem kc_J13_compare_74951 : dx_Cok km_J13_compare_74951 2 := ⟨(dx_T_of (List.mem_of_getElem? (i := 45) (by decide +kernel)) (by decide +kernel)), (dx_T_of (List.mem_of_getElem? (i := 487) (by decide +kernel)) (by decide +kernel)), by decide +kernel, by decide +kernel, by decide +kernel⟩
theorem kw_J13 : ∀ (x : Nat) (e : Nat × Nat × Nat), dx_look kp_J13 x = some e → dx_pok dx_P RJ13 x e := fun x e h => dx_look_all (F := fun x e => dx_pok dx_P RJ13 x e) (show ∀ q ∈ kp_J13, dx_pok dx_P RJ13 q.1 q.2 from fun _ h => absurd h List.not_mem_nil) h
set_option maxRecDepth 20000 in
theorem kw_J6_265 : dx_pok dx_P RJ6 265 (5, 1431656765, 0) := dx_pok5 (dx_T_of (List.mem_of_getElem? (i := 382) (by decide +kernel)) (by decide +kernel))
set_option maxRecDepth 20000 in
theorem kw_J6_266 : dx_pok dx_P RJ6 266 (5, 858994459, 0) := dx_pok5 (dx_T_of (List.mem_of_getElem? (i := 383) (by decide +kernel)) (by decide +kernel))
set_option maxRecDepth 20000 in
theorem kw_J6_267 : dx_pok dx_P RJ6 267 (5, 252646135, 0) := dx_pok5 (dx_T_of (List.mem_of_getElem? (i := 384) (by decide +kernel)) (by decide +kernel))
theorem kw_J6 : ∀ (x : Nat) (e : Nat × Nat × Nat), dx_look kp_J6 x = some e → dx_pok dx_P RJ6 x e := fun x e h => dx_look_all (F := fun x e => dx_pok dx_P RJ6 x e) (show ∀ q ∈ kp_J6, dx_pok dx_P RJ6 q.1 q.2 from List.forall_mem_cons.mpr ⟨kw_J6_265, List.forall_mem_cons.mpr ⟨kw_J6_266, List.forall_mem_cons.mpr ⟨kw_J6_267, fun _ h => absurd h List.not_mem_nil⟩⟩⟩) h
set_option maxRecDepth 20000 in
theorem kw_X0_9 : dx_pok dx_P RX0 9 (0, 0, 0) := dx_pok0 (C := RX0) (T := TX0) (N := 3) rfl (by decide) (dx_T_of (List.mem_of_getElem? (i := 64) (by decide +kernel)) (by decide +kernel))
set_option maxRecDepth 20000 in
theorem kw_X0_19 : dx_pok dx_P RX0 19 (0, 0, 1) := dx_pok0 (C := RX0) (T := TX0) (N := 3) rfl (by decide) (dx_T_of (List.mem_of_getElem? (i := 65) (by decide +kernel)) (by decide +kernel))
set_option maxRecDepth 20000 in
theorem kw_X0_23 : dx_pok dx_P RX0 23 (0, 0, 2) := dx_pok0 (C := RX0) (T := TX0) (N := 3) rfl (by decide) (dx_T_of (List.mem_of_getElem? (i := 68) (by decide +kernel)) (by decide +kernel))
set_option maxRecDepth 20000 in
theorem kw_X0_26 : dx_pok dx_P RX0 26 (3, 64, 3) := dx_pok3 (K := km_X3_within) (host := "LogsAfloat") rfl (by decide +kernel) (dx_T_of (List.mem_of_getElem? (i := 201) (by decide +kernel)) (by decide +kernel)) kc_X3_within
set_option maxRecDepth 20000 in
theorem kw_X0_30 : dx_pok dx_P RX0 30 (1, 2, 2) := dx_pok1 (K := km_X0_weightOf) (q := (RX0, TX0, 3)) rfl rfl rfl (dx_T_of (List.mem_of_getElem? (i := 428) (by decide +kernel)) (by decide +kernel)) (dx_T_of (List.mem_of_getElem? (i := 214) (by decide +kernel)) (by decide +kernel)) (dx_T_of (List.mem_of_getElem? (i := 215) (by decide +kernel)) (by decide +kernel)) kc_X0_weightOf rfl
set_option maxRecDepth 20000 in
theorem kw_X0_34 : dx_pok dx_P RX0 34 (7, 0, 0) := dx_pok7 (dx_T_of (List.mem_of_getElem? (i := 429) (by decide +kernel)) (by decide +kernel)) (dx_T_of (List.mem_of_getElem? (i := 430) (by decide +kernel)) (by decide +kernel)) (dx_T_of (List.mem_of_getElem? (i := 43) (by decide +kernel)) (by decide +kernel)) (dx_T_of (List.mem_of_getElem? (i := 431) (by decide +kernel)) (by decide +kernel))
set_option maxRecDepth 20000 in
theorem kw_X0_39 : dx_pok dx_P RX0 39 (3, 80, 5) := dx_pok3 (K := km_X3_turnedAcross) (host := "LogsAfloat") rfl (by decide +kernel) (dx_T_of (List.mem_of_getElem? (i := 350) (by decide +kernel)) (by decide +kernel)) kc_X3_turnedAcross
set_option maxRecDepth 20000 in
theorem kw_X0_43 : dx_pok dx_P RX0 43 (3, 81, 5) := dx_pok3 (K := km_X3_turnedUp) (host := "LogsAfloat") rfl (by decide +kernel) (dx_T_of (List.mem_of_getElem? (i := 353) (by decide +kernel)) (by decide +kernel)) kc_X3_turnedUp
theorem kw_X0 : ∀ (x : Nat) (e : Nat × Nat × Nat), dx_look kp_X0 x = some e → dx_pok dx_P RX0 x e := fun x e h => dx_look_all (F := fun x e => dx_pok dx_P RX0 x e) (show ∀ q ∈ kp_X0, dx_pok dx_P RX0 q.1 q.2 from List.forall_mem_cons.mpr ⟨kw_X0_9, List.forall_mem_cons.mpr ⟨kw_X0_19, List.forall_mem_cons.mpr ⟨kw_X0_23, List.forall_mem_cons.mpr ⟨kw_X0_26, List.forall_mem_cons.mpr ⟨kw_X0_30, List.forall_mem_cons.mpr ⟨kw_X0_34, List.forall_mem_cons.mpr ⟨kw_X0_39, List.forall_mem_cons.mpr ⟨kw_X0_43, fun _ h => absurd h List.not_mem_nil⟩⟩⟩⟩⟩⟩⟩⟩) h
set_option maxRecDepth 20000 in
theorem kw_X1_9 : dx_pok dx_P RX1 9 (0, 1, 0) := dx_pok0 (C := RX1) (T := TX1) (N := 11) rfl (by decide) (dx_T_of (List.mem_of_getElem? (i := 85) (by decide +kernel)) (by decide +kernel))
set_option maxRecDepth 20000 in
theorem kw_X1_15 : dx_pok dx_P RX1 15 (0, 1, 1) := dx_pok0 (C := RX1) (T := TX1) (N := 11) rfl (by decide) (dx_T_of (List.mem_of_getElem? (i := 86) (by decide +kernel)) (by decide +kernel))
set_option maxRecDepth 20000 in
theorem kw_X1_18 : dx_pok dx_P RX1 18 (1, 4, 1) := dx_pok1 (K := km_X0_across) (q := (RX0, TX0, 3)) rfl rfl rfl (dx_T_of (List.mem_of_getElem? (i := 340) (by decide +kernel)) (by decide +kernel)) (dx_T_of (List.mem_of_getElem? (i := 341) (by decide +kernel)) (by decide +kernel)) (dx_T_of (List.mem_of_getElem? (i := 342) (by decide +kernel)) (by decide +kernel)) kc_X0_across rfl
set_option maxRecDepth 20000 in
theorem kw_X1_24 : dx_pok dx_P RX1 24 (0, 1, 2) := dx_pok0 (C := RX1) (T := TX1) (N := 11) rfl (by decide) (dx_T_of (List.mem_of_getElem? (i := 87) (by decide +kernel)) (by decide +kernel))
set_option maxRecDepth 20000 in
theorem kw_X1_28 : dx_pok dx_P RX1 28 (1, 5, 1) := dx_pok1 (K := km_X0_up) (q := (RX0, TX0, 3)) rfl rfl rfl (dx_T_of (List.mem_of_getElem? (i := 344) (by decide +kernel)) (by decide +kernel)) (dx_T_of (List.mem_of_getElem? (i := 345) (by decide +kernel)) (by decide +kernel)) (dx_T_of (List.mem_of_getElem? (i := 346) (by decide +kernel)) (by decide +kernel)) kc_X0_up rfl
set_option maxRecDepth 20000 in
theorem kw_X1_31 : dx_pok dx_P RX1 31 (0, 1, 3) := dx_pok0 (C := RX1) (T := TX1) (N := 11) rfl (by decide) (dx_T_of (List.mem_of_getElem? (i := 88) (by decide +kernel)) (by decide +kernel))
set_option maxRecDepth 20000 in
theorem kw_X1_34 : dx_pok dx_P RX1 34 (0, 1, 4) := dx_pok0 (C := RX1) (T := TX1) (N := 11) rfl (by decide) (dx_T_of (List.mem_of_getElem? (i := 90) (by decide +kernel)) (by decide +kernel))
set_option maxRecDepth 20000 in
theorem kw_X1_37 : dx_pok dx_P RX1 37 (0, 0, 2) := dx_pok0 (C := RX0) (T := TX0) (N := 3) rfl (by decide) (dx_T_of (List.mem_of_getElem? (i := 69) (by decide +kernel)) (by decide +kernel))
set_option maxRecDepth 20000 in
theorem kw_X1_38 : dx_pok dx_P RX1 38 (0, 0, 1) := dx_pok0 (C := RX0) (T := TX0) (N := 3) rfl (by decide) (dx_T_of (List.mem_of_getElem? (i := 66) (by decide +kernel)) (by decide +kernel))
set_option maxRecDepth 20000 in
theorem kw_X1_39 : dx_pok dx_P RX1 39 (1, 2, 2) := dx_pok1 (K := km_X0_weightOf) (q := (RX0, TX0, 3)) rfl rfl rfl (dx_T_of (List.mem_of_getElem? (i := 348) (by decide +kernel)) (by decide +kernel)) (dx_T_of (List.mem_of_getElem? (i := 214) (by decide +kernel)) (by decide +kernel)) (dx_T_of (List.mem_of_getElem? (i := 215) (by decide +kernel)) (by decide +kernel)) kc_X0_weightOf rfl
set_option maxRecDepth 20000 in
theorem kw_X1_43 : dx_pok dx_P RX1 43 (3, 80, 5) := dx_pok3 (K := km_X3_turnedAcross) (host := "LogsAfloat") rfl (by decide +kernel) (dx_T_of (List.mem_of_getElem? (i := 350) (by decide +kernel)) (by decide +kernel)) kc_X3_turnedAcross
set_option maxRecDepth 20000 in
theorem kw_X1_47 : dx_pok dx_P RX1 47 (3, 81, 5) := dx_pok3 (K := km_X3_turnedUp) (host := "LogsAfloat") rfl (by decide +kernel) (dx_T_of (List.mem_of_getElem? (i := 353) (by decide +kernel)) (by decide +kernel)) kc_X3_turnedUp
set_option maxRecDepth 20000 in
theorem kw_X1_50 : dx_pok dx_P RX1 50 (1, 12, 17) := dx_pok1 (K := km_X1_waysInto) (q := (RX1, TX1, 11)) rfl rfl rfl (dx_T_of (List.mem_of_getElem? (i := 363) (by decide +kernel)) (by decide +kernel)) (dx_T_of (List.mem_of_getElem? (i := 364) (by decide +kernel)) (by decide +kernel)) (dx_T_of (List.mem_of_getElem? (i := 365) (by decide +kernel)) (by decide +kernel)) kc_X1_waysInto rfl
set_option maxRecDepth 20000 in
theorem kw_X1_53 : dx_pok dx_P RX1 53 (1, 13, 16) := dx_pok1 (K := km_X1_spread) (q := (RX1, TX1, 11)) rfl rfl rfl (dx_T_of (List.mem_of_getElem? (i := 367) (by decide +kernel)) (by decide +kernel)) (dx_T_of (List.mem_of_getElem? (i := 368) (by decide +kernel)) (by decide +kernel)) (dx_T_of (List.mem_of_getElem? (i := 369) (by decide +kernel)) (by decide +kernel)) kc_X1_spread rfl
set_option maxRecDepth 20000 in
theorem kw_X1_56 : dx_pok dx_P RX1 56 (1, 15, 16) := dx_pok1 (K := km_X1_countFirm) (q := (RX1, TX1, 11)) rfl rfl rfl (dx_T_of (List.mem_of_getElem? (i := 371) (by decide +kernel)) (by decide +kernel)) (dx_T_of (List.mem_of_getElem? (i := 372) (by decide +kernel)) (by decide +kernel)) (dx_T_of (List.mem_of_getElem? (i := 373) (by decide +kernel)) (by decide +kernel)) kc_X1_countFirm rfl
set_option maxRecDepth 20000 in
theorem kw_X1_59 : dx_pok dx_P RX1 59 (0, 1, 5) := dx_pok0 (C := RX1) (T := TX1) (N := 11) rfl (by decide) (dx_T_of (List.mem_of_getElem? (i := 92) (by decide +kernel)) (by decide +kernel))
set_option maxRecDepth 20000 in
theorem kw_X1_62 : dx_pok dx_P RX1 62 (1, 14, 17) := dx_pok1 (K := km_X1_firm) (q := (RX1, TX1, 11)) rfl rfl rfl (dx_T_of (List.mem_of_getElem? (i := 375) (by decide +kernel)) (by decide +kernel)) (dx_T_of (List.mem_of_getElem? (i := 376) (by decide +kernel)) (by decide +kernel)) (dx_T_of (List.mem_of_getElem? (i := 377) (by decide +kernel)) (by decide +kernel)) kc_X1_firm rfl
set_option maxRecDepth 20000 in
theorem kw_X1_65 : dx_pok dx_P RX1 65 (2, 143, 1) := dx_pok2 (K := km_J6_bitCount_0f7a4) rfl (dx_T_of (List.mem_of_getElem? (i := 379) (by decide +kernel)) (by decide +kernel)) (dx_T_of (List.mem_of_getElem? (i := 380) (by decide +kernel)) (by decide +kernel)) kc_J6_bitCount_0f7a4
set_option maxRecDepth 20000 in
theorem kw_X1_70 : dx_pok dx_P RX1 70 (0, 1, 6) := dx_pok0 (C := RX1) (T := TX1) (N := 11) rfl (by decide) (dx_T_of (List.mem_of_getElem? (i := 94) (by decide +kernel)) (by decide +kernel))
set_option maxRecDepth 20000 in
theorem kw_X1_73 : dx_pok dx_P RX1 73 (1, 11, 17) := dx_pok1 (K := km_X1_riseTo) (q := (RX1, TX1, 11)) rfl rfl rfl (dx_T_of (List.mem_of_getElem? (i := 359) (by decide +kernel)) (by decide +kernel)) (dx_T_of (List.mem_of_getElem? (i := 360) (by decide +kernel)) (by decide +kernel)) (dx_T_of (List.mem_of_getElem? (i := 361) (by decide +kernel)) (by decide +kernel)) kc_X1_riseTo rfl
set_option maxRecDepth 20000 in
theorem kw_X1_77 : dx_pok dx_P RX1 77 (0, 1, 7) := dx_pok0 (C := RX1) (T := TX1) (N := 11) rfl (by decide) (dx_T_of (List.mem_of_getElem? (i := 96) (by decide +kernel)) (by decide +kernel))
set_option maxRecDepth 20000 in
theorem kw_X1_81 : dx_pok dx_P RX1 81 (0, 1, 8) := dx_pok0 (C := RX1) (T := TX1) (N := 11) rfl (by decide) (dx_T_of (List.mem_of_getElem? (i := 98) (by decide +kernel)) (by decide +kernel))
set_option maxRecDepth 20000 in
theorem kw_X1_84 : dx_pok dx_P RX1 84 (7, 0, 0) := dx_pok7 (dx_T_of (List.mem_of_getElem? (i := 500) (by decide +kernel)) (by decide +kernel)) (dx_T_of (List.mem_of_getElem? (i := 430) (by decide +kernel)) (by decide +kernel)) (dx_T_of (List.mem_of_getElem? (i := 43) (by decide +kernel)) (by decide +kernel)) (dx_T_of (List.mem_of_getElem? (i := 431) (by decide +kernel)) (by decide +kernel))
set_option maxRecDepth 20000 in
theorem kw_X1_89 : dx_pok dx_P RX1 89 (1, 19, 17) := dx_pok1 (K := km_X1_halves) (q := (RX1, TX1, 11)) rfl rfl rfl (dx_T_of (List.mem_of_getElem? (i := 411) (by decide +kernel)) (by decide +kernel)) (dx_T_of (List.mem_of_getElem? (i := 412) (by decide +kernel)) (by decide +kernel)) (dx_T_of (List.mem_of_getElem? (i := 413) (by decide +kernel)) (by decide +kernel)) kc_X1_halves rfl
set_option maxRecDepth 20000 in
theorem kw_X1_92 : dx_pok dx_P RX1 92 (1, 23, 16) := dx_pok1 (K := km_X1_measureRow) (q := (RX1, TX1, 11)) rfl rfl rfl (dx_T_of (List.mem_of_getElem? (i := 470) (by decide +kernel)) (by decide +kernel)) (dx_T_of (List.mem_of_getElem? (i := 471) (by decide +kernel)) (by decide +kernel)) (dx_T_of (List.mem_of_getElem? (i := 472) (by decide +kernel)) (by decide +kernel)) kc_X1_measureRow rfl
set_option maxRecDepth 20000 in
theorem kw_X1_95 : dx_pok dx_P RX1 95 (0, 1, 9) := dx_pok0 (C := RX1) (T := TX1) (N := 11) rfl (by decide) (dx_T_of (List.mem_of_getElem? (i := 100) (by decide +kernel)) (by decide +kernel))
set_option maxRecDepth 20000 in
theorem kw_X1_98 : dx_pok dx_P RX1 98 (0, 1, 10) := dx_pok0 (C := RX1) (T := TX1) (N := 11) rfl (by decide) (dx_T_of (List.mem_of_getElem? (i := 102) (by decide +kernel)) (by decide +kernel))
set_option maxRecDepth 20000 in
theorem kw_X1_101 : dx_pok dx_P RX1 101 (6, 1004, 0) := dx_pok6 (dx_T_of (List.mem_of_getElem? (i := 474) (by decide +kernel)) (by decide +kernel))
set_option maxRecDepth 20000 in
theorem kw_X1_103 : dx_pok dx_P RX1 103 (6, 1003, 0) := dx_pok6 (dx_T_of (List.mem_of_getElem? (i := 475) (by decide +kernel)) (by decide +kernel))
set_option maxRecDepth 20000 in
theorem kw_X1_105 : dx_pok dx_P RX1 105 (6, 1012, 0) := dx_pok6 (dx_T_of (List.mem_of_getElem? (i := 476) (by decide +kernel)) (by decide +kernel))
theorem kw_X1 : ∀ (x : Nat) (e : Nat × Nat × Nat), dx_look kp_X1 x = some e → dx_pok dx_P RX1 x e := fun x e h => dx_look_all (F := fun x e => dx_pok dx_P RX1 x e) (show ∀ q ∈ kp_X1, dx_pok dx_P RX1 q.1 q.2 from List.forall_mem_cons.mpr ⟨kw_X1_9, List.forall_mem_cons.mpr ⟨kw_X1_15, List.forall_mem_cons.mpr ⟨kw_X1_18, List.forall_mem_cons.mpr ⟨kw_X1_24, List.forall_mem_cons.mpr ⟨kw_X1_28, List.forall_mem_cons.mpr ⟨kw_X1_31, List.forall_mem_cons.mpr ⟨kw_X1_34, List.forall_mem_cons.mpr ⟨kw_X1_37, List.forall_mem_cons.mpr ⟨kw_X1_38, List.forall_mem_cons.mpr ⟨kw_X1_39, List.forall_mem_cons.mpr ⟨kw_X1_43, List.forall_mem_cons.mpr ⟨kw_X1_47, List.forall_mem_cons.mpr ⟨kw_X1_50, List.forall_mem_cons.mpr ⟨kw_X1_53, List.forall_mem_cons.mpr ⟨kw_X1_56, List.forall_mem_cons.mpr ⟨kw_X1_59, List.forall_mem_cons.mpr ⟨kw_X1_62, List.forall_mem_cons.mpr ⟨kw_X1_65, List.forall_mem_cons.mpr ⟨kw_X1_70, List.forall_mem_cons.mpr ⟨kw_X1_73, List.forall_mem_cons.mpr ⟨kw_X1_77, List.forall_mem_cons.mpr ⟨kw_X1_81, List.forall_mem_cons.mpr ⟨kw_X1_84, List.forall_mem_cons.mpr ⟨kw_X1_89, List.forall_mem_cons.mpr ⟨kw_X1_92, List.forall_mem_cons.mpr ⟨kw_X1_95, List.forall_mem_cons.mpr ⟨kw_X1_98, List.forall_mem_cons.mpr ⟨kw_X1_101, List.forall_mem_cons.mpr ⟨kw_X1_103, List.forall_mem_cons.mpr ⟨kw_X1_105, fun _ h => absurd h List.not_mem_nil⟩⟩⟩⟩⟩⟩⟩⟩⟩⟩⟩⟩⟩⟩⟩⟩⟩⟩⟩⟩⟩⟩⟩⟩⟩⟩⟩⟩⟩⟩) h
set_option maxRecDepth 20000 in
theorem kw_X2_9 : dx_pok dx_P RX2 9 (0, 2, 0) := dx_pok0 (C := RX2) (T := TX2) (N := 6) rfl (by decide) (dx_T_of (List.mem_of_getElem? (i := 134) (by decide +kernel)) (by decide +kernel))
set_option maxRecDepth 20000 in
theorem kw_X2_15 : dx_pok dx_P RX2 15 (0, 2, 1) := dx_pok0 (C := RX2) (T := TX2) (N := 6) rfl (by decide) (dx_T_of (List.mem_of_getElem? (i := 136) (by decide +kernel)) (by decide +kernel))
set_option maxRecDepth 20000 in
theorem kw_X2_19 : dx_pok dx_P RX2 19 (0, 2, 2) := dx_pok0 (C := RX2) (T := TX2) (N := 6) rfl (by decide) (dx_T_of (List.mem_of_getElem? (i := 138) (by decide +kernel)) (by decide +kernel))
set_option maxRecDepth 20000 in
theorem kw_X2_22 : dx_pok dx_P RX2 22 (0, 2, 3) := dx_pok0 (C := RX2) (T := TX2) (N := 6) rfl (by decide) (dx_T_of (List.mem_of_getElem? (i := 140) (by decide +kernel)) (by decide +kernel))
set_option maxRecDepth 20000 in
theorem kw_X2_25 : dx_pok dx_P RX2 25 (0, 2, 4) := dx_pok0 (C := RX2) (T := TX2) (N := 6) rfl (by decide) (dx_T_of (List.mem_of_getElem? (i := 142) (by decide +kernel)) (by decide +kernel))
set_option maxRecDepth 20000 in
theorem kw_X2_28 : dx_pok dx_P RX2 28 (0, 2, 5) := dx_pok0 (C := RX2) (T := TX2) (N := 6) rfl (by decide) (dx_T_of (List.mem_of_getElem? (i := 144) (by decide +kernel)) (by decide +kernel))
theorem kw_X2 : ∀ (x : Nat) (e : Nat × Nat × Nat), dx_look kp_X2 x = some e → dx_pok dx_P RX2 x e := fun x e h => dx_look_all (F := fun x e => dx_pok dx_P RX2 x e) (show ∀ q ∈ kp_X2, dx_pok dx_P RX2 q.1 q.2 from List.forall_mem_cons.mpr ⟨kw_X2_9, List.forall_mem_cons.mpr ⟨kw_X2_15, List.forall_mem_cons.mpr ⟨kw_X2_19, List.forall_mem_cons.mpr ⟨kw_X2_22, List.forall_mem_cons.mpr ⟨kw_X2_25, List.forall_mem_cons.mpr ⟨kw_X2_28, fun _ h => absurd h List.not_mem_nil⟩⟩⟩⟩⟩⟩) h
set_option maxRecDepth 20000 in
theorem kw_X3_12 : dx_pok dx_P RX3 12 (0, 3, 0) := dx_pok0 (C := RX3) (T := TX3) (N := 11) rfl (by decide) (dx_T_of (List.mem_of_getElem? (i := 161) (by decide +kernel)) (by decide +kernel))
set_option maxRecDepth 20000 in
theorem kw_X3_19 : dx_pok dx_P RX3 19 (0, 3, 1) := dx_pok0 (C := RX3) (T := TX3) (N := 11) rfl (by decide) (dx_T_of (List.mem_of_getElem? (i := 162) (by decide +kernel)) (by decide +kernel))
set_option maxRecDepth 20000 in
theorem kw_X3_25 : dx_pok dx_P RX3 25 (0, 3, 2) := dx_pok0 (C := RX3) (T := TX3) (N := 11) rfl (by decide) (dx_T_of (List.mem_of_getElem? (i := 163) (by decide +kernel)) (by decide +kernel))
set_option maxRecDepth 20000 in
theorem kw_X3_32 : dx_pok dx_P RX3 32 (0, 3, 3) := dx_pok0 (C := RX3) (T := TX3) (N := 11) rfl (by decide) (dx_T_of (List.mem_of_getElem? (i := 164) (by decide +kernel)) (by decide +kernel))
set_option maxRecDepth 20000 in
theorem kw_X3_35 : dx_pok dx_P RX3 35 (0, 3, 4) := dx_pok0 (C := RX3) (T := TX3) (N := 11) rfl (by decide) (dx_T_of (List.mem_of_getElem? (i := 165) (by decide +kernel)) (by decide +kernel))
set_option maxRecDepth 20000 in
theorem kw_X3_39 : dx_pok dx_P RX3 39 (0, 3, 5) := dx_pok0 (C := RX3) (T := TX3) (N := 11) rfl (by decide) (dx_T_of (List.mem_of_getElem? (i := 166) (by decide +kernel)) (by decide +kernel))
set_option maxRecDepth 20000 in
theorem kw_X3_42 : dx_pok dx_P RX3 42 (0, 3, 6) := dx_pok0 (C := RX3) (T := TX3) (N := 11) rfl (by decide) (dx_T_of (List.mem_of_getElem? (i := 167) (by decide +kernel)) (by decide +kernel))
set_option maxRecDepth 20000 in
theorem kw_X3_46 : dx_pok dx_P RX3 46 (0, 3, 10) := dx_pok0 (C := RX3) (T := TX3) (N := 11) rfl (by decide) (dx_T_of (List.mem_of_getElem? (i := 171) (by decide +kernel)) (by decide +kernel))
set_option maxRecDepth 20000 in
theorem kw_X3_50 : dx_pok dx_P RX3 50 (2, 64, 3) := dx_pok2 (K := km_X3_within) rfl (dx_T_of (List.mem_of_getElem? (i := 200) (by decide +kernel)) (by decide +kernel)) (dx_T_of (List.mem_of_getElem? (i := 201) (by decide +kernel)) (by decide +kernel)) kc_X3_within
set_option maxRecDepth 20000 in
theorem kw_X3_54 : dx_pok dx_P RX3 54 (1, 0, 2) := dx_pok1 (K := km_X0_begin) (q := (RX0, TX0, 3)) rfl rfl rfl (dx_T_of (List.mem_of_getElem? (i := 203) (by decide +kernel)) (by decide +kernel)) (dx_T_of (List.mem_of_getElem? (i := 61) (by decide +kernel)) (by decide +kernel)) (dx_T_of (List.mem_of_getElem? (i := 62) (by decide +kernel)) (by decide +kernel)) kc_X0_begin rfl
set_option maxRecDepth 20000 in
theorem kw_X3_58 : dx_pok dx_P RX3 58 (0, 3, 7) := dx_pok0 (C := RX3) (T := TX3) (N := 11) rfl (by decide) (dx_T_of (List.mem_of_getElem? (i := 168) (by decide +kernel)) (by decide +kernel))
set_option maxRecDepth 20000 in
theorem kw_X3_61 : dx_pok dx_P RX3 61 (1, 1, 2) := dx_pok1 (K := km_X0_has) (q := (RX0, TX0, 3)) rfl rfl rfl (dx_T_of (List.mem_of_getElem? (i := 208) (by decide +kernel)) (by decide +kernel)) (dx_T_of (List.mem_of_getElem? (i := 209) (by decide +kernel)) (by decide +kernel)) (dx_T_of (List.mem_of_getElem? (i := 210) (by decide +kernel)) (by decide +kernel)) kc_X0_has rfl
set_option maxRecDepth 20000 in
theorem kw_X3_65 : dx_pok dx_P RX3 65 (1, 2, 2) := dx_pok1 (K := km_X0_weightOf) (q := (RX0, TX0, 3)) rfl rfl rfl (dx_T_of (List.mem_of_getElem? (i := 213) (by decide +kernel)) (by decide +kernel)) (dx_T_of (List.mem_of_getElem? (i := 214) (by decide +kernel)) (by decide +kernel)) (dx_T_of (List.mem_of_getElem? (i := 215) (by decide +kernel)) (by decide +kernel)) kc_X0_weightOf rfl
set_option maxRecDepth 20000 in
theorem kw_X3_69 : dx_pok dx_P RX3 69 (1, 3, 3) := dx_pok1 (K := km_X0_put) (q := (RX0, TX0, 3)) rfl rfl rfl (dx_T_of (List.mem_of_getElem? (i := 217) (by decide +kernel)) (by decide +kernel)) (dx_T_of (List.mem_of_getElem? (i := 218) (by decide +kernel)) (by decide +kernel)) (dx_T_of (List.mem_of_getElem? (i := 219) (by decide +kernel)) (by decide +kernel)) kc_X0_put rfl
set_option maxRecDepth 20000 in
theorem kw_X3_73 : dx_pok dx_P RX3 73 (2, 66, 1) := dx_pok2 (K := km_X3_isSheet) rfl (dx_T_of (List.mem_of_getElem? (i := 233) (by decide +kernel)) (by decide +kernel)) (dx_T_of (List.mem_of_getElem? (i := 234) (by decide +kernel)) (by decide +kernel)) kc_X3_isSheet
set_option maxRecDepth 20000 in
theorem kw_X3_77 : dx_pok dx_P RX3 77 (1, 70, 49) := dx_pok1 (K := km_X3_find) (q := (RX3, TX3, 11)) rfl rfl rfl (dx_T_of (List.mem_of_getElem? (i := 236) (by decide +kernel)) (by decide +kernel)) (dx_T_of (List.mem_of_getElem? (i := 238) (by decide +kernel)) (by decide +kernel)) (dx_T_of (List.mem_of_getElem? (i := 0) (by decide +kernel)) (by decide +kernel)) kc_X3_find rfl
set_option maxRecDepth 20000 in
theorem kw_X3_81 : dx_pok dx_P RX3 81 (1, 69, 51) := dx_pok1 (K := km_X3_reaches) (q := (RX3, TX3, 11)) rfl rfl rfl (dx_T_of (List.mem_of_getElem? (i := 252) (by decide +kernel)) (by decide +kernel)) (dx_T_of (List.mem_of_getElem? (i := 254) (by decide +kernel)) (by decide +kernel)) (dx_T_of (List.mem_of_getElem? (i := 1) (by decide +kernel)) (by decide +kernel)) kc_X3_reaches rfl
set_option maxRecDepth 20000 in
theorem kw_X3_84 : dx_pok dx_P RX3 84 (4, 0, 0) := dx_pok4 (dx_T_of (List.mem_of_getElem? (i := 256) (by decide +kernel)) (by decide +kernel)) (dx_T_of (List.mem_of_getElem? (i := 258) (by decide +kernel)) (by decide +kernel)) (dx_T_of (List.mem_of_getElem? (i := 257) (by decide +kernel)) (by decide +kernel)) (dx_T_of (List.mem_of_getElem? (i := 42) (by decide +kernel)) (by decide +kernel))
set_option maxRecDepth 20000 in
theorem kw_X3_90 : dx_pok dx_P RX3 90 (0, 0, 1) := dx_pok0 (C := RX0) (T := TX0) (N := 3) rfl (by decide) (dx_T_of (List.mem_of_getElem? (i := 67) (by decide +kernel)) (by decide +kernel))
set_option maxRecDepth 20000 in
theorem kw_X3_93 : dx_pok dx_P RX3 93 (8, 0, 0) := dx_pok8 (dx_T_of (List.mem_of_getElem? (i := 263) (by decide +kernel)) (by decide +kernel)) (dx_T_of (List.mem_of_getElem? (i := 264) (by decide +kernel)) (by decide +kernel)) (dx_T_of (List.mem_of_getElem? (i := 43) (by decide +kernel)) (by decide +kernel)) (dx_T_of (List.mem_of_getElem? (i := 265) (by decide +kernel)) (by decide +kernel))
set_option maxRecDepth 20000 in
theorem kw_X3_98 : dx_pok dx_P RX3 98 (2, 67, 2) := dx_pok2 (K := km_X3_isPoint) rfl (dx_T_of (List.mem_of_getElem? (i := 270) (by decide +kernel)) (by decide +kernel)) (dx_T_of (List.mem_of_getElem? (i := 271) (by decide +kernel)) (by decide +kernel)) kc_X3_isPoint
set_option maxRecDepth 20000 in
theorem kw_X3_101 : dx_pok dx_P RX3 101 (1, 24, 36) := dx_pok1 (K := km_X2_begin) (q := (RX2, TX2, 6)) rfl rfl rfl (dx_T_of (List.mem_of_getElem? (i := 273) (by decide +kernel)) (by decide +kernel)) (dx_T_of (List.mem_of_getElem? (i := 274) (by decide +kernel)) (by decide +kernel)) (dx_T_of (List.mem_of_getElem? (i := 275) (by decide +kernel)) (by decide +kernel)) kc_X2_begin rfl
set_option maxRecDepth 20000 in
theorem kw_X3_104 : dx_pok dx_P RX3 104 (1, 68, 49) := dx_pok1 (K := km_X3_isLoad) (q := (RX3, TX3, 11)) rfl rfl rfl (dx_T_of (List.mem_of_getElem? (i := 281) (by decide +kernel)) (by decide +kernel)) (dx_T_of (List.mem_of_getElem? (i := 283) (by decide +kernel)) (by decide +kernel)) (dx_T_of (List.mem_of_getElem? (i := 2) (by decide +kernel)) (by decide +kernel)) kc_X3_isLoad rfl
set_option maxRecDepth 20000 in
theorem kw_X3_107 : dx_pok dx_P RX3 107 (0, 2, 0) := dx_pok0 (C := RX2) (T := TX2) (N := 6) rfl (by decide) (dx_T_of (List.mem_of_getElem? (i := 135) (by decide +kernel)) (by decide +kernel))
set_option maxRecDepth 20000 in
theorem kw_X3_111 : dx_pok dx_P RX3 111 (0, 2, 1) := dx_pok0 (C := RX2) (T := TX2) (N := 6) rfl (by decide) (dx_T_of (List.mem_of_getElem? (i := 137) (by decide +kernel)) (by decide +kernel))
set_option maxRecDepth 20000 in
theorem kw_X3_114 : dx_pok dx_P RX3 114 (0, 2, 2) := dx_pok0 (C := RX2) (T := TX2) (N := 6) rfl (by decide) (dx_T_of (List.mem_of_getElem? (i := 139) (by decide +kernel)) (by decide +kernel))
set_option maxRecDepth 20000 in
theorem kw_X3_117 : dx_pok dx_P RX3 117 (0, 2, 3) := dx_pok0 (C := RX2) (T := TX2) (N := 6) rfl (by decide) (dx_T_of (List.mem_of_getElem? (i := 141) (by decide +kernel)) (by decide +kernel))
set_option maxRecDepth 20000 in
theorem kw_X3_120 : dx_pok dx_P RX3 120 (0, 2, 5) := dx_pok0 (C := RX2) (T := TX2) (N := 6) rfl (by decide) (dx_T_of (List.mem_of_getElem? (i := 145) (by decide +kernel)) (by decide +kernel))
set_option maxRecDepth 20000 in
theorem kw_X3_123 : dx_pok dx_P RX3 123 (1, 25, 33) := dx_pok1 (K := km_X2_fact) (q := (RX2, TX2, 6)) rfl rfl rfl (dx_T_of (List.mem_of_getElem? (i := 297) (by decide +kernel)) (by decide +kernel)) (dx_T_of (List.mem_of_getElem? (i := 298) (by decide +kernel)) (by decide +kernel)) (dx_T_of (List.mem_of_getElem? (i := 299) (by decide +kernel)) (by decide +kernel)) kc_X2_fact rfl
set_option maxRecDepth 20000 in
theorem kw_X3_126 : dx_pok dx_P RX3 126 (1, 74, 48) := dx_pok1 (K := km_X3_wholeWeight) (q := (RX3, TX3, 11)) rfl rfl rfl (dx_T_of (List.mem_of_getElem? (i := 309) (by decide +kernel)) (by decide +kernel)) (dx_T_of (List.mem_of_getElem? (i := 311) (by decide +kernel)) (by decide +kernel)) (dx_T_of (List.mem_of_getElem? (i := 3) (by decide +kernel)) (by decide +kernel)) kc_X3_wholeWeight rfl
set_option maxRecDepth 20000 in
theorem kw_X3_130 : dx_pok dx_P RX3 130 (1, 6, 0) := dx_pok1 (K := km_X0_squares) (q := (RX0, TX0, 3)) rfl rfl rfl (dx_T_of (List.mem_of_getElem? (i := 321) (by decide +kernel)) (by decide +kernel)) (dx_T_of (List.mem_of_getElem? (i := 322) (by decide +kernel)) (by decide +kernel)) (dx_T_of (List.mem_of_getElem? (i := 323) (by decide +kernel)) (by decide +kernel)) kc_X0_squares rfl
set_option maxRecDepth 20000 in
theorem kw_X3_133 : dx_pok dx_P RX3 133 (1, 7, 0) := dx_pok1 (K := km_X0_weight) (q := (RX0, TX0, 3)) rfl rfl rfl (dx_T_of (List.mem_of_getElem? (i := 313) (by decide +kernel)) (by decide +kernel)) (dx_T_of (List.mem_of_getElem? (i := 314) (by decide +kernel)) (by decide +kernel)) (dx_T_of (List.mem_of_getElem? (i := 315) (by decide +kernel)) (by decide +kernel)) kc_X0_weight rfl
set_option maxRecDepth 20000 in
theorem kw_X3_136 : dx_pok dx_P RX3 136 (1, 75, 49) := dx_pok1 (K := km_X3_settle) (q := (RX3, TX3, 11)) rfl rfl rfl (dx_T_of (List.mem_of_getElem? (i := 329) (by decide +kernel)) (by decide +kernel)) (dx_T_of (List.mem_of_getElem? (i := 331) (by decide +kernel)) (by decide +kernel)) (dx_T_of (List.mem_of_getElem? (i := 4) (by decide +kernel)) (by decide +kernel)) kc_X3_settle rfl
set_option maxRecDepth 20000 in
theorem kw_X3_139 : dx_pok dx_P RX3 139 (0, 1, 4) := dx_pok0 (C := RX1) (T := TX1) (N := 11) rfl (by decide) (dx_T_of (List.mem_of_getElem? (i := 91) (by decide +kernel)) (by decide +kernel))
set_option maxRecDepth 20000 in
theorem kw_X3_142 : dx_pok dx_P RX3 142 (0, 1, 8) := dx_pok0 (C := RX1) (T := TX1) (N := 11) rfl (by decide) (dx_T_of (List.mem_of_getElem? (i := 99) (by decide +kernel)) (by decide +kernel))
set_option maxRecDepth 20000 in
theorem kw_X3_145 : dx_pok dx_P RX3 145 (0, 1, 7) := dx_pok0 (C := RX1) (T := TX1) (N := 11) rfl (by decide) (dx_T_of (List.mem_of_getElem? (i := 97) (by decide +kernel)) (by decide +kernel))
set_option maxRecDepth 20000 in
theorem kw_X3_148 : dx_pok dx_P RX3 148 (1, 71, 50) := dx_pok1 (K := km_X3_tell) (q := (RX3, TX3, 11)) rfl rfl rfl (dx_T_of (List.mem_of_getElem? (i := 389) (by decide +kernel)) (by decide +kernel)) (dx_T_of (List.mem_of_getElem? (i := 391) (by decide +kernel)) (by decide +kernel)) (dx_T_of (List.mem_of_getElem? (i := 5) (by decide +kernel)) (by decide +kernel)) kc_X3_tell rfl
set_option maxRecDepth 20000 in
theorem kw_X3_152 : dx_pok dx_P RX3 152 (0, 1, 3) := dx_pok0 (C := RX1) (T := TX1) (N := 11) rfl (by decide) (dx_T_of (List.mem_of_getElem? (i := 89) (by decide +kernel)) (by decide +kernel))
set_option maxRecDepth 20000 in
theorem kw_X3_155 : dx_pok dx_P RX3 155 (1, 20, 16) := dx_pok1 (K := km_X1_momentAcross) (q := (RX1, TX1, 11)) rfl rfl rfl (dx_T_of (List.mem_of_getElem? (i := 407) (by decide +kernel)) (by decide +kernel)) (dx_T_of (List.mem_of_getElem? (i := 408) (by decide +kernel)) (by decide +kernel)) (dx_T_of (List.mem_of_getElem? (i := 409) (by decide +kernel)) (by decide +kernel)) kc_X1_momentAcross rfl
set_option maxRecDepth 20000 in
theorem kw_X3_159 : dx_pok dx_P RX3 159 (6, 1002, 0) := dx_pok6 (dx_T_of (List.mem_of_getElem? (i := 415) (by decide +kernel)) (by decide +kernel))
set_option maxRecDepth 20000 in
theorem kw_X3_161 : dx_pok dx_P RX3 161 (1, 21, 16) := dx_pok1 (K := km_X1_momentUp) (q := (RX1, TX1, 11)) rfl rfl rfl (dx_T_of (List.mem_of_getElem? (i := 416) (by decide +kernel)) (by decide +kernel)) (dx_T_of (List.mem_of_getElem? (i := 417) (by decide +kernel)) (by decide +kernel)) (dx_T_of (List.mem_of_getElem? (i := 418) (by decide +kernel)) (by decide +kernel)) kc_X1_momentUp rfl
set_option maxRecDepth 20000 in
theorem kw_X3_164 : dx_pok dx_P RX3 164 (1, 76, 49) := dx_pok1 (K := km_X3_weightAcross) (q := (RX3, TX3, 11)) rfl rfl rfl (dx_T_of (List.mem_of_getElem? (i := 420) (by decide +kernel)) (by decide +kernel)) (dx_T_of (List.mem_of_getElem? (i := 422) (by decide +kernel)) (by decide +kernel)) (dx_T_of (List.mem_of_getElem? (i := 6) (by decide +kernel)) (by decide +kernel)) kc_X3_weightAcross rfl
set_option maxRecDepth 20000 in
theorem kw_X3_168 : dx_pok dx_P RX3 168 (1, 77, 49) := dx_pok1 (K := km_X3_weightUp) (q := (RX3, TX3, 11)) rfl rfl rfl (dx_T_of (List.mem_of_getElem? (i := 434) (by decide +kernel)) (by decide +kernel)) (dx_T_of (List.mem_of_getElem? (i := 436) (by decide +kernel)) (by decide +kernel)) (dx_T_of (List.mem_of_getElem? (i := 7) (by decide +kernel)) (by decide +kernel)) kc_X3_weightUp rfl
set_option maxRecDepth 20000 in
theorem kw_X3_171 : dx_pok dx_P RX3 171 (2, 65, 1) := dx_pok2 (K := km_X3_isTurn) rfl (dx_T_of (List.mem_of_getElem? (i := 333) (by decide +kernel)) (by decide +kernel)) (dx_T_of (List.mem_of_getElem? (i := 334) (by decide +kernel)) (by decide +kernel)) kc_X3_isTurn
set_option maxRecDepth 20000 in
theorem kw_X3_174 : dx_pok dx_P RX3 174 (1, 4, 1) := dx_pok1 (K := km_X0_across) (q := (RX0, TX0, 3)) rfl rfl rfl (dx_T_of (List.mem_of_getElem? (i := 448) (by decide +kernel)) (by decide +kernel)) (dx_T_of (List.mem_of_getElem? (i := 341) (by decide +kernel)) (by decide +kernel)) (dx_T_of (List.mem_of_getElem? (i := 342) (by decide +kernel)) (by decide +kernel)) kc_X0_across rfl
set_option maxRecDepth 20000 in
theorem kw_X3_177 : dx_pok dx_P RX3 177 (1, 5, 1) := dx_pok1 (K := km_X0_up) (q := (RX0, TX0, 3)) rfl rfl rfl (dx_T_of (List.mem_of_getElem? (i := 449) (by decide +kernel)) (by decide +kernel)) (dx_T_of (List.mem_of_getElem? (i := 345) (by decide +kernel)) (by decide +kernel)) (dx_T_of (List.mem_of_getElem? (i := 346) (by decide +kernel)) (by decide +kernel)) kc_X0_up rfl
set_option maxRecDepth 20000 in
theorem kw_X3_180 : dx_pok dx_P RX3 180 (1, 18, 18) := dx_pok1 (K := km_X1_stateOf) (q := (RX1, TX1, 11)) rfl rfl rfl (dx_T_of (List.mem_of_getElem? (i := 450) (by decide +kernel)) (by decide +kernel)) (dx_T_of (List.mem_of_getElem? (i := 451) (by decide +kernel)) (by decide +kernel)) (dx_T_of (List.mem_of_getElem? (i := 452) (by decide +kernel)) (by decide +kernel)) kc_X1_stateOf rfl
set_option maxRecDepth 20000 in
theorem kw_X3_183 : dx_pok dx_P RX3 183 (1, 78, 49) := dx_pok1 (K := km_X3_leaning) (q := (RX3, TX3, 11)) rfl rfl rfl (dx_T_of (List.mem_of_getElem? (i := 458) (by decide +kernel)) (by decide +kernel)) (dx_T_of (List.mem_of_getElem? (i := 460) (by decide +kernel)) (by decide +kernel)) (dx_T_of (List.mem_of_getElem? (i := 8) (by decide +kernel)) (by decide +kernel)) kc_X3_leaning rfl
set_option maxRecDepth 20000 in
theorem kw_X3_186 : dx_pok dx_P RX3 186 (1, 22, 16) := dx_pok1 (K := km_X1_measureLine) (q := (RX1, TX1, 11)) rfl rfl rfl (dx_T_of (List.mem_of_getElem? (i := 466) (by decide +kernel)) (by decide +kernel)) (dx_T_of (List.mem_of_getElem? (i := 467) (by decide +kernel)) (by decide +kernel)) (dx_T_of (List.mem_of_getElem? (i := 468) (by decide +kernel)) (by decide +kernel)) kc_X1_measureLine rfl
set_option maxRecDepth 20000 in
theorem kw_X3_189 : dx_pok dx_P RX3 189 (0, 1, 9) := dx_pok0 (C := RX1) (T := TX1) (N := 11) rfl (by decide) (dx_T_of (List.mem_of_getElem? (i := 101) (by decide +kernel)) (by decide +kernel))
set_option maxRecDepth 20000 in
theorem kw_X3_192 : dx_pok dx_P RX3 192 (0, 1, 10) := dx_pok0 (C := RX1) (T := TX1) (N := 11) rfl (by decide) (dx_T_of (List.mem_of_getElem? (i := 103) (by decide +kernel)) (by decide +kernel))
set_option maxRecDepth 20000 in
theorem kw_X3_195 : dx_pok dx_P RX3 195 (1, 79, 49) := dx_pok1 (K := km_X3_holding) (q := (RX3, TX3, 11)) rfl rfl rfl (dx_T_of (List.mem_of_getElem? (i := 481) (by decide +kernel)) (by decide +kernel)) (dx_T_of (List.mem_of_getElem? (i := 483) (by decide +kernel)) (by decide +kernel)) (dx_T_of (List.mem_of_getElem? (i := 9) (by decide +kernel)) (by decide +kernel)) kc_X3_holding rfl
set_option maxRecDepth 20000 in
theorem kw_X3_198 : dx_pok dx_P RX3 198 (1, 10, 18) := dx_pok1 (K := km_X1_turnTo) (q := (RX1, TX1, 11)) rfl rfl rfl (dx_T_of (List.mem_of_getElem? (i := 336) (by decide +kernel)) (by decide +kernel)) (dx_T_of (List.mem_of_getElem? (i := 337) (by decide +kernel)) (by decide +kernel)) (dx_T_of (List.mem_of_getElem? (i := 338) (by decide +kernel)) (by decide +kernel)) kc_X1_turnTo rfl
set_option maxRecDepth 20000 in
theorem kw_X3_202 : dx_pok dx_P RX3 202 (1, 17, 16) := dx_pok1 (K := km_X1_mostRoom) (q := (RX1, TX1, 11)) rfl rfl rfl (dx_T_of (List.mem_of_getElem? (i := 496) (by decide +kernel)) (by decide +kernel)) (dx_T_of (List.mem_of_getElem? (i := 497) (by decide +kernel)) (by decide +kernel)) (dx_T_of (List.mem_of_getElem? (i := 498) (by decide +kernel)) (by decide +kernel)) kc_X1_mostRoom rfl
set_option maxRecDepth 20000 in
theorem kw_X3_205 : dx_pok dx_P RX3 205 (1, 16, 18) := dx_pok1 (K := km_X1_bears) (q := (RX1, TX1, 11)) rfl rfl rfl (dx_T_of (List.mem_of_getElem? (i := 355) (by decide +kernel)) (by decide +kernel)) (dx_T_of (List.mem_of_getElem? (i := 356) (by decide +kernel)) (by decide +kernel)) (dx_T_of (List.mem_of_getElem? (i := 357) (by decide +kernel)) (by decide +kernel)) kc_X1_bears rfl
set_option maxRecDepth 20000 in
theorem kw_X3_208 : dx_pok dx_P RX3 208 (1, 11, 17) := dx_pok1 (K := km_X1_riseTo) (q := (RX1, TX1, 11)) rfl rfl rfl (dx_T_of (List.mem_of_getElem? (i := 509) (by decide +kernel)) (by decide +kernel)) (dx_T_of (List.mem_of_getElem? (i := 360) (by decide +kernel)) (by decide +kernel)) (dx_T_of (List.mem_of_getElem? (i := 361) (by decide +kernel)) (by decide +kernel)) kc_X1_riseTo rfl
set_option maxRecDepth 20000 in
theorem kw_X3_212 : dx_pok dx_P RX3 212 (0, 1, 5) := dx_pok0 (C := RX1) (T := TX1) (N := 11) rfl (by decide) (dx_T_of (List.mem_of_getElem? (i := 93) (by decide +kernel)) (by decide +kernel))
set_option maxRecDepth 20000 in
theorem kw_X3_215 : dx_pok dx_P RX3 215 (0, 1, 6) := dx_pok0 (C := RX1) (T := TX1) (N := 11) rfl (by decide) (dx_T_of (List.mem_of_getElem? (i := 95) (by decide +kernel)) (by decide +kernel))
set_option maxRecDepth 20000 in
theorem kw_X3_218 : dx_pok dx_P RX3 218 (0, 3, 9) := dx_pok0 (C := RX3) (T := TX3) (N := 11) rfl (by decide) (dx_T_of (List.mem_of_getElem? (i := 170) (by decide +kernel)) (by decide +kernel))
set_option maxRecDepth 20000 in
theorem kw_X3_221 : dx_pok dx_P RX3 221 (0, 0, 2) := dx_pok0 (C := RX0) (T := TX0) (N := 3) rfl (by decide) (dx_T_of (List.mem_of_getElem? (i := 70) (by decide +kernel)) (by decide +kernel))
set_option maxRecDepth 20000 in
theorem kw_X3_222 : dx_pok dx_P RX3 222 (1, 73, 48) := dx_pok1 (K := km_X3_loadsThere) (q := (RX3, TX3, 11)) rfl rfl rfl (dx_T_of (List.mem_of_getElem? (i := 522) (by decide +kernel)) (by decide +kernel)) (dx_T_of (List.mem_of_getElem? (i := 524) (by decide +kernel)) (by decide +kernel)) (dx_T_of (List.mem_of_getElem? (i := 10) (by decide +kernel)) (by decide +kernel)) kc_X3_loadsThere rfl
set_option maxRecDepth 20000 in
theorem kw_X3_225 : dx_pok dx_P RX3 225 (0, 3, 8) := dx_pok0 (C := RX3) (T := TX3) (N := 11) rfl (by decide) (dx_T_of (List.mem_of_getElem? (i := 169) (by decide +kernel)) (by decide +kernel))
set_option maxRecDepth 20000 in
theorem kw_X3_228 : dx_pok dx_P RX3 228 (6, 1031, 0) := dx_pok6 (dx_T_of (List.mem_of_getElem? (i := 538) (by decide +kernel)) (by decide +kernel))
set_option maxRecDepth 20000 in
theorem kw_X3_230 : dx_pok dx_P RX3 230 (6, 1017, 0) := dx_pok6 (dx_T_of (List.mem_of_getElem? (i := 539) (by decide +kernel)) (by decide +kernel))
set_option maxRecDepth 20000 in
theorem kw_X3_232 : dx_pok dx_P RX3 232 (1, 61, 49) := dx_pok1 (K := km_X3_digestPlaces) (q := (RX3, TX3, 11)) rfl rfl rfl (dx_T_of (List.mem_of_getElem? (i := 540) (by decide +kernel)) (by decide +kernel)) (dx_T_of (List.mem_of_getElem? (i := 542) (by decide +kernel)) (by decide +kernel)) (dx_T_of (List.mem_of_getElem? (i := 11) (by decide +kernel)) (by decide +kernel)) kc_X3_digestPlaces rfl
set_option maxRecDepth 20000 in
theorem kw_X3_236 : dx_pok dx_P RX3 236 (1, 62, 49) := dx_pok1 (K := km_X3_digestLoads) (q := (RX3, TX3, 11)) rfl rfl rfl (dx_T_of (List.mem_of_getElem? (i := 544) (by decide +kernel)) (by decide +kernel)) (dx_T_of (List.mem_of_getElem? (i := 546) (by decide +kernel)) (by decide +kernel)) (dx_T_of (List.mem_of_getElem? (i := 12) (by decide +kernel)) (by decide +kernel)) kc_X3_digestLoads rfl
set_option maxRecDepth 20000 in
theorem kw_X3_239 : dx_pok dx_P RX3 239 (1, 63, 49) := dx_pok1 (K := km_X3_digestSheets) (q := (RX3, TX3, 11)) rfl rfl rfl (dx_T_of (List.mem_of_getElem? (i := 549) (by decide +kernel)) (by decide +kernel)) (dx_T_of (List.mem_of_getElem? (i := 551) (by decide +kernel)) (by decide +kernel)) (dx_T_of (List.mem_of_getElem? (i := 13) (by decide +kernel)) (by decide +kernel)) kc_X3_digestSheets rfl
set_option maxRecDepth 20000 in
theorem kw_X3_242 : dx_pok dx_P RX3 242 (6, 999, 0) := dx_pok6 (dx_T_of (List.mem_of_getElem? (i := 548) (by decide +kernel)) (by decide +kernel))
set_option maxRecDepth 20000 in
theorem kw_X3_244 : dx_pok dx_P RX3 244 (9, 0, 0) := dx_pok9 (dx_T_of (List.mem_of_getElem? (i := 393) (by decide +kernel)) (by decide +kernel)) (dx_T_of (List.mem_of_getElem? (i := 394) (by decide +kernel)) (by decide +kernel)) (dx_T_of (List.mem_of_getElem? (i := 43) (by decide +kernel)) (by decide +kernel)) (dx_T_of (List.mem_of_getElem? (i := 395) (by decide +kernel)) (by decide +kernel))
set_option maxRecDepth 20000 in
theorem kw_X3_247 : dx_pok dx_P RX3 247 (2, 72, 2) := dx_pok2 (K := km_X3_commonDivisor) rfl (dx_T_of (List.mem_of_getElem? (i := 396) (by decide +kernel)) (by decide +kernel)) (dx_T_of (List.mem_of_getElem? (i := 397) (by decide +kernel)) (by decide +kernel)) kc_X3_commonDivisor
set_option maxRecDepth 20000 in
theorem kw_X3_251 : dx_pok dx_P RX3 251 (0, 2, 4) := dx_pok0 (C := RX2) (T := TX2) (N := 6) rfl (by decide) (dx_T_of (List.mem_of_getElem? (i := 143) (by decide +kernel)) (by decide +kernel))
set_option maxRecDepth 20000 in
theorem kw_X3_253 : dx_pok dx_P RX3 253 (1, 8, 1) := dx_pok1 (K := km_X0_weightAcross) (q := (RX0, TX0, 3)) rfl rfl rfl (dx_T_of (List.mem_of_getElem? (i := 424) (by decide +kernel)) (by decide +kernel)) (dx_T_of (List.mem_of_getElem? (i := 425) (by decide +kernel)) (by decide +kernel)) (dx_T_of (List.mem_of_getElem? (i := 426) (by decide +kernel)) (by decide +kernel)) kc_X0_weightAcross rfl
set_option maxRecDepth 20000 in
theorem kw_X3_254 : dx_pok dx_P RX3 254 (2, 80, 5) := dx_pok2 (K := km_X3_turnedAcross) rfl (dx_T_of (List.mem_of_getElem? (i := 433) (by decide +kernel)) (by decide +kernel)) (dx_T_of (List.mem_of_getElem? (i := 350) (by decide +kernel)) (by decide +kernel)) kc_X3_turnedAcross
set_option maxRecDepth 20000 in
theorem kw_X3_258 : dx_pok dx_P RX3 258 (1, 9, 1) := dx_pok1 (K := km_X0_weightUp) (q := (RX0, TX0, 3)) rfl rfl rfl (dx_T_of (List.mem_of_getElem? (i := 438) (by decide +kernel)) (by decide +kernel)) (dx_T_of (List.mem_of_getElem? (i := 439) (by decide +kernel)) (by decide +kernel)) (dx_T_of (List.mem_of_getElem? (i := 440) (by decide +kernel)) (by decide +kernel)) kc_X0_weightUp rfl
set_option maxRecDepth 20000 in
theorem kw_X3_259 : dx_pok dx_P RX3 259 (2, 81, 5) := dx_pok2 (K := km_X3_turnedUp) rfl (dx_T_of (List.mem_of_getElem? (i := 443) (by decide +kernel)) (by decide +kernel)) (dx_T_of (List.mem_of_getElem? (i := 353) (by decide +kernel)) (by decide +kernel)) kc_X3_turnedUp
set_option maxRecDepth 20000 in
theorem kw_X3_262 : dx_pok dx_P RX3 262 (2, 144, 2) := dx_pok2 (K := km_J13_compare_74951) rfl (dx_T_of (List.mem_of_getElem? (i := 485) (by decide +kernel)) (by decide +kernel)) (dx_T_of (List.mem_of_getElem? (i := 486) (by decide +kernel)) (by decide +kernel)) kc_J13_compare_74951
theorem kw_X3 : ∀ (x : Nat) (e : Nat × Nat × Nat), dx_look kp_X3 x = some e → dx_pok dx_P RX3 x e := fun x e h => dx_look_all (F := fun x e => dx_pok dx_P RX3 x e) (show ∀ q ∈ kp_X3, dx_pok dx_P RX3 q.1 q.2 from List.forall_mem_cons.mpr ⟨kw_X3_12, List.forall_mem_cons.mpr ⟨kw_X3_19, List.forall_mem_cons.mpr ⟨kw_X3_25, List.forall_mem_cons.mpr ⟨kw_X3_32, List.forall_mem_cons.mpr ⟨kw_X3_35, List.forall_mem_cons.mpr ⟨kw_X3_39, List.forall_mem_cons.mpr ⟨kw_X3_42, List.forall_mem_cons.mpr ⟨kw_X3_46, List.forall_mem_cons.mpr ⟨kw_X3_50, List.forall_mem_cons.mpr ⟨kw_X3_54, List.forall_mem_cons.mpr ⟨kw_X3_58, List.forall_mem_cons.mpr ⟨kw_X3_61, List.forall_mem_cons.mpr ⟨kw_X3_65, List.forall_mem_cons.mpr ⟨kw_X3_69, List.forall_mem_cons.mpr ⟨kw_X3_73, List.forall_mem_cons.mpr ⟨kw_X3_77, List.forall_mem_cons.mpr ⟨kw_X3_81, List.forall_mem_cons.mpr ⟨kw_X3_84, List.forall_mem_cons.mpr ⟨kw_X3_90, List.forall_mem_cons.mpr ⟨kw_X3_93, List.forall_mem_cons.mpr ⟨kw_X3_98, List.forall_mem_cons.mpr ⟨kw_X3_101, List.forall_mem_cons.mpr ⟨kw_X3_104, List.forall_mem_cons.mpr ⟨kw_X3_107, List.forall_mem_cons.mpr ⟨kw_X3_111, List.forall_mem_cons.mpr ⟨kw_X3_114, List.forall_mem_cons.mpr ⟨kw_X3_117, List.forall_mem_cons.mpr ⟨kw_X3_120, List.forall_mem_cons.mpr ⟨kw_X3_123, List.forall_mem_cons.mpr ⟨kw_X3_126, List.forall_mem_cons.mpr ⟨kw_X3_130, List.forall_mem_cons.mpr ⟨kw_X3_133, List.forall_mem_cons.mpr ⟨kw_X3_136, List.forall_mem_cons.mpr ⟨kw_X3_139, List.forall_mem_cons.mpr ⟨kw_X3_142, List.forall_mem_cons.mpr ⟨kw_X3_145, List.forall_mem_cons.mpr ⟨kw_X3_148, List.forall_mem_cons.mpr ⟨kw_X3_152, List.forall_mem_cons.mpr ⟨kw_X3_155, List.forall_mem_cons.mpr ⟨kw_X3_159, List.forall_mem_cons.mpr ⟨kw_X3_161, List.forall_mem_cons.mpr ⟨kw_X3_164, List.forall_mem_cons.mpr ⟨kw_X3_168, List.forall_mem_cons.mpr ⟨kw_X3_171, List.forall_mem_cons.mpr ⟨kw_X3_174, List.forall_mem_cons.mpr ⟨kw_X3_177, List.forall_mem_cons.mpr ⟨kw_X3_180, List.forall_mem_cons.mpr ⟨kw_X3_183, List.forall_mem_cons.mpr ⟨kw_X3_186, List.forall_mem_cons.mpr ⟨kw_X3_189, List.forall_mem_cons.mpr ⟨kw_X3_192, List.forall_mem_cons.mpr ⟨kw_X3_195, List.forall_mem_cons.mpr ⟨kw_X3_198, List.forall_mem_cons.mpr ⟨kw_X3_202, List.forall_mem_cons.mpr ⟨kw_X3_205, List.forall_mem_cons.mpr ⟨kw_X3_208, List.forall_mem_cons.mpr ⟨kw_X3_212, List.forall_mem_cons.mpr ⟨kw_X3_215, List.forall_mem_cons.mpr ⟨kw_X3_218, List.forall_mem_cons.mpr ⟨kw_X3_221, List.forall_mem_cons.mpr ⟨kw_X3_222, List.forall_mem_cons.mpr ⟨kw_X3_225, List.forall_mem_cons.mpr ⟨kw_X3_228, List.forall_mem_cons.mpr ⟨kw_X3_230, List.forall_mem_cons.mpr ⟨kw_X3_232, List.forall_mem_cons.mpr ⟨kw_X3_236, List.forall_mem_cons.mpr ⟨kw_X3_239, List.forall_mem_cons.mpr ⟨kw_X3_242, List.forall_mem_cons.mpr ⟨kw_X3_244, List.forall_mem_cons.mpr ⟨kw_X3_247, List.forall_mem_cons.mpr ⟨kw_X3_251, List.forall_mem_cons.mpr ⟨kw_X3_253, List.forall_mem_cons.mpr ⟨kw_X3_254, List.forall_mem_cons.mpr ⟨kw_X3_258, List.forall_mem_cons.mpr ⟨kw_X3_259, List.forall_mem_cons.mpr ⟨kw_X3_262, fun _ h => absurd h List.not_mem_nil⟩⟩⟩⟩⟩⟩⟩⟩⟩⟩⟩⟩⟩⟩⟩⟩⟩⟩⟩⟩⟩⟩⟩⟩⟩⟩⟩⟩⟩⟩⟩⟩⟩⟩⟩⟩⟩⟩⟩⟩⟩⟩⟩⟩⟩⟩⟩⟩⟩⟩⟩⟩⟩⟩⟩⟩⟩⟩⟩⟩⟩⟩⟩⟩⟩⟩⟩⟩⟩⟩⟩⟩⟩⟩⟩⟩) h
set_option maxRecDepth 20000 in
theorem kw_X4_7 : dx_pok dx_P RX4 7 (0, 4, 1) := dx_pok0 (C := RX4) (T := TX4) (N := 38) rfl (by decide) (dx_T_of (List.mem_of_getElem? (i := 564) (by decide +kernel)) (by decide +kernel))
set_option maxRecDepth 20000 in
theorem kw_X4_13 : dx_pok dx_P RX4 13 (0, 4, 7) := dx_pok0 (C := RX4) (T := TX4) (N := 38) rfl (by decide) (dx_T_of (List.mem_of_getElem? (i := 570) (by decide +kernel)) (by decide +kernel))
set_option maxRecDepth 20000 in
theorem kw_X4_16 : dx_pok dx_P RX4 16 (0, 4, 8) := dx_pok0 (C := RX4) (T := TX4) (N := 38) rfl (by decide) (dx_T_of (List.mem_of_getElem? (i := 571) (by decide +kernel)) (by decide +kernel))
set_option maxRecDepth 20000 in
theorem kw_X4_19 : dx_pok dx_P RX4 19 (0, 4, 9) := dx_pok0 (C := RX4) (T := TX4) (N := 38) rfl (by decide) (dx_T_of (List.mem_of_getElem? (i := 572) (by decide +kernel)) (by decide +kernel))
set_option maxRecDepth 20000 in
theorem kw_X4_23 : dx_pok dx_P RX4 23 (0, 4, 10) := dx_pok0 (C := RX4) (T := TX4) (N := 38) rfl (by decide) (dx_T_of (List.mem_of_getElem? (i := 573) (by decide +kernel)) (by decide +kernel))
set_option maxRecDepth 20000 in
theorem kw_X4_26 : dx_pok dx_P RX4 26 (0, 4, 12) := dx_pok0 (C := RX4) (T := TX4) (N := 38) rfl (by decide) (dx_T_of (List.mem_of_getElem? (i := 575) (by decide +kernel)) (by decide +kernel))
set_option maxRecDepth 20000 in
theorem kw_X4_29 : dx_pok dx_P RX4 29 (0, 4, 13) := dx_pok0 (C := RX4) (T := TX4) (N := 38) rfl (by decide) (dx_T_of (List.mem_of_getElem? (i := 576) (by decide +kernel)) (by decide +kernel))
set_option maxRecDepth 20000 in
theorem kw_X4_32 : dx_pok dx_P RX4 32 (0, 4, 14) := dx_pok0 (C := RX4) (T := TX4) (N := 38) rfl (by decide) (dx_T_of (List.mem_of_getElem? (i := 577) (by decide +kernel)) (by decide +kernel))
set_option maxRecDepth 20000 in
theorem kw_X4_35 : dx_pok dx_P RX4 35 (0, 4, 15) := dx_pok0 (C := RX4) (T := TX4) (N := 38) rfl (by decide) (dx_T_of (List.mem_of_getElem? (i := 578) (by decide +kernel)) (by decide +kernel))
set_option maxRecDepth 20000 in
theorem kw_X4_38 : dx_pok dx_P RX4 38 (0, 4, 16) := dx_pok0 (C := RX4) (T := TX4) (N := 38) rfl (by decide) (dx_T_of (List.mem_of_getElem? (i := 579) (by decide +kernel)) (by decide +kernel))
set_option maxRecDepth 20000 in
theorem kw_X4_41 : dx_pok dx_P RX4 41 (0, 4, 17) := dx_pok0 (C := RX4) (T := TX4) (N := 38) rfl (by decide) (dx_T_of (List.mem_of_getElem? (i := 580) (by decide +kernel)) (by decide +kernel))
set_option maxRecDepth 20000 in
theorem kw_X4_45 : dx_pok dx_P RX4 45 (0, 4, 20) := dx_pok0 (C := RX4) (T := TX4) (N := 38) rfl (by decide) (dx_T_of (List.mem_of_getElem? (i := 583) (by decide +kernel)) (by decide +kernel))
set_option maxRecDepth 20000 in
theorem kw_X4_48 : dx_pok dx_P RX4 48 (0, 4, 23) := dx_pok0 (C := RX4) (T := TX4) (N := 38) rfl (by decide) (dx_T_of (List.mem_of_getElem? (i := 586) (by decide +kernel)) (by decide +kernel))
set_option maxRecDepth 20000 in
theorem kw_X4_51 : dx_pok dx_P RX4 51 (0, 4, 6) := dx_pok0 (C := RX4) (T := TX4) (N := 38) rfl (by decide) (dx_T_of (List.mem_of_getElem? (i := 569) (by decide +kernel)) (by decide +kernel))
set_option maxRecDepth 20000 in
theorem kw_X4_55 : dx_pok dx_P RX4 55 (0, 4, 3) := dx_pok0 (C := RX4) (T := TX4) (N := 38) rfl (by decide) (dx_T_of (List.mem_of_getElem? (i := 566) (by decide +kernel)) (by decide +kernel))
set_option maxRecDepth 20000 in
theorem kw_X4_59 : dx_pok dx_P RX4 59 (1, 90, 66) := dx_pok1 (K := km_X4_begin) (q := (RX4, TX4, 38)) rfl rfl rfl (dx_T_of (List.mem_of_getElem? (i := 559) (by decide +kernel)) (by decide +kernel)) (dx_T_of (List.mem_of_getElem? (i := 561) (by decide +kernel)) (by decide +kernel)) (dx_T_of (List.mem_of_getElem? (i := 14) (by decide +kernel)) (by decide +kernel)) kc_X4_begin rfl
set_option maxRecDepth 20000 in
theorem kw_X4_63 : dx_pok dx_P RX4 63 (0, 4, 0) := dx_pok0 (C := RX4) (T := TX4) (N := 38) rfl (by decide) (dx_T_of (List.mem_of_getElem? (i := 563) (by decide +kernel)) (by decide +kernel))
set_option maxRecDepth 20000 in
theorem kw_X4_66 : dx_pok dx_P RX4 66 (2, 82, 3) := dx_pok2 (K := km_X4_in) rfl (dx_T_of (List.mem_of_getElem? (i := 687) (by decide +kernel)) (by decide +kernel)) (dx_T_of (List.mem_of_getElem? (i := 688) (by decide +kernel)) (by decide +kernel)) kc_X4_in
set_option maxRecDepth 20000 in
theorem kw_X4_70 : dx_pok dx_P RX4 70 (2, 86, 2) := dx_pok2 (K := km_X4_gcd) rfl (dx_T_of (List.mem_of_getElem? (i := 837) (by decide +kernel)) (by decide +kernel)) (dx_T_of (List.mem_of_getElem? (i := 838) (by decide +kernel)) (by decide +kernel)) kc_X4_gcd
set_option maxRecDepth 20000 in
theorem kw_X4_74 : dx_pok dx_P RX4 74 (0, 4, 2) := dx_pok0 (C := RX4) (T := TX4) (N := 38) rfl (by decide) (dx_T_of (List.mem_of_getElem? (i := 565) (by decide +kernel)) (by decide +kernel))
set_option maxRecDepth 20000 in
theorem kw_X4_77 : dx_pok dx_P RX4 77 (0, 4, 4) := dx_pok0 (C := RX4) (T := TX4) (N := 38) rfl (by decide) (dx_T_of (List.mem_of_getElem? (i := 567) (by decide +kernel)) (by decide +kernel))
set_option maxRecDepth 20000 in
theorem kw_X4_80 : dx_pok dx_P RX4 80 (0, 4, 5) := dx_pok0 (C := RX4) (T := TX4) (N := 38) rfl (by decide) (dx_T_of (List.mem_of_getElem? (i := 568) (by decide +kernel)) (by decide +kernel))
set_option maxRecDepth 20000 in
theorem kw_X4_83 : dx_pok dx_P RX4 83 (0, 4, 11) := dx_pok0 (C := RX4) (T := TX4) (N := 38) rfl (by decide) (dx_T_of (List.mem_of_getElem? (i := 574) (by decide +kernel)) (by decide +kernel))
set_option maxRecDepth 20000 in
theorem kw_X4_86 : dx_pok dx_P RX4 86 (1, 92, 66) := dx_pok1 (K := km_X4_isPlace) (q := (RX4, TX4, 38)) rfl rfl rfl (dx_T_of (List.mem_of_getElem? (i := 706) (by decide +kernel)) (by decide +kernel)) (dx_T_of (List.mem_of_getElem? (i := 708) (by decide +kernel)) (by decide +kernel)) (dx_T_of (List.mem_of_getElem? (i := 15) (by decide +kernel)) (by decide +kernel)) kc_X4_isPlace rfl
set_option maxRecDepth 20000 in
theorem kw_X4_90 : dx_pok dx_P RX4 90 (2, 96, 1) := dx_pok2 (K := km_X4_isSheet) rfl (dx_T_of (List.mem_of_getElem? (i := 722) (by decide +kernel)) (by decide +kernel)) (dx_T_of (List.mem_of_getElem? (i := 723) (by decide +kernel)) (by decide +kernel)) kc_X4_isSheet
set_option maxRecDepth 20000 in
theorem kw_X4_94 : dx_pok dx_P RX4 94 (1, 83, 65) := dx_pok1 (K := km_X4_meets) (q := (RX4, TX4, 38)) rfl rfl rfl (dx_T_of (List.mem_of_getElem? (i := 725) (by decide +kernel)) (by decide +kernel)) (dx_T_of (List.mem_of_getElem? (i := 727) (by decide +kernel)) (by decide +kernel)) (dx_T_of (List.mem_of_getElem? (i := 16) (by decide +kernel)) (by decide +kernel)) kc_X4_meets rfl
set_option maxRecDepth 20000 in
theorem kw_X4_98 : dx_pok dx_P RX4 98 (2, 102, 2) := dx_pok2 (K := km_X4_isPoint) rfl (dx_T_of (List.mem_of_getElem? (i := 749) (by decide +kernel)) (by decide +kernel)) (dx_T_of (List.mem_of_getElem? (i := 750) (by decide +kernel)) (by decide +kernel)) kc_X4_isPoint
set_option maxRecDepth 20000 in
theorem kw_X4_101 : dx_pok dx_P RX4 101 (1, 104, 66) := dx_pok1 (K := km_X4_need) (q := (RX4, TX4, 38)) rfl rfl rfl (dx_T_of (List.mem_of_getElem? (i := 756) (by decide +kernel)) (by decide +kernel)) (dx_T_of (List.mem_of_getElem? (i := 758) (by decide +kernel)) (by decide +kernel)) (dx_T_of (List.mem_of_getElem? (i := 17) (by decide +kernel)) (by decide +kernel)) kc_X4_need rfl
set_option maxRecDepth 20000 in
theorem kw_X4_105 : dx_pok dx_P RX4 105 (1, 108, 66) := dx_pok1 (K := km_X4_toldOf) (q := (RX4, TX4, 38)) rfl rfl rfl (dx_T_of (List.mem_of_getElem? (i := 772) (by decide +kernel)) (by decide +kernel)) (dx_T_of (List.mem_of_getElem? (i := 774) (by decide +kernel)) (by decide +kernel)) (dx_T_of (List.mem_of_getElem? (i := 18) (by decide +kernel)) (by decide +kernel)) kc_X4_toldOf rfl
set_option maxRecDepth 20000 in
theorem kw_X4_109 : dx_pok dx_P RX4 109 (1, 112, 64) := dx_pok1 (K := km_X4_squareWeights) (q := (RX4, TX4, 38)) rfl rfl rfl (dx_T_of (List.mem_of_getElem? (i := 784) (by decide +kernel)) (by decide +kernel)) (dx_T_of (List.mem_of_getElem? (i := 786) (by decide +kernel)) (by decide +kernel)) (dx_T_of (List.mem_of_getElem? (i := 19) (by decide +kernel)) (by decide +kernel)) kc_X4_squareWeights rfl
set_option maxRecDepth 20000 in
theorem kw_X4_113 : dx_pok dx_P RX4 113 (1, 111, 64) := dx_pok1 (K := km_X4_squareMany) (q := (RX4, TX4, 38)) rfl rfl rfl (dx_T_of (List.mem_of_getElem? (i := 792) (by decide +kernel)) (by decide +kernel)) (dx_T_of (List.mem_of_getElem? (i := 794) (by decide +kernel)) (by decide +kernel)) (dx_T_of (List.mem_of_getElem? (i := 20) (by decide +kernel)) (by decide +kernel)) kc_X4_squareMany rfl
set_option maxRecDepth 20000 in
theorem kw_X4_116 : dx_pok dx_P RX4 116 (0, 4, 18) := dx_pok0 (C := RX4) (T := TX4) (N := 38) rfl (by decide) (dx_T_of (List.mem_of_getElem? (i := 581) (by decide +kernel)) (by decide +kernel))
set_option maxRecDepth 20000 in
theorem kw_X4_119 : dx_pok dx_P RX4 119 (0, 4, 19) := dx_pok0 (C := RX4) (T := TX4) (N := 38) rfl (by decide) (dx_T_of (List.mem_of_getElem? (i := 582) (by decide +kernel)) (by decide +kernel))
set_option maxRecDepth 20000 in
theorem kw_X4_122 : dx_pok dx_P RX4 122 (0, 4, 21) := dx_pok0 (C := RX4) (T := TX4) (N := 38) rfl (by decide) (dx_T_of (List.mem_of_getElem? (i := 584) (by decide +kernel)) (by decide +kernel))
set_option maxRecDepth 20000 in
theorem kw_X4_125 : dx_pok dx_P RX4 125 (0, 4, 22) := dx_pok0 (C := RX4) (T := TX4) (N := 38) rfl (by decide) (dx_T_of (List.mem_of_getElem? (i := 585) (by decide +kernel)) (by decide +kernel))
set_option maxRecDepth 20000 in
theorem kw_X4_128 : dx_pok dx_P RX4 128 (1, 116, 67) := dx_pok1 (K := km_X4_isWetAt) (q := (RX4, TX4, 38)) rfl rfl rfl (dx_T_of (List.mem_of_getElem? (i := 817) (by decide +kernel)) (by decide +kernel)) (dx_T_of (List.mem_of_getElem? (i := 819) (by decide +kernel)) (by decide +kernel)) (dx_T_of (List.mem_of_getElem? (i := 25) (by decide +kernel)) (by decide +kernel)) kc_X4_isWetAt rfl
set_option maxRecDepth 20000 in
theorem kw_X4_131 : dx_pok dx_P RX4 131 (1, 118, 65) := dx_pok1 (K := km_X4_firmIn) (q := (RX4, TX4, 38)) rfl rfl rfl (dx_T_of (List.mem_of_getElem? (i := 825) (by decide +kernel)) (by decide +kernel)) (dx_T_of (List.mem_of_getElem? (i := 827) (by decide +kernel)) (by decide +kernel)) (dx_T_of (List.mem_of_getElem? (i := 27) (by decide +kernel)) (by decide +kernel)) kc_X4_firmIn rfl
set_option maxRecDepth 20000 in
theorem kw_X4_134 : dx_pok dx_P RX4 134 (1, 117, 65) := dx_pok1 (K := km_X4_spread) (q := (RX4, TX4, 38)) rfl rfl rfl (dx_T_of (List.mem_of_getElem? (i := 813) (by decide +kernel)) (by decide +kernel)) (dx_T_of (List.mem_of_getElem? (i := 815) (by decide +kernel)) (by decide +kernel)) (dx_T_of (List.mem_of_getElem? (i := 24) (by decide +kernel)) (by decide +kernel)) kc_X4_spread rfl
set_option maxRecDepth 20000 in
theorem kw_X4_138 : dx_pok dx_P RX4 138 (1, 119, 65) := dx_pok1 (K := km_X4_firmBelow) (q := (RX4, TX4, 38)) rfl rfl rfl (dx_T_of (List.mem_of_getElem? (i := 821) (by decide +kernel)) (by decide +kernel)) (dx_T_of (List.mem_of_getElem? (i := 823) (by decide +kernel)) (by decide +kernel)) (dx_T_of (List.mem_of_getElem? (i := 26) (by decide +kernel)) (by decide +kernel)) kc_X4_firmBelow rfl
set_option maxRecDepth 20000 in
theorem kw_X4_141 : dx_pok dx_P RX4 141 (0, 4, 24) := dx_pok0 (C := RX4) (T := TX4) (N := 38) rfl (by decide) (dx_T_of (List.mem_of_getElem? (i := 587) (by decide +kernel)) (by decide +kernel))
set_option maxRecDepth 20000 in
theorem kw_X4_144 : dx_pok dx_P RX4 144 (0, 4, 27) := dx_pok0 (C := RX4) (T := TX4) (N := 38) rfl (by decide) (dx_T_of (List.mem_of_getElem? (i := 590) (by decide +kernel)) (by decide +kernel))
set_option maxRecDepth 20000 in
theorem kw_X4_147 : dx_pok dx_P RX4 147 (0, 4, 28) := dx_pok0 (C := RX4) (T := TX4) (N := 38) rfl (by decide) (dx_T_of (List.mem_of_getElem? (i := 591) (by decide +kernel)) (by decide +kernel))
set_option maxRecDepth 20000 in
theorem kw_X4_150 : dx_pok dx_P RX4 150 (0, 4, 25) := dx_pok0 (C := RX4) (T := TX4) (N := 38) rfl (by decide) (dx_T_of (List.mem_of_getElem? (i := 588) (by decide +kernel)) (by decide +kernel))
set_option maxRecDepth 20000 in
theorem kw_X4_153 : dx_pok dx_P RX4 153 (0, 4, 26) := dx_pok0 (C := RX4) (T := TX4) (N := 38) rfl (by decide) (dx_T_of (List.mem_of_getElem? (i := 589) (by decide +kernel)) (by decide +kernel))
set_option maxRecDepth 20000 in
theorem kw_X4_156 : dx_pok dx_P RX4 156 (1, 113, 64) := dx_pok1 (K := km_X4_all) (q := (RX4, TX4, 38)) rfl rfl rfl (dx_T_of (List.mem_of_getElem? (i := 804) (by decide +kernel)) (by decide +kernel)) (dx_T_of (List.mem_of_getElem? (i := 781) (by decide +kernel)) (by decide +kernel)) (dx_T_of (List.mem_of_getElem? (i := 782) (by decide +kernel)) (by decide +kernel)) kc_X4_all rfl
set_option maxRecDepth 20000 in
theorem kw_X4_159 : dx_pok dx_P RX4 159 (1, 115, 65) := dx_pok1 (K := km_X4_lay_) (q := (RX4, TX4, 38)) rfl rfl rfl (dx_T_of (List.mem_of_getElem? (i := 805) (by decide +kernel)) (by decide +kernel)) (dx_T_of (List.mem_of_getElem? (i := 807) (by decide +kernel)) (by decide +kernel)) (dx_T_of (List.mem_of_getElem? (i := 22) (by decide +kernel)) (by decide +kernel)) kc_X4_lay_ rfl
set_option maxRecDepth 20000 in
theorem kw_X4_162 : dx_pok dx_P RX4 162 (1, 120, 65) := dx_pok1 (K := km_X4_finds) (q := (RX4, TX4, 38)) rfl rfl rfl (dx_T_of (List.mem_of_getElem? (i := 809) (by decide +kernel)) (by decide +kernel)) (dx_T_of (List.mem_of_getElem? (i := 811) (by decide +kernel)) (by decide +kernel)) (dx_T_of (List.mem_of_getElem? (i := 23) (by decide +kernel)) (by decide +kernel)) kc_X4_finds rfl
set_option maxRecDepth 20000 in
theorem kw_X4_165 : dx_pok dx_P RX4 165 (1, 121, 66) := dx_pok1 (K := km_X4_afloat) (q := (RX4, TX4, 38)) rfl rfl rfl (dx_T_of (List.mem_of_getElem? (i := 800) (by decide +kernel)) (by decide +kernel)) (dx_T_of (List.mem_of_getElem? (i := 802) (by decide +kernel)) (by decide +kernel)) (dx_T_of (List.mem_of_getElem? (i := 21) (by decide +kernel)) (by decide +kernel)) kc_X4_afloat rfl
set_option maxRecDepth 20000 in
theorem kw_X4_168 : dx_pok dx_P RX4 168 (1, 87, 66) := dx_pok1 (K := km_X4_tells) (q := (RX4, TX4, 38)) rfl rfl rfl (dx_T_of (List.mem_of_getElem? (i := 833) (by decide +kernel)) (by decide +kernel)) (dx_T_of (List.mem_of_getElem? (i := 835) (by decide +kernel)) (by decide +kernel)) (dx_T_of (List.mem_of_getElem? (i := 28) (by decide +kernel)) (by decide +kernel)) kc_X4_tells rfl
set_option maxRecDepth 20000 in
theorem kw_X4_172 : dx_pok dx_P RX4 172 (0, 4, 29) := dx_pok0 (C := RX4) (T := TX4) (N := 38) rfl (by decide) (dx_T_of (List.mem_of_getElem? (i := 592) (by decide +kernel)) (by decide +kernel))
set_option maxRecDepth 20000 in
theorem kw_X4_175 : dx_pok dx_P RX4 175 (0, 4, 30) := dx_pok0 (C := RX4) (T := TX4) (N := 38) rfl (by decide) (dx_T_of (List.mem_of_getElem? (i := 593) (by decide +kernel)) (by decide +kernel))
set_option maxRecDepth 20000 in
theorem kw_X4_178 : dx_pok dx_P RX4 178 (0, 4, 31) := dx_pok0 (C := RX4) (T := TX4) (N := 38) rfl (by decide) (dx_T_of (List.mem_of_getElem? (i := 594) (by decide +kernel)) (by decide +kernel))
set_option maxRecDepth 20000 in
theorem kw_X4_181 : dx_pok dx_P RX4 181 (1, 125, 64) := dx_pok1 (K := km_X4_laySums) (q := (RX4, TX4, 38)) rfl rfl rfl (dx_T_of (List.mem_of_getElem? (i := 852) (by decide +kernel)) (by decide +kernel)) (dx_T_of (List.mem_of_getElem? (i := 854) (by decide +kernel)) (by decide +kernel)) (dx_T_of (List.mem_of_getElem? (i := 30) (by decide +kernel)) (by decide +kernel)) kc_X4_laySums rfl
set_option maxRecDepth 20000 in
theorem kw_X4_184 : dx_pok dx_P RX4 184 (0, 4, 32) := dx_pok0 (C := RX4) (T := TX4) (N := 38) rfl (by decide) (dx_T_of (List.mem_of_getElem? (i := 595) (by decide +kernel)) (by decide +kernel))
set_option maxRecDepth 20000 in
theorem kw_X4_187 : dx_pok dx_P RX4 187 (6, 1002, 0) := dx_pok6 (dx_T_of (List.mem_of_getElem? (i := 856) (by decide +kernel)) (by decide +kernel))
set_option maxRecDepth 20000 in
theorem kw_X4_189 : dx_pok dx_P RX4 189 (0, 4, 33) := dx_pok0 (C := RX4) (T := TX4) (N := 38) rfl (by decide) (dx_T_of (List.mem_of_getElem? (i := 596) (by decide +kernel)) (by decide +kernel))
set_option maxRecDepth 20000 in
theorem kw_X4_192 : dx_pok dx_P RX4 192 (0, 4, 34) := dx_pok0 (C := RX4) (T := TX4) (N := 38) rfl (by decide) (dx_T_of (List.mem_of_getElem? (i := 597) (by decide +kernel)) (by decide +kernel))
set_option maxRecDepth 20000 in
theorem kw_X4_195 : dx_pok dx_P RX4 195 (0, 4, 35) := dx_pok0 (C := RX4) (T := TX4) (N := 38) rfl (by decide) (dx_T_of (List.mem_of_getElem? (i := 598) (by decide +kernel)) (by decide +kernel))
set_option maxRecDepth 20000 in
theorem kw_X4_198 : dx_pok dx_P RX4 198 (1, 126, 64) := dx_pok1 (K := km_X4_layPowers) (q := (RX4, TX4, 38)) rfl rfl rfl (dx_T_of (List.mem_of_getElem? (i := 848) (by decide +kernel)) (by decide +kernel)) (dx_T_of (List.mem_of_getElem? (i := 850) (by decide +kernel)) (by decide +kernel)) (dx_T_of (List.mem_of_getElem? (i := 29) (by decide +kernel)) (by decide +kernel)) kc_X4_layPowers rfl
set_option maxRecDepth 20000 in
theorem kw_X4_201 : dx_pok dx_P RX4 201 (1, 129, 64) := dx_pok1 (K := km_X4_lean) (q := (RX4, TX4, 38)) rfl rfl rfl (dx_T_of (List.mem_of_getElem? (i := 865) (by decide +kernel)) (by decide +kernel)) (dx_T_of (List.mem_of_getElem? (i := 867) (by decide +kernel)) (by decide +kernel)) (dx_T_of (List.mem_of_getElem? (i := 31) (by decide +kernel)) (by decide +kernel)) kc_X4_lean rfl
set_option maxRecDepth 20000 in
theorem kw_X4_205 : dx_pok dx_P RX4 205 (6, 1003, 0) := dx_pok6 (dx_T_of (List.mem_of_getElem? (i := 881) (by decide +kernel)) (by decide +kernel))
set_option maxRecDepth 20000 in
theorem kw_X4_207 : dx_pok dx_P RX4 207 (6, 1004, 0) := dx_pok6 (dx_T_of (List.mem_of_getElem? (i := 882) (by decide +kernel)) (by decide +kernel))
set_option maxRecDepth 20000 in
theorem kw_X4_209 : dx_pok dx_P RX4 209 (0, 4, 36) := dx_pok0 (C := RX4) (T := TX4) (N := 38) rfl (by decide) (dx_T_of (List.mem_of_getElem? (i := 599) (by decide +kernel)) (by decide +kernel))
set_option maxRecDepth 20000 in
theorem kw_X4_212 : dx_pok dx_P RX4 212 (6, 1012, 0) := dx_pok6 (dx_T_of (List.mem_of_getElem? (i := 883) (by decide +kernel)) (by decide +kernel))
set_option maxRecDepth 20000 in
theorem kw_X4_214 : dx_pok dx_P RX4 214 (0, 4, 37) := dx_pok0 (C := RX4) (T := TX4) (N := 38) rfl (by decide) (dx_T_of (List.mem_of_getElem? (i := 600) (by decide +kernel)) (by decide +kernel))
set_option maxRecDepth 20000 in
theorem kw_X4_217 : dx_pok dx_P RX4 217 (1, 131, 65) := dx_pok1 (K := km_X4_layBreadth) (q := (RX4, TX4, 38)) rfl rfl rfl (dx_T_of (List.mem_of_getElem? (i := 877) (by decide +kernel)) (by decide +kernel)) (dx_T_of (List.mem_of_getElem? (i := 879) (by decide +kernel)) (by decide +kernel)) (dx_T_of (List.mem_of_getElem? (i := 33) (by decide +kernel)) (by decide +kernel)) kc_X4_layBreadth rfl
set_option maxRecDepth 20000 in
theorem kw_X4_220 : dx_pok dx_P RX4 220 (1, 132, 64) := dx_pok1 (K := km_X4_leastBreadth) (q := (RX4, TX4, 38)) rfl rfl rfl (dx_T_of (List.mem_of_getElem? (i := 873) (by decide +kernel)) (by decide +kernel)) (dx_T_of (List.mem_of_getElem? (i := 875) (by decide +kernel)) (by decide +kernel)) (dx_T_of (List.mem_of_getElem? (i := 32) (by decide +kernel)) (by decide +kernel)) kc_X4_leastBreadth rfl
set_option maxRecDepth 20000 in
theorem kw_X4_223 : dx_pok dx_P RX4 223 (1, 134, 64) := dx_pok1 (K := km_X4_holdsNow) (q := (RX4, TX4, 38)) rfl rfl rfl (dx_T_of (List.mem_of_getElem? (i := 888) (by decide +kernel)) (by decide +kernel)) (dx_T_of (List.mem_of_getElem? (i := 890) (by decide +kernel)) (by decide +kernel)) (dx_T_of (List.mem_of_getElem? (i := 34) (by decide +kernel)) (by decide +kernel)) kc_X4_holdsNow rfl
set_option maxRecDepth 20000 in
theorem kw_X4_226 : dx_pok dx_P RX4 226 (1, 137, 64) := dx_pok1 (K := km_X4_mostRoom) (q := (RX4, TX4, 38)) rfl rfl rfl (dx_T_of (List.mem_of_getElem? (i := 900) (by decide +kernel)) (by decide +kernel)) (dx_T_of (List.mem_of_getElem? (i := 902) (by decide +kernel)) (by decide +kernel)) (dx_T_of (List.mem_of_getElem? (i := 35) (by decide +kernel)) (by decide +kernel)) kc_X4_mostRoom rfl
set_option maxRecDepth 20000 in
theorem kw_X4_229 : dx_pok dx_P RX4 229 (6, 1031, 0) := dx_pok6 (dx_T_of (List.mem_of_getElem? (i := 920) (by decide +kernel)) (by decide +kernel))
set_option maxRecDepth 20000 in
theorem kw_X4_231 : dx_pok dx_P RX4 231 (6, 1527, 0) := dx_pok6 (dx_T_of (List.mem_of_getElem? (i := 921) (by decide +kernel)) (by decide +kernel))
theorem kw_X4 : ∀ (x : Nat) (e : Nat × Nat × Nat), dx_look kp_X4 x = some e → dx_pok dx_P RX4 x e := fun x e h => dx_look_all (F := fun x e => dx_pok dx_P RX4 x e) (show ∀ q ∈ kp_X4, dx_pok dx_P RX4 q.1 q.2 from List.forall_mem_cons.mpr ⟨kw_X4_7, List.forall_mem_cons.mpr ⟨kw_X4_13, List.forall_mem_cons.mpr ⟨kw_X4_16, List.forall_mem_cons.mpr ⟨kw_X4_19, List.forall_mem_cons.mpr ⟨kw_X4_23, List.forall_mem_cons.mpr ⟨kw_X4_26, List.forall_mem_cons.mpr ⟨kw_X4_29, List.forall_mem_cons.mpr ⟨kw_X4_32, List.forall_mem_cons.mpr ⟨kw_X4_35, List.forall_mem_cons.mpr ⟨kw_X4_38, List.forall_mem_cons.mpr ⟨kw_X4_41, List.forall_mem_cons.mpr ⟨kw_X4_45, List.forall_mem_cons.mpr ⟨kw_X4_48, List.forall_mem_cons.mpr ⟨kw_X4_51, List.forall_mem_cons.mpr ⟨kw_X4_55, List.forall_mem_cons.mpr ⟨kw_X4_59, List.forall_mem_cons.mpr ⟨kw_X4_63, List.forall_mem_cons.mpr ⟨kw_X4_66, List.forall_mem_cons.mpr ⟨kw_X4_70, List.forall_mem_cons.mpr ⟨kw_X4_74, List.forall_mem_cons.mpr ⟨kw_X4_77, List.forall_mem_cons.mpr ⟨kw_X4_80, List.forall_mem_cons.mpr ⟨kw_X4_83, List.forall_mem_cons.mpr ⟨kw_X4_86, List.forall_mem_cons.mpr ⟨kw_X4_90, List.forall_mem_cons.mpr ⟨kw_X4_94, List.forall_mem_cons.mpr ⟨kw_X4_98, List.forall_mem_cons.mpr ⟨kw_X4_101, List.forall_mem_cons.mpr ⟨kw_X4_105, List.forall_mem_cons.mpr ⟨kw_X4_109, List.forall_mem_cons.mpr ⟨kw_X4_113, List.forall_mem_cons.mpr ⟨kw_X4_116, List.forall_mem_cons.mpr ⟨kw_X4_119, List.forall_mem_cons.mpr ⟨kw_X4_122, List.forall_mem_cons.mpr ⟨kw_X4_125, List.forall_mem_cons.mpr ⟨kw_X4_128, List.forall_mem_cons.mpr ⟨kw_X4_131, List.forall_mem_cons.mpr ⟨kw_X4_134, List.forall_mem_cons.mpr ⟨kw_X4_138, List.forall_mem_cons.mpr ⟨kw_X4_141, List.forall_mem_cons.mpr ⟨kw_X4_144, List.forall_mem_cons.mpr ⟨kw_X4_147, List.forall_mem_cons.mpr ⟨kw_X4_150, List.forall_mem_cons.mpr ⟨kw_X4_153, List.forall_mem_cons.mpr ⟨kw_X4_156, List.forall_mem_cons.mpr ⟨kw_X4_159, List.forall_mem_cons.mpr ⟨kw_X4_162, List.forall_mem_cons.mpr ⟨kw_X4_165, List.forall_mem_cons.mpr ⟨kw_X4_168, List.forall_mem_cons.mpr ⟨kw_X4_172, List.forall_mem_cons.mpr ⟨kw_X4_175, List.forall_mem_cons.mpr ⟨kw_X4_178, List.forall_mem_cons.mpr ⟨kw_X4_181, List.forall_mem_cons.mpr ⟨kw_X4_184, List.forall_mem_cons.mpr ⟨kw_X4_187, List.forall_mem_cons.mpr ⟨kw_X4_189, List.forall_mem_cons.mpr ⟨kw_X4_192, List.forall_mem_cons.mpr ⟨kw_X4_195, List.forall_mem_cons.mpr ⟨kw_X4_198, List.forall_mem_cons.mpr ⟨kw_X4_201, List.forall_mem_cons.mpr ⟨kw_X4_205, List.forall_mem_cons.mpr ⟨kw_X4_207, List.forall_mem_cons.mpr ⟨kw_X4_209, List.forall_mem_cons.mpr ⟨kw_X4_212, List.forall_mem_cons.mpr ⟨kw_X4_214, List.forall_mem_cons.mpr ⟨kw_X4_217, List.forall_mem_cons.mpr ⟨kw_X4_220, List.forall_mem_cons.mpr ⟨kw_X4_223, List.forall_mem_cons.mpr ⟨kw_X4_226, List.forall_mem_cons.mpr ⟨kw_X4_229, List.forall_mem_cons.mpr ⟨kw_X4_231, fun _ h => absurd h List.not_mem_nil⟩⟩⟩⟩⟩⟩⟩⟩⟩⟩⟩⟩⟩⟩⟩⟩⟩⟩⟩⟩⟩⟩⟩⟩⟩⟩⟩⟩⟩⟩⟩⟩⟩⟩⟩⟩⟩⟩⟩⟩⟩⟩⟩⟩⟩⟩⟩⟩⟩⟩⟩⟩⟩⟩⟩⟩⟩⟩⟩⟩⟩⟩⟩⟩⟩⟩⟩⟩⟩⟩⟩) h
