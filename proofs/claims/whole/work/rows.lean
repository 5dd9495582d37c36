section
-- ===== PART A: goes FIRST, ahead of the names: the tables' words, and 'selects' of the private methods out of them =====
/-- a private method of a class that the tables say can be made, by its rows of tables_1 -/
def lw_okq (q : MethodName × Nat) : Prop := (q.1.cls ≠ "java/lang/invoke/MethodHandle" ∧ q.1.cls ≠ "java/lang/invoke/VarHandle") ∧ Cond.instantiable q.1.cls q.2 ∈ tables_1 ∧ Cond.privateMethod q.1 ∈ tables_1 ∧ Cond.instanceMethod q.1 ∈ tables_1
theorem lw_p0 : lw_okq (⟨"LogsAfloat", "find", "(I)I"⟩, 11) := ⟨⟨by decide +kernel, by decide +kernel⟩, List.mem_of_getElem? (i := 11) (by decide +kernel), List.mem_of_getElem? (i := 201) (by decide +kernel), List.mem_of_getElem? (i := 202) (by decide +kernel)⟩
theorem lw_p1 : lw_okq (⟨"LogsAfloat", "reaches", "(III)Z"⟩, 11) := ⟨⟨by decide +kernel, by decide +kernel⟩, List.mem_of_getElem? (i := 11) (by decide +kernel), List.mem_of_getElem? (i := 217) (by decide +kernel), List.mem_of_getElem? (i := 218) (by decide +kernel)⟩
theorem lw_p2 : lw_okq (⟨"LogsAfloat", "isLoad", "(I)Z"⟩, 11) := ⟨⟨by decide +kernel, by decide +kernel⟩, List.mem_of_getElem? (i := 11) (by decide +kernel), List.mem_of_getElem? (i := 246) (by decide +kernel), List.mem_of_getElem? (i := 247) (by decide +kernel)⟩
theorem lw_p3 : lw_okq (⟨"LogsAfloat", "wholeWeight", "()I"⟩, 11) := ⟨⟨by decide +kernel, by decide +kernel⟩, List.mem_of_getElem? (i := 11) (by decide +kernel), List.mem_of_getElem? (i := 274) (by decide +kernel), List.mem_of_getElem? (i := 275) (by decide +kernel)⟩
theorem lw_p4 : lw_okq (⟨"LogsAfloat", "settle", "(I)I"⟩, 11) := ⟨⟨by decide +kernel, by decide +kernel⟩, List.mem_of_getElem? (i := 11) (by decide +kernel), List.mem_of_getElem? (i := 294) (by decide +kernel), List.mem_of_getElem? (i := 295) (by decide +kernel)⟩
theorem lw_p5 : lw_okq (⟨"LogsAfloat", "tell", "(JJ)I"⟩, 11) := ⟨⟨by decide +kernel, by decide +kernel⟩, List.mem_of_getElem? (i := 11) (by decide +kernel), List.mem_of_getElem? (i := 354) (by decide +kernel), List.mem_of_getElem? (i := 355) (by decide +kernel)⟩
theorem lw_p6 : lw_okq (⟨"LogsAfloat", "weightAcross", "(I)J"⟩, 11) := ⟨⟨by decide +kernel, by decide +kernel⟩, List.mem_of_getElem? (i := 11) (by decide +kernel), List.mem_of_getElem? (i := 385) (by decide +kernel), List.mem_of_getElem? (i := 386) (by decide +kernel)⟩
theorem lw_p7 : lw_okq (⟨"LogsAfloat", "weightUp", "(I)J"⟩, 11) := ⟨⟨by decide +kernel, by decide +kernel⟩, List.mem_of_getElem? (i := 11) (by decide +kernel), List.mem_of_getElem? (i := 399) (by decide +kernel), List.mem_of_getElem? (i := 400) (by decide +kernel)⟩
theorem lw_p8 : lw_okq (⟨"LogsAfloat", "leaning", "(I)I"⟩, 11) := ⟨⟨by decide +kernel, by decide +kernel⟩, List.mem_of_getElem? (i := 11) (by decide +kernel), List.mem_of_getElem? (i := 423) (by decide +kernel), List.mem_of_getElem? (i := 424) (by decide +kernel)⟩
theorem lw_p9 : lw_okq (⟨"LogsAfloat", "holding", "(I)I"⟩, 11) := ⟨⟨by decide +kernel, by decide +kernel⟩, List.mem_of_getElem? (i := 11) (by decide +kernel), List.mem_of_getElem? (i := 446) (by decide +kernel), List.mem_of_getElem? (i := 447) (by decide +kernel)⟩
theorem lw_p10 : lw_okq (⟨"LogsAfloat", "loadsThere", "()I"⟩, 11) := ⟨⟨by decide +kernel, by decide +kernel⟩, List.mem_of_getElem? (i := 11) (by decide +kernel), List.mem_of_getElem? (i := 487) (by decide +kernel), List.mem_of_getElem? (i := 488) (by decide +kernel)⟩
theorem lw_p11 : lw_okq (⟨"LogsAfloat", "digestPlaces", "(J)J"⟩, 11) := ⟨⟨by decide +kernel, by decide +kernel⟩, List.mem_of_getElem? (i := 11) (by decide +kernel), List.mem_of_getElem? (i := 505) (by decide +kernel), List.mem_of_getElem? (i := 506) (by decide +kernel)⟩
theorem lw_p12 : lw_okq (⟨"LogsAfloat", "digestLoads", "(J)J"⟩, 11) := ⟨⟨by decide +kernel, by decide +kernel⟩, List.mem_of_getElem? (i := 11) (by decide +kernel), List.mem_of_getElem? (i := 509) (by decide +kernel), List.mem_of_getElem? (i := 510) (by decide +kernel)⟩
theorem lw_p13 : lw_okq (⟨"LogsAfloat", "digestSheets", "(J)J"⟩, 11) := ⟨⟨by decide +kernel, by decide +kernel⟩, List.mem_of_getElem? (i := 11) (by decide +kernel), List.mem_of_getElem? (i := 514) (by decide +kernel), List.mem_of_getElem? (i := 515) (by decide +kernel)⟩
theorem lw_p14 : lw_okq (⟨"LogsAfloatModel", "begin", "(II)V"⟩, 38) := ⟨⟨by decide +kernel, by decide +kernel⟩, List.mem_of_getElem? (i := 518) (by decide +kernel), List.mem_of_getElem? (i := 524) (by decide +kernel), List.mem_of_getElem? (i := 525) (by decide +kernel)⟩
theorem lw_p15 : lw_okq (⟨"LogsAfloatModel", "isPlace", "(II)Z"⟩, 38) := ⟨⟨by decide +kernel, by decide +kernel⟩, List.mem_of_getElem? (i := 518) (by decide +kernel), List.mem_of_getElem? (i := 671) (by decide +kernel), List.mem_of_getElem? (i := 672) (by decide +kernel)⟩
def lw_privs_1 : List (MethodName × Nat) := [(⟨"LogsAfloat", "find", "(I)I"⟩, 11), (⟨"LogsAfloat", "reaches", "(III)Z"⟩, 11), (⟨"LogsAfloat", "isLoad", "(I)Z"⟩, 11), (⟨"LogsAfloat", "wholeWeight", "()I"⟩, 11), (⟨"LogsAfloat", "settle", "(I)I"⟩, 11), (⟨"LogsAfloat", "tell", "(JJ)I"⟩, 11), (⟨"LogsAfloat", "weightAcross", "(I)J"⟩, 11), (⟨"LogsAfloat", "weightUp", "(I)J"⟩, 11), (⟨"LogsAfloat", "leaning", "(I)I"⟩, 11), (⟨"LogsAfloat", "holding", "(I)I"⟩, 11), (⟨"LogsAfloat", "loadsThere", "()I"⟩, 11), (⟨"LogsAfloat", "digestPlaces", "(J)J"⟩, 11), (⟨"LogsAfloat", "digestLoads", "(J)J"⟩, 11), (⟨"LogsAfloat", "digestSheets", "(J)J"⟩, 11), (⟨"LogsAfloatModel", "begin", "(II)V"⟩, 38), (⟨"LogsAfloatModel", "isPlace", "(II)Z"⟩, 38)]
theorem lw_r1 : ∀ q ∈ lw_privs_1, lw_okq q := List.forall_mem_cons.mpr ⟨lw_p0, List.forall_mem_cons.mpr ⟨lw_p1, List.forall_mem_cons.mpr ⟨lw_p2, List.forall_mem_cons.mpr ⟨lw_p3, List.forall_mem_cons.mpr ⟨lw_p4, List.forall_mem_cons.mpr ⟨lw_p5, List.forall_mem_cons.mpr ⟨lw_p6, List.forall_mem_cons.mpr ⟨lw_p7, List.forall_mem_cons.mpr ⟨lw_p8, List.forall_mem_cons.mpr ⟨lw_p9, List.forall_mem_cons.mpr ⟨lw_p10, List.forall_mem_cons.mpr ⟨lw_p11, List.forall_mem_cons.mpr ⟨lw_p12, List.forall_mem_cons.mpr ⟨lw_p13, List.forall_mem_cons.mpr ⟨lw_p14, List.forall_mem_cons.mpr ⟨lw_p15, fun _ h => absurd h List.not_mem_nil⟩⟩⟩⟩⟩⟩⟩⟩⟩⟩⟩⟩⟩⟩⟩⟩
theorem lw_p16 : lw_okq (⟨"LogsAfloatModel", "meets", "(I)I"⟩, 38) := ⟨⟨by decide +kernel, by decide +kernel⟩, List.mem_of_getElem? (i := 518) (by decide +kernel), List.mem_of_getElem? (i := 690) (by decide +kernel), List.mem_of_getElem? (i := 691) (by decide +kernel)⟩
theorem lw_p17 : lw_okq (⟨"LogsAfloatModel", "need", "(ZI)I"⟩, 38) := ⟨⟨by decide +kernel, by decide +kernel⟩, List.mem_of_getElem? (i := 518) (by decide +kernel), List.mem_of_getElem? (i := 721) (by decide +kernel), List.mem_of_getElem? (i := 722) (by decide +kernel)⟩
theorem lw_p18 : lw_okq (⟨"LogsAfloatModel", "toldOf", "(II)I"⟩, 38) := ⟨⟨by decide +kernel, by decide +kernel⟩, List.mem_of_getElem? (i := 518) (by decide +kernel), List.mem_of_getElem? (i := 737) (by decide +kernel), List.mem_of_getElem? (i := 738) (by decide +kernel)⟩
theorem lw_p19 : lw_okq (⟨"LogsAfloatModel", "squareWeights", "()I"⟩, 38) := ⟨⟨by decide +kernel, by decide +kernel⟩, List.mem_of_getElem? (i := 518) (by decide +kernel), List.mem_of_getElem? (i := 749) (by decide +kernel), List.mem_of_getElem? (i := 750) (by decide +kernel)⟩
theorem lw_p20 : lw_okq (⟨"LogsAfloatModel", "squareMany", "()I"⟩, 38) := ⟨⟨by decide +kernel, by decide +kernel⟩, List.mem_of_getElem? (i := 518) (by decide +kernel), List.mem_of_getElem? (i := 757) (by decide +kernel), List.mem_of_getElem? (i := 758) (by decide +kernel)⟩
theorem lw_p21 : lw_okq (⟨"LogsAfloatModel", "afloat", "(ZI)I"⟩, 38) := ⟨⟨by decide +kernel, by decide +kernel⟩, List.mem_of_getElem? (i := 518) (by decide +kernel), List.mem_of_getElem? (i := 765) (by decide +kernel), List.mem_of_getElem? (i := 766) (by decide +kernel)⟩
theorem lw_p22 : lw_okq (⟨"LogsAfloatModel", "lay", "(I)V"⟩, 38) := ⟨⟨by decide +kernel, by decide +kernel⟩, List.mem_of_getElem? (i := 518) (by decide +kernel), List.mem_of_getElem? (i := 770) (by decide +kernel), List.mem_of_getElem? (i := 771) (by decide +kernel)⟩
theorem lw_p23 : lw_okq (⟨"LogsAfloatModel", "finds", "(I)Z"⟩, 38) := ⟨⟨by decide +kernel, by decide +kernel⟩, List.mem_of_getElem? (i := 518) (by decide +kernel), List.mem_of_getElem? (i := 774) (by decide +kernel), List.mem_of_getElem? (i := 775) (by decide +kernel)⟩
theorem lw_p24 : lw_okq (⟨"LogsAfloatModel", "spread", "(I)V"⟩, 38) := ⟨⟨by decide +kernel, by decide +kernel⟩, List.mem_of_getElem? (i := 518) (by decide +kernel), List.mem_of_getElem? (i := 778) (by decide +kernel), List.mem_of_getElem? (i := 779) (by decide +kernel)⟩
theorem lw_p25 : lw_okq (⟨"LogsAfloatModel", "isWetAt", "(III)Z"⟩, 38) := ⟨⟨by decide +kernel, by decide +kernel⟩, List.mem_of_getElem? (i := 518) (by decide +kernel), List.mem_of_getElem? (i := 782) (by decide +kernel), List.mem_of_getElem? (i := 783) (by decide +kernel)⟩
theorem lw_p26 : lw_okq (⟨"LogsAfloatModel", "firmBelow", "(I)I"⟩, 38) := ⟨⟨by decide +kernel, by decide +kernel⟩, List.mem_of_getElem? (i := 518) (by decide +kernel), List.mem_of_getElem? (i := 786) (by decide +kernel), List.mem_of_getElem? (i := 787) (by decide +kernel)⟩
theorem lw_p27 : lw_okq (⟨"LogsAfloatModel", "firmIn", "(I)I"⟩, 38) := ⟨⟨by decide +kernel, by decide +kernel⟩, List.mem_of_getElem? (i := 518) (by decide +kernel), List.mem_of_getElem? (i := 790) (by decide +kernel), List.mem_of_getElem? (i := 791) (by decide +kernel)⟩
theorem lw_p28 : lw_okq (⟨"LogsAfloatModel", "tells", "(JJ)I"⟩, 38) := ⟨⟨by decide +kernel, by decide +kernel⟩, List.mem_of_getElem? (i := 518) (by decide +kernel), List.mem_of_getElem? (i := 798) (by decide +kernel), List.mem_of_getElem? (i := 799) (by decide +kernel)⟩
theorem lw_p29 : lw_okq (⟨"LogsAfloatModel", "layPowers", "()V"⟩, 38) := ⟨⟨by decide +kernel, by decide +kernel⟩, List.mem_of_getElem? (i := 518) (by decide +kernel), List.mem_of_getElem? (i := 813) (by decide +kernel), List.mem_of_getElem? (i := 814) (by decide +kernel)⟩
theorem lw_p30 : lw_okq (⟨"LogsAfloatModel", "laySums", "()V"⟩, 38) := ⟨⟨by decide +kernel, by decide +kernel⟩, List.mem_of_getElem? (i := 518) (by decide +kernel), List.mem_of_getElem? (i := 817) (by decide +kernel), List.mem_of_getElem? (i := 818) (by decide +kernel)⟩
theorem lw_p31 : lw_okq (⟨"LogsAfloatModel", "lean", "()J"⟩, 38) := ⟨⟨by decide +kernel, by decide +kernel⟩, List.mem_of_getElem? (i := 518) (by decide +kernel), List.mem_of_getElem? (i := 830) (by decide +kernel), List.mem_of_getElem? (i := 831) (by decide +kernel)⟩
def lw_privs_2 : List (MethodName × Nat) := [(⟨"LogsAfloatModel", "meets", "(I)I"⟩, 38), (⟨"LogsAfloatModel", "need", "(ZI)I"⟩, 38), (⟨"LogsAfloatModel", "toldOf", "(II)I"⟩, 38), (⟨"LogsAfloatModel", "squareWeights", "()I"⟩, 38), (⟨"LogsAfloatModel", "squareMany", "()I"⟩, 38), (⟨"LogsAfloatModel", "afloat", "(ZI)I"⟩, 38), (⟨"LogsAfloatModel", "lay", "(I)V"⟩, 38), (⟨"LogsAfloatModel", "finds", "(I)Z"⟩, 38), (⟨"LogsAfloatModel", "spread", "(I)V"⟩, 38), (⟨"LogsAfloatModel", "isWetAt", "(III)Z"⟩, 38), (⟨"LogsAfloatModel", "firmBelow", "(I)I"⟩, 38), (⟨"LogsAfloatModel", "firmIn", "(I)I"⟩, 38), (⟨"LogsAfloatModel", "tells", "(JJ)I"⟩, 38), (⟨"LogsAfloatModel", "layPowers", "()V"⟩, 38), (⟨"LogsAfloatModel", "laySums", "()V"⟩, 38), (⟨"LogsAfloatModel", "lean", "()J"⟩, 38)]
theorem lw_r2 : ∀ q ∈ lw_privs_2, lw_okq q := List.forall_mem_cons.mpr ⟨lw_p16, List.forall_mem_cons.mpr ⟨lw_p17, List.forall_mem_cons.mpr ⟨lw_p18, List.forall_mem_cons.mpr ⟨lw_p19, List.forall_mem_cons.mpr ⟨lw_p20, List.forall_mem_cons.mpr ⟨lw_p21, List.forall_mem_cons.mpr ⟨lw_p22, List.forall_mem_cons.mpr ⟨lw_p23, List.forall_mem_cons.mpr ⟨lw_p24, List.forall_mem_cons.mpr ⟨lw_p25, List.forall_mem_cons.mpr ⟨lw_p26, List.forall_mem_cons.mpr ⟨lw_p27, List.forall_mem_cons.mpr ⟨lw_p28, List.forall_mem_cons.mpr ⟨lw_p29, List.forall_mem_cons.mpr ⟨lw_p30, List.forall_mem_cons.mpr ⟨lw_p31, fun _ h => absurd h List.not_mem_nil⟩⟩⟩⟩⟩⟩⟩⟩⟩⟩⟩⟩⟩⟩⟩⟩
theorem lw_p32 : lw_okq (⟨"LogsAfloatModel", "leastBreadth", "()V"⟩, 38) := ⟨⟨by decide +kernel, by decide +kernel⟩, List.mem_of_getElem? (i := 518) (by decide +kernel), List.mem_of_getElem? (i := 838) (by decide +kernel), List.mem_of_getElem? (i := 839) (by decide +kernel)⟩
theorem lw_p33 : lw_okq (⟨"LogsAfloatModel", "layBreadth", "(I)V"⟩, 38) := ⟨⟨by decide +kernel, by decide +kernel⟩, List.mem_of_getElem? (i := 518) (by decide +kernel), List.mem_of_getElem? (i := 842) (by decide +kernel), List.mem_of_getElem? (i := 843) (by decide +kernel)⟩
theorem lw_p34 : lw_okq (⟨"LogsAfloatModel", "holdsNow", "()I"⟩, 38) := ⟨⟨by decide +kernel, by decide +kernel⟩, List.mem_of_getElem? (i := 518) (by decide +kernel), List.mem_of_getElem? (i := 853) (by decide +kernel), List.mem_of_getElem? (i := 854) (by decide +kernel)⟩
theorem lw_p35 : lw_okq (⟨"LogsAfloatModel", "mostRoom", "()I"⟩, 38) := ⟨⟨by decide +kernel, by decide +kernel⟩, List.mem_of_getElem? (i := 518) (by decide +kernel), List.mem_of_getElem? (i := 865) (by decide +kernel), List.mem_of_getElem? (i := 866) (by decide +kernel)⟩
def lw_privs_3 : List (MethodName × Nat) := [(⟨"LogsAfloatModel", "leastBreadth", "()V"⟩, 38), (⟨"LogsAfloatModel", "layBreadth", "(I)V"⟩, 38), (⟨"LogsAfloatModel", "holdsNow", "()I"⟩, 38), (⟨"LogsAfloatModel", "mostRoom", "()I"⟩, 38)]
theorem lw_r3 : ∀ q ∈ lw_privs_3, lw_okq q := List.forall_mem_cons.mpr ⟨lw_p32, List.forall_mem_cons.mpr ⟨lw_p33, List.forall_mem_cons.mpr ⟨lw_p34, List.forall_mem_cons.mpr ⟨lw_p35, fun _ h => absurd h List.not_mem_nil⟩⟩⟩⟩
def lw_privs : List (MethodName × Nat) := lw_privs_1 ++ (lw_privs_2 ++ (lw_privs_3))
def lw_tbl : List Cond := k2_sels lw_privs ++ tables_1
theorem lw_privs_ok : ∀ q ∈ lw_privs, lw_okq q := by
  show ∀ q ∈ lw_privs_1 ++ (lw_privs_2 ++ (lw_privs_3)), lw_okq q
  exact List.forall_mem_append.mpr ⟨lw_r1, List.forall_mem_append.mpr ⟨lw_r2, lw_r3⟩⟩
end
section
/-! ===== BEGIN words of one list among another's, by their places ===== -/
theorem goodIn_r {big : List Cond} (ws : List Cond) (ps : List Nat) (hp : ws = ps.filterMap (fun i => big[i]?)) (h : ws.all goodWord = true) : GoodIn big ws := by
  intro w hw
  have h1 := List.all_eq_true.mp h w hw
  rw [hp] at hw
  obtain ⟨i, -, hi⟩ := List.mem_filterMap.mp hw
  have hm : w ∈ big := by first | exact List.mem_of_getElem? hi | exact List.getElem?_mem hi
  exact ⟨hm, good_of_word h1⟩
theorem goodIn_app {big a b : List Cond} (ha : GoodIn big a) (hb : GoodIn big b) : GoodIn big (a ++ b) := fun w h => (List.mem_append.mp h).elim (ha w) (hb w)
theorem goodIn_ca {big a b : List Cond} {c : Cond} (ha : GoodIn big (c :: a)) (hb : GoodIn big b) : GoodIn big (c :: (a ++ b)) := fun w h => (List.mem_cons.mp h).elim (fun e => ha w (List.mem_cons.mpr (Or.inl e))) (fun h => (List.mem_append.mp h).elim (fun h => ha w (List.mem_cons.mpr (Or.inr h))) (hb w))
theorem goodIn_sub {big ws : List Cond} (hm : ∀ w ∈ ws, w ∈ big) (h : ws.all goodWord = true) : GoodIn big ws := fun w hw => ⟨hm w hw, good_of_word (List.all_eq_true.mp h w hw)⟩
/-! ===== END ===== -/
/-! ===== BEGIN printed: names, fields, word lists, decode rows ===== -/
def RX0 : String := "LogsAfloat$Cut"
def TX0 : u_T := fun k => match k with
  | 0 => ("LogsAfloat$Cut", "weights", "[I", true)
  | 1 => ("LogsAfloat$Cut", "width", "I", false)
  | _ => ("LogsAfloat$Cut", "height", "I", false)
def tyX0 : Nat → FieldType := fun k => match k with
  | 0 => .array .int
  | 1 => .int
  | _ => .int
abbrev wsX00 : List Cond := u_ws RX0 TX0 3
theorem nmX0 : ∀ a, a < 3 → ∀ b, b < 3 → a ≠ b → (TX0 a).2.1 ≠ (TX0 b).2.1 := by decide +kernel
theorem tyX0_ok : ∀ k, k < 3 → parseFieldDescriptor (TX0 k).2.2.1 = some (tyX0 k) := by decide +kernel
abbrev cX0_init : ByteArray := prog_2_method_1_code
def yX0_init : MethodName := ⟨RX0, "<init>", "()V"⟩
abbrev cX0_begin : ByteArray := prog_2_method_2_code
def yX0_begin : MethodName := ⟨RX0, "begin", "(II)V"⟩
abbrev cX0_has : ByteArray := prog_2_method_3_code
def yX0_has : MethodName := ⟨RX0, "has", "(II)Z"⟩
abbrev cX0_weightOf : ByteArray := prog_2_method_4_code
def yX0_weightOf : MethodName := ⟨RX0, "weightOf", "(II)I"⟩
abbrev cX0_put : ByteArray := prog_2_method_5_code
def yX0_put : MethodName := ⟨RX0, "put", "(III)V"⟩
abbrev cX0_across : ByteArray := prog_2_method_6_code
def yX0_across : MethodName := ⟨RX0, "across", "(I)I"⟩
abbrev cX0_up : ByteArray := prog_2_method_7_code
def yX0_up : MethodName := ⟨RX0, "up", "(I)I"⟩
abbrev cX0_squares : ByteArray := prog_2_method_8_code
def yX0_squares : MethodName := ⟨RX0, "squares", "()I"⟩
abbrev cX0_weight : ByteArray := prog_2_method_9_code
def yX0_weight : MethodName := ⟨RX0, "weight", "()I"⟩
abbrev cX0_weightAcross : ByteArray := prog_2_method_10_code
def yX0_weightAcross : MethodName := ⟨RX0, "weightAcross", "(I)J"⟩
abbrev cX0_weightUp : ByteArray := prog_2_method_11_code
def yX0_weightUp : MethodName := ⟨RX0, "weightUp", "(I)J"⟩
def RX1 : String := "LogsAfloat$Lie"
def TX1 : u_T := fun k => match k with
  | 0 => ("LogsAfloat$Lie", "open", "[I", true)
  | 1 => ("LogsAfloat$Lie", "wet", "[I", true)
  | 2 => ("LogsAfloat$Lie", "width", "I", false)
  | 3 => ("LogsAfloat$Lie", "height", "I", false)
  | 4 => ("LogsAfloat$Lie", "row", "I", false)
  | 5 => ("LogsAfloat$Lie", "firmBelow", "I", false)
  | 6 => ("LogsAfloat$Lie", "firmAcross", "I", false)
  | 7 => ("LogsAfloat$Lie", "part", "J", false)
  | 8 => ("LogsAfloat$Lie", "parts", "J", false)
  | 9 => ("LogsAfloat$Lie", "breadthUpper", "J", false)
  | _ => ("LogsAfloat$Lie", "breadthLower", "J", false)
def tyX1 : Nat → FieldType := fun k => match k with
  | 0 => .array .int
  | 1 => .array .int
  | 2 => .int
  | 3 => .int
  | 4 => .int
  | 5 => .int
  | 6 => .int
  | 7 => .long
  | 8 => .long
  | 9 => .long
  | _ => .long
abbrev wsX10 : List Cond := u_ws RX1 TX1 11
theorem nmX1 : ∀ a, a < 11 → ∀ b, b < 11 → a ≠ b → (TX1 a).2.1 ≠ (TX1 b).2.1 := by decide +kernel
theorem tyX1_ok : ∀ k, k < 11 → parseFieldDescriptor (TX1 k).2.2.1 = some (tyX1 k) := by decide +kernel
abbrev cX1_init : ByteArray := prog_3_method_1_code
def yX1_init : MethodName := ⟨RX1, "<init>", "()V"⟩
abbrev cX1_turnTo : ByteArray := prog_3_method_2_code
def yX1_turnTo : MethodName := ⟨RX1, "turnTo", "(LLogsAfloat$Cut;I)V"⟩
abbrev cX1_riseTo : ByteArray := prog_3_method_3_code
def yX1_riseTo : MethodName := ⟨RX1, "riseTo", "(I)V"⟩
abbrev cX1_waysInto : ByteArray := prog_3_method_4_code
def yX1_waysInto : MethodName := ⟨RX1, "waysInto", "(I)I"⟩
abbrev cX1_spread : ByteArray := prog_3_method_5_code
def yX1_spread : MethodName := ⟨RX1, "spread", "()V"⟩
abbrev cX1_firm : ByteArray := prog_3_method_6_code
def yX1_firm : MethodName := ⟨RX1, "firm", "(I)I"⟩
abbrev cX1_countFirm : ByteArray := prog_3_method_7_code
def yX1_countFirm : MethodName := ⟨RX1, "countFirm", "()V"⟩
abbrev cX1_bears : ByteArray := prog_3_method_8_code
def yX1_bears : MethodName := ⟨RX1, "bears", "(II)Z"⟩
abbrev cX1_mostRoom : ByteArray := prog_3_method_9_code
def yX1_mostRoom : MethodName := ⟨RX1, "mostRoom", "()I"⟩
abbrev cX1_stateOf : ByteArray := prog_3_method_10_code
def yX1_stateOf : MethodName := ⟨RX1, "stateOf", "(II)I"⟩
abbrev cX1_halves : ByteArray := prog_3_method_11_code
def yX1_halves : MethodName := ⟨RX1, "halves", "(I)I"⟩
abbrev cX1_momentAcross : ByteArray := prog_3_method_12_code
def yX1_momentAcross : MethodName := ⟨RX1, "momentAcross", "()J"⟩
abbrev cX1_momentUp : ByteArray := prog_3_method_13_code
def yX1_momentUp : MethodName := ⟨RX1, "momentUp", "()J"⟩
abbrev cX1_measureLine : ByteArray := prog_3_method_14_code
def yX1_measureLine : MethodName := ⟨RX1, "measureLine", "()V"⟩
abbrev cX1_measureRow : ByteArray := prog_3_method_15_code
def yX1_measureRow : MethodName := ⟨RX1, "measureRow", "()V"⟩
def RX2 : String := "LogsAfloat$Load"
def TX2 : u_T := fun k => match k with
  | 0 => ("LogsAfloat$Load", "there", "Z", false)
  | 1 => ("LogsAfloat$Load", "kind", "I", false)
  | 2 => ("LogsAfloat$Load", "a", "I", false)
  | 3 => ("LogsAfloat$Load", "b", "I", false)
  | 4 => ("LogsAfloat$Load", "weight", "I", false)
  | _ => ("LogsAfloat$Load", "rope", "I", false)
def tyX2 : Nat → FieldType := fun k => match k with
  | 0 => .boolean
  | 1 => .int
  | 2 => .int
  | 3 => .int
  | 4 => .int
  | _ => .int
abbrev wsX20 : List Cond := u_ws RX2 TX2 6
theorem nmX2 : ∀ a, a < 6 → ∀ b, b < 6 → a ≠ b → (TX2 a).2.1 ≠ (TX2 b).2.1 := by decide +kernel
theorem tyX2_ok : ∀ k, k < 6 → parseFieldDescriptor (TX2 k).2.2.1 = some (tyX2 k) := by decide +kernel
abbrev cX2_init : ByteArray := prog_4_method_1_code
def yX2_init : MethodName := ⟨RX2, "<init>", "()V"⟩
abbrev cX2_begin : ByteArray := prog_4_method_2_code
def yX2_begin : MethodName := ⟨RX2, "begin", "(IIII)V"⟩
abbrev cX2_fact : ByteArray := prog_4_method_3_code
def yX2_fact : MethodName := ⟨RX2, "fact", "(I)I"⟩
def RX3 : String := "LogsAfloat"
def TX3 : u_T := fun k => match k with
  | 0 => ("LogsAfloat", "cut", "LLogsAfloat$Cut;", true)
  | 1 => ("LogsAfloat", "lie", "LLogsAfloat$Lie;", true)
  | 2 => ("LogsAfloat", "loads", "[LLogsAfloat$Load;", true)
  | 3 => ("LogsAfloat", "sheets", "[[B", true)
  | 4 => ("LogsAfloat", "sizes", "[I", true)
  | 5 => ("LogsAfloat", "found", "[I", true)
  | 6 => ("LogsAfloat", "density", "I", false)
  | 7 => ("LogsAfloat", "ever", "I", false)
  | 8 => ("LogsAfloat", "latest", "I", false)
  | 9 => ("LogsAfloat", "upper", "J", false)
  | _ => ("LogsAfloat", "lower", "J", false)
def tyX3 : Nat → FieldType := fun k => match k with
  | 0 => .object "LogsAfloat$Cut"
  | 1 => .object "LogsAfloat$Lie"
  | 2 => .array (.object "LogsAfloat$Load")
  | 3 => .array (.array .byte)
  | 4 => .array .int
  | 5 => .array .int
  | 6 => .int
  | 7 => .int
  | 8 => .int
  | 9 => .long
  | _ => .long
abbrev wsX30 : List Cond := u_ws RX3 TX3 11
theorem nmX3 : ∀ a, a < 11 → ∀ b, b < 11 → a ≠ b → (TX3 a).2.1 ≠ (TX3 b).2.1 := by decide +kernel
theorem tyX3_ok : ∀ k, k < 11 → parseFieldDescriptor (TX3 k).2.2.1 = some (tyX3 k) := by decide +kernel
abbrev cX3_init : ByteArray := prog_1_method_1_code
def yX3_init : MethodName := ⟨RX3, "<init>", "()V"⟩
abbrev cX3_log : ByteArray := prog_1_method_2_code
def yX3_log : MethodName := ⟨RX3, "log", "(II)I"⟩
abbrev cX3_square : ByteArray := prog_1_method_3_code
def yX3_square : MethodName := ⟨RX3, "square", "(III)I"⟩
abbrev cX3_at : ByteArray := prog_1_method_4_code
def yX3_at : MethodName := ⟨RX3, "at", "(II)I"⟩
abbrev cX3_water : ByteArray := prog_1_method_5_code
def yX3_water : MethodName := ⟨RX3, "water", "(I)I"⟩
abbrev cX3_sheet : ByteArray := prog_1_method_6_code
def yX3_sheet : MethodName := ⟨RX3, "sheet", "(II)I"⟩
abbrev cX3_lay : ByteArray := prog_1_method_7_code
def yX3_lay : MethodName := ⟨RX3, "lay", "(III)I"⟩
abbrev cX3_tear : ByteArray := prog_1_method_8_code
def yX3_tear : MethodName := ⟨RX3, "tear", "(I)I"⟩
abbrev cX3_copy : ByteArray := prog_1_method_9_code
def yX3_copy : MethodName := ⟨RX3, "copy", "(IIIII)I"⟩
abbrev cX3_fill : ByteArray := prog_1_method_10_code
def yX3_fill : MethodName := ⟨RX3, "fill", "(II)I"⟩
abbrev cX3_load : ByteArray := prog_1_method_11_code
def yX3_load : MethodName := ⟨RX3, "load", "(IIII)I"⟩
abbrev cX3_move : ByteArray := prog_1_method_12_code
def yX3_move : MethodName := ⟨RX3, "move", "(III)I"⟩
abbrev cX3_rope : ByteArray := prog_1_method_13_code
def yX3_rope : MethodName := ⟨RX3, "rope", "(II)I"⟩
abbrev cX3_drop : ByteArray := prog_1_method_14_code
def yX3_drop : MethodName := ⟨RX3, "drop", "(I)I"⟩
abbrev cX3_told : ByteArray := prog_1_method_15_code
def yX3_told : MethodName := ⟨RX3, "told", "(II)I"⟩
abbrev cX3_is : ByteArray := prog_1_method_16_code
def yX3_is : MethodName := ⟨RX3, "is", "(II)I"⟩
abbrev cX3_all : ByteArray := prog_1_method_17_code
def yX3_all : MethodName := ⟨RX3, "all", "()I"⟩
abbrev cX3_mean : ByteArray := prog_1_method_18_code
def yX3_mean : MethodName := ⟨RX3, "mean", "()I"⟩
abbrev cX3_floats : ByteArray := prog_1_method_19_code
def yX3_floats : MethodName := ⟨RX3, "floats", "(I)I"⟩
abbrev cX3_draft : ByteArray := prog_1_method_20_code
def yX3_draft : MethodName := ⟨RX3, "draft", "(I)I"⟩
abbrev cX3_above : ByteArray := prog_1_method_21_code
def yX3_above : MethodName := ⟨RX3, "above", "(I)I"⟩
abbrev cX3_middle : ByteArray := prog_1_method_22_code
def yX3_middle : MethodName := ⟨RX3, "middle", "(II)I"⟩
abbrev cX3_place : ByteArray := prog_1_method_23_code
def yX3_place : MethodName := ⟨RX3, "place", "(III)I"⟩
abbrev cX3_leans : ByteArray := prog_1_method_24_code
def yX3_leans : MethodName := ⟨RX3, "leans", "(I)I"⟩
abbrev cX3_breadth : ByteArray := prog_1_method_25_code
def yX3_breadth : MethodName := ⟨RX3, "breadth", "(I)I"⟩
abbrev cX3_holds : ByteArray := prog_1_method_26_code
def yX3_holds : MethodName := ⟨RX3, "holds", "(I)I"⟩
abbrev cX3_rests : ByteArray := prog_1_method_27_code
def yX3_rests : MethodName := ⟨RX3, "rests", "()I"⟩
abbrev cX3_carries : ByteArray := prog_1_method_28_code
def yX3_carries : MethodName := ⟨RX3, "carries", "(I)I"⟩
abbrev cX3_trim : ByteArray := prog_1_method_29_code
def yX3_trim : MethodName := ⟨RX3, "trim", "(II)I"⟩
abbrev cX3_room : ByteArray := prog_1_method_30_code
def yX3_room : MethodName := ⟨RX3, "room", "(III)I"⟩
abbrev cX3_upper : ByteArray := prog_1_method_31_code
def yX3_upper : MethodName := ⟨RX3, "upper", "()J"⟩
abbrev cX3_lower : ByteArray := prog_1_method_32_code
def yX3_lower : MethodName := ⟨RX3, "lower", "()J"⟩
abbrev cX3_count : ByteArray := prog_1_method_33_code
def yX3_count : MethodName := ⟨RX3, "count", "(I)I"⟩
abbrev cX3_finding : ByteArray := prog_1_method_34_code
def yX3_finding : MethodName := ⟨RX3, "finding", "()I"⟩
abbrev cX3_findings : ByteArray := prog_1_method_35_code
def yX3_findings : MethodName := ⟨RX3, "findings", "(I)I"⟩
abbrev cX3_digest : ByteArray := prog_1_method_36_code
def yX3_digest : MethodName := ⟨RX3, "digest", "()J"⟩
abbrev cX3_digestPlaces : ByteArray := prog_1_method_37_code
def yX3_digestPlaces : MethodName := ⟨RX3, "digestPlaces", "(J)J"⟩
abbrev cX3_digestLoads : ByteArray := prog_1_method_38_code
def yX3_digestLoads : MethodName := ⟨RX3, "digestLoads", "(J)J"⟩
abbrev cX3_digestSheets : ByteArray := prog_1_method_39_code
def yX3_digestSheets : MethodName := ⟨RX3, "digestSheets", "(J)J"⟩
abbrev cX3_within : ByteArray := prog_1_method_40_code
def yX3_within : MethodName := ⟨RX3, "within", "(III)Z"⟩
abbrev cX3_isTurn : ByteArray := prog_1_method_41_code
def yX3_isTurn : MethodName := ⟨RX3, "isTurn", "(I)Z"⟩
abbrev cX3_isSheet : ByteArray := prog_1_method_42_code
def yX3_isSheet : MethodName := ⟨RX3, "isSheet", "(I)Z"⟩
abbrev cX3_isPoint : ByteArray := prog_1_method_43_code
def yX3_isPoint : MethodName := ⟨RX3, "isPoint", "(II)Z"⟩
abbrev cX3_isLoad : ByteArray := prog_1_method_44_code
def yX3_isLoad : MethodName := ⟨RX3, "isLoad", "(I)Z"⟩
abbrev cX3_reaches : ByteArray := prog_1_method_45_code
def yX3_reaches : MethodName := ⟨RX3, "reaches", "(III)Z"⟩
abbrev cX3_find : ByteArray := prog_1_method_46_code
def yX3_find : MethodName := ⟨RX3, "find", "(I)I"⟩
abbrev cX3_tell : ByteArray := prog_1_method_47_code
def yX3_tell : MethodName := ⟨RX3, "tell", "(JJ)I"⟩
abbrev cX3_commonDivisor : ByteArray := prog_1_method_48_code
def yX3_commonDivisor : MethodName := ⟨RX3, "commonDivisor", "(JJ)J"⟩
abbrev cX3_loadsThere : ByteArray := prog_1_method_49_code
def yX3_loadsThere : MethodName := ⟨RX3, "loadsThere", "()I"⟩
abbrev cX3_wholeWeight : ByteArray := prog_1_method_50_code
def yX3_wholeWeight : MethodName := ⟨RX3, "wholeWeight", "()I"⟩
abbrev cX3_settle : ByteArray := prog_1_method_51_code
def yX3_settle : MethodName := ⟨RX3, "settle", "(I)I"⟩
abbrev cX3_weightAcross : ByteArray := prog_1_method_52_code
def yX3_weightAcross : MethodName := ⟨RX3, "weightAcross", "(I)J"⟩
abbrev cX3_weightUp : ByteArray := prog_1_method_53_code
def yX3_weightUp : MethodName := ⟨RX3, "weightUp", "(I)J"⟩
abbrev cX3_leaning : ByteArray := prog_1_method_54_code
def yX3_leaning : MethodName := ⟨RX3, "leaning", "(I)I"⟩
abbrev cX3_holding : ByteArray := prog_1_method_55_code
def yX3_holding : MethodName := ⟨RX3, "holding", "(I)I"⟩
abbrev cX3_turnedAcross : ByteArray := prog_1_method_56_code
def yX3_turnedAcross : MethodName := ⟨RX3, "turnedAcross", "(IIIII)I"⟩
abbrev cX3_turnedUp : ByteArray := prog_1_method_57_code
def yX3_turnedUp : MethodName := ⟨RX3, "turnedUp", "(IIIII)I"⟩
def RX4 : String := "LogsAfloatModel"
def TX4 : u_T := fun k => match k with
  | 0 => ("LogsAfloatModel", "latest", "I", false)
  | 1 => ("LogsAfloatModel", "came", "[I", true)
  | 2 => ("LogsAfloatModel", "upper", "J", false)
  | 3 => ("LogsAfloatModel", "lower", "J", false)
  | 4 => ("LogsAfloatModel", "w", "I", false)
  | 5 => ("LogsAfloatModel", "h", "I", false)
  | 6 => ("LogsAfloatModel", "water", "I", false)
  | 7 => ("LogsAfloatModel", "squares", "[I", true)
  | 8 => ("LogsAfloatModel", "sheetSize", "[I", true)
  | 9 => ("LogsAfloatModel", "sheets", "[B", true)
  | 10 => ("LogsAfloatModel", "copied", "[B", true)
  | 11 => ("LogsAfloatModel", "loads", "I", false)
  | 12 => ("LogsAfloatModel", "kindOf", "[I", true)
  | 13 => ("LogsAfloatModel", "pointA", "[I", true)
  | 14 => ("LogsAfloatModel", "pointB", "[I", true)
  | 15 => ("LogsAfloatModel", "weightOf", "[I", true)
  | 16 => ("LogsAfloatModel", "ropes", "[I", true)
  | 17 => ("LogsAfloatModel", "isGone", "[Z", true)
  | 18 => ("LogsAfloatModel", "wide", "I", false)
  | 19 => ("LogsAfloatModel", "high", "I", false)
  | 20 => ("LogsAfloatModel", "lies", "[I", true)
  | 21 => ("LogsAfloatModel", "weightX", "J", false)
  | 22 => ("LogsAfloatModel", "weightY", "J", false)
  | 23 => ("LogsAfloatModel", "isWet", "[Z", true)
  | 24 => ("LogsAfloatModel", "row", "I", false)
  | 25 => ("LogsAfloatModel", "partUp", "J", false)
  | 26 => ("LogsAfloatModel", "partLow", "J", false)
  | 27 => ("LogsAfloatModel", "below", "I", false)
  | 28 => ("LogsAfloatModel", "firm", "I", false)
  | 29 => ("LogsAfloatModel", "sumX", "J", false)
  | 30 => ("LogsAfloatModel", "sumRowX", "J", false)
  | 31 => ("LogsAfloatModel", "sumY", "J", false)
  | 32 => ("LogsAfloatModel", "powerX", "J", false)
  | 33 => ("LogsAfloatModel", "bottomX", "J", false)
  | 34 => ("LogsAfloatModel", "powerY", "J", false)
  | 35 => ("LogsAfloatModel", "bottomY", "J", false)
  | 36 => ("LogsAfloatModel", "breadthUp", "J", false)
  | _ => ("LogsAfloatModel", "breadthLow", "J", false)
def tyX4 : Nat → FieldType := fun k => match k with
  | 0 => .int
  | 1 => .array .int
  | 2 => .long
  | 3 => .long
  | 4 => .int
  | 5 => .int
  | 6 => .int
  | 7 => .array .int
  | 8 => .array .int
  | 9 => .array .byte
  | 10 => .array .byte
  | 11 => .int
  | 12 => .array .int
  | 13 => .array .int
  | 14 => .array .int
  | 15 => .array .int
  | 16 => .array .int
  | 17 => .array .boolean
  | 18 => .int
  | 19 => .int
  | 20 => .array .int
  | 21 => .long
  | 22 => .long
  | 23 => .array .boolean
  | 24 => .int
  | 25 => .long
  | 26 => .long
  | 27 => .int
  | 28 => .int
  | 29 => .long
  | 30 => .long
  | 31 => .long
  | 32 => .long
  | 33 => .long
  | 34 => .long
  | 35 => .long
  | 36 => .long
  | _ => .long
abbrev wsX40 : List Cond := u_ws RX4 TX4 38
theorem nmX4 : ∀ a, a < 38 → ∀ b, b < 38 → a ≠ b → (TX4 a).2.1 ≠ (TX4 b).2.1 := by decide +kernel
theorem tyX4_ok : ∀ k, k < 38 → parseFieldDescriptor (TX4 k).2.2.1 = some (tyX4 k) := by decide +kernel
abbrev cX4_init : ByteArray := prog_6_method_1_code
def yX4_init : MethodName := ⟨RX4, "<init>", "()V"⟩
abbrev cX4_in : ByteArray := prog_6_method_2_code
def yX4_in : MethodName := ⟨RX4, "in", "(III)Z"⟩
abbrev cX4_meets : ByteArray := prog_6_method_3_code
def yX4_meets : MethodName := ⟨RX4, "meets", "(I)I"⟩
abbrev cX4_finding : ByteArray := prog_6_method_4_code
def yX4_finding : MethodName := ⟨RX4, "finding", "()I"⟩
abbrev cX4_findings : ByteArray := prog_6_method_5_code
def yX4_findings : MethodName := ⟨RX4, "findings", "(I)I"⟩
abbrev cX4_gcd : ByteArray := prog_6_method_6_code
def yX4_gcd : MethodName := ⟨RX4, "gcd", "(JJ)J"⟩
abbrev cX4_tells : ByteArray := prog_6_method_7_code
def yX4_tells : MethodName := ⟨RX4, "tells", "(JJ)I"⟩
abbrev cX4_upper : ByteArray := prog_6_method_8_code
def yX4_upper : MethodName := ⟨RX4, "upper", "()J"⟩
abbrev cX4_lower : ByteArray := prog_6_method_9_code
def yX4_lower : MethodName := ⟨RX4, "lower", "()J"⟩
abbrev cX4_begin : ByteArray := prog_6_method_10_code
def yX4_begin : MethodName := ⟨RX4, "begin", "(II)V"⟩
abbrev cX4_log : ByteArray := prog_6_method_11_code
def yX4_log : MethodName := ⟨RX4, "log", "(II)I"⟩
abbrev cX4_isPlace : ByteArray := prog_6_method_12_code
def yX4_isPlace : MethodName := ⟨RX4, "isPlace", "(II)Z"⟩
abbrev cX4_square : ByteArray := prog_6_method_13_code
def yX4_square : MethodName := ⟨RX4, "square", "(III)I"⟩
abbrev cX4_at : ByteArray := prog_6_method_14_code
def yX4_at : MethodName := ⟨RX4, "at", "(II)I"⟩
abbrev cX4_water : ByteArray := prog_6_method_15_code
def yX4_water : MethodName := ⟨RX4, "water", "(I)I"⟩
abbrev cX4_isSheet : ByteArray := prog_6_method_16_code
def yX4_isSheet : MethodName := ⟨RX4, "isSheet", "(I)Z"⟩
abbrev cX4_sheet : ByteArray := prog_6_method_17_code
def yX4_sheet : MethodName := ⟨RX4, "sheet", "(II)I"⟩
abbrev cX4_lay : ByteArray := prog_6_method_18_code
def yX4_lay : MethodName := ⟨RX4, "lay", "(III)I"⟩
abbrev cX4_tear : ByteArray := prog_6_method_19_code
def yX4_tear : MethodName := ⟨RX4, "tear", "(I)I"⟩
abbrev cX4_copy : ByteArray := prog_6_method_20_code
def yX4_copy : MethodName := ⟨RX4, "copy", "(IIIII)I"⟩
abbrev cX4_fill : ByteArray := prog_6_method_21_code
def yX4_fill : MethodName := ⟨RX4, "fill", "(II)I"⟩
abbrev cX4_isPoint : ByteArray := prog_6_method_22_code
def yX4_isPoint : MethodName := ⟨RX4, "isPoint", "(II)Z"⟩
abbrev cX4_load : ByteArray := prog_6_method_23_code
def yX4_load : MethodName := ⟨RX4, "load", "(IIII)I"⟩
abbrev cX4_need : ByteArray := prog_6_method_24_code
def yX4_need : MethodName := ⟨RX4, "need", "(ZI)I"⟩
abbrev cX4_move : ByteArray := prog_6_method_25_code
def yX4_move : MethodName := ⟨RX4, "move", "(III)I"⟩
abbrev cX4_rope : ByteArray := prog_6_method_26_code
def yX4_rope : MethodName := ⟨RX4, "rope", "(II)I"⟩
abbrev cX4_drop : ByteArray := prog_6_method_27_code
def yX4_drop : MethodName := ⟨RX4, "drop", "(I)I"⟩
abbrev cX4_toldOf : ByteArray := prog_6_method_28_code
def yX4_toldOf : MethodName := ⟨RX4, "toldOf", "(II)I"⟩
abbrev cX4_told : ByteArray := prog_6_method_29_code
def yX4_told : MethodName := ⟨RX4, "told", "(II)I"⟩
abbrev cX4_is : ByteArray := prog_6_method_30_code
def yX4_is : MethodName := ⟨RX4, "is", "(II)I"⟩
abbrev cX4_squareMany : ByteArray := prog_6_method_31_code
def yX4_squareMany : MethodName := ⟨RX4, "squareMany", "()I"⟩
abbrev cX4_squareWeights : ByteArray := prog_6_method_32_code
def yX4_squareWeights : MethodName := ⟨RX4, "squareWeights", "()I"⟩
abbrev cX4_all : ByteArray := prog_6_method_33_code
def yX4_all : MethodName := ⟨RX4, "all", "()I"⟩
abbrev cX4_mean : ByteArray := prog_6_method_34_code
def yX4_mean : MethodName := ⟨RX4, "mean", "()I"⟩
abbrev cX4_lay_ : ByteArray := prog_6_method_35_code
def yX4_lay_ : MethodName := ⟨RX4, "lay", "(I)V"⟩
abbrev cX4_isWetAt : ByteArray := prog_6_method_36_code
def yX4_isWetAt : MethodName := ⟨RX4, "isWetAt", "(III)Z"⟩
abbrev cX4_spread : ByteArray := prog_6_method_37_code
def yX4_spread : MethodName := ⟨RX4, "spread", "(I)V"⟩
abbrev cX4_firmIn : ByteArray := prog_6_method_38_code
def yX4_firmIn : MethodName := ⟨RX4, "firmIn", "(I)I"⟩
abbrev cX4_firmBelow : ByteArray := prog_6_method_39_code
def yX4_firmBelow : MethodName := ⟨RX4, "firmBelow", "(I)I"⟩
abbrev cX4_finds : ByteArray := prog_6_method_40_code
def yX4_finds : MethodName := ⟨RX4, "finds", "(I)Z"⟩
abbrev cX4_afloat : ByteArray := prog_6_method_41_code
def yX4_afloat : MethodName := ⟨RX4, "afloat", "(ZI)I"⟩
abbrev cX4_floats : ByteArray := prog_6_method_42_code
def yX4_floats : MethodName := ⟨RX4, "floats", "(I)I"⟩
abbrev cX4_draft : ByteArray := prog_6_method_43_code
def yX4_draft : MethodName := ⟨RX4, "draft", "(I)I"⟩
abbrev cX4_above : ByteArray := prog_6_method_44_code
def yX4_above : MethodName := ⟨RX4, "above", "(I)I"⟩
abbrev cX4_laySums : ByteArray := prog_6_method_45_code
def yX4_laySums : MethodName := ⟨RX4, "laySums", "()V"⟩
abbrev cX4_layPowers : ByteArray := prog_6_method_46_code
def yX4_layPowers : MethodName := ⟨RX4, "layPowers", "()V"⟩
abbrev cX4_middle : ByteArray := prog_6_method_47_code
def yX4_middle : MethodName := ⟨RX4, "middle", "(II)I"⟩
abbrev cX4_place : ByteArray := prog_6_method_48_code
def yX4_place : MethodName := ⟨RX4, "place", "(III)I"⟩
abbrev cX4_lean : ByteArray := prog_6_method_49_code
def yX4_lean : MethodName := ⟨RX4, "lean", "()J"⟩
abbrev cX4_leans : ByteArray := prog_6_method_50_code
def yX4_leans : MethodName := ⟨RX4, "leans", "(I)I"⟩
abbrev cX4_layBreadth : ByteArray := prog_6_method_51_code
def yX4_layBreadth : MethodName := ⟨RX4, "layBreadth", "(I)V"⟩
abbrev cX4_leastBreadth : ByteArray := prog_6_method_52_code
def yX4_leastBreadth : MethodName := ⟨RX4, "leastBreadth", "()V"⟩
abbrev cX4_breadth : ByteArray := prog_6_method_53_code
def yX4_breadth : MethodName := ⟨RX4, "breadth", "(I)I"⟩
abbrev cX4_holdsNow : ByteArray := prog_6_method_54_code
def yX4_holdsNow : MethodName := ⟨RX4, "holdsNow", "()I"⟩
abbrev cX4_holds : ByteArray := prog_6_method_55_code
def yX4_holds : MethodName := ⟨RX4, "holds", "(I)I"⟩
abbrev cX4_rests : ByteArray := prog_6_method_56_code
def yX4_rests : MethodName := ⟨RX4, "rests", "()I"⟩
abbrev cX4_mostRoom : ByteArray := prog_6_method_57_code
def yX4_mostRoom : MethodName := ⟨RX4, "mostRoom", "()I"⟩
abbrev cX4_carries : ByteArray := prog_6_method_58_code
def yX4_carries : MethodName := ⟨RX4, "carries", "(I)I"⟩
abbrev cX4_trim : ByteArray := prog_6_method_59_code
def yX4_trim : MethodName := ⟨RX4, "trim", "(II)I"⟩
abbrev cX4_room : ByteArray := prog_6_method_60_code
def yX4_room : MethodName := ⟨RX4, "room", "(III)I"⟩
abbrev cX4_count : ByteArray := prog_6_method_61_code
def yX4_count : MethodName := ⟨RX4, "count", "(I)I"⟩
abbrev cX4_digest : ByteArray := prog_6_method_62_code
def yX4_digest : MethodName := ⟨RX4, "digest", "()J"⟩
def RJ6 : String := "java/lang/Integer"
def TJ6 : u_T := fun k => match k with
  | _ => ("", "", "", false)
def tyJ6 : Nat → FieldType := fun k => match k with
  | _ => .int
abbrev wsJ60 : List Cond := u_ws RJ6 TJ6 0
theorem nmJ6 : ∀ a, a < 0 → ∀ b, b < 0 → a ≠ b → (TJ6 a).2.1 ≠ (TJ6 b).2.1 := by decide +kernel
theorem tyJ6_ok : ∀ k, k < 0 → parseFieldDescriptor (TJ6 k).2.2.1 = some (tyJ6 k) := by decide +kernel
abbrev cJ6_bitCount_0f7a4 : ByteArray := prog_7_method_49_code
def yJ6_bitCount_0f7a4 : MethodName := ⟨RJ6, "bitCount", "(I)I"⟩
def RJ13 : String := "java/lang/Long"
def TJ13 : u_T := fun k => match k with
  | _ => ("", "", "", false)
def tyJ13 : Nat → FieldType := fun k => match k with
  | _ => .int
abbrev wsJ130 : List Cond := u_ws RJ13 TJ13 0
theorem nmJ13 : ∀ a, a < 0 → ∀ b, b < 0 → a ≠ b → (TJ13 a).2.1 ≠ (TJ13 b).2.1 := by decide +kernel
theorem tyJ13_ok : ∀ k, k < 0 → parseFieldDescriptor (TJ13 k).2.2.1 = some (tyJ13 k) := by decide +kernel
abbrev cJ13_compare_74951 : ByteArray := prog_8_method_42_code
def yJ13_compare_74951 : MethodName := ⟨RJ13, "compare", "(JJ)I"⟩
def RJ9 : String := "java/lang/Math"
def TJ9 : u_T := fun k => match k with
  | _ => ("", "", "", false)
def tyJ9 : Nat → FieldType := fun k => match k with
  | _ => .int
abbrev wsJ90 : List Cond := u_ws RJ9 TJ9 0
theorem nmJ9 : ∀ a, a < 0 → ∀ b, b < 0 → a ≠ b → (TJ9 a).2.1 ≠ (TJ9 b).2.1 := by decide +kernel
theorem tyJ9_ok : ∀ k, k < 0 → parseFieldDescriptor (TJ9 k).2.2.1 = some (tyJ9 k) := by decide +kernel
abbrev cJ9_abs_067f4 : ByteArray := prog_9_method_61_code
def yJ9_abs_067f4 : MethodName := ⟨RJ9, "abs", "(J)J"⟩
abbrev cJ9_max_7cf53 : ByteArray := prog_9_method_65_code
def yJ9_max_7cf53 : MethodName := ⟨RJ9, "max", "(II)I"⟩
abbrev cJ9_min_7cf53 : ByteArray := prog_9_method_69_code
def yJ9_min_7cf53 : MethodName := ⟨RJ9, "min", "(II)I"⟩
def RJ10 : String := "java/lang/System"
def TJ10 : u_T := fun k => match k with
  | _ => ("", "", "", false)
def tyJ10 : Nat → FieldType := fun k => match k with
  | _ => .int
abbrev wsJ100 : List Cond := u_ws RJ10 TJ10 0
theorem nmJ10 : ∀ a, a < 0 → ∀ b, b < 0 → a ≠ b → (TJ10 a).2.1 ≠ (TJ10 b).2.1 := by decide +kernel
theorem tyJ10_ok : ∀ k, k < 0 → parseFieldDescriptor (TJ10 k).2.2.1 = some (tyJ10 k) := by decide +kernel
def RL : String := "LogsAfloatLaw"
abbrev cL_law : ByteArray := code
def yL_law : MethodName := ⟨RL, "law", "([I)Z"⟩
abbrev vwCl : List vw_C := [(RX0, TX0, 3), (RX1, TX1, 11), (RX2, TX2, 6), (RX3, TX3, 11), (RX4, TX4, 38)]
end
section
/-! THE DEEP MACHINE. Memory by cells and places; a frame is (pc, locals, stack, memory); one step; runs; calls by depth. No heap, no tables: pure. -/
abbrev dx_M : Type := (Nat → Nat → Int32) × (Nat → Nat → Int64)
abbrev dx_F : Type := Nat × List Value × List Value × dx_M
/-- a cell of a layout: an object (class, its fields: kind 0 int, 1 boolean, 2 long, 3 a reference to a cell), or an array (kind 0 int, 1 byte, 2 boolean, 3 objects, 4 byte rows; length; the cells it refers to) -/
abbrev dx_Cell : Type := (Nat × List (Nat × Nat)) ⊕ (Nat × Nat × List Nat)
/-- an instruction's row: itself, its length, a constant, three numbers, a switch's pairs -/
abbrev dx_I : Type := Instr × Nat × Value × Nat × Nat × Nat × List (Int32 × Nat)
/-- a method: name, bytes, locals, what it returns; its rows by pc; its pool by index -/
abbrev dx_K : Type := (MethodName × ByteArray × Nat × Option FieldType) × List (Nat × dx_I) × List (Nat × Nat × Nat × Nat)
def dx_look {α : Type} : List (Nat × α) → Nat → Option α
  | [], _ => none
  | (k, v) :: t, n => match Nat.beq k n with
    | true => some v
    | false => dx_look t n
def dx_pR (m : dx_M) (k : Nat) (f : Nat → Int32) : dx_M := (fun a => if a = k then f else m.1 a, m.2)
def dx_pI (m : dx_M) (k j : Nat) (v : Int32) : dx_M := dx_pR m k (upd (m.1 k) j v)
def dx_pL (m : dx_M) (k j : Nat) (v : Int64) : dx_M := (m.1, fun a => if a = k then vp_updL (m.2 k) j v else m.2 a)
def dx_kill : Value → Value
  | .long _ => .null
  | .double _ => .null
  | v => v
def dx_st1 : List Value → Nat → Value → List Value
  | [], _, _ => []
  | _ :: t, 0, v => v :: t
  | w :: t, 1, v => dx_kill w :: dx_st1 t 0 v
  | w :: t, n + 2, v => w :: dx_st1 t (n + 1) v
def dx_tl0 : List Value → List Value
  | [] => []
  | _ :: t => .null :: t
def dx_st2 : List Value → Nat → Value → List Value
  | [], _, _ => []
  | _ :: t, 0, v => v :: dx_tl0 t
  | w :: t, 1, v => dx_kill w :: dx_st2 t 0 v
  | w :: t, n + 2, v => w :: dx_st2 t (n + 1) v
def dx_ld : List Value → Nat → Value
  | [], _ => .null
  | w :: _, 0 => w
  | _ :: t, n + 1 => dx_ld t n
def dx_sw : List (Int32 × Nat) → Int32 → Nat → Nat
  | [], _, d => d
  | (k, t) :: r, x, d => if x = k then t else dx_sw r x d
def dx_loI (pc : Nat) (L st : List Value) (m : dx_M) (i : Nat) : Option dx_F := match dx_ld L i with
  | .int x => some (pc, L, .int x :: st, m)
  | _ => none
def dx_loL (pc : Nat) (L st : List Value) (m : dx_M) (i : Nat) : Option dx_F := match dx_ld L i with
  | .long x => some (pc, L, .long x :: st, m)
  | _ => none
def dx_loA (pc : Nat) (L st : List Value) (m : dx_M) (i : Nat) : Option dx_F := match dx_ld L i with
  | .ref x => some (pc, L, .ref x :: st, m)
  | _ => none
def dx_stI (pc : Nat) (L st : List Value) (m : dx_M) (i : Nat) : Option dx_F := match st with
  | .int x :: t => if i < L.length then some (pc, dx_st1 L i (.int x), t, m) else none
  | _ => none
def dx_stL (pc : Nat) (L st : List Value) (m : dx_M) (i : Nat) : Option dx_F := match st with
  | .long x :: t => if i + 1 < L.length then some (pc, dx_st2 L i (.long x), t, m) else none
  | _ => none
def dx_stA (pc : Nat) (L st : List Value) (m : dx_M) (i : Nat) : Option dx_F := match st with
  | .ref x :: t => if i < L.length then some (pc, dx_st1 L i (.ref x), t, m) else none
  | _ => none
def dx_inc (pc : Nat) (L st : List Value) (m : dx_M) (i : Nat) (v : Value) : Option dx_F := match dx_ld L i, v with
  | .int x, .int y => if i < L.length then some (pc, dx_st1 L i (.int (x + y)), st, m) else none
  | _, _ => none
def dx_bI (f : Int32 → Int32 → Int32) (pc : Nat) (L st : List Value) (m : dx_M) : Option dx_F := match st with
  | .int y :: .int x :: t => some (pc, L, .int (f x y) :: t, m)
  | _ => none
def dx_bL (f : Int64 → Int64 → Int64) (pc : Nat) (L st : List Value) (m : dx_M) : Option dx_F := match st with
  | .long y :: .long x :: t => some (pc, L, .long (f x y) :: t, m)
  | _ => none
def dx_dI (f : Int32 → Int32 → Int32) (pc : Nat) (L st : List Value) (m : dx_M) : Option dx_F := match st with
  | .int y :: .int x :: t => if ¬ y = 0 then some (pc, L, .int (f x y) :: t, m) else none
  | _ => none
def dx_dL (f : Int64 → Int64 → Int64) (pc : Nat) (L st : List Value) (m : dx_M) : Option dx_F := match st with
  | .long y :: .long x :: t => if ¬ y = 0 then some (pc, L, .long (f x y) :: t, m) else none
  | _ => none
def dx_if1 (f : Int32 → Nat) (L st : List Value) (m : dx_M) : Option dx_F := match st with
  | .int x :: t => some (f x, L, t, m)
  | _ => none
def dx_if2 (f : Int32 → Int32 → Nat) (L st : List Value) (m : dx_M) : Option dx_F := match st with
  | .int y :: .int x :: t => some (f x y, L, t, m)
  | _ => none
def dx_fld (m : dx_M) (k b : Nat) : Option (Nat × Nat) → Option Value
  | some (0, _) => some (.int (m.1 k b))
  | some (1, _) => some (.int (m.1 k b))
  | some (2, _) => some (.long (m.2 k b))
  | some (3, q) => some (.ref q)
  | _ => none
def dx_get (lay : List dx_Cell) (a b pc : Nat) (L st : List Value) (m : dx_M) : Option dx_F := match st with
  | .ref k :: t => match lay[k]? with
    | some (.inl (ci, fl)) => match Nat.beq ci a with
      | true => match dx_fld m k b fl[b]? with
        | some v => some (pc, L, v :: t, m)
        | none => none
      | false => none
    | _ => none
  | _ => none
def dx_put (lay : List dx_Cell) (a b pc : Nat) (L st : List Value) (m : dx_M) : Option dx_F := match st with
  | .int x :: .ref k :: t => match lay[k]? with
    | some (.inl (ci, fl)) => match Nat.beq ci a with
      | true => match fl[b]? with
        | some (0, _) => some (pc, L, t, dx_pI m k b x)
        | some (1, _) => if x = 0 ∨ x = 1 then some (pc, L, t, dx_pI m k b x) else none
        | _ => none
      | false => none
    | _ => none
  | .long x :: .ref k :: t => match lay[k]? with
    | some (.inl (ci, fl)) => match Nat.beq ci a with
      | true => match fl[b]? with
        | some (2, _) => some (pc, L, t, dx_pL m k b x)
        | _ => none
      | false => none
    | _ => none
  | _ => none
def dx_ald (lay : List dx_Cell) (pc : Nat) (L st : List Value) (m : dx_M) : Option dx_F := match st with
  | .int i :: .ref k :: t => match lay[k]? with
    | some (.inr (0, n, _)) => if ¬ (i < 0 ∨ n ≤ i.toNatClampNeg) then some (pc, L, .int (m.1 k i.toNatClampNeg) :: t, m) else none
    | _ => none
  | _ => none
def dx_bld (lay : List dx_Cell) (pc : Nat) (L st : List Value) (m : dx_M) : Option dx_F := match st with
  | .int i :: .ref k :: t => match lay[k]? with
    | some (.inr (1, n, _)) => if ¬ (i < 0 ∨ n ≤ i.toNatClampNeg) then some (pc, L, .int (m.1 k i.toNatClampNeg) :: t, m) else none
    | some (.inr (2, n, _)) => if ¬ (i < 0 ∨ n ≤ i.toNatClampNeg) then some (pc, L, .int (m.1 k i.toNatClampNeg) :: t, m) else none
    | _ => none
  | _ => none
def dx_rld (pc : Nat) (L t : List Value) (m : dx_M) (n : Nat) (rs : List Nat) (i : Int32) : Option dx_F :=
  if ¬ (i < 0 ∨ n ≤ i.toNatClampNeg) then (match rs[i.toNatClampNeg]? with
    | some q => some (pc, L, .ref q :: t, m)
    | none => none) else none
def dx_aad (lay : List dx_Cell) (pc : Nat) (L st : List Value) (m : dx_M) : Option dx_F := match st with
  | .int i :: .ref k :: t => match lay[k]? with
    | some (.inr (3, n, rs)) => dx_rld pc L t m n rs i
    | some (.inr (4, n, rs)) => dx_rld pc L t m n rs i
    | _ => none
  | _ => none
def dx_ast (lay : List dx_Cell) (pc : Nat) (L st : List Value) (m : dx_M) : Option dx_F := match st with
  | .int x :: .int i :: .ref k :: t => match lay[k]? with
    | some (.inr (0, n, _)) => if ¬ (i < 0 ∨ n ≤ i.toNatClampNeg) then some (pc, L, t, dx_pI m k i.toNatClampNeg x) else none
    | _ => none
  | _ => none
def dx_bst (lay : List dx_Cell) (pc : Nat) (L st : List Value) (m : dx_M) : Option dx_F := match st with
  | .int x :: .int i :: .ref k :: t => match lay[k]? with
    | some (.inr (1, n, _)) => if ¬ (i < 0 ∨ n ≤ i.toNatClampNeg) then some (pc, L, t, dx_pI m k i.toNatClampNeg (vp_nar .byte x)) else none
    | some (.inr (2, n, _)) => if ¬ (i < 0 ∨ n ≤ i.toNatClampNeg) then some (pc, L, t, dx_pI m k i.toNatClampNeg (vp_nar .boolean x)) else none
    | _ => none
  | _ => none
def dx_dup (pc : Nat) (L st : List Value) (m : dx_M) : Option dx_F := match st with
  | .int x :: t => some (pc, L, .int x :: .int x :: t, m)
  | .ref x :: t => some (pc, L, .ref x :: .ref x :: t, m)
  | _ => none
def dx_dup2 (pc : Nat) (L st : List Value) (m : dx_M) : Option dx_F := match st with
  | .int x :: .ref y :: t => some (pc, L, .int x :: .ref y :: .int x :: .ref y :: t, m)
  | _ => none
def dx_unI (f : Int32 → Value) (pc : Nat) (L st : List Value) (m : dx_M) : Option dx_F := match st with
  | .int x :: t => some (pc, L, f x :: t, m)
  | _ => none
def dx_unL (f : Int64 → Value) (pc : Nat) (L st : List Value) (m : dx_M) : Option dx_F := match st with
  | .long x :: t => some (pc, L, f x :: t, m)
  | _ => none
def dx_lcm (pc : Nat) (L st : List Value) (m : dx_M) : Option dx_F := match st with
  | .long y :: .long x :: t => some (pc, L, .int (lg_cmp x y) :: t, m)
  | _ => none
def dx_ex (lay : List dx_Cell) (r : dx_I) (pc : Nat) (L st : List Value) (m : dx_M) : Option dx_F :=
  match r.1 with
  | .iconst _ => some (pc + 1, L, r.2.2.1 :: st, m)
  | .bipush _ => some (pc + 2, L, r.2.2.1 :: st, m)
  | .sipush _ => some (pc + 3, L, r.2.2.1 :: st, m)
  | .lconst _ => some (pc + 1, L, r.2.2.1 :: st, m)
  | .ldc_w _ => some (pc + 3, L, r.2.2.1 :: st, m)
  | .ldc2_w _ => some (pc + 3, L, r.2.2.1 :: st, m)
  | .iload_n k => dx_loI (pc + 1) L st m k.val
  | .iload k => dx_loI (pc + 2) L st m k
  | .lload_n k => dx_loL (pc + 1) L st m k.val
  | .lload k => dx_loL (pc + 2) L st m k
  | .aload_n k => dx_loA (pc + 1) L st m k.val
  | .aload k => dx_loA (pc + 2) L st m k
  | .istore_n k => dx_stI (pc + 1) L st m k.val
  | .istore k => dx_stI (pc + 2) L st m k
  | .lstore_n k => dx_stL (pc + 1) L st m k.val
  | .lstore k => dx_stL (pc + 2) L st m k
  | .astore_n k => dx_stA (pc + 1) L st m k.val
  | .astore k => dx_stA (pc + 2) L st m k
  | .iinc k _ => dx_inc (pc + 3) L st m k r.2.2.1
  | .iadd => dx_bI (fun x y => x + y) (pc + 1) L st m
  | .isub => dx_bI (fun x y => x - y) (pc + 1) L st m
  | .imul => dx_bI (fun x y => x * y) (pc + 1) L st m
  | .iand => dx_bI (fun x y => x &&& y) (pc + 1) L st m
  | .ior => dx_bI (fun x y => x ||| y) (pc + 1) L st m
  | .ixor => dx_bI (fun x y => x ^^^ y) (pc + 1) L st m
  | .ishl => dx_bI (fun x y => x <<< (y &&& 31)) (pc + 1) L st m
  | .ishr => dx_bI (fun x y => x >>> (y &&& 31)) (pc + 1) L st m
  | .iushr => dx_bI (fun x y => (x.toUInt32 >>> (y.toUInt32 &&& Int32.toUInt32 31)).toInt32) (pc + 1) L st m
  | .idiv => dx_dI (fun x y => x / y) (pc + 1) L st m
  | .irem => dx_dI (fun x y => x - x / y * y) (pc + 1) L st m
  | .ladd => dx_bL (fun x y => x + y) (pc + 1) L st m
  | .lsub => dx_bL (fun x y => x - y) (pc + 1) L st m
  | .lmul => dx_bL (fun x y => x * y) (pc + 1) L st m
  | .ldiv => dx_dL (fun x y => x / y) (pc + 1) L st m
  | .lrem => dx_dL (fun x y => x - x / y * y) (pc + 1) L st m
  | .lneg => dx_unL (fun x => .long (-x)) (pc + 1) L st m
  | .i2l => dx_unI (fun x => .long x.toInt64) (pc + 1) L st m
  | .i2b => dx_unI (fun x => .int x.toInt8.toInt32) (pc + 1) L st m
  | .lcmp => dx_lcm (pc + 1) L st m
  | .dup => dx_dup (pc + 1) L st m
  | .dup2 => dx_dup2 (pc + 1) L st m
  | .goto _ => some (r.2.2.2.1, L, st, m)
  | .ifCond .eq _ => dx_if1 (fun x => if x = 0 then r.2.2.2.1 else pc + 3) L st m
  | .ifCond .ne _ => dx_if1 (fun x => if x = 0 then pc + 3 else r.2.2.2.1) L st m
  | .ifCond .lt _ => dx_if1 (fun x => if x < 0 then r.2.2.2.1 else pc + 3) L st m
  | .ifCond .ge _ => dx_if1 (fun x => if 0 ≤ x then r.2.2.2.1 else pc + 3) L st m
  | .ifCond .gt _ => dx_if1 (fun x => if 0 < x then r.2.2.2.1 else pc + 3) L st m
  | .ifCond .le _ => dx_if1 (fun x => if x ≤ 0 then r.2.2.2.1 else pc + 3) L st m
  | .if_icmp .eq _ => dx_if2 (fun x y => if x = y then r.2.2.2.1 else pc + 3) L st m
  | .if_icmp .ne _ => dx_if2 (fun x y => if x = y then pc + 3 else r.2.2.2.1) L st m
  | .if_icmp .lt _ => dx_if2 (fun x y => if x < y then r.2.2.2.1 else pc + 3) L st m
  | .if_icmp .ge _ => dx_if2 (fun x y => if y ≤ x then r.2.2.2.1 else pc + 3) L st m
  | .if_icmp .gt _ => dx_if2 (fun x y => if y < x then r.2.2.2.1 else pc + 3) L st m
  | .if_icmp .le _ => dx_if2 (fun x y => if x ≤ y then r.2.2.2.1 else pc + 3) L st m
  | .tableswitch _ _ _ _ => dx_if1 (fun x => dx_sw r.2.2.2.2.2.2 x r.2.2.2.1) L st m
  | .getfield _ => dx_get lay r.2.2.2.1 r.2.2.2.2.1 (pc + 3) L st m
  | .putfield _ => dx_put lay r.2.2.2.1 r.2.2.2.2.1 (pc + 3) L st m
  | .iaload => dx_ald lay (pc + 1) L st m
  | .baload => dx_bld lay (pc + 1) L st m
  | .aaload => dx_aad lay (pc + 1) L st m
  | .iastore => dx_ast lay (pc + 1) L st m
  | .bastore => dx_bst lay (pc + 1) L st m
  | _ => none
/-- one plain step -/
def dx_stp (lay : List dx_Cell) (K : dx_K) (c : dx_F) : Option dx_F := match dx_look K.2.1 c.1 with
  | some r => dx_ex lay r c.1 c.2.1 c.2.2.1 c.2.2.2
  | none => none
/-- k plain steps -/
def dx_run (lay : List dx_Cell) (K : dx_K) : Nat → dx_F → Option dx_F
  | 0, c => some c
  | n + 1, c => match dx_stp lay K c with
    | some c' => dx_run lay K n c'
    | none => none
/-- a return: what is answered -/
def dx_rx (ret : Option FieldType) (i : Instr) (st : List Value) : Option (Option Value) := match i, ret, st with
  | .return_, none, [] => some none
  | .ireturn, some .int, [.int v] => some (some (.int v))
  | .ireturn, some .boolean, [.int v] => if v = 0 ∨ v = 1 then some (some (.int v)) else none
  | .lreturn, some .long, [.long v] => some (some (.long v))
  | _, _, _ => none
def dx_rt (K : dx_K) (c : dx_F) : Option (Option Value) := match dx_look K.2.1 c.1 with
  | some r => dx_rx K.1.2.2.2 r.1 c.2.2.1
  | none => none
/-- a call: which method, its arguments, what stays on the stack -/
def dx_cS (r : dx_I) (st : List Value) : Option (Nat × List Value × List Value) :=
  if (st.take r.2.2.2.2.2.1).length = r.2.2.2.2.2.1 ∧ ((st.drop r.2.2.2.2.2.1).map fun v => v.category).sum ≤ 8 then some (r.2.2.2.2.1, (st.take r.2.2.2.2.2.1).reverse, st.drop r.2.2.2.2.2.1) else none
def dx_cV (lay : List dx_Cell) (r : dx_I) (st : List Value) : Option (Nat × List Value × List Value) := match st.drop r.2.2.2.2.2.1, r.2.2.1 with
  | .ref k :: t, .ref ci => match lay[k]? with
    | some (.inl (cj, _)) => if cj = ci ∧ (st.take r.2.2.2.2.2.1).length = r.2.2.2.2.2.1 ∧ (t.map fun v => v.category).sum ≤ 8 then some (r.2.2.2.2.1, .ref k :: (st.take r.2.2.2.2.2.1).reverse, t) else none
    | _ => none
  | _, _ => none
def dx_cx (lay : List dx_Cell) (r : dx_I) (st : List Value) : Option (Nat × List Value × List Value) := match r.1, r.2.2.2.1 with
  | .invokevirtual _, 1 => dx_cV lay r st
  | .invokestatic _, 2 => dx_cS r st
  | .invokestatic _, 3 => dx_cS r st
  | _, _ => none
def dx_cl (lay : List dx_Cell) (K : dx_K) (c : dx_F) : Option (Nat × List Value × List Value) := match dx_look K.2.1 c.1 with
  | some r => dx_cx lay r c.2.2.1
  | none => none
/-- System.arraycopy of bytes -/
def dx_cpx (lay : List dx_Cell) (r : dx_I) (pc : Nat) (L st : List Value) (m : dx_M) : Option dx_F := match r.1, r.2.2.2.1, st with
  | .invokestatic _, 4, .int n :: .int j :: .ref k :: .int i :: .ref h :: t => match lay[h]?, lay[k]? with
    | some (.inr (1, n0, _)), some (.inr (1, n1, _)) => if ¬ i < 0 ∧ ¬ j < 0 ∧ ¬ n < 0 ∧ i.toNatClampNeg + n.toNatClampNeg ≤ n0 ∧ j.toNatClampNeg + n.toNatClampNeg ≤ n1 ∧ (∀ q, q < n.toNatClampNeg → fits .byte (.int (m.1 h (i.toNatClampNeg + q))) = true) ∧ (t.map fun v => v.category).sum ≤ 8 then some (pc + 3, L, t, dx_pR m k (va_cpy (m.1 h) (m.1 k) i.toNatClampNeg j.toNatClampNeg n.toNatClampNeg)) else none
    | _, _ => none
  | _, _, _ => none
/-- Math.max, Math.min, Math.abs of longs -/
def dx_mth (r : dx_I) (pc : Nat) (L st : List Value) (m : dx_M) : Option dx_F := match r.1, r.2.2.2.1, st with
  | .invokestatic _, 7, .int y :: .int x :: t => if (t.map fun v => v.category).sum ≤ 8 then some (pc + 3, L, .int (if x < y then y else x) :: t, m) else none
  | .invokestatic _, 8, .int y :: .int x :: t => if (t.map fun v => v.category).sum ≤ 8 then some (pc + 3, L, .int (if y < x then y else x) :: t, m) else none
  | .invokestatic _, 9, .long x :: t => if (t.map fun v => v.category).sum ≤ 8 then some (pc + 3, L, .long (if 0 < x then x else -x) :: t, m) else none
  | _, _, _ => none
def dx_cp (lay : List dx_Cell) (K : dx_K) (c : dx_F) : Option dx_F := match dx_look K.2.1 c.1 with
  | some r => match dx_mth r c.1 c.2.1 c.2.2.1 c.2.2.2 with
    | some c' => some c'
    | none => dx_cpx lay r c.1 c.2.1 c.2.2.1 c.2.2.2
  | none => none
/-- one move of a run that is to end with Z: a step, a return, a call, a copy -/
def dx_one (d : Nat) (C : Nat → List Value → dx_M → (Option Value → dx_M → Prop) → Prop) (lay : List dx_Cell) (K : dx_K) (Z : Option Value → dx_M → Prop) (X : dx_F → Prop) (c : dx_F) : Prop :=
  (∃ c', dx_stp lay K c = some c' ∧ X c') ∨ (∃ r, dx_rt K c = some r ∧ Z r c.2.2.2) ∨
  (∃ (id : Nat) (as rest : List Value), dx_cl lay K c = some (id, as, rest) ∧ C id as c.2.2.2 (fun r m' => X (c.1 + 3, c.2.1, r.toList ++ rest, m'))) ∨
  (1 ≤ d ∧ ∃ c', dx_cp lay K c = some c' ∧ X c')
def dx_Go (d : Nat) (C : Nat → List Value → dx_M → (Option Value → dx_M → Prop) → Prop) (lay : List dx_Cell) (K : dx_K) (Z : Option Value → dx_M → Prop) (c : dx_F) : Prop :=
  ∀ X : dx_F → Prop, (∀ c, dx_one d C lay K Z X c → X c) → X c
/-- the locals at a method's entry -/
def dx_ent : Nat → List Value → List Value
  | n, [] => List.replicate n .null
  | n, .long x :: t => .long x :: .null :: dx_ent (n - 2) t
  | n, .double x :: t => .double x :: .null :: dx_ent (n - 2) t
  | n, v :: t => v :: dx_ent (n - 1) t
/-- method id, with these arguments and this memory, at most d calls deep, returns with Z -/
def dx_Sem (P : List dx_K) (lay : List dx_Cell) : Nat → Nat → List Value → dx_M → (Option Value → dx_M → Prop) → Prop
  | 0, _, _, _, _ => False
  | d + 1, id, as, m, Z => ∃ K, P[id]? = some K ∧ (dx_ent K.1.2.2.1 as).length = K.1.2.2.1 ∧ dx_Go d (dx_Sem P lay d) lay K Z (0, dx_ent K.1.2.2.1 as, [], m)
def dx_mono (C : Nat → List Value → dx_M → (Option Value → dx_M → Prop) → Prop) : Prop := ∀ id as m Z Z', (∀ r m', Z r m' → Z' r m') → C id as m Z → C id as m Z'
theorem dx_Go_mono {d : Nat} {C : Nat → List Value → dx_M → (Option Value → dx_M → Prop) → Prop} {lay : List dx_Cell} {K : dx_K} {Z Z' : Option Value → dx_M → Prop} {c : dx_F} (h : ∀ r m', Z r m' → Z' r m') (g : dx_Go d C lay K Z c) : dx_Go d C lay K Z' c := by
  intro X hX
  refine g X (fun c hc => hX c ?_)
  rcases hc with a | ⟨r, a, b⟩ | a | a
  · exact Or.inl a
  · exact Or.inr (Or.inl ⟨r, a, h _ _ b⟩)
  · exact Or.inr (Or.inr (Or.inl a))
  · exact Or.inr (Or.inr (Or.inr a))
theorem dx_Sem_mono (P : List dx_K) (lay : List dx_Cell) : ∀ d, dx_mono (dx_Sem P lay d)
  | 0 => fun _ _ _ _ _ _ h => h
  | d + 1 => fun id as m Z Z' h ⟨K, hK, hn, g⟩ => ⟨K, hK, hn, dx_Go_mono h g⟩
section DXG
variable {d : Nat} {C : Nat → List Value → dx_M → (Option Value → dx_M → Prop) → Prop} {lay : List dx_Cell} {K : dx_K} {Z : Option Value → dx_M → Prop} {c : dx_F}
theorem dx_step {c' : dx_F} (h : dx_stp lay K c = some c') (k : dx_Go d C lay K Z c') : dx_Go d C lay K Z c := fun X hX => hX c (Or.inl ⟨c', h, k X hX⟩)
theorem dx_blk (n : Nat) {c' : dx_F} (h : dx_run lay K n c = some c') (k : dx_Go d C lay K Z c') : dx_Go d C lay K Z c := by
  induction n generalizing c with
  | zero => cases h; exact k
  | succ n ih =>
    unfold dx_run at h
    split at h
    · next c1 h1 => exact dx_step h1 (ih h)
    · cases h
theorem dx_ret {r : Option Value} (h : dx_rt K c = some r) (k : Z r c.2.2.2) : dx_Go d C lay K Z c := fun X hX => hX c (Or.inr (Or.inl ⟨r, h, k⟩))
theorem dx_copy {c' : dx_F} (h : dx_cp lay K c = some c') (k : dx_Go (d + 1) C lay K Z c') : dx_Go (d + 1) C lay K Z c := fun X hX => hX c (Or.inr (Or.inr (Or.inr ⟨Nat.le_add_left 1 d, c', h, k X hX⟩)))
theorem dx_br {q : Prop} [Decidable q] {a b : Nat} {L st : List Value} {m : dx_M} (h : dx_stp lay K c = some (if q then a else b, L, st, m)) (kt : q → dx_Go d C lay K Z (a, L, st, m)) (kf : ¬ q → dx_Go d C lay K Z (b, L, st, m)) : dx_Go d C lay K Z c := by
  by_cases hq : q
  · rw [if_pos hq] at h
    exact dx_step h (kt hq)
  · rw [if_neg hq] at h
    exact dx_step h (kf hq)
end DXG
theorem dx_call {P : List dx_K} {d d' : Nat} {lay : List dx_Cell} {K : dx_K} {Z : Option Value → dx_M → Prop} {c : dx_F} {id : Nat} {as rest : List Value} (h : dx_cl lay K c = some (id, as, rest)) (k : dx_Sem P lay d id as c.2.2.2 (fun r m' => dx_Go d' (dx_Sem P lay d) lay K Z (c.1 + 3, c.2.1, r.toList ++ rest, m'))) : dx_Go d' (dx_Sem P lay d) lay K Z c :=
  fun X hX => hX c (Or.inr (Or.inr (Or.inl ⟨id, as, rest, h, dx_Sem_mono P lay d _ _ _ _ _ (fun r m' g => g X hX) k⟩)))
theorem dx_sem {P : List dx_K} {d : Nat} {lay : List dx_Cell} {id : Nat} {as : List Value} {m : dx_M} {Z : Option Value → dx_M → Prop} (K : dx_K) (h : P[id]? = some K) (hn : (dx_ent K.1.2.2.1 as).length = K.1.2.2.1) (k : dx_Go d (dx_Sem P lay d) lay K Z (0, dx_ent K.1.2.2.1 as, [], m)) : dx_Sem P lay (d + 1) id as m Z := ⟨K, h, hn, k⟩
end
section
/-! THE PROGRAM as tables: printed by wip/whole/prog.py out of the names -/
def kp_J13 : List (Nat × Nat × Nat × Nat) := []
def kp_J6 : List (Nat × Nat × Nat × Nat) := [(265, 5, 1431656765, 0), (266, 5, 858994459, 0), (267, 5, 252646135, 0)]
def kp_X0 : List (Nat × Nat × Nat × Nat) := [(9, 0, 0, 0), (19, 0, 0, 1), (23, 0, 0, 2), (26, 3, 64, 3), (30, 1, 2, 2), (34, 7, 0, 0), (39, 3, 80, 5), (43, 3, 81, 5)]
def kp_X1 : List (Nat × Nat × Nat × Nat) := [(9, 0, 1, 0), (15, 0, 1, 1), (18, 1, 4, 1), (24, 0, 1, 2), (28, 1, 5, 1), (31, 0, 1, 3), (34, 0, 1, 4), (37, 0, 0, 2), (38, 0, 0, 1), (39, 1, 2, 2), (43, 3, 80, 5), (47, 3, 81, 5), (50, 1, 12, 17), (53, 1, 13, 16), (56, 1, 15, 16), (59, 0, 1, 5), (62, 1, 14, 17), (65, 2, 143, 1), (70, 0, 1, 6), (73, 1, 11, 17), (77, 0, 1, 7), (81, 0, 1, 8), (84, 7, 0, 0), (89, 1, 19, 17), (92, 1, 23, 16), (95, 0, 1, 9), (98, 0, 1, 10), (101, 6, 1004, 0), (103, 6, 1003, 0), (105, 6, 1012, 0)]
def kp_X2 : List (Nat × Nat × Nat × Nat) := [(9, 0, 2, 0), (15, 0, 2, 1), (19, 0, 2, 2), (22, 0, 2, 3), (25, 0, 2, 4), (28, 0, 2, 5)]
def kp_X3 : List (Nat × Nat × Nat × Nat) := [(12, 0, 3, 0), (19, 0, 3, 1), (25, 0, 3, 2), (32, 0, 3, 3), (35, 0, 3, 4), (39, 0, 3, 5), (42, 0, 3, 6), (46, 0, 3, 10), (50, 2, 64, 3), (54, 1, 0, 2), (58, 0, 3, 7), (61, 1, 1, 2), (65, 1, 2, 2), (69, 1, 3, 3), (73, 2, 66, 1), (77, 1, 70, 49), (81, 1, 69, 51), (84, 4, 0, 0), (90, 0, 0, 1), (93, 8, 0, 0), (98, 2, 67, 2), (101, 1, 24, 36), (104, 1, 68, 49), (107, 0, 2, 0), (111, 0, 2, 1), (114, 0, 2, 2), (117, 0, 2, 3), (120, 0, 2, 5), (123, 1, 25, 33), (126, 1, 74, 48), (130, 1, 6, 0), (133, 1, 7, 0), (136, 1, 75, 49), (139, 0, 1, 4), (142, 0, 1, 8), (145, 0, 1, 7), (148, 1, 71, 50), (152, 0, 1, 3), (155, 1, 20, 16), (159, 6, 1002, 0), (161, 1, 21, 16), (164, 1, 76, 49), (168, 1, 77, 49), (171, 2, 65, 1), (174, 1, 4, 1), (177, 1, 5, 1), (180, 1, 18, 18), (183, 1, 78, 49), (186, 1, 22, 16), (189, 0, 1, 9), (192, 0, 1, 10), (195, 1, 79, 49), (198, 1, 10, 18), (202, 1, 17, 16), (205, 1, 16, 18), (208, 1, 11, 17), (212, 0, 1, 5), (215, 0, 1, 6), (218, 0, 3, 9), (221, 0, 0, 2), (222, 1, 73, 48), (225, 0, 3, 8), (228, 6, 1031, 0), (230, 6, 1017, 0), (232, 1, 61, 49), (236, 1, 62, 49), (239, 1, 63, 49), (242, 6, 999, 0), (244, 9, 0, 0), (247, 2, 72, 2), (251, 0, 2, 4), (253, 1, 8, 1), (254, 2, 80, 5), (258, 1, 9, 1), (259, 2, 81, 5), (262, 2, 144, 2)]
def kp_X4 : List (Nat × Nat × Nat × Nat) := [(7, 0, 4, 1), (13, 0, 4, 7), (16, 0, 4, 8), (19, 0, 4, 9), (23, 0, 4, 10), (26, 0, 4, 12), (29, 0, 4, 13), (32, 0, 4, 14), (35, 0, 4, 15), (38, 0, 4, 16), (41, 0, 4, 17), (45, 0, 4, 20), (48, 0, 4, 23), (51, 0, 4, 6), (55, 0, 4, 3), (59, 1, 90, 66), (63, 0, 4, 0), (66, 2, 82, 3), (70, 2, 86, 2), (74, 0, 4, 2), (77, 0, 4, 4), (80, 0, 4, 5), (83, 0, 4, 11), (86, 1, 92, 66), (90, 2, 96, 1), (94, 1, 83, 65), (98, 2, 102, 2), (101, 1, 104, 66), (105, 1, 108, 66), (109, 1, 112, 64), (113, 1, 111, 64), (116, 0, 4, 18), (119, 0, 4, 19), (122, 0, 4, 21), (125, 0, 4, 22), (128, 1, 116, 67), (131, 1, 118, 65), (134, 1, 117, 65), (138, 1, 119, 65), (141, 0, 4, 24), (144, 0, 4, 27), (147, 0, 4, 28), (150, 0, 4, 25), (153, 0, 4, 26), (156, 1, 113, 64), (159, 1, 115, 65), (162, 1, 120, 65), (165, 1, 121, 66), (168, 1, 87, 66), (172, 0, 4, 29), (175, 0, 4, 30), (178, 0, 4, 31), (181, 1, 125, 64), (184, 0, 4, 32), (187, 6, 1002, 0), (189, 0, 4, 33), (192, 0, 4, 34), (195, 0, 4, 35), (198, 1, 126, 64), (201, 1, 129, 64), (205, 6, 1003, 0), (207, 6, 1004, 0), (209, 0, 4, 36), (212, 6, 1012, 0), (214, 0, 4, 37), (217, 1, 131, 65), (220, 1, 132, 64), (223, 1, 134, 64), (226, 1, 137, 64), (229, 6, 1031, 0), (231, 6, 1527, 0)]
def kr_X0_begin : List (Nat × dx_I) := [(0, (.aload_n 0, 1, .null, 0, 0, 0, [])), (1, (.iload_n 1, 1, .null, 0, 0, 0, [])), (2, (.putfield 19, 3, .null, 0, 1, 0, [])), (5, (.aload_n 0, 1, .null, 0, 0, 0, [])), (6, (.iload_n 2, 1, .null, 0, 0, 0, [])), (7, (.putfield 23, 3, .null, 0, 2, 0, [])), (10, (.iconst 0, 1, .int 0, 0, 0, 0, [])), (11, (.istore_n 3, 1, .null, 0, 0, 0, [])), (12, (.iload_n 3, 1, .null, 0, 0, 0, [])), (13, (.sipush 144, 3, .int 144, 0, 0, 0, [])), (16, (.if_icmp .ge 17, 3, .null, 33, 0, 0, [])), (19, (.aload_n 0, 1, .null, 0, 0, 0, [])), (20, (.getfield 9, 3, .null, 0, 0, 0, [])), (23, (.iload_n 3, 1, .null, 0, 0, 0, [])), (24, (.bipush (-9), 2, .int (-9), 0, 0, 0, [])), (26, (.iastore, 1, .null, 0, 0, 0, [])), (27, (.iinc 3 1, 3, .int 1, 0, 0, 0, [])), (30, (.goto (-18), 3, .null, 12, 0, 0, [])), (33, (.return_, 1, .null, 0, 0, 0, []))]
def km_X0_begin : dx_K := ((yX0_begin, cX0_begin, 4, none), kr_X0_begin, kp_X0)
def kr_X0_has : List (Nat × dx_I) := [(0, (.iload_n 1, 1, .null, 0, 0, 0, [])), (1, (.iconst 0, 1, .int 0, 0, 0, 0, [])), (2, (.aload_n 0, 1, .null, 0, 0, 0, [])), (3, (.getfield 19, 3, .null, 0, 1, 0, [])), (6, (.iconst 1, 1, .int 1, 0, 0, 0, [])), (7, (.isub, 1, .null, 0, 0, 0, [])), (8, (.invokestatic 26, 3, .null, 3, 64, 3, [])), (11, (.ifCond .eq 21, 3, .null, 32, 0, 0, [])), (14, (.iload_n 2, 1, .null, 0, 0, 0, [])), (15, (.iconst 0, 1, .int 0, 0, 0, 0, [])), (16, (.aload_n 0, 1, .null, 0, 0, 0, [])), (17, (.getfield 23, 3, .null, 0, 2, 0, [])), (20, (.iconst 1, 1, .int 1, 0, 0, 0, [])), (21, (.isub, 1, .null, 0, 0, 0, [])), (22, (.invokestatic 26, 3, .null, 3, 64, 3, [])), (25, (.ifCond .eq 7, 3, .null, 32, 0, 0, [])), (28, (.iconst 1, 1, .int 1, 0, 0, 0, [])), (29, (.goto 4, 3, .null, 33, 0, 0, [])), (32, (.iconst 0, 1, .int 0, 0, 0, 0, [])), (33, (.ireturn, 1, .null, 0, 0, 0, []))]
def km_X0_has : dx_K := ((yX0_has, cX0_has, 3, some .boolean), kr_X0_has, kp_X0)
def kr_X0_weightOf : List (Nat × dx_I) := [(0, (.aload_n 0, 1, .null, 0, 0, 0, [])), (1, (.getfield 9, 3, .null, 0, 0, 0, [])), (4, (.iload_n 2, 1, .null, 0, 0, 0, [])), (5, (.bipush 12, 2, .int 12, 0, 0, 0, [])), (7, (.imul, 1, .null, 0, 0, 0, [])), (8, (.iload_n 1, 1, .null, 0, 0, 0, [])), (9, (.iadd, 1, .null, 0, 0, 0, [])), (10, (.iaload, 1, .null, 0, 0, 0, [])), (11, (.ireturn, 1, .null, 0, 0, 0, []))]
def km_X0_weightOf : dx_K := ((yX0_weightOf, cX0_weightOf, 3, some .int), kr_X0_weightOf, kp_X0)
def kr_X0_put : List (Nat × dx_I) := [(0, (.aload_n 0, 1, .null, 0, 0, 0, [])), (1, (.getfield 9, 3, .null, 0, 0, 0, [])), (4, (.iload_n 2, 1, .null, 0, 0, 0, [])), (5, (.bipush 12, 2, .int 12, 0, 0, 0, [])), (7, (.imul, 1, .null, 0, 0, 0, [])), (8, (.iload_n 1, 1, .null, 0, 0, 0, [])), (9, (.iadd, 1, .null, 0, 0, 0, [])), (10, (.iload_n 3, 1, .null, 0, 0, 0, [])), (11, (.iastore, 1, .null, 0, 0, 0, [])), (12, (.return_, 1, .null, 0, 0, 0, []))]
def km_X0_put : dx_K := ((yX0_put, cX0_put, 4, none), kr_X0_put, kp_X0)
def kr_X0_across : List (Nat × dx_I) := [(0, (.iload_n 1, 1, .null, 0, 0, 0, [])), (1, (.iconst 2, 1, .int 2, 0, 0, 0, [])), (2, (.irem, 1, .null, 0, 0, 0, [])), (3, (.ifCond .ne 10, 3, .null, 13, 0, 0, [])), (6, (.aload_n 0, 1, .null, 0, 0, 0, [])), (7, (.getfield 19, 3, .null, 0, 1, 0, [])), (10, (.goto 7, 3, .null, 17, 0, 0, [])), (13, (.aload_n 0, 1, .null, 0, 0, 0, [])), (14, (.getfield 23, 3, .null, 0, 2, 0, [])), (17, (.ireturn, 1, .null, 0, 0, 0, []))]
def km_X0_across : dx_K := ((yX0_across, cX0_across, 2, some .int), kr_X0_across, kp_X0)
def kr_X0_up : List (Nat × dx_I) := [(0, (.iload_n 1, 1, .null, 0, 0, 0, [])), (1, (.iconst 2, 1, .int 2, 0, 0, 0, [])), (2, (.irem, 1, .null, 0, 0, 0, [])), (3, (.ifCond .ne 10, 3, .null, 13, 0, 0, [])), (6, (.aload_n 0, 1, .null, 0, 0, 0, [])), (7, (.getfield 23, 3, .null, 0, 2, 0, [])), (10, (.goto 7, 3, .null, 17, 0, 0, [])), (13, (.aload_n 0, 1, .null, 0, 0, 0, [])), (14, (.getfield 19, 3, .null, 0, 1, 0, [])), (17, (.ireturn, 1, .null, 0, 0, 0, []))]
def km_X0_up : dx_K := ((yX0_up, cX0_up, 2, some .int), kr_X0_up, kp_X0)
def kr_X0_squares : List (Nat × dx_I) := [(0, (.iconst 0, 1, .int 0, 0, 0, 0, [])), (1, (.istore_n 1, 1, .null, 0, 0, 0, [])), (2, (.iconst 0, 1, .int 0, 0, 0, 0, [])), (3, (.istore_n 2, 1, .null, 0, 0, 0, [])), (4, (.iload_n 2, 1, .null, 0, 0, 0, [])), (5, (.sipush 144, 3, .int 144, 0, 0, 0, [])), (8, (.if_icmp .ge 28, 3, .null, 36, 0, 0, [])), (11, (.iload_n 1, 1, .null, 0, 0, 0, [])), (12, (.aload_n 0, 1, .null, 0, 0, 0, [])), (13, (.getfield 9, 3, .null, 0, 0, 0, [])), (16, (.iload_n 2, 1, .null, 0, 0, 0, [])), (17, (.iaload, 1, .null, 0, 0, 0, [])), (18, (.bipush (-9), 2, .int (-9), 0, 0, 0, [])), (20, (.if_icmp .ne 7, 3, .null, 27, 0, 0, [])), (23, (.iconst 0, 1, .int 0, 0, 0, 0, [])), (24, (.goto 4, 3, .null, 28, 0, 0, [])), (27, (.iconst 1, 1, .int 1, 0, 0, 0, [])), (28, (.iadd, 1, .null, 0, 0, 0, [])), (29, (.istore_n 1, 1, .null, 0, 0, 0, [])), (30, (.iinc 2 1, 3, .int 1, 0, 0, 0, [])), (33, (.goto (-29), 3, .null, 4, 0, 0, [])), (36, (.iload_n 1, 1, .null, 0, 0, 0, [])), (37, (.ireturn, 1, .null, 0, 0, 0, []))]
def km_X0_squares : dx_K := ((yX0_squares, cX0_squares, 3, some .int), kr_X0_squares, kp_X0)
def kr_X0_weight : List (Nat × dx_I) := [(0, (.iconst 0, 1, .int 0, 0, 0, 0, [])), (1, (.istore_n 1, 1, .null, 0, 0, 0, [])), (2, (.iconst 0, 1, .int 0, 0, 0, 0, [])), (3, (.istore_n 2, 1, .null, 0, 0, 0, [])), (4, (.iload_n 2, 1, .null, 0, 0, 0, [])), (5, (.sipush 144, 3, .int 144, 0, 0, 0, [])), (8, (.if_icmp .ge 33, 3, .null, 41, 0, 0, [])), (11, (.iload_n 1, 1, .null, 0, 0, 0, [])), (12, (.aload_n 0, 1, .null, 0, 0, 0, [])), (13, (.getfield 9, 3, .null, 0, 0, 0, [])), (16, (.iload_n 2, 1, .null, 0, 0, 0, [])), (17, (.iaload, 1, .null, 0, 0, 0, [])), (18, (.bipush (-9), 2, .int (-9), 0, 0, 0, [])), (20, (.if_icmp .ne 7, 3, .null, 27, 0, 0, [])), (23, (.iconst 0, 1, .int 0, 0, 0, 0, [])), (24, (.goto 9, 3, .null, 33, 0, 0, [])), (27, (.aload_n 0, 1, .null, 0, 0, 0, [])), (28, (.getfield 9, 3, .null, 0, 0, 0, [])), (31, (.iload_n 2, 1, .null, 0, 0, 0, [])), (32, (.iaload, 1, .null, 0, 0, 0, [])), (33, (.iadd, 1, .null, 0, 0, 0, [])), (34, (.istore_n 1, 1, .null, 0, 0, 0, [])), (35, (.iinc 2 1, 3, .int 1, 0, 0, 0, [])), (38, (.goto (-34), 3, .null, 4, 0, 0, [])), (41, (.iload_n 1, 1, .null, 0, 0, 0, [])), (42, (.ireturn, 1, .null, 0, 0, 0, []))]
def km_X0_weight : dx_K := ((yX0_weight, cX0_weight, 3, some .int), kr_X0_weight, kp_X0)
def kr_X0_weightAcross : List (Nat × dx_I) := [(0, (.lconst 0, 1, .long 0, 0, 0, 0, [])), (1, (.lstore_n 2, 1, .null, 0, 0, 0, [])), (2, (.iconst 0, 1, .int 0, 0, 0, 0, [])), (3, (.istore 4, 2, .null, 0, 0, 0, [])), (5, (.iload 4, 2, .null, 0, 0, 0, [])), (7, (.aload_n 0, 1, .null, 0, 0, 0, [])), (8, (.getfield 23, 3, .null, 0, 2, 0, [])), (11, (.if_icmp .ge 72, 3, .null, 83, 0, 0, [])), (14, (.iconst 0, 1, .int 0, 0, 0, 0, [])), (15, (.istore 5, 2, .null, 0, 0, 0, [])), (17, (.iload 5, 2, .null, 0, 0, 0, [])), (19, (.aload_n 0, 1, .null, 0, 0, 0, [])), (20, (.getfield 19, 3, .null, 0, 1, 0, [])), (23, (.if_icmp .ge 54, 3, .null, 77, 0, 0, [])), (26, (.aload_n 0, 1, .null, 0, 0, 0, [])), (27, (.iload 5, 2, .null, 0, 0, 0, [])), (29, (.iload 4, 2, .null, 0, 0, 0, [])), (31, (.invokevirtual 30, 3, .ref 0, 1, 2, 2, [])), (34, (.iconst 0, 1, .int 0, 0, 0, 0, [])), (35, (.invokestatic 34, 3, .null, 7, 0, 0, [])), (38, (.istore 6, 2, .null, 0, 0, 0, [])), (40, (.lload_n 2, 1, .null, 0, 0, 0, [])), (41, (.iload 6, 2, .null, 0, 0, 0, [])), (43, (.iconst 2, 1, .int 2, 0, 0, 0, [])), (44, (.iload_n 1, 1, .null, 0, 0, 0, [])), (45, (.iload 5, 2, .null, 0, 0, 0, [])), (47, (.iload 4, 2, .null, 0, 0, 0, [])), (49, (.aload_n 0, 1, .null, 0, 0, 0, [])), (50, (.getfield 19, 3, .null, 0, 1, 0, [])), (53, (.iconst 1, 1, .int 1, 0, 0, 0, [])), (54, (.isub, 1, .null, 0, 0, 0, [])), (55, (.aload_n 0, 1, .null, 0, 0, 0, [])), (56, (.getfield 23, 3, .null, 0, 2, 0, [])), (59, (.iconst 1, 1, .int 1, 0, 0, 0, [])), (60, (.isub, 1, .null, 0, 0, 0, [])), (61, (.invokestatic 39, 3, .null, 3, 80, 5, [])), (64, (.imul, 1, .null, 0, 0, 0, [])), (65, (.iconst 1, 1, .int 1, 0, 0, 0, [])), (66, (.iadd, 1, .null, 0, 0, 0, [])), (67, (.imul, 1, .null, 0, 0, 0, [])), (68, (.i2l, 1, .null, 0, 0, 0, [])), (69, (.ladd, 1, .null, 0, 0, 0, [])), (70, (.lstore_n 2, 1, .null, 0, 0, 0, [])), (71, (.iinc 5 1, 3, .int 1, 0, 0, 0, [])), (74, (.goto (-57), 3, .null, 17, 0, 0, [])), (77, (.iinc 4 1, 3, .int 1, 0, 0, 0, [])), (80, (.goto (-75), 3, .null, 5, 0, 0, [])), (83, (.lload_n 2, 1, .null, 0, 0, 0, [])), (84, (.lreturn, 1, .null, 0, 0, 0, []))]
def km_X0_weightAcross : dx_K := ((yX0_weightAcross, cX0_weightAcross, 7, some .long), kr_X0_weightAcross, kp_X0)
def kr_X0_weightUp : List (Nat × dx_I) := [(0, (.lconst 0, 1, .long 0, 0, 0, 0, [])), (1, (.lstore_n 2, 1, .null, 0, 0, 0, [])), (2, (.iconst 0, 1, .int 0, 0, 0, 0, [])), (3, (.istore 4, 2, .null, 0, 0, 0, [])), (5, (.iload 4, 2, .null, 0, 0, 0, [])), (7, (.aload_n 0, 1, .null, 0, 0, 0, [])), (8, (.getfield 23, 3, .null, 0, 2, 0, [])), (11, (.if_icmp .ge 72, 3, .null, 83, 0, 0, [])), (14, (.iconst 0, 1, .int 0, 0, 0, 0, [])), (15, (.istore 5, 2, .null, 0, 0, 0, [])), (17, (.iload 5, 2, .null, 0, 0, 0, [])), (19, (.aload_n 0, 1, .null, 0, 0, 0, [])), (20, (.getfield 19, 3, .null, 0, 1, 0, [])), (23, (.if_icmp .ge 54, 3, .null, 77, 0, 0, [])), (26, (.aload_n 0, 1, .null, 0, 0, 0, [])), (27, (.iload 5, 2, .null, 0, 0, 0, [])), (29, (.iload 4, 2, .null, 0, 0, 0, [])), (31, (.invokevirtual 30, 3, .ref 0, 1, 2, 2, [])), (34, (.iconst 0, 1, .int 0, 0, 0, 0, [])), (35, (.invokestatic 34, 3, .null, 7, 0, 0, [])), (38, (.istore 6, 2, .null, 0, 0, 0, [])), (40, (.lload_n 2, 1, .null, 0, 0, 0, [])), (41, (.iload 6, 2, .null, 0, 0, 0, [])), (43, (.iconst 2, 1, .int 2, 0, 0, 0, [])), (44, (.iload_n 1, 1, .null, 0, 0, 0, [])), (45, (.iload 5, 2, .null, 0, 0, 0, [])), (47, (.iload 4, 2, .null, 0, 0, 0, [])), (49, (.aload_n 0, 1, .null, 0, 0, 0, [])), (50, (.getfield 19, 3, .null, 0, 1, 0, [])), (53, (.iconst 1, 1, .int 1, 0, 0, 0, [])), (54, (.isub, 1, .null, 0, 0, 0, [])), (55, (.aload_n 0, 1, .null, 0, 0, 0, [])), (56, (.getfield 23, 3, .null, 0, 2, 0, [])), (59, (.iconst 1, 1, .int 1, 0, 0, 0, [])), (60, (.isub, 1, .null, 0, 0, 0, [])), (61, (.invokestatic 43, 3, .null, 3, 81, 5, [])), (64, (.imul, 1, .null, 0, 0, 0, [])), (65, (.iconst 1, 1, .int 1, 0, 0, 0, [])), (66, (.iadd, 1, .null, 0, 0, 0, [])), (67, (.imul, 1, .null, 0, 0, 0, [])), (68, (.i2l, 1, .null, 0, 0, 0, [])), (69, (.ladd, 1, .null, 0, 0, 0, [])), (70, (.lstore_n 2, 1, .null, 0, 0, 0, [])), (71, (.iinc 5 1, 3, .int 1, 0, 0, 0, [])), (74, (.goto (-57), 3, .null, 17, 0, 0, [])), (77, (.iinc 4 1, 3, .int 1, 0, 0, 0, [])), (80, (.goto (-75), 3, .null, 5, 0, 0, [])), (83, (.lload_n 2, 1, .null, 0, 0, 0, [])), (84, (.lreturn, 1, .null, 0, 0, 0, []))]
def km_X0_weightUp : dx_K := ((yX0_weightUp, cX0_weightUp, 7, some .long), kr_X0_weightUp, kp_X0)
def kr_X1_turnTo : List (Nat × dx_I) := [(0, (.aload_n 0, 1, .null, 0, 0, 0, [])), (1, (.aload_n 1, 1, .null, 0, 0, 0, [])), (2, (.iload_n 2, 1, .null, 0, 0, 0, [])), (3, (.invokevirtual 18, 3, .ref 0, 1, 4, 1, [])), (6, (.putfield 24, 3, .null, 1, 2, 0, [])), (9, (.aload_n 0, 1, .null, 0, 0, 0, [])), (10, (.aload_n 1, 1, .null, 0, 0, 0, [])), (11, (.iload_n 2, 1, .null, 0, 0, 0, [])), (12, (.invokevirtual 28, 3, .ref 0, 1, 5, 1, [])), (15, (.putfield 31, 3, .null, 1, 3, 0, [])), (18, (.aload_n 0, 1, .null, 0, 0, 0, [])), (19, (.iconst (-1), 1, .int (-1), 0, 0, 0, [])), (20, (.putfield 34, 3, .null, 1, 4, 0, [])), (23, (.iconst 0, 1, .int 0, 0, 0, 0, [])), (24, (.istore_n 3, 1, .null, 0, 0, 0, [])), (25, (.iload_n 3, 1, .null, 0, 0, 0, [])), (26, (.bipush 12, 2, .int 12, 0, 0, 0, [])), (28, (.if_icmp .ge 23, 3, .null, 51, 0, 0, [])), (31, (.aload_n 0, 1, .null, 0, 0, 0, [])), (32, (.getfield 9, 3, .null, 1, 0, 0, [])), (35, (.iload_n 3, 1, .null, 0, 0, 0, [])), (36, (.iconst 0, 1, .int 0, 0, 0, 0, [])), (37, (.iastore, 1, .null, 0, 0, 0, [])), (38, (.aload_n 0, 1, .null, 0, 0, 0, [])), (39, (.getfield 15, 3, .null, 1, 1, 0, [])), (42, (.iload_n 3, 1, .null, 0, 0, 0, [])), (43, (.iconst 0, 1, .int 0, 0, 0, 0, [])), (44, (.iastore, 1, .null, 0, 0, 0, [])), (45, (.iinc 3 1, 3, .int 1, 0, 0, 0, [])), (48, (.goto (-23), 3, .null, 25, 0, 0, [])), (51, (.iconst 0, 1, .int 0, 0, 0, 0, [])), (52, (.istore_n 3, 1, .null, 0, 0, 0, [])), (53, (.iload_n 3, 1, .null, 0, 0, 0, [])), (54, (.aload_n 1, 1, .null, 0, 0, 0, [])), (55, (.getfield 37, 3, .null, 0, 2, 0, [])), (58, (.if_icmp .ge 91, 3, .null, 149, 0, 0, [])), (61, (.iconst 0, 1, .int 0, 0, 0, 0, [])), (62, (.istore 4, 2, .null, 0, 0, 0, [])), (64, (.iload 4, 2, .null, 0, 0, 0, [])), (66, (.aload_n 1, 1, .null, 0, 0, 0, [])), (67, (.getfield 38, 3, .null, 0, 1, 0, [])), (70, (.if_icmp .ge 73, 3, .null, 143, 0, 0, [])), (73, (.aload_n 1, 1, .null, 0, 0, 0, [])), (74, (.iload 4, 2, .null, 0, 0, 0, [])), (76, (.iload_n 3, 1, .null, 0, 0, 0, [])), (77, (.invokevirtual 39, 3, .ref 0, 1, 2, 2, [])), (80, (.bipush (-9), 2, .int (-9), 0, 0, 0, [])), (82, (.if_icmp .ne 55, 3, .null, 137, 0, 0, [])), (85, (.iconst 1, 1, .int 1, 0, 0, 0, [])), (86, (.iload_n 2, 1, .null, 0, 0, 0, [])), (87, (.iload 4, 2, .null, 0, 0, 0, [])), (89, (.iload_n 3, 1, .null, 0, 0, 0, [])), (90, (.aload_n 1, 1, .null, 0, 0, 0, [])), (91, (.getfield 38, 3, .null, 0, 1, 0, [])), (94, (.iconst 1, 1, .int 1, 0, 0, 0, [])), (95, (.isub, 1, .null, 0, 0, 0, [])), (96, (.aload_n 1, 1, .null, 0, 0, 0, [])), (97, (.getfield 37, 3, .null, 0, 2, 0, [])), (100, (.iconst 1, 1, .int 1, 0, 0, 0, [])), (101, (.isub, 1, .null, 0, 0, 0, [])), (102, (.invokestatic 43, 3, .null, 3, 80, 5, [])), (105, (.ishl, 1, .null, 0, 0, 0, [])), (106, (.istore 5, 2, .null, 0, 0, 0, [])), (108, (.aload_n 0, 1, .null, 0, 0, 0, [])), (109, (.getfield 9, 3, .null, 1, 0, 0, [])), (112, (.iload_n 2, 1, .null, 0, 0, 0, [])), (113, (.iload 4, 2, .null, 0, 0, 0, [])), (115, (.iload_n 3, 1, .null, 0, 0, 0, [])), (116, (.aload_n 1, 1, .null, 0, 0, 0, [])), (117, (.getfield 38, 3, .null, 0, 1, 0, [])), (120, (.iconst 1, 1, .int 1, 0, 0, 0, [])), (121, (.isub, 1, .null, 0, 0, 0, [])), (122, (.aload_n 1, 1, .null, 0, 0, 0, [])), (123, (.getfield 37, 3, .null, 0, 2, 0, [])), (126, (.iconst 1, 1, .int 1, 0, 0, 0, [])), (127, (.isub, 1, .null, 0, 0, 0, [])), (128, (.invokestatic 47, 3, .null, 3, 81, 5, [])), (131, (.dup2, 1, .null, 0, 0, 0, [])), (132, (.iaload, 1, .null, 0, 0, 0, [])), (133, (.iload 5, 2, .null, 0, 0, 0, [])), (135, (.ior, 1, .null, 0, 0, 0, [])), (136, (.iastore, 1, .null, 0, 0, 0, [])), (137, (.iinc 4 1, 3, .int 1, 0, 0, 0, [])), (140, (.goto (-76), 3, .null, 64, 0, 0, [])), (143, (.iinc 3 1, 3, .int 1, 0, 0, 0, [])), (146, (.goto (-93), 3, .null, 53, 0, 0, [])), (149, (.return_, 1, .null, 0, 0, 0, []))]
def km_X1_turnTo : dx_K := ((yX1_turnTo, cX1_turnTo, 6, none), kr_X1_turnTo, kp_X1)
def kr_X1_riseTo : List (Nat × dx_I) := [(0, (.aload_n 0, 1, .null, 0, 0, 0, [])), (1, (.getfield 34, 3, .null, 1, 4, 0, [])), (4, (.iload_n 1, 1, .null, 0, 0, 0, [])), (5, (.if_icmp .ge 60, 3, .null, 65, 0, 0, [])), (8, (.aload_n 0, 1, .null, 0, 0, 0, [])), (9, (.getfield 34, 3, .null, 1, 4, 0, [])), (12, (.iconst 1, 1, .int 1, 0, 0, 0, [])), (13, (.iadd, 1, .null, 0, 0, 0, [])), (14, (.aload_n 0, 1, .null, 0, 0, 0, [])), (15, (.getfield 31, 3, .null, 1, 3, 0, [])), (18, (.if_icmp .ge 47, 3, .null, 65, 0, 0, [])), (21, (.aload_n 0, 1, .null, 0, 0, 0, [])), (22, (.dup, 1, .null, 0, 0, 0, [])), (23, (.getfield 34, 3, .null, 1, 4, 0, [])), (26, (.iconst 1, 1, .int 1, 0, 0, 0, [])), (27, (.iadd, 1, .null, 0, 0, 0, [])), (28, (.putfield 34, 3, .null, 1, 4, 0, [])), (31, (.aload_n 0, 1, .null, 0, 0, 0, [])), (32, (.getfield 15, 3, .null, 1, 1, 0, [])), (35, (.aload_n 0, 1, .null, 0, 0, 0, [])), (36, (.getfield 34, 3, .null, 1, 4, 0, [])), (39, (.aload_n 0, 1, .null, 0, 0, 0, [])), (40, (.getfield 9, 3, .null, 1, 0, 0, [])), (43, (.aload_n 0, 1, .null, 0, 0, 0, [])), (44, (.getfield 34, 3, .null, 1, 4, 0, [])), (47, (.iaload, 1, .null, 0, 0, 0, [])), (48, (.aload_n 0, 1, .null, 0, 0, 0, [])), (49, (.aload_n 0, 1, .null, 0, 0, 0, [])), (50, (.getfield 34, 3, .null, 1, 4, 0, [])), (53, (.invokevirtual 50, 3, .ref 1, 1, 12, 1, [])), (56, (.iand, 1, .null, 0, 0, 0, [])), (57, (.iastore, 1, .null, 0, 0, 0, [])), (58, (.aload_n 0, 1, .null, 0, 0, 0, [])), (59, (.invokevirtual 53, 3, .ref 1, 1, 13, 0, [])), (62, (.goto (-62), 3, .null, 0, 0, 0, [])), (65, (.aload_n 0, 1, .null, 0, 0, 0, [])), (66, (.invokevirtual 56, 3, .ref 1, 1, 15, 0, [])), (69, (.return_, 1, .null, 0, 0, 0, []))]
def km_X1_riseTo : dx_K := ((yX1_riseTo, cX1_riseTo, 2, none), kr_X1_riseTo, kp_X1)
def kr_X1_waysInto : List (Nat × dx_I) := [(0, (.iconst 1, 1, .int 1, 0, 0, 0, [])), (1, (.aload_n 0, 1, .null, 0, 0, 0, [])), (2, (.getfield 24, 3, .null, 1, 2, 0, [])), (5, (.ishl, 1, .null, 0, 0, 0, [])), (6, (.iconst 1, 1, .int 1, 0, 0, 0, [])), (7, (.isub, 1, .null, 0, 0, 0, [])), (8, (.istore_n 2, 1, .null, 0, 0, 0, [])), (9, (.iconst 1, 1, .int 1, 0, 0, 0, [])), (10, (.iconst 1, 1, .int 1, 0, 0, 0, [])), (11, (.aload_n 0, 1, .null, 0, 0, 0, [])), (12, (.getfield 24, 3, .null, 1, 2, 0, [])), (15, (.iconst 1, 1, .int 1, 0, 0, 0, [])), (16, (.isub, 1, .null, 0, 0, 0, [])), (17, (.ishl, 1, .null, 0, 0, 0, [])), (18, (.ior, 1, .null, 0, 0, 0, [])), (19, (.istore_n 3, 1, .null, 0, 0, 0, [])), (20, (.iload_n 1, 1, .null, 0, 0, 0, [])), (21, (.ifCond .ne 7, 3, .null, 28, 0, 0, [])), (24, (.iload_n 2, 1, .null, 0, 0, 0, [])), (25, (.goto 4, 3, .null, 29, 0, 0, [])), (28, (.iload_n 3, 1, .null, 0, 0, 0, [])), (29, (.ireturn, 1, .null, 0, 0, 0, []))]
def km_X1_waysInto : dx_K := ((yX1_waysInto, cX1_waysInto, 4, some .int), kr_X1_waysInto, kp_X1)
def kr_X1_spread : List (Nat × dx_I) := [(0, (.iconst 1, 1, .int 1, 0, 0, 0, [])), (1, (.istore_n 1, 1, .null, 0, 0, 0, [])), (2, (.iconst 0, 1, .int 0, 0, 0, 0, [])), (3, (.istore_n 2, 1, .null, 0, 0, 0, [])), (4, (.iload_n 1, 1, .null, 0, 0, 0, [])), (5, (.ifCond .eq 144, 3, .null, 149, 0, 0, [])), (8, (.iload_n 2, 1, .null, 0, 0, 0, [])), (9, (.sipush 144, 3, .int 144, 0, 0, 0, [])), (12, (.if_icmp .gt 137, 3, .null, 149, 0, 0, [])), (15, (.iconst 0, 1, .int 0, 0, 0, 0, [])), (16, (.istore_n 1, 1, .null, 0, 0, 0, [])), (17, (.iconst 0, 1, .int 0, 0, 0, 0, [])), (18, (.istore_n 3, 1, .null, 0, 0, 0, [])), (19, (.iload_n 3, 1, .null, 0, 0, 0, [])), (20, (.aload_n 0, 1, .null, 0, 0, 0, [])), (21, (.getfield 34, 3, .null, 1, 4, 0, [])), (24, (.if_icmp .gt 119, 3, .null, 143, 0, 0, [])), (27, (.aload_n 0, 1, .null, 0, 0, 0, [])), (28, (.getfield 15, 3, .null, 1, 1, 0, [])), (31, (.iload_n 3, 1, .null, 0, 0, 0, [])), (32, (.iaload, 1, .null, 0, 0, 0, [])), (33, (.aload_n 0, 1, .null, 0, 0, 0, [])), (34, (.getfield 15, 3, .null, 1, 1, 0, [])), (37, (.iload_n 3, 1, .null, 0, 0, 0, [])), (38, (.iaload, 1, .null, 0, 0, 0, [])), (39, (.iconst 1, 1, .int 1, 0, 0, 0, [])), (40, (.ishl, 1, .null, 0, 0, 0, [])), (41, (.ior, 1, .null, 0, 0, 0, [])), (42, (.aload_n 0, 1, .null, 0, 0, 0, [])), (43, (.getfield 15, 3, .null, 1, 1, 0, [])), (46, (.iload_n 3, 1, .null, 0, 0, 0, [])), (47, (.iaload, 1, .null, 0, 0, 0, [])), (48, (.iconst 1, 1, .int 1, 0, 0, 0, [])), (49, (.ishr, 1, .null, 0, 0, 0, [])), (50, (.ior, 1, .null, 0, 0, 0, [])), (51, (.istore 4, 2, .null, 0, 0, 0, [])), (53, (.iload 4, 2, .null, 0, 0, 0, [])), (55, (.iload_n 3, 1, .null, 0, 0, 0, [])), (56, (.ifCond .le 14, 3, .null, 70, 0, 0, [])), (59, (.aload_n 0, 1, .null, 0, 0, 0, [])), (60, (.getfield 15, 3, .null, 1, 1, 0, [])), (63, (.iload_n 3, 1, .null, 0, 0, 0, [])), (64, (.iconst 1, 1, .int 1, 0, 0, 0, [])), (65, (.isub, 1, .null, 0, 0, 0, [])), (66, (.iaload, 1, .null, 0, 0, 0, [])), (67, (.goto 4, 3, .null, 71, 0, 0, [])), (70, (.iconst 0, 1, .int 0, 0, 0, 0, [])), (71, (.ior, 1, .null, 0, 0, 0, [])), (72, (.istore 4, 2, .null, 0, 0, 0, [])), (74, (.iload 4, 2, .null, 0, 0, 0, [])), (76, (.iload_n 3, 1, .null, 0, 0, 0, [])), (77, (.aload_n 0, 1, .null, 0, 0, 0, [])), (78, (.getfield 34, 3, .null, 1, 4, 0, [])), (81, (.if_icmp .ge 14, 3, .null, 95, 0, 0, [])), (84, (.aload_n 0, 1, .null, 0, 0, 0, [])), (85, (.getfield 15, 3, .null, 1, 1, 0, [])), (88, (.iload_n 3, 1, .null, 0, 0, 0, [])), (89, (.iconst 1, 1, .int 1, 0, 0, 0, [])), (90, (.iadd, 1, .null, 0, 0, 0, [])), (91, (.iaload, 1, .null, 0, 0, 0, [])), (92, (.goto 4, 3, .null, 96, 0, 0, [])), (95, (.iconst 0, 1, .int 0, 0, 0, 0, [])), (96, (.ior, 1, .null, 0, 0, 0, [])), (97, (.istore 4, 2, .null, 0, 0, 0, [])), (99, (.iload 4, 2, .null, 0, 0, 0, [])), (101, (.aload_n 0, 1, .null, 0, 0, 0, [])), (102, (.getfield 9, 3, .null, 1, 0, 0, [])), (105, (.iload_n 3, 1, .null, 0, 0, 0, [])), (106, (.iaload, 1, .null, 0, 0, 0, [])), (107, (.iand, 1, .null, 0, 0, 0, [])), (108, (.istore 4, 2, .null, 0, 0, 0, [])), (110, (.iload_n 1, 1, .null, 0, 0, 0, [])), (111, (.iload 4, 2, .null, 0, 0, 0, [])), (113, (.aload_n 0, 1, .null, 0, 0, 0, [])), (114, (.getfield 15, 3, .null, 1, 1, 0, [])), (117, (.iload_n 3, 1, .null, 0, 0, 0, [])), (118, (.iaload, 1, .null, 0, 0, 0, [])), (119, (.if_icmp .eq 7, 3, .null, 126, 0, 0, [])), (122, (.iconst 1, 1, .int 1, 0, 0, 0, [])), (123, (.goto 4, 3, .null, 127, 0, 0, [])), (126, (.iconst 0, 1, .int 0, 0, 0, 0, [])), (127, (.ior, 1, .null, 0, 0, 0, [])), (128, (.istore_n 1, 1, .null, 0, 0, 0, [])), (129, (.aload_n 0, 1, .null, 0, 0, 0, [])), (130, (.getfield 15, 3, .null, 1, 1, 0, [])), (133, (.iload_n 3, 1, .null, 0, 0, 0, [])), (134, (.iload 4, 2, .null, 0, 0, 0, [])), (136, (.iastore, 1, .null, 0, 0, 0, [])), (137, (.iinc 3 1, 3, .int 1, 0, 0, 0, [])), (140, (.goto (-121), 3, .null, 19, 0, 0, [])), (143, (.iinc 2 1, 3, .int 1, 0, 0, 0, [])), (146, (.goto (-142), 3, .null, 4, 0, 0, [])), (149, (.return_, 1, .null, 0, 0, 0, []))]
def km_X1_spread : dx_K := ((yX1_spread, cX1_spread, 5, none), kr_X1_spread, kp_X1)
def kr_X1_firm : List (Nat × dx_I) := [(0, (.iconst 1, 1, .int 1, 0, 0, 0, [])), (1, (.aload_n 0, 1, .null, 0, 0, 0, [])), (2, (.getfield 24, 3, .null, 1, 2, 0, [])), (5, (.ishl, 1, .null, 0, 0, 0, [])), (6, (.iconst 1, 1, .int 1, 0, 0, 0, [])), (7, (.isub, 1, .null, 0, 0, 0, [])), (8, (.aload_n 0, 1, .null, 0, 0, 0, [])), (9, (.getfield 15, 3, .null, 1, 1, 0, [])), (12, (.iload_n 1, 1, .null, 0, 0, 0, [])), (13, (.iaload, 1, .null, 0, 0, 0, [])), (14, (.iconst (-1), 1, .int (-1), 0, 0, 0, [])), (15, (.ixor, 1, .null, 0, 0, 0, [])), (16, (.iand, 1, .null, 0, 0, 0, [])), (17, (.ireturn, 1, .null, 0, 0, 0, []))]
def km_X1_firm : dx_K := ((yX1_firm, cX1_firm, 2, some .int), kr_X1_firm, kp_X1)
def kr_X1_countFirm : List (Nat × dx_I) := [(0, (.aload_n 0, 1, .null, 0, 0, 0, [])), (1, (.iconst 0, 1, .int 0, 0, 0, 0, [])), (2, (.putfield 59, 3, .null, 1, 5, 0, [])), (5, (.iconst 0, 1, .int 0, 0, 0, 0, [])), (6, (.istore_n 1, 1, .null, 0, 0, 0, [])), (7, (.iload_n 1, 1, .null, 0, 0, 0, [])), (8, (.aload_n 0, 1, .null, 0, 0, 0, [])), (9, (.getfield 34, 3, .null, 1, 4, 0, [])), (12, (.if_icmp .ge 26, 3, .null, 38, 0, 0, [])), (15, (.aload_n 0, 1, .null, 0, 0, 0, [])), (16, (.dup, 1, .null, 0, 0, 0, [])), (17, (.getfield 59, 3, .null, 1, 5, 0, [])), (20, (.aload_n 0, 1, .null, 0, 0, 0, [])), (21, (.iload_n 1, 1, .null, 0, 0, 0, [])), (22, (.invokevirtual 62, 3, .ref 1, 1, 14, 1, [])), (25, (.invokestatic 65, 3, .null, 2, 143, 1, [])), (28, (.iadd, 1, .null, 0, 0, 0, [])), (29, (.putfield 59, 3, .null, 1, 5, 0, [])), (32, (.iinc 1 1, 3, .int 1, 0, 0, 0, [])), (35, (.goto (-28), 3, .null, 7, 0, 0, [])), (38, (.aload_n 0, 1, .null, 0, 0, 0, [])), (39, (.aload_n 0, 1, .null, 0, 0, 0, [])), (40, (.getfield 34, 3, .null, 1, 4, 0, [])), (43, (.ifCond .ge 7, 3, .null, 50, 0, 0, [])), (46, (.iconst 0, 1, .int 0, 0, 0, 0, [])), (47, (.goto 14, 3, .null, 61, 0, 0, [])), (50, (.aload_n 0, 1, .null, 0, 0, 0, [])), (51, (.aload_n 0, 1, .null, 0, 0, 0, [])), (52, (.getfield 34, 3, .null, 1, 4, 0, [])), (55, (.invokevirtual 62, 3, .ref 1, 1, 14, 1, [])), (58, (.invokestatic 65, 3, .null, 2, 143, 1, [])), (61, (.putfield 70, 3, .null, 1, 6, 0, [])), (64, (.return_, 1, .null, 0, 0, 0, []))]
def km_X1_countFirm : dx_K := ((yX1_countFirm, cX1_countFirm, 2, none), kr_X1_countFirm, kp_X1)
def kr_X1_bears : List (Nat × dx_I) := [(0, (.iconst 0, 1, .int 0, 0, 0, 0, [])), (1, (.istore_n 3, 1, .null, 0, 0, 0, [])), (2, (.iload_n 3, 1, .null, 0, 0, 0, [])), (3, (.aload_n 0, 1, .null, 0, 0, 0, [])), (4, (.getfield 31, 3, .null, 1, 3, 0, [])), (7, (.if_icmp .ge 55, 3, .null, 62, 0, 0, [])), (10, (.aload_n 0, 1, .null, 0, 0, 0, [])), (11, (.iload_n 3, 1, .null, 0, 0, 0, [])), (12, (.invokevirtual 73, 3, .ref 1, 1, 11, 1, [])), (15, (.iload_n 1, 1, .null, 0, 0, 0, [])), (16, (.aload_n 0, 1, .null, 0, 0, 0, [])), (17, (.getfield 59, 3, .null, 1, 5, 0, [])), (20, (.aload_n 0, 1, .null, 0, 0, 0, [])), (21, (.getfield 70, 3, .null, 1, 6, 0, [])), (24, (.iadd, 1, .null, 0, 0, 0, [])), (25, (.iload_n 2, 1, .null, 0, 0, 0, [])), (26, (.imul, 1, .null, 0, 0, 0, [])), (27, (.if_icmp .gt 29, 3, .null, 56, 0, 0, [])), (30, (.aload_n 0, 1, .null, 0, 0, 0, [])), (31, (.iload_n 1, 1, .null, 0, 0, 0, [])), (32, (.aload_n 0, 1, .null, 0, 0, 0, [])), (33, (.getfield 59, 3, .null, 1, 5, 0, [])), (36, (.iload_n 2, 1, .null, 0, 0, 0, [])), (37, (.imul, 1, .null, 0, 0, 0, [])), (38, (.isub, 1, .null, 0, 0, 0, [])), (39, (.i2l, 1, .null, 0, 0, 0, [])), (40, (.putfield 77, 3, .null, 1, 7, 0, [])), (43, (.aload_n 0, 1, .null, 0, 0, 0, [])), (44, (.aload_n 0, 1, .null, 0, 0, 0, [])), (45, (.getfield 70, 3, .null, 1, 6, 0, [])), (48, (.iload_n 2, 1, .null, 0, 0, 0, [])), (49, (.imul, 1, .null, 0, 0, 0, [])), (50, (.i2l, 1, .null, 0, 0, 0, [])), (51, (.putfield 81, 3, .null, 1, 8, 0, [])), (54, (.iconst 1, 1, .int 1, 0, 0, 0, [])), (55, (.ireturn, 1, .null, 0, 0, 0, [])), (56, (.iinc 3 1, 3, .int 1, 0, 0, 0, [])), (59, (.goto (-57), 3, .null, 2, 0, 0, [])), (62, (.iconst 0, 1, .int 0, 0, 0, 0, [])), (63, (.ireturn, 1, .null, 0, 0, 0, []))]
def km_X1_bears : dx_K := ((yX1_bears, cX1_bears, 4, some .boolean), kr_X1_bears, kp_X1)
def kr_X1_mostRoom : List (Nat × dx_I) := [(0, (.iconst 0, 1, .int 0, 0, 0, 0, [])), (1, (.istore_n 1, 1, .null, 0, 0, 0, [])), (2, (.iconst 0, 1, .int 0, 0, 0, 0, [])), (3, (.istore_n 2, 1, .null, 0, 0, 0, [])), (4, (.iload_n 2, 1, .null, 0, 0, 0, [])), (5, (.aload_n 0, 1, .null, 0, 0, 0, [])), (6, (.getfield 31, 3, .null, 1, 3, 0, [])), (9, (.if_icmp .ge 28, 3, .null, 37, 0, 0, [])), (12, (.aload_n 0, 1, .null, 0, 0, 0, [])), (13, (.iload_n 2, 1, .null, 0, 0, 0, [])), (14, (.invokevirtual 73, 3, .ref 1, 1, 11, 1, [])), (17, (.iload_n 1, 1, .null, 0, 0, 0, [])), (18, (.aload_n 0, 1, .null, 0, 0, 0, [])), (19, (.getfield 59, 3, .null, 1, 5, 0, [])), (22, (.aload_n 0, 1, .null, 0, 0, 0, [])), (23, (.getfield 70, 3, .null, 1, 6, 0, [])), (26, (.iadd, 1, .null, 0, 0, 0, [])), (27, (.invokestatic 84, 3, .null, 7, 0, 0, [])), (30, (.istore_n 1, 1, .null, 0, 0, 0, [])), (31, (.iinc 2 1, 3, .int 1, 0, 0, 0, [])), (34, (.goto (-30), 3, .null, 4, 0, 0, [])), (37, (.iload_n 1, 1, .null, 0, 0, 0, [])), (38, (.ireturn, 1, .null, 0, 0, 0, []))]
def km_X1_mostRoom : dx_K := ((yX1_mostRoom, cX1_mostRoom, 3, some .int), kr_X1_mostRoom, kp_X1)
def kr_X1_stateOf : List (Nat × dx_I) := [(0, (.iload_n 2, 1, .null, 0, 0, 0, [])), (1, (.aload_n 0, 1, .null, 0, 0, 0, [])), (2, (.getfield 34, 3, .null, 1, 4, 0, [])), (5, (.if_icmp .le 5, 3, .null, 10, 0, 0, [])), (8, (.iconst 0, 1, .int 0, 0, 0, 0, [])), (9, (.ireturn, 1, .null, 0, 0, 0, [])), (10, (.aload_n 0, 1, .null, 0, 0, 0, [])), (11, (.getfield 15, 3, .null, 1, 1, 0, [])), (14, (.iload_n 2, 1, .null, 0, 0, 0, [])), (15, (.iaload, 1, .null, 0, 0, 0, [])), (16, (.iload_n 1, 1, .null, 0, 0, 0, [])), (17, (.ishr, 1, .null, 0, 0, 0, [])), (18, (.iconst 1, 1, .int 1, 0, 0, 0, [])), (19, (.iand, 1, .null, 0, 0, 0, [])), (20, (.iconst 1, 1, .int 1, 0, 0, 0, [])), (21, (.if_icmp .ne 5, 3, .null, 26, 0, 0, [])), (24, (.iconst 1, 1, .int 1, 0, 0, 0, [])), (25, (.ireturn, 1, .null, 0, 0, 0, [])), (26, (.aload_n 0, 1, .null, 0, 0, 0, [])), (27, (.getfield 9, 3, .null, 1, 0, 0, [])), (30, (.iload_n 2, 1, .null, 0, 0, 0, [])), (31, (.iaload, 1, .null, 0, 0, 0, [])), (32, (.iload_n 1, 1, .null, 0, 0, 0, [])), (33, (.ishr, 1, .null, 0, 0, 0, [])), (34, (.iconst 1, 1, .int 1, 0, 0, 0, [])), (35, (.iand, 1, .null, 0, 0, 0, [])), (36, (.ifCond .ne 7, 3, .null, 43, 0, 0, [])), (39, (.iconst 2, 1, .int 2, 0, 0, 0, [])), (40, (.goto 4, 3, .null, 44, 0, 0, [])), (43, (.iconst 3, 1, .int 3, 0, 0, 0, [])), (44, (.ireturn, 1, .null, 0, 0, 0, []))]
def km_X1_stateOf : dx_K := ((yX1_stateOf, cX1_stateOf, 3, some .int), kr_X1_stateOf, kp_X1)
def kr_X1_halves : List (Nat × dx_I) := [(0, (.iconst 0, 1, .int 0, 0, 0, 0, [])), (1, (.istore_n 2, 1, .null, 0, 0, 0, [])), (2, (.iconst 0, 1, .int 0, 0, 0, 0, [])), (3, (.istore_n 3, 1, .null, 0, 0, 0, [])), (4, (.iload_n 3, 1, .null, 0, 0, 0, [])), (5, (.aload_n 0, 1, .null, 0, 0, 0, [])), (6, (.getfield 24, 3, .null, 1, 2, 0, [])), (9, (.if_icmp .ge 23, 3, .null, 32, 0, 0, [])), (12, (.iload_n 2, 1, .null, 0, 0, 0, [])), (13, (.iload_n 1, 1, .null, 0, 0, 0, [])), (14, (.iload_n 3, 1, .null, 0, 0, 0, [])), (15, (.ishr, 1, .null, 0, 0, 0, [])), (16, (.iconst 1, 1, .int 1, 0, 0, 0, [])), (17, (.iand, 1, .null, 0, 0, 0, [])), (18, (.iconst 2, 1, .int 2, 0, 0, 0, [])), (19, (.iload_n 3, 1, .null, 0, 0, 0, [])), (20, (.imul, 1, .null, 0, 0, 0, [])), (21, (.iconst 1, 1, .int 1, 0, 0, 0, [])), (22, (.iadd, 1, .null, 0, 0, 0, [])), (23, (.imul, 1, .null, 0, 0, 0, [])), (24, (.iadd, 1, .null, 0, 0, 0, [])), (25, (.istore_n 2, 1, .null, 0, 0, 0, [])), (26, (.iinc 3 1, 3, .int 1, 0, 0, 0, [])), (29, (.goto (-25), 3, .null, 4, 0, 0, [])), (32, (.iload_n 2, 1, .null, 0, 0, 0, [])), (33, (.ireturn, 1, .null, 0, 0, 0, []))]
def km_X1_halves : dx_K := ((yX1_halves, cX1_halves, 4, some .int), kr_X1_halves, kp_X1)
def kr_X1_momentAcross : List (Nat × dx_I) := [(0, (.lconst 0, 1, .long 0, 0, 0, 0, [])), (1, (.lstore_n 1, 1, .null, 0, 0, 0, [])), (2, (.iconst 0, 1, .int 0, 0, 0, 0, [])), (3, (.istore_n 3, 1, .null, 0, 0, 0, [])), (4, (.iload_n 3, 1, .null, 0, 0, 0, [])), (5, (.aload_n 0, 1, .null, 0, 0, 0, [])), (6, (.getfield 34, 3, .null, 1, 4, 0, [])), (9, (.if_icmp .ge 22, 3, .null, 31, 0, 0, [])), (12, (.lload_n 1, 1, .null, 0, 0, 0, [])), (13, (.aload_n 0, 1, .null, 0, 0, 0, [])), (14, (.aload_n 0, 1, .null, 0, 0, 0, [])), (15, (.iload_n 3, 1, .null, 0, 0, 0, [])), (16, (.invokevirtual 62, 3, .ref 1, 1, 14, 1, [])), (19, (.invokevirtual 89, 3, .ref 1, 1, 19, 1, [])), (22, (.i2l, 1, .null, 0, 0, 0, [])), (23, (.ladd, 1, .null, 0, 0, 0, [])), (24, (.lstore_n 1, 1, .null, 0, 0, 0, [])), (25, (.iinc 3 1, 3, .int 1, 0, 0, 0, [])), (28, (.goto (-24), 3, .null, 4, 0, 0, [])), (31, (.aload_n 0, 1, .null, 0, 0, 0, [])), (32, (.getfield 34, 3, .null, 1, 4, 0, [])), (35, (.ifCond .ge 7, 3, .null, 42, 0, 0, [])), (38, (.lconst 0, 1, .long 0, 0, 0, 0, [])), (39, (.goto 16, 3, .null, 55, 0, 0, [])), (42, (.aload_n 0, 1, .null, 0, 0, 0, [])), (43, (.aload_n 0, 1, .null, 0, 0, 0, [])), (44, (.aload_n 0, 1, .null, 0, 0, 0, [])), (45, (.getfield 34, 3, .null, 1, 4, 0, [])), (48, (.invokevirtual 62, 3, .ref 1, 1, 14, 1, [])), (51, (.invokevirtual 89, 3, .ref 1, 1, 19, 1, [])), (54, (.i2l, 1, .null, 0, 0, 0, [])), (55, (.lstore_n 3, 1, .null, 0, 0, 0, [])), (56, (.lload_n 1, 1, .null, 0, 0, 0, [])), (57, (.aload_n 0, 1, .null, 0, 0, 0, [])), (58, (.getfield 81, 3, .null, 1, 8, 0, [])), (61, (.lmul, 1, .null, 0, 0, 0, [])), (62, (.lload_n 3, 1, .null, 0, 0, 0, [])), (63, (.aload_n 0, 1, .null, 0, 0, 0, [])), (64, (.getfield 77, 3, .null, 1, 7, 0, [])), (67, (.lmul, 1, .null, 0, 0, 0, [])), (68, (.ladd, 1, .null, 0, 0, 0, [])), (69, (.lreturn, 1, .null, 0, 0, 0, []))]
def km_X1_momentAcross : dx_K := ((yX1_momentAcross, cX1_momentAcross, 5, some .long), kr_X1_momentAcross, kp_X1)
def kr_X1_momentUp : List (Nat × dx_I) := [(0, (.lconst 0, 1, .long 0, 0, 0, 0, [])), (1, (.lstore_n 1, 1, .null, 0, 0, 0, [])), (2, (.iconst 0, 1, .int 0, 0, 0, 0, [])), (3, (.istore_n 3, 1, .null, 0, 0, 0, [])), (4, (.iload_n 3, 1, .null, 0, 0, 0, [])), (5, (.aload_n 0, 1, .null, 0, 0, 0, [])), (6, (.getfield 34, 3, .null, 1, 4, 0, [])), (9, (.if_icmp .ge 27, 3, .null, 36, 0, 0, [])), (12, (.lload_n 1, 1, .null, 0, 0, 0, [])), (13, (.aload_n 0, 1, .null, 0, 0, 0, [])), (14, (.iload_n 3, 1, .null, 0, 0, 0, [])), (15, (.invokevirtual 62, 3, .ref 1, 1, 14, 1, [])), (18, (.invokestatic 65, 3, .null, 2, 143, 1, [])), (21, (.iconst 2, 1, .int 2, 0, 0, 0, [])), (22, (.iload_n 3, 1, .null, 0, 0, 0, [])), (23, (.imul, 1, .null, 0, 0, 0, [])), (24, (.iconst 1, 1, .int 1, 0, 0, 0, [])), (25, (.iadd, 1, .null, 0, 0, 0, [])), (26, (.imul, 1, .null, 0, 0, 0, [])), (27, (.i2l, 1, .null, 0, 0, 0, [])), (28, (.ladd, 1, .null, 0, 0, 0, [])), (29, (.lstore_n 1, 1, .null, 0, 0, 0, [])), (30, (.iinc 3 1, 3, .int 1, 0, 0, 0, [])), (33, (.goto (-29), 3, .null, 4, 0, 0, [])), (36, (.lload_n 1, 1, .null, 0, 0, 0, [])), (37, (.aload_n 0, 1, .null, 0, 0, 0, [])), (38, (.getfield 81, 3, .null, 1, 8, 0, [])), (41, (.lmul, 1, .null, 0, 0, 0, [])), (42, (.aload_n 0, 1, .null, 0, 0, 0, [])), (43, (.getfield 81, 3, .null, 1, 8, 0, [])), (46, (.lmul, 1, .null, 0, 0, 0, [])), (47, (.aload_n 0, 1, .null, 0, 0, 0, [])), (48, (.getfield 70, 3, .null, 1, 6, 0, [])), (51, (.i2l, 1, .null, 0, 0, 0, [])), (52, (.aload_n 0, 1, .null, 0, 0, 0, [])), (53, (.getfield 77, 3, .null, 1, 7, 0, [])), (56, (.lmul, 1, .null, 0, 0, 0, [])), (57, (.iconst 2, 1, .int 2, 0, 0, 0, [])), (58, (.aload_n 0, 1, .null, 0, 0, 0, [])), (59, (.getfield 34, 3, .null, 1, 4, 0, [])), (62, (.imul, 1, .null, 0, 0, 0, [])), (63, (.i2l, 1, .null, 0, 0, 0, [])), (64, (.aload_n 0, 1, .null, 0, 0, 0, [])), (65, (.getfield 81, 3, .null, 1, 8, 0, [])), (68, (.lmul, 1, .null, 0, 0, 0, [])), (69, (.aload_n 0, 1, .null, 0, 0, 0, [])), (70, (.getfield 77, 3, .null, 1, 7, 0, [])), (73, (.ladd, 1, .null, 0, 0, 0, [])), (74, (.lmul, 1, .null, 0, 0, 0, [])), (75, (.ladd, 1, .null, 0, 0, 0, [])), (76, (.lreturn, 1, .null, 0, 0, 0, []))]
def km_X1_momentUp : dx_K := ((yX1_momentUp, cX1_momentUp, 4, some .long), kr_X1_momentUp, kp_X1)
def kr_X1_measureLine : List (Nat × dx_I) := [(0, (.aload_n 0, 1, .null, 0, 0, 0, [])), (1, (.invokevirtual 92, 3, .ref 1, 1, 23, 0, [])), (4, (.aload_n 0, 1, .null, 0, 0, 0, [])), (5, (.getfield 77, 3, .null, 1, 7, 0, [])), (8, (.aload_n 0, 1, .null, 0, 0, 0, [])), (9, (.getfield 81, 3, .null, 1, 8, 0, [])), (12, (.lcmp, 1, .null, 0, 0, 0, [])), (13, (.ifCond .ne 16, 3, .null, 29, 0, 0, [])), (16, (.aload_n 0, 1, .null, 0, 0, 0, [])), (17, (.getfield 34, 3, .null, 1, 4, 0, [])), (20, (.iconst 1, 1, .int 1, 0, 0, 0, [])), (21, (.iadd, 1, .null, 0, 0, 0, [])), (22, (.aload_n 0, 1, .null, 0, 0, 0, [])), (23, (.getfield 31, 3, .null, 1, 3, 0, [])), (26, (.if_icmp .lt 4, 3, .null, 30, 0, 0, [])), (29, (.return_, 1, .null, 0, 0, 0, [])), (30, (.aload_n 0, 1, .null, 0, 0, 0, [])), (31, (.getfield 95, 3, .null, 1, 9, 0, [])), (34, (.lstore_n 1, 1, .null, 0, 0, 0, [])), (35, (.aload_n 0, 1, .null, 0, 0, 0, [])), (36, (.getfield 98, 3, .null, 1, 10, 0, [])), (39, (.lstore_n 3, 1, .null, 0, 0, 0, [])), (40, (.aload_n 0, 1, .null, 0, 0, 0, [])), (41, (.aload_n 0, 1, .null, 0, 0, 0, [])), (42, (.getfield 34, 3, .null, 1, 4, 0, [])), (45, (.iconst 1, 1, .int 1, 0, 0, 0, [])), (46, (.iadd, 1, .null, 0, 0, 0, [])), (47, (.invokevirtual 73, 3, .ref 1, 1, 11, 1, [])), (50, (.aload_n 0, 1, .null, 0, 0, 0, [])), (51, (.invokevirtual 92, 3, .ref 1, 1, 23, 0, [])), (54, (.lload_n 1, 1, .null, 0, 0, 0, [])), (55, (.aload_n 0, 1, .null, 0, 0, 0, [])), (56, (.getfield 98, 3, .null, 1, 10, 0, [])), (59, (.lmul, 1, .null, 0, 0, 0, [])), (60, (.aload_n 0, 1, .null, 0, 0, 0, [])), (61, (.getfield 95, 3, .null, 1, 9, 0, [])), (64, (.lload_n 3, 1, .null, 0, 0, 0, [])), (65, (.lmul, 1, .null, 0, 0, 0, [])), (66, (.lcmp, 1, .null, 0, 0, 0, [])), (67, (.ifCond .ge 13, 3, .null, 80, 0, 0, [])), (70, (.aload_n 0, 1, .null, 0, 0, 0, [])), (71, (.lload_n 1, 1, .null, 0, 0, 0, [])), (72, (.putfield 95, 3, .null, 1, 9, 0, [])), (75, (.aload_n 0, 1, .null, 0, 0, 0, [])), (76, (.lload_n 3, 1, .null, 0, 0, 0, [])), (77, (.putfield 98, 3, .null, 1, 10, 0, [])), (80, (.return_, 1, .null, 0, 0, 0, []))]
def km_X1_measureLine : dx_K := ((yX1_measureLine, cX1_measureLine, 5, none), kr_X1_measureLine, kp_X1)
def kr_X1_measureRow : List (Nat × dx_I) := [(0, (.aload_n 0, 1, .null, 0, 0, 0, [])), (1, (.getfield 34, 3, .null, 1, 4, 0, [])), (4, (.ifCond .ge 7, 3, .null, 11, 0, 0, [])), (7, (.iconst 0, 1, .int 0, 0, 0, 0, [])), (8, (.goto 11, 3, .null, 19, 0, 0, [])), (11, (.aload_n 0, 1, .null, 0, 0, 0, [])), (12, (.aload_n 0, 1, .null, 0, 0, 0, [])), (13, (.getfield 34, 3, .null, 1, 4, 0, [])), (16, (.invokevirtual 62, 3, .ref 1, 1, 14, 1, [])), (19, (.istore_n 1, 1, .null, 0, 0, 0, [])), (20, (.iload_n 1, 1, .null, 0, 0, 0, [])), (21, (.invokestatic 65, 3, .null, 2, 143, 1, [])), (24, (.i2l, 1, .null, 0, 0, 0, [])), (25, (.lstore_n 2, 1, .null, 0, 0, 0, [])), (26, (.lconst 0, 1, .long 0, 0, 0, 0, [])), (27, (.lstore 4, 2, .null, 0, 0, 0, [])), (29, (.iconst 0, 1, .int 0, 0, 0, 0, [])), (30, (.istore 6, 2, .null, 0, 0, 0, [])), (32, (.iload 6, 2, .null, 0, 0, 0, [])), (34, (.aload_n 0, 1, .null, 0, 0, 0, [])), (35, (.getfield 24, 3, .null, 1, 2, 0, [])), (38, (.if_icmp .ge 36, 3, .null, 74, 0, 0, [])), (41, (.lload 4, 2, .null, 0, 0, 0, [])), (43, (.iload_n 1, 1, .null, 0, 0, 0, [])), (44, (.iload 6, 2, .null, 0, 0, 0, [])), (46, (.ishr, 1, .null, 0, 0, 0, [])), (47, (.iconst 1, 1, .int 1, 0, 0, 0, [])), (48, (.iand, 1, .null, 0, 0, 0, [])), (49, (.iconst 3, 1, .int 3, 0, 0, 0, [])), (50, (.iload 6, 2, .null, 0, 0, 0, [])), (52, (.imul, 1, .null, 0, 0, 0, [])), (53, (.iload 6, 2, .null, 0, 0, 0, [])), (55, (.imul, 1, .null, 0, 0, 0, [])), (56, (.iconst 3, 1, .int 3, 0, 0, 0, [])), (57, (.iload 6, 2, .null, 0, 0, 0, [])), (59, (.imul, 1, .null, 0, 0, 0, [])), (60, (.iadd, 1, .null, 0, 0, 0, [])), (61, (.iconst 1, 1, .int 1, 0, 0, 0, [])), (62, (.iadd, 1, .null, 0, 0, 0, [])), (63, (.imul, 1, .null, 0, 0, 0, [])), (64, (.i2l, 1, .null, 0, 0, 0, [])), (65, (.ladd, 1, .null, 0, 0, 0, [])), (66, (.lstore 4, 2, .null, 0, 0, 0, [])), (68, (.iinc 6 1, 3, .int 1, 0, 0, 0, [])), (71, (.goto (-39), 3, .null, 32, 0, 0, [])), (74, (.aload_n 0, 1, .null, 0, 0, 0, [])), (75, (.iload_n 1, 1, .null, 0, 0, 0, [])), (76, (.invokevirtual 89, 3, .ref 1, 1, 19, 1, [])), (79, (.i2l, 1, .null, 0, 0, 0, [])), (80, (.lstore 6, 2, .null, 0, 0, 0, [])), (82, (.aload_n 0, 1, .null, 0, 0, 0, [])), (83, (.ldc2_w 101, 3, .long 4, 0, 0, 0, [])), (86, (.lload_n 2, 1, .null, 0, 0, 0, [])), (87, (.lmul, 1, .null, 0, 0, 0, [])), (88, (.lload 4, 2, .null, 0, 0, 0, [])), (90, (.lmul, 1, .null, 0, 0, 0, [])), (91, (.ldc2_w 103, 3, .long 3, 0, 0, 0, [])), (94, (.lload 6, 2, .null, 0, 0, 0, [])), (96, (.lmul, 1, .null, 0, 0, 0, [])), (97, (.lload 6, 2, .null, 0, 0, 0, [])), (99, (.lmul, 1, .null, 0, 0, 0, [])), (100, (.lsub, 1, .null, 0, 0, 0, [])), (101, (.putfield 95, 3, .null, 1, 9, 0, [])), (104, (.aload_n 0, 1, .null, 0, 0, 0, [])), (105, (.lload_n 2, 1, .null, 0, 0, 0, [])), (106, (.lconst 0, 1, .long 0, 0, 0, 0, [])), (107, (.lcmp, 1, .null, 0, 0, 0, [])), (108, (.ifCond .ne 7, 3, .null, 115, 0, 0, [])), (111, (.lconst 1, 1, .long 1, 0, 0, 0, [])), (112, (.goto 8, 3, .null, 120, 0, 0, [])), (115, (.ldc2_w 105, 3, .long 12, 0, 0, 0, [])), (118, (.lload_n 2, 1, .null, 0, 0, 0, [])), (119, (.lmul, 1, .null, 0, 0, 0, [])), (120, (.putfield 98, 3, .null, 1, 10, 0, [])), (123, (.return_, 1, .null, 0, 0, 0, []))]
def km_X1_measureRow : dx_K := ((yX1_measureRow, cX1_measureRow, 8, none), kr_X1_measureRow, kp_X1)
def kr_X2_begin : List (Nat × dx_I) := [(0, (.aload_n 0, 1, .null, 0, 0, 0, [])), (1, (.iconst 1, 1, .int 1, 0, 0, 0, [])), (2, (.putfield 9, 3, .null, 2, 0, 0, [])), (5, (.aload_n 0, 1, .null, 0, 0, 0, [])), (6, (.iload_n 1, 1, .null, 0, 0, 0, [])), (7, (.putfield 15, 3, .null, 2, 1, 0, [])), (10, (.aload_n 0, 1, .null, 0, 0, 0, [])), (11, (.iload_n 2, 1, .null, 0, 0, 0, [])), (12, (.putfield 19, 3, .null, 2, 2, 0, [])), (15, (.aload_n 0, 1, .null, 0, 0, 0, [])), (16, (.iload_n 3, 1, .null, 0, 0, 0, [])), (17, (.putfield 22, 3, .null, 2, 3, 0, [])), (20, (.aload_n 0, 1, .null, 0, 0, 0, [])), (21, (.iload 4, 2, .null, 0, 0, 0, [])), (23, (.putfield 25, 3, .null, 2, 4, 0, [])), (26, (.aload_n 0, 1, .null, 0, 0, 0, [])), (27, (.iconst 0, 1, .int 0, 0, 0, 0, [])), (28, (.putfield 28, 3, .null, 2, 5, 0, [])), (31, (.return_, 1, .null, 0, 0, 0, []))]
def km_X2_begin : dx_K := ((yX2_begin, cX2_begin, 5, none), kr_X2_begin, kp_X2)
def kr_X2_fact : List (Nat × dx_I) := [(0, (.iload_n 1, 1, .null, 0, 0, 0, [])), (1, (.tableswitch 51 0 3 #[31, 36, 41, 46], 31, .null, 52, 0, 0, [(0, 32), (1, 37), (2, 42), (3, 47)])), (32, (.aload_n 0, 1, .null, 0, 0, 0, [])), (33, (.getfield 15, 3, .null, 2, 1, 0, [])), (36, (.ireturn, 1, .null, 0, 0, 0, [])), (37, (.aload_n 0, 1, .null, 0, 0, 0, [])), (38, (.getfield 19, 3, .null, 2, 2, 0, [])), (41, (.ireturn, 1, .null, 0, 0, 0, [])), (42, (.aload_n 0, 1, .null, 0, 0, 0, [])), (43, (.getfield 22, 3, .null, 2, 3, 0, [])), (46, (.ireturn, 1, .null, 0, 0, 0, [])), (47, (.aload_n 0, 1, .null, 0, 0, 0, [])), (48, (.getfield 25, 3, .null, 2, 4, 0, [])), (51, (.ireturn, 1, .null, 0, 0, 0, [])), (52, (.aload_n 0, 1, .null, 0, 0, 0, [])), (53, (.getfield 15, 3, .null, 2, 1, 0, [])), (56, (.iconst 1, 1, .int 1, 0, 0, 0, [])), (57, (.if_icmp .ne 10, 3, .null, 67, 0, 0, [])), (60, (.aload_n 0, 1, .null, 0, 0, 0, [])), (61, (.getfield 28, 3, .null, 2, 5, 0, [])), (64, (.goto 5, 3, .null, 69, 0, 0, [])), (67, (.bipush (-9), 2, .int (-9), 0, 0, 0, [])), (69, (.ireturn, 1, .null, 0, 0, 0, []))]
def km_X2_fact : dx_K := ((yX2_fact, cX2_fact, 2, some .int), kr_X2_fact, kp_X2)
def kr_X3_log : List (Nat × dx_I) := [(0, (.iload_n 1, 1, .null, 0, 0, 0, [])), (1, (.iconst 1, 1, .int 1, 0, 0, 0, [])), (2, (.bipush 12, 2, .int 12, 0, 0, 0, [])), (4, (.invokestatic 50, 3, .null, 2, 64, 3, [])), (7, (.ifCond .eq 13, 3, .null, 20, 0, 0, [])), (10, (.iload_n 2, 1, .null, 0, 0, 0, [])), (11, (.iconst 1, 1, .int 1, 0, 0, 0, [])), (12, (.bipush 12, 2, .int 12, 0, 0, 0, [])), (14, (.invokestatic 50, 3, .null, 2, 64, 3, [])), (17, (.ifCond .ne 5, 3, .null, 22, 0, 0, [])), (20, (.iconst (-1), 1, .int (-1), 0, 0, 0, [])), (21, (.ireturn, 1, .null, 0, 0, 0, [])), (22, (.aload_n 0, 1, .null, 0, 0, 0, [])), (23, (.getfield 12, 3, .null, 3, 0, 0, [])), (26, (.iload_n 1, 1, .null, 0, 0, 0, [])), (27, (.iload_n 2, 1, .null, 0, 0, 0, [])), (28, (.invokevirtual 54, 3, .ref 0, 1, 0, 2, [])), (31, (.aload_n 0, 1, .null, 0, 0, 0, [])), (32, (.iconst 0, 1, .int 0, 0, 0, 0, [])), (33, (.putfield 58, 3, .null, 3, 7, 0, [])), (36, (.iload_n 1, 1, .null, 0, 0, 0, [])), (37, (.iload_n 2, 1, .null, 0, 0, 0, [])), (38, (.imul, 1, .null, 0, 0, 0, [])), (39, (.ireturn, 1, .null, 0, 0, 0, []))]
def km_X3_log : dx_K := ((yX3_log, cX3_log, 3, some .int), kr_X3_log, kp_X3)
def kr_X3_square : List (Nat × dx_I) := [(0, (.aload_n 0, 1, .null, 0, 0, 0, [])), (1, (.getfield 12, 3, .null, 3, 0, 0, [])), (4, (.iload_n 1, 1, .null, 0, 0, 0, [])), (5, (.iload_n 2, 1, .null, 0, 0, 0, [])), (6, (.invokevirtual 61, 3, .ref 0, 1, 1, 2, [])), (9, (.ifCond .eq 19, 3, .null, 28, 0, 0, [])), (12, (.iload_n 3, 1, .null, 0, 0, 0, [])), (13, (.bipush (-9), 2, .int (-9), 0, 0, 0, [])), (15, (.if_icmp .eq 15, 3, .null, 30, 0, 0, [])), (18, (.iload_n 3, 1, .null, 0, 0, 0, [])), (19, (.iconst 0, 1, .int 0, 0, 0, 0, [])), (20, (.bipush 20, 2, .int 20, 0, 0, 0, [])), (22, (.invokestatic 50, 3, .null, 2, 64, 3, [])), (25, (.ifCond .ne 5, 3, .null, 30, 0, 0, [])), (28, (.iconst (-1), 1, .int (-1), 0, 0, 0, [])), (29, (.ireturn, 1, .null, 0, 0, 0, [])), (30, (.aload_n 0, 1, .null, 0, 0, 0, [])), (31, (.getfield 12, 3, .null, 3, 0, 0, [])), (34, (.iload_n 1, 1, .null, 0, 0, 0, [])), (35, (.iload_n 2, 1, .null, 0, 0, 0, [])), (36, (.invokevirtual 65, 3, .ref 0, 1, 2, 2, [])), (39, (.istore 4, 2, .null, 0, 0, 0, [])), (41, (.aload_n 0, 1, .null, 0, 0, 0, [])), (42, (.getfield 12, 3, .null, 3, 0, 0, [])), (45, (.iload_n 1, 1, .null, 0, 0, 0, [])), (46, (.iload_n 2, 1, .null, 0, 0, 0, [])), (47, (.iload_n 3, 1, .null, 0, 0, 0, [])), (48, (.invokevirtual 69, 3, .ref 0, 1, 3, 3, [])), (51, (.iload 4, 2, .null, 0, 0, 0, [])), (53, (.ireturn, 1, .null, 0, 0, 0, []))]
def km_X3_square : dx_K := ((yX3_square, cX3_square, 5, some .int), kr_X3_square, kp_X3)
def kr_X3_at : List (Nat × dx_I) := [(0, (.aload_n 0, 1, .null, 0, 0, 0, [])), (1, (.getfield 12, 3, .null, 3, 0, 0, [])), (4, (.iload_n 1, 1, .null, 0, 0, 0, [])), (5, (.iload_n 2, 1, .null, 0, 0, 0, [])), (6, (.invokevirtual 61, 3, .ref 0, 1, 1, 2, [])), (9, (.ifCond .eq 15, 3, .null, 24, 0, 0, [])), (12, (.aload_n 0, 1, .null, 0, 0, 0, [])), (13, (.getfield 12, 3, .null, 3, 0, 0, [])), (16, (.iload_n 1, 1, .null, 0, 0, 0, [])), (17, (.iload_n 2, 1, .null, 0, 0, 0, [])), (18, (.invokevirtual 65, 3, .ref 0, 1, 2, 2, [])), (21, (.goto 4, 3, .null, 25, 0, 0, [])), (24, (.iconst (-1), 1, .int (-1), 0, 0, 0, [])), (25, (.ireturn, 1, .null, 0, 0, 0, []))]
def km_X3_at : dx_K := ((yX3_at, cX3_at, 3, some .int), kr_X3_at, kp_X3)
def kr_X3_water : List (Nat × dx_I) := [(0, (.iload_n 1, 1, .null, 0, 0, 0, [])), (1, (.iconst 1, 1, .int 1, 0, 0, 0, [])), (2, (.bipush 20, 2, .int 20, 0, 0, 0, [])), (4, (.invokestatic 50, 3, .null, 2, 64, 3, [])), (7, (.ifCond .ne 5, 3, .null, 12, 0, 0, [])), (10, (.iconst (-1), 1, .int (-1), 0, 0, 0, [])), (11, (.ireturn, 1, .null, 0, 0, 0, [])), (12, (.aload_n 0, 1, .null, 0, 0, 0, [])), (13, (.getfield 42, 3, .null, 3, 6, 0, [])), (16, (.istore_n 2, 1, .null, 0, 0, 0, [])), (17, (.aload_n 0, 1, .null, 0, 0, 0, [])), (18, (.iload_n 1, 1, .null, 0, 0, 0, [])), (19, (.putfield 42, 3, .null, 3, 6, 0, [])), (22, (.iload_n 2, 1, .null, 0, 0, 0, [])), (23, (.ireturn, 1, .null, 0, 0, 0, []))]
def km_X3_water : dx_K := ((yX3_water, cX3_water, 3, some .int), kr_X3_water, kp_X3)
def kr_X3_sheet : List (Nat × dx_I) := [(0, (.iload_n 1, 1, .null, 0, 0, 0, [])), (1, (.invokestatic 73, 3, .null, 2, 66, 1, [])), (4, (.ifCond .eq 9, 3, .null, 13, 0, 0, [])), (7, (.iload_n 2, 1, .null, 0, 0, 0, [])), (8, (.bipush 12, 2, .int 12, 0, 0, 0, [])), (10, (.if_icmp .le 5, 3, .null, 15, 0, 0, [])), (13, (.iconst (-1), 1, .int (-1), 0, 0, 0, [])), (14, (.ireturn, 1, .null, 0, 0, 0, [])), (15, (.iload_n 2, 1, .null, 0, 0, 0, [])), (16, (.ifCond .ge 9, 3, .null, 25, 0, 0, [])), (19, (.aload_n 0, 1, .null, 0, 0, 0, [])), (20, (.iconst 5, 1, .int 5, 0, 0, 0, [])), (21, (.invokevirtual 77, 3, .ref 3, 1, 70, 1, [])), (24, (.ireturn, 1, .null, 0, 0, 0, [])), (25, (.iconst 0, 1, .int 0, 0, 0, 0, [])), (26, (.istore_n 3, 1, .null, 0, 0, 0, [])), (27, (.iload_n 3, 1, .null, 0, 0, 0, [])), (28, (.iload_n 2, 1, .null, 0, 0, 0, [])), (29, (.if_icmp .ge 18, 3, .null, 47, 0, 0, [])), (32, (.aload_n 0, 1, .null, 0, 0, 0, [])), (33, (.getfield 32, 3, .null, 3, 3, 0, [])), (36, (.iload_n 1, 1, .null, 0, 0, 0, [])), (37, (.aaload, 1, .null, 0, 0, 0, [])), (38, (.iload_n 3, 1, .null, 0, 0, 0, [])), (39, (.iconst 0, 1, .int 0, 0, 0, 0, [])), (40, (.bastore, 1, .null, 0, 0, 0, [])), (41, (.iinc 3 1, 3, .int 1, 0, 0, 0, [])), (44, (.goto (-17), 3, .null, 27, 0, 0, [])), (47, (.aload_n 0, 1, .null, 0, 0, 0, [])), (48, (.getfield 35, 3, .null, 3, 4, 0, [])), (51, (.iload_n 1, 1, .null, 0, 0, 0, [])), (52, (.iload_n 2, 1, .null, 0, 0, 0, [])), (53, (.iastore, 1, .null, 0, 0, 0, [])), (54, (.iload_n 2, 1, .null, 0, 0, 0, [])), (55, (.ireturn, 1, .null, 0, 0, 0, []))]
def km_X3_sheet : dx_K := ((yX3_sheet, cX3_sheet, 4, some .int), kr_X3_sheet, kp_X3)
def kr_X3_lay : List (Nat × dx_I) := [(0, (.iload_n 1, 1, .null, 0, 0, 0, [])), (1, (.invokestatic 73, 3, .null, 2, 66, 1, [])), (4, (.ifCond .ne 5, 3, .null, 9, 0, 0, [])), (7, (.iconst (-1), 1, .int (-1), 0, 0, 0, [])), (8, (.ireturn, 1, .null, 0, 0, 0, [])), (9, (.aload_n 0, 1, .null, 0, 0, 0, [])), (10, (.getfield 35, 3, .null, 3, 4, 0, [])), (13, (.iload_n 1, 1, .null, 0, 0, 0, [])), (14, (.iaload, 1, .null, 0, 0, 0, [])), (15, (.iconst (-1), 1, .int (-1), 0, 0, 0, [])), (16, (.if_icmp .ne 9, 3, .null, 25, 0, 0, [])), (19, (.aload_n 0, 1, .null, 0, 0, 0, [])), (20, (.iconst 1, 1, .int 1, 0, 0, 0, [])), (21, (.invokevirtual 77, 3, .ref 3, 1, 70, 1, [])), (24, (.ireturn, 1, .null, 0, 0, 0, [])), (25, (.iload_n 2, 1, .null, 0, 0, 0, [])), (26, (.ifCond .lt 13, 3, .null, 39, 0, 0, [])), (29, (.iload_n 2, 1, .null, 0, 0, 0, [])), (30, (.aload_n 0, 1, .null, 0, 0, 0, [])), (31, (.getfield 35, 3, .null, 3, 4, 0, [])), (34, (.iload_n 1, 1, .null, 0, 0, 0, [])), (35, (.iaload, 1, .null, 0, 0, 0, [])), (36, (.if_icmp .lt 9, 3, .null, 45, 0, 0, [])), (39, (.aload_n 0, 1, .null, 0, 0, 0, [])), (40, (.iconst 2, 1, .int 2, 0, 0, 0, [])), (41, (.invokevirtual 77, 3, .ref 3, 1, 70, 1, [])), (44, (.ireturn, 1, .null, 0, 0, 0, [])), (45, (.aload_n 0, 1, .null, 0, 0, 0, [])), (46, (.getfield 32, 3, .null, 3, 3, 0, [])), (49, (.iload_n 1, 1, .null, 0, 0, 0, [])), (50, (.aaload, 1, .null, 0, 0, 0, [])), (51, (.iload_n 2, 1, .null, 0, 0, 0, [])), (52, (.baload, 1, .null, 0, 0, 0, [])), (53, (.istore 4, 2, .null, 0, 0, 0, [])), (55, (.aload_n 0, 1, .null, 0, 0, 0, [])), (56, (.getfield 32, 3, .null, 3, 3, 0, [])), (59, (.iload_n 1, 1, .null, 0, 0, 0, [])), (60, (.aaload, 1, .null, 0, 0, 0, [])), (61, (.iload_n 2, 1, .null, 0, 0, 0, [])), (62, (.iload_n 3, 1, .null, 0, 0, 0, [])), (63, (.i2b, 1, .null, 0, 0, 0, [])), (64, (.bastore, 1, .null, 0, 0, 0, [])), (65, (.iload 4, 2, .null, 0, 0, 0, [])), (67, (.sipush 1000, 3, .int 1000, 0, 0, 0, [])), (70, (.iadd, 1, .null, 0, 0, 0, [])), (71, (.ireturn, 1, .null, 0, 0, 0, []))]
def km_X3_lay : dx_K := ((yX3_lay, cX3_lay, 5, some .int), kr_X3_lay, kp_X3)
def kr_X3_tear : List (Nat × dx_I) := [(0, (.iload_n 1, 1, .null, 0, 0, 0, [])), (1, (.invokestatic 73, 3, .null, 2, 66, 1, [])), (4, (.ifCond .ne 5, 3, .null, 9, 0, 0, [])), (7, (.iconst (-1), 1, .int (-1), 0, 0, 0, [])), (8, (.ireturn, 1, .null, 0, 0, 0, [])), (9, (.aload_n 0, 1, .null, 0, 0, 0, [])), (10, (.getfield 35, 3, .null, 3, 4, 0, [])), (13, (.iload_n 1, 1, .null, 0, 0, 0, [])), (14, (.iaload, 1, .null, 0, 0, 0, [])), (15, (.iconst (-1), 1, .int (-1), 0, 0, 0, [])), (16, (.if_icmp .ne 9, 3, .null, 25, 0, 0, [])), (19, (.aload_n 0, 1, .null, 0, 0, 0, [])), (20, (.iconst 1, 1, .int 1, 0, 0, 0, [])), (21, (.invokevirtual 77, 3, .ref 3, 1, 70, 1, [])), (24, (.ireturn, 1, .null, 0, 0, 0, [])), (25, (.aload_n 0, 1, .null, 0, 0, 0, [])), (26, (.getfield 35, 3, .null, 3, 4, 0, [])), (29, (.iload_n 1, 1, .null, 0, 0, 0, [])), (30, (.iconst (-1), 1, .int (-1), 0, 0, 0, [])), (31, (.iastore, 1, .null, 0, 0, 0, [])), (32, (.iconst 1, 1, .int 1, 0, 0, 0, [])), (33, (.ireturn, 1, .null, 0, 0, 0, []))]
def km_X3_tear : dx_K := ((yX3_tear, cX3_tear, 2, some .int), kr_X3_tear, kp_X3)
def kr_X3_copy : List (Nat × dx_I) := [(0, (.iload_n 1, 1, .null, 0, 0, 0, [])), (1, (.invokestatic 73, 3, .null, 2, 66, 1, [])), (4, (.ifCond .eq 10, 3, .null, 14, 0, 0, [])), (7, (.iload_n 3, 1, .null, 0, 0, 0, [])), (8, (.invokestatic 73, 3, .null, 2, 66, 1, [])), (11, (.ifCond .ne 5, 3, .null, 16, 0, 0, [])), (14, (.iconst (-1), 1, .int (-1), 0, 0, 0, [])), (15, (.ireturn, 1, .null, 0, 0, 0, [])), (16, (.aload_n 0, 1, .null, 0, 0, 0, [])), (17, (.getfield 35, 3, .null, 3, 4, 0, [])), (20, (.iload_n 1, 1, .null, 0, 0, 0, [])), (21, (.iaload, 1, .null, 0, 0, 0, [])), (22, (.iconst (-1), 1, .int (-1), 0, 0, 0, [])), (23, (.if_icmp .eq 13, 3, .null, 36, 0, 0, [])), (26, (.aload_n 0, 1, .null, 0, 0, 0, [])), (27, (.getfield 35, 3, .null, 3, 4, 0, [])), (30, (.iload_n 3, 1, .null, 0, 0, 0, [])), (31, (.iaload, 1, .null, 0, 0, 0, [])), (32, (.iconst (-1), 1, .int (-1), 0, 0, 0, [])), (33, (.if_icmp .ne 9, 3, .null, 42, 0, 0, [])), (36, (.aload_n 0, 1, .null, 0, 0, 0, [])), (37, (.iconst 1, 1, .int 1, 0, 0, 0, [])), (38, (.invokevirtual 77, 3, .ref 3, 1, 70, 1, [])), (41, (.ireturn, 1, .null, 0, 0, 0, [])), (42, (.aload_n 0, 1, .null, 0, 0, 0, [])), (43, (.iload_n 1, 1, .null, 0, 0, 0, [])), (44, (.iload_n 2, 1, .null, 0, 0, 0, [])), (45, (.iload 5, 2, .null, 0, 0, 0, [])), (47, (.invokevirtual 81, 3, .ref 3, 1, 69, 3, [])), (50, (.ifCond .eq 15, 3, .null, 65, 0, 0, [])), (53, (.aload_n 0, 1, .null, 0, 0, 0, [])), (54, (.iload_n 3, 1, .null, 0, 0, 0, [])), (55, (.iload 4, 2, .null, 0, 0, 0, [])), (57, (.iload 5, 2, .null, 0, 0, 0, [])), (59, (.invokevirtual 81, 3, .ref 3, 1, 69, 3, [])), (62, (.ifCond .ne 9, 3, .null, 71, 0, 0, [])), (65, (.aload_n 0, 1, .null, 0, 0, 0, [])), (66, (.iconst 2, 1, .int 2, 0, 0, 0, [])), (67, (.invokevirtual 77, 3, .ref 3, 1, 70, 1, [])), (70, (.ireturn, 1, .null, 0, 0, 0, [])), (71, (.aload_n 0, 1, .null, 0, 0, 0, [])), (72, (.getfield 32, 3, .null, 3, 3, 0, [])), (75, (.iload_n 1, 1, .null, 0, 0, 0, [])), (76, (.aaload, 1, .null, 0, 0, 0, [])), (77, (.iload_n 2, 1, .null, 0, 0, 0, [])), (78, (.aload_n 0, 1, .null, 0, 0, 0, [])), (79, (.getfield 32, 3, .null, 3, 3, 0, [])), (82, (.iload_n 3, 1, .null, 0, 0, 0, [])), (83, (.aaload, 1, .null, 0, 0, 0, [])), (84, (.iload 4, 2, .null, 0, 0, 0, [])), (86, (.iload 5, 2, .null, 0, 0, 0, [])), (88, (.invokestatic 84, 3, .null, 4, 0, 0, [])), (91, (.iconst 1, 1, .int 1, 0, 0, 0, [])), (92, (.ireturn, 1, .null, 0, 0, 0, []))]
def km_X3_copy : dx_K := ((yX3_copy, cX3_copy, 6, some .int), kr_X3_copy, kp_X3)
def kr_X3_fill : List (Nat × dx_I) := [(0, (.aload_n 0, 1, .null, 0, 0, 0, [])), (1, (.getfield 12, 3, .null, 3, 0, 0, [])), (4, (.iconst 0, 1, .int 0, 0, 0, 0, [])), (5, (.iload_n 1, 1, .null, 0, 0, 0, [])), (6, (.invokevirtual 61, 3, .ref 0, 1, 1, 2, [])), (9, (.ifCond .eq 10, 3, .null, 19, 0, 0, [])), (12, (.iload_n 2, 1, .null, 0, 0, 0, [])), (13, (.invokestatic 73, 3, .null, 2, 66, 1, [])), (16, (.ifCond .ne 5, 3, .null, 21, 0, 0, [])), (19, (.iconst (-1), 1, .int (-1), 0, 0, 0, [])), (20, (.ireturn, 1, .null, 0, 0, 0, [])), (21, (.aload_n 0, 1, .null, 0, 0, 0, [])), (22, (.getfield 35, 3, .null, 3, 4, 0, [])), (25, (.iload_n 2, 1, .null, 0, 0, 0, [])), (26, (.iaload, 1, .null, 0, 0, 0, [])), (27, (.iconst (-1), 1, .int (-1), 0, 0, 0, [])), (28, (.if_icmp .ne 9, 3, .null, 37, 0, 0, [])), (31, (.aload_n 0, 1, .null, 0, 0, 0, [])), (32, (.iconst 1, 1, .int 1, 0, 0, 0, [])), (33, (.invokevirtual 77, 3, .ref 3, 1, 70, 1, [])), (36, (.ireturn, 1, .null, 0, 0, 0, [])), (37, (.aload_n 0, 1, .null, 0, 0, 0, [])), (38, (.getfield 35, 3, .null, 3, 4, 0, [])), (41, (.iload_n 2, 1, .null, 0, 0, 0, [])), (42, (.iaload, 1, .null, 0, 0, 0, [])), (43, (.aload_n 0, 1, .null, 0, 0, 0, [])), (44, (.getfield 12, 3, .null, 3, 0, 0, [])), (47, (.getfield 90, 3, .null, 0, 1, 0, [])), (50, (.if_icmp .ge 9, 3, .null, 59, 0, 0, [])), (53, (.aload_n 0, 1, .null, 0, 0, 0, [])), (54, (.iconst 2, 1, .int 2, 0, 0, 0, [])), (55, (.invokevirtual 77, 3, .ref 3, 1, 70, 1, [])), (58, (.ireturn, 1, .null, 0, 0, 0, [])), (59, (.iconst 0, 1, .int 0, 0, 0, 0, [])), (60, (.istore_n 3, 1, .null, 0, 0, 0, [])), (61, (.iconst 0, 1, .int 0, 0, 0, 0, [])), (62, (.istore 4, 2, .null, 0, 0, 0, [])), (64, (.iload 4, 2, .null, 0, 0, 0, [])), (66, (.aload_n 0, 1, .null, 0, 0, 0, [])), (67, (.getfield 12, 3, .null, 3, 0, 0, [])), (70, (.getfield 90, 3, .null, 0, 1, 0, [])), (73, (.if_icmp .ge 60, 3, .null, 133, 0, 0, [])), (76, (.aload_n 0, 1, .null, 0, 0, 0, [])), (77, (.getfield 32, 3, .null, 3, 3, 0, [])), (80, (.iload_n 2, 1, .null, 0, 0, 0, [])), (81, (.aaload, 1, .null, 0, 0, 0, [])), (82, (.iload 4, 2, .null, 0, 0, 0, [])), (84, (.baload, 1, .null, 0, 0, 0, [])), (85, (.istore 5, 2, .null, 0, 0, 0, [])), (87, (.aload_n 0, 1, .null, 0, 0, 0, [])), (88, (.getfield 12, 3, .null, 3, 0, 0, [])), (91, (.iload 4, 2, .null, 0, 0, 0, [])), (93, (.iload_n 1, 1, .null, 0, 0, 0, [])), (94, (.iload 5, 2, .null, 0, 0, 0, [])), (96, (.ifCond .ge 8, 3, .null, 104, 0, 0, [])), (99, (.bipush (-9), 2, .int (-9), 0, 0, 0, [])), (101, (.goto 10, 3, .null, 111, 0, 0, [])), (104, (.iload 5, 2, .null, 0, 0, 0, [])), (106, (.bipush 20, 2, .int 20, 0, 0, 0, [])), (108, (.invokestatic 93, 3, .null, 8, 0, 0, [])), (111, (.invokevirtual 69, 3, .ref 0, 1, 3, 3, [])), (114, (.iload_n 3, 1, .null, 0, 0, 0, [])), (115, (.iload 5, 2, .null, 0, 0, 0, [])), (117, (.ifCond .ge 7, 3, .null, 124, 0, 0, [])), (120, (.iconst 0, 1, .int 0, 0, 0, 0, [])), (121, (.goto 4, 3, .null, 125, 0, 0, [])), (124, (.iconst 1, 1, .int 1, 0, 0, 0, [])), (125, (.iadd, 1, .null, 0, 0, 0, [])), (126, (.istore_n 3, 1, .null, 0, 0, 0, [])), (127, (.iinc 4 1, 3, .int 1, 0, 0, 0, [])), (130, (.goto (-66), 3, .null, 64, 0, 0, [])), (133, (.iload_n 3, 1, .null, 0, 0, 0, [])), (134, (.ireturn, 1, .null, 0, 0, 0, []))]
def km_X3_fill : dx_K := ((yX3_fill, cX3_fill, 6, some .int), kr_X3_fill, kp_X3)
def kr_X3_load : List (Nat × dx_I) := [(0, (.iload_n 1, 1, .null, 0, 0, 0, [])), (1, (.iconst 0, 1, .int 0, 0, 0, 0, [])), (2, (.iconst 2, 1, .int 2, 0, 0, 0, [])), (3, (.invokestatic 50, 3, .null, 2, 64, 3, [])), (6, (.ifCond .eq 23, 3, .null, 29, 0, 0, [])), (9, (.iload_n 2, 1, .null, 0, 0, 0, [])), (10, (.iload_n 3, 1, .null, 0, 0, 0, [])), (11, (.invokestatic 98, 3, .null, 2, 67, 2, [])), (14, (.ifCond .eq 15, 3, .null, 29, 0, 0, [])), (17, (.iload 4, 2, .null, 0, 0, 0, [])), (19, (.iconst 0, 1, .int 0, 0, 0, 0, [])), (20, (.sipush 200, 3, .int 200, 0, 0, 0, [])), (23, (.invokestatic 50, 3, .null, 2, 64, 3, [])), (26, (.ifCond .ne 5, 3, .null, 31, 0, 0, [])), (29, (.iconst (-1), 1, .int (-1), 0, 0, 0, [])), (30, (.ireturn, 1, .null, 0, 0, 0, [])), (31, (.aload_n 0, 1, .null, 0, 0, 0, [])), (32, (.getfield 58, 3, .null, 3, 7, 0, [])), (35, (.bipush 10, 2, .int 10, 0, 0, 0, [])), (37, (.if_icmp .lt 6, 3, .null, 43, 0, 0, [])), (40, (.bipush (-2), 2, .int (-2), 0, 0, 0, [])), (42, (.ireturn, 1, .null, 0, 0, 0, [])), (43, (.aload_n 0, 1, .null, 0, 0, 0, [])), (44, (.getfield 25, 3, .null, 3, 2, 0, [])), (47, (.aload_n 0, 1, .null, 0, 0, 0, [])), (48, (.getfield 58, 3, .null, 3, 7, 0, [])), (51, (.aaload, 1, .null, 0, 0, 0, [])), (52, (.iload_n 1, 1, .null, 0, 0, 0, [])), (53, (.iload_n 2, 1, .null, 0, 0, 0, [])), (54, (.iload_n 3, 1, .null, 0, 0, 0, [])), (55, (.iload 4, 2, .null, 0, 0, 0, [])), (57, (.invokevirtual 101, 3, .ref 2, 1, 24, 4, [])), (60, (.aload_n 0, 1, .null, 0, 0, 0, [])), (61, (.dup, 1, .null, 0, 0, 0, [])), (62, (.getfield 58, 3, .null, 3, 7, 0, [])), (65, (.iconst 1, 1, .int 1, 0, 0, 0, [])), (66, (.iadd, 1, .null, 0, 0, 0, [])), (67, (.putfield 58, 3, .null, 3, 7, 0, [])), (70, (.aload_n 0, 1, .null, 0, 0, 0, [])), (71, (.getfield 58, 3, .null, 3, 7, 0, [])), (74, (.iconst 1, 1, .int 1, 0, 0, 0, [])), (75, (.isub, 1, .null, 0, 0, 0, [])), (76, (.ireturn, 1, .null, 0, 0, 0, []))]
def km_X3_load : dx_K := ((yX3_load, cX3_load, 5, some .int), kr_X3_load, kp_X3)
def kr_X3_move : List (Nat × dx_I) := [(0, (.aload_n 0, 1, .null, 0, 0, 0, [])), (1, (.iload_n 1, 1, .null, 0, 0, 0, [])), (2, (.invokevirtual 104, 3, .ref 3, 1, 68, 1, [])), (5, (.ifCond .eq 11, 3, .null, 16, 0, 0, [])), (8, (.iload_n 2, 1, .null, 0, 0, 0, [])), (9, (.iload_n 3, 1, .null, 0, 0, 0, [])), (10, (.invokestatic 98, 3, .null, 2, 67, 2, [])), (13, (.ifCond .ne 5, 3, .null, 18, 0, 0, [])), (16, (.iconst (-1), 1, .int (-1), 0, 0, 0, [])), (17, (.ireturn, 1, .null, 0, 0, 0, [])), (18, (.aload_n 0, 1, .null, 0, 0, 0, [])), (19, (.getfield 25, 3, .null, 3, 2, 0, [])), (22, (.iload_n 1, 1, .null, 0, 0, 0, [])), (23, (.aaload, 1, .null, 0, 0, 0, [])), (24, (.astore 4, 2, .null, 0, 0, 0, [])), (26, (.aload 4, 2, .null, 0, 0, 0, [])), (28, (.getfield 107, 3, .null, 2, 0, 0, [])), (31, (.ifCond .ne 9, 3, .null, 40, 0, 0, [])), (34, (.aload_n 0, 1, .null, 0, 0, 0, [])), (35, (.iconst 1, 1, .int 1, 0, 0, 0, [])), (36, (.invokevirtual 77, 3, .ref 3, 1, 70, 1, [])), (39, (.ireturn, 1, .null, 0, 0, 0, [])), (40, (.aload 4, 2, .null, 0, 0, 0, [])), (42, (.getfield 111, 3, .null, 2, 1, 0, [])), (45, (.iconst 2, 1, .int 2, 0, 0, 0, [])), (46, (.if_icmp .ne 9, 3, .null, 55, 0, 0, [])), (49, (.aload_n 0, 1, .null, 0, 0, 0, [])), (50, (.iconst 3, 1, .int 3, 0, 0, 0, [])), (51, (.invokevirtual 77, 3, .ref 3, 1, 70, 1, [])), (54, (.ireturn, 1, .null, 0, 0, 0, [])), (55, (.aload 4, 2, .null, 0, 0, 0, [])), (57, (.iload_n 2, 1, .null, 0, 0, 0, [])), (58, (.putfield 114, 3, .null, 2, 2, 0, [])), (61, (.aload 4, 2, .null, 0, 0, 0, [])), (63, (.iload_n 3, 1, .null, 0, 0, 0, [])), (64, (.putfield 117, 3, .null, 2, 3, 0, [])), (67, (.iconst 1, 1, .int 1, 0, 0, 0, [])), (68, (.ireturn, 1, .null, 0, 0, 0, []))]
def km_X3_move : dx_K := ((yX3_move, cX3_move, 5, some .int), kr_X3_move, kp_X3)
def kr_X3_rope : List (Nat × dx_I) := [(0, (.aload_n 0, 1, .null, 0, 0, 0, [])), (1, (.iload_n 1, 1, .null, 0, 0, 0, [])), (2, (.invokevirtual 104, 3, .ref 3, 1, 68, 1, [])), (5, (.ifCond .eq 13, 3, .null, 18, 0, 0, [])), (8, (.iload_n 2, 1, .null, 0, 0, 0, [])), (9, (.iconst 0, 1, .int 0, 0, 0, 0, [])), (10, (.bipush 20, 2, .int 20, 0, 0, 0, [])), (12, (.invokestatic 50, 3, .null, 2, 64, 3, [])), (15, (.ifCond .ne 5, 3, .null, 20, 0, 0, [])), (18, (.iconst (-1), 1, .int (-1), 0, 0, 0, [])), (19, (.ireturn, 1, .null, 0, 0, 0, [])), (20, (.aload_n 0, 1, .null, 0, 0, 0, [])), (21, (.getfield 25, 3, .null, 3, 2, 0, [])), (24, (.iload_n 1, 1, .null, 0, 0, 0, [])), (25, (.aaload, 1, .null, 0, 0, 0, [])), (26, (.astore_n 3, 1, .null, 0, 0, 0, [])), (27, (.aload_n 3, 1, .null, 0, 0, 0, [])), (28, (.getfield 107, 3, .null, 2, 0, 0, [])), (31, (.ifCond .ne 9, 3, .null, 40, 0, 0, [])), (34, (.aload_n 0, 1, .null, 0, 0, 0, [])), (35, (.iconst 1, 1, .int 1, 0, 0, 0, [])), (36, (.invokevirtual 77, 3, .ref 3, 1, 70, 1, [])), (39, (.ireturn, 1, .null, 0, 0, 0, [])), (40, (.aload_n 3, 1, .null, 0, 0, 0, [])), (41, (.getfield 111, 3, .null, 2, 1, 0, [])), (44, (.iconst 1, 1, .int 1, 0, 0, 0, [])), (45, (.if_icmp .eq 9, 3, .null, 54, 0, 0, [])), (48, (.aload_n 0, 1, .null, 0, 0, 0, [])), (49, (.iconst 3, 1, .int 3, 0, 0, 0, [])), (50, (.invokevirtual 77, 3, .ref 3, 1, 70, 1, [])), (53, (.ireturn, 1, .null, 0, 0, 0, [])), (54, (.aload_n 3, 1, .null, 0, 0, 0, [])), (55, (.getfield 120, 3, .null, 2, 5, 0, [])), (58, (.istore 4, 2, .null, 0, 0, 0, [])), (60, (.aload_n 3, 1, .null, 0, 0, 0, [])), (61, (.iload_n 2, 1, .null, 0, 0, 0, [])), (62, (.putfield 120, 3, .null, 2, 5, 0, [])), (65, (.iload 4, 2, .null, 0, 0, 0, [])), (67, (.ireturn, 1, .null, 0, 0, 0, []))]
def km_X3_rope : dx_K := ((yX3_rope, cX3_rope, 5, some .int), kr_X3_rope, kp_X3)
def kr_X3_drop : List (Nat × dx_I) := [(0, (.aload_n 0, 1, .null, 0, 0, 0, [])), (1, (.iload_n 1, 1, .null, 0, 0, 0, [])), (2, (.invokevirtual 104, 3, .ref 3, 1, 68, 1, [])), (5, (.ifCond .ne 5, 3, .null, 10, 0, 0, [])), (8, (.iconst (-1), 1, .int (-1), 0, 0, 0, [])), (9, (.ireturn, 1, .null, 0, 0, 0, [])), (10, (.aload_n 0, 1, .null, 0, 0, 0, [])), (11, (.getfield 25, 3, .null, 3, 2, 0, [])), (14, (.iload_n 1, 1, .null, 0, 0, 0, [])), (15, (.aaload, 1, .null, 0, 0, 0, [])), (16, (.getfield 107, 3, .null, 2, 0, 0, [])), (19, (.ifCond .ne 9, 3, .null, 28, 0, 0, [])), (22, (.aload_n 0, 1, .null, 0, 0, 0, [])), (23, (.iconst 1, 1, .int 1, 0, 0, 0, [])), (24, (.invokevirtual 77, 3, .ref 3, 1, 70, 1, [])), (27, (.ireturn, 1, .null, 0, 0, 0, [])), (28, (.aload_n 0, 1, .null, 0, 0, 0, [])), (29, (.getfield 25, 3, .null, 3, 2, 0, [])), (32, (.iload_n 1, 1, .null, 0, 0, 0, [])), (33, (.aaload, 1, .null, 0, 0, 0, [])), (34, (.iconst 0, 1, .int 0, 0, 0, 0, [])), (35, (.putfield 107, 3, .null, 2, 0, 0, [])), (38, (.iconst 1, 1, .int 1, 0, 0, 0, [])), (39, (.ireturn, 1, .null, 0, 0, 0, []))]
def km_X3_drop : dx_K := ((yX3_drop, cX3_drop, 2, some .int), kr_X3_drop, kp_X3)
def kr_X3_told : List (Nat × dx_I) := [(0, (.aload_n 0, 1, .null, 0, 0, 0, [])), (1, (.iload_n 1, 1, .null, 0, 0, 0, [])), (2, (.invokevirtual 104, 3, .ref 3, 1, 68, 1, [])), (5, (.ifCond .eq 12, 3, .null, 17, 0, 0, [])), (8, (.iload_n 2, 1, .null, 0, 0, 0, [])), (9, (.iconst 0, 1, .int 0, 0, 0, 0, [])), (10, (.iconst 4, 1, .int 4, 0, 0, 0, [])), (11, (.invokestatic 50, 3, .null, 2, 64, 3, [])), (14, (.ifCond .ne 5, 3, .null, 19, 0, 0, [])), (17, (.iconst (-1), 1, .int (-1), 0, 0, 0, [])), (18, (.ireturn, 1, .null, 0, 0, 0, [])), (19, (.aload_n 0, 1, .null, 0, 0, 0, [])), (20, (.getfield 25, 3, .null, 3, 2, 0, [])), (23, (.iload_n 1, 1, .null, 0, 0, 0, [])), (24, (.aaload, 1, .null, 0, 0, 0, [])), (25, (.getfield 107, 3, .null, 2, 0, 0, [])), (28, (.ifCond .eq 16, 3, .null, 44, 0, 0, [])), (31, (.aload_n 0, 1, .null, 0, 0, 0, [])), (32, (.getfield 25, 3, .null, 3, 2, 0, [])), (35, (.iload_n 1, 1, .null, 0, 0, 0, [])), (36, (.aaload, 1, .null, 0, 0, 0, [])), (37, (.iload_n 2, 1, .null, 0, 0, 0, [])), (38, (.invokevirtual 123, 3, .ref 2, 1, 25, 1, [])), (41, (.goto 8, 3, .null, 49, 0, 0, [])), (44, (.aload_n 0, 1, .null, 0, 0, 0, [])), (45, (.iconst 1, 1, .int 1, 0, 0, 0, [])), (46, (.invokevirtual 77, 3, .ref 3, 1, 70, 1, [])), (49, (.ireturn, 1, .null, 0, 0, 0, []))]
def km_X3_told : dx_K := ((yX3_told, cX3_told, 3, some .int), kr_X3_told, kp_X3)
def kr_X3_is : List (Nat × dx_I) := [(0, (.aload_n 0, 1, .null, 0, 0, 0, [])), (1, (.iload_n 1, 1, .null, 0, 0, 0, [])), (2, (.invokevirtual 104, 3, .ref 3, 1, 68, 1, [])), (5, (.ifCond .eq 12, 3, .null, 17, 0, 0, [])), (8, (.iload_n 2, 1, .null, 0, 0, 0, [])), (9, (.iconst 0, 1, .int 0, 0, 0, 0, [])), (10, (.iconst 2, 1, .int 2, 0, 0, 0, [])), (11, (.invokestatic 50, 3, .null, 2, 64, 3, [])), (14, (.ifCond .ne 5, 3, .null, 19, 0, 0, [])), (17, (.iconst (-1), 1, .int (-1), 0, 0, 0, [])), (18, (.ireturn, 1, .null, 0, 0, 0, [])), (19, (.aload_n 0, 1, .null, 0, 0, 0, [])), (20, (.getfield 25, 3, .null, 3, 2, 0, [])), (23, (.iload_n 1, 1, .null, 0, 0, 0, [])), (24, (.aaload, 1, .null, 0, 0, 0, [])), (25, (.getfield 107, 3, .null, 2, 0, 0, [])), (28, (.ifCond .ne 9, 3, .null, 37, 0, 0, [])), (31, (.aload_n 0, 1, .null, 0, 0, 0, [])), (32, (.iconst 1, 1, .int 1, 0, 0, 0, [])), (33, (.invokevirtual 77, 3, .ref 3, 1, 70, 1, [])), (36, (.ireturn, 1, .null, 0, 0, 0, [])), (37, (.iload_n 2, 1, .null, 0, 0, 0, [])), (38, (.ifCond .eq 16, 3, .null, 54, 0, 0, [])), (41, (.iload_n 2, 1, .null, 0, 0, 0, [])), (42, (.aload_n 0, 1, .null, 0, 0, 0, [])), (43, (.getfield 25, 3, .null, 3, 2, 0, [])), (46, (.iload_n 1, 1, .null, 0, 0, 0, [])), (47, (.aaload, 1, .null, 0, 0, 0, [])), (48, (.getfield 111, 3, .null, 2, 1, 0, [])), (51, (.if_icmp .ne 7, 3, .null, 58, 0, 0, [])), (54, (.iconst 1, 1, .int 1, 0, 0, 0, [])), (55, (.goto 4, 3, .null, 59, 0, 0, [])), (58, (.iconst 0, 1, .int 0, 0, 0, 0, [])), (59, (.ireturn, 1, .null, 0, 0, 0, []))]
def km_X3_is : dx_K := ((yX3_is, cX3_is, 3, some .int), kr_X3_is, kp_X3)
def kr_X3_all : List (Nat × dx_I) := [(0, (.aload_n 0, 1, .null, 0, 0, 0, [])), (1, (.invokevirtual 126, 3, .ref 3, 1, 74, 0, [])), (4, (.ireturn, 1, .null, 0, 0, 0, []))]
def km_X3_all : dx_K := ((yX3_all, cX3_all, 1, some .int), kr_X3_all, kp_X3)
def kr_X3_mean : List (Nat × dx_I) := [(0, (.aload_n 0, 1, .null, 0, 0, 0, [])), (1, (.getfield 12, 3, .null, 3, 0, 0, [])), (4, (.invokevirtual 130, 3, .ref 0, 1, 6, 0, [])), (7, (.istore_n 1, 1, .null, 0, 0, 0, [])), (8, (.iload_n 1, 1, .null, 0, 0, 0, [])), (9, (.ifCond .ne 11, 3, .null, 20, 0, 0, [])), (12, (.aload_n 0, 1, .null, 0, 0, 0, [])), (13, (.iconst 4, 1, .int 4, 0, 0, 0, [])), (14, (.invokevirtual 77, 3, .ref 3, 1, 70, 1, [])), (17, (.goto 12, 3, .null, 29, 0, 0, [])), (20, (.aload_n 0, 1, .null, 0, 0, 0, [])), (21, (.getfield 12, 3, .null, 3, 0, 0, [])), (24, (.invokevirtual 133, 3, .ref 0, 1, 7, 0, [])), (27, (.iload_n 1, 1, .null, 0, 0, 0, [])), (28, (.idiv, 1, .null, 0, 0, 0, [])), (29, (.ireturn, 1, .null, 0, 0, 0, []))]
def km_X3_mean : dx_K := ((yX3_mean, cX3_mean, 2, some .int), kr_X3_mean, kp_X3)
def kr_X3_floats : List (Nat × dx_I) := [(0, (.aload_n 0, 1, .null, 0, 0, 0, [])), (1, (.iload_n 1, 1, .null, 0, 0, 0, [])), (2, (.invokevirtual 136, 3, .ref 3, 1, 75, 1, [])), (5, (.ireturn, 1, .null, 0, 0, 0, []))]
def km_X3_floats : dx_K := ((yX3_floats, cX3_floats, 2, some .int), kr_X3_floats, kp_X3)
def kr_X3_draft : List (Nat × dx_I) := [(0, (.aload_n 0, 1, .null, 0, 0, 0, [])), (1, (.iload_n 1, 1, .null, 0, 0, 0, [])), (2, (.invokevirtual 136, 3, .ref 3, 1, 75, 1, [])), (5, (.istore_n 2, 1, .null, 0, 0, 0, [])), (6, (.iload_n 2, 1, .null, 0, 0, 0, [])), (7, (.iconst 1, 1, .int 1, 0, 0, 0, [])), (8, (.if_icmp .ne 41, 3, .null, 49, 0, 0, [])), (11, (.aload_n 0, 1, .null, 0, 0, 0, [])), (12, (.aload_n 0, 1, .null, 0, 0, 0, [])), (13, (.getfield 19, 3, .null, 3, 1, 0, [])), (16, (.getfield 139, 3, .null, 1, 4, 0, [])), (19, (.i2l, 1, .null, 0, 0, 0, [])), (20, (.aload_n 0, 1, .null, 0, 0, 0, [])), (21, (.getfield 19, 3, .null, 3, 1, 0, [])), (24, (.getfield 142, 3, .null, 1, 8, 0, [])), (27, (.lmul, 1, .null, 0, 0, 0, [])), (28, (.aload_n 0, 1, .null, 0, 0, 0, [])), (29, (.getfield 19, 3, .null, 3, 1, 0, [])), (32, (.getfield 145, 3, .null, 1, 7, 0, [])), (35, (.ladd, 1, .null, 0, 0, 0, [])), (36, (.aload_n 0, 1, .null, 0, 0, 0, [])), (37, (.getfield 19, 3, .null, 3, 1, 0, [])), (40, (.getfield 142, 3, .null, 1, 8, 0, [])), (43, (.invokevirtual 148, 3, .ref 3, 1, 71, 2, [])), (46, (.goto 4, 3, .null, 50, 0, 0, [])), (49, (.iload_n 2, 1, .null, 0, 0, 0, [])), (50, (.ireturn, 1, .null, 0, 0, 0, []))]
def km_X3_draft : dx_K := ((yX3_draft, cX3_draft, 3, some .int), kr_X3_draft, kp_X3)
def kr_X3_above : List (Nat × dx_I) := [(0, (.aload_n 0, 1, .null, 0, 0, 0, [])), (1, (.iload_n 1, 1, .null, 0, 0, 0, [])), (2, (.invokevirtual 136, 3, .ref 3, 1, 75, 1, [])), (5, (.istore_n 2, 1, .null, 0, 0, 0, [])), (6, (.iload_n 2, 1, .null, 0, 0, 0, [])), (7, (.iconst 1, 1, .int 1, 0, 0, 0, [])), (8, (.if_icmp .ne 49, 3, .null, 57, 0, 0, [])), (11, (.aload_n 0, 1, .null, 0, 0, 0, [])), (12, (.aload_n 0, 1, .null, 0, 0, 0, [])), (13, (.getfield 19, 3, .null, 3, 1, 0, [])), (16, (.getfield 152, 3, .null, 1, 3, 0, [])), (19, (.aload_n 0, 1, .null, 0, 0, 0, [])), (20, (.getfield 19, 3, .null, 3, 1, 0, [])), (23, (.getfield 139, 3, .null, 1, 4, 0, [])), (26, (.isub, 1, .null, 0, 0, 0, [])), (27, (.i2l, 1, .null, 0, 0, 0, [])), (28, (.aload_n 0, 1, .null, 0, 0, 0, [])), (29, (.getfield 19, 3, .null, 3, 1, 0, [])), (32, (.getfield 142, 3, .null, 1, 8, 0, [])), (35, (.lmul, 1, .null, 0, 0, 0, [])), (36, (.aload_n 0, 1, .null, 0, 0, 0, [])), (37, (.getfield 19, 3, .null, 3, 1, 0, [])), (40, (.getfield 145, 3, .null, 1, 7, 0, [])), (43, (.lsub, 1, .null, 0, 0, 0, [])), (44, (.aload_n 0, 1, .null, 0, 0, 0, [])), (45, (.getfield 19, 3, .null, 3, 1, 0, [])), (48, (.getfield 142, 3, .null, 1, 8, 0, [])), (51, (.invokevirtual 148, 3, .ref 3, 1, 71, 2, [])), (54, (.goto 4, 3, .null, 58, 0, 0, [])), (57, (.iload_n 2, 1, .null, 0, 0, 0, [])), (58, (.ireturn, 1, .null, 0, 0, 0, []))]
def km_X3_above : dx_K := ((yX3_above, cX3_above, 3, some .int), kr_X3_above, kp_X3)
def kr_X3_middle : List (Nat × dx_I) := [(0, (.iload_n 2, 1, .null, 0, 0, 0, [])), (1, (.iconst 0, 1, .int 0, 0, 0, 0, [])), (2, (.iconst 3, 1, .int 3, 0, 0, 0, [])), (3, (.invokestatic 50, 3, .null, 2, 64, 3, [])), (6, (.ifCond .ne 5, 3, .null, 11, 0, 0, [])), (9, (.iconst (-1), 1, .int (-1), 0, 0, 0, [])), (10, (.ireturn, 1, .null, 0, 0, 0, [])), (11, (.aload_n 0, 1, .null, 0, 0, 0, [])), (12, (.iload_n 1, 1, .null, 0, 0, 0, [])), (13, (.invokevirtual 136, 3, .ref 3, 1, 75, 1, [])), (16, (.istore_n 3, 1, .null, 0, 0, 0, [])), (17, (.iload_n 3, 1, .null, 0, 0, 0, [])), (18, (.iconst 1, 1, .int 1, 0, 0, 0, [])), (19, (.if_icmp .eq 5, 3, .null, 24, 0, 0, [])), (22, (.iload_n 3, 1, .null, 0, 0, 0, [])), (23, (.ireturn, 1, .null, 0, 0, 0, [])), (24, (.aload_n 0, 1, .null, 0, 0, 0, [])), (25, (.invokevirtual 126, 3, .ref 3, 1, 74, 0, [])), (28, (.i2l, 1, .null, 0, 0, 0, [])), (29, (.lstore 4, 2, .null, 0, 0, 0, [])), (31, (.iload_n 2, 1, .null, 0, 0, 0, [])), (32, (.tableswitch 116 0 2 #[28, 60, 100], 28, .null, 148, 0, 0, [(0, 60), (1, 92), (2, 132)])), (60, (.aload_n 0, 1, .null, 0, 0, 0, [])), (61, (.aload_n 0, 1, .null, 0, 0, 0, [])), (62, (.getfield 19, 3, .null, 3, 1, 0, [])), (65, (.invokevirtual 155, 3, .ref 1, 1, 20, 0, [])), (68, (.aload_n 0, 1, .null, 0, 0, 0, [])), (69, (.getfield 42, 3, .null, 3, 6, 0, [])), (72, (.i2l, 1, .null, 0, 0, 0, [])), (73, (.lmul, 1, .null, 0, 0, 0, [])), (74, (.ldc2_w 159, 3, .long 2, 0, 0, 0, [])), (77, (.aload_n 0, 1, .null, 0, 0, 0, [])), (78, (.getfield 19, 3, .null, 3, 1, 0, [])), (81, (.getfield 142, 3, .null, 1, 8, 0, [])), (84, (.lmul, 1, .null, 0, 0, 0, [])), (85, (.lload 4, 2, .null, 0, 0, 0, [])), (87, (.lmul, 1, .null, 0, 0, 0, [])), (88, (.invokevirtual 148, 3, .ref 3, 1, 71, 2, [])), (91, (.ireturn, 1, .null, 0, 0, 0, [])), (92, (.aload_n 0, 1, .null, 0, 0, 0, [])), (93, (.aload_n 0, 1, .null, 0, 0, 0, [])), (94, (.getfield 19, 3, .null, 3, 1, 0, [])), (97, (.invokevirtual 161, 3, .ref 1, 1, 21, 0, [])), (100, (.aload_n 0, 1, .null, 0, 0, 0, [])), (101, (.getfield 42, 3, .null, 3, 6, 0, [])), (104, (.i2l, 1, .null, 0, 0, 0, [])), (105, (.lmul, 1, .null, 0, 0, 0, [])), (106, (.ldc2_w 159, 3, .long 2, 0, 0, 0, [])), (109, (.aload_n 0, 1, .null, 0, 0, 0, [])), (110, (.getfield 19, 3, .null, 3, 1, 0, [])), (113, (.getfield 142, 3, .null, 1, 8, 0, [])), (116, (.lmul, 1, .null, 0, 0, 0, [])), (117, (.aload_n 0, 1, .null, 0, 0, 0, [])), (118, (.getfield 19, 3, .null, 3, 1, 0, [])), (121, (.getfield 142, 3, .null, 1, 8, 0, [])), (124, (.lmul, 1, .null, 0, 0, 0, [])), (125, (.lload 4, 2, .null, 0, 0, 0, [])), (127, (.lmul, 1, .null, 0, 0, 0, [])), (128, (.invokevirtual 148, 3, .ref 3, 1, 71, 2, [])), (131, (.ireturn, 1, .null, 0, 0, 0, [])), (132, (.aload_n 0, 1, .null, 0, 0, 0, [])), (133, (.aload_n 0, 1, .null, 0, 0, 0, [])), (134, (.iload_n 1, 1, .null, 0, 0, 0, [])), (135, (.invokevirtual 164, 3, .ref 3, 1, 76, 1, [])), (138, (.ldc2_w 159, 3, .long 2, 0, 0, 0, [])), (141, (.lload 4, 2, .null, 0, 0, 0, [])), (143, (.lmul, 1, .null, 0, 0, 0, [])), (144, (.invokevirtual 148, 3, .ref 3, 1, 71, 2, [])), (147, (.ireturn, 1, .null, 0, 0, 0, [])), (148, (.aload_n 0, 1, .null, 0, 0, 0, [])), (149, (.aload_n 0, 1, .null, 0, 0, 0, [])), (150, (.iload_n 1, 1, .null, 0, 0, 0, [])), (151, (.invokevirtual 168, 3, .ref 3, 1, 77, 1, [])), (154, (.ldc2_w 159, 3, .long 2, 0, 0, 0, [])), (157, (.lload 4, 2, .null, 0, 0, 0, [])), (159, (.lmul, 1, .null, 0, 0, 0, [])), (160, (.invokevirtual 148, 3, .ref 3, 1, 71, 2, [])), (163, (.ireturn, 1, .null, 0, 0, 0, []))]
def km_X3_middle : dx_K := ((yX3_middle, cX3_middle, 6, some .int), kr_X3_middle, kp_X3)
def kr_X3_place : List (Nat × dx_I) := [(0, (.iload_n 1, 1, .null, 0, 0, 0, [])), (1, (.invokestatic 171, 3, .null, 2, 65, 1, [])), (4, (.ifCond .eq 39, 3, .null, 43, 0, 0, [])), (7, (.iload_n 2, 1, .null, 0, 0, 0, [])), (8, (.iconst 0, 1, .int 0, 0, 0, 0, [])), (9, (.aload_n 0, 1, .null, 0, 0, 0, [])), (10, (.getfield 12, 3, .null, 3, 0, 0, [])), (13, (.iload_n 1, 1, .null, 0, 0, 0, [])), (14, (.invokevirtual 174, 3, .ref 0, 1, 4, 1, [])), (17, (.iconst 1, 1, .int 1, 0, 0, 0, [])), (18, (.isub, 1, .null, 0, 0, 0, [])), (19, (.invokestatic 50, 3, .null, 2, 64, 3, [])), (22, (.ifCond .eq 21, 3, .null, 43, 0, 0, [])), (25, (.iload_n 3, 1, .null, 0, 0, 0, [])), (26, (.iconst 0, 1, .int 0, 0, 0, 0, [])), (27, (.aload_n 0, 1, .null, 0, 0, 0, [])), (28, (.getfield 12, 3, .null, 3, 0, 0, [])), (31, (.iload_n 1, 1, .null, 0, 0, 0, [])), (32, (.invokevirtual 177, 3, .ref 0, 1, 5, 1, [])), (35, (.iconst 1, 1, .int 1, 0, 0, 0, [])), (36, (.isub, 1, .null, 0, 0, 0, [])), (37, (.invokestatic 50, 3, .null, 2, 64, 3, [])), (40, (.ifCond .ne 5, 3, .null, 45, 0, 0, [])), (43, (.iconst (-1), 1, .int (-1), 0, 0, 0, [])), (44, (.ireturn, 1, .null, 0, 0, 0, [])), (45, (.aload_n 0, 1, .null, 0, 0, 0, [])), (46, (.iload_n 1, 1, .null, 0, 0, 0, [])), (47, (.invokevirtual 136, 3, .ref 3, 1, 75, 1, [])), (50, (.istore 4, 2, .null, 0, 0, 0, [])), (52, (.iload 4, 2, .null, 0, 0, 0, [])), (54, (.iconst 1, 1, .int 1, 0, 0, 0, [])), (55, (.if_icmp .ne 15, 3, .null, 70, 0, 0, [])), (58, (.aload_n 0, 1, .null, 0, 0, 0, [])), (59, (.getfield 19, 3, .null, 3, 1, 0, [])), (62, (.iload_n 2, 1, .null, 0, 0, 0, [])), (63, (.iload_n 3, 1, .null, 0, 0, 0, [])), (64, (.invokevirtual 180, 3, .ref 1, 1, 18, 2, [])), (67, (.goto 5, 3, .null, 72, 0, 0, [])), (70, (.iload 4, 2, .null, 0, 0, 0, [])), (72, (.ireturn, 1, .null, 0, 0, 0, []))]
def km_X3_place : dx_K := ((yX3_place, cX3_place, 5, some .int), kr_X3_place, kp_X3)
def kr_X3_leans : List (Nat × dx_I) := [(0, (.aload_n 0, 1, .null, 0, 0, 0, [])), (1, (.iload_n 1, 1, .null, 0, 0, 0, [])), (2, (.invokevirtual 136, 3, .ref 3, 1, 75, 1, [])), (5, (.istore_n 2, 1, .null, 0, 0, 0, [])), (6, (.iload_n 2, 1, .null, 0, 0, 0, [])), (7, (.iconst 1, 1, .int 1, 0, 0, 0, [])), (8, (.if_icmp .ne 11, 3, .null, 19, 0, 0, [])), (11, (.aload_n 0, 1, .null, 0, 0, 0, [])), (12, (.iload_n 1, 1, .null, 0, 0, 0, [])), (13, (.invokevirtual 183, 3, .ref 3, 1, 78, 1, [])), (16, (.goto 4, 3, .null, 20, 0, 0, [])), (19, (.iload_n 2, 1, .null, 0, 0, 0, [])), (20, (.ireturn, 1, .null, 0, 0, 0, []))]
def km_X3_leans : dx_K := ((yX3_leans, cX3_leans, 3, some .int), kr_X3_leans, kp_X3)
def kr_X3_breadth : List (Nat × dx_I) := [(0, (.aload_n 0, 1, .null, 0, 0, 0, [])), (1, (.iload_n 1, 1, .null, 0, 0, 0, [])), (2, (.invokevirtual 136, 3, .ref 3, 1, 75, 1, [])), (5, (.istore_n 2, 1, .null, 0, 0, 0, [])), (6, (.iload_n 2, 1, .null, 0, 0, 0, [])), (7, (.iconst 1, 1, .int 1, 0, 0, 0, [])), (8, (.if_icmp .eq 5, 3, .null, 13, 0, 0, [])), (11, (.iload_n 2, 1, .null, 0, 0, 0, [])), (12, (.ireturn, 1, .null, 0, 0, 0, [])), (13, (.aload_n 0, 1, .null, 0, 0, 0, [])), (14, (.getfield 19, 3, .null, 3, 1, 0, [])), (17, (.invokevirtual 186, 3, .ref 1, 1, 22, 0, [])), (20, (.aload_n 0, 1, .null, 0, 0, 0, [])), (21, (.aload_n 0, 1, .null, 0, 0, 0, [])), (22, (.getfield 19, 3, .null, 3, 1, 0, [])), (25, (.getfield 189, 3, .null, 1, 9, 0, [])), (28, (.aload_n 0, 1, .null, 0, 0, 0, [])), (29, (.getfield 19, 3, .null, 3, 1, 0, [])), (32, (.getfield 192, 3, .null, 1, 10, 0, [])), (35, (.invokevirtual 148, 3, .ref 3, 1, 71, 2, [])), (38, (.ireturn, 1, .null, 0, 0, 0, []))]
def km_X3_breadth : dx_K := ((yX3_breadth, cX3_breadth, 3, some .int), kr_X3_breadth, kp_X3)
def kr_X3_holds : List (Nat × dx_I) := [(0, (.aload_n 0, 1, .null, 0, 0, 0, [])), (1, (.iload_n 1, 1, .null, 0, 0, 0, [])), (2, (.invokevirtual 136, 3, .ref 3, 1, 75, 1, [])), (5, (.istore_n 2, 1, .null, 0, 0, 0, [])), (6, (.iload_n 2, 1, .null, 0, 0, 0, [])), (7, (.iconst 1, 1, .int 1, 0, 0, 0, [])), (8, (.if_icmp .ne 11, 3, .null, 19, 0, 0, [])), (11, (.aload_n 0, 1, .null, 0, 0, 0, [])), (12, (.iload_n 1, 1, .null, 0, 0, 0, [])), (13, (.invokevirtual 195, 3, .ref 3, 1, 79, 1, [])), (16, (.goto 4, 3, .null, 20, 0, 0, [])), (19, (.iload_n 2, 1, .null, 0, 0, 0, [])), (20, (.ireturn, 1, .null, 0, 0, 0, []))]
def km_X3_holds : dx_K := ((yX3_holds, cX3_holds, 3, some .int), kr_X3_holds, kp_X3)
def kr_X3_rests : List (Nat × dx_I) := [(0, (.iconst 0, 1, .int 0, 0, 0, 0, [])), (1, (.istore_n 1, 1, .null, 0, 0, 0, [])), (2, (.iconst 0, 1, .int 0, 0, 0, 0, [])), (3, (.istore_n 2, 1, .null, 0, 0, 0, [])), (4, (.iload_n 2, 1, .null, 0, 0, 0, [])), (5, (.iconst 4, 1, .int 4, 0, 0, 0, [])), (6, (.if_icmp .ge 44, 3, .null, 50, 0, 0, [])), (9, (.aload_n 0, 1, .null, 0, 0, 0, [])), (10, (.iload_n 2, 1, .null, 0, 0, 0, [])), (11, (.invokevirtual 136, 3, .ref 3, 1, 75, 1, [])), (14, (.istore_n 3, 1, .null, 0, 0, 0, [])), (15, (.iload_n 3, 1, .null, 0, 0, 0, [])), (16, (.bipush (-4), 2, .int (-4), 0, 0, 0, [])), (18, (.if_icmp .ne 6, 3, .null, 24, 0, 0, [])), (21, (.bipush (-4), 2, .int (-4), 0, 0, 0, [])), (23, (.ireturn, 1, .null, 0, 0, 0, [])), (24, (.iload_n 3, 1, .null, 0, 0, 0, [])), (25, (.iconst 1, 1, .int 1, 0, 0, 0, [])), (26, (.if_icmp .ne 18, 3, .null, 44, 0, 0, [])), (29, (.aload_n 0, 1, .null, 0, 0, 0, [])), (30, (.iload_n 2, 1, .null, 0, 0, 0, [])), (31, (.invokevirtual 195, 3, .ref 3, 1, 79, 1, [])), (34, (.iconst 2, 1, .int 2, 0, 0, 0, [])), (35, (.if_icmp .ne 9, 3, .null, 44, 0, 0, [])), (38, (.iload_n 1, 1, .null, 0, 0, 0, [])), (39, (.iconst 1, 1, .int 1, 0, 0, 0, [])), (40, (.iload_n 2, 1, .null, 0, 0, 0, [])), (41, (.ishl, 1, .null, 0, 0, 0, [])), (42, (.ior, 1, .null, 0, 0, 0, [])), (43, (.istore_n 1, 1, .null, 0, 0, 0, [])), (44, (.iinc 2 1, 3, .int 1, 0, 0, 0, [])), (47, (.goto (-43), 3, .null, 4, 0, 0, [])), (50, (.iload_n 1, 1, .null, 0, 0, 0, [])), (51, (.ireturn, 1, .null, 0, 0, 0, []))]
def km_X3_rests : dx_K := ((yX3_rests, cX3_rests, 4, some .int), kr_X3_rests, kp_X3)
def kr_X3_carries : List (Nat × dx_I) := [(0, (.iload_n 1, 1, .null, 0, 0, 0, [])), (1, (.invokestatic 171, 3, .null, 2, 65, 1, [])), (4, (.ifCond .ne 5, 3, .null, 9, 0, 0, [])), (7, (.iconst (-1), 1, .int (-1), 0, 0, 0, [])), (8, (.ireturn, 1, .null, 0, 0, 0, [])), (9, (.aload_n 0, 1, .null, 0, 0, 0, [])), (10, (.getfield 12, 3, .null, 3, 0, 0, [])), (13, (.invokevirtual 130, 3, .ref 0, 1, 6, 0, [])), (16, (.ifCond .ne 6, 3, .null, 22, 0, 0, [])), (19, (.bipush (-4), 2, .int (-4), 0, 0, 0, [])), (21, (.ireturn, 1, .null, 0, 0, 0, [])), (22, (.aload_n 0, 1, .null, 0, 0, 0, [])), (23, (.getfield 19, 3, .null, 3, 1, 0, [])), (26, (.aload_n 0, 1, .null, 0, 0, 0, [])), (27, (.getfield 12, 3, .null, 3, 0, 0, [])), (30, (.iload_n 1, 1, .null, 0, 0, 0, [])), (31, (.invokevirtual 198, 3, .ref 1, 1, 10, 2, [])), (34, (.aload_n 0, 1, .null, 0, 0, 0, [])), (35, (.getfield 19, 3, .null, 3, 1, 0, [])), (38, (.invokevirtual 202, 3, .ref 1, 1, 17, 0, [])), (41, (.aload_n 0, 1, .null, 0, 0, 0, [])), (42, (.getfield 42, 3, .null, 3, 6, 0, [])), (45, (.imul, 1, .null, 0, 0, 0, [])), (46, (.aload_n 0, 1, .null, 0, 0, 0, [])), (47, (.invokevirtual 126, 3, .ref 3, 1, 74, 0, [])), (50, (.isub, 1, .null, 0, 0, 0, [])), (51, (.istore_n 2, 1, .null, 0, 0, 0, [])), (52, (.iload_n 2, 1, .null, 0, 0, 0, [])), (53, (.ifCond .ge 8, 3, .null, 61, 0, 0, [])), (56, (.bipush (-5), 2, .int (-5), 0, 0, 0, [])), (58, (.goto 4, 3, .null, 62, 0, 0, [])), (61, (.iload_n 2, 1, .null, 0, 0, 0, [])), (62, (.ireturn, 1, .null, 0, 0, 0, []))]
def km_X3_carries : dx_K := ((yX3_carries, cX3_carries, 3, some .int), kr_X3_carries, kp_X3)
def kr_X3_trim : List (Nat × dx_I) := [(0, (.iload_n 1, 1, .null, 0, 0, 0, [])), (1, (.invokestatic 171, 3, .null, 2, 65, 1, [])), (4, (.ifCond .eq 14, 3, .null, 18, 0, 0, [])), (7, (.iload_n 2, 1, .null, 0, 0, 0, [])), (8, (.iconst 1, 1, .int 1, 0, 0, 0, [])), (9, (.sipush 2000, 3, .int 2000, 0, 0, 0, [])), (12, (.invokestatic 50, 3, .null, 2, 64, 3, [])), (15, (.ifCond .ne 5, 3, .null, 20, 0, 0, [])), (18, (.iconst (-1), 1, .int (-1), 0, 0, 0, [])), (19, (.ireturn, 1, .null, 0, 0, 0, [])), (20, (.aload_n 0, 1, .null, 0, 0, 0, [])), (21, (.getfield 12, 3, .null, 3, 0, 0, [])), (24, (.invokevirtual 130, 3, .ref 0, 1, 6, 0, [])), (27, (.ifCond .ne 6, 3, .null, 33, 0, 0, [])), (30, (.bipush (-4), 2, .int (-4), 0, 0, 0, [])), (32, (.ireturn, 1, .null, 0, 0, 0, [])), (33, (.aload_n 0, 1, .null, 0, 0, 0, [])), (34, (.getfield 19, 3, .null, 3, 1, 0, [])), (37, (.aload_n 0, 1, .null, 0, 0, 0, [])), (38, (.getfield 12, 3, .null, 3, 0, 0, [])), (41, (.iload_n 1, 1, .null, 0, 0, 0, [])), (42, (.invokevirtual 198, 3, .ref 1, 1, 10, 2, [])), (45, (.aload_n 0, 1, .null, 0, 0, 0, [])), (46, (.getfield 19, 3, .null, 3, 1, 0, [])), (49, (.aload_n 0, 1, .null, 0, 0, 0, [])), (50, (.invokevirtual 126, 3, .ref 3, 1, 74, 0, [])), (53, (.iload_n 2, 1, .null, 0, 0, 0, [])), (54, (.iadd, 1, .null, 0, 0, 0, [])), (55, (.aload_n 0, 1, .null, 0, 0, 0, [])), (56, (.getfield 42, 3, .null, 3, 6, 0, [])), (59, (.invokevirtual 205, 3, .ref 1, 1, 16, 2, [])), (62, (.ifCond .ne 6, 3, .null, 68, 0, 0, [])), (65, (.bipush (-5), 2, .int (-5), 0, 0, 0, [])), (67, (.ireturn, 1, .null, 0, 0, 0, [])), (68, (.aload_n 0, 1, .null, 0, 0, 0, [])), (69, (.aload_n 0, 1, .null, 0, 0, 0, [])), (70, (.getfield 19, 3, .null, 3, 1, 0, [])), (73, (.invokevirtual 155, 3, .ref 1, 1, 20, 0, [])), (76, (.aload_n 0, 1, .null, 0, 0, 0, [])), (77, (.getfield 42, 3, .null, 3, 6, 0, [])), (80, (.i2l, 1, .null, 0, 0, 0, [])), (81, (.lmul, 1, .null, 0, 0, 0, [])), (82, (.aload_n 0, 1, .null, 0, 0, 0, [])), (83, (.iload_n 1, 1, .null, 0, 0, 0, [])), (84, (.invokevirtual 164, 3, .ref 3, 1, 76, 1, [])), (87, (.aload_n 0, 1, .null, 0, 0, 0, [])), (88, (.getfield 19, 3, .null, 3, 1, 0, [])), (91, (.getfield 142, 3, .null, 1, 8, 0, [])), (94, (.lmul, 1, .null, 0, 0, 0, [])), (95, (.lsub, 1, .null, 0, 0, 0, [])), (96, (.ldc2_w 159, 3, .long 2, 0, 0, 0, [])), (99, (.aload_n 0, 1, .null, 0, 0, 0, [])), (100, (.getfield 19, 3, .null, 3, 1, 0, [])), (103, (.getfield 142, 3, .null, 1, 8, 0, [])), (106, (.lmul, 1, .null, 0, 0, 0, [])), (107, (.iload_n 2, 1, .null, 0, 0, 0, [])), (108, (.i2l, 1, .null, 0, 0, 0, [])), (109, (.lmul, 1, .null, 0, 0, 0, [])), (110, (.invokevirtual 148, 3, .ref 3, 1, 71, 2, [])), (113, (.ireturn, 1, .null, 0, 0, 0, []))]
def km_X3_trim : dx_K := ((yX3_trim, cX3_trim, 3, some .int), kr_X3_trim, kp_X3)
def kr_X3_room : List (Nat × dx_I) := [(0, (.iload_n 1, 1, .null, 0, 0, 0, [])), (1, (.invokestatic 171, 3, .null, 2, 65, 1, [])), (4, (.ifCond .eq 37, 3, .null, 41, 0, 0, [])), (7, (.iload_n 2, 1, .null, 0, 0, 0, [])), (8, (.iconst 0, 1, .int 0, 0, 0, 0, [])), (9, (.bipush 24, 2, .int 24, 0, 0, 0, [])), (11, (.invokestatic 50, 3, .null, 2, 64, 3, [])), (14, (.ifCond .eq 27, 3, .null, 41, 0, 0, [])), (17, (.iload_n 3, 1, .null, 0, 0, 0, [])), (18, (.iconst 1, 1, .int 1, 0, 0, 0, [])), (19, (.bipush 12, 2, .int 12, 0, 0, 0, [])), (21, (.invokestatic 50, 3, .null, 2, 64, 3, [])), (24, (.ifCond .eq 17, 3, .null, 41, 0, 0, [])), (27, (.iload_n 2, 1, .null, 0, 0, 0, [])), (28, (.aload_n 0, 1, .null, 0, 0, 0, [])), (29, (.getfield 12, 3, .null, 3, 0, 0, [])), (32, (.iload_n 1, 1, .null, 0, 0, 0, [])), (33, (.invokevirtual 177, 3, .ref 0, 1, 5, 1, [])), (36, (.iload_n 3, 1, .null, 0, 0, 0, [])), (37, (.imul, 1, .null, 0, 0, 0, [])), (38, (.if_icmp .le 5, 3, .null, 43, 0, 0, [])), (41, (.iconst (-1), 1, .int (-1), 0, 0, 0, [])), (42, (.ireturn, 1, .null, 0, 0, 0, [])), (43, (.iload_n 2, 1, .null, 0, 0, 0, [])), (44, (.ifCond .ne 10, 3, .null, 54, 0, 0, [])), (47, (.aload_n 0, 1, .null, 0, 0, 0, [])), (48, (.lconst 0, 1, .long 0, 0, 0, 0, [])), (49, (.lconst 1, 1, .long 1, 0, 0, 0, [])), (50, (.invokevirtual 148, 3, .ref 3, 1, 71, 2, [])), (53, (.ireturn, 1, .null, 0, 0, 0, [])), (54, (.iload_n 2, 1, .null, 0, 0, 0, [])), (55, (.iconst 1, 1, .int 1, 0, 0, 0, [])), (56, (.isub, 1, .null, 0, 0, 0, [])), (57, (.iload_n 3, 1, .null, 0, 0, 0, [])), (58, (.idiv, 1, .null, 0, 0, 0, [])), (59, (.istore 4, 2, .null, 0, 0, 0, [])), (61, (.aload_n 0, 1, .null, 0, 0, 0, [])), (62, (.getfield 19, 3, .null, 3, 1, 0, [])), (65, (.aload_n 0, 1, .null, 0, 0, 0, [])), (66, (.getfield 12, 3, .null, 3, 0, 0, [])), (69, (.iload_n 1, 1, .null, 0, 0, 0, [])), (70, (.invokevirtual 198, 3, .ref 1, 1, 10, 2, [])), (73, (.aload_n 0, 1, .null, 0, 0, 0, [])), (74, (.getfield 19, 3, .null, 3, 1, 0, [])), (77, (.iload 4, 2, .null, 0, 0, 0, [])), (79, (.invokevirtual 208, 3, .ref 1, 1, 11, 1, [])), (82, (.aload_n 0, 1, .null, 0, 0, 0, [])), (83, (.aload_n 0, 1, .null, 0, 0, 0, [])), (84, (.getfield 19, 3, .null, 3, 1, 0, [])), (87, (.getfield 212, 3, .null, 1, 5, 0, [])), (90, (.iload_n 3, 1, .null, 0, 0, 0, [])), (91, (.imul, 1, .null, 0, 0, 0, [])), (92, (.aload_n 0, 1, .null, 0, 0, 0, [])), (93, (.getfield 19, 3, .null, 3, 1, 0, [])), (96, (.getfield 215, 3, .null, 1, 6, 0, [])), (99, (.iload_n 2, 1, .null, 0, 0, 0, [])), (100, (.iload 4, 2, .null, 0, 0, 0, [])), (102, (.iload_n 3, 1, .null, 0, 0, 0, [])), (103, (.imul, 1, .null, 0, 0, 0, [])), (104, (.isub, 1, .null, 0, 0, 0, [])), (105, (.imul, 1, .null, 0, 0, 0, [])), (106, (.iadd, 1, .null, 0, 0, 0, [])), (107, (.i2l, 1, .null, 0, 0, 0, [])), (108, (.iload_n 3, 1, .null, 0, 0, 0, [])), (109, (.i2l, 1, .null, 0, 0, 0, [])), (110, (.invokevirtual 148, 3, .ref 3, 1, 71, 2, [])), (113, (.ireturn, 1, .null, 0, 0, 0, []))]
def km_X3_room : dx_K := ((yX3_room, cX3_room, 5, some .int), kr_X3_room, kp_X3)
def kr_X3_upper : List (Nat × dx_I) := [(0, (.aload_n 0, 1, .null, 0, 0, 0, [])), (1, (.getfield 218, 3, .null, 3, 9, 0, [])), (4, (.lreturn, 1, .null, 0, 0, 0, []))]
def km_X3_upper : dx_K := ((yX3_upper, cX3_upper, 1, some .long), kr_X3_upper, kp_X3)
def kr_X3_lower : List (Nat × dx_I) := [(0, (.aload_n 0, 1, .null, 0, 0, 0, [])), (1, (.getfield 46, 3, .null, 3, 10, 0, [])), (4, (.lreturn, 1, .null, 0, 0, 0, []))]
def km_X3_lower : dx_K := ((yX3_lower, cX3_lower, 1, some .long), kr_X3_lower, kp_X3)
def kr_X3_count : List (Nat × dx_I) := [(0, (.iload_n 1, 1, .null, 0, 0, 0, [])), (1, (.tableswitch 69 0 4 #[35, 43, 51, 59, 64], 35, .null, 70, 0, 0, [(0, 36), (1, 44), (2, 52), (3, 60), (4, 65)])), (36, (.aload_n 0, 1, .null, 0, 0, 0, [])), (37, (.getfield 12, 3, .null, 3, 0, 0, [])), (40, (.getfield 90, 3, .null, 0, 1, 0, [])), (43, (.ireturn, 1, .null, 0, 0, 0, [])), (44, (.aload_n 0, 1, .null, 0, 0, 0, [])), (45, (.getfield 12, 3, .null, 3, 0, 0, [])), (48, (.getfield 221, 3, .null, 0, 2, 0, [])), (51, (.ireturn, 1, .null, 0, 0, 0, [])), (52, (.aload_n 0, 1, .null, 0, 0, 0, [])), (53, (.getfield 12, 3, .null, 3, 0, 0, [])), (56, (.invokevirtual 130, 3, .ref 0, 1, 6, 0, [])), (59, (.ireturn, 1, .null, 0, 0, 0, [])), (60, (.aload_n 0, 1, .null, 0, 0, 0, [])), (61, (.getfield 58, 3, .null, 3, 7, 0, [])), (64, (.ireturn, 1, .null, 0, 0, 0, [])), (65, (.aload_n 0, 1, .null, 0, 0, 0, [])), (66, (.invokevirtual 222, 3, .ref 3, 1, 73, 0, [])), (69, (.ireturn, 1, .null, 0, 0, 0, [])), (70, (.iconst (-1), 1, .int (-1), 0, 0, 0, [])), (71, (.ireturn, 1, .null, 0, 0, 0, []))]
def km_X3_count : dx_K := ((yX3_count, cX3_count, 2, some .int), kr_X3_count, kp_X3)
def kr_X3_finding : List (Nat × dx_I) := [(0, (.aload_n 0, 1, .null, 0, 0, 0, [])), (1, (.getfield 225, 3, .null, 3, 8, 0, [])), (4, (.ireturn, 1, .null, 0, 0, 0, []))]
def km_X3_finding : dx_K := ((yX3_finding, cX3_finding, 1, some .int), kr_X3_finding, kp_X3)
def kr_X3_findings : List (Nat × dx_I) := [(0, (.iload_n 1, 1, .null, 0, 0, 0, [])), (1, (.iconst 1, 1, .int 1, 0, 0, 0, [])), (2, (.iconst 5, 1, .int 5, 0, 0, 0, [])), (3, (.invokestatic 50, 3, .null, 2, 64, 3, [])), (6, (.ifCond .eq 12, 3, .null, 18, 0, 0, [])), (9, (.aload_n 0, 1, .null, 0, 0, 0, [])), (10, (.getfield 39, 3, .null, 3, 5, 0, [])), (13, (.iload_n 1, 1, .null, 0, 0, 0, [])), (14, (.iaload, 1, .null, 0, 0, 0, [])), (15, (.goto 4, 3, .null, 19, 0, 0, [])), (18, (.iconst (-1), 1, .int (-1), 0, 0, 0, [])), (19, (.ireturn, 1, .null, 0, 0, 0, []))]
def km_X3_findings : dx_K := ((yX3_findings, cX3_findings, 2, some .int), kr_X3_findings, kp_X3)
def kr_X3_digest : List (Nat × dx_I) := [(0, (.aload_n 0, 1, .null, 0, 0, 0, [])), (1, (.aload_n 0, 1, .null, 0, 0, 0, [])), (2, (.ldc2_w 228, 3, .long 31, 0, 0, 0, [])), (5, (.aload_n 0, 1, .null, 0, 0, 0, [])), (6, (.ldc2_w 230, 3, .long 17, 0, 0, 0, [])), (9, (.invokevirtual 232, 3, .ref 3, 1, 61, 1, [])), (12, (.lmul, 1, .null, 0, 0, 0, [])), (13, (.aload_n 0, 1, .null, 0, 0, 0, [])), (14, (.getfield 42, 3, .null, 3, 6, 0, [])), (17, (.i2l, 1, .null, 0, 0, 0, [])), (18, (.ladd, 1, .null, 0, 0, 0, [])), (19, (.invokevirtual 236, 3, .ref 3, 1, 62, 1, [])), (22, (.invokevirtual 239, 3, .ref 3, 1, 63, 1, [])), (25, (.lreturn, 1, .null, 0, 0, 0, []))]
def km_X3_digest : dx_K := ((yX3_digest, cX3_digest, 1, some .long), kr_X3_digest, kp_X3)
def kr_X3_digestPlaces : List (Nat × dx_I) := [(0, (.ldc2_w 228, 3, .long 31, 0, 0, 0, [])), (3, (.lload_n 1, 1, .null, 0, 0, 0, [])), (4, (.lmul, 1, .null, 0, 0, 0, [])), (5, (.aload_n 0, 1, .null, 0, 0, 0, [])), (6, (.getfield 12, 3, .null, 3, 0, 0, [])), (9, (.getfield 90, 3, .null, 0, 1, 0, [])), (12, (.i2l, 1, .null, 0, 0, 0, [])), (13, (.ladd, 1, .null, 0, 0, 0, [])), (14, (.lstore_n 3, 1, .null, 0, 0, 0, [])), (15, (.ldc2_w 228, 3, .long 31, 0, 0, 0, [])), (18, (.lload_n 3, 1, .null, 0, 0, 0, [])), (19, (.lmul, 1, .null, 0, 0, 0, [])), (20, (.aload_n 0, 1, .null, 0, 0, 0, [])), (21, (.getfield 12, 3, .null, 3, 0, 0, [])), (24, (.getfield 221, 3, .null, 0, 2, 0, [])), (27, (.i2l, 1, .null, 0, 0, 0, [])), (28, (.ladd, 1, .null, 0, 0, 0, [])), (29, (.lstore_n 3, 1, .null, 0, 0, 0, [])), (30, (.iconst 0, 1, .int 0, 0, 0, 0, [])), (31, (.istore 5, 2, .null, 0, 0, 0, [])), (33, (.iload 5, 2, .null, 0, 0, 0, [])), (35, (.aload_n 0, 1, .null, 0, 0, 0, [])), (36, (.getfield 12, 3, .null, 3, 0, 0, [])), (39, (.getfield 221, 3, .null, 0, 2, 0, [])), (42, (.if_icmp .ge 49, 3, .null, 91, 0, 0, [])), (45, (.iconst 0, 1, .int 0, 0, 0, 0, [])), (46, (.istore 6, 2, .null, 0, 0, 0, [])), (48, (.iload 6, 2, .null, 0, 0, 0, [])), (50, (.aload_n 0, 1, .null, 0, 0, 0, [])), (51, (.getfield 12, 3, .null, 3, 0, 0, [])), (54, (.getfield 90, 3, .null, 0, 1, 0, [])), (57, (.if_icmp .ge 28, 3, .null, 85, 0, 0, [])), (60, (.ldc2_w 228, 3, .long 31, 0, 0, 0, [])), (63, (.lload_n 3, 1, .null, 0, 0, 0, [])), (64, (.lmul, 1, .null, 0, 0, 0, [])), (65, (.aload_n 0, 1, .null, 0, 0, 0, [])), (66, (.getfield 12, 3, .null, 3, 0, 0, [])), (69, (.iload 6, 2, .null, 0, 0, 0, [])), (71, (.iload 5, 2, .null, 0, 0, 0, [])), (73, (.invokevirtual 65, 3, .ref 0, 1, 2, 2, [])), (76, (.i2l, 1, .null, 0, 0, 0, [])), (77, (.ladd, 1, .null, 0, 0, 0, [])), (78, (.lstore_n 3, 1, .null, 0, 0, 0, [])), (79, (.iinc 6 1, 3, .int 1, 0, 0, 0, [])), (82, (.goto (-34), 3, .null, 48, 0, 0, [])), (85, (.iinc 5 1, 3, .int 1, 0, 0, 0, [])), (88, (.goto (-55), 3, .null, 33, 0, 0, [])), (91, (.lload_n 3, 1, .null, 0, 0, 0, [])), (92, (.lreturn, 1, .null, 0, 0, 0, []))]
def km_X3_digestPlaces : dx_K := ((yX3_digestPlaces, cX3_digestPlaces, 7, some .long), kr_X3_digestPlaces, kp_X3)
def kr_X3_digestLoads : List (Nat × dx_I) := [(0, (.lload_n 1, 1, .null, 0, 0, 0, [])), (1, (.lstore_n 3, 1, .null, 0, 0, 0, [])), (2, (.iconst 0, 1, .int 0, 0, 0, 0, [])), (3, (.istore 5, 2, .null, 0, 0, 0, [])), (5, (.iload 5, 2, .null, 0, 0, 0, [])), (7, (.aload_n 0, 1, .null, 0, 0, 0, [])), (8, (.getfield 58, 3, .null, 3, 7, 0, [])), (11, (.if_icmp .ge 70, 3, .null, 81, 0, 0, [])), (14, (.aload_n 0, 1, .null, 0, 0, 0, [])), (15, (.getfield 25, 3, .null, 3, 2, 0, [])), (18, (.iload 5, 2, .null, 0, 0, 0, [])), (20, (.aaload, 1, .null, 0, 0, 0, [])), (21, (.getfield 107, 3, .null, 2, 0, 0, [])), (24, (.ifCond .ne 16, 3, .null, 40, 0, 0, [])), (27, (.ldc2_w 228, 3, .long 31, 0, 0, 0, [])), (30, (.lload_n 3, 1, .null, 0, 0, 0, [])), (31, (.lmul, 1, .null, 0, 0, 0, [])), (32, (.ldc2_w 242, 3, .long (-1), 0, 0, 0, [])), (35, (.ladd, 1, .null, 0, 0, 0, [])), (36, (.lstore_n 3, 1, .null, 0, 0, 0, [])), (37, (.goto 38, 3, .null, 75, 0, 0, [])), (40, (.iconst 0, 1, .int 0, 0, 0, 0, [])), (41, (.istore 6, 2, .null, 0, 0, 0, [])), (43, (.iload 6, 2, .null, 0, 0, 0, [])), (45, (.iconst 5, 1, .int 5, 0, 0, 0, [])), (46, (.if_icmp .ge 29, 3, .null, 75, 0, 0, [])), (49, (.ldc2_w 228, 3, .long 31, 0, 0, 0, [])), (52, (.lload_n 3, 1, .null, 0, 0, 0, [])), (53, (.lmul, 1, .null, 0, 0, 0, [])), (54, (.aload_n 0, 1, .null, 0, 0, 0, [])), (55, (.getfield 25, 3, .null, 3, 2, 0, [])), (58, (.iload 5, 2, .null, 0, 0, 0, [])), (60, (.aaload, 1, .null, 0, 0, 0, [])), (61, (.iload 6, 2, .null, 0, 0, 0, [])), (63, (.invokevirtual 123, 3, .ref 2, 1, 25, 1, [])), (66, (.i2l, 1, .null, 0, 0, 0, [])), (67, (.ladd, 1, .null, 0, 0, 0, [])), (68, (.lstore_n 3, 1, .null, 0, 0, 0, [])), (69, (.iinc 6 1, 3, .int 1, 0, 0, 0, [])), (72, (.goto (-29), 3, .null, 43, 0, 0, [])), (75, (.iinc 5 1, 3, .int 1, 0, 0, 0, [])), (78, (.goto (-73), 3, .null, 5, 0, 0, [])), (81, (.lload_n 3, 1, .null, 0, 0, 0, [])), (82, (.lreturn, 1, .null, 0, 0, 0, []))]
def km_X3_digestLoads : dx_K := ((yX3_digestLoads, cX3_digestLoads, 7, some .long), kr_X3_digestLoads, kp_X3)
def kr_X3_digestSheets : List (Nat × dx_I) := [(0, (.lload_n 1, 1, .null, 0, 0, 0, [])), (1, (.lstore_n 3, 1, .null, 0, 0, 0, [])), (2, (.iconst 0, 1, .int 0, 0, 0, 0, [])), (3, (.istore 5, 2, .null, 0, 0, 0, [])), (5, (.iload 5, 2, .null, 0, 0, 0, [])), (7, (.bipush 6, 2, .int 6, 0, 0, 0, [])), (9, (.if_icmp .ge 63, 3, .null, 72, 0, 0, [])), (12, (.ldc2_w 228, 3, .long 31, 0, 0, 0, [])), (15, (.lload_n 3, 1, .null, 0, 0, 0, [])), (16, (.lmul, 1, .null, 0, 0, 0, [])), (17, (.aload_n 0, 1, .null, 0, 0, 0, [])), (18, (.getfield 35, 3, .null, 3, 4, 0, [])), (21, (.iload 5, 2, .null, 0, 0, 0, [])), (23, (.iaload, 1, .null, 0, 0, 0, [])), (24, (.i2l, 1, .null, 0, 0, 0, [])), (25, (.ladd, 1, .null, 0, 0, 0, [])), (26, (.lstore_n 3, 1, .null, 0, 0, 0, [])), (27, (.iconst 0, 1, .int 0, 0, 0, 0, [])), (28, (.istore 6, 2, .null, 0, 0, 0, [])), (30, (.iload 6, 2, .null, 0, 0, 0, [])), (32, (.aload_n 0, 1, .null, 0, 0, 0, [])), (33, (.getfield 35, 3, .null, 3, 4, 0, [])), (36, (.iload 5, 2, .null, 0, 0, 0, [])), (38, (.iaload, 1, .null, 0, 0, 0, [])), (39, (.if_icmp .ge 27, 3, .null, 66, 0, 0, [])), (42, (.ldc2_w 228, 3, .long 31, 0, 0, 0, [])), (45, (.lload_n 3, 1, .null, 0, 0, 0, [])), (46, (.lmul, 1, .null, 0, 0, 0, [])), (47, (.aload_n 0, 1, .null, 0, 0, 0, [])), (48, (.getfield 32, 3, .null, 3, 3, 0, [])), (51, (.iload 5, 2, .null, 0, 0, 0, [])), (53, (.aaload, 1, .null, 0, 0, 0, [])), (54, (.iload 6, 2, .null, 0, 0, 0, [])), (56, (.baload, 1, .null, 0, 0, 0, [])), (57, (.i2l, 1, .null, 0, 0, 0, [])), (58, (.ladd, 1, .null, 0, 0, 0, [])), (59, (.lstore_n 3, 1, .null, 0, 0, 0, [])), (60, (.iinc 6 1, 3, .int 1, 0, 0, 0, [])), (63, (.goto (-33), 3, .null, 30, 0, 0, [])), (66, (.iinc 5 1, 3, .int 1, 0, 0, 0, [])), (69, (.goto (-64), 3, .null, 5, 0, 0, [])), (72, (.lload_n 3, 1, .null, 0, 0, 0, [])), (73, (.lreturn, 1, .null, 0, 0, 0, []))]
def km_X3_digestSheets : dx_K := ((yX3_digestSheets, cX3_digestSheets, 7, some .long), kr_X3_digestSheets, kp_X3)
def kr_X3_within : List (Nat × dx_I) := [(0, (.iload_n 0, 1, .null, 0, 0, 0, [])), (1, (.iload_n 1, 1, .null, 0, 0, 0, [])), (2, (.if_icmp .lt 12, 3, .null, 14, 0, 0, [])), (5, (.iload_n 0, 1, .null, 0, 0, 0, [])), (6, (.iload_n 2, 1, .null, 0, 0, 0, [])), (7, (.if_icmp .gt 7, 3, .null, 14, 0, 0, [])), (10, (.iconst 1, 1, .int 1, 0, 0, 0, [])), (11, (.goto 4, 3, .null, 15, 0, 0, [])), (14, (.iconst 0, 1, .int 0, 0, 0, 0, [])), (15, (.ireturn, 1, .null, 0, 0, 0, []))]
def km_X3_within : dx_K := ((yX3_within, cX3_within, 3, some .boolean), kr_X3_within, kp_X3)
def kr_X3_isTurn : List (Nat × dx_I) := [(0, (.iload_n 0, 1, .null, 0, 0, 0, [])), (1, (.iconst 0, 1, .int 0, 0, 0, 0, [])), (2, (.iconst 3, 1, .int 3, 0, 0, 0, [])), (3, (.invokestatic 50, 3, .null, 2, 64, 3, [])), (6, (.ireturn, 1, .null, 0, 0, 0, []))]
def km_X3_isTurn : dx_K := ((yX3_isTurn, cX3_isTurn, 1, some .boolean), kr_X3_isTurn, kp_X3)
def kr_X3_isSheet : List (Nat × dx_I) := [(0, (.iload_n 0, 1, .null, 0, 0, 0, [])), (1, (.iconst 0, 1, .int 0, 0, 0, 0, [])), (2, (.iconst 5, 1, .int 5, 0, 0, 0, [])), (3, (.invokestatic 50, 3, .null, 2, 64, 3, [])), (6, (.ireturn, 1, .null, 0, 0, 0, []))]
def km_X3_isSheet : dx_K := ((yX3_isSheet, cX3_isSheet, 1, some .boolean), kr_X3_isSheet, kp_X3)
def kr_X3_isPoint : List (Nat × dx_I) := [(0, (.iload_n 0, 1, .null, 0, 0, 0, [])), (1, (.iconst 0, 1, .int 0, 0, 0, 0, [])), (2, (.bipush 24, 2, .int 24, 0, 0, 0, [])), (4, (.invokestatic 50, 3, .null, 2, 64, 3, [])), (7, (.ifCond .eq 17, 3, .null, 24, 0, 0, [])), (10, (.iload_n 1, 1, .null, 0, 0, 0, [])), (11, (.iconst 0, 1, .int 0, 0, 0, 0, [])), (12, (.bipush 24, 2, .int 24, 0, 0, 0, [])), (14, (.invokestatic 50, 3, .null, 2, 64, 3, [])), (17, (.ifCond .eq 7, 3, .null, 24, 0, 0, [])), (20, (.iconst 1, 1, .int 1, 0, 0, 0, [])), (21, (.goto 4, 3, .null, 25, 0, 0, [])), (24, (.iconst 0, 1, .int 0, 0, 0, 0, [])), (25, (.ireturn, 1, .null, 0, 0, 0, []))]
def km_X3_isPoint : dx_K := ((yX3_isPoint, cX3_isPoint, 2, some .boolean), kr_X3_isPoint, kp_X3)
def kr_X3_isLoad : List (Nat × dx_I) := [(0, (.iload_n 1, 1, .null, 0, 0, 0, [])), (1, (.iconst 0, 1, .int 0, 0, 0, 0, [])), (2, (.aload_n 0, 1, .null, 0, 0, 0, [])), (3, (.getfield 58, 3, .null, 3, 7, 0, [])), (6, (.iconst 1, 1, .int 1, 0, 0, 0, [])), (7, (.isub, 1, .null, 0, 0, 0, [])), (8, (.invokestatic 50, 3, .null, 2, 64, 3, [])), (11, (.ireturn, 1, .null, 0, 0, 0, []))]
def km_X3_isLoad : dx_K := ((yX3_isLoad, cX3_isLoad, 2, some .boolean), kr_X3_isLoad, kp_X3)
def kr_X3_reaches : List (Nat × dx_I) := [(0, (.iload_n 2, 1, .null, 0, 0, 0, [])), (1, (.ifCond .lt 33, 3, .null, 34, 0, 0, [])), (4, (.iload_n 3, 1, .null, 0, 0, 0, [])), (5, (.ifCond .lt 29, 3, .null, 34, 0, 0, [])), (8, (.iload_n 2, 1, .null, 0, 0, 0, [])), (9, (.aload_n 0, 1, .null, 0, 0, 0, [])), (10, (.getfield 35, 3, .null, 3, 4, 0, [])), (13, (.iload_n 1, 1, .null, 0, 0, 0, [])), (14, (.iaload, 1, .null, 0, 0, 0, [])), (15, (.if_icmp .gt 19, 3, .null, 34, 0, 0, [])), (18, (.iload_n 3, 1, .null, 0, 0, 0, [])), (19, (.aload_n 0, 1, .null, 0, 0, 0, [])), (20, (.getfield 35, 3, .null, 3, 4, 0, [])), (23, (.iload_n 1, 1, .null, 0, 0, 0, [])), (24, (.iaload, 1, .null, 0, 0, 0, [])), (25, (.iload_n 2, 1, .null, 0, 0, 0, [])), (26, (.isub, 1, .null, 0, 0, 0, [])), (27, (.if_icmp .gt 7, 3, .null, 34, 0, 0, [])), (30, (.iconst 1, 1, .int 1, 0, 0, 0, [])), (31, (.goto 4, 3, .null, 35, 0, 0, [])), (34, (.iconst 0, 1, .int 0, 0, 0, 0, [])), (35, (.ireturn, 1, .null, 0, 0, 0, []))]
def km_X3_reaches : dx_K := ((yX3_reaches, cX3_reaches, 4, some .boolean), kr_X3_reaches, kp_X3)
def kr_X3_find : List (Nat × dx_I) := [(0, (.aload_n 0, 1, .null, 0, 0, 0, [])), (1, (.iload_n 1, 1, .null, 0, 0, 0, [])), (2, (.putfield 225, 3, .null, 3, 8, 0, [])), (5, (.aload_n 0, 1, .null, 0, 0, 0, [])), (6, (.getfield 39, 3, .null, 3, 5, 0, [])), (9, (.iload_n 1, 1, .null, 0, 0, 0, [])), (10, (.dup2, 1, .null, 0, 0, 0, [])), (11, (.iaload, 1, .null, 0, 0, 0, [])), (12, (.iconst 1, 1, .int 1, 0, 0, 0, [])), (13, (.iadd, 1, .null, 0, 0, 0, [])), (14, (.iastore, 1, .null, 0, 0, 0, [])), (15, (.bipush (-3), 2, .int (-3), 0, 0, 0, [])), (17, (.ireturn, 1, .null, 0, 0, 0, []))]
def km_X3_find : dx_K := ((yX3_find, cX3_find, 2, some .int), kr_X3_find, kp_X3)
def kr_X3_tell : List (Nat × dx_I) := [(0, (.lload_n 1, 1, .null, 0, 0, 0, [])), (1, (.invokestatic 244, 3, .null, 9, 0, 0, [])), (4, (.lload_n 3, 1, .null, 0, 0, 0, [])), (5, (.invokestatic 247, 3, .null, 2, 72, 2, [])), (8, (.lstore 5, 2, .null, 0, 0, 0, [])), (10, (.lload 5, 2, .null, 0, 0, 0, [])), (12, (.lconst 0, 1, .long 0, 0, 0, 0, [])), (13, (.lcmp, 1, .null, 0, 0, 0, [])), (14, (.ifCond .le 19, 3, .null, 33, 0, 0, [])), (17, (.aload_n 0, 1, .null, 0, 0, 0, [])), (18, (.lload_n 1, 1, .null, 0, 0, 0, [])), (19, (.lload 5, 2, .null, 0, 0, 0, [])), (21, (.ldiv, 1, .null, 0, 0, 0, [])), (22, (.putfield 218, 3, .null, 3, 9, 0, [])), (25, (.aload_n 0, 1, .null, 0, 0, 0, [])), (26, (.lload_n 3, 1, .null, 0, 0, 0, [])), (27, (.lload 5, 2, .null, 0, 0, 0, [])), (29, (.ldiv, 1, .null, 0, 0, 0, [])), (30, (.putfield 46, 3, .null, 3, 10, 0, [])), (33, (.iconst 1, 1, .int 1, 0, 0, 0, [])), (34, (.ireturn, 1, .null, 0, 0, 0, []))]
def km_X3_tell : dx_K := ((yX3_tell, cX3_tell, 7, some .int), kr_X3_tell, kp_X3)
def kr_X3_commonDivisor : List (Nat × dx_I) := [(0, (.lload_n 0, 1, .null, 0, 0, 0, [])), (1, (.lstore 4, 2, .null, 0, 0, 0, [])), (3, (.lload_n 2, 1, .null, 0, 0, 0, [])), (4, (.lstore 6, 2, .null, 0, 0, 0, [])), (6, (.iconst 0, 1, .int 0, 0, 0, 0, [])), (7, (.istore 8, 2, .null, 0, 0, 0, [])), (9, (.iload 8, 2, .null, 0, 0, 0, [])), (11, (.bipush 100, 2, .int 100, 0, 0, 0, [])), (13, (.if_icmp .ge 31, 3, .null, 44, 0, 0, [])), (16, (.lload 6, 2, .null, 0, 0, 0, [])), (18, (.lconst 0, 1, .long 0, 0, 0, 0, [])), (19, (.lcmp, 1, .null, 0, 0, 0, [])), (20, (.ifCond .eq 24, 3, .null, 44, 0, 0, [])), (23, (.lload 4, 2, .null, 0, 0, 0, [])), (25, (.lload 6, 2, .null, 0, 0, 0, [])), (27, (.lrem, 1, .null, 0, 0, 0, [])), (28, (.lstore 9, 2, .null, 0, 0, 0, [])), (30, (.lload 6, 2, .null, 0, 0, 0, [])), (32, (.lstore 4, 2, .null, 0, 0, 0, [])), (34, (.lload 9, 2, .null, 0, 0, 0, [])), (36, (.lstore 6, 2, .null, 0, 0, 0, [])), (38, (.iinc 8 1, 3, .int 1, 0, 0, 0, [])), (41, (.goto (-32), 3, .null, 9, 0, 0, [])), (44, (.lload 4, 2, .null, 0, 0, 0, [])), (46, (.lreturn, 1, .null, 0, 0, 0, []))]
def km_X3_commonDivisor : dx_K := ((yX3_commonDivisor, cX3_commonDivisor, 11, some .long), kr_X3_commonDivisor, kp_X3)
def kr_X3_loadsThere : List (Nat × dx_I) := [(0, (.iconst 0, 1, .int 0, 0, 0, 0, [])), (1, (.istore_n 1, 1, .null, 0, 0, 0, [])), (2, (.iconst 0, 1, .int 0, 0, 0, 0, [])), (3, (.istore_n 2, 1, .null, 0, 0, 0, [])), (4, (.iload_n 2, 1, .null, 0, 0, 0, [])), (5, (.aload_n 0, 1, .null, 0, 0, 0, [])), (6, (.getfield 58, 3, .null, 3, 7, 0, [])), (9, (.if_icmp .ge 29, 3, .null, 38, 0, 0, [])), (12, (.iload_n 1, 1, .null, 0, 0, 0, [])), (13, (.aload_n 0, 1, .null, 0, 0, 0, [])), (14, (.getfield 25, 3, .null, 3, 2, 0, [])), (17, (.iload_n 2, 1, .null, 0, 0, 0, [])), (18, (.aaload, 1, .null, 0, 0, 0, [])), (19, (.getfield 107, 3, .null, 2, 0, 0, [])), (22, (.ifCond .eq 7, 3, .null, 29, 0, 0, [])), (25, (.iconst 1, 1, .int 1, 0, 0, 0, [])), (26, (.goto 4, 3, .null, 30, 0, 0, [])), (29, (.iconst 0, 1, .int 0, 0, 0, 0, [])), (30, (.iadd, 1, .null, 0, 0, 0, [])), (31, (.istore_n 1, 1, .null, 0, 0, 0, [])), (32, (.iinc 2 1, 3, .int 1, 0, 0, 0, [])), (35, (.goto (-31), 3, .null, 4, 0, 0, [])), (38, (.iload_n 1, 1, .null, 0, 0, 0, [])), (39, (.ireturn, 1, .null, 0, 0, 0, []))]
def km_X3_loadsThere : dx_K := ((yX3_loadsThere, cX3_loadsThere, 3, some .int), kr_X3_loadsThere, kp_X3)
def kr_X3_wholeWeight : List (Nat × dx_I) := [(0, (.aload_n 0, 1, .null, 0, 0, 0, [])), (1, (.getfield 12, 3, .null, 3, 0, 0, [])), (4, (.invokevirtual 133, 3, .ref 0, 1, 7, 0, [])), (7, (.istore_n 1, 1, .null, 0, 0, 0, [])), (8, (.iconst 0, 1, .int 0, 0, 0, 0, [])), (9, (.istore_n 2, 1, .null, 0, 0, 0, [])), (10, (.iload_n 2, 1, .null, 0, 0, 0, [])), (11, (.aload_n 0, 1, .null, 0, 0, 0, [])), (12, (.getfield 58, 3, .null, 3, 7, 0, [])), (15, (.if_icmp .ge 37, 3, .null, 52, 0, 0, [])), (18, (.iload_n 1, 1, .null, 0, 0, 0, [])), (19, (.aload_n 0, 1, .null, 0, 0, 0, [])), (20, (.getfield 25, 3, .null, 3, 2, 0, [])), (23, (.iload_n 2, 1, .null, 0, 0, 0, [])), (24, (.aaload, 1, .null, 0, 0, 0, [])), (25, (.getfield 107, 3, .null, 2, 0, 0, [])), (28, (.ifCond .eq 15, 3, .null, 43, 0, 0, [])), (31, (.aload_n 0, 1, .null, 0, 0, 0, [])), (32, (.getfield 25, 3, .null, 3, 2, 0, [])), (35, (.iload_n 2, 1, .null, 0, 0, 0, [])), (36, (.aaload, 1, .null, 0, 0, 0, [])), (37, (.getfield 251, 3, .null, 2, 4, 0, [])), (40, (.goto 4, 3, .null, 44, 0, 0, [])), (43, (.iconst 0, 1, .int 0, 0, 0, 0, [])), (44, (.iadd, 1, .null, 0, 0, 0, [])), (45, (.istore_n 1, 1, .null, 0, 0, 0, [])), (46, (.iinc 2 1, 3, .int 1, 0, 0, 0, [])), (49, (.goto (-39), 3, .null, 10, 0, 0, [])), (52, (.iload_n 1, 1, .null, 0, 0, 0, [])), (53, (.ireturn, 1, .null, 0, 0, 0, []))]
def km_X3_wholeWeight : dx_K := ((yX3_wholeWeight, cX3_wholeWeight, 3, some .int), kr_X3_wholeWeight, kp_X3)
def kr_X3_settle : List (Nat × dx_I) := [(0, (.iload_n 1, 1, .null, 0, 0, 0, [])), (1, (.invokestatic 171, 3, .null, 2, 65, 1, [])), (4, (.ifCond .ne 5, 3, .null, 9, 0, 0, [])), (7, (.iconst (-1), 1, .int (-1), 0, 0, 0, [])), (8, (.ireturn, 1, .null, 0, 0, 0, [])), (9, (.aload_n 0, 1, .null, 0, 0, 0, [])), (10, (.invokevirtual 126, 3, .ref 3, 1, 74, 0, [])), (13, (.istore_n 2, 1, .null, 0, 0, 0, [])), (14, (.iload_n 2, 1, .null, 0, 0, 0, [])), (15, (.ifCond .eq 13, 3, .null, 28, 0, 0, [])), (18, (.aload_n 0, 1, .null, 0, 0, 0, [])), (19, (.getfield 12, 3, .null, 3, 0, 0, [])), (22, (.invokevirtual 130, 3, .ref 0, 1, 6, 0, [])), (25, (.ifCond .ne 6, 3, .null, 31, 0, 0, [])), (28, (.bipush (-4), 2, .int (-4), 0, 0, 0, [])), (30, (.ireturn, 1, .null, 0, 0, 0, [])), (31, (.aload_n 0, 1, .null, 0, 0, 0, [])), (32, (.getfield 19, 3, .null, 3, 1, 0, [])), (35, (.aload_n 0, 1, .null, 0, 0, 0, [])), (36, (.getfield 12, 3, .null, 3, 0, 0, [])), (39, (.iload_n 1, 1, .null, 0, 0, 0, [])), (40, (.invokevirtual 198, 3, .ref 1, 1, 10, 2, [])), (43, (.aload_n 0, 1, .null, 0, 0, 0, [])), (44, (.getfield 19, 3, .null, 3, 1, 0, [])), (47, (.iload_n 2, 1, .null, 0, 0, 0, [])), (48, (.aload_n 0, 1, .null, 0, 0, 0, [])), (49, (.getfield 42, 3, .null, 3, 6, 0, [])), (52, (.invokevirtual 205, 3, .ref 1, 1, 16, 2, [])), (55, (.ifCond .eq 7, 3, .null, 62, 0, 0, [])), (58, (.iconst 1, 1, .int 1, 0, 0, 0, [])), (59, (.goto 5, 3, .null, 64, 0, 0, [])), (62, (.bipush (-5), 2, .int (-5), 0, 0, 0, [])), (64, (.ireturn, 1, .null, 0, 0, 0, []))]
def km_X3_settle : dx_K := ((yX3_settle, cX3_settle, 3, some .int), kr_X3_settle, kp_X3)
def kr_X3_weightAcross : List (Nat × dx_I) := [(0, (.aload_n 0, 1, .null, 0, 0, 0, [])), (1, (.getfield 12, 3, .null, 3, 0, 0, [])), (4, (.iload_n 1, 1, .null, 0, 0, 0, [])), (5, (.invokevirtual 253, 3, .ref 0, 1, 8, 1, [])), (8, (.lstore_n 2, 1, .null, 0, 0, 0, [])), (9, (.iconst 0, 1, .int 0, 0, 0, 0, [])), (10, (.istore 4, 2, .null, 0, 0, 0, [])), (12, (.iload 4, 2, .null, 0, 0, 0, [])), (14, (.aload_n 0, 1, .null, 0, 0, 0, [])), (15, (.getfield 58, 3, .null, 3, 7, 0, [])), (18, (.if_icmp .ge 68, 3, .null, 86, 0, 0, [])), (21, (.aload_n 0, 1, .null, 0, 0, 0, [])), (22, (.getfield 25, 3, .null, 3, 2, 0, [])), (25, (.iload 4, 2, .null, 0, 0, 0, [])), (27, (.aaload, 1, .null, 0, 0, 0, [])), (28, (.astore 5, 2, .null, 0, 0, 0, [])), (30, (.aload 5, 2, .null, 0, 0, 0, [])), (32, (.getfield 107, 3, .null, 2, 0, 0, [])), (35, (.ifCond .eq 45, 3, .null, 80, 0, 0, [])), (38, (.lload_n 2, 1, .null, 0, 0, 0, [])), (39, (.aload 5, 2, .null, 0, 0, 0, [])), (41, (.getfield 251, 3, .null, 2, 4, 0, [])), (44, (.iload_n 1, 1, .null, 0, 0, 0, [])), (45, (.aload 5, 2, .null, 0, 0, 0, [])), (47, (.getfield 114, 3, .null, 2, 2, 0, [])), (50, (.aload 5, 2, .null, 0, 0, 0, [])), (52, (.getfield 117, 3, .null, 2, 3, 0, [])), (55, (.iconst 2, 1, .int 2, 0, 0, 0, [])), (56, (.aload_n 0, 1, .null, 0, 0, 0, [])), (57, (.getfield 12, 3, .null, 3, 0, 0, [])), (60, (.getfield 90, 3, .null, 0, 1, 0, [])), (63, (.imul, 1, .null, 0, 0, 0, [])), (64, (.iconst 2, 1, .int 2, 0, 0, 0, [])), (65, (.aload_n 0, 1, .null, 0, 0, 0, [])), (66, (.getfield 12, 3, .null, 3, 0, 0, [])), (69, (.getfield 221, 3, .null, 0, 2, 0, [])), (72, (.imul, 1, .null, 0, 0, 0, [])), (73, (.invokestatic 254, 3, .null, 2, 80, 5, [])), (76, (.imul, 1, .null, 0, 0, 0, [])), (77, (.i2l, 1, .null, 0, 0, 0, [])), (78, (.ladd, 1, .null, 0, 0, 0, [])), (79, (.lstore_n 2, 1, .null, 0, 0, 0, [])), (80, (.iinc 4 1, 3, .int 1, 0, 0, 0, [])), (83, (.goto (-71), 3, .null, 12, 0, 0, [])), (86, (.lload_n 2, 1, .null, 0, 0, 0, [])), (87, (.lreturn, 1, .null, 0, 0, 0, []))]
def km_X3_weightAcross : dx_K := ((yX3_weightAcross, cX3_weightAcross, 6, some .long), kr_X3_weightAcross, kp_X3)
def kr_X3_weightUp : List (Nat × dx_I) := [(0, (.aload_n 0, 1, .null, 0, 0, 0, [])), (1, (.getfield 12, 3, .null, 3, 0, 0, [])), (4, (.iload_n 1, 1, .null, 0, 0, 0, [])), (5, (.invokevirtual 258, 3, .ref 0, 1, 9, 1, [])), (8, (.lstore_n 2, 1, .null, 0, 0, 0, [])), (9, (.iconst 0, 1, .int 0, 0, 0, 0, [])), (10, (.istore 4, 2, .null, 0, 0, 0, [])), (12, (.iload 4, 2, .null, 0, 0, 0, [])), (14, (.aload_n 0, 1, .null, 0, 0, 0, [])), (15, (.getfield 58, 3, .null, 3, 7, 0, [])), (18, (.if_icmp .ge 74, 3, .null, 92, 0, 0, [])), (21, (.aload_n 0, 1, .null, 0, 0, 0, [])), (22, (.getfield 25, 3, .null, 3, 2, 0, [])), (25, (.iload 4, 2, .null, 0, 0, 0, [])), (27, (.aaload, 1, .null, 0, 0, 0, [])), (28, (.astore 5, 2, .null, 0, 0, 0, [])), (30, (.aload 5, 2, .null, 0, 0, 0, [])), (32, (.getfield 107, 3, .null, 2, 0, 0, [])), (35, (.ifCond .eq 51, 3, .null, 86, 0, 0, [])), (38, (.lload_n 2, 1, .null, 0, 0, 0, [])), (39, (.aload 5, 2, .null, 0, 0, 0, [])), (41, (.getfield 251, 3, .null, 2, 4, 0, [])), (44, (.iload_n 1, 1, .null, 0, 0, 0, [])), (45, (.aload 5, 2, .null, 0, 0, 0, [])), (47, (.getfield 114, 3, .null, 2, 2, 0, [])), (50, (.aload 5, 2, .null, 0, 0, 0, [])), (52, (.getfield 117, 3, .null, 2, 3, 0, [])), (55, (.iconst 2, 1, .int 2, 0, 0, 0, [])), (56, (.aload_n 0, 1, .null, 0, 0, 0, [])), (57, (.getfield 12, 3, .null, 3, 0, 0, [])), (60, (.getfield 90, 3, .null, 0, 1, 0, [])), (63, (.imul, 1, .null, 0, 0, 0, [])), (64, (.iconst 2, 1, .int 2, 0, 0, 0, [])), (65, (.aload_n 0, 1, .null, 0, 0, 0, [])), (66, (.getfield 12, 3, .null, 3, 0, 0, [])), (69, (.getfield 221, 3, .null, 0, 2, 0, [])), (72, (.imul, 1, .null, 0, 0, 0, [])), (73, (.invokestatic 259, 3, .null, 2, 81, 5, [])), (76, (.aload 5, 2, .null, 0, 0, 0, [])), (78, (.getfield 120, 3, .null, 2, 5, 0, [])), (81, (.iadd, 1, .null, 0, 0, 0, [])), (82, (.imul, 1, .null, 0, 0, 0, [])), (83, (.i2l, 1, .null, 0, 0, 0, [])), (84, (.ladd, 1, .null, 0, 0, 0, [])), (85, (.lstore_n 2, 1, .null, 0, 0, 0, [])), (86, (.iinc 4 1, 3, .int 1, 0, 0, 0, [])), (89, (.goto (-77), 3, .null, 12, 0, 0, [])), (92, (.lload_n 2, 1, .null, 0, 0, 0, [])), (93, (.lreturn, 1, .null, 0, 0, 0, []))]
def km_X3_weightUp : dx_K := ((yX3_weightUp, cX3_weightUp, 6, some .long), kr_X3_weightUp, kp_X3)
def kr_X3_leaning : List (Nat × dx_I) := [(0, (.aload_n 0, 1, .null, 0, 0, 0, [])), (1, (.getfield 19, 3, .null, 3, 1, 0, [])), (4, (.invokevirtual 155, 3, .ref 1, 1, 20, 0, [])), (7, (.aload_n 0, 1, .null, 0, 0, 0, [])), (8, (.getfield 42, 3, .null, 3, 6, 0, [])), (11, (.i2l, 1, .null, 0, 0, 0, [])), (12, (.lmul, 1, .null, 0, 0, 0, [])), (13, (.lstore_n 2, 1, .null, 0, 0, 0, [])), (14, (.aload_n 0, 1, .null, 0, 0, 0, [])), (15, (.iload_n 1, 1, .null, 0, 0, 0, [])), (16, (.invokevirtual 164, 3, .ref 3, 1, 76, 1, [])), (19, (.aload_n 0, 1, .null, 0, 0, 0, [])), (20, (.getfield 19, 3, .null, 3, 1, 0, [])), (23, (.getfield 142, 3, .null, 1, 8, 0, [])), (26, (.lmul, 1, .null, 0, 0, 0, [])), (27, (.lstore 4, 2, .null, 0, 0, 0, [])), (29, (.lload 4, 2, .null, 0, 0, 0, [])), (31, (.lload_n 2, 1, .null, 0, 0, 0, [])), (32, (.lcmp, 1, .null, 0, 0, 0, [])), (33, (.ifCond .ne 5, 3, .null, 38, 0, 0, [])), (36, (.iconst 0, 1, .int 0, 0, 0, 0, [])), (37, (.ireturn, 1, .null, 0, 0, 0, [])), (38, (.lload 4, 2, .null, 0, 0, 0, [])), (40, (.lload_n 2, 1, .null, 0, 0, 0, [])), (41, (.lcmp, 1, .null, 0, 0, 0, [])), (42, (.ifCond .ge 7, 3, .null, 49, 0, 0, [])), (45, (.iconst 1, 1, .int 1, 0, 0, 0, [])), (46, (.goto 4, 3, .null, 50, 0, 0, [])), (49, (.iconst 2, 1, .int 2, 0, 0, 0, [])), (50, (.ireturn, 1, .null, 0, 0, 0, []))]
def km_X3_leaning : dx_K := ((yX3_leaning, cX3_leaning, 6, some .int), kr_X3_leaning, kp_X3)
def kr_X3_holding : List (Nat × dx_I) := [(0, (.aload_n 0, 1, .null, 0, 0, 0, [])), (1, (.iload_n 1, 1, .null, 0, 0, 0, [])), (2, (.invokevirtual 183, 3, .ref 3, 1, 78, 1, [])), (5, (.ifCond .eq 5, 3, .null, 10, 0, 0, [])), (8, (.iconst 0, 1, .int 0, 0, 0, 0, [])), (9, (.ireturn, 1, .null, 0, 0, 0, [])), (10, (.aload_n 0, 1, .null, 0, 0, 0, [])), (11, (.getfield 19, 3, .null, 3, 1, 0, [])), (14, (.getfield 142, 3, .null, 1, 8, 0, [])), (17, (.aload_n 0, 1, .null, 0, 0, 0, [])), (18, (.getfield 19, 3, .null, 3, 1, 0, [])), (21, (.getfield 142, 3, .null, 1, 8, 0, [])), (24, (.lmul, 1, .null, 0, 0, 0, [])), (25, (.lstore_n 2, 1, .null, 0, 0, 0, [])), (26, (.aload_n 0, 1, .null, 0, 0, 0, [])), (27, (.iload_n 1, 1, .null, 0, 0, 0, [])), (28, (.invokevirtual 168, 3, .ref 3, 1, 77, 1, [])), (31, (.lload_n 2, 1, .null, 0, 0, 0, [])), (32, (.lmul, 1, .null, 0, 0, 0, [])), (33, (.aload_n 0, 1, .null, 0, 0, 0, [])), (34, (.getfield 19, 3, .null, 3, 1, 0, [])), (37, (.invokevirtual 161, 3, .ref 1, 1, 21, 0, [])), (40, (.aload_n 0, 1, .null, 0, 0, 0, [])), (41, (.getfield 42, 3, .null, 3, 6, 0, [])), (44, (.i2l, 1, .null, 0, 0, 0, [])), (45, (.lmul, 1, .null, 0, 0, 0, [])), (46, (.lsub, 1, .null, 0, 0, 0, [])), (47, (.lstore 4, 2, .null, 0, 0, 0, [])), (49, (.aload_n 0, 1, .null, 0, 0, 0, [])), (50, (.getfield 19, 3, .null, 3, 1, 0, [])), (53, (.invokevirtual 186, 3, .ref 1, 1, 22, 0, [])), (56, (.aload_n 0, 1, .null, 0, 0, 0, [])), (57, (.getfield 19, 3, .null, 3, 1, 0, [])), (60, (.getfield 189, 3, .null, 1, 9, 0, [])), (63, (.ldc2_w 159, 3, .long 2, 0, 0, 0, [])), (66, (.lmul, 1, .null, 0, 0, 0, [])), (67, (.aload_n 0, 1, .null, 0, 0, 0, [])), (68, (.getfield 42, 3, .null, 3, 6, 0, [])), (71, (.i2l, 1, .null, 0, 0, 0, [])), (72, (.lmul, 1, .null, 0, 0, 0, [])), (73, (.lload_n 2, 1, .null, 0, 0, 0, [])), (74, (.lmul, 1, .null, 0, 0, 0, [])), (75, (.lstore 6, 2, .null, 0, 0, 0, [])), (77, (.lload 6, 2, .null, 0, 0, 0, [])), (79, (.lload 4, 2, .null, 0, 0, 0, [])), (81, (.aload_n 0, 1, .null, 0, 0, 0, [])), (82, (.getfield 19, 3, .null, 3, 1, 0, [])), (85, (.getfield 192, 3, .null, 1, 10, 0, [])), (88, (.lmul, 1, .null, 0, 0, 0, [])), (89, (.invokestatic 262, 3, .null, 2, 144, 2, [])), (92, (.istore 8, 2, .null, 0, 0, 0, [])), (94, (.iload 8, 2, .null, 0, 0, 0, [])), (96, (.ifCond .le 7, 3, .null, 103, 0, 0, [])), (99, (.iconst 2, 1, .int 2, 0, 0, 0, [])), (100, (.goto 13, 3, .null, 113, 0, 0, [])), (103, (.iload 8, 2, .null, 0, 0, 0, [])), (105, (.ifCond .ne 7, 3, .null, 112, 0, 0, [])), (108, (.iconst 1, 1, .int 1, 0, 0, 0, [])), (109, (.goto 4, 3, .null, 113, 0, 0, [])), (112, (.iconst 0, 1, .int 0, 0, 0, 0, [])), (113, (.ireturn, 1, .null, 0, 0, 0, []))]
def km_X3_holding : dx_K := ((yX3_holding, cX3_holding, 9, some .int), kr_X3_holding, kp_X3)
def kr_X3_turnedAcross : List (Nat × dx_I) := [(0, (.iload_n 0, 1, .null, 0, 0, 0, [])), (1, (.tableswitch 38 1 3 #[27, 32, 36], 27, .null, 39, 0, 0, [(1, 28), (2, 33), (3, 37)])), (28, (.iload 4, 2, .null, 0, 0, 0, [])), (30, (.iload_n 2, 1, .null, 0, 0, 0, [])), (31, (.isub, 1, .null, 0, 0, 0, [])), (32, (.ireturn, 1, .null, 0, 0, 0, [])), (33, (.iload_n 3, 1, .null, 0, 0, 0, [])), (34, (.iload_n 1, 1, .null, 0, 0, 0, [])), (35, (.isub, 1, .null, 0, 0, 0, [])), (36, (.ireturn, 1, .null, 0, 0, 0, [])), (37, (.iload_n 2, 1, .null, 0, 0, 0, [])), (38, (.ireturn, 1, .null, 0, 0, 0, [])), (39, (.iload_n 1, 1, .null, 0, 0, 0, [])), (40, (.ireturn, 1, .null, 0, 0, 0, []))]
def km_X3_turnedAcross : dx_K := ((yX3_turnedAcross, cX3_turnedAcross, 5, some .int), kr_X3_turnedAcross, kp_X3)
def kr_X3_turnedUp : List (Nat × dx_I) := [(0, (.iload_n 0, 1, .null, 0, 0, 0, [])), (1, (.tableswitch 38 1 3 #[27, 29, 34], 27, .null, 39, 0, 0, [(1, 28), (2, 30), (3, 35)])), (28, (.iload_n 1, 1, .null, 0, 0, 0, [])), (29, (.ireturn, 1, .null, 0, 0, 0, [])), (30, (.iload 4, 2, .null, 0, 0, 0, [])), (32, (.iload_n 2, 1, .null, 0, 0, 0, [])), (33, (.isub, 1, .null, 0, 0, 0, [])), (34, (.ireturn, 1, .null, 0, 0, 0, [])), (35, (.iload_n 3, 1, .null, 0, 0, 0, [])), (36, (.iload_n 1, 1, .null, 0, 0, 0, [])), (37, (.isub, 1, .null, 0, 0, 0, [])), (38, (.ireturn, 1, .null, 0, 0, 0, [])), (39, (.iload_n 2, 1, .null, 0, 0, 0, [])), (40, (.ireturn, 1, .null, 0, 0, 0, []))]
def km_X3_turnedUp : dx_K := ((yX3_turnedUp, cX3_turnedUp, 5, some .int), kr_X3_turnedUp, kp_X3)
def kr_X4_in : List (Nat × dx_I) := [(0, (.iload_n 0, 1, .null, 0, 0, 0, [])), (1, (.iload_n 1, 1, .null, 0, 0, 0, [])), (2, (.if_icmp .lt 12, 3, .null, 14, 0, 0, [])), (5, (.iload_n 0, 1, .null, 0, 0, 0, [])), (6, (.iload_n 2, 1, .null, 0, 0, 0, [])), (7, (.if_icmp .gt 7, 3, .null, 14, 0, 0, [])), (10, (.iconst 1, 1, .int 1, 0, 0, 0, [])), (11, (.goto 4, 3, .null, 15, 0, 0, [])), (14, (.iconst 0, 1, .int 0, 0, 0, 0, [])), (15, (.ireturn, 1, .null, 0, 0, 0, []))]
def km_X4_in : dx_K := ((yX4_in, cX4_in, 3, some .boolean), kr_X4_in, kp_X4)
def kr_X4_meets : List (Nat × dx_I) := [(0, (.aload_n 0, 1, .null, 0, 0, 0, [])), (1, (.iload_n 1, 1, .null, 0, 0, 0, [])), (2, (.putfield 63, 3, .null, 4, 0, 0, [])), (5, (.aload_n 0, 1, .null, 0, 0, 0, [])), (6, (.getfield 7, 3, .null, 4, 1, 0, [])), (9, (.iload_n 1, 1, .null, 0, 0, 0, [])), (10, (.dup2, 1, .null, 0, 0, 0, [])), (11, (.iaload, 1, .null, 0, 0, 0, [])), (12, (.iconst 1, 1, .int 1, 0, 0, 0, [])), (13, (.iadd, 1, .null, 0, 0, 0, [])), (14, (.iastore, 1, .null, 0, 0, 0, [])), (15, (.bipush (-3), 2, .int (-3), 0, 0, 0, [])), (17, (.ireturn, 1, .null, 0, 0, 0, []))]
def km_X4_meets : dx_K := ((yX4_meets, cX4_meets, 2, some .int), kr_X4_meets, kp_X4)
def kr_X4_finding : List (Nat × dx_I) := [(0, (.aload_n 0, 1, .null, 0, 0, 0, [])), (1, (.getfield 63, 3, .null, 4, 0, 0, [])), (4, (.ireturn, 1, .null, 0, 0, 0, []))]
def km_X4_finding : dx_K := ((yX4_finding, cX4_finding, 1, some .int), kr_X4_finding, kp_X4)
def kr_X4_findings : List (Nat × dx_I) := [(0, (.iload_n 1, 1, .null, 0, 0, 0, [])), (1, (.iconst 1, 1, .int 1, 0, 0, 0, [])), (2, (.iconst 5, 1, .int 5, 0, 0, 0, [])), (3, (.invokestatic 66, 3, .null, 2, 82, 3, [])), (6, (.ifCond .eq 12, 3, .null, 18, 0, 0, [])), (9, (.aload_n 0, 1, .null, 0, 0, 0, [])), (10, (.getfield 7, 3, .null, 4, 1, 0, [])), (13, (.iload_n 1, 1, .null, 0, 0, 0, [])), (14, (.iaload, 1, .null, 0, 0, 0, [])), (15, (.goto 4, 3, .null, 19, 0, 0, [])), (18, (.iconst (-1), 1, .int (-1), 0, 0, 0, [])), (19, (.ireturn, 1, .null, 0, 0, 0, []))]
def km_X4_findings : dx_K := ((yX4_findings, cX4_findings, 2, some .int), kr_X4_findings, kp_X4)
def kr_X4_gcd : List (Nat × dx_I) := [(0, (.lload_n 0, 1, .null, 0, 0, 0, [])), (1, (.lconst 0, 1, .long 0, 0, 0, 0, [])), (2, (.lcmp, 1, .null, 0, 0, 0, [])), (3, (.ifCond .ge 8, 3, .null, 11, 0, 0, [])), (6, (.lload_n 0, 1, .null, 0, 0, 0, [])), (7, (.lneg, 1, .null, 0, 0, 0, [])), (8, (.goto 4, 3, .null, 12, 0, 0, [])), (11, (.lload_n 0, 1, .null, 0, 0, 0, [])), (12, (.lstore 4, 2, .null, 0, 0, 0, [])), (14, (.lload_n 2, 1, .null, 0, 0, 0, [])), (15, (.lstore 6, 2, .null, 0, 0, 0, [])), (17, (.lload 6, 2, .null, 0, 0, 0, [])), (19, (.lconst 0, 1, .long 0, 0, 0, 0, [])), (20, (.lcmp, 1, .null, 0, 0, 0, [])), (21, (.ifCond .eq 21, 3, .null, 42, 0, 0, [])), (24, (.lload 4, 2, .null, 0, 0, 0, [])), (26, (.lload 6, 2, .null, 0, 0, 0, [])), (28, (.lrem, 1, .null, 0, 0, 0, [])), (29, (.lstore 8, 2, .null, 0, 0, 0, [])), (31, (.lload 6, 2, .null, 0, 0, 0, [])), (33, (.lstore 4, 2, .null, 0, 0, 0, [])), (35, (.lload 8, 2, .null, 0, 0, 0, [])), (37, (.lstore 6, 2, .null, 0, 0, 0, [])), (39, (.goto (-22), 3, .null, 17, 0, 0, [])), (42, (.lload 4, 2, .null, 0, 0, 0, [])), (44, (.lreturn, 1, .null, 0, 0, 0, []))]
def km_X4_gcd : dx_K := ((yX4_gcd, cX4_gcd, 10, some .long), kr_X4_gcd, kp_X4)
def kr_X4_tells : List (Nat × dx_I) := [(0, (.lload_n 1, 1, .null, 0, 0, 0, [])), (1, (.lload_n 3, 1, .null, 0, 0, 0, [])), (2, (.invokestatic 70, 3, .null, 2, 86, 2, [])), (5, (.lstore 5, 2, .null, 0, 0, 0, [])), (7, (.aload_n 0, 1, .null, 0, 0, 0, [])), (8, (.lload_n 1, 1, .null, 0, 0, 0, [])), (9, (.lload 5, 2, .null, 0, 0, 0, [])), (11, (.ldiv, 1, .null, 0, 0, 0, [])), (12, (.putfield 74, 3, .null, 4, 2, 0, [])), (15, (.aload_n 0, 1, .null, 0, 0, 0, [])), (16, (.lload_n 3, 1, .null, 0, 0, 0, [])), (17, (.lload 5, 2, .null, 0, 0, 0, [])), (19, (.ldiv, 1, .null, 0, 0, 0, [])), (20, (.putfield 55, 3, .null, 4, 3, 0, [])), (23, (.iconst 1, 1, .int 1, 0, 0, 0, [])), (24, (.ireturn, 1, .null, 0, 0, 0, []))]
def km_X4_tells : dx_K := ((yX4_tells, cX4_tells, 7, some .int), kr_X4_tells, kp_X4)
def kr_X4_upper : List (Nat × dx_I) := [(0, (.aload_n 0, 1, .null, 0, 0, 0, [])), (1, (.getfield 74, 3, .null, 4, 2, 0, [])), (4, (.lreturn, 1, .null, 0, 0, 0, []))]
def km_X4_upper : dx_K := ((yX4_upper, cX4_upper, 1, some .long), kr_X4_upper, kp_X4)
def kr_X4_lower : List (Nat × dx_I) := [(0, (.aload_n 0, 1, .null, 0, 0, 0, [])), (1, (.getfield 55, 3, .null, 4, 3, 0, [])), (4, (.lreturn, 1, .null, 0, 0, 0, []))]
def km_X4_lower : dx_K := ((yX4_lower, cX4_lower, 1, some .long), kr_X4_lower, kp_X4)
def kr_X4_begin : List (Nat × dx_I) := [(0, (.aload_n 0, 1, .null, 0, 0, 0, [])), (1, (.iload_n 1, 1, .null, 0, 0, 0, [])), (2, (.putfield 77, 3, .null, 4, 4, 0, [])), (5, (.aload_n 0, 1, .null, 0, 0, 0, [])), (6, (.iload_n 2, 1, .null, 0, 0, 0, [])), (7, (.putfield 80, 3, .null, 4, 5, 0, [])), (10, (.aload_n 0, 1, .null, 0, 0, 0, [])), (11, (.iconst 0, 1, .int 0, 0, 0, 0, [])), (12, (.putfield 83, 3, .null, 4, 11, 0, [])), (15, (.iconst 0, 1, .int 0, 0, 0, 0, [])), (16, (.istore_n 3, 1, .null, 0, 0, 0, [])), (17, (.iload_n 3, 1, .null, 0, 0, 0, [])), (18, (.sipush 144, 3, .int 144, 0, 0, 0, [])), (21, (.if_icmp .ge 17, 3, .null, 38, 0, 0, [])), (24, (.aload_n 0, 1, .null, 0, 0, 0, [])), (25, (.getfield 13, 3, .null, 4, 7, 0, [])), (28, (.iload_n 3, 1, .null, 0, 0, 0, [])), (29, (.bipush (-9), 2, .int (-9), 0, 0, 0, [])), (31, (.iastore, 1, .null, 0, 0, 0, [])), (32, (.iinc 3 1, 3, .int 1, 0, 0, 0, [])), (35, (.goto (-18), 3, .null, 17, 0, 0, [])), (38, (.return_, 1, .null, 0, 0, 0, []))]
def km_X4_begin : dx_K := ((yX4_begin, cX4_begin, 4, none), kr_X4_begin, kp_X4)
def kr_X4_log : List (Nat × dx_I) := [(0, (.iload_n 1, 1, .null, 0, 0, 0, [])), (1, (.iconst 1, 1, .int 1, 0, 0, 0, [])), (2, (.bipush 12, 2, .int 12, 0, 0, 0, [])), (4, (.invokestatic 66, 3, .null, 2, 82, 3, [])), (7, (.ifCond .eq 13, 3, .null, 20, 0, 0, [])), (10, (.iload_n 2, 1, .null, 0, 0, 0, [])), (11, (.iconst 1, 1, .int 1, 0, 0, 0, [])), (12, (.bipush 12, 2, .int 12, 0, 0, 0, [])), (14, (.invokestatic 66, 3, .null, 2, 82, 3, [])), (17, (.ifCond .ne 5, 3, .null, 22, 0, 0, [])), (20, (.iconst (-1), 1, .int (-1), 0, 0, 0, [])), (21, (.ireturn, 1, .null, 0, 0, 0, [])), (22, (.aload_n 0, 1, .null, 0, 0, 0, [])), (23, (.iload_n 1, 1, .null, 0, 0, 0, [])), (24, (.iload_n 2, 1, .null, 0, 0, 0, [])), (25, (.invokevirtual 59, 3, .ref 4, 1, 90, 2, [])), (28, (.iload_n 1, 1, .null, 0, 0, 0, [])), (29, (.iload_n 2, 1, .null, 0, 0, 0, [])), (30, (.imul, 1, .null, 0, 0, 0, [])), (31, (.ireturn, 1, .null, 0, 0, 0, []))]
def km_X4_log : dx_K := ((yX4_log, cX4_log, 3, some .int), kr_X4_log, kp_X4)
def kr_X4_isPlace : List (Nat × dx_I) := [(0, (.iload_n 1, 1, .null, 0, 0, 0, [])), (1, (.iconst 0, 1, .int 0, 0, 0, 0, [])), (2, (.aload_n 0, 1, .null, 0, 0, 0, [])), (3, (.getfield 77, 3, .null, 4, 4, 0, [])), (6, (.iconst 1, 1, .int 1, 0, 0, 0, [])), (7, (.isub, 1, .null, 0, 0, 0, [])), (8, (.invokestatic 66, 3, .null, 2, 82, 3, [])), (11, (.ifCond .eq 21, 3, .null, 32, 0, 0, [])), (14, (.iload_n 2, 1, .null, 0, 0, 0, [])), (15, (.iconst 0, 1, .int 0, 0, 0, 0, [])), (16, (.aload_n 0, 1, .null, 0, 0, 0, [])), (17, (.getfield 80, 3, .null, 4, 5, 0, [])), (20, (.iconst 1, 1, .int 1, 0, 0, 0, [])), (21, (.isub, 1, .null, 0, 0, 0, [])), (22, (.invokestatic 66, 3, .null, 2, 82, 3, [])), (25, (.ifCond .eq 7, 3, .null, 32, 0, 0, [])), (28, (.iconst 1, 1, .int 1, 0, 0, 0, [])), (29, (.goto 4, 3, .null, 33, 0, 0, [])), (32, (.iconst 0, 1, .int 0, 0, 0, 0, [])), (33, (.ireturn, 1, .null, 0, 0, 0, []))]
def km_X4_isPlace : dx_K := ((yX4_isPlace, cX4_isPlace, 3, some .boolean), kr_X4_isPlace, kp_X4)
def kr_X4_square : List (Nat × dx_I) := [(0, (.aload_n 0, 1, .null, 0, 0, 0, [])), (1, (.iload_n 1, 1, .null, 0, 0, 0, [])), (2, (.iload_n 2, 1, .null, 0, 0, 0, [])), (3, (.invokevirtual 86, 3, .ref 4, 1, 92, 2, [])), (6, (.ifCond .eq 19, 3, .null, 25, 0, 0, [])), (9, (.iload_n 3, 1, .null, 0, 0, 0, [])), (10, (.bipush (-9), 2, .int (-9), 0, 0, 0, [])), (12, (.if_icmp .eq 15, 3, .null, 27, 0, 0, [])), (15, (.iload_n 3, 1, .null, 0, 0, 0, [])), (16, (.iconst 0, 1, .int 0, 0, 0, 0, [])), (17, (.bipush 20, 2, .int 20, 0, 0, 0, [])), (19, (.invokestatic 66, 3, .null, 2, 82, 3, [])), (22, (.ifCond .ne 5, 3, .null, 27, 0, 0, [])), (25, (.iconst (-1), 1, .int (-1), 0, 0, 0, [])), (26, (.ireturn, 1, .null, 0, 0, 0, [])), (27, (.aload_n 0, 1, .null, 0, 0, 0, [])), (28, (.getfield 13, 3, .null, 4, 7, 0, [])), (31, (.bipush 12, 2, .int 12, 0, 0, 0, [])), (33, (.iload_n 2, 1, .null, 0, 0, 0, [])), (34, (.imul, 1, .null, 0, 0, 0, [])), (35, (.iload_n 1, 1, .null, 0, 0, 0, [])), (36, (.iadd, 1, .null, 0, 0, 0, [])), (37, (.iaload, 1, .null, 0, 0, 0, [])), (38, (.istore 4, 2, .null, 0, 0, 0, [])), (40, (.aload_n 0, 1, .null, 0, 0, 0, [])), (41, (.getfield 13, 3, .null, 4, 7, 0, [])), (44, (.bipush 12, 2, .int 12, 0, 0, 0, [])), (46, (.iload_n 2, 1, .null, 0, 0, 0, [])), (47, (.imul, 1, .null, 0, 0, 0, [])), (48, (.iload_n 1, 1, .null, 0, 0, 0, [])), (49, (.iadd, 1, .null, 0, 0, 0, [])), (50, (.iload_n 3, 1, .null, 0, 0, 0, [])), (51, (.iastore, 1, .null, 0, 0, 0, [])), (52, (.iload 4, 2, .null, 0, 0, 0, [])), (54, (.ireturn, 1, .null, 0, 0, 0, []))]
def km_X4_square : dx_K := ((yX4_square, cX4_square, 5, some .int), kr_X4_square, kp_X4)
def kr_X4_at : List (Nat × dx_I) := [(0, (.aload_n 0, 1, .null, 0, 0, 0, [])), (1, (.iload_n 1, 1, .null, 0, 0, 0, [])), (2, (.iload_n 2, 1, .null, 0, 0, 0, [])), (3, (.invokevirtual 86, 3, .ref 4, 1, 92, 2, [])), (6, (.ifCond .eq 17, 3, .null, 23, 0, 0, [])), (9, (.aload_n 0, 1, .null, 0, 0, 0, [])), (10, (.getfield 13, 3, .null, 4, 7, 0, [])), (13, (.bipush 12, 2, .int 12, 0, 0, 0, [])), (15, (.iload_n 2, 1, .null, 0, 0, 0, [])), (16, (.imul, 1, .null, 0, 0, 0, [])), (17, (.iload_n 1, 1, .null, 0, 0, 0, [])), (18, (.iadd, 1, .null, 0, 0, 0, [])), (19, (.iaload, 1, .null, 0, 0, 0, [])), (20, (.goto 4, 3, .null, 24, 0, 0, [])), (23, (.iconst (-1), 1, .int (-1), 0, 0, 0, [])), (24, (.ireturn, 1, .null, 0, 0, 0, []))]
def km_X4_at : dx_K := ((yX4_at, cX4_at, 3, some .int), kr_X4_at, kp_X4)
def kr_X4_water : List (Nat × dx_I) := [(0, (.iload_n 1, 1, .null, 0, 0, 0, [])), (1, (.iconst 1, 1, .int 1, 0, 0, 0, [])), (2, (.bipush 20, 2, .int 20, 0, 0, 0, [])), (4, (.invokestatic 66, 3, .null, 2, 82, 3, [])), (7, (.ifCond .ne 5, 3, .null, 12, 0, 0, [])), (10, (.iconst (-1), 1, .int (-1), 0, 0, 0, [])), (11, (.ireturn, 1, .null, 0, 0, 0, [])), (12, (.aload_n 0, 1, .null, 0, 0, 0, [])), (13, (.getfield 51, 3, .null, 4, 6, 0, [])), (16, (.istore_n 2, 1, .null, 0, 0, 0, [])), (17, (.aload_n 0, 1, .null, 0, 0, 0, [])), (18, (.iload_n 1, 1, .null, 0, 0, 0, [])), (19, (.putfield 51, 3, .null, 4, 6, 0, [])), (22, (.iload_n 2, 1, .null, 0, 0, 0, [])), (23, (.ireturn, 1, .null, 0, 0, 0, []))]
def km_X4_water : dx_K := ((yX4_water, cX4_water, 3, some .int), kr_X4_water, kp_X4)
def kr_X4_isSheet : List (Nat × dx_I) := [(0, (.iload_n 0, 1, .null, 0, 0, 0, [])), (1, (.iconst 0, 1, .int 0, 0, 0, 0, [])), (2, (.iconst 5, 1, .int 5, 0, 0, 0, [])), (3, (.invokestatic 66, 3, .null, 2, 82, 3, [])), (6, (.ireturn, 1, .null, 0, 0, 0, []))]
def km_X4_isSheet : dx_K := ((yX4_isSheet, cX4_isSheet, 1, some .boolean), kr_X4_isSheet, kp_X4)
def kr_X4_sheet : List (Nat × dx_I) := [(0, (.iload_n 1, 1, .null, 0, 0, 0, [])), (1, (.invokestatic 90, 3, .null, 2, 96, 1, [])), (4, (.ifCond .eq 9, 3, .null, 13, 0, 0, [])), (7, (.iload_n 2, 1, .null, 0, 0, 0, [])), (8, (.bipush 12, 2, .int 12, 0, 0, 0, [])), (10, (.if_icmp .le 5, 3, .null, 15, 0, 0, [])), (13, (.iconst (-1), 1, .int (-1), 0, 0, 0, [])), (14, (.ireturn, 1, .null, 0, 0, 0, [])), (15, (.iload_n 2, 1, .null, 0, 0, 0, [])), (16, (.ifCond .ge 9, 3, .null, 25, 0, 0, [])), (19, (.aload_n 0, 1, .null, 0, 0, 0, [])), (20, (.iconst 5, 1, .int 5, 0, 0, 0, [])), (21, (.invokevirtual 94, 3, .ref 4, 1, 83, 1, [])), (24, (.ireturn, 1, .null, 0, 0, 0, [])), (25, (.aload_n 0, 1, .null, 0, 0, 0, [])), (26, (.getfield 16, 3, .null, 4, 8, 0, [])), (29, (.iload_n 1, 1, .null, 0, 0, 0, [])), (30, (.iload_n 2, 1, .null, 0, 0, 0, [])), (31, (.iastore, 1, .null, 0, 0, 0, [])), (32, (.iconst 0, 1, .int 0, 0, 0, 0, [])), (33, (.istore_n 3, 1, .null, 0, 0, 0, [])), (34, (.iload_n 3, 1, .null, 0, 0, 0, [])), (35, (.bipush 12, 2, .int 12, 0, 0, 0, [])), (37, (.if_icmp .ge 21, 3, .null, 58, 0, 0, [])), (40, (.aload_n 0, 1, .null, 0, 0, 0, [])), (41, (.getfield 19, 3, .null, 4, 9, 0, [])), (44, (.bipush 12, 2, .int 12, 0, 0, 0, [])), (46, (.iload_n 1, 1, .null, 0, 0, 0, [])), (47, (.imul, 1, .null, 0, 0, 0, [])), (48, (.iload_n 3, 1, .null, 0, 0, 0, [])), (49, (.iadd, 1, .null, 0, 0, 0, [])), (50, (.iconst 0, 1, .int 0, 0, 0, 0, [])), (51, (.bastore, 1, .null, 0, 0, 0, [])), (52, (.iinc 3 1, 3, .int 1, 0, 0, 0, [])), (55, (.goto (-21), 3, .null, 34, 0, 0, [])), (58, (.iload_n 2, 1, .null, 0, 0, 0, [])), (59, (.ireturn, 1, .null, 0, 0, 0, []))]
def km_X4_sheet : dx_K := ((yX4_sheet, cX4_sheet, 4, some .int), kr_X4_sheet, kp_X4)
def kr_X4_lay : List (Nat × dx_I) := [(0, (.iload_n 1, 1, .null, 0, 0, 0, [])), (1, (.invokestatic 90, 3, .null, 2, 96, 1, [])), (4, (.ifCond .ne 5, 3, .null, 9, 0, 0, [])), (7, (.iconst (-1), 1, .int (-1), 0, 0, 0, [])), (8, (.ireturn, 1, .null, 0, 0, 0, [])), (9, (.aload_n 0, 1, .null, 0, 0, 0, [])), (10, (.getfield 16, 3, .null, 4, 8, 0, [])), (13, (.iload_n 1, 1, .null, 0, 0, 0, [])), (14, (.iaload, 1, .null, 0, 0, 0, [])), (15, (.ifCond .ge 9, 3, .null, 24, 0, 0, [])), (18, (.aload_n 0, 1, .null, 0, 0, 0, [])), (19, (.iconst 1, 1, .int 1, 0, 0, 0, [])), (20, (.invokevirtual 94, 3, .ref 4, 1, 83, 1, [])), (23, (.ireturn, 1, .null, 0, 0, 0, [])), (24, (.iload_n 2, 1, .null, 0, 0, 0, [])), (25, (.iconst 0, 1, .int 0, 0, 0, 0, [])), (26, (.aload_n 0, 1, .null, 0, 0, 0, [])), (27, (.getfield 16, 3, .null, 4, 8, 0, [])), (30, (.iload_n 1, 1, .null, 0, 0, 0, [])), (31, (.iaload, 1, .null, 0, 0, 0, [])), (32, (.iconst 1, 1, .int 1, 0, 0, 0, [])), (33, (.isub, 1, .null, 0, 0, 0, [])), (34, (.invokestatic 66, 3, .null, 2, 82, 3, [])), (37, (.ifCond .ne 9, 3, .null, 46, 0, 0, [])), (40, (.aload_n 0, 1, .null, 0, 0, 0, [])), (41, (.iconst 2, 1, .int 2, 0, 0, 0, [])), (42, (.invokevirtual 94, 3, .ref 4, 1, 83, 1, [])), (45, (.ireturn, 1, .null, 0, 0, 0, [])), (46, (.aload_n 0, 1, .null, 0, 0, 0, [])), (47, (.getfield 19, 3, .null, 4, 9, 0, [])), (50, (.bipush 12, 2, .int 12, 0, 0, 0, [])), (52, (.iload_n 1, 1, .null, 0, 0, 0, [])), (53, (.imul, 1, .null, 0, 0, 0, [])), (54, (.iload_n 2, 1, .null, 0, 0, 0, [])), (55, (.iadd, 1, .null, 0, 0, 0, [])), (56, (.baload, 1, .null, 0, 0, 0, [])), (57, (.istore 4, 2, .null, 0, 0, 0, [])), (59, (.aload_n 0, 1, .null, 0, 0, 0, [])), (60, (.getfield 19, 3, .null, 4, 9, 0, [])), (63, (.bipush 12, 2, .int 12, 0, 0, 0, [])), (65, (.iload_n 1, 1, .null, 0, 0, 0, [])), (66, (.imul, 1, .null, 0, 0, 0, [])), (67, (.iload_n 2, 1, .null, 0, 0, 0, [])), (68, (.iadd, 1, .null, 0, 0, 0, [])), (69, (.iload_n 3, 1, .null, 0, 0, 0, [])), (70, (.i2b, 1, .null, 0, 0, 0, [])), (71, (.bastore, 1, .null, 0, 0, 0, [])), (72, (.sipush 1000, 3, .int 1000, 0, 0, 0, [])), (75, (.iload 4, 2, .null, 0, 0, 0, [])), (77, (.iadd, 1, .null, 0, 0, 0, [])), (78, (.ireturn, 1, .null, 0, 0, 0, []))]
def km_X4_lay : dx_K := ((yX4_lay, cX4_lay, 5, some .int), kr_X4_lay, kp_X4)
def kr_X4_tear : List (Nat × dx_I) := [(0, (.iload_n 1, 1, .null, 0, 0, 0, [])), (1, (.invokestatic 90, 3, .null, 2, 96, 1, [])), (4, (.ifCond .ne 5, 3, .null, 9, 0, 0, [])), (7, (.iconst (-1), 1, .int (-1), 0, 0, 0, [])), (8, (.ireturn, 1, .null, 0, 0, 0, [])), (9, (.aload_n 0, 1, .null, 0, 0, 0, [])), (10, (.getfield 16, 3, .null, 4, 8, 0, [])), (13, (.iload_n 1, 1, .null, 0, 0, 0, [])), (14, (.iaload, 1, .null, 0, 0, 0, [])), (15, (.ifCond .ge 9, 3, .null, 24, 0, 0, [])), (18, (.aload_n 0, 1, .null, 0, 0, 0, [])), (19, (.iconst 1, 1, .int 1, 0, 0, 0, [])), (20, (.invokevirtual 94, 3, .ref 4, 1, 83, 1, [])), (23, (.ireturn, 1, .null, 0, 0, 0, [])), (24, (.aload_n 0, 1, .null, 0, 0, 0, [])), (25, (.getfield 16, 3, .null, 4, 8, 0, [])), (28, (.iload_n 1, 1, .null, 0, 0, 0, [])), (29, (.iconst (-1), 1, .int (-1), 0, 0, 0, [])), (30, (.iastore, 1, .null, 0, 0, 0, [])), (31, (.iconst 1, 1, .int 1, 0, 0, 0, [])), (32, (.ireturn, 1, .null, 0, 0, 0, []))]
def km_X4_tear : dx_K := ((yX4_tear, cX4_tear, 2, some .int), kr_X4_tear, kp_X4)
def kr_X4_copy : List (Nat × dx_I) := [(0, (.iload_n 1, 1, .null, 0, 0, 0, [])), (1, (.invokestatic 90, 3, .null, 2, 96, 1, [])), (4, (.ifCond .eq 10, 3, .null, 14, 0, 0, [])), (7, (.iload_n 3, 1, .null, 0, 0, 0, [])), (8, (.invokestatic 90, 3, .null, 2, 96, 1, [])), (11, (.ifCond .ne 5, 3, .null, 16, 0, 0, [])), (14, (.iconst (-1), 1, .int (-1), 0, 0, 0, [])), (15, (.ireturn, 1, .null, 0, 0, 0, [])), (16, (.aload_n 0, 1, .null, 0, 0, 0, [])), (17, (.getfield 16, 3, .null, 4, 8, 0, [])), (20, (.iload_n 1, 1, .null, 0, 0, 0, [])), (21, (.iaload, 1, .null, 0, 0, 0, [])), (22, (.ifCond .lt 12, 3, .null, 34, 0, 0, [])), (25, (.aload_n 0, 1, .null, 0, 0, 0, [])), (26, (.getfield 16, 3, .null, 4, 8, 0, [])), (29, (.iload_n 3, 1, .null, 0, 0, 0, [])), (30, (.iaload, 1, .null, 0, 0, 0, [])), (31, (.ifCond .ge 9, 3, .null, 40, 0, 0, [])), (34, (.aload_n 0, 1, .null, 0, 0, 0, [])), (35, (.iconst 1, 1, .int 1, 0, 0, 0, [])), (36, (.invokevirtual 94, 3, .ref 4, 1, 83, 1, [])), (39, (.ireturn, 1, .null, 0, 0, 0, [])), (40, (.iload_n 2, 1, .null, 0, 0, 0, [])), (41, (.ifCond .lt 48, 3, .null, 89, 0, 0, [])), (44, (.iload 4, 2, .null, 0, 0, 0, [])), (46, (.ifCond .lt 43, 3, .null, 89, 0, 0, [])), (49, (.iload 5, 2, .null, 0, 0, 0, [])), (51, (.ifCond .lt 38, 3, .null, 89, 0, 0, [])), (54, (.iload_n 2, 1, .null, 0, 0, 0, [])), (55, (.i2l, 1, .null, 0, 0, 0, [])), (56, (.iload 5, 2, .null, 0, 0, 0, [])), (58, (.i2l, 1, .null, 0, 0, 0, [])), (59, (.ladd, 1, .null, 0, 0, 0, [])), (60, (.aload_n 0, 1, .null, 0, 0, 0, [])), (61, (.getfield 16, 3, .null, 4, 8, 0, [])), (64, (.iload_n 1, 1, .null, 0, 0, 0, [])), (65, (.iaload, 1, .null, 0, 0, 0, [])), (66, (.i2l, 1, .null, 0, 0, 0, [])), (67, (.lcmp, 1, .null, 0, 0, 0, [])), (68, (.ifCond .gt 21, 3, .null, 89, 0, 0, [])), (71, (.iload 4, 2, .null, 0, 0, 0, [])), (73, (.i2l, 1, .null, 0, 0, 0, [])), (74, (.iload 5, 2, .null, 0, 0, 0, [])), (76, (.i2l, 1, .null, 0, 0, 0, [])), (77, (.ladd, 1, .null, 0, 0, 0, [])), (78, (.aload_n 0, 1, .null, 0, 0, 0, [])), (79, (.getfield 16, 3, .null, 4, 8, 0, [])), (82, (.iload_n 3, 1, .null, 0, 0, 0, [])), (83, (.iaload, 1, .null, 0, 0, 0, [])), (84, (.i2l, 1, .null, 0, 0, 0, [])), (85, (.lcmp, 1, .null, 0, 0, 0, [])), (86, (.ifCond .le 9, 3, .null, 95, 0, 0, [])), (89, (.aload_n 0, 1, .null, 0, 0, 0, [])), (90, (.iconst 2, 1, .int 2, 0, 0, 0, [])), (91, (.invokevirtual 94, 3, .ref 4, 1, 83, 1, [])), (94, (.ireturn, 1, .null, 0, 0, 0, [])), (95, (.iconst 0, 1, .int 0, 0, 0, 0, [])), (96, (.istore 6, 2, .null, 0, 0, 0, [])), (98, (.iload 6, 2, .null, 0, 0, 0, [])), (100, (.iload 5, 2, .null, 0, 0, 0, [])), (102, (.if_icmp .ge 30, 3, .null, 132, 0, 0, [])), (105, (.aload_n 0, 1, .null, 0, 0, 0, [])), (106, (.getfield 23, 3, .null, 4, 10, 0, [])), (109, (.iload 6, 2, .null, 0, 0, 0, [])), (111, (.aload_n 0, 1, .null, 0, 0, 0, [])), (112, (.getfield 19, 3, .null, 4, 9, 0, [])), (115, (.bipush 12, 2, .int 12, 0, 0, 0, [])), (117, (.iload_n 1, 1, .null, 0, 0, 0, [])), (118, (.imul, 1, .null, 0, 0, 0, [])), (119, (.iload_n 2, 1, .null, 0, 0, 0, [])), (120, (.iadd, 1, .null, 0, 0, 0, [])), (121, (.iload 6, 2, .null, 0, 0, 0, [])), (123, (.iadd, 1, .null, 0, 0, 0, [])), (124, (.baload, 1, .null, 0, 0, 0, [])), (125, (.bastore, 1, .null, 0, 0, 0, [])), (126, (.iinc 6 1, 3, .int 1, 0, 0, 0, [])), (129, (.goto (-31), 3, .null, 98, 0, 0, [])), (132, (.iconst 0, 1, .int 0, 0, 0, 0, [])), (133, (.istore 6, 2, .null, 0, 0, 0, [])), (135, (.iload 6, 2, .null, 0, 0, 0, [])), (137, (.iload 5, 2, .null, 0, 0, 0, [])), (139, (.if_icmp .ge 31, 3, .null, 170, 0, 0, [])), (142, (.aload_n 0, 1, .null, 0, 0, 0, [])), (143, (.getfield 19, 3, .null, 4, 9, 0, [])), (146, (.bipush 12, 2, .int 12, 0, 0, 0, [])), (148, (.iload_n 3, 1, .null, 0, 0, 0, [])), (149, (.imul, 1, .null, 0, 0, 0, [])), (150, (.iload 4, 2, .null, 0, 0, 0, [])), (152, (.iadd, 1, .null, 0, 0, 0, [])), (153, (.iload 6, 2, .null, 0, 0, 0, [])), (155, (.iadd, 1, .null, 0, 0, 0, [])), (156, (.aload_n 0, 1, .null, 0, 0, 0, [])), (157, (.getfield 23, 3, .null, 4, 10, 0, [])), (160, (.iload 6, 2, .null, 0, 0, 0, [])), (162, (.baload, 1, .null, 0, 0, 0, [])), (163, (.bastore, 1, .null, 0, 0, 0, [])), (164, (.iinc 6 1, 3, .int 1, 0, 0, 0, [])), (167, (.goto (-32), 3, .null, 135, 0, 0, [])), (170, (.iconst 1, 1, .int 1, 0, 0, 0, [])), (171, (.ireturn, 1, .null, 0, 0, 0, []))]
def km_X4_copy : dx_K := ((yX4_copy, cX4_copy, 7, some .int), kr_X4_copy, kp_X4)
def kr_X4_fill : List (Nat × dx_I) := [(0, (.iload_n 1, 1, .null, 0, 0, 0, [])), (1, (.iconst 0, 1, .int 0, 0, 0, 0, [])), (2, (.aload_n 0, 1, .null, 0, 0, 0, [])), (3, (.getfield 80, 3, .null, 4, 5, 0, [])), (6, (.iconst 1, 1, .int 1, 0, 0, 0, [])), (7, (.isub, 1, .null, 0, 0, 0, [])), (8, (.invokestatic 66, 3, .null, 2, 82, 3, [])), (11, (.ifCond .eq 10, 3, .null, 21, 0, 0, [])), (14, (.iload_n 2, 1, .null, 0, 0, 0, [])), (15, (.invokestatic 90, 3, .null, 2, 96, 1, [])), (18, (.ifCond .ne 5, 3, .null, 23, 0, 0, [])), (21, (.iconst (-1), 1, .int (-1), 0, 0, 0, [])), (22, (.ireturn, 1, .null, 0, 0, 0, [])), (23, (.aload_n 0, 1, .null, 0, 0, 0, [])), (24, (.getfield 16, 3, .null, 4, 8, 0, [])), (27, (.iload_n 2, 1, .null, 0, 0, 0, [])), (28, (.iaload, 1, .null, 0, 0, 0, [])), (29, (.ifCond .ge 9, 3, .null, 38, 0, 0, [])), (32, (.aload_n 0, 1, .null, 0, 0, 0, [])), (33, (.iconst 1, 1, .int 1, 0, 0, 0, [])), (34, (.invokevirtual 94, 3, .ref 4, 1, 83, 1, [])), (37, (.ireturn, 1, .null, 0, 0, 0, [])), (38, (.aload_n 0, 1, .null, 0, 0, 0, [])), (39, (.getfield 16, 3, .null, 4, 8, 0, [])), (42, (.iload_n 2, 1, .null, 0, 0, 0, [])), (43, (.iaload, 1, .null, 0, 0, 0, [])), (44, (.aload_n 0, 1, .null, 0, 0, 0, [])), (45, (.getfield 77, 3, .null, 4, 4, 0, [])), (48, (.if_icmp .ge 9, 3, .null, 57, 0, 0, [])), (51, (.aload_n 0, 1, .null, 0, 0, 0, [])), (52, (.iconst 2, 1, .int 2, 0, 0, 0, [])), (53, (.invokevirtual 94, 3, .ref 4, 1, 83, 1, [])), (56, (.ireturn, 1, .null, 0, 0, 0, [])), (57, (.iconst 0, 1, .int 0, 0, 0, 0, [])), (58, (.istore_n 3, 1, .null, 0, 0, 0, [])), (59, (.iconst 0, 1, .int 0, 0, 0, 0, [])), (60, (.istore 4, 2, .null, 0, 0, 0, [])), (62, (.iload 4, 2, .null, 0, 0, 0, [])), (64, (.aload_n 0, 1, .null, 0, 0, 0, [])), (65, (.getfield 77, 3, .null, 4, 4, 0, [])), (68, (.if_icmp .ge 72, 3, .null, 140, 0, 0, [])), (71, (.aload_n 0, 1, .null, 0, 0, 0, [])), (72, (.getfield 19, 3, .null, 4, 9, 0, [])), (75, (.bipush 12, 2, .int 12, 0, 0, 0, [])), (77, (.iload_n 2, 1, .null, 0, 0, 0, [])), (78, (.imul, 1, .null, 0, 0, 0, [])), (79, (.iload 4, 2, .null, 0, 0, 0, [])), (81, (.iadd, 1, .null, 0, 0, 0, [])), (82, (.baload, 1, .null, 0, 0, 0, [])), (83, (.istore 5, 2, .null, 0, 0, 0, [])), (85, (.aload_n 0, 1, .null, 0, 0, 0, [])), (86, (.getfield 13, 3, .null, 4, 7, 0, [])), (89, (.bipush 12, 2, .int 12, 0, 0, 0, [])), (91, (.iload_n 1, 1, .null, 0, 0, 0, [])), (92, (.imul, 1, .null, 0, 0, 0, [])), (93, (.iload 4, 2, .null, 0, 0, 0, [])), (95, (.iadd, 1, .null, 0, 0, 0, [])), (96, (.iload 5, 2, .null, 0, 0, 0, [])), (98, (.ifCond .ge 8, 3, .null, 106, 0, 0, [])), (101, (.bipush (-9), 2, .int (-9), 0, 0, 0, [])), (103, (.goto 17, 3, .null, 120, 0, 0, [])), (106, (.iload 5, 2, .null, 0, 0, 0, [])), (108, (.bipush 20, 2, .int 20, 0, 0, 0, [])), (110, (.if_icmp .le 8, 3, .null, 118, 0, 0, [])), (113, (.bipush 20, 2, .int 20, 0, 0, 0, [])), (115, (.goto 5, 3, .null, 120, 0, 0, [])), (118, (.iload 5, 2, .null, 0, 0, 0, [])), (120, (.iastore, 1, .null, 0, 0, 0, [])), (121, (.iload_n 3, 1, .null, 0, 0, 0, [])), (122, (.iload 5, 2, .null, 0, 0, 0, [])), (124, (.ifCond .ge 7, 3, .null, 131, 0, 0, [])), (127, (.iconst 0, 1, .int 0, 0, 0, 0, [])), (128, (.goto 4, 3, .null, 132, 0, 0, [])), (131, (.iconst 1, 1, .int 1, 0, 0, 0, [])), (132, (.iadd, 1, .null, 0, 0, 0, [])), (133, (.istore_n 3, 1, .null, 0, 0, 0, [])), (134, (.iinc 4 1, 3, .int 1, 0, 0, 0, [])), (137, (.goto (-75), 3, .null, 62, 0, 0, [])), (140, (.iload_n 3, 1, .null, 0, 0, 0, [])), (141, (.ireturn, 1, .null, 0, 0, 0, []))]
def km_X4_fill : dx_K := ((yX4_fill, cX4_fill, 6, some .int), kr_X4_fill, kp_X4)
def kr_X4_isPoint : List (Nat × dx_I) := [(0, (.iload_n 0, 1, .null, 0, 0, 0, [])), (1, (.iconst 0, 1, .int 0, 0, 0, 0, [])), (2, (.bipush 24, 2, .int 24, 0, 0, 0, [])), (4, (.invokestatic 66, 3, .null, 2, 82, 3, [])), (7, (.ifCond .eq 17, 3, .null, 24, 0, 0, [])), (10, (.iload_n 1, 1, .null, 0, 0, 0, [])), (11, (.iconst 0, 1, .int 0, 0, 0, 0, [])), (12, (.bipush 24, 2, .int 24, 0, 0, 0, [])), (14, (.invokestatic 66, 3, .null, 2, 82, 3, [])), (17, (.ifCond .eq 7, 3, .null, 24, 0, 0, [])), (20, (.iconst 1, 1, .int 1, 0, 0, 0, [])), (21, (.goto 4, 3, .null, 25, 0, 0, [])), (24, (.iconst 0, 1, .int 0, 0, 0, 0, [])), (25, (.ireturn, 1, .null, 0, 0, 0, []))]
def km_X4_isPoint : dx_K := ((yX4_isPoint, cX4_isPoint, 2, some .boolean), kr_X4_isPoint, kp_X4)
def kr_X4_load : List (Nat × dx_I) := [(0, (.iload_n 1, 1, .null, 0, 0, 0, [])), (1, (.iconst 0, 1, .int 0, 0, 0, 0, [])), (2, (.iconst 2, 1, .int 2, 0, 0, 0, [])), (3, (.invokestatic 66, 3, .null, 2, 82, 3, [])), (6, (.ifCond .eq 23, 3, .null, 29, 0, 0, [])), (9, (.iload_n 2, 1, .null, 0, 0, 0, [])), (10, (.iload_n 3, 1, .null, 0, 0, 0, [])), (11, (.invokestatic 98, 3, .null, 2, 102, 2, [])), (14, (.ifCond .eq 15, 3, .null, 29, 0, 0, [])), (17, (.iload 4, 2, .null, 0, 0, 0, [])), (19, (.iconst 0, 1, .int 0, 0, 0, 0, [])), (20, (.sipush 200, 3, .int 200, 0, 0, 0, [])), (23, (.invokestatic 66, 3, .null, 2, 82, 3, [])), (26, (.ifCond .ne 5, 3, .null, 31, 0, 0, [])), (29, (.iconst (-1), 1, .int (-1), 0, 0, 0, [])), (30, (.ireturn, 1, .null, 0, 0, 0, [])), (31, (.aload_n 0, 1, .null, 0, 0, 0, [])), (32, (.getfield 83, 3, .null, 4, 11, 0, [])), (35, (.bipush 10, 2, .int 10, 0, 0, 0, [])), (37, (.if_icmp .ne 6, 3, .null, 43, 0, 0, [])), (40, (.bipush (-2), 2, .int (-2), 0, 0, 0, [])), (42, (.ireturn, 1, .null, 0, 0, 0, [])), (43, (.aload_n 0, 1, .null, 0, 0, 0, [])), (44, (.getfield 26, 3, .null, 4, 12, 0, [])), (47, (.aload_n 0, 1, .null, 0, 0, 0, [])), (48, (.getfield 83, 3, .null, 4, 11, 0, [])), (51, (.iload_n 1, 1, .null, 0, 0, 0, [])), (52, (.iastore, 1, .null, 0, 0, 0, [])), (53, (.aload_n 0, 1, .null, 0, 0, 0, [])), (54, (.getfield 29, 3, .null, 4, 13, 0, [])), (57, (.aload_n 0, 1, .null, 0, 0, 0, [])), (58, (.getfield 83, 3, .null, 4, 11, 0, [])), (61, (.iload_n 2, 1, .null, 0, 0, 0, [])), (62, (.iastore, 1, .null, 0, 0, 0, [])), (63, (.aload_n 0, 1, .null, 0, 0, 0, [])), (64, (.getfield 32, 3, .null, 4, 14, 0, [])), (67, (.aload_n 0, 1, .null, 0, 0, 0, [])), (68, (.getfield 83, 3, .null, 4, 11, 0, [])), (71, (.iload_n 3, 1, .null, 0, 0, 0, [])), (72, (.iastore, 1, .null, 0, 0, 0, [])), (73, (.aload_n 0, 1, .null, 0, 0, 0, [])), (74, (.getfield 35, 3, .null, 4, 15, 0, [])), (77, (.aload_n 0, 1, .null, 0, 0, 0, [])), (78, (.getfield 83, 3, .null, 4, 11, 0, [])), (81, (.iload 4, 2, .null, 0, 0, 0, [])), (83, (.iastore, 1, .null, 0, 0, 0, [])), (84, (.aload_n 0, 1, .null, 0, 0, 0, [])), (85, (.getfield 38, 3, .null, 4, 16, 0, [])), (88, (.aload_n 0, 1, .null, 0, 0, 0, [])), (89, (.getfield 83, 3, .null, 4, 11, 0, [])), (92, (.iconst 0, 1, .int 0, 0, 0, 0, [])), (93, (.iastore, 1, .null, 0, 0, 0, [])), (94, (.aload_n 0, 1, .null, 0, 0, 0, [])), (95, (.getfield 41, 3, .null, 4, 17, 0, [])), (98, (.aload_n 0, 1, .null, 0, 0, 0, [])), (99, (.getfield 83, 3, .null, 4, 11, 0, [])), (102, (.iconst 0, 1, .int 0, 0, 0, 0, [])), (103, (.bastore, 1, .null, 0, 0, 0, [])), (104, (.aload_n 0, 1, .null, 0, 0, 0, [])), (105, (.dup, 1, .null, 0, 0, 0, [])), (106, (.getfield 83, 3, .null, 4, 11, 0, [])), (109, (.iconst 1, 1, .int 1, 0, 0, 0, [])), (110, (.iadd, 1, .null, 0, 0, 0, [])), (111, (.putfield 83, 3, .null, 4, 11, 0, [])), (114, (.aload_n 0, 1, .null, 0, 0, 0, [])), (115, (.getfield 83, 3, .null, 4, 11, 0, [])), (118, (.iconst 1, 1, .int 1, 0, 0, 0, [])), (119, (.isub, 1, .null, 0, 0, 0, [])), (120, (.ireturn, 1, .null, 0, 0, 0, []))]
def km_X4_load : dx_K := ((yX4_load, cX4_load, 5, some .int), kr_X4_load, kp_X4)
def kr_X4_need : List (Nat × dx_I) := [(0, (.iload_n 2, 1, .null, 0, 0, 0, [])), (1, (.iconst 0, 1, .int 0, 0, 0, 0, [])), (2, (.aload_n 0, 1, .null, 0, 0, 0, [])), (3, (.getfield 83, 3, .null, 4, 11, 0, [])), (6, (.iconst 1, 1, .int 1, 0, 0, 0, [])), (7, (.isub, 1, .null, 0, 0, 0, [])), (8, (.invokestatic 66, 3, .null, 2, 82, 3, [])), (11, (.ifCond .eq 7, 3, .null, 18, 0, 0, [])), (14, (.iload_n 1, 1, .null, 0, 0, 0, [])), (15, (.ifCond .ne 7, 3, .null, 22, 0, 0, [])), (18, (.iconst (-1), 1, .int (-1), 0, 0, 0, [])), (19, (.goto 21, 3, .null, 40, 0, 0, [])), (22, (.aload_n 0, 1, .null, 0, 0, 0, [])), (23, (.getfield 41, 3, .null, 4, 17, 0, [])), (26, (.iload_n 2, 1, .null, 0, 0, 0, [])), (27, (.baload, 1, .null, 0, 0, 0, [])), (28, (.ifCond .eq 11, 3, .null, 39, 0, 0, [])), (31, (.aload_n 0, 1, .null, 0, 0, 0, [])), (32, (.iconst 1, 1, .int 1, 0, 0, 0, [])), (33, (.invokevirtual 94, 3, .ref 4, 1, 83, 1, [])), (36, (.goto 4, 3, .null, 40, 0, 0, [])), (39, (.iconst 0, 1, .int 0, 0, 0, 0, [])), (40, (.ireturn, 1, .null, 0, 0, 0, []))]
def km_X4_need : dx_K := ((yX4_need, cX4_need, 3, some .int), kr_X4_need, kp_X4)
def kr_X4_move : List (Nat × dx_I) := [(0, (.aload_n 0, 1, .null, 0, 0, 0, [])), (1, (.iload_n 2, 1, .null, 0, 0, 0, [])), (2, (.iload_n 3, 1, .null, 0, 0, 0, [])), (3, (.invokestatic 98, 3, .null, 2, 102, 2, [])), (6, (.iload_n 1, 1, .null, 0, 0, 0, [])), (7, (.invokevirtual 101, 3, .ref 4, 1, 104, 2, [])), (10, (.istore 4, 2, .null, 0, 0, 0, [])), (12, (.iload 4, 2, .null, 0, 0, 0, [])), (14, (.ifCond .ge 6, 3, .null, 20, 0, 0, [])), (17, (.iload 4, 2, .null, 0, 0, 0, [])), (19, (.ireturn, 1, .null, 0, 0, 0, [])), (20, (.aload_n 0, 1, .null, 0, 0, 0, [])), (21, (.getfield 26, 3, .null, 4, 12, 0, [])), (24, (.iload_n 1, 1, .null, 0, 0, 0, [])), (25, (.iaload, 1, .null, 0, 0, 0, [])), (26, (.iconst 2, 1, .int 2, 0, 0, 0, [])), (27, (.if_icmp .ne 9, 3, .null, 36, 0, 0, [])), (30, (.aload_n 0, 1, .null, 0, 0, 0, [])), (31, (.iconst 3, 1, .int 3, 0, 0, 0, [])), (32, (.invokevirtual 94, 3, .ref 4, 1, 83, 1, [])), (35, (.ireturn, 1, .null, 0, 0, 0, [])), (36, (.aload_n 0, 1, .null, 0, 0, 0, [])), (37, (.getfield 29, 3, .null, 4, 13, 0, [])), (40, (.iload_n 1, 1, .null, 0, 0, 0, [])), (41, (.iload_n 2, 1, .null, 0, 0, 0, [])), (42, (.iastore, 1, .null, 0, 0, 0, [])), (43, (.aload_n 0, 1, .null, 0, 0, 0, [])), (44, (.getfield 32, 3, .null, 4, 14, 0, [])), (47, (.iload_n 1, 1, .null, 0, 0, 0, [])), (48, (.iload_n 3, 1, .null, 0, 0, 0, [])), (49, (.iastore, 1, .null, 0, 0, 0, [])), (50, (.iconst 1, 1, .int 1, 0, 0, 0, [])), (51, (.ireturn, 1, .null, 0, 0, 0, []))]
def km_X4_move : dx_K := ((yX4_move, cX4_move, 5, some .int), kr_X4_move, kp_X4)
def kr_X4_rope : List (Nat × dx_I) := [(0, (.aload_n 0, 1, .null, 0, 0, 0, [])), (1, (.iload_n 2, 1, .null, 0, 0, 0, [])), (2, (.iconst 0, 1, .int 0, 0, 0, 0, [])), (3, (.bipush 20, 2, .int 20, 0, 0, 0, [])), (5, (.invokestatic 66, 3, .null, 2, 82, 3, [])), (8, (.iload_n 1, 1, .null, 0, 0, 0, [])), (9, (.invokevirtual 101, 3, .ref 4, 1, 104, 2, [])), (12, (.istore_n 3, 1, .null, 0, 0, 0, [])), (13, (.iload_n 3, 1, .null, 0, 0, 0, [])), (14, (.ifCond .ge 5, 3, .null, 19, 0, 0, [])), (17, (.iload_n 3, 1, .null, 0, 0, 0, [])), (18, (.ireturn, 1, .null, 0, 0, 0, [])), (19, (.aload_n 0, 1, .null, 0, 0, 0, [])), (20, (.getfield 26, 3, .null, 4, 12, 0, [])), (23, (.iload_n 1, 1, .null, 0, 0, 0, [])), (24, (.iaload, 1, .null, 0, 0, 0, [])), (25, (.iconst 1, 1, .int 1, 0, 0, 0, [])), (26, (.if_icmp .eq 9, 3, .null, 35, 0, 0, [])), (29, (.aload_n 0, 1, .null, 0, 0, 0, [])), (30, (.iconst 3, 1, .int 3, 0, 0, 0, [])), (31, (.invokevirtual 94, 3, .ref 4, 1, 83, 1, [])), (34, (.ireturn, 1, .null, 0, 0, 0, [])), (35, (.aload_n 0, 1, .null, 0, 0, 0, [])), (36, (.getfield 38, 3, .null, 4, 16, 0, [])), (39, (.iload_n 1, 1, .null, 0, 0, 0, [])), (40, (.iaload, 1, .null, 0, 0, 0, [])), (41, (.istore 4, 2, .null, 0, 0, 0, [])), (43, (.aload_n 0, 1, .null, 0, 0, 0, [])), (44, (.getfield 38, 3, .null, 4, 16, 0, [])), (47, (.iload_n 1, 1, .null, 0, 0, 0, [])), (48, (.iload_n 2, 1, .null, 0, 0, 0, [])), (49, (.iastore, 1, .null, 0, 0, 0, [])), (50, (.iload 4, 2, .null, 0, 0, 0, [])), (52, (.ireturn, 1, .null, 0, 0, 0, []))]
def km_X4_rope : dx_K := ((yX4_rope, cX4_rope, 5, some .int), kr_X4_rope, kp_X4)
def kr_X4_drop : List (Nat × dx_I) := [(0, (.aload_n 0, 1, .null, 0, 0, 0, [])), (1, (.iconst 1, 1, .int 1, 0, 0, 0, [])), (2, (.iload_n 1, 1, .null, 0, 0, 0, [])), (3, (.invokevirtual 101, 3, .ref 4, 1, 104, 2, [])), (6, (.istore_n 2, 1, .null, 0, 0, 0, [])), (7, (.iload_n 2, 1, .null, 0, 0, 0, [])), (8, (.ifCond .ge 5, 3, .null, 13, 0, 0, [])), (11, (.iload_n 2, 1, .null, 0, 0, 0, [])), (12, (.ireturn, 1, .null, 0, 0, 0, [])), (13, (.aload_n 0, 1, .null, 0, 0, 0, [])), (14, (.getfield 41, 3, .null, 4, 17, 0, [])), (17, (.iload_n 1, 1, .null, 0, 0, 0, [])), (18, (.iconst 1, 1, .int 1, 0, 0, 0, [])), (19, (.bastore, 1, .null, 0, 0, 0, [])), (20, (.iconst 1, 1, .int 1, 0, 0, 0, [])), (21, (.ireturn, 1, .null, 0, 0, 0, []))]
def km_X4_drop : dx_K := ((yX4_drop, cX4_drop, 3, some .int), kr_X4_drop, kp_X4)
def kr_X4_toldOf : List (Nat × dx_I) := [(0, (.iload_n 2, 1, .null, 0, 0, 0, [])), (1, (.tableswitch 59 0 3 #[31, 38, 45, 52], 31, .null, 60, 0, 0, [(0, 32), (1, 39), (2, 46), (3, 53)])), (32, (.aload_n 0, 1, .null, 0, 0, 0, [])), (33, (.getfield 26, 3, .null, 4, 12, 0, [])), (36, (.iload_n 1, 1, .null, 0, 0, 0, [])), (37, (.iaload, 1, .null, 0, 0, 0, [])), (38, (.ireturn, 1, .null, 0, 0, 0, [])), (39, (.aload_n 0, 1, .null, 0, 0, 0, [])), (40, (.getfield 29, 3, .null, 4, 13, 0, [])), (43, (.iload_n 1, 1, .null, 0, 0, 0, [])), (44, (.iaload, 1, .null, 0, 0, 0, [])), (45, (.ireturn, 1, .null, 0, 0, 0, [])), (46, (.aload_n 0, 1, .null, 0, 0, 0, [])), (47, (.getfield 32, 3, .null, 4, 14, 0, [])), (50, (.iload_n 1, 1, .null, 0, 0, 0, [])), (51, (.iaload, 1, .null, 0, 0, 0, [])), (52, (.ireturn, 1, .null, 0, 0, 0, [])), (53, (.aload_n 0, 1, .null, 0, 0, 0, [])), (54, (.getfield 35, 3, .null, 4, 15, 0, [])), (57, (.iload_n 1, 1, .null, 0, 0, 0, [])), (58, (.iaload, 1, .null, 0, 0, 0, [])), (59, (.ireturn, 1, .null, 0, 0, 0, [])), (60, (.aload_n 0, 1, .null, 0, 0, 0, [])), (61, (.getfield 26, 3, .null, 4, 12, 0, [])), (64, (.iload_n 1, 1, .null, 0, 0, 0, [])), (65, (.iaload, 1, .null, 0, 0, 0, [])), (66, (.iconst 1, 1, .int 1, 0, 0, 0, [])), (67, (.if_icmp .ne 12, 3, .null, 79, 0, 0, [])), (70, (.aload_n 0, 1, .null, 0, 0, 0, [])), (71, (.getfield 38, 3, .null, 4, 16, 0, [])), (74, (.iload_n 1, 1, .null, 0, 0, 0, [])), (75, (.iaload, 1, .null, 0, 0, 0, [])), (76, (.goto 5, 3, .null, 81, 0, 0, [])), (79, (.bipush (-9), 2, .int (-9), 0, 0, 0, [])), (81, (.ireturn, 1, .null, 0, 0, 0, []))]
def km_X4_toldOf : dx_K := ((yX4_toldOf, cX4_toldOf, 3, some .int), kr_X4_toldOf, kp_X4)
def kr_X4_told : List (Nat × dx_I) := [(0, (.aload_n 0, 1, .null, 0, 0, 0, [])), (1, (.iload_n 2, 1, .null, 0, 0, 0, [])), (2, (.iconst 0, 1, .int 0, 0, 0, 0, [])), (3, (.iconst 4, 1, .int 4, 0, 0, 0, [])), (4, (.invokestatic 66, 3, .null, 2, 82, 3, [])), (7, (.iload_n 1, 1, .null, 0, 0, 0, [])), (8, (.invokevirtual 101, 3, .ref 4, 1, 104, 2, [])), (11, (.istore_n 3, 1, .null, 0, 0, 0, [])), (12, (.iload_n 3, 1, .null, 0, 0, 0, [])), (13, (.ifCond .ge 7, 3, .null, 20, 0, 0, [])), (16, (.iload_n 3, 1, .null, 0, 0, 0, [])), (17, (.goto 9, 3, .null, 26, 0, 0, [])), (20, (.aload_n 0, 1, .null, 0, 0, 0, [])), (21, (.iload_n 1, 1, .null, 0, 0, 0, [])), (22, (.iload_n 2, 1, .null, 0, 0, 0, [])), (23, (.invokevirtual 105, 3, .ref 4, 1, 108, 2, [])), (26, (.ireturn, 1, .null, 0, 0, 0, []))]
def km_X4_told : dx_K := ((yX4_told, cX4_told, 4, some .int), kr_X4_told, kp_X4)
def kr_X4_is : List (Nat × dx_I) := [(0, (.aload_n 0, 1, .null, 0, 0, 0, [])), (1, (.iload_n 2, 1, .null, 0, 0, 0, [])), (2, (.iconst 0, 1, .int 0, 0, 0, 0, [])), (3, (.iconst 2, 1, .int 2, 0, 0, 0, [])), (4, (.invokestatic 66, 3, .null, 2, 82, 3, [])), (7, (.iload_n 1, 1, .null, 0, 0, 0, [])), (8, (.invokevirtual 101, 3, .ref 4, 1, 104, 2, [])), (11, (.istore_n 3, 1, .null, 0, 0, 0, [])), (12, (.iload_n 3, 1, .null, 0, 0, 0, [])), (13, (.ifCond .ge 7, 3, .null, 20, 0, 0, [])), (16, (.iload_n 3, 1, .null, 0, 0, 0, [])), (17, (.goto 22, 3, .null, 39, 0, 0, [])), (20, (.iload_n 2, 1, .null, 0, 0, 0, [])), (21, (.ifCond .eq 13, 3, .null, 34, 0, 0, [])), (24, (.aload_n 0, 1, .null, 0, 0, 0, [])), (25, (.getfield 26, 3, .null, 4, 12, 0, [])), (28, (.iload_n 1, 1, .null, 0, 0, 0, [])), (29, (.iaload, 1, .null, 0, 0, 0, [])), (30, (.iload_n 2, 1, .null, 0, 0, 0, [])), (31, (.if_icmp .ne 7, 3, .null, 38, 0, 0, [])), (34, (.iconst 1, 1, .int 1, 0, 0, 0, [])), (35, (.goto 4, 3, .null, 39, 0, 0, [])), (38, (.iconst 0, 1, .int 0, 0, 0, 0, [])), (39, (.ireturn, 1, .null, 0, 0, 0, []))]
def km_X4_is : dx_K := ((yX4_is, cX4_is, 4, some .int), kr_X4_is, kp_X4)
def kr_X4_squareMany : List (Nat × dx_I) := [(0, (.iconst 0, 1, .int 0, 0, 0, 0, [])), (1, (.istore_n 1, 1, .null, 0, 0, 0, [])), (2, (.iconst 0, 1, .int 0, 0, 0, 0, [])), (3, (.istore_n 2, 1, .null, 0, 0, 0, [])), (4, (.iload_n 2, 1, .null, 0, 0, 0, [])), (5, (.sipush 144, 3, .int 144, 0, 0, 0, [])), (8, (.if_icmp .ge 28, 3, .null, 36, 0, 0, [])), (11, (.iload_n 1, 1, .null, 0, 0, 0, [])), (12, (.aload_n 0, 1, .null, 0, 0, 0, [])), (13, (.getfield 13, 3, .null, 4, 7, 0, [])), (16, (.iload_n 2, 1, .null, 0, 0, 0, [])), (17, (.iaload, 1, .null, 0, 0, 0, [])), (18, (.bipush (-9), 2, .int (-9), 0, 0, 0, [])), (20, (.if_icmp .ne 7, 3, .null, 27, 0, 0, [])), (23, (.iconst 0, 1, .int 0, 0, 0, 0, [])), (24, (.goto 4, 3, .null, 28, 0, 0, [])), (27, (.iconst 1, 1, .int 1, 0, 0, 0, [])), (28, (.iadd, 1, .null, 0, 0, 0, [])), (29, (.istore_n 1, 1, .null, 0, 0, 0, [])), (30, (.iinc 2 1, 3, .int 1, 0, 0, 0, [])), (33, (.goto (-29), 3, .null, 4, 0, 0, [])), (36, (.iload_n 1, 1, .null, 0, 0, 0, [])), (37, (.ireturn, 1, .null, 0, 0, 0, []))]
def km_X4_squareMany : dx_K := ((yX4_squareMany, cX4_squareMany, 3, some .int), kr_X4_squareMany, kp_X4)
def kr_X4_squareWeights : List (Nat × dx_I) := [(0, (.iconst 0, 1, .int 0, 0, 0, 0, [])), (1, (.istore_n 1, 1, .null, 0, 0, 0, [])), (2, (.iconst 0, 1, .int 0, 0, 0, 0, [])), (3, (.istore_n 2, 1, .null, 0, 0, 0, [])), (4, (.iload_n 2, 1, .null, 0, 0, 0, [])), (5, (.sipush 144, 3, .int 144, 0, 0, 0, [])), (8, (.if_icmp .ge 33, 3, .null, 41, 0, 0, [])), (11, (.iload_n 1, 1, .null, 0, 0, 0, [])), (12, (.aload_n 0, 1, .null, 0, 0, 0, [])), (13, (.getfield 13, 3, .null, 4, 7, 0, [])), (16, (.iload_n 2, 1, .null, 0, 0, 0, [])), (17, (.iaload, 1, .null, 0, 0, 0, [])), (18, (.bipush (-9), 2, .int (-9), 0, 0, 0, [])), (20, (.if_icmp .ne 7, 3, .null, 27, 0, 0, [])), (23, (.iconst 0, 1, .int 0, 0, 0, 0, [])), (24, (.goto 9, 3, .null, 33, 0, 0, [])), (27, (.aload_n 0, 1, .null, 0, 0, 0, [])), (28, (.getfield 13, 3, .null, 4, 7, 0, [])), (31, (.iload_n 2, 1, .null, 0, 0, 0, [])), (32, (.iaload, 1, .null, 0, 0, 0, [])), (33, (.iadd, 1, .null, 0, 0, 0, [])), (34, (.istore_n 1, 1, .null, 0, 0, 0, [])), (35, (.iinc 2 1, 3, .int 1, 0, 0, 0, [])), (38, (.goto (-34), 3, .null, 4, 0, 0, [])), (41, (.iload_n 1, 1, .null, 0, 0, 0, [])), (42, (.ireturn, 1, .null, 0, 0, 0, []))]
def km_X4_squareWeights : dx_K := ((yX4_squareWeights, cX4_squareWeights, 3, some .int), kr_X4_squareWeights, kp_X4)
def kr_X4_all : List (Nat × dx_I) := [(0, (.aload_n 0, 1, .null, 0, 0, 0, [])), (1, (.invokevirtual 109, 3, .ref 4, 1, 112, 0, [])), (4, (.istore_n 1, 1, .null, 0, 0, 0, [])), (5, (.iconst 0, 1, .int 0, 0, 0, 0, [])), (6, (.istore_n 2, 1, .null, 0, 0, 0, [])), (7, (.iload_n 2, 1, .null, 0, 0, 0, [])), (8, (.aload_n 0, 1, .null, 0, 0, 0, [])), (9, (.getfield 83, 3, .null, 4, 11, 0, [])), (12, (.if_icmp .ge 31, 3, .null, 43, 0, 0, [])), (15, (.iload_n 1, 1, .null, 0, 0, 0, [])), (16, (.aload_n 0, 1, .null, 0, 0, 0, [])), (17, (.getfield 41, 3, .null, 4, 17, 0, [])), (20, (.iload_n 2, 1, .null, 0, 0, 0, [])), (21, (.baload, 1, .null, 0, 0, 0, [])), (22, (.ifCond .eq 7, 3, .null, 29, 0, 0, [])), (25, (.iconst 0, 1, .int 0, 0, 0, 0, [])), (26, (.goto 9, 3, .null, 35, 0, 0, [])), (29, (.aload_n 0, 1, .null, 0, 0, 0, [])), (30, (.getfield 35, 3, .null, 4, 15, 0, [])), (33, (.iload_n 2, 1, .null, 0, 0, 0, [])), (34, (.iaload, 1, .null, 0, 0, 0, [])), (35, (.iadd, 1, .null, 0, 0, 0, [])), (36, (.istore_n 1, 1, .null, 0, 0, 0, [])), (37, (.iinc 2 1, 3, .int 1, 0, 0, 0, [])), (40, (.goto (-33), 3, .null, 7, 0, 0, [])), (43, (.iload_n 1, 1, .null, 0, 0, 0, [])), (44, (.ireturn, 1, .null, 0, 0, 0, []))]
def km_X4_all : dx_K := ((yX4_all, cX4_all, 3, some .int), kr_X4_all, kp_X4)
def kr_X4_mean : List (Nat × dx_I) := [(0, (.aload_n 0, 1, .null, 0, 0, 0, [])), (1, (.invokevirtual 113, 3, .ref 4, 1, 111, 0, [])), (4, (.istore_n 1, 1, .null, 0, 0, 0, [])), (5, (.iload_n 1, 1, .null, 0, 0, 0, [])), (6, (.ifCond .ne 11, 3, .null, 17, 0, 0, [])), (9, (.aload_n 0, 1, .null, 0, 0, 0, [])), (10, (.iconst 4, 1, .int 4, 0, 0, 0, [])), (11, (.invokevirtual 94, 3, .ref 4, 1, 83, 1, [])), (14, (.goto 9, 3, .null, 23, 0, 0, [])), (17, (.aload_n 0, 1, .null, 0, 0, 0, [])), (18, (.invokevirtual 109, 3, .ref 4, 1, 112, 0, [])), (21, (.iload_n 1, 1, .null, 0, 0, 0, [])), (22, (.idiv, 1, .null, 0, 0, 0, [])), (23, (.ireturn, 1, .null, 0, 0, 0, []))]
def km_X4_mean : dx_K := ((yX4_mean, cX4_mean, 2, some .int), kr_X4_mean, kp_X4)
def kr_X4_lay_ : List (Nat × dx_I) := [(0, (.aload_n 0, 1, .null, 0, 0, 0, [])), (1, (.iload_n 1, 1, .null, 0, 0, 0, [])), (2, (.iconst 2, 1, .int 2, 0, 0, 0, [])), (3, (.irem, 1, .null, 0, 0, 0, [])), (4, (.ifCond .ne 10, 3, .null, 14, 0, 0, [])), (7, (.aload_n 0, 1, .null, 0, 0, 0, [])), (8, (.getfield 77, 3, .null, 4, 4, 0, [])), (11, (.goto 7, 3, .null, 18, 0, 0, [])), (14, (.aload_n 0, 1, .null, 0, 0, 0, [])), (15, (.getfield 80, 3, .null, 4, 5, 0, [])), (18, (.putfield 116, 3, .null, 4, 18, 0, [])), (21, (.aload_n 0, 1, .null, 0, 0, 0, [])), (22, (.iload_n 1, 1, .null, 0, 0, 0, [])), (23, (.iconst 2, 1, .int 2, 0, 0, 0, [])), (24, (.irem, 1, .null, 0, 0, 0, [])), (25, (.ifCond .ne 10, 3, .null, 35, 0, 0, [])), (28, (.aload_n 0, 1, .null, 0, 0, 0, [])), (29, (.getfield 80, 3, .null, 4, 5, 0, [])), (32, (.goto 7, 3, .null, 39, 0, 0, [])), (35, (.aload_n 0, 1, .null, 0, 0, 0, [])), (36, (.getfield 77, 3, .null, 4, 4, 0, [])), (39, (.putfield 119, 3, .null, 4, 19, 0, [])), (42, (.aload_n 0, 1, .null, 0, 0, 0, [])), (43, (.lconst 0, 1, .long 0, 0, 0, 0, [])), (44, (.putfield 122, 3, .null, 4, 21, 0, [])), (47, (.aload_n 0, 1, .null, 0, 0, 0, [])), (48, (.lconst 0, 1, .long 0, 0, 0, 0, [])), (49, (.putfield 125, 3, .null, 4, 22, 0, [])), (52, (.iconst 0, 1, .int 0, 0, 0, 0, [])), (53, (.istore_n 2, 1, .null, 0, 0, 0, [])), (54, (.iload_n 2, 1, .null, 0, 0, 0, [])), (55, (.aload_n 0, 1, .null, 0, 0, 0, [])), (56, (.getfield 80, 3, .null, 4, 5, 0, [])), (59, (.if_icmp .ge 199, 3, .null, 258, 0, 0, [])), (62, (.iconst 0, 1, .int 0, 0, 0, 0, [])), (63, (.istore_n 3, 1, .null, 0, 0, 0, [])), (64, (.iload_n 3, 1, .null, 0, 0, 0, [])), (65, (.aload_n 0, 1, .null, 0, 0, 0, [])), (66, (.getfield 77, 3, .null, 4, 4, 0, [])), (69, (.if_icmp .ge 183, 3, .null, 252, 0, 0, [])), (72, (.iload_n 1, 1, .null, 0, 0, 0, [])), (73, (.ifCond .ne 7, 3, .null, 80, 0, 0, [])), (76, (.iload_n 3, 1, .null, 0, 0, 0, [])), (77, (.goto 36, 3, .null, 113, 0, 0, [])), (80, (.iload_n 1, 1, .null, 0, 0, 0, [])), (81, (.iconst 1, 1, .int 1, 0, 0, 0, [])), (82, (.if_icmp .ne 14, 3, .null, 96, 0, 0, [])), (85, (.aload_n 0, 1, .null, 0, 0, 0, [])), (86, (.getfield 80, 3, .null, 4, 5, 0, [])), (89, (.iconst 1, 1, .int 1, 0, 0, 0, [])), (90, (.isub, 1, .null, 0, 0, 0, [])), (91, (.iload_n 2, 1, .null, 0, 0, 0, [])), (92, (.isub, 1, .null, 0, 0, 0, [])), (93, (.goto 20, 3, .null, 113, 0, 0, [])), (96, (.iload_n 1, 1, .null, 0, 0, 0, [])), (97, (.iconst 2, 1, .int 2, 0, 0, 0, [])), (98, (.if_icmp .ne 14, 3, .null, 112, 0, 0, [])), (101, (.aload_n 0, 1, .null, 0, 0, 0, [])), (102, (.getfield 77, 3, .null, 4, 4, 0, [])), (105, (.iconst 1, 1, .int 1, 0, 0, 0, [])), (106, (.isub, 1, .null, 0, 0, 0, [])), (107, (.iload_n 3, 1, .null, 0, 0, 0, [])), (108, (.isub, 1, .null, 0, 0, 0, [])), (109, (.goto 4, 3, .null, 113, 0, 0, [])), (112, (.iload_n 2, 1, .null, 0, 0, 0, [])), (113, (.istore 4, 2, .null, 0, 0, 0, [])), (115, (.iload_n 1, 1, .null, 0, 0, 0, [])), (116, (.ifCond .ne 7, 3, .null, 123, 0, 0, [])), (119, (.iload_n 2, 1, .null, 0, 0, 0, [])), (120, (.goto 36, 3, .null, 156, 0, 0, [])), (123, (.iload_n 1, 1, .null, 0, 0, 0, [])), (124, (.iconst 1, 1, .int 1, 0, 0, 0, [])), (125, (.if_icmp .ne 7, 3, .null, 132, 0, 0, [])), (128, (.iload_n 3, 1, .null, 0, 0, 0, [])), (129, (.goto 27, 3, .null, 156, 0, 0, [])), (132, (.iload_n 1, 1, .null, 0, 0, 0, [])), (133, (.iconst 2, 1, .int 2, 0, 0, 0, [])), (134, (.if_icmp .ne 14, 3, .null, 148, 0, 0, [])), (137, (.aload_n 0, 1, .null, 0, 0, 0, [])), (138, (.getfield 80, 3, .null, 4, 5, 0, [])), (141, (.iconst 1, 1, .int 1, 0, 0, 0, [])), (142, (.isub, 1, .null, 0, 0, 0, [])), (143, (.iload_n 2, 1, .null, 0, 0, 0, [])), (144, (.isub, 1, .null, 0, 0, 0, [])), (145, (.goto 11, 3, .null, 156, 0, 0, [])), (148, (.aload_n 0, 1, .null, 0, 0, 0, [])), (149, (.getfield 77, 3, .null, 4, 4, 0, [])), (152, (.iconst 1, 1, .int 1, 0, 0, 0, [])), (153, (.isub, 1, .null, 0, 0, 0, [])), (154, (.iload_n 3, 1, .null, 0, 0, 0, [])), (155, (.isub, 1, .null, 0, 0, 0, [])), (156, (.istore 5, 2, .null, 0, 0, 0, [])), (158, (.aload_n 0, 1, .null, 0, 0, 0, [])), (159, (.getfield 13, 3, .null, 4, 7, 0, [])), (162, (.bipush 12, 2, .int 12, 0, 0, 0, [])), (164, (.iload_n 2, 1, .null, 0, 0, 0, [])), (165, (.imul, 1, .null, 0, 0, 0, [])), (166, (.iload_n 3, 1, .null, 0, 0, 0, [])), (167, (.iadd, 1, .null, 0, 0, 0, [])), (168, (.iaload, 1, .null, 0, 0, 0, [])), (169, (.istore 6, 2, .null, 0, 0, 0, [])), (171, (.aload_n 0, 1, .null, 0, 0, 0, [])), (172, (.getfield 45, 3, .null, 4, 20, 0, [])), (175, (.bipush 12, 2, .int 12, 0, 0, 0, [])), (177, (.iload 5, 2, .null, 0, 0, 0, [])), (179, (.imul, 1, .null, 0, 0, 0, [])), (180, (.iload 4, 2, .null, 0, 0, 0, [])), (182, (.iadd, 1, .null, 0, 0, 0, [])), (183, (.iload 6, 2, .null, 0, 0, 0, [])), (185, (.iastore, 1, .null, 0, 0, 0, [])), (186, (.aload_n 0, 1, .null, 0, 0, 0, [])), (187, (.dup, 1, .null, 0, 0, 0, [])), (188, (.getfield 122, 3, .null, 4, 21, 0, [])), (191, (.iload 6, 2, .null, 0, 0, 0, [])), (193, (.bipush (-9), 2, .int (-9), 0, 0, 0, [])), (195, (.if_icmp .ne 7, 3, .null, 202, 0, 0, [])), (198, (.lconst 0, 1, .long 0, 0, 0, 0, [])), (199, (.goto 13, 3, .null, 212, 0, 0, [])), (202, (.iload 6, 2, .null, 0, 0, 0, [])), (204, (.iconst 2, 1, .int 2, 0, 0, 0, [])), (205, (.iload 4, 2, .null, 0, 0, 0, [])), (207, (.imul, 1, .null, 0, 0, 0, [])), (208, (.iconst 1, 1, .int 1, 0, 0, 0, [])), (209, (.iadd, 1, .null, 0, 0, 0, [])), (210, (.imul, 1, .null, 0, 0, 0, [])), (211, (.i2l, 1, .null, 0, 0, 0, [])), (212, (.ladd, 1, .null, 0, 0, 0, [])), (213, (.putfield 122, 3, .null, 4, 21, 0, [])), (216, (.aload_n 0, 1, .null, 0, 0, 0, [])), (217, (.dup, 1, .null, 0, 0, 0, [])), (218, (.getfield 125, 3, .null, 4, 22, 0, [])), (221, (.iload 6, 2, .null, 0, 0, 0, [])), (223, (.bipush (-9), 2, .int (-9), 0, 0, 0, [])), (225, (.if_icmp .ne 7, 3, .null, 232, 0, 0, [])), (228, (.lconst 0, 1, .long 0, 0, 0, 0, [])), (229, (.goto 13, 3, .null, 242, 0, 0, [])), (232, (.iload 6, 2, .null, 0, 0, 0, [])), (234, (.iconst 2, 1, .int 2, 0, 0, 0, [])), (235, (.iload 5, 2, .null, 0, 0, 0, [])), (237, (.imul, 1, .null, 0, 0, 0, [])), (238, (.iconst 1, 1, .int 1, 0, 0, 0, [])), (239, (.iadd, 1, .null, 0, 0, 0, [])), (240, (.imul, 1, .null, 0, 0, 0, [])), (241, (.i2l, 1, .null, 0, 0, 0, [])), (242, (.ladd, 1, .null, 0, 0, 0, [])), (243, (.putfield 125, 3, .null, 4, 22, 0, [])), (246, (.iinc 3 1, 3, .int 1, 0, 0, 0, [])), (249, (.goto (-185), 3, .null, 64, 0, 0, [])), (252, (.iinc 2 1, 3, .int 1, 0, 0, 0, [])), (255, (.goto (-201), 3, .null, 54, 0, 0, [])), (258, (.iconst 0, 1, .int 0, 0, 0, 0, [])), (259, (.istore_n 2, 1, .null, 0, 0, 0, [])), (260, (.iload_n 2, 1, .null, 0, 0, 0, [])), (261, (.aload_n 0, 1, .null, 0, 0, 0, [])), (262, (.getfield 83, 3, .null, 4, 11, 0, [])), (265, (.if_icmp .ge 160, 3, .null, 425, 0, 0, [])), (268, (.aload_n 0, 1, .null, 0, 0, 0, [])), (269, (.getfield 41, 3, .null, 4, 17, 0, [])), (272, (.iload_n 2, 1, .null, 0, 0, 0, [])), (273, (.baload, 1, .null, 0, 0, 0, [])), (274, (.ifCond .ne 145, 3, .null, 419, 0, 0, [])), (277, (.aload_n 0, 1, .null, 0, 0, 0, [])), (278, (.getfield 29, 3, .null, 4, 13, 0, [])), (281, (.iload_n 2, 1, .null, 0, 0, 0, [])), (282, (.iaload, 1, .null, 0, 0, 0, [])), (283, (.istore_n 3, 1, .null, 0, 0, 0, [])), (284, (.aload_n 0, 1, .null, 0, 0, 0, [])), (285, (.getfield 32, 3, .null, 4, 14, 0, [])), (288, (.iload_n 2, 1, .null, 0, 0, 0, [])), (289, (.iaload, 1, .null, 0, 0, 0, [])), (290, (.istore 4, 2, .null, 0, 0, 0, [])), (292, (.aload_n 0, 1, .null, 0, 0, 0, [])), (293, (.dup, 1, .null, 0, 0, 0, [])), (294, (.getfield 122, 3, .null, 4, 21, 0, [])), (297, (.aload_n 0, 1, .null, 0, 0, 0, [])), (298, (.getfield 35, 3, .null, 4, 15, 0, [])), (301, (.iload_n 2, 1, .null, 0, 0, 0, [])), (302, (.iaload, 1, .null, 0, 0, 0, [])), (303, (.iload_n 1, 1, .null, 0, 0, 0, [])), (304, (.ifCond .ne 7, 3, .null, 311, 0, 0, [])), (307, (.iload_n 3, 1, .null, 0, 0, 0, [])), (308, (.goto 38, 3, .null, 346, 0, 0, [])), (311, (.iload_n 1, 1, .null, 0, 0, 0, [])), (312, (.iconst 1, 1, .int 1, 0, 0, 0, [])), (313, (.if_icmp .ne 15, 3, .null, 328, 0, 0, [])), (316, (.iconst 2, 1, .int 2, 0, 0, 0, [])), (317, (.aload_n 0, 1, .null, 0, 0, 0, [])), (318, (.getfield 80, 3, .null, 4, 5, 0, [])), (321, (.imul, 1, .null, 0, 0, 0, [])), (322, (.iload 4, 2, .null, 0, 0, 0, [])), (324, (.isub, 1, .null, 0, 0, 0, [])), (325, (.goto 21, 3, .null, 346, 0, 0, [])), (328, (.iload_n 1, 1, .null, 0, 0, 0, [])), (329, (.iconst 2, 1, .int 2, 0, 0, 0, [])), (330, (.if_icmp .ne 14, 3, .null, 344, 0, 0, [])), (333, (.iconst 2, 1, .int 2, 0, 0, 0, [])), (334, (.aload_n 0, 1, .null, 0, 0, 0, [])), (335, (.getfield 77, 3, .null, 4, 4, 0, [])), (338, (.imul, 1, .null, 0, 0, 0, [])), (339, (.iload_n 3, 1, .null, 0, 0, 0, [])), (340, (.isub, 1, .null, 0, 0, 0, [])), (341, (.goto 5, 3, .null, 346, 0, 0, [])), (344, (.iload 4, 2, .null, 0, 0, 0, [])), (346, (.imul, 1, .null, 0, 0, 0, [])), (347, (.i2l, 1, .null, 0, 0, 0, [])), (348, (.ladd, 1, .null, 0, 0, 0, [])), (349, (.putfield 122, 3, .null, 4, 21, 0, [])), (352, (.aload_n 0, 1, .null, 0, 0, 0, [])), (353, (.dup, 1, .null, 0, 0, 0, [])), (354, (.getfield 125, 3, .null, 4, 22, 0, [])), (357, (.aload_n 0, 1, .null, 0, 0, 0, [])), (358, (.getfield 35, 3, .null, 4, 15, 0, [])), (361, (.iload_n 2, 1, .null, 0, 0, 0, [])), (362, (.iaload, 1, .null, 0, 0, 0, [])), (363, (.iload_n 1, 1, .null, 0, 0, 0, [])), (364, (.ifCond .ne 8, 3, .null, 372, 0, 0, [])), (367, (.iload 4, 2, .null, 0, 0, 0, [])), (369, (.goto 37, 3, .null, 406, 0, 0, [])), (372, (.iload_n 1, 1, .null, 0, 0, 0, [])), (373, (.iconst 1, 1, .int 1, 0, 0, 0, [])), (374, (.if_icmp .ne 7, 3, .null, 381, 0, 0, [])), (377, (.iload_n 3, 1, .null, 0, 0, 0, [])), (378, (.goto 28, 3, .null, 406, 0, 0, [])), (381, (.iload_n 1, 1, .null, 0, 0, 0, [])), (382, (.iconst 2, 1, .int 2, 0, 0, 0, [])), (383, (.if_icmp .ne 15, 3, .null, 398, 0, 0, [])), (386, (.iconst 2, 1, .int 2, 0, 0, 0, [])), (387, (.aload_n 0, 1, .null, 0, 0, 0, [])), (388, (.getfield 80, 3, .null, 4, 5, 0, [])), (391, (.imul, 1, .null, 0, 0, 0, [])), (392, (.iload 4, 2, .null, 0, 0, 0, [])), (394, (.isub, 1, .null, 0, 0, 0, [])), (395, (.goto 11, 3, .null, 406, 0, 0, [])), (398, (.iconst 2, 1, .int 2, 0, 0, 0, [])), (399, (.aload_n 0, 1, .null, 0, 0, 0, [])), (400, (.getfield 77, 3, .null, 4, 4, 0, [])), (403, (.imul, 1, .null, 0, 0, 0, [])), (404, (.iload_n 3, 1, .null, 0, 0, 0, [])), (405, (.isub, 1, .null, 0, 0, 0, [])), (406, (.aload_n 0, 1, .null, 0, 0, 0, [])), (407, (.getfield 38, 3, .null, 4, 16, 0, [])), (410, (.iload_n 2, 1, .null, 0, 0, 0, [])), (411, (.iaload, 1, .null, 0, 0, 0, [])), (412, (.iadd, 1, .null, 0, 0, 0, [])), (413, (.imul, 1, .null, 0, 0, 0, [])), (414, (.i2l, 1, .null, 0, 0, 0, [])), (415, (.ladd, 1, .null, 0, 0, 0, [])), (416, (.putfield 125, 3, .null, 4, 22, 0, [])), (419, (.iinc 2 1, 3, .int 1, 0, 0, 0, [])), (422, (.goto (-162), 3, .null, 260, 0, 0, [])), (425, (.return_, 1, .null, 0, 0, 0, []))]
def km_X4_lay_ : dx_K := ((yX4_lay_, cX4_lay_, 7, none), kr_X4_lay_, kp_X4)
def kr_X4_isWetAt : List (Nat × dx_I) := [(0, (.iload_n 1, 1, .null, 0, 0, 0, [])), (1, (.iconst 0, 1, .int 0, 0, 0, 0, [])), (2, (.aload_n 0, 1, .null, 0, 0, 0, [])), (3, (.getfield 116, 3, .null, 4, 18, 0, [])), (6, (.iconst 1, 1, .int 1, 0, 0, 0, [])), (7, (.isub, 1, .null, 0, 0, 0, [])), (8, (.invokestatic 66, 3, .null, 2, 82, 3, [])), (11, (.ifCond .eq 30, 3, .null, 41, 0, 0, [])), (14, (.iload_n 2, 1, .null, 0, 0, 0, [])), (15, (.iconst 0, 1, .int 0, 0, 0, 0, [])), (16, (.iload_n 3, 1, .null, 0, 0, 0, [])), (17, (.invokestatic 66, 3, .null, 2, 82, 3, [])), (20, (.ifCond .eq 21, 3, .null, 41, 0, 0, [])), (23, (.aload_n 0, 1, .null, 0, 0, 0, [])), (24, (.getfield 48, 3, .null, 4, 23, 0, [])), (27, (.bipush 12, 2, .int 12, 0, 0, 0, [])), (29, (.iload_n 2, 1, .null, 0, 0, 0, [])), (30, (.imul, 1, .null, 0, 0, 0, [])), (31, (.iload_n 1, 1, .null, 0, 0, 0, [])), (32, (.iadd, 1, .null, 0, 0, 0, [])), (33, (.baload, 1, .null, 0, 0, 0, [])), (34, (.ifCond .eq 7, 3, .null, 41, 0, 0, [])), (37, (.iconst 1, 1, .int 1, 0, 0, 0, [])), (38, (.goto 4, 3, .null, 42, 0, 0, [])), (41, (.iconst 0, 1, .int 0, 0, 0, 0, [])), (42, (.ireturn, 1, .null, 0, 0, 0, []))]
def km_X4_isWetAt : dx_K := ((yX4_isWetAt, cX4_isWetAt, 4, some .boolean), kr_X4_isWetAt, kp_X4)
def kr_X4_spread : List (Nat × dx_I) := [(0, (.iconst 0, 1, .int 0, 0, 0, 0, [])), (1, (.istore_n 2, 1, .null, 0, 0, 0, [])), (2, (.iload_n 2, 1, .null, 0, 0, 0, [])), (3, (.sipush 144, 3, .int 144, 0, 0, 0, [])), (6, (.if_icmp .ge 16, 3, .null, 22, 0, 0, [])), (9, (.aload_n 0, 1, .null, 0, 0, 0, [])), (10, (.getfield 48, 3, .null, 4, 23, 0, [])), (13, (.iload_n 2, 1, .null, 0, 0, 0, [])), (14, (.iconst 0, 1, .int 0, 0, 0, 0, [])), (15, (.bastore, 1, .null, 0, 0, 0, [])), (16, (.iinc 2 1, 3, .int 1, 0, 0, 0, [])), (19, (.goto (-17), 3, .null, 2, 0, 0, [])), (22, (.iconst 1, 1, .int 1, 0, 0, 0, [])), (23, (.istore_n 2, 1, .null, 0, 0, 0, [])), (24, (.iload_n 2, 1, .null, 0, 0, 0, [])), (25, (.ifCond .eq 182, 3, .null, 207, 0, 0, [])), (28, (.iconst 0, 1, .int 0, 0, 0, 0, [])), (29, (.istore_n 2, 1, .null, 0, 0, 0, [])), (30, (.iconst 0, 1, .int 0, 0, 0, 0, [])), (31, (.istore_n 3, 1, .null, 0, 0, 0, [])), (32, (.iload_n 3, 1, .null, 0, 0, 0, [])), (33, (.iload_n 1, 1, .null, 0, 0, 0, [])), (34, (.if_icmp .gt 170, 3, .null, 204, 0, 0, [])), (37, (.iconst 0, 1, .int 0, 0, 0, 0, [])), (38, (.istore 4, 2, .null, 0, 0, 0, [])), (40, (.iload 4, 2, .null, 0, 0, 0, [])), (42, (.aload_n 0, 1, .null, 0, 0, 0, [])), (43, (.getfield 116, 3, .null, 4, 18, 0, [])), (46, (.if_icmp .ge 152, 3, .null, 198, 0, 0, [])), (49, (.aload_n 0, 1, .null, 0, 0, 0, [])), (50, (.getfield 45, 3, .null, 4, 20, 0, [])), (53, (.bipush 12, 2, .int 12, 0, 0, 0, [])), (55, (.iload_n 3, 1, .null, 0, 0, 0, [])), (56, (.imul, 1, .null, 0, 0, 0, [])), (57, (.iload 4, 2, .null, 0, 0, 0, [])), (59, (.iadd, 1, .null, 0, 0, 0, [])), (60, (.iaload, 1, .null, 0, 0, 0, [])), (61, (.bipush (-9), 2, .int (-9), 0, 0, 0, [])), (63, (.if_icmp .ne 22, 3, .null, 85, 0, 0, [])), (66, (.aload_n 0, 1, .null, 0, 0, 0, [])), (67, (.getfield 48, 3, .null, 4, 23, 0, [])), (70, (.bipush 12, 2, .int 12, 0, 0, 0, [])), (72, (.iload_n 3, 1, .null, 0, 0, 0, [])), (73, (.imul, 1, .null, 0, 0, 0, [])), (74, (.iload 4, 2, .null, 0, 0, 0, [])), (76, (.iadd, 1, .null, 0, 0, 0, [])), (77, (.baload, 1, .null, 0, 0, 0, [])), (78, (.ifCond .ne 7, 3, .null, 85, 0, 0, [])), (81, (.iconst 1, 1, .int 1, 0, 0, 0, [])), (82, (.goto 4, 3, .null, 86, 0, 0, [])), (85, (.iconst 0, 1, .int 0, 0, 0, 0, [])), (86, (.istore 5, 2, .null, 0, 0, 0, [])), (88, (.iload 4, 2, .null, 0, 0, 0, [])), (90, (.ifCond .eq 18, 3, .null, 108, 0, 0, [])), (93, (.iload 4, 2, .null, 0, 0, 0, [])), (95, (.aload_n 0, 1, .null, 0, 0, 0, [])), (96, (.getfield 116, 3, .null, 4, 18, 0, [])), (99, (.iconst 1, 1, .int 1, 0, 0, 0, [])), (100, (.isub, 1, .null, 0, 0, 0, [])), (101, (.if_icmp .eq 7, 3, .null, 108, 0, 0, [])), (104, (.iload_n 3, 1, .null, 0, 0, 0, [])), (105, (.ifCond .ne 7, 3, .null, 112, 0, 0, [])), (108, (.iconst 1, 1, .int 1, 0, 0, 0, [])), (109, (.goto 4, 3, .null, 113, 0, 0, [])), (112, (.iconst 0, 1, .int 0, 0, 0, 0, [])), (113, (.istore 6, 2, .null, 0, 0, 0, [])), (115, (.iload 5, 2, .null, 0, 0, 0, [])), (117, (.ifCond .eq 75, 3, .null, 192, 0, 0, [])), (120, (.iload 6, 2, .null, 0, 0, 0, [])), (122, (.ifCond .ne 55, 3, .null, 177, 0, 0, [])), (125, (.aload_n 0, 1, .null, 0, 0, 0, [])), (126, (.iload 4, 2, .null, 0, 0, 0, [])), (128, (.iconst 1, 1, .int 1, 0, 0, 0, [])), (129, (.isub, 1, .null, 0, 0, 0, [])), (130, (.iload_n 3, 1, .null, 0, 0, 0, [])), (131, (.iload_n 1, 1, .null, 0, 0, 0, [])), (132, (.invokevirtual 128, 3, .ref 4, 1, 116, 3, [])), (135, (.ifCond .ne 42, 3, .null, 177, 0, 0, [])), (138, (.aload_n 0, 1, .null, 0, 0, 0, [])), (139, (.iload 4, 2, .null, 0, 0, 0, [])), (141, (.iconst 1, 1, .int 1, 0, 0, 0, [])), (142, (.iadd, 1, .null, 0, 0, 0, [])), (143, (.iload_n 3, 1, .null, 0, 0, 0, [])), (144, (.iload_n 1, 1, .null, 0, 0, 0, [])), (145, (.invokevirtual 128, 3, .ref 4, 1, 116, 3, [])), (148, (.ifCond .ne 29, 3, .null, 177, 0, 0, [])), (151, (.aload_n 0, 1, .null, 0, 0, 0, [])), (152, (.iload 4, 2, .null, 0, 0, 0, [])), (154, (.iload_n 3, 1, .null, 0, 0, 0, [])), (155, (.iconst 1, 1, .int 1, 0, 0, 0, [])), (156, (.isub, 1, .null, 0, 0, 0, [])), (157, (.iload_n 1, 1, .null, 0, 0, 0, [])), (158, (.invokevirtual 128, 3, .ref 4, 1, 116, 3, [])), (161, (.ifCond .ne 16, 3, .null, 177, 0, 0, [])), (164, (.aload_n 0, 1, .null, 0, 0, 0, [])), (165, (.iload 4, 2, .null, 0, 0, 0, [])), (167, (.iload_n 3, 1, .null, 0, 0, 0, [])), (168, (.iconst 1, 1, .int 1, 0, 0, 0, [])), (169, (.iadd, 1, .null, 0, 0, 0, [])), (170, (.iload_n 1, 1, .null, 0, 0, 0, [])), (171, (.invokevirtual 128, 3, .ref 4, 1, 116, 3, [])), (174, (.ifCond .eq 18, 3, .null, 192, 0, 0, [])), (177, (.aload_n 0, 1, .null, 0, 0, 0, [])), (178, (.getfield 48, 3, .null, 4, 23, 0, [])), (181, (.bipush 12, 2, .int 12, 0, 0, 0, [])), (183, (.iload_n 3, 1, .null, 0, 0, 0, [])), (184, (.imul, 1, .null, 0, 0, 0, [])), (185, (.iload 4, 2, .null, 0, 0, 0, [])), (187, (.iadd, 1, .null, 0, 0, 0, [])), (188, (.iconst 1, 1, .int 1, 0, 0, 0, [])), (189, (.bastore, 1, .null, 0, 0, 0, [])), (190, (.iconst 1, 1, .int 1, 0, 0, 0, [])), (191, (.istore_n 2, 1, .null, 0, 0, 0, [])), (192, (.iinc 4 1, 3, .int 1, 0, 0, 0, [])), (195, (.goto (-155), 3, .null, 40, 0, 0, [])), (198, (.iinc 3 1, 3, .int 1, 0, 0, 0, [])), (201, (.goto (-169), 3, .null, 32, 0, 0, [])), (204, (.goto (-180), 3, .null, 24, 0, 0, [])), (207, (.return_, 1, .null, 0, 0, 0, []))]
def km_X4_spread : dx_K := ((yX4_spread, cX4_spread, 7, none), kr_X4_spread, kp_X4)
def kr_X4_firmIn : List (Nat × dx_I) := [(0, (.iconst 0, 1, .int 0, 0, 0, 0, [])), (1, (.istore_n 2, 1, .null, 0, 0, 0, [])), (2, (.iconst 0, 1, .int 0, 0, 0, 0, [])), (3, (.istore_n 3, 1, .null, 0, 0, 0, [])), (4, (.iload_n 3, 1, .null, 0, 0, 0, [])), (5, (.aload_n 0, 1, .null, 0, 0, 0, [])), (6, (.getfield 116, 3, .null, 4, 18, 0, [])), (9, (.if_icmp .ge 31, 3, .null, 40, 0, 0, [])), (12, (.iload_n 2, 1, .null, 0, 0, 0, [])), (13, (.aload_n 0, 1, .null, 0, 0, 0, [])), (14, (.getfield 48, 3, .null, 4, 23, 0, [])), (17, (.bipush 12, 2, .int 12, 0, 0, 0, [])), (19, (.iload_n 1, 1, .null, 0, 0, 0, [])), (20, (.imul, 1, .null, 0, 0, 0, [])), (21, (.iload_n 3, 1, .null, 0, 0, 0, [])), (22, (.iadd, 1, .null, 0, 0, 0, [])), (23, (.baload, 1, .null, 0, 0, 0, [])), (24, (.ifCond .eq 7, 3, .null, 31, 0, 0, [])), (27, (.iconst 0, 1, .int 0, 0, 0, 0, [])), (28, (.goto 4, 3, .null, 32, 0, 0, [])), (31, (.iconst 1, 1, .int 1, 0, 0, 0, [])), (32, (.iadd, 1, .null, 0, 0, 0, [])), (33, (.istore_n 2, 1, .null, 0, 0, 0, [])), (34, (.iinc 3 1, 3, .int 1, 0, 0, 0, [])), (37, (.goto (-33), 3, .null, 4, 0, 0, [])), (40, (.iload_n 2, 1, .null, 0, 0, 0, [])), (41, (.ireturn, 1, .null, 0, 0, 0, []))]
def km_X4_firmIn : dx_K := ((yX4_firmIn, cX4_firmIn, 4, some .int), kr_X4_firmIn, kp_X4)
def kr_X4_firmBelow : List (Nat × dx_I) := [(0, (.iconst 0, 1, .int 0, 0, 0, 0, [])), (1, (.istore_n 2, 1, .null, 0, 0, 0, [])), (2, (.iconst 0, 1, .int 0, 0, 0, 0, [])), (3, (.istore_n 3, 1, .null, 0, 0, 0, [])), (4, (.iload_n 3, 1, .null, 0, 0, 0, [])), (5, (.iload_n 1, 1, .null, 0, 0, 0, [])), (6, (.if_icmp .ge 17, 3, .null, 23, 0, 0, [])), (9, (.iload_n 2, 1, .null, 0, 0, 0, [])), (10, (.aload_n 0, 1, .null, 0, 0, 0, [])), (11, (.iload_n 3, 1, .null, 0, 0, 0, [])), (12, (.invokevirtual 131, 3, .ref 4, 1, 118, 1, [])), (15, (.iadd, 1, .null, 0, 0, 0, [])), (16, (.istore_n 2, 1, .null, 0, 0, 0, [])), (17, (.iinc 3 1, 3, .int 1, 0, 0, 0, [])), (20, (.goto (-16), 3, .null, 4, 0, 0, [])), (23, (.iload_n 2, 1, .null, 0, 0, 0, [])), (24, (.ireturn, 1, .null, 0, 0, 0, []))]
def km_X4_firmBelow : dx_K := ((yX4_firmBelow, cX4_firmBelow, 4, some .int), kr_X4_firmBelow, kp_X4)
def kr_X4_finds : List (Nat × dx_I) := [(0, (.iconst 0, 1, .int 0, 0, 0, 0, [])), (1, (.istore_n 2, 1, .null, 0, 0, 0, [])), (2, (.iload_n 2, 1, .null, 0, 0, 0, [])), (3, (.aload_n 0, 1, .null, 0, 0, 0, [])), (4, (.getfield 119, 3, .null, 4, 19, 0, [])), (7, (.if_icmp .ge 94, 3, .null, 101, 0, 0, [])), (10, (.aload_n 0, 1, .null, 0, 0, 0, [])), (11, (.iload_n 2, 1, .null, 0, 0, 0, [])), (12, (.invokevirtual 134, 3, .ref 4, 1, 117, 1, [])), (15, (.aload_n 0, 1, .null, 0, 0, 0, [])), (16, (.iload_n 2, 1, .null, 0, 0, 0, [])), (17, (.invokevirtual 138, 3, .ref 4, 1, 119, 1, [])), (20, (.istore_n 3, 1, .null, 0, 0, 0, [])), (21, (.aload_n 0, 1, .null, 0, 0, 0, [])), (22, (.iload_n 2, 1, .null, 0, 0, 0, [])), (23, (.invokevirtual 131, 3, .ref 4, 1, 118, 1, [])), (26, (.istore 4, 2, .null, 0, 0, 0, [])), (28, (.iload_n 3, 1, .null, 0, 0, 0, [])), (29, (.aload_n 0, 1, .null, 0, 0, 0, [])), (30, (.getfield 51, 3, .null, 4, 6, 0, [])), (33, (.imul, 1, .null, 0, 0, 0, [])), (34, (.iload_n 1, 1, .null, 0, 0, 0, [])), (35, (.if_icmp .ge 60, 3, .null, 95, 0, 0, [])), (38, (.iload_n 1, 1, .null, 0, 0, 0, [])), (39, (.iload_n 3, 1, .null, 0, 0, 0, [])), (40, (.iload 4, 2, .null, 0, 0, 0, [])), (42, (.iadd, 1, .null, 0, 0, 0, [])), (43, (.aload_n 0, 1, .null, 0, 0, 0, [])), (44, (.getfield 51, 3, .null, 4, 6, 0, [])), (47, (.imul, 1, .null, 0, 0, 0, [])), (48, (.if_icmp .gt 47, 3, .null, 95, 0, 0, [])), (51, (.aload_n 0, 1, .null, 0, 0, 0, [])), (52, (.iload_n 2, 1, .null, 0, 0, 0, [])), (53, (.putfield 141, 3, .null, 4, 24, 0, [])), (56, (.aload_n 0, 1, .null, 0, 0, 0, [])), (57, (.iload_n 3, 1, .null, 0, 0, 0, [])), (58, (.putfield 144, 3, .null, 4, 27, 0, [])), (61, (.aload_n 0, 1, .null, 0, 0, 0, [])), (62, (.iload 4, 2, .null, 0, 0, 0, [])), (64, (.putfield 147, 3, .null, 4, 28, 0, [])), (67, (.aload_n 0, 1, .null, 0, 0, 0, [])), (68, (.iload_n 1, 1, .null, 0, 0, 0, [])), (69, (.iload_n 3, 1, .null, 0, 0, 0, [])), (70, (.aload_n 0, 1, .null, 0, 0, 0, [])), (71, (.getfield 51, 3, .null, 4, 6, 0, [])), (74, (.imul, 1, .null, 0, 0, 0, [])), (75, (.isub, 1, .null, 0, 0, 0, [])), (76, (.i2l, 1, .null, 0, 0, 0, [])), (77, (.putfield 150, 3, .null, 4, 25, 0, [])), (80, (.aload_n 0, 1, .null, 0, 0, 0, [])), (81, (.iload 4, 2, .null, 0, 0, 0, [])), (83, (.i2l, 1, .null, 0, 0, 0, [])), (84, (.aload_n 0, 1, .null, 0, 0, 0, [])), (85, (.getfield 51, 3, .null, 4, 6, 0, [])), (88, (.i2l, 1, .null, 0, 0, 0, [])), (89, (.lmul, 1, .null, 0, 0, 0, [])), (90, (.putfield 153, 3, .null, 4, 26, 0, [])), (93, (.iconst 1, 1, .int 1, 0, 0, 0, [])), (94, (.ireturn, 1, .null, 0, 0, 0, [])), (95, (.iinc 2 1, 3, .int 1, 0, 0, 0, [])), (98, (.goto (-96), 3, .null, 2, 0, 0, [])), (101, (.iconst 0, 1, .int 0, 0, 0, 0, [])), (102, (.ireturn, 1, .null, 0, 0, 0, []))]
def km_X4_finds : dx_K := ((yX4_finds, cX4_finds, 5, some .boolean), kr_X4_finds, kp_X4)
def kr_X4_afloat : List (Nat × dx_I) := [(0, (.iload_n 2, 1, .null, 0, 0, 0, [])), (1, (.iconst 0, 1, .int 0, 0, 0, 0, [])), (2, (.iconst 3, 1, .int 3, 0, 0, 0, [])), (3, (.invokestatic 66, 3, .null, 2, 82, 3, [])), (6, (.ifCond .eq 7, 3, .null, 13, 0, 0, [])), (9, (.iload_n 1, 1, .null, 0, 0, 0, [])), (10, (.ifCond .ne 5, 3, .null, 15, 0, 0, [])), (13, (.iconst (-1), 1, .int (-1), 0, 0, 0, [])), (14, (.ireturn, 1, .null, 0, 0, 0, [])), (15, (.aload_n 0, 1, .null, 0, 0, 0, [])), (16, (.invokevirtual 113, 3, .ref 4, 1, 111, 0, [])), (19, (.ifCond .eq 10, 3, .null, 29, 0, 0, [])), (22, (.aload_n 0, 1, .null, 0, 0, 0, [])), (23, (.invokevirtual 156, 3, .ref 4, 1, 113, 0, [])), (26, (.ifCond .ne 6, 3, .null, 32, 0, 0, [])), (29, (.bipush (-4), 2, .int (-4), 0, 0, 0, [])), (31, (.ireturn, 1, .null, 0, 0, 0, [])), (32, (.aload_n 0, 1, .null, 0, 0, 0, [])), (33, (.iload_n 2, 1, .null, 0, 0, 0, [])), (34, (.invokevirtual 159, 3, .ref 4, 1, 115, 1, [])), (37, (.aload_n 0, 1, .null, 0, 0, 0, [])), (38, (.aload_n 0, 1, .null, 0, 0, 0, [])), (39, (.invokevirtual 156, 3, .ref 4, 1, 113, 0, [])), (42, (.invokevirtual 162, 3, .ref 4, 1, 120, 1, [])), (45, (.ifCond .eq 7, 3, .null, 52, 0, 0, [])), (48, (.iconst 1, 1, .int 1, 0, 0, 0, [])), (49, (.goto 5, 3, .null, 54, 0, 0, [])), (52, (.bipush (-5), 2, .int (-5), 0, 0, 0, [])), (54, (.ireturn, 1, .null, 0, 0, 0, []))]
def km_X4_afloat : dx_K := ((yX4_afloat, cX4_afloat, 3, some .int), kr_X4_afloat, kp_X4)
def kr_X4_floats : List (Nat × dx_I) := [(0, (.aload_n 0, 1, .null, 0, 0, 0, [])), (1, (.iconst 1, 1, .int 1, 0, 0, 0, [])), (2, (.iload_n 1, 1, .null, 0, 0, 0, [])), (3, (.invokevirtual 165, 3, .ref 4, 1, 121, 2, [])), (6, (.ireturn, 1, .null, 0, 0, 0, []))]
def km_X4_floats : dx_K := ((yX4_floats, cX4_floats, 2, some .int), kr_X4_floats, kp_X4)
def kr_X4_draft : List (Nat × dx_I) := [(0, (.aload_n 0, 1, .null, 0, 0, 0, [])), (1, (.iconst 1, 1, .int 1, 0, 0, 0, [])), (2, (.iload_n 1, 1, .null, 0, 0, 0, [])), (3, (.invokevirtual 165, 3, .ref 4, 1, 121, 2, [])), (6, (.istore_n 2, 1, .null, 0, 0, 0, [])), (7, (.iload_n 2, 1, .null, 0, 0, 0, [])), (8, (.ifCond .ge 7, 3, .null, 15, 0, 0, [])), (11, (.iload_n 2, 1, .null, 0, 0, 0, [])), (12, (.goto 26, 3, .null, 38, 0, 0, [])), (15, (.aload_n 0, 1, .null, 0, 0, 0, [])), (16, (.aload_n 0, 1, .null, 0, 0, 0, [])), (17, (.getfield 141, 3, .null, 4, 24, 0, [])), (20, (.i2l, 1, .null, 0, 0, 0, [])), (21, (.aload_n 0, 1, .null, 0, 0, 0, [])), (22, (.getfield 153, 3, .null, 4, 26, 0, [])), (25, (.lmul, 1, .null, 0, 0, 0, [])), (26, (.aload_n 0, 1, .null, 0, 0, 0, [])), (27, (.getfield 150, 3, .null, 4, 25, 0, [])), (30, (.ladd, 1, .null, 0, 0, 0, [])), (31, (.aload_n 0, 1, .null, 0, 0, 0, [])), (32, (.getfield 153, 3, .null, 4, 26, 0, [])), (35, (.invokevirtual 168, 3, .ref 4, 1, 87, 2, [])), (38, (.ireturn, 1, .null, 0, 0, 0, []))]
def km_X4_draft : dx_K := ((yX4_draft, cX4_draft, 3, some .int), kr_X4_draft, kp_X4)
def kr_X4_above : List (Nat × dx_I) := [(0, (.aload_n 0, 1, .null, 0, 0, 0, [])), (1, (.iconst 1, 1, .int 1, 0, 0, 0, [])), (2, (.iload_n 1, 1, .null, 0, 0, 0, [])), (3, (.invokevirtual 165, 3, .ref 4, 1, 121, 2, [])), (6, (.istore_n 2, 1, .null, 0, 0, 0, [])), (7, (.iload_n 2, 1, .null, 0, 0, 0, [])), (8, (.ifCond .ge 7, 3, .null, 15, 0, 0, [])), (11, (.iload_n 2, 1, .null, 0, 0, 0, [])), (12, (.goto 31, 3, .null, 43, 0, 0, [])), (15, (.aload_n 0, 1, .null, 0, 0, 0, [])), (16, (.aload_n 0, 1, .null, 0, 0, 0, [])), (17, (.getfield 119, 3, .null, 4, 19, 0, [])), (20, (.aload_n 0, 1, .null, 0, 0, 0, [])), (21, (.getfield 141, 3, .null, 4, 24, 0, [])), (24, (.isub, 1, .null, 0, 0, 0, [])), (25, (.i2l, 1, .null, 0, 0, 0, [])), (26, (.aload_n 0, 1, .null, 0, 0, 0, [])), (27, (.getfield 153, 3, .null, 4, 26, 0, [])), (30, (.lmul, 1, .null, 0, 0, 0, [])), (31, (.aload_n 0, 1, .null, 0, 0, 0, [])), (32, (.getfield 150, 3, .null, 4, 25, 0, [])), (35, (.lsub, 1, .null, 0, 0, 0, [])), (36, (.aload_n 0, 1, .null, 0, 0, 0, [])), (37, (.getfield 153, 3, .null, 4, 26, 0, [])), (40, (.invokevirtual 168, 3, .ref 4, 1, 87, 2, [])), (43, (.ireturn, 1, .null, 0, 0, 0, []))]
def km_X4_above : dx_K := ((yX4_above, cX4_above, 3, some .int), kr_X4_above, kp_X4)
def kr_X4_laySums : List (Nat × dx_I) := [(0, (.aload_n 0, 1, .null, 0, 0, 0, [])), (1, (.lconst 0, 1, .long 0, 0, 0, 0, [])), (2, (.putfield 172, 3, .null, 4, 29, 0, [])), (5, (.aload_n 0, 1, .null, 0, 0, 0, [])), (6, (.lconst 0, 1, .long 0, 0, 0, 0, [])), (7, (.putfield 175, 3, .null, 4, 30, 0, [])), (10, (.aload_n 0, 1, .null, 0, 0, 0, [])), (11, (.lconst 0, 1, .long 0, 0, 0, 0, [])), (12, (.putfield 178, 3, .null, 4, 31, 0, [])), (15, (.iconst 0, 1, .int 0, 0, 0, 0, [])), (16, (.istore_n 1, 1, .null, 0, 0, 0, [])), (17, (.iload_n 1, 1, .null, 0, 0, 0, [])), (18, (.aload_n 0, 1, .null, 0, 0, 0, [])), (19, (.getfield 141, 3, .null, 4, 24, 0, [])), (22, (.if_icmp .gt 120, 3, .null, 142, 0, 0, [])), (25, (.iconst 0, 1, .int 0, 0, 0, 0, [])), (26, (.istore_n 2, 1, .null, 0, 0, 0, [])), (27, (.iload_n 2, 1, .null, 0, 0, 0, [])), (28, (.aload_n 0, 1, .null, 0, 0, 0, [])), (29, (.getfield 116, 3, .null, 4, 18, 0, [])), (32, (.if_icmp .ge 104, 3, .null, 136, 0, 0, [])), (35, (.aload_n 0, 1, .null, 0, 0, 0, [])), (36, (.getfield 48, 3, .null, 4, 23, 0, [])), (39, (.bipush 12, 2, .int 12, 0, 0, 0, [])), (41, (.iload_n 1, 1, .null, 0, 0, 0, [])), (42, (.imul, 1, .null, 0, 0, 0, [])), (43, (.iload_n 2, 1, .null, 0, 0, 0, [])), (44, (.iadd, 1, .null, 0, 0, 0, [])), (45, (.baload, 1, .null, 0, 0, 0, [])), (46, (.ifCond .ne 84, 3, .null, 130, 0, 0, [])), (49, (.aload_n 0, 1, .null, 0, 0, 0, [])), (50, (.dup, 1, .null, 0, 0, 0, [])), (51, (.getfield 172, 3, .null, 4, 29, 0, [])), (54, (.iload_n 1, 1, .null, 0, 0, 0, [])), (55, (.aload_n 0, 1, .null, 0, 0, 0, [])), (56, (.getfield 141, 3, .null, 4, 24, 0, [])), (59, (.if_icmp .ge 12, 3, .null, 71, 0, 0, [])), (62, (.iconst 2, 1, .int 2, 0, 0, 0, [])), (63, (.iload_n 2, 1, .null, 0, 0, 0, [])), (64, (.imul, 1, .null, 0, 0, 0, [])), (65, (.iconst 1, 1, .int 1, 0, 0, 0, [])), (66, (.iadd, 1, .null, 0, 0, 0, [])), (67, (.i2l, 1, .null, 0, 0, 0, [])), (68, (.goto 4, 3, .null, 72, 0, 0, [])), (71, (.lconst 0, 1, .long 0, 0, 0, 0, [])), (72, (.ladd, 1, .null, 0, 0, 0, [])), (73, (.putfield 172, 3, .null, 4, 29, 0, [])), (76, (.aload_n 0, 1, .null, 0, 0, 0, [])), (77, (.dup, 1, .null, 0, 0, 0, [])), (78, (.getfield 178, 3, .null, 4, 31, 0, [])), (81, (.iload_n 1, 1, .null, 0, 0, 0, [])), (82, (.aload_n 0, 1, .null, 0, 0, 0, [])), (83, (.getfield 141, 3, .null, 4, 24, 0, [])), (86, (.if_icmp .ge 12, 3, .null, 98, 0, 0, [])), (89, (.iconst 2, 1, .int 2, 0, 0, 0, [])), (90, (.iload_n 1, 1, .null, 0, 0, 0, [])), (91, (.imul, 1, .null, 0, 0, 0, [])), (92, (.iconst 1, 1, .int 1, 0, 0, 0, [])), (93, (.iadd, 1, .null, 0, 0, 0, [])), (94, (.i2l, 1, .null, 0, 0, 0, [])), (95, (.goto 4, 3, .null, 99, 0, 0, [])), (98, (.lconst 0, 1, .long 0, 0, 0, 0, [])), (99, (.ladd, 1, .null, 0, 0, 0, [])), (100, (.putfield 178, 3, .null, 4, 31, 0, [])), (103, (.aload_n 0, 1, .null, 0, 0, 0, [])), (104, (.dup, 1, .null, 0, 0, 0, [])), (105, (.getfield 175, 3, .null, 4, 30, 0, [])), (108, (.iload_n 1, 1, .null, 0, 0, 0, [])), (109, (.aload_n 0, 1, .null, 0, 0, 0, [])), (110, (.getfield 141, 3, .null, 4, 24, 0, [])), (113, (.if_icmp .ne 12, 3, .null, 125, 0, 0, [])), (116, (.iconst 2, 1, .int 2, 0, 0, 0, [])), (117, (.iload_n 2, 1, .null, 0, 0, 0, [])), (118, (.imul, 1, .null, 0, 0, 0, [])), (119, (.iconst 1, 1, .int 1, 0, 0, 0, [])), (120, (.iadd, 1, .null, 0, 0, 0, [])), (121, (.i2l, 1, .null, 0, 0, 0, [])), (122, (.goto 4, 3, .null, 126, 0, 0, [])), (125, (.lconst 0, 1, .long 0, 0, 0, 0, [])), (126, (.ladd, 1, .null, 0, 0, 0, [])), (127, (.putfield 175, 3, .null, 4, 30, 0, [])), (130, (.iinc 2 1, 3, .int 1, 0, 0, 0, [])), (133, (.goto (-106), 3, .null, 27, 0, 0, [])), (136, (.iinc 1 1, 3, .int 1, 0, 0, 0, [])), (139, (.goto (-122), 3, .null, 17, 0, 0, [])), (142, (.return_, 1, .null, 0, 0, 0, []))]
def km_X4_laySums : dx_K := ((yX4_laySums, cX4_laySums, 3, none), kr_X4_laySums, kp_X4)
def kr_X4_layPowers : List (Nat × dx_I) := [(0, (.aload_n 0, 1, .null, 0, 0, 0, [])), (1, (.invokevirtual 181, 3, .ref 4, 1, 125, 0, [])), (4, (.aload_n 0, 1, .null, 0, 0, 0, [])), (5, (.aload_n 0, 1, .null, 0, 0, 0, [])), (6, (.getfield 172, 3, .null, 4, 29, 0, [])), (9, (.aload_n 0, 1, .null, 0, 0, 0, [])), (10, (.getfield 153, 3, .null, 4, 26, 0, [])), (13, (.lmul, 1, .null, 0, 0, 0, [])), (14, (.aload_n 0, 1, .null, 0, 0, 0, [])), (15, (.getfield 175, 3, .null, 4, 30, 0, [])), (18, (.aload_n 0, 1, .null, 0, 0, 0, [])), (19, (.getfield 150, 3, .null, 4, 25, 0, [])), (22, (.lmul, 1, .null, 0, 0, 0, [])), (23, (.ladd, 1, .null, 0, 0, 0, [])), (24, (.putfield 184, 3, .null, 4, 32, 0, [])), (27, (.aload_n 0, 1, .null, 0, 0, 0, [])), (28, (.ldc2_w 187, 3, .long 2, 0, 0, 0, [])), (31, (.aload_n 0, 1, .null, 0, 0, 0, [])), (32, (.getfield 153, 3, .null, 4, 26, 0, [])), (35, (.lmul, 1, .null, 0, 0, 0, [])), (36, (.putfield 189, 3, .null, 4, 33, 0, [])), (39, (.aload_n 0, 1, .null, 0, 0, 0, [])), (40, (.aload_n 0, 1, .null, 0, 0, 0, [])), (41, (.getfield 178, 3, .null, 4, 31, 0, [])), (44, (.aload_n 0, 1, .null, 0, 0, 0, [])), (45, (.getfield 153, 3, .null, 4, 26, 0, [])), (48, (.lmul, 1, .null, 0, 0, 0, [])), (49, (.aload_n 0, 1, .null, 0, 0, 0, [])), (50, (.getfield 153, 3, .null, 4, 26, 0, [])), (53, (.lmul, 1, .null, 0, 0, 0, [])), (54, (.aload_n 0, 1, .null, 0, 0, 0, [])), (55, (.getfield 147, 3, .null, 4, 28, 0, [])), (58, (.i2l, 1, .null, 0, 0, 0, [])), (59, (.ldc2_w 187, 3, .long 2, 0, 0, 0, [])), (62, (.aload_n 0, 1, .null, 0, 0, 0, [])), (63, (.getfield 141, 3, .null, 4, 24, 0, [])), (66, (.i2l, 1, .null, 0, 0, 0, [])), (67, (.lmul, 1, .null, 0, 0, 0, [])), (68, (.aload_n 0, 1, .null, 0, 0, 0, [])), (69, (.getfield 150, 3, .null, 4, 25, 0, [])), (72, (.lmul, 1, .null, 0, 0, 0, [])), (73, (.aload_n 0, 1, .null, 0, 0, 0, [])), (74, (.getfield 153, 3, .null, 4, 26, 0, [])), (77, (.lmul, 1, .null, 0, 0, 0, [])), (78, (.aload_n 0, 1, .null, 0, 0, 0, [])), (79, (.getfield 150, 3, .null, 4, 25, 0, [])), (82, (.aload_n 0, 1, .null, 0, 0, 0, [])), (83, (.getfield 150, 3, .null, 4, 25, 0, [])), (86, (.lmul, 1, .null, 0, 0, 0, [])), (87, (.ladd, 1, .null, 0, 0, 0, [])), (88, (.lmul, 1, .null, 0, 0, 0, [])), (89, (.ladd, 1, .null, 0, 0, 0, [])), (90, (.putfield 192, 3, .null, 4, 34, 0, [])), (93, (.aload_n 0, 1, .null, 0, 0, 0, [])), (94, (.ldc2_w 187, 3, .long 2, 0, 0, 0, [])), (97, (.aload_n 0, 1, .null, 0, 0, 0, [])), (98, (.getfield 153, 3, .null, 4, 26, 0, [])), (101, (.lmul, 1, .null, 0, 0, 0, [])), (102, (.aload_n 0, 1, .null, 0, 0, 0, [])), (103, (.getfield 153, 3, .null, 4, 26, 0, [])), (106, (.lmul, 1, .null, 0, 0, 0, [])), (107, (.putfield 195, 3, .null, 4, 35, 0, [])), (110, (.return_, 1, .null, 0, 0, 0, []))]
def km_X4_layPowers : dx_K := ((yX4_layPowers, cX4_layPowers, 1, none), kr_X4_layPowers, kp_X4)
def kr_X4_middle : List (Nat × dx_I) := [(0, (.aload_n 0, 1, .null, 0, 0, 0, [])), (1, (.iload_n 2, 1, .null, 0, 0, 0, [])), (2, (.iconst 0, 1, .int 0, 0, 0, 0, [])), (3, (.iconst 3, 1, .int 3, 0, 0, 0, [])), (4, (.invokestatic 66, 3, .null, 2, 82, 3, [])), (7, (.iload_n 1, 1, .null, 0, 0, 0, [])), (8, (.invokevirtual 165, 3, .ref 4, 1, 121, 2, [])), (11, (.istore_n 3, 1, .null, 0, 0, 0, [])), (12, (.iload_n 3, 1, .null, 0, 0, 0, [])), (13, (.ifCond .ge 5, 3, .null, 18, 0, 0, [])), (16, (.iload_n 3, 1, .null, 0, 0, 0, [])), (17, (.ireturn, 1, .null, 0, 0, 0, [])), (18, (.aload_n 0, 1, .null, 0, 0, 0, [])), (19, (.invokevirtual 198, 3, .ref 4, 1, 126, 0, [])), (22, (.iload_n 2, 1, .null, 0, 0, 0, [])), (23, (.tableswitch 93 0 2 #[25, 50, 75], 25, .null, 116, 0, 0, [(0, 48), (1, 73), (2, 98)])), (48, (.aload_n 0, 1, .null, 0, 0, 0, [])), (49, (.aload_n 0, 1, .null, 0, 0, 0, [])), (50, (.getfield 184, 3, .null, 4, 32, 0, [])), (53, (.aload_n 0, 1, .null, 0, 0, 0, [])), (54, (.getfield 51, 3, .null, 4, 6, 0, [])), (57, (.i2l, 1, .null, 0, 0, 0, [])), (58, (.lmul, 1, .null, 0, 0, 0, [])), (59, (.aload_n 0, 1, .null, 0, 0, 0, [])), (60, (.getfield 189, 3, .null, 4, 33, 0, [])), (63, (.aload_n 0, 1, .null, 0, 0, 0, [])), (64, (.invokevirtual 156, 3, .ref 4, 1, 113, 0, [])), (67, (.i2l, 1, .null, 0, 0, 0, [])), (68, (.lmul, 1, .null, 0, 0, 0, [])), (69, (.invokevirtual 168, 3, .ref 4, 1, 87, 2, [])), (72, (.ireturn, 1, .null, 0, 0, 0, [])), (73, (.aload_n 0, 1, .null, 0, 0, 0, [])), (74, (.aload_n 0, 1, .null, 0, 0, 0, [])), (75, (.getfield 192, 3, .null, 4, 34, 0, [])), (78, (.aload_n 0, 1, .null, 0, 0, 0, [])), (79, (.getfield 51, 3, .null, 4, 6, 0, [])), (82, (.i2l, 1, .null, 0, 0, 0, [])), (83, (.lmul, 1, .null, 0, 0, 0, [])), (84, (.aload_n 0, 1, .null, 0, 0, 0, [])), (85, (.getfield 195, 3, .null, 4, 35, 0, [])), (88, (.aload_n 0, 1, .null, 0, 0, 0, [])), (89, (.invokevirtual 156, 3, .ref 4, 1, 113, 0, [])), (92, (.i2l, 1, .null, 0, 0, 0, [])), (93, (.lmul, 1, .null, 0, 0, 0, [])), (94, (.invokevirtual 168, 3, .ref 4, 1, 87, 2, [])), (97, (.ireturn, 1, .null, 0, 0, 0, [])), (98, (.aload_n 0, 1, .null, 0, 0, 0, [])), (99, (.aload_n 0, 1, .null, 0, 0, 0, [])), (100, (.getfield 122, 3, .null, 4, 21, 0, [])), (103, (.ldc2_w 187, 3, .long 2, 0, 0, 0, [])), (106, (.aload_n 0, 1, .null, 0, 0, 0, [])), (107, (.invokevirtual 156, 3, .ref 4, 1, 113, 0, [])), (110, (.i2l, 1, .null, 0, 0, 0, [])), (111, (.lmul, 1, .null, 0, 0, 0, [])), (112, (.invokevirtual 168, 3, .ref 4, 1, 87, 2, [])), (115, (.ireturn, 1, .null, 0, 0, 0, [])), (116, (.aload_n 0, 1, .null, 0, 0, 0, [])), (117, (.aload_n 0, 1, .null, 0, 0, 0, [])), (118, (.getfield 125, 3, .null, 4, 22, 0, [])), (121, (.ldc2_w 187, 3, .long 2, 0, 0, 0, [])), (124, (.aload_n 0, 1, .null, 0, 0, 0, [])), (125, (.invokevirtual 156, 3, .ref 4, 1, 113, 0, [])), (128, (.i2l, 1, .null, 0, 0, 0, [])), (129, (.lmul, 1, .null, 0, 0, 0, [])), (130, (.invokevirtual 168, 3, .ref 4, 1, 87, 2, [])), (133, (.ireturn, 1, .null, 0, 0, 0, []))]
def km_X4_middle : dx_K := ((yX4_middle, cX4_middle, 4, some .int), kr_X4_middle, kp_X4)
def kr_X4_place : List (Nat × dx_I) := [(0, (.iload_n 1, 1, .null, 0, 0, 0, [])), (1, (.iconst 0, 1, .int 0, 0, 0, 0, [])), (2, (.iconst 3, 1, .int 3, 0, 0, 0, [])), (3, (.invokestatic 66, 3, .null, 2, 82, 3, [])), (6, (.ifCond .eq 61, 3, .null, 67, 0, 0, [])), (9, (.iload_n 2, 1, .null, 0, 0, 0, [])), (10, (.iconst 0, 1, .int 0, 0, 0, 0, [])), (11, (.iload_n 1, 1, .null, 0, 0, 0, [])), (12, (.iconst 2, 1, .int 2, 0, 0, 0, [])), (13, (.irem, 1, .null, 0, 0, 0, [])), (14, (.ifCond .ne 10, 3, .null, 24, 0, 0, [])), (17, (.aload_n 0, 1, .null, 0, 0, 0, [])), (18, (.getfield 77, 3, .null, 4, 4, 0, [])), (21, (.goto 7, 3, .null, 28, 0, 0, [])), (24, (.aload_n 0, 1, .null, 0, 0, 0, [])), (25, (.getfield 80, 3, .null, 4, 5, 0, [])), (28, (.iconst 1, 1, .int 1, 0, 0, 0, [])), (29, (.isub, 1, .null, 0, 0, 0, [])), (30, (.invokestatic 66, 3, .null, 2, 82, 3, [])), (33, (.ifCond .eq 34, 3, .null, 67, 0, 0, [])), (36, (.iload_n 3, 1, .null, 0, 0, 0, [])), (37, (.iconst 0, 1, .int 0, 0, 0, 0, [])), (38, (.iload_n 1, 1, .null, 0, 0, 0, [])), (39, (.iconst 2, 1, .int 2, 0, 0, 0, [])), (40, (.irem, 1, .null, 0, 0, 0, [])), (41, (.ifCond .ne 10, 3, .null, 51, 0, 0, [])), (44, (.aload_n 0, 1, .null, 0, 0, 0, [])), (45, (.getfield 80, 3, .null, 4, 5, 0, [])), (48, (.goto 7, 3, .null, 55, 0, 0, [])), (51, (.aload_n 0, 1, .null, 0, 0, 0, [])), (52, (.getfield 77, 3, .null, 4, 4, 0, [])), (55, (.iconst 1, 1, .int 1, 0, 0, 0, [])), (56, (.isub, 1, .null, 0, 0, 0, [])), (57, (.invokestatic 66, 3, .null, 2, 82, 3, [])), (60, (.ifCond .eq 7, 3, .null, 67, 0, 0, [])), (63, (.iconst 1, 1, .int 1, 0, 0, 0, [])), (64, (.goto 4, 3, .null, 68, 0, 0, [])), (67, (.iconst 0, 1, .int 0, 0, 0, 0, [])), (68, (.istore 4, 2, .null, 0, 0, 0, [])), (70, (.aload_n 0, 1, .null, 0, 0, 0, [])), (71, (.iload 4, 2, .null, 0, 0, 0, [])), (73, (.iload_n 1, 1, .null, 0, 0, 0, [])), (74, (.invokevirtual 165, 3, .ref 4, 1, 121, 2, [])), (77, (.istore 5, 2, .null, 0, 0, 0, [])), (79, (.iload 5, 2, .null, 0, 0, 0, [])), (81, (.ifCond .ge 6, 3, .null, 87, 0, 0, [])), (84, (.iload 5, 2, .null, 0, 0, 0, [])), (86, (.ireturn, 1, .null, 0, 0, 0, [])), (87, (.iload_n 3, 1, .null, 0, 0, 0, [])), (88, (.aload_n 0, 1, .null, 0, 0, 0, [])), (89, (.getfield 141, 3, .null, 4, 24, 0, [])), (92, (.if_icmp .le 7, 3, .null, 99, 0, 0, [])), (95, (.iconst 0, 1, .int 0, 0, 0, 0, [])), (96, (.goto 42, 3, .null, 138, 0, 0, [])), (99, (.aload_n 0, 1, .null, 0, 0, 0, [])), (100, (.getfield 48, 3, .null, 4, 23, 0, [])), (103, (.bipush 12, 2, .int 12, 0, 0, 0, [])), (105, (.iload_n 3, 1, .null, 0, 0, 0, [])), (106, (.imul, 1, .null, 0, 0, 0, [])), (107, (.iload_n 2, 1, .null, 0, 0, 0, [])), (108, (.iadd, 1, .null, 0, 0, 0, [])), (109, (.baload, 1, .null, 0, 0, 0, [])), (110, (.ifCond .eq 7, 3, .null, 117, 0, 0, [])), (113, (.iconst 1, 1, .int 1, 0, 0, 0, [])), (114, (.goto 24, 3, .null, 138, 0, 0, [])), (117, (.aload_n 0, 1, .null, 0, 0, 0, [])), (118, (.getfield 45, 3, .null, 4, 20, 0, [])), (121, (.bipush 12, 2, .int 12, 0, 0, 0, [])), (123, (.iload_n 3, 1, .null, 0, 0, 0, [])), (124, (.imul, 1, .null, 0, 0, 0, [])), (125, (.iload_n 2, 1, .null, 0, 0, 0, [])), (126, (.iadd, 1, .null, 0, 0, 0, [])), (127, (.iaload, 1, .null, 0, 0, 0, [])), (128, (.bipush (-9), 2, .int (-9), 0, 0, 0, [])), (130, (.if_icmp .ne 7, 3, .null, 137, 0, 0, [])), (133, (.iconst 3, 1, .int 3, 0, 0, 0, [])), (134, (.goto 4, 3, .null, 138, 0, 0, [])), (137, (.iconst 2, 1, .int 2, 0, 0, 0, [])), (138, (.ireturn, 1, .null, 0, 0, 0, []))]
def km_X4_place : dx_K := ((yX4_place, cX4_place, 6, some .int), kr_X4_place, kp_X4)
def kr_X4_lean : List (Nat × dx_I) := [(0, (.aload_n 0, 1, .null, 0, 0, 0, [])), (1, (.getfield 122, 3, .null, 4, 21, 0, [])), (4, (.aload_n 0, 1, .null, 0, 0, 0, [])), (5, (.getfield 189, 3, .null, 4, 33, 0, [])), (8, (.lmul, 1, .null, 0, 0, 0, [])), (9, (.ldc2_w 187, 3, .long 2, 0, 0, 0, [])), (12, (.aload_n 0, 1, .null, 0, 0, 0, [])), (13, (.getfield 184, 3, .null, 4, 32, 0, [])), (16, (.lmul, 1, .null, 0, 0, 0, [])), (17, (.aload_n 0, 1, .null, 0, 0, 0, [])), (18, (.getfield 51, 3, .null, 4, 6, 0, [])), (21, (.i2l, 1, .null, 0, 0, 0, [])), (22, (.lmul, 1, .null, 0, 0, 0, [])), (23, (.lsub, 1, .null, 0, 0, 0, [])), (24, (.lreturn, 1, .null, 0, 0, 0, []))]
def km_X4_lean : dx_K := ((yX4_lean, cX4_lean, 1, some .long), kr_X4_lean, kp_X4)
def kr_X4_leans : List (Nat × dx_I) := [(0, (.aload_n 0, 1, .null, 0, 0, 0, [])), (1, (.iconst 1, 1, .int 1, 0, 0, 0, [])), (2, (.iload_n 1, 1, .null, 0, 0, 0, [])), (3, (.invokevirtual 165, 3, .ref 4, 1, 121, 2, [])), (6, (.istore_n 2, 1, .null, 0, 0, 0, [])), (7, (.iload_n 2, 1, .null, 0, 0, 0, [])), (8, (.ifCond .ge 5, 3, .null, 13, 0, 0, [])), (11, (.iload_n 2, 1, .null, 0, 0, 0, [])), (12, (.ireturn, 1, .null, 0, 0, 0, [])), (13, (.aload_n 0, 1, .null, 0, 0, 0, [])), (14, (.invokevirtual 198, 3, .ref 4, 1, 126, 0, [])), (17, (.aload_n 0, 1, .null, 0, 0, 0, [])), (18, (.invokevirtual 201, 3, .ref 4, 1, 129, 0, [])), (21, (.lconst 0, 1, .long 0, 0, 0, 0, [])), (22, (.lcmp, 1, .null, 0, 0, 0, [])), (23, (.ifCond .ne 7, 3, .null, 30, 0, 0, [])), (26, (.iconst 0, 1, .int 0, 0, 0, 0, [])), (27, (.goto 17, 3, .null, 44, 0, 0, [])), (30, (.aload_n 0, 1, .null, 0, 0, 0, [])), (31, (.invokevirtual 201, 3, .ref 4, 1, 129, 0, [])), (34, (.lconst 0, 1, .long 0, 0, 0, 0, [])), (35, (.lcmp, 1, .null, 0, 0, 0, [])), (36, (.ifCond .ge 7, 3, .null, 43, 0, 0, [])), (39, (.iconst 1, 1, .int 1, 0, 0, 0, [])), (40, (.goto 4, 3, .null, 44, 0, 0, [])), (43, (.iconst 2, 1, .int 2, 0, 0, 0, [])), (44, (.ireturn, 1, .null, 0, 0, 0, []))]
def km_X4_leans : dx_K := ((yX4_leans, cX4_leans, 3, some .int), kr_X4_leans, kp_X4)
def kr_X4_layBreadth : List (Nat × dx_I) := [(0, (.lconst 0, 1, .long 0, 0, 0, 0, [])), (1, (.lstore_n 2, 1, .null, 0, 0, 0, [])), (2, (.lconst 0, 1, .long 0, 0, 0, 0, [])), (3, (.lstore 4, 2, .null, 0, 0, 0, [])), (5, (.lconst 0, 1, .long 0, 0, 0, 0, [])), (6, (.lstore 6, 2, .null, 0, 0, 0, [])), (8, (.iconst 0, 1, .int 0, 0, 0, 0, [])), (9, (.istore 8, 2, .null, 0, 0, 0, [])), (11, (.iload 8, 2, .null, 0, 0, 0, [])), (13, (.aload_n 0, 1, .null, 0, 0, 0, [])), (14, (.getfield 116, 3, .null, 4, 18, 0, [])), (17, (.if_icmp .ge 68, 3, .null, 85, 0, 0, [])), (20, (.aload_n 0, 1, .null, 0, 0, 0, [])), (21, (.getfield 48, 3, .null, 4, 23, 0, [])), (24, (.bipush 12, 2, .int 12, 0, 0, 0, [])), (26, (.iload_n 1, 1, .null, 0, 0, 0, [])), (27, (.imul, 1, .null, 0, 0, 0, [])), (28, (.iload 8, 2, .null, 0, 0, 0, [])), (30, (.iadd, 1, .null, 0, 0, 0, [])), (31, (.baload, 1, .null, 0, 0, 0, [])), (32, (.ifCond .ne 47, 3, .null, 79, 0, 0, [])), (35, (.lload_n 2, 1, .null, 0, 0, 0, [])), (36, (.lconst 1, 1, .long 1, 0, 0, 0, [])), (37, (.ladd, 1, .null, 0, 0, 0, [])), (38, (.lstore_n 2, 1, .null, 0, 0, 0, [])), (39, (.lload 4, 2, .null, 0, 0, 0, [])), (41, (.ldc2_w 205, 3, .long 3, 0, 0, 0, [])), (44, (.iload 8, 2, .null, 0, 0, 0, [])), (46, (.i2l, 1, .null, 0, 0, 0, [])), (47, (.lmul, 1, .null, 0, 0, 0, [])), (48, (.iload 8, 2, .null, 0, 0, 0, [])), (50, (.i2l, 1, .null, 0, 0, 0, [])), (51, (.lmul, 1, .null, 0, 0, 0, [])), (52, (.ldc2_w 205, 3, .long 3, 0, 0, 0, [])), (55, (.iload 8, 2, .null, 0, 0, 0, [])), (57, (.i2l, 1, .null, 0, 0, 0, [])), (58, (.lmul, 1, .null, 0, 0, 0, [])), (59, (.ladd, 1, .null, 0, 0, 0, [])), (60, (.lconst 1, 1, .long 1, 0, 0, 0, [])), (61, (.ladd, 1, .null, 0, 0, 0, [])), (62, (.ladd, 1, .null, 0, 0, 0, [])), (63, (.lstore 4, 2, .null, 0, 0, 0, [])), (65, (.lload 6, 2, .null, 0, 0, 0, [])), (67, (.ldc2_w 187, 3, .long 2, 0, 0, 0, [])), (70, (.iload 8, 2, .null, 0, 0, 0, [])), (72, (.i2l, 1, .null, 0, 0, 0, [])), (73, (.lmul, 1, .null, 0, 0, 0, [])), (74, (.lconst 1, 1, .long 1, 0, 0, 0, [])), (75, (.ladd, 1, .null, 0, 0, 0, [])), (76, (.ladd, 1, .null, 0, 0, 0, [])), (77, (.lstore 6, 2, .null, 0, 0, 0, [])), (79, (.iinc 8 1, 3, .int 1, 0, 0, 0, [])), (82, (.goto (-71), 3, .null, 11, 0, 0, [])), (85, (.aload_n 0, 1, .null, 0, 0, 0, [])), (86, (.lload_n 2, 1, .null, 0, 0, 0, [])), (87, (.lconst 0, 1, .long 0, 0, 0, 0, [])), (88, (.lcmp, 1, .null, 0, 0, 0, [])), (89, (.ifCond .ne 7, 3, .null, 96, 0, 0, [])), (92, (.lconst 0, 1, .long 0, 0, 0, 0, [])), (93, (.goto 21, 3, .null, 114, 0, 0, [])), (96, (.ldc2_w 207, 3, .long 4, 0, 0, 0, [])), (99, (.lload_n 2, 1, .null, 0, 0, 0, [])), (100, (.lmul, 1, .null, 0, 0, 0, [])), (101, (.lload 4, 2, .null, 0, 0, 0, [])), (103, (.lmul, 1, .null, 0, 0, 0, [])), (104, (.ldc2_w 205, 3, .long 3, 0, 0, 0, [])), (107, (.lload 6, 2, .null, 0, 0, 0, [])), (109, (.lmul, 1, .null, 0, 0, 0, [])), (110, (.lload 6, 2, .null, 0, 0, 0, [])), (112, (.lmul, 1, .null, 0, 0, 0, [])), (113, (.lsub, 1, .null, 0, 0, 0, [])), (114, (.putfield 209, 3, .null, 4, 36, 0, [])), (117, (.aload_n 0, 1, .null, 0, 0, 0, [])), (118, (.lload_n 2, 1, .null, 0, 0, 0, [])), (119, (.lconst 0, 1, .long 0, 0, 0, 0, [])), (120, (.lcmp, 1, .null, 0, 0, 0, [])), (121, (.ifCond .ne 7, 3, .null, 128, 0, 0, [])), (124, (.lconst 1, 1, .long 1, 0, 0, 0, [])), (125, (.goto 8, 3, .null, 133, 0, 0, [])), (128, (.ldc2_w 212, 3, .long 12, 0, 0, 0, [])), (131, (.lload_n 2, 1, .null, 0, 0, 0, [])), (132, (.lmul, 1, .null, 0, 0, 0, [])), (133, (.putfield 214, 3, .null, 4, 37, 0, [])), (136, (.return_, 1, .null, 0, 0, 0, []))]
def km_X4_layBreadth : dx_K := ((yX4_layBreadth, cX4_layBreadth, 9, none), kr_X4_layBreadth, kp_X4)
def kr_X4_leastBreadth : List (Nat × dx_I) := [(0, (.aload_n 0, 1, .null, 0, 0, 0, [])), (1, (.aload_n 0, 1, .null, 0, 0, 0, [])), (2, (.getfield 141, 3, .null, 4, 24, 0, [])), (5, (.invokevirtual 217, 3, .ref 4, 1, 131, 1, [])), (8, (.aload_n 0, 1, .null, 0, 0, 0, [])), (9, (.getfield 150, 3, .null, 4, 25, 0, [])), (12, (.aload_n 0, 1, .null, 0, 0, 0, [])), (13, (.getfield 153, 3, .null, 4, 26, 0, [])), (16, (.lcmp, 1, .null, 0, 0, 0, [])), (17, (.ifCond .ne 80, 3, .null, 97, 0, 0, [])), (20, (.aload_n 0, 1, .null, 0, 0, 0, [])), (21, (.getfield 141, 3, .null, 4, 24, 0, [])), (24, (.iconst 1, 1, .int 1, 0, 0, 0, [])), (25, (.iadd, 1, .null, 0, 0, 0, [])), (26, (.aload_n 0, 1, .null, 0, 0, 0, [])), (27, (.getfield 119, 3, .null, 4, 19, 0, [])), (30, (.if_icmp .ge 67, 3, .null, 97, 0, 0, [])), (33, (.aload_n 0, 1, .null, 0, 0, 0, [])), (34, (.getfield 209, 3, .null, 4, 36, 0, [])), (37, (.lstore_n 1, 1, .null, 0, 0, 0, [])), (38, (.aload_n 0, 1, .null, 0, 0, 0, [])), (39, (.getfield 214, 3, .null, 4, 37, 0, [])), (42, (.lstore_n 3, 1, .null, 0, 0, 0, [])), (43, (.aload_n 0, 1, .null, 0, 0, 0, [])), (44, (.aload_n 0, 1, .null, 0, 0, 0, [])), (45, (.getfield 141, 3, .null, 4, 24, 0, [])), (48, (.iconst 1, 1, .int 1, 0, 0, 0, [])), (49, (.iadd, 1, .null, 0, 0, 0, [])), (50, (.invokevirtual 134, 3, .ref 4, 1, 117, 1, [])), (53, (.aload_n 0, 1, .null, 0, 0, 0, [])), (54, (.aload_n 0, 1, .null, 0, 0, 0, [])), (55, (.getfield 141, 3, .null, 4, 24, 0, [])), (58, (.iconst 1, 1, .int 1, 0, 0, 0, [])), (59, (.iadd, 1, .null, 0, 0, 0, [])), (60, (.invokevirtual 217, 3, .ref 4, 1, 131, 1, [])), (63, (.aload_n 0, 1, .null, 0, 0, 0, [])), (64, (.aload_n 0, 1, .null, 0, 0, 0, [])), (65, (.getfield 141, 3, .null, 4, 24, 0, [])), (68, (.invokevirtual 134, 3, .ref 4, 1, 117, 1, [])), (71, (.lload_n 1, 1, .null, 0, 0, 0, [])), (72, (.aload_n 0, 1, .null, 0, 0, 0, [])), (73, (.getfield 214, 3, .null, 4, 37, 0, [])), (76, (.lmul, 1, .null, 0, 0, 0, [])), (77, (.aload_n 0, 1, .null, 0, 0, 0, [])), (78, (.getfield 209, 3, .null, 4, 36, 0, [])), (81, (.lload_n 3, 1, .null, 0, 0, 0, [])), (82, (.lmul, 1, .null, 0, 0, 0, [])), (83, (.lcmp, 1, .null, 0, 0, 0, [])), (84, (.ifCond .ge 13, 3, .null, 97, 0, 0, [])), (87, (.aload_n 0, 1, .null, 0, 0, 0, [])), (88, (.lload_n 1, 1, .null, 0, 0, 0, [])), (89, (.putfield 209, 3, .null, 4, 36, 0, [])), (92, (.aload_n 0, 1, .null, 0, 0, 0, [])), (93, (.lload_n 3, 1, .null, 0, 0, 0, [])), (94, (.putfield 214, 3, .null, 4, 37, 0, [])), (97, (.return_, 1, .null, 0, 0, 0, []))]
def km_X4_leastBreadth : dx_K := ((yX4_leastBreadth, cX4_leastBreadth, 5, none), kr_X4_leastBreadth, kp_X4)
def kr_X4_breadth : List (Nat × dx_I) := [(0, (.aload_n 0, 1, .null, 0, 0, 0, [])), (1, (.iconst 1, 1, .int 1, 0, 0, 0, [])), (2, (.iload_n 1, 1, .null, 0, 0, 0, [])), (3, (.invokevirtual 165, 3, .ref 4, 1, 121, 2, [])), (6, (.istore_n 2, 1, .null, 0, 0, 0, [])), (7, (.iload_n 2, 1, .null, 0, 0, 0, [])), (8, (.ifCond .ge 5, 3, .null, 13, 0, 0, [])), (11, (.iload_n 2, 1, .null, 0, 0, 0, [])), (12, (.ireturn, 1, .null, 0, 0, 0, [])), (13, (.aload_n 0, 1, .null, 0, 0, 0, [])), (14, (.invokevirtual 220, 3, .ref 4, 1, 132, 0, [])), (17, (.aload_n 0, 1, .null, 0, 0, 0, [])), (18, (.aload_n 0, 1, .null, 0, 0, 0, [])), (19, (.getfield 209, 3, .null, 4, 36, 0, [])), (22, (.aload_n 0, 1, .null, 0, 0, 0, [])), (23, (.getfield 214, 3, .null, 4, 37, 0, [])), (26, (.invokevirtual 168, 3, .ref 4, 1, 87, 2, [])), (29, (.ireturn, 1, .null, 0, 0, 0, []))]
def km_X4_breadth : dx_K := ((yX4_breadth, cX4_breadth, 3, some .int), kr_X4_breadth, kp_X4)
def kr_X4_holdsNow : List (Nat × dx_I) := [(0, (.aload_n 0, 1, .null, 0, 0, 0, [])), (1, (.invokevirtual 198, 3, .ref 4, 1, 126, 0, [])), (4, (.aload_n 0, 1, .null, 0, 0, 0, [])), (5, (.invokevirtual 201, 3, .ref 4, 1, 129, 0, [])), (8, (.lconst 0, 1, .long 0, 0, 0, 0, [])), (9, (.lcmp, 1, .null, 0, 0, 0, [])), (10, (.ifCond .eq 5, 3, .null, 15, 0, 0, [])), (13, (.iconst 0, 1, .int 0, 0, 0, 0, [])), (14, (.ireturn, 1, .null, 0, 0, 0, [])), (15, (.aload_n 0, 1, .null, 0, 0, 0, [])), (16, (.invokevirtual 220, 3, .ref 4, 1, 132, 0, [])), (19, (.aload_n 0, 1, .null, 0, 0, 0, [])), (20, (.getfield 125, 3, .null, 4, 22, 0, [])), (23, (.aload_n 0, 1, .null, 0, 0, 0, [])), (24, (.getfield 195, 3, .null, 4, 35, 0, [])), (27, (.lmul, 1, .null, 0, 0, 0, [])), (28, (.ldc2_w 187, 3, .long 2, 0, 0, 0, [])), (31, (.aload_n 0, 1, .null, 0, 0, 0, [])), (32, (.getfield 51, 3, .null, 4, 6, 0, [])), (35, (.i2l, 1, .null, 0, 0, 0, [])), (36, (.lmul, 1, .null, 0, 0, 0, [])), (37, (.aload_n 0, 1, .null, 0, 0, 0, [])), (38, (.getfield 192, 3, .null, 4, 34, 0, [])), (41, (.lmul, 1, .null, 0, 0, 0, [])), (42, (.lsub, 1, .null, 0, 0, 0, [])), (43, (.lstore_n 1, 1, .null, 0, 0, 0, [])), (44, (.ldc2_w 187, 3, .long 2, 0, 0, 0, [])), (47, (.aload_n 0, 1, .null, 0, 0, 0, [])), (48, (.getfield 51, 3, .null, 4, 6, 0, [])), (51, (.i2l, 1, .null, 0, 0, 0, [])), (52, (.lmul, 1, .null, 0, 0, 0, [])), (53, (.aload_n 0, 1, .null, 0, 0, 0, [])), (54, (.getfield 195, 3, .null, 4, 35, 0, [])), (57, (.lmul, 1, .null, 0, 0, 0, [])), (58, (.lstore_n 3, 1, .null, 0, 0, 0, [])), (59, (.lload_n 1, 1, .null, 0, 0, 0, [])), (60, (.lload_n 3, 1, .null, 0, 0, 0, [])), (61, (.invokestatic 70, 3, .null, 2, 86, 2, [])), (64, (.lstore 5, 2, .null, 0, 0, 0, [])), (66, (.aload_n 0, 1, .null, 0, 0, 0, [])), (67, (.getfield 209, 3, .null, 4, 36, 0, [])), (70, (.lload_n 3, 1, .null, 0, 0, 0, [])), (71, (.lload 5, 2, .null, 0, 0, 0, [])), (73, (.ldiv, 1, .null, 0, 0, 0, [])), (74, (.lmul, 1, .null, 0, 0, 0, [])), (75, (.lstore 7, 2, .null, 0, 0, 0, [])), (77, (.lload_n 1, 1, .null, 0, 0, 0, [])), (78, (.lload 5, 2, .null, 0, 0, 0, [])), (80, (.ldiv, 1, .null, 0, 0, 0, [])), (81, (.aload_n 0, 1, .null, 0, 0, 0, [])), (82, (.getfield 214, 3, .null, 4, 37, 0, [])), (85, (.lmul, 1, .null, 0, 0, 0, [])), (86, (.lstore 9, 2, .null, 0, 0, 0, [])), (88, (.lload 7, 2, .null, 0, 0, 0, [])), (90, (.lload 9, 2, .null, 0, 0, 0, [])), (92, (.lcmp, 1, .null, 0, 0, 0, [])), (93, (.ifCond .le 7, 3, .null, 100, 0, 0, [])), (96, (.iconst 2, 1, .int 2, 0, 0, 0, [])), (97, (.goto 16, 3, .null, 113, 0, 0, [])), (100, (.lload 7, 2, .null, 0, 0, 0, [])), (102, (.lload 9, 2, .null, 0, 0, 0, [])), (104, (.lcmp, 1, .null, 0, 0, 0, [])), (105, (.ifCond .ne 7, 3, .null, 112, 0, 0, [])), (108, (.iconst 1, 1, .int 1, 0, 0, 0, [])), (109, (.goto 4, 3, .null, 113, 0, 0, [])), (112, (.iconst 0, 1, .int 0, 0, 0, 0, [])), (113, (.ireturn, 1, .null, 0, 0, 0, []))]
def km_X4_holdsNow : dx_K := ((yX4_holdsNow, cX4_holdsNow, 11, some .int), kr_X4_holdsNow, kp_X4)
def kr_X4_holds : List (Nat × dx_I) := [(0, (.aload_n 0, 1, .null, 0, 0, 0, [])), (1, (.iconst 1, 1, .int 1, 0, 0, 0, [])), (2, (.iload_n 1, 1, .null, 0, 0, 0, [])), (3, (.invokevirtual 165, 3, .ref 4, 1, 121, 2, [])), (6, (.istore_n 2, 1, .null, 0, 0, 0, [])), (7, (.iload_n 2, 1, .null, 0, 0, 0, [])), (8, (.ifCond .ge 7, 3, .null, 15, 0, 0, [])), (11, (.iload_n 2, 1, .null, 0, 0, 0, [])), (12, (.goto 7, 3, .null, 19, 0, 0, [])), (15, (.aload_n 0, 1, .null, 0, 0, 0, [])), (16, (.invokevirtual 223, 3, .ref 4, 1, 134, 0, [])), (19, (.ireturn, 1, .null, 0, 0, 0, []))]
def km_X4_holds : dx_K := ((yX4_holds, cX4_holds, 3, some .int), kr_X4_holds, kp_X4)
def kr_X4_rests : List (Nat × dx_I) := [(0, (.iconst 0, 1, .int 0, 0, 0, 0, [])), (1, (.istore_n 1, 1, .null, 0, 0, 0, [])), (2, (.iconst 0, 1, .int 0, 0, 0, 0, [])), (3, (.istore_n 2, 1, .null, 0, 0, 0, [])), (4, (.iload_n 2, 1, .null, 0, 0, 0, [])), (5, (.iconst 4, 1, .int 4, 0, 0, 0, [])), (6, (.if_icmp .ge 48, 3, .null, 54, 0, 0, [])), (9, (.aload_n 0, 1, .null, 0, 0, 0, [])), (10, (.iconst 1, 1, .int 1, 0, 0, 0, [])), (11, (.iload_n 2, 1, .null, 0, 0, 0, [])), (12, (.invokevirtual 165, 3, .ref 4, 1, 121, 2, [])), (15, (.istore_n 3, 1, .null, 0, 0, 0, [])), (16, (.iload_n 3, 1, .null, 0, 0, 0, [])), (17, (.bipush (-4), 2, .int (-4), 0, 0, 0, [])), (19, (.if_icmp .ne 6, 3, .null, 25, 0, 0, [])), (22, (.bipush (-4), 2, .int (-4), 0, 0, 0, [])), (24, (.ireturn, 1, .null, 0, 0, 0, [])), (25, (.iload_n 1, 1, .null, 0, 0, 0, [])), (26, (.iload_n 3, 1, .null, 0, 0, 0, [])), (27, (.iconst 1, 1, .int 1, 0, 0, 0, [])), (28, (.if_icmp .ne 17, 3, .null, 45, 0, 0, [])), (31, (.aload_n 0, 1, .null, 0, 0, 0, [])), (32, (.invokevirtual 223, 3, .ref 4, 1, 134, 0, [])), (35, (.iconst 2, 1, .int 2, 0, 0, 0, [])), (36, (.if_icmp .ne 9, 3, .null, 45, 0, 0, [])), (39, (.iconst 1, 1, .int 1, 0, 0, 0, [])), (40, (.iload_n 2, 1, .null, 0, 0, 0, [])), (41, (.ishl, 1, .null, 0, 0, 0, [])), (42, (.goto 4, 3, .null, 46, 0, 0, [])), (45, (.iconst 0, 1, .int 0, 0, 0, 0, [])), (46, (.ior, 1, .null, 0, 0, 0, [])), (47, (.istore_n 1, 1, .null, 0, 0, 0, [])), (48, (.iinc 2 1, 3, .int 1, 0, 0, 0, [])), (51, (.goto (-47), 3, .null, 4, 0, 0, [])), (54, (.iload_n 1, 1, .null, 0, 0, 0, [])), (55, (.ireturn, 1, .null, 0, 0, 0, []))]
def km_X4_rests : dx_K := ((yX4_rests, cX4_rests, 4, some .int), kr_X4_rests, kp_X4)
def kr_X4_mostRoom : List (Nat × dx_I) := [(0, (.iconst 0, 1, .int 0, 0, 0, 0, [])), (1, (.istore_n 1, 1, .null, 0, 0, 0, [])), (2, (.iconst 0, 1, .int 0, 0, 0, 0, [])), (3, (.istore_n 2, 1, .null, 0, 0, 0, [])), (4, (.iload_n 2, 1, .null, 0, 0, 0, [])), (5, (.aload_n 0, 1, .null, 0, 0, 0, [])), (6, (.getfield 119, 3, .null, 4, 19, 0, [])), (9, (.if_icmp .ge 33, 3, .null, 42, 0, 0, [])), (12, (.aload_n 0, 1, .null, 0, 0, 0, [])), (13, (.iload_n 2, 1, .null, 0, 0, 0, [])), (14, (.invokevirtual 134, 3, .ref 4, 1, 117, 1, [])), (17, (.aload_n 0, 1, .null, 0, 0, 0, [])), (18, (.iload_n 2, 1, .null, 0, 0, 0, [])), (19, (.iconst 1, 1, .int 1, 0, 0, 0, [])), (20, (.iadd, 1, .null, 0, 0, 0, [])), (21, (.invokevirtual 138, 3, .ref 4, 1, 119, 1, [])), (24, (.istore_n 3, 1, .null, 0, 0, 0, [])), (25, (.iload_n 3, 1, .null, 0, 0, 0, [])), (26, (.iload_n 1, 1, .null, 0, 0, 0, [])), (27, (.if_icmp .le 7, 3, .null, 34, 0, 0, [])), (30, (.iload_n 3, 1, .null, 0, 0, 0, [])), (31, (.goto 4, 3, .null, 35, 0, 0, [])), (34, (.iload_n 1, 1, .null, 0, 0, 0, [])), (35, (.istore_n 1, 1, .null, 0, 0, 0, [])), (36, (.iinc 2 1, 3, .int 1, 0, 0, 0, [])), (39, (.goto (-35), 3, .null, 4, 0, 0, [])), (42, (.iload_n 1, 1, .null, 0, 0, 0, [])), (43, (.ireturn, 1, .null, 0, 0, 0, []))]
def km_X4_mostRoom : dx_K := ((yX4_mostRoom, cX4_mostRoom, 4, some .int), kr_X4_mostRoom, kp_X4)
def kr_X4_carries : List (Nat × dx_I) := [(0, (.iload_n 1, 1, .null, 0, 0, 0, [])), (1, (.iconst 0, 1, .int 0, 0, 0, 0, [])), (2, (.iconst 3, 1, .int 3, 0, 0, 0, [])), (3, (.invokestatic 66, 3, .null, 2, 82, 3, [])), (6, (.ifCond .ne 5, 3, .null, 11, 0, 0, [])), (9, (.iconst (-1), 1, .int (-1), 0, 0, 0, [])), (10, (.ireturn, 1, .null, 0, 0, 0, [])), (11, (.aload_n 0, 1, .null, 0, 0, 0, [])), (12, (.invokevirtual 113, 3, .ref 4, 1, 111, 0, [])), (15, (.ifCond .ne 6, 3, .null, 21, 0, 0, [])), (18, (.bipush (-4), 2, .int (-4), 0, 0, 0, [])), (20, (.ireturn, 1, .null, 0, 0, 0, [])), (21, (.aload_n 0, 1, .null, 0, 0, 0, [])), (22, (.iload_n 1, 1, .null, 0, 0, 0, [])), (23, (.invokevirtual 159, 3, .ref 4, 1, 115, 1, [])), (26, (.aload_n 0, 1, .null, 0, 0, 0, [])), (27, (.invokevirtual 226, 3, .ref 4, 1, 137, 0, [])), (30, (.aload_n 0, 1, .null, 0, 0, 0, [])), (31, (.getfield 51, 3, .null, 4, 6, 0, [])), (34, (.imul, 1, .null, 0, 0, 0, [])), (35, (.aload_n 0, 1, .null, 0, 0, 0, [])), (36, (.invokevirtual 156, 3, .ref 4, 1, 113, 0, [])), (39, (.isub, 1, .null, 0, 0, 0, [])), (40, (.istore_n 2, 1, .null, 0, 0, 0, [])), (41, (.iload_n 2, 1, .null, 0, 0, 0, [])), (42, (.ifCond .ge 8, 3, .null, 50, 0, 0, [])), (45, (.bipush (-5), 2, .int (-5), 0, 0, 0, [])), (47, (.goto 4, 3, .null, 51, 0, 0, [])), (50, (.iload_n 2, 1, .null, 0, 0, 0, [])), (51, (.ireturn, 1, .null, 0, 0, 0, []))]
def km_X4_carries : dx_K := ((yX4_carries, cX4_carries, 3, some .int), kr_X4_carries, kp_X4)
def kr_X4_trim : List (Nat × dx_I) := [(0, (.iload_n 1, 1, .null, 0, 0, 0, [])), (1, (.iconst 0, 1, .int 0, 0, 0, 0, [])), (2, (.iconst 3, 1, .int 3, 0, 0, 0, [])), (3, (.invokestatic 66, 3, .null, 2, 82, 3, [])), (6, (.ifCond .eq 14, 3, .null, 20, 0, 0, [])), (9, (.iload_n 2, 1, .null, 0, 0, 0, [])), (10, (.iconst 1, 1, .int 1, 0, 0, 0, [])), (11, (.sipush 2000, 3, .int 2000, 0, 0, 0, [])), (14, (.invokestatic 66, 3, .null, 2, 82, 3, [])), (17, (.ifCond .ne 5, 3, .null, 22, 0, 0, [])), (20, (.iconst (-1), 1, .int (-1), 0, 0, 0, [])), (21, (.ireturn, 1, .null, 0, 0, 0, [])), (22, (.aload_n 0, 1, .null, 0, 0, 0, [])), (23, (.invokevirtual 113, 3, .ref 4, 1, 111, 0, [])), (26, (.ifCond .ne 6, 3, .null, 32, 0, 0, [])), (29, (.bipush (-4), 2, .int (-4), 0, 0, 0, [])), (31, (.ireturn, 1, .null, 0, 0, 0, [])), (32, (.aload_n 0, 1, .null, 0, 0, 0, [])), (33, (.iload_n 1, 1, .null, 0, 0, 0, [])), (34, (.invokevirtual 159, 3, .ref 4, 1, 115, 1, [])), (37, (.aload_n 0, 1, .null, 0, 0, 0, [])), (38, (.aload_n 0, 1, .null, 0, 0, 0, [])), (39, (.invokevirtual 156, 3, .ref 4, 1, 113, 0, [])), (42, (.iload_n 2, 1, .null, 0, 0, 0, [])), (43, (.iadd, 1, .null, 0, 0, 0, [])), (44, (.invokevirtual 162, 3, .ref 4, 1, 120, 1, [])), (47, (.ifCond .ne 6, 3, .null, 53, 0, 0, [])), (50, (.bipush (-5), 2, .int (-5), 0, 0, 0, [])), (52, (.ireturn, 1, .null, 0, 0, 0, [])), (53, (.aload_n 0, 1, .null, 0, 0, 0, [])), (54, (.invokevirtual 198, 3, .ref 4, 1, 126, 0, [])), (57, (.aload_n 0, 1, .null, 0, 0, 0, [])), (58, (.ldc2_w 187, 3, .long 2, 0, 0, 0, [])), (61, (.aload_n 0, 1, .null, 0, 0, 0, [])), (62, (.getfield 184, 3, .null, 4, 32, 0, [])), (65, (.lmul, 1, .null, 0, 0, 0, [])), (66, (.aload_n 0, 1, .null, 0, 0, 0, [])), (67, (.getfield 51, 3, .null, 4, 6, 0, [])), (70, (.i2l, 1, .null, 0, 0, 0, [])), (71, (.lmul, 1, .null, 0, 0, 0, [])), (72, (.aload_n 0, 1, .null, 0, 0, 0, [])), (73, (.getfield 122, 3, .null, 4, 21, 0, [])), (76, (.aload_n 0, 1, .null, 0, 0, 0, [])), (77, (.getfield 189, 3, .null, 4, 33, 0, [])), (80, (.lmul, 1, .null, 0, 0, 0, [])), (81, (.lsub, 1, .null, 0, 0, 0, [])), (82, (.ldc2_w 187, 3, .long 2, 0, 0, 0, [])), (85, (.aload_n 0, 1, .null, 0, 0, 0, [])), (86, (.getfield 189, 3, .null, 4, 33, 0, [])), (89, (.lmul, 1, .null, 0, 0, 0, [])), (90, (.iload_n 2, 1, .null, 0, 0, 0, [])), (91, (.i2l, 1, .null, 0, 0, 0, [])), (92, (.lmul, 1, .null, 0, 0, 0, [])), (93, (.invokevirtual 168, 3, .ref 4, 1, 87, 2, [])), (96, (.ireturn, 1, .null, 0, 0, 0, []))]
def km_X4_trim : dx_K := ((yX4_trim, cX4_trim, 3, some .int), kr_X4_trim, kp_X4)
def kr_X4_room : List (Nat × dx_I) := [(0, (.iload_n 1, 1, .null, 0, 0, 0, [])), (1, (.iconst 0, 1, .int 0, 0, 0, 0, [])), (2, (.iconst 3, 1, .int 3, 0, 0, 0, [])), (3, (.invokestatic 66, 3, .null, 2, 82, 3, [])), (6, (.ifCond .eq 46, 3, .null, 52, 0, 0, [])), (9, (.iload_n 2, 1, .null, 0, 0, 0, [])), (10, (.iconst 0, 1, .int 0, 0, 0, 0, [])), (11, (.bipush 24, 2, .int 24, 0, 0, 0, [])), (13, (.invokestatic 66, 3, .null, 2, 82, 3, [])), (16, (.ifCond .eq 36, 3, .null, 52, 0, 0, [])), (19, (.iload_n 3, 1, .null, 0, 0, 0, [])), (20, (.iconst 1, 1, .int 1, 0, 0, 0, [])), (21, (.bipush 12, 2, .int 12, 0, 0, 0, [])), (23, (.invokestatic 66, 3, .null, 2, 82, 3, [])), (26, (.ifCond .eq 26, 3, .null, 52, 0, 0, [])), (29, (.iload_n 2, 1, .null, 0, 0, 0, [])), (30, (.iload_n 3, 1, .null, 0, 0, 0, [])), (31, (.iload_n 1, 1, .null, 0, 0, 0, [])), (32, (.iconst 2, 1, .int 2, 0, 0, 0, [])), (33, (.irem, 1, .null, 0, 0, 0, [])), (34, (.ifCond .ne 10, 3, .null, 44, 0, 0, [])), (37, (.aload_n 0, 1, .null, 0, 0, 0, [])), (38, (.getfield 80, 3, .null, 4, 5, 0, [])), (41, (.goto 7, 3, .null, 48, 0, 0, [])), (44, (.aload_n 0, 1, .null, 0, 0, 0, [])), (45, (.getfield 77, 3, .null, 4, 4, 0, [])), (48, (.imul, 1, .null, 0, 0, 0, [])), (49, (.if_icmp .le 5, 3, .null, 54, 0, 0, [])), (52, (.iconst (-1), 1, .int (-1), 0, 0, 0, [])), (53, (.ireturn, 1, .null, 0, 0, 0, [])), (54, (.iload_n 2, 1, .null, 0, 0, 0, [])), (55, (.ifCond .ne 10, 3, .null, 65, 0, 0, [])), (58, (.aload_n 0, 1, .null, 0, 0, 0, [])), (59, (.lconst 0, 1, .long 0, 0, 0, 0, [])), (60, (.lconst 1, 1, .long 1, 0, 0, 0, [])), (61, (.invokevirtual 168, 3, .ref 4, 1, 87, 2, [])), (64, (.ireturn, 1, .null, 0, 0, 0, [])), (65, (.aload_n 0, 1, .null, 0, 0, 0, [])), (66, (.iload_n 1, 1, .null, 0, 0, 0, [])), (67, (.invokevirtual 159, 3, .ref 4, 1, 115, 1, [])), (70, (.iload_n 2, 1, .null, 0, 0, 0, [])), (71, (.iconst 1, 1, .int 1, 0, 0, 0, [])), (72, (.isub, 1, .null, 0, 0, 0, [])), (73, (.iload_n 3, 1, .null, 0, 0, 0, [])), (74, (.idiv, 1, .null, 0, 0, 0, [])), (75, (.istore 4, 2, .null, 0, 0, 0, [])), (77, (.aload_n 0, 1, .null, 0, 0, 0, [])), (78, (.iload 4, 2, .null, 0, 0, 0, [])), (80, (.invokevirtual 134, 3, .ref 4, 1, 117, 1, [])), (83, (.aload_n 0, 1, .null, 0, 0, 0, [])), (84, (.aload_n 0, 1, .null, 0, 0, 0, [])), (85, (.iload 4, 2, .null, 0, 0, 0, [])), (87, (.invokevirtual 138, 3, .ref 4, 1, 119, 1, [])), (90, (.i2l, 1, .null, 0, 0, 0, [])), (91, (.iload_n 3, 1, .null, 0, 0, 0, [])), (92, (.i2l, 1, .null, 0, 0, 0, [])), (93, (.lmul, 1, .null, 0, 0, 0, [])), (94, (.iload_n 2, 1, .null, 0, 0, 0, [])), (95, (.iload 4, 2, .null, 0, 0, 0, [])), (97, (.iload_n 3, 1, .null, 0, 0, 0, [])), (98, (.imul, 1, .null, 0, 0, 0, [])), (99, (.isub, 1, .null, 0, 0, 0, [])), (100, (.i2l, 1, .null, 0, 0, 0, [])), (101, (.aload_n 0, 1, .null, 0, 0, 0, [])), (102, (.iload 4, 2, .null, 0, 0, 0, [])), (104, (.invokevirtual 131, 3, .ref 4, 1, 118, 1, [])), (107, (.i2l, 1, .null, 0, 0, 0, [])), (108, (.lmul, 1, .null, 0, 0, 0, [])), (109, (.ladd, 1, .null, 0, 0, 0, [])), (110, (.iload_n 3, 1, .null, 0, 0, 0, [])), (111, (.i2l, 1, .null, 0, 0, 0, [])), (112, (.invokevirtual 168, 3, .ref 4, 1, 87, 2, [])), (115, (.ireturn, 1, .null, 0, 0, 0, []))]
def km_X4_room : dx_K := ((yX4_room, cX4_room, 5, some .int), kr_X4_room, kp_X4)
def kr_X4_count : List (Nat × dx_I) := [(0, (.iconst 0, 1, .int 0, 0, 0, 0, [])), (1, (.istore_n 2, 1, .null, 0, 0, 0, [])), (2, (.iconst 0, 1, .int 0, 0, 0, 0, [])), (3, (.istore_n 3, 1, .null, 0, 0, 0, [])), (4, (.iload_n 3, 1, .null, 0, 0, 0, [])), (5, (.aload_n 0, 1, .null, 0, 0, 0, [])), (6, (.getfield 83, 3, .null, 4, 11, 0, [])), (9, (.if_icmp .ge 26, 3, .null, 35, 0, 0, [])), (12, (.iload_n 2, 1, .null, 0, 0, 0, [])), (13, (.aload_n 0, 1, .null, 0, 0, 0, [])), (14, (.getfield 41, 3, .null, 4, 17, 0, [])), (17, (.iload_n 3, 1, .null, 0, 0, 0, [])), (18, (.baload, 1, .null, 0, 0, 0, [])), (19, (.ifCond .eq 7, 3, .null, 26, 0, 0, [])), (22, (.iconst 0, 1, .int 0, 0, 0, 0, [])), (23, (.goto 4, 3, .null, 27, 0, 0, [])), (26, (.iconst 1, 1, .int 1, 0, 0, 0, [])), (27, (.iadd, 1, .null, 0, 0, 0, [])), (28, (.istore_n 2, 1, .null, 0, 0, 0, [])), (29, (.iinc 3 1, 3, .int 1, 0, 0, 0, [])), (32, (.goto (-28), 3, .null, 4, 0, 0, [])), (35, (.iload_n 1, 1, .null, 0, 0, 0, [])), (36, (.ifCond .ne 10, 3, .null, 46, 0, 0, [])), (39, (.aload_n 0, 1, .null, 0, 0, 0, [])), (40, (.getfield 77, 3, .null, 4, 4, 0, [])), (43, (.goto 49, 3, .null, 92, 0, 0, [])), (46, (.iload_n 1, 1, .null, 0, 0, 0, [])), (47, (.iconst 1, 1, .int 1, 0, 0, 0, [])), (48, (.if_icmp .ne 10, 3, .null, 58, 0, 0, [])), (51, (.aload_n 0, 1, .null, 0, 0, 0, [])), (52, (.getfield 80, 3, .null, 4, 5, 0, [])), (55, (.goto 37, 3, .null, 92, 0, 0, [])), (58, (.iload_n 1, 1, .null, 0, 0, 0, [])), (59, (.iconst 2, 1, .int 2, 0, 0, 0, [])), (60, (.if_icmp .ne 10, 3, .null, 70, 0, 0, [])), (63, (.aload_n 0, 1, .null, 0, 0, 0, [])), (64, (.invokevirtual 113, 3, .ref 4, 1, 111, 0, [])), (67, (.goto 25, 3, .null, 92, 0, 0, [])), (70, (.iload_n 1, 1, .null, 0, 0, 0, [])), (71, (.iconst 3, 1, .int 3, 0, 0, 0, [])), (72, (.if_icmp .ne 10, 3, .null, 82, 0, 0, [])), (75, (.aload_n 0, 1, .null, 0, 0, 0, [])), (76, (.getfield 83, 3, .null, 4, 11, 0, [])), (79, (.goto 13, 3, .null, 92, 0, 0, [])), (82, (.iload_n 1, 1, .null, 0, 0, 0, [])), (83, (.iconst 4, 1, .int 4, 0, 0, 0, [])), (84, (.if_icmp .ne 7, 3, .null, 91, 0, 0, [])), (87, (.iload_n 2, 1, .null, 0, 0, 0, [])), (88, (.goto 4, 3, .null, 92, 0, 0, [])), (91, (.iconst (-1), 1, .int (-1), 0, 0, 0, [])), (92, (.ireturn, 1, .null, 0, 0, 0, []))]
def km_X4_count : dx_K := ((yX4_count, cX4_count, 4, some .int), kr_X4_count, kp_X4)
def kr_X4_digest : List (Nat × dx_I) := [(0, (.ldc2_w 229, 3, .long 31, 0, 0, 0, [])), (3, (.ldc2_w 231, 3, .long 527, 0, 0, 0, [])), (6, (.aload_n 0, 1, .null, 0, 0, 0, [])), (7, (.getfield 77, 3, .null, 4, 4, 0, [])), (10, (.i2l, 1, .null, 0, 0, 0, [])), (11, (.ladd, 1, .null, 0, 0, 0, [])), (12, (.lmul, 1, .null, 0, 0, 0, [])), (13, (.aload_n 0, 1, .null, 0, 0, 0, [])), (14, (.getfield 80, 3, .null, 4, 5, 0, [])), (17, (.i2l, 1, .null, 0, 0, 0, [])), (18, (.ladd, 1, .null, 0, 0, 0, [])), (19, (.lstore_n 1, 1, .null, 0, 0, 0, [])), (20, (.iconst 0, 1, .int 0, 0, 0, 0, [])), (21, (.istore_n 3, 1, .null, 0, 0, 0, [])), (22, (.iload_n 3, 1, .null, 0, 0, 0, [])), (23, (.aload_n 0, 1, .null, 0, 0, 0, [])), (24, (.getfield 80, 3, .null, 4, 5, 0, [])), (27, (.if_icmp .ge 47, 3, .null, 74, 0, 0, [])), (30, (.iconst 0, 1, .int 0, 0, 0, 0, [])), (31, (.istore 4, 2, .null, 0, 0, 0, [])), (33, (.iload 4, 2, .null, 0, 0, 0, [])), (35, (.aload_n 0, 1, .null, 0, 0, 0, [])), (36, (.getfield 77, 3, .null, 4, 4, 0, [])), (39, (.if_icmp .ge 29, 3, .null, 68, 0, 0, [])), (42, (.ldc2_w 229, 3, .long 31, 0, 0, 0, [])), (45, (.lload_n 1, 1, .null, 0, 0, 0, [])), (46, (.lmul, 1, .null, 0, 0, 0, [])), (47, (.aload_n 0, 1, .null, 0, 0, 0, [])), (48, (.getfield 13, 3, .null, 4, 7, 0, [])), (51, (.bipush 12, 2, .int 12, 0, 0, 0, [])), (53, (.iload_n 3, 1, .null, 0, 0, 0, [])), (54, (.imul, 1, .null, 0, 0, 0, [])), (55, (.iload 4, 2, .null, 0, 0, 0, [])), (57, (.iadd, 1, .null, 0, 0, 0, [])), (58, (.iaload, 1, .null, 0, 0, 0, [])), (59, (.i2l, 1, .null, 0, 0, 0, [])), (60, (.ladd, 1, .null, 0, 0, 0, [])), (61, (.lstore_n 1, 1, .null, 0, 0, 0, [])), (62, (.iinc 4 1, 3, .int 1, 0, 0, 0, [])), (65, (.goto (-32), 3, .null, 33, 0, 0, [])), (68, (.iinc 3 1, 3, .int 1, 0, 0, 0, [])), (71, (.goto (-49), 3, .null, 22, 0, 0, [])), (74, (.ldc2_w 229, 3, .long 31, 0, 0, 0, [])), (77, (.lload_n 1, 1, .null, 0, 0, 0, [])), (78, (.lmul, 1, .null, 0, 0, 0, [])), (79, (.aload_n 0, 1, .null, 0, 0, 0, [])), (80, (.getfield 51, 3, .null, 4, 6, 0, [])), (83, (.i2l, 1, .null, 0, 0, 0, [])), (84, (.ladd, 1, .null, 0, 0, 0, [])), (85, (.lstore_n 1, 1, .null, 0, 0, 0, [])), (86, (.iconst 0, 1, .int 0, 0, 0, 0, [])), (87, (.istore_n 3, 1, .null, 0, 0, 0, [])), (88, (.iload_n 3, 1, .null, 0, 0, 0, [])), (89, (.aload_n 0, 1, .null, 0, 0, 0, [])), (90, (.getfield 83, 3, .null, 4, 11, 0, [])), (93, (.if_icmp .ge 69, 3, .null, 162, 0, 0, [])), (96, (.iconst 0, 1, .int 0, 0, 0, 0, [])), (97, (.istore 4, 2, .null, 0, 0, 0, [])), (99, (.iload 4, 2, .null, 0, 0, 0, [])), (101, (.iconst 5, 1, .int 5, 0, 0, 0, [])), (102, (.if_icmp .ge 33, 3, .null, 135, 0, 0, [])), (105, (.aload_n 0, 1, .null, 0, 0, 0, [])), (106, (.getfield 41, 3, .null, 4, 17, 0, [])), (109, (.iload_n 3, 1, .null, 0, 0, 0, [])), (110, (.baload, 1, .null, 0, 0, 0, [])), (111, (.ifCond .ne 24, 3, .null, 135, 0, 0, [])), (114, (.ldc2_w 229, 3, .long 31, 0, 0, 0, [])), (117, (.lload_n 1, 1, .null, 0, 0, 0, [])), (118, (.lmul, 1, .null, 0, 0, 0, [])), (119, (.aload_n 0, 1, .null, 0, 0, 0, [])), (120, (.iload_n 3, 1, .null, 0, 0, 0, [])), (121, (.iload 4, 2, .null, 0, 0, 0, [])), (123, (.invokevirtual 105, 3, .ref 4, 1, 108, 2, [])), (126, (.i2l, 1, .null, 0, 0, 0, [])), (127, (.ladd, 1, .null, 0, 0, 0, [])), (128, (.lstore_n 1, 1, .null, 0, 0, 0, [])), (129, (.iinc 4 1, 3, .int 1, 0, 0, 0, [])), (132, (.goto (-33), 3, .null, 99, 0, 0, [])), (135, (.aload_n 0, 1, .null, 0, 0, 0, [])), (136, (.getfield 41, 3, .null, 4, 17, 0, [])), (139, (.iload_n 3, 1, .null, 0, 0, 0, [])), (140, (.baload, 1, .null, 0, 0, 0, [])), (141, (.ifCond .eq 13, 3, .null, 154, 0, 0, [])), (144, (.ldc2_w 229, 3, .long 31, 0, 0, 0, [])), (147, (.lload_n 1, 1, .null, 0, 0, 0, [])), (148, (.lmul, 1, .null, 0, 0, 0, [])), (149, (.lconst 1, 1, .long 1, 0, 0, 0, [])), (150, (.lsub, 1, .null, 0, 0, 0, [])), (151, (.goto 4, 3, .null, 155, 0, 0, [])), (154, (.lload_n 1, 1, .null, 0, 0, 0, [])), (155, (.lstore_n 1, 1, .null, 0, 0, 0, [])), (156, (.iinc 3 1, 3, .int 1, 0, 0, 0, [])), (159, (.goto (-71), 3, .null, 88, 0, 0, [])), (162, (.iconst 0, 1, .int 0, 0, 0, 0, [])), (163, (.istore_n 3, 1, .null, 0, 0, 0, [])), (164, (.iload_n 3, 1, .null, 0, 0, 0, [])), (165, (.bipush 6, 2, .int 6, 0, 0, 0, [])), (167, (.if_icmp .ge 63, 3, .null, 230, 0, 0, [])), (170, (.ldc2_w 229, 3, .long 31, 0, 0, 0, [])), (173, (.lload_n 1, 1, .null, 0, 0, 0, [])), (174, (.lmul, 1, .null, 0, 0, 0, [])), (175, (.aload_n 0, 1, .null, 0, 0, 0, [])), (176, (.getfield 16, 3, .null, 4, 8, 0, [])), (179, (.iload_n 3, 1, .null, 0, 0, 0, [])), (180, (.iaload, 1, .null, 0, 0, 0, [])), (181, (.i2l, 1, .null, 0, 0, 0, [])), (182, (.ladd, 1, .null, 0, 0, 0, [])), (183, (.lstore_n 1, 1, .null, 0, 0, 0, [])), (184, (.iconst 0, 1, .int 0, 0, 0, 0, [])), (185, (.istore 4, 2, .null, 0, 0, 0, [])), (187, (.iload 4, 2, .null, 0, 0, 0, [])), (189, (.aload_n 0, 1, .null, 0, 0, 0, [])), (190, (.getfield 16, 3, .null, 4, 8, 0, [])), (193, (.iload_n 3, 1, .null, 0, 0, 0, [])), (194, (.iaload, 1, .null, 0, 0, 0, [])), (195, (.if_icmp .ge 29, 3, .null, 224, 0, 0, [])), (198, (.ldc2_w 229, 3, .long 31, 0, 0, 0, [])), (201, (.lload_n 1, 1, .null, 0, 0, 0, [])), (202, (.lmul, 1, .null, 0, 0, 0, [])), (203, (.aload_n 0, 1, .null, 0, 0, 0, [])), (204, (.getfield 19, 3, .null, 4, 9, 0, [])), (207, (.bipush 12, 2, .int 12, 0, 0, 0, [])), (209, (.iload_n 3, 1, .null, 0, 0, 0, [])), (210, (.imul, 1, .null, 0, 0, 0, [])), (211, (.iload 4, 2, .null, 0, 0, 0, [])), (213, (.iadd, 1, .null, 0, 0, 0, [])), (214, (.baload, 1, .null, 0, 0, 0, [])), (215, (.i2l, 1, .null, 0, 0, 0, [])), (216, (.ladd, 1, .null, 0, 0, 0, [])), (217, (.lstore_n 1, 1, .null, 0, 0, 0, [])), (218, (.iinc 4 1, 3, .int 1, 0, 0, 0, [])), (221, (.goto (-34), 3, .null, 187, 0, 0, [])), (224, (.iinc 3 1, 3, .int 1, 0, 0, 0, [])), (227, (.goto (-63), 3, .null, 164, 0, 0, [])), (230, (.lload_n 1, 1, .null, 0, 0, 0, [])), (231, (.lreturn, 1, .null, 0, 0, 0, []))]
def km_X4_digest : dx_K := ((yX4_digest, cX4_digest, 5, some .long), kr_X4_digest, kp_X4)
def kr_J6_bitCount_0f7a4 : List (Nat × dx_I) := [(0, (.iload_n 0, 1, .null, 0, 0, 0, [])), (1, (.iload_n 0, 1, .null, 0, 0, 0, [])), (2, (.iconst 1, 1, .int 1, 0, 0, 0, [])), (3, (.iushr, 1, .null, 0, 0, 0, [])), (4, (.ldc_w 265, 3, .int 1431655765, 0, 0, 0, [])), (7, (.iand, 1, .null, 0, 0, 0, [])), (8, (.isub, 1, .null, 0, 0, 0, [])), (9, (.istore_n 0, 1, .null, 0, 0, 0, [])), (10, (.iload_n 0, 1, .null, 0, 0, 0, [])), (11, (.ldc_w 266, 3, .int 858993459, 0, 0, 0, [])), (14, (.iand, 1, .null, 0, 0, 0, [])), (15, (.iload_n 0, 1, .null, 0, 0, 0, [])), (16, (.iconst 2, 1, .int 2, 0, 0, 0, [])), (17, (.iushr, 1, .null, 0, 0, 0, [])), (18, (.ldc_w 266, 3, .int 858993459, 0, 0, 0, [])), (21, (.iand, 1, .null, 0, 0, 0, [])), (22, (.iadd, 1, .null, 0, 0, 0, [])), (23, (.istore_n 0, 1, .null, 0, 0, 0, [])), (24, (.iload_n 0, 1, .null, 0, 0, 0, [])), (25, (.iload_n 0, 1, .null, 0, 0, 0, [])), (26, (.iconst 4, 1, .int 4, 0, 0, 0, [])), (27, (.iushr, 1, .null, 0, 0, 0, [])), (28, (.iadd, 1, .null, 0, 0, 0, [])), (29, (.ldc_w 267, 3, .int 252645135, 0, 0, 0, [])), (32, (.iand, 1, .null, 0, 0, 0, [])), (33, (.istore_n 0, 1, .null, 0, 0, 0, [])), (34, (.iload_n 0, 1, .null, 0, 0, 0, [])), (35, (.iload_n 0, 1, .null, 0, 0, 0, [])), (36, (.bipush 8, 2, .int 8, 0, 0, 0, [])), (38, (.iushr, 1, .null, 0, 0, 0, [])), (39, (.iadd, 1, .null, 0, 0, 0, [])), (40, (.istore_n 0, 1, .null, 0, 0, 0, [])), (41, (.iload_n 0, 1, .null, 0, 0, 0, [])), (42, (.iload_n 0, 1, .null, 0, 0, 0, [])), (43, (.bipush 16, 2, .int 16, 0, 0, 0, [])), (45, (.iushr, 1, .null, 0, 0, 0, [])), (46, (.iadd, 1, .null, 0, 0, 0, [])), (47, (.istore_n 0, 1, .null, 0, 0, 0, [])), (48, (.iload_n 0, 1, .null, 0, 0, 0, [])), (49, (.bipush 63, 2, .int 63, 0, 0, 0, [])), (51, (.iand, 1, .null, 0, 0, 0, [])), (52, (.ireturn, 1, .null, 0, 0, 0, []))]
def km_J6_bitCount_0f7a4 : dx_K := ((yJ6_bitCount_0f7a4, cJ6_bitCount_0f7a4, 1, some .int), kr_J6_bitCount_0f7a4, kp_J6)
def kr_J13_compare_74951 : List (Nat × dx_I) := [(0, (.lload_n 0, 1, .null, 0, 0, 0, [])), (1, (.lload_n 2, 1, .null, 0, 0, 0, [])), (2, (.lcmp, 1, .null, 0, 0, 0, [])), (3, (.ifCond .ge 7, 3, .null, 10, 0, 0, [])), (6, (.iconst (-1), 1, .int (-1), 0, 0, 0, [])), (7, (.goto 14, 3, .null, 21, 0, 0, [])), (10, (.lload_n 0, 1, .null, 0, 0, 0, [])), (11, (.lload_n 2, 1, .null, 0, 0, 0, [])), (12, (.lcmp, 1, .null, 0, 0, 0, [])), (13, (.ifCond .ne 7, 3, .null, 20, 0, 0, [])), (16, (.iconst 0, 1, .int 0, 0, 0, 0, [])), (17, (.goto 4, 3, .null, 21, 0, 0, [])), (20, (.iconst 1, 1, .int 1, 0, 0, 0, [])), (21, (.ireturn, 1, .null, 0, 0, 0, []))]
def km_J13_compare_74951 : dx_K := ((yJ13_compare_74951, cJ13_compare_74951, 4, some .int), kr_J13_compare_74951, kp_J13)
def dx_P : List dx_K := [km_X0_begin, km_X0_has, km_X0_weightOf, km_X0_put, km_X0_across, km_X0_up, km_X0_squares, km_X0_weight, km_X0_weightAcross, km_X0_weightUp, km_X1_turnTo, km_X1_riseTo, km_X1_waysInto, km_X1_spread, km_X1_firm, km_X1_countFirm, km_X1_bears, km_X1_mostRoom, km_X1_stateOf, km_X1_halves, km_X1_momentAcross, km_X1_momentUp, km_X1_measureLine, km_X1_measureRow, km_X2_begin, km_X2_fact, km_X3_log, km_X3_square, km_X3_at, km_X3_water, km_X3_sheet, km_X3_lay, km_X3_tear, km_X3_copy, km_X3_fill, km_X3_load, km_X3_move, km_X3_rope, km_X3_drop, km_X3_told, km_X3_is, km_X3_all, km_X3_mean, km_X3_floats, km_X3_draft, km_X3_above, km_X3_middle, km_X3_place, km_X3_leans, km_X3_breadth, km_X3_holds, km_X3_rests, km_X3_carries, km_X3_trim, km_X3_room, km_X3_upper, km_X3_lower, km_X3_count, km_X3_finding, km_X3_findings, km_X3_digest, km_X3_digestPlaces, km_X3_digestLoads, km_X3_digestSheets, km_X3_within, km_X3_isTurn, km_X3_isSheet, km_X3_isPoint, km_X3_isLoad, km_X3_reaches, km_X3_find, km_X3_tell, km_X3_commonDivisor, km_X3_loadsThere, km_X3_wholeWeight, km_X3_settle, km_X3_weightAcross, km_X3_weightUp, km_X3_leaning, km_X3_holding, km_X3_turnedAcross, km_X3_turnedUp, km_X4_in, km_X4_meets, km_X4_finding, km_X4_findings, km_X4_gcd, km_X4_tells, km_X4_upper, km_X4_lower, km_X4_begin, km_X4_log, km_X4_isPlace, km_X4_square, km_X4_at, km_X4_water, km_X4_isSheet, km_X4_sheet, km_X4_lay, km_X4_tear, km_X4_copy, km_X4_fill, km_X4_isPoint, km_X4_load, km_X4_need, km_X4_move, km_X4_rope, km_X4_drop, km_X4_toldOf, km_X4_told, km_X4_is, km_X4_squareMany, km_X4_squareWeights, km_X4_all, km_X4_mean, km_X4_lay_, km_X4_isWetAt, km_X4_spread, km_X4_firmIn, km_X4_firmBelow, km_X4_finds, km_X4_afloat, km_X4_floats, km_X4_draft, km_X4_above, km_X4_laySums, km_X4_layPowers, km_X4_middle, km_X4_place, km_X4_lean, km_X4_leans, km_X4_layBreadth, km_X4_leastBreadth, km_X4_breadth, km_X4_holdsNow, km_X4_holds, km_X4_rests, km_X4_mostRoom, km_X4_carries, km_X4_trim, km_X4_room, km_X4_count, km_X4_digest, km_J6_bitCount_0f7a4, km_J13_compare_74951]
end
section
/-! THE LAYOUTS: lx_X the class with all it holds, lx_M the reference, lx_C a cut alone (printed by wip/whole/layout.py) -/
def lx_X : List dx_Cell := [.inl (3, [(3, 1), (3, 3), (3, 6), (3, 7), (3, 8), (3, 9), (0, 0), (0, 0), (0, 0), (2, 0), (2, 0)]), .inl (0, [(3, 2), (0, 0), (0, 0)]), .inr (0, 144, []), .inl (1, [(3, 4), (3, 5), (0, 0), (0, 0), (0, 0), (0, 0), (0, 0), (2, 0), (2, 0), (2, 0), (2, 0)]), .inr (0, 12, []), .inr (0, 12, []), .inr (3, 10, [10, 11, 12, 13, 14, 15, 16, 17, 18, 19]), .inr (4, 6, [20, 21, 22, 23, 24, 25]), .inr (0, 6, []), .inr (0, 6, []), .inl (2, [(1, 0), (0, 0), (0, 0), (0, 0), (0, 0), (0, 0)]), .inl (2, [(1, 0), (0, 0), (0, 0), (0, 0), (0, 0), (0, 0)]), .inl (2, [(1, 0), (0, 0), (0, 0), (0, 0), (0, 0), (0, 0)]), .inl (2, [(1, 0), (0, 0), (0, 0), (0, 0), (0, 0), (0, 0)]), .inl (2, [(1, 0), (0, 0), (0, 0), (0, 0), (0, 0), (0, 0)]), .inl (2, [(1, 0), (0, 0), (0, 0), (0, 0), (0, 0), (0, 0)]), .inl (2, [(1, 0), (0, 0), (0, 0), (0, 0), (0, 0), (0, 0)]), .inl (2, [(1, 0), (0, 0), (0, 0), (0, 0), (0, 0), (0, 0)]), .inl (2, [(1, 0), (0, 0), (0, 0), (0, 0), (0, 0), (0, 0)]), .inl (2, [(1, 0), (0, 0), (0, 0), (0, 0), (0, 0), (0, 0)]), .inr (1, 12, []), .inr (1, 12, []), .inr (1, 12, []), .inr (1, 12, []), .inr (1, 12, []), .inr (1, 12, [])]
def lx_M : List dx_Cell := [.inl (4, [(0, 0), (3, 1), (2, 0), (2, 0), (0, 0), (0, 0), (0, 0), (3, 2), (3, 3), (3, 4), (3, 5), (0, 0), (3, 6), (3, 7), (3, 8), (3, 9), (3, 10), (3, 11), (0, 0), (0, 0), (3, 12), (2, 0), (2, 0), (3, 13), (0, 0), (2, 0), (2, 0), (0, 0), (0, 0), (2, 0), (2, 0), (2, 0), (2, 0), (2, 0), (2, 0), (2, 0), (2, 0), (2, 0)]), .inr (0, 6, []), .inr (0, 144, []), .inr (0, 6, []), .inr (1, 72, []), .inr (1, 12, []), .inr (0, 10, []), .inr (0, 10, []), .inr (0, 10, []), .inr (0, 10, []), .inr (0, 10, []), .inr (2, 10, []), .inr (0, 144, []), .inr (2, 144, [])]
def lx_C : List dx_Cell := [.inl (0, [(3, 1), (0, 0), (0, 0)]), .inr (0, 144, [])]
end
section
/-! plain facts on numbers and arrays, to paste: each family by itself; over the kit's rows on nI and upd -/
/-! ===== order of ints, in all its forms, and through longs ===== -/
theorem fa_lt (a b : Int32) : a < b ↔ a.toInt < b.toInt := Int32.lt_iff_toInt_lt
theorem fa_le (a b : Int32) : a ≤ b ↔ a.toInt ≤ b.toInt := Int32.le_iff_toInt_le
theorem fa_eq (a b : Int32) : a = b ↔ a.toInt = b.toInt := Int32.toInt_inj.symm
theorem fa_lt64 (a b : Int64) : a < b ↔ a.toInt < b.toInt := Int64.lt_iff_toInt_lt
theorem fa_le64 (a b : Int64) : a ≤ b ↔ a.toInt ≤ b.toInt := Int64.le_iff_toInt_le
theorem fa_eq64 (a b : Int64) : a = b ↔ a.toInt = b.toInt := Int64.toInt_inj.symm
/-- a comparison of two ints taken as longs -/
theorem fa_wide_lt (a b : Int32) : a.toInt64 < b.toInt64 ↔ a < b := by rw [fa_lt64, fa_lt, Int32.toInt_toInt64, Int32.toInt_toInt64]
theorem fa_wide_le (a b : Int32) : a.toInt64 ≤ b.toInt64 ↔ a ≤ b := by rw [fa_le64, fa_le, Int32.toInt_toInt64, Int32.toInt_toInt64]
theorem fa_wide_eq (a b : Int32) : a.toInt64 = b.toInt64 ↔ a = b := by rw [fa_eq64, fa_eq, Int32.toInt_toInt64, Int32.toInt_toInt64]
/-- one strict comparison gives all the others -/
theorem fa_of_lt {a b : Int32} (h : a < b) : a ≤ b ∧ ¬ b ≤ a ∧ ¬ b < a ∧ a ≠ b ∧ b ≠ a := by
  rw [fa_lt] at h
  refine ⟨?_, ?_, ?_, ?_, ?_⟩
  · rw [fa_le]; omega
  · rw [fa_le]; omega
  · rw [fa_lt]; omega
  · intro e; rw [fa_eq] at e; omega
  · intro e; rw [fa_eq] at e; omega
theorem fa_of_nlt {a b : Int32} (h : ¬ a < b) : b ≤ a := by
  rw [fa_lt] at h
  rw [fa_le]
  omega
theorem fa_of_nle {a b : Int32} (h : ¬ a ≤ b) : b < a := by
  rw [fa_le] at h
  rw [fa_lt]
  omega
theorem fa_le_ne {a b : Int32} (h : a ≤ b) (h2 : a ≠ b) : a < b := by
  rw [fa_le] at h
  rw [fa_lt]
  have h3 : a.toInt ≠ b.toInt := fun e => h2 ((fa_eq a b).mpr e)
  omega
theorem fa_three (a b : Int32) : a < b ∨ a = b ∨ b < a := by
  rw [fa_lt, fa_lt, fa_eq]
  omega
theorem fa_trans {a b c : Int32} (h : a < b) (h2 : b ≤ c) : a < c := by
  rw [fa_lt] at *
  rw [fa_le] at h2
  omega
/-! ===== small literals as numbers ===== -/
theorem fa_lit (n : Nat) : (OfNat.ofNat n : Int32) = nI n := rfl
theorem fa_litL (n : Nat) : (OfNat.ofNat n : Int64) = lN n := rfl
/-! ===== bits of a number: 'or', masks, one bit ===== -/
theorem fa_and (a b : Nat) : nI a &&& nI b = nI (a &&& b) := by
  apply Int32.toBitVec_inj.1
  show BitVec.ofNat 32 a &&& BitVec.ofNat 32 b = BitVec.ofNat 32 (a &&& b)
  apply BitVec.eq_of_getLsbD_eq
  intro i hi
  simp [hi]
theorem fa_or (a b : Nat) : nI a ||| nI b = nI (a ||| b) := by
  apply Int32.toBitVec_inj.1
  show BitVec.ofNat 32 a ||| BitVec.ofNat 32 b = BitVec.ofNat 32 (a ||| b)
  apply BitVec.eq_of_getLsbD_eq
  intro i hi
  simp [hi]
/-- a remainder by a power of two, as a mask -/
theorem fa_mask (n k : Nat) : nI n &&& nI (2 ^ k - 1) = nI (n % 2 ^ k) := by rw [fa_and, Nat.and_two_pow_sub_one_eq_mod]
/-- 'or' of a high part and a low one that don't meet is their sum -/
theorem fa_or_sum {a k : Nat} (b : Nat) (h : a < 2 ^ k) : nI (2 ^ k * b) ||| nI a = nI (2 ^ k * b + a) := by rw [fa_or, Nat.two_pow_add_eq_or_of_lt h]
/-- one bit, by 'and' with a power of two -/
theorem fa_bit {n j : Nat} (hj : j < 31) : nI n &&& nI (2 ^ j) = 0 ↔ n.testBit j = false := by
  have h2 : (2 : Nat) ^ j < 2 ^ 31 := Nat.pow_lt_pow_right (by decide) hj
  have hle : n &&& 2 ^ j ≤ 2 ^ j := Nat.and_le_right
  have e : n &&& 2 ^ j = 0 ↔ n.testBit j = false := by
    constructor
    · intro h
      have h1 : (n &&& 2 ^ j).testBit j = false := by rw [h]; simp
      rw [Nat.testBit_and] at h1
      first | simpa using h1 | simpa [Nat.testBit_two_pow_self] using h1 | simpa [Nat.testBit_two_pow] using h1
    · intro h
      apply Nat.eq_of_testBit_eq
      intro i
      rw [Nat.testBit_and]
      by_cases hi : j = i
      · subst hi; simp [h]
      · first | (simp [Nat.testBit_two_pow, hi]; done) | (simp [Nat.testBit_two_pow_of_ne hi]; done)
  rw [fa_and]
  constructor
  · intro h
    apply e.mp
    rcases Nat.eq_zero_or_pos (n &&& 2 ^ j) with z | z
    · exact z
    · exact absurd h (nI_ne0 z (Nat.lt_of_le_of_lt hle h2))
  · intro h
    rw [e.mpr h]; exact nI_0
/-- a remainder by a power of two of a number that isn't negative, as Java divides -/
theorem fa_rem {a k : Nat} (ha : a < 2 ^ 31) (hk : k < 31) : nI a - nI a / nI (2 ^ k) * nI (2 ^ k) = nI (a % 2 ^ k) := pk_rem ha (Nat.two_pow_pos k) (Nat.pow_lt_pow_right (by decide) hk)
/-! ===== cuts to a byte, a short ===== -/
theorem fa_byte_xor (x y : Int32) : (x ^^^ y).toInt8 = x.toInt8 ^^^ y.toInt8 := by
  apply Int8.toBitVec_inj.1
  apply BitVec.eq_of_getLsbD_eq
  intro i hi
  first | (simp [hi]; done) | (simp [hi, BitVec.getLsbD_setWidth, BitVec.getLsbD_signExtend]; done)
theorem fa_short_xor (x y : Int32) : (x ^^^ y).toInt16 = x.toInt16 ^^^ y.toInt16 := by
  apply Int16.toBitVec_inj.1
  apply BitVec.eq_of_getLsbD_eq
  intro i hi
  first | (simp [hi]; done) | (simp [hi, BitVec.getLsbD_setWidth, BitVec.getLsbD_signExtend]; done)
/-- the cut to a byte sees the low byte alone -/
theorem fa_byte_low (x : Int32) : (x &&& 255).toInt8 = x.toInt8 := by
  apply Int8.toBitVec_inj.1
  apply BitVec.eq_of_getLsbD_eq
  intro i hi
  have h2 : (255 : Int32).toBitVec.getLsbD i = true := by
    have : ∀ j : Fin 8, (255 : Int32).toBitVec.getLsbD j.val = true := by decide +kernel
    exact this ⟨i, hi⟩
  have h4 : (x &&& 255).toBitVec.getLsbD i = x.toBitVec.getLsbD i := by
    show (x.toBitVec &&& (255 : Int32).toBitVec).getLsbD i = _
    rw [BitVec.getLsbD_and, h2, Bool.and_true]
  have h3 : i < 32 := by omega
  first
    | (show (((x &&& 255).toBitVec).signExtend 8).getLsbD i = (x.toBitVec.signExtend 8).getLsbD i; rw [BitVec.getLsbD_signExtend, BitVec.getLsbD_signExtend, if_pos h3, if_pos h3, h4])
    | (show (((x &&& 255).toBitVec).setWidth 8).getLsbD i = (x.toBitVec.setWidth 8).getLsbD i; rw [BitVec.getLsbD_setWidth, BitVec.getLsbD_setWidth, h4])
    | (simp [hi, h3, h4]; done)
theorem fa_short_low (x : Int32) : (x &&& 65535).toInt16 = x.toInt16 := by
  apply Int16.toBitVec_inj.1
  apply BitVec.eq_of_getLsbD_eq
  intro i hi
  have h2 : (65535 : Int32).toBitVec.getLsbD i = true := by
    have : ∀ j : Fin 16, (65535 : Int32).toBitVec.getLsbD j.val = true := by decide +kernel
    exact this ⟨i, hi⟩
  have h4 : (x &&& 65535).toBitVec.getLsbD i = x.toBitVec.getLsbD i := by
    show (x.toBitVec &&& (65535 : Int32).toBitVec).getLsbD i = _
    rw [BitVec.getLsbD_and, h2, Bool.and_true]
  have h3 : i < 32 := by omega
  first
    | (show (((x &&& 65535).toBitVec).signExtend 16).getLsbD i = (x.toBitVec.signExtend 16).getLsbD i; rw [BitVec.getLsbD_signExtend, BitVec.getLsbD_signExtend, if_pos h3, if_pos h3, h4])
    | (show (((x &&& 65535).toBitVec).setWidth 16).getLsbD i = (x.toBitVec.setWidth 16).getLsbD i; rw [BitVec.getLsbD_setWidth, BitVec.getLsbD_setWidth, h4])
    | (simp [hi, h3, h4]; done)
/-- a small number is its own byte, its own short -/
theorem fa_byte_small {n : Nat} (h : n < 128) : (nI n).toInt8.toInt32 = nI n := by
  have : ∀ j : Fin 128, (nI j.val).toInt8.toInt32 = nI j.val := by decide +kernel
  exact this ⟨n, h⟩
/-! ===== absolute difference ===== -/
theorem fa_absdiff {a b : Nat} (ha : a < 2 ^ 31) (hb : b < 2 ^ 31) : (if nI a < nI b then nI b - nI a else nI a - nI b) = nI (if a < b then b - a else a - b) := by
  by_cases h : a < b
  · rw [if_pos (nI_lt h hb), if_pos h]
    exact pk_sub (Nat.le_of_lt h)
  · rw [if_neg (nI_nlt (Nat.le_of_not_lt h) ha), if_neg h]
    exact pk_sub (Nat.le_of_not_lt h)
/-! ===== an array behind i stores, a conditional store, a row copied ===== -/
/-- f where k < i, what stood there else -/
def fa_fill {α : Type} (f g : Nat → α) (i : Nat) : Nat → α := fun k => if k < i then f k else g k
theorem fa_fill_0 {α : Type} (f g : Nat → α) : fa_fill f g 0 = g := funext fun k => if_neg (Nat.not_lt_zero k)
theorem fa_fill_in {α : Type} {f g : Nat → α} {i k : Nat} (h : k < i) : fa_fill f g i k = f k := if_pos h
theorem fa_fill_out {α : Type} {f g : Nat → α} {i k : Nat} (h : i ≤ k) : fa_fill f g i k = g k := if_neg (Nat.not_lt.mpr h)
theorem fa_fill_succ (f g : Nat → Int32) (i : Nat) : upd (fa_fill f g i) i (f i) = fa_fill f g (i + 1) := by
  funext k
  by_cases e : k = i
  · subst e
    rw [pk_us]
    exact (if_pos (Nat.lt_succ_self k)).symm
  · rw [pk_un e]
    by_cases h : k < i
    · rw [fa_fill_in h, fa_fill_in (Nat.lt_succ_of_lt h)]
    · rw [fa_fill_out (Nat.le_of_not_lt h), fa_fill_out (by omega)]
/-- a store that changes nothing -/
theorem fa_upd_same {f : Nat → Int32} {i : Nat} {x : Int32} (h : f i = x) : upd f i x = f := by
  funext k
  by_cases e : k = i
  · subst e
    rw [pk_us, h]
  · rw [pk_un e]
/-- a store under a condition, told as one -/
theorem fa_upd_if (c : Prop) [Decidable c] (f : Nat → Int32) (i : Nat) (x : Int32) : (if c then upd f i x else f) = upd f i (if c then x else f i) := by
  by_cases h : c
  · rw [if_pos h, if_pos h]
  · rw [if_neg h, if_neg h, fa_upd_same rfl]
/-- two stores at one place, at two -/
theorem fa_upd_twice (f : Nat → Int32) (i : Nat) (x y : Int32) : upd (upd f i x) i y = upd f i y := by
  funext k
  by_cases e : k = i
  · subst e
    rw [pk_us, pk_us]
  · rw [pk_un e, pk_un e, pk_un e]
theorem fa_upd_swap (f : Nat → Int32) {i j : Nat} (h : i ≠ j) (x y : Int32) : upd (upd f i x) j y = upd (upd f j y) i x := by
  funext k
  by_cases e : k = i
  · subst e
    rw [pk_un h, pk_us, pk_us]
  · by_cases e2 : k = j
    · subst e2
      rw [pk_us, pk_un e, pk_us]
    · rw [pk_un e2, pk_un e, pk_un e, pk_un e2]
/-! ===== the first index with a property; a count ===== -/
/-- the first k < n with p k, n if there is none -/
def fa_first (p : Nat → Bool) : Nat → Nat
  | 0 => 0
  | n + 1 => if fa_first p n < n then fa_first p n else if p n then n else n + 1
theorem fa_first_le (p : Nat → Bool) : ∀ n, fa_first p n ≤ n
  | 0 => Nat.le_refl 0
  | n + 1 => by
    have ih := fa_first_le p n
    unfold fa_first
    split
    · omega
    · split
      · omega
      · omega
theorem fa_first_no (p : Nat → Bool) : ∀ n k, k < fa_first p n → p k = false
  | 0, k, h => absurd h (Nat.not_lt_zero k)
  | n + 1, k, h => by
    have ih := fa_first_no p n
    have hl := fa_first_le p n
    unfold fa_first at h
    split at h
    · exact ih k h
    · rename_i h1
      split at h
      · exact ih k (by omega)
      · rename_i h2
        by_cases e : k = n
        · subst e
          exact Bool.eq_false_iff.mpr h2
        · exact ih k (by omega)
theorem fa_first_yes (p : Nat → Bool) : ∀ n, fa_first p n < n → p (fa_first p n) = true
  | 0, h => absurd h (Nat.not_lt_zero _)
  | n + 1, h => by
    have ih := fa_first_yes p n
    have hl := fa_first_le p n
    unfold fa_first at h ⊢
    split at h
    · rename_i h1
      rw [if_pos h1]
      exact ih h1
    · rename_i h1
      rw [if_neg h1]
      split at h
      · rename_i h2
        rw [if_pos h2]
        exact h2
      · omega
/-- how many k < n have p k -/
def fa_cnt (p : Nat → Bool) : Nat → Nat
  | 0 => 0
  | n + 1 => fa_cnt p n + if p n then 1 else 0
theorem fa_cnt_le (p : Nat → Bool) : ∀ n, fa_cnt p n ≤ n
  | 0 => Nat.le_refl 0
  | n + 1 => by
    have ih := fa_cnt_le p n
    unfold fa_cnt
    split
    · omega
    · omega
theorem fa_cnt_yes {p : Nat → Bool} {n : Nat} (h : p n = true) : fa_cnt p (n + 1) = fa_cnt p n + 1 := by rw [fa_cnt, if_pos h]
theorem fa_cnt_no {p : Nat → Bool} {n : Nat} (h : p n = false) : fa_cnt p (n + 1) = fa_cnt p n := by rw [fa_cnt, if_neg (by rw [h]; decide)]; rfl
theorem fa_cnt_cong {p q : Nat → Bool} : ∀ {n : Nat}, (∀ k, k < n → p k = q k) → fa_cnt p n = fa_cnt q n
  | 0, _ => rfl
  | n + 1, h => by rw [fa_cnt, fa_cnt, fa_cnt_cong (fun k hk => h k (Nat.lt_succ_of_lt hk)), h n (Nat.lt_succ_self n)]
/-! ===== an answer carried into a post; a branch on a boolean answer ===== -/
theorem fa_post {α : Type} {P : α → Prop} {x y : α} (h : x = y) (hp : P y) : P x := h ▸ hp
theorem fa_post2 {α β : Type} {P : α → β → Prop} {x y : α} {u v : β} (h : x = y) (h2 : u = v) (hp : P y v) : P x u := h ▸ h2 ▸ hp
theorem fa_bool {r : Int32} {b : Bool} (h : r = if b then 1 else 0) : (r = 0 ↔ b = false) ∧ (¬ r = 0 ↔ b = true) := by
  subst h
  cases b
  · exact ⟨⟨fun _ => rfl, fun _ => rfl⟩, ⟨fun h => absurd rfl h, fun h => absurd h (by decide)⟩⟩
  · exact ⟨⟨fun h => absurd h (by decide), fun h => absurd h (by decide)⟩, ⟨fun _ => rfl, fun _ => by decide⟩⟩
/-- a boolean's narrowing changes nothing -/
theorem fa_bool_and {r : Int32} (h : r = 0 ∨ r = 1) : r &&& 1 = r := by
  rcases h with rfl | rfl
  · decide
  · decide
theorem fa_bool_prop {c : Prop} [Decidable c] {r : Int32} (h : r = if c then 1 else 0) : (r = 0 ↔ ¬ c) ∧ (¬ r = 0 ↔ c) := by
  subst h
  by_cases hc : c
  · rw [if_pos hc]
    exact ⟨⟨fun h => absurd h (by decide), fun h => absurd hc h⟩, ⟨fun _ => hc, fun _ => by decide⟩⟩
  · rw [if_neg hc]
    exact ⟨⟨fun _ => hc, fun _ => rfl⟩, ⟨fun h => absurd rfl h, fun h => absurd h hc⟩⟩
/-! plain facts to paste, each family by itself; over the kit's nI, lN and upd -/
/-! ===== drawers: more things than places ===== -/
theorem fb_holes : ∀ (m n : Nat) (f : Nat → Nat), (∀ i, i < n → f i < m) → (∀ i j, i < j → j < n → f i ≠ f j) → n ≤ m := by
  intro m
  induction m with
  | zero =>
    intro n f h1 _
    rcases Nat.eq_zero_or_pos n with h | h
    · omega
    · exact absurd (h1 0 h) (Nat.not_lt_zero _)
  | succ m ih =>
    intro n f h1 h2
    by_cases hx : ∃ i, i < n ∧ f i = m
    · obtain ⟨a, ha, hfa⟩ := hx
      have hg := ih (n - 1) (fun i => if i < a then f i else f (i + 1)) (by
        intro i hi
        by_cases q : i < a
        · simp only [if_pos q]
          have b1 := h1 i (by omega)
          have b2 := h2 i a q ha
          omega
        · simp only [if_neg q]
          have b1 := h1 (i + 1) (by omega)
          have b2 := h2 a (i + 1) (by omega) (by omega)
          omega) (by
        intro i j hij hj
        by_cases q : i < a
        · by_cases r : j < a
          · simp only [if_pos q, if_pos r]
            exact h2 i j hij (by omega)
          · simp only [if_pos q, if_neg r]
            exact h2 i (j + 1) (by omega) (by omega)
        · have r : ¬ j < a := by omega
          simp only [if_neg q, if_neg r]
          exact h2 (i + 1) (j + 1) (by omega) (by omega))
      omega
    · have hg := ih n f (fun i hi => by
        have b1 := h1 i hi
        have b2 : f i ≠ m := fun e => hx ⟨i, hi, e⟩
        omega) h2
      omega
/-- two of them in one place -/
theorem fb_twice {m n : Nat} {f : Nat → Nat} (h : ∀ i, i < n → f i < m) (hm : m < n) : ∃ i j, i < j ∧ j < n ∧ f i = f j := by
  refine Classical.byContradiction fun hx => ?_
  have := fb_holes m n f h (fun i j hij hj e => hx ⟨i, j, hij, hj, e⟩)
  omega
/-- as many as places, none twice: each place is taken -/
theorem fb_onto {n : Nat} {f : Nat → Nat} (h : ∀ i, i < n → f i < n) (h2 : ∀ i j, i < j → j < n → f i ≠ f j) {y : Nat} (hy : y < n) : ∃ i, i < n ∧ f i = y := by
  refine Classical.byContradiction fun hx => ?_
  have hne : ∀ i, i < n → f i ≠ y := fun i hi e => hx ⟨i, hi, e⟩
  have := fb_holes (n - 1) n (fun i => if f i < y then f i else f i - 1) (by
    intro i hi
    have b1 := h i hi
    have b2 := hne i hi
    by_cases q : f i < y
    · simp only [if_pos q]; omega
    · simp only [if_neg q]; omega) (by
    intro i j hij hj
    have b1 := hne i (by omega)
    have b2 := hne j hj
    have b3 := h2 i j hij hj
    by_cases q : f i < y
    · by_cases r : f j < y
      · simp only [if_pos q, if_pos r]; exact b3
      · simp only [if_pos q, if_neg r]; omega
    · by_cases r : f j < y
      · simp only [if_neg q, if_pos r]; omega
      · simp only [if_neg q, if_neg r]; omega)
  omega
/-! ===== how many places have a property ===== -/
def fb_ct (p : Nat → Bool) : Nat → Nat
  | 0 => 0
  | n + 1 => fb_ct p n + (if p n then 1 else 0)
theorem fb_ct_succ (p : Nat → Bool) (n : Nat) : fb_ct p (n + 1) = fb_ct p n + (if p n then 1 else 0) := rfl
theorem fb_ct_le (p : Nat → Bool) : ∀ n, fb_ct p n ≤ n
  | 0 => Nat.le_refl _
  | n + 1 => by
    have h := fb_ct_le p n
    rw [fb_ct_succ]
    split <;> omega
theorem fb_ct_step (p : Nat → Bool) (m : Nat) : ∀ n, fb_ct p m ≤ fb_ct p (m + n)
  | 0 => Nat.le_refl _
  | n + 1 => by
    have h := fb_ct_step p m n
    show fb_ct p m ≤ fb_ct p (m + n + 1)
    rw [fb_ct_succ]
    omega
theorem fb_ct_mono (p : Nat → Bool) {m n : Nat} (h : m ≤ n) : fb_ct p m ≤ fb_ct p n := by
  have := fb_ct_step p m (n - m)
  rwa [Nat.add_sub_cancel' h] at this
theorem fb_ct_cong {p q : Nat → Bool} : ∀ {n : Nat}, (∀ k, k < n → p k = q k) → fb_ct p n = fb_ct q n
  | 0, _ => rfl
  | n + 1, h => by
    rw [fb_ct_succ, fb_ct_succ, fb_ct_cong (fun k hk => h k (by omega)), h n (by omega)]
/-- one place changed -/
theorem fb_ct_out (p : Nat → Bool) (b : Bool) {i n : Nat} (h : n ≤ i) : fb_ct (fun k => if k = i then b else p k) n = fb_ct p n :=
  fb_ct_cong fun k hk => if_neg (by omega)
theorem fb_ct_upd (p : Nat → Bool) (b : Bool) {i : Nat} : ∀ {n : Nat}, i < n → fb_ct (fun k => if k = i then b else p k) n + (if p i then 1 else 0) = fb_ct p n + (if b then 1 else 0)
  | 0, h => absurd h (Nat.not_lt_zero i)
  | n + 1, h => by
    rw [fb_ct_succ, fb_ct_succ]
    rcases Nat.lt_or_ge i n with q | q
    · have := fb_ct_upd p b q
      have e : (if n = i then b else p n) = p n := if_neg (by omega)
      rw [e]
      omega
    · have e : i = n := by omega
      subst e
      rw [fb_ct_out p b (Nat.le_refl _)]
      simp only [if_true]
      omega
theorem fb_ct_sub {p q : Nat → Bool} : ∀ {n : Nat}, (∀ k, k < n → p k = true → q k = true) → fb_ct p n ≤ fb_ct q n
  | 0, _ => Nat.le_refl _
  | n + 1, h => by
    have h1 := fb_ct_sub (n := n) (p := p) (q := q) (fun k hk => h k (by omega))
    have h2 := h n (by omega)
    rw [fb_ct_succ, fb_ct_succ]
    cases hp : p n <;> cases hq : q n <;> simp_all <;> omega
theorem fb_ct_or {p q : Nat → Bool} : ∀ {n : Nat}, (∀ k, k < n → ¬ (p k = true ∧ q k = true)) → fb_ct (fun k => p k || q k) n = fb_ct p n + fb_ct q n
  | 0, _ => rfl
  | n + 1, h => by
    have h1 := fb_ct_or (n := n) (p := p) (q := q) (fun k hk => h k (by omega))
    have h2 := h n (by omega)
    rw [fb_ct_succ, fb_ct_succ, fb_ct_succ, h1]
    cases hp : p n <;> cases hq : q n <;> simp_all <;> omega
theorem fb_ct_not (p : Nat → Bool) : ∀ n, fb_ct p n + fb_ct (fun k => !p k) n = n
  | 0 => rfl
  | n + 1 => by
    have h := fb_ct_not p n
    rw [fb_ct_succ, fb_ct_succ]
    cases p n <;> simp <;> omega
theorem fb_ct_split (p : Nat → Bool) (m : Nat) : ∀ n, fb_ct p (m + n) = fb_ct p m + fb_ct (fun k => p (m + k)) n
  | 0 => rfl
  | n + 1 => by
    have h := fb_ct_split p m n
    show fb_ct p (m + n + 1) = _
    rw [fb_ct_succ, fb_ct_succ, h, Nat.add_assoc]
theorem fb_ct_zero {p : Nat → Bool} : ∀ {n : Nat}, fb_ct p n = 0 ↔ ∀ k, k < n → p k = false
  | 0 => ⟨fun _ k hk => absurd hk (Nat.not_lt_zero k), fun _ => rfl⟩
  | n + 1 => by
    have h := fb_ct_zero (p := p) (n := n)
    rw [fb_ct_succ]
    constructor
    · intro e k hk
      have e1 : fb_ct p n = 0 := by omega
      rcases Nat.lt_or_ge k n with q | q
      · exact h.mp e1 k q
      · have ek : k = n := by omega
        subst ek
        cases hp : p k
        · rfl
        · simp [hp] at e
    · intro a
      rw [h.mpr (fun k hk => a k (by omega)), a n (by omega)]
      rfl
theorem fb_ct_pos {p : Nat → Bool} {n : Nat} : 0 < fb_ct p n ↔ ∃ k, k < n ∧ p k = true := by
  constructor
  · intro h
    refine Classical.byContradiction fun hx => ?_
    have := fb_ct_zero.mpr (fun k hk => by
      cases hp : p k
      · rfl
      · exact absurd ⟨k, hk, hp⟩ hx : ∀ k, k < n → p k = false)
    omega
  · rintro ⟨k, hk, hp⟩
    rcases Nat.eq_zero_or_pos (fb_ct p n) with e | e
    · have := fb_ct_zero.mp e k hk
      rw [this] at hp
      cases hp
    · exact e
theorem fb_ct_all {p : Nat → Bool} {n : Nat} : fb_ct p n = n ↔ ∀ k, k < n → p k = true := by
  have h := fb_ct_not p n
  constructor
  · intro e k hk
    have z : fb_ct (fun k => !p k) n = 0 := by omega
    have := fb_ct_zero.mp z k hk
    cases hp : p k
    · simp [hp] at this
    · rfl
  · intro a
    have z : fb_ct (fun k => !p k) n = 0 := fb_ct_zero.mpr (fun k hk => by simp [a k hk])
    omega
/-- the k-th place with the property -/
theorem fb_ct_kth {p : Nat → Bool} {k : Nat} : ∀ {n : Nat}, k < fb_ct p n → ∃ i, i < n ∧ p i = true ∧ fb_ct p i = k
  | 0, h => absurd h (Nat.not_lt_zero k)
  | n + 1, h => by
    rcases Nat.lt_or_ge k (fb_ct p n) with q | q
    · obtain ⟨i, h1, h2⟩ := fb_ct_kth q
      exact ⟨i, by omega, h2⟩
    · rw [fb_ct_succ] at h
      cases hp : p n
      · simp [hp] at h; omega
      · simp [hp] at h
        exact ⟨n, by omega, hp, by omega⟩
theorem fb_ct_kth_one {p : Nat → Bool} {i j : Nat} (hi : p i = true) (hj : p j = true) (e : fb_ct p i = fb_ct p j) : i = j := by
  have key : ∀ a b : Nat, a < b → p a = true → fb_ct p a < fb_ct p b := by
    intro a b hab ha
    have h := fb_ct_mono p (show a + 1 ≤ b from hab)
    rw [fb_ct_succ, ha] at h
    simp at h
    omega
  rcases Nat.lt_trichotomy i j with q | q | q
  · have := key i j q hi; omega
  · exact q
  · have := key j i q hj; omega
/-! ===== sums over a range: one place changed, parts, bounds ===== -/
def fb_sm (f : Nat → Nat) : Nat → Nat
  | 0 => 0
  | n + 1 => fb_sm f n + f n
theorem fb_sm_succ (f : Nat → Nat) (n : Nat) : fb_sm f (n + 1) = fb_sm f n + f n := rfl
theorem fb_sm_cong {f g : Nat → Nat} : ∀ {n : Nat}, (∀ k, k < n → f k = g k) → fb_sm f n = fb_sm g n
  | 0, _ => rfl
  | n + 1, h => by rw [fb_sm_succ, fb_sm_succ, fb_sm_cong (fun k hk => h k (by omega)), h n (by omega)]
theorem fb_sm_out (f : Nat → Nat) (v : Nat) {i n : Nat} (h : n ≤ i) : fb_sm (fun k => if k = i then v else f k) n = fb_sm f n :=
  fb_sm_cong fun k hk => if_neg (by omega)
theorem fb_sm_upd (f : Nat → Nat) (v : Nat) {i : Nat} : ∀ {n : Nat}, i < n → fb_sm (fun k => if k = i then v else f k) n + f i = fb_sm f n + v
  | 0, h => absurd h (Nat.not_lt_zero i)
  | n + 1, h => by
    rw [fb_sm_succ, fb_sm_succ]
    rcases Nat.lt_or_ge i n with q | q
    · have := fb_sm_upd f v q
      have e : (if n = i then v else f n) = f n := if_neg (by omega)
      rw [e]
      omega
    · have e : i = n := by omega
      subst e
      rw [fb_sm_out f v (Nat.le_refl _)]
      simp only [if_true]
      omega
theorem fb_sm_add (f g : Nat → Nat) : ∀ n, fb_sm (fun k => f k + g k) n = fb_sm f n + fb_sm g n
  | 0 => rfl
  | n + 1 => by
    have h := fb_sm_add f g n
    rw [fb_sm_succ, fb_sm_succ, fb_sm_succ, h]
    omega
theorem fb_sm_le {f g : Nat → Nat} : ∀ {n : Nat}, (∀ k, k < n → f k ≤ g k) → fb_sm f n ≤ fb_sm g n
  | 0, _ => Nat.le_refl _
  | n + 1, h => by
    have h1 := fb_sm_le (n := n) (f := f) (g := g) (fun k hk => h k (by omega))
    have h2 := h n (by omega)
    rw [fb_sm_succ, fb_sm_succ]
    omega
theorem fb_sm_const (c : Nat) : ∀ n, fb_sm (fun _ => c) n = n * c
  | 0 => by rw [Nat.zero_mul]; rfl
  | n + 1 => by rw [fb_sm_succ, fb_sm_const c n, Nat.succ_mul]
theorem fb_sm_bound {f : Nat → Nat} {c n : Nat} (h : ∀ k, k < n → f k ≤ c) : fb_sm f n ≤ n * c := by
  rw [← fb_sm_const c n]
  exact fb_sm_le h
theorem fb_sm_mono (f : Nat → Nat) (m : Nat) : ∀ n, fb_sm f m ≤ fb_sm f (m + n)
  | 0 => Nat.le_refl _
  | n + 1 => by
    have h := fb_sm_mono f m n
    show fb_sm f m ≤ fb_sm f (m + n + 1)
    rw [fb_sm_succ]
    omega
theorem fb_sm_part (f : Nat → Nat) {i n : Nat} (h : i < n) : fb_sm f i + f i ≤ fb_sm f n := by
  have := fb_sm_mono f (i + 1) (n - (i + 1))
  rw [fb_sm_succ, show i + 1 + (n - (i + 1)) = n by omega] at this
  exact this
theorem fb_sm_split (f : Nat → Nat) (m : Nat) : ∀ n, fb_sm f (m + n) = fb_sm f m + fb_sm (fun k => f (m + k)) n
  | 0 => rfl
  | n + 1 => by
    have h := fb_sm_split f m n
    show fb_sm f (m + n + 1) = _
    rw [fb_sm_succ, fb_sm_succ, h, Nat.add_assoc]
theorem fb_sm_zero {f : Nat → Nat} {n : Nat} (h : fb_sm f n = 0) : ∀ k, k < n → f k = 0 := fun k hk => by
  have := fb_sm_part f hk
  omega
/-- the same over whole numbers -/
def fb_si (f : Nat → Int) : Nat → Int
  | 0 => 0
  | n + 1 => fb_si f n + f n
theorem fb_si_succ (f : Nat → Int) (n : Nat) : fb_si f (n + 1) = fb_si f n + f n := rfl
theorem fb_si_cong {f g : Nat → Int} : ∀ {n : Nat}, (∀ k, k < n → f k = g k) → fb_si f n = fb_si g n
  | 0, _ => rfl
  | n + 1, h => by rw [fb_si_succ, fb_si_succ, fb_si_cong (fun k hk => h k (by omega)), h n (by omega)]
theorem fb_si_out (f : Nat → Int) (v : Int) {i n : Nat} (h : n ≤ i) : fb_si (fun k => if k = i then v else f k) n = fb_si f n :=
  fb_si_cong fun k hk => if_neg (by omega)
theorem fb_si_upd (f : Nat → Int) (v : Int) {i : Nat} : ∀ {n : Nat}, i < n → fb_si (fun k => if k = i then v else f k) n = fb_si f n - f i + v
  | 0, h => absurd h (Nat.not_lt_zero i)
  | n + 1, h => by
    rw [fb_si_succ, fb_si_succ]
    rcases Nat.lt_or_ge i n with q | q
    · have := fb_si_upd f v q
      have e : (if n = i then v else f n) = f n := if_neg (by omega)
      rw [e]
      omega
    · have e : i = n := by omega
      subst e
      rw [fb_si_out f v (Nat.le_refl _)]
      simp only [if_true]
      omega
theorem fb_si_add (f g : Nat → Int) : ∀ n, fb_si (fun k => f k + g k) n = fb_si f n + fb_si g n
  | 0 => rfl
  | n + 1 => by
    have h := fb_si_add f g n
    rw [fb_si_succ, fb_si_succ, fb_si_succ, h]
    omega
theorem fb_si_sub (f g : Nat → Int) : ∀ n, fb_si (fun k => f k - g k) n = fb_si f n - fb_si g n
  | 0 => rfl
  | n + 1 => by
    have h := fb_si_sub f g n
    rw [fb_si_succ, fb_si_succ, fb_si_succ, h]
    omega
theorem fb_si_mul (c : Int) (f : Nat → Int) : ∀ n, fb_si (fun k => c * f k) n = c * fb_si f n
  | 0 => (Int.mul_zero c).symm
  | n + 1 => by
    have h := fb_si_mul c f n
    rw [fb_si_succ, fb_si_succ, h, Int.mul_add]
theorem fb_si_split (f : Nat → Int) (m : Nat) : ∀ n, fb_si f (m + n) = fb_si f m + fb_si (fun k => f (m + k)) n
  | 0 => (Int.add_zero _).symm
  | n + 1 => by
    have h := fb_si_split f m n
    show fb_si f (m + n + 1) = _
    rw [fb_si_succ, fb_si_succ, h, Int.add_assoc]
theorem fb_si_nat (f : Nat → Nat) : ∀ n, fb_si (fun k => (f k : Int)) n = (fb_sm f n : Int)
  | 0 => rfl
  | n + 1 => by
    have h := fb_si_nat f n
    rw [fb_si_succ, fb_sm_succ, h]
    omega
theorem fb_si_bound {f : Nat → Int} {c : Int} (hc : 0 ≤ c) : ∀ {n : Nat}, (∀ k, k < n → -c ≤ f k ∧ f k ≤ c) → -(n * c) ≤ fb_si f n ∧ fb_si f n ≤ n * c
  | 0, _ => by simp [fb_si]
  | n + 1, h => by
    have h1 := fb_si_bound (n := n) (f := f) hc (fun k hk => h k (by omega))
    have h2 := h n (by omega)
    have e : ((n + 1 : Nat) : Int) * c = n * c + c := by rw [Int.natCast_add, Int.add_mul]; simp
    rw [fb_si_succ, e]
    omega
/-! ===== bits of a long that isn't negative ===== -/
theorem fb_andL (a b : Nat) : lN a &&& lN b = lN (a &&& b) := by
  apply Int64.toBitVec_inj.1
  show BitVec.ofNat 64 a &&& BitVec.ofNat 64 b = BitVec.ofNat 64 (a &&& b)
  apply BitVec.eq_of_getLsbD_eq
  intro i hi
  simp [hi]
theorem fb_orL (a b : Nat) : lN a ||| lN b = lN (a ||| b) := by
  apply Int64.toBitVec_inj.1
  show BitVec.ofNat 64 a ||| BitVec.ofNat 64 b = BitVec.ofNat 64 (a ||| b)
  apply BitVec.eq_of_getLsbD_eq
  intro i hi
  simp [hi]
theorem fb_xorL (a b : Nat) : lN a ^^^ lN b = lN (a ^^^ b) := by
  apply Int64.toBitVec_inj.1
  show BitVec.ofNat 64 a ^^^ BitVec.ofNat 64 b = BitVec.ofNat 64 (a ^^^ b)
  apply BitVec.eq_of_getLsbD_eq
  intro i hi
  simp [hi]
theorem fb_xorI (a b : Nat) : nI a ^^^ nI b = nI (a ^^^ b) := by
  apply Int32.toBitVec_inj.1
  show BitVec.ofNat 32 a ^^^ BitVec.ofNat 32 b = BitVec.ofNat 32 (a ^^^ b)
  apply BitVec.eq_of_getLsbD_eq
  intro i hi
  simp [hi]
theorem fb_maskL (n k : Nat) : lN n &&& lN (2 ^ k - 1) = lN (n % 2 ^ k) := by rw [fb_andL, Nat.and_two_pow_sub_one_eq_mod]
theorem fb_or_sumL {a k : Nat} (b : Nat) (h : a < 2 ^ k) : lN (2 ^ k * b) ||| lN a = lN (2 ^ k * b + a) := by rw [fb_orL, Nat.two_pow_add_eq_or_of_lt h]
theorem fb_lN_inj {a b : Nat} (ha : a < 2 ^ 63) (hb : b < 2 ^ 63) : lN a = lN b ↔ a = b := by
  constructor
  · intro h
    have h1 : (BitVec.ofNat 64 a).toNat = (BitVec.ofNat 64 b).toNat := congrArg (fun x : Int64 => x.toBitVec.toNat) h
    rw [BitVec.toNat_ofNat, BitVec.toNat_ofNat, Nat.mod_eq_of_lt (by omega), Nat.mod_eq_of_lt (by omega)] at h1
    exact h1
  · rintro rfl; rfl
theorem fb_bit_nat (n j : Nat) : n &&& 2 ^ j = 0 ↔ n.testBit j = false := by
  constructor
  · intro h
    have h1 : (n &&& 2 ^ j).testBit j = false := by rw [h]; simp
    rw [Nat.testBit_and] at h1
    simpa using h1
  · intro h
    apply Nat.eq_of_testBit_eq
    intro i
    rw [Nat.testBit_and]
    by_cases hi : j = i
    · subst hi; simp [h]
    · first | (simp [Nat.testBit_two_pow, hi]; done) | (simp [Nat.testBit_two_pow_of_ne hi]; done)
/-- one bit of a long -/
theorem fb_bitL {n j : Nat} (hj : j < 63) : lN n &&& lN (2 ^ j) = 0 ↔ n.testBit j = false := by
  have h2 : (2 : Nat) ^ j < 2 ^ 63 := Nat.pow_lt_pow_right (by decide) hj
  have hle : n &&& 2 ^ j ≤ 2 ^ j := Nat.and_le_right
  rw [fb_andL, ← fb_bit_nat, show (0 : Int64) = lN 0 from rfl]
  exact fb_lN_inj (by omega) (by decide)
/-- a bit set, a bit taken off -/
theorem fb_bit_set (n j i : Nat) : (n ||| 2 ^ j).testBit i = (n.testBit i || decide (i = j)) := by
  rw [Nat.testBit_or]
  by_cases h : j = i
  · subst h; simp
  · have h2 : ¬ i = j := fun e => h e.symm
    first | (simp [Nat.testBit_two_pow, h, h2]; done) | (simp [Nat.testBit_two_pow_of_ne h, h2]; done)
theorem fb_bit_flip (n j i : Nat) : (n ^^^ 2 ^ j).testBit i = (n.testBit i ^^ decide (i = j)) := by
  rw [Nat.testBit_xor]
  by_cases h : j = i
  · subst h; simp
  · have h2 : ¬ i = j := fun e => h e.symm
    first | (simp [Nat.testBit_two_pow, h, h2]; done) | (simp [Nat.testBit_two_pow_of_ne h, h2]; done)
/-! ===== a stretch of an array written over by a function ===== -/
def fb_put {α : Type} (f g : Nat → α) (a n : Nat) : Nat → α := fun k => if a ≤ k ∧ k < a + n then g (k - a) else f k
theorem fb_put_0 {α : Type} (f g : Nat → α) (a : Nat) : fb_put f g a 0 = f := funext fun k => if_neg (by omega)
theorem fb_put_in {α : Type} {f g : Nat → α} {a n k : Nat} (h1 : a ≤ k) (h2 : k < a + n) : fb_put f g a n k = g (k - a) := if_pos ⟨h1, h2⟩
theorem fb_put_out {α : Type} {f g : Nat → α} {a n k : Nat} (h : k < a ∨ a + n ≤ k) : fb_put f g a n k = f k := if_neg (by omega)
theorem fb_put_succ (f g : Nat → Int32) (a n : Nat) : upd (fb_put f g a n) (a + n) (g n) = fb_put f g a (n + 1) := by
  funext k
  by_cases h : k = a + n
  · subst h
    simp [upd, fb_put]
  · by_cases h1 : a ≤ k ∧ k < a + n
    · have h2 : a ≤ k ∧ k < a + (n + 1) := by omega
      simp only [upd, fb_put, if_neg h, if_pos h1, if_pos h2]
    · have h2 : ¬ (a ≤ k ∧ k < a + (n + 1)) := by omega
      simp only [upd, fb_put, if_neg h, if_neg h1, if_neg h2]
/-- .. from the far end down -/
theorem fb_put_down (f g : Nat → Int32) {a n m : Nat} (h : m < n) : upd (fb_put f (fun k => g (k + (m + 1))) (a + (m + 1)) (n - (m + 1))) (a + m) (g m) = fb_put f (fun k => g (k + m)) (a + m) (n - m) := by
  funext k
  by_cases h0 : k = a + m
  · subst h0
    simp only [upd, if_true]
    rw [fb_put_in (by omega) (by omega)]
    exact congrArg g (by omega)
  · simp only [upd, if_neg h0]
    by_cases h1 : a + (m + 1) ≤ k ∧ k < a + (m + 1) + (n - (m + 1))
    · rw [fb_put_in h1.1 h1.2, fb_put_in (by omega) (by omega)]
      exact congrArg g (by omega)
    · rw [fb_put_out (by omega), fb_put_out (by omega)]
theorem fb_put_cong {α : Type} {f f2 g g2 : Nat → α} {a n : Nat} (hf : ∀ k, (k < a ∨ a + n ≤ k) → f k = f2 k) (hg : ∀ k, k < n → g k = g2 k) : fb_put f g a n = fb_put f2 g2 a n := by
  funext k
  by_cases h : a ≤ k ∧ k < a + n
  · rw [fb_put_in h.1 h.2, fb_put_in h.1 h.2, hg _ (by omega)]
  · rw [fb_put_out (by omega), fb_put_out (by omega), hf _ (by omega)]
/-! ===== the least, the first, the best so far; that there is one alone ===== -/
theorem fb_first {p : Nat → Prop} [DecidablePred p] : ∀ {n : Nat}, (∃ i, i < n ∧ p i) → ∃ i, i < n ∧ p i ∧ ∀ j, j < i → ¬ p j
  | 0, h => by obtain ⟨i, hi, -⟩ := h; exact absurd hi (Nat.not_lt_zero i)
  | n + 1, h => by
    by_cases q : ∃ i, i < n ∧ p i
    · obtain ⟨i, h1, h2⟩ := fb_first q
      exact ⟨i, by omega, h2⟩
    · obtain ⟨i, h1, h2⟩ := h
      have e : i = n := by
        rcases Nat.lt_or_ge i n with r | r
        · exact absurd ⟨i, r, h2⟩ q
        · omega
      subst e
      exact ⟨i, by omega, h2, fun j hj hp => q ⟨j, hj, hp⟩⟩
theorem fb_first_one {p : Nat → Prop} {i j : Nat} (hi : p i) (hi2 : ∀ k, k < i → ¬ p k) (hj : p j) (hj2 : ∀ k, k < j → ¬ p k) : i = j := by
  rcases Nat.lt_trichotomy i j with q | q | q
  · exact absurd hi (hj2 i q)
  · exact q
  · exact absurd hj (hi2 j q)
theorem fb_last {p : Nat → Prop} [DecidablePred p] : ∀ {n : Nat}, (∃ i, i < n ∧ p i) → ∃ i, i < n ∧ p i ∧ ∀ j, i < j → j < n → ¬ p j
  | 0, h => by obtain ⟨i, hi, -⟩ := h; exact absurd hi (Nat.not_lt_zero i)
  | n + 1, h => by
    by_cases q : p n
    · exact ⟨n, by omega, q, fun j h1 h2 => by omega⟩
    · obtain ⟨i, h1, h2⟩ := h
      have hi : i < n := by
        rcases Nat.lt_or_ge i n with r | r
        · exact r
        · have e : i = n := by omega
          subst e
          exact absurd h2 q
      obtain ⟨i2, a1, a2, a3⟩ := fb_last (n := n) ⟨i, hi, h2⟩
      refine ⟨i2, by omega, a2, fun j b1 b2 => ?_⟩
      rcases Nat.lt_or_ge j n with r | r
      · exact a3 j b1 r
      · have e : j = n := by omega
        subst e
        exact q
/-- the first greatest -/
theorem fb_best (f : Nat → Int) : ∀ {n : Nat}, 0 < n → ∃ i, i < n ∧ (∀ j, j < n → f j ≤ f i) ∧ ∀ j, j < i → f j < f i
  | 0, h => absurd h (Nat.lt_irrefl 0)
  | 1, _ => ⟨0, by omega, fun j hj => by have e : j = 0 := by omega
                                         subst e; exact Int.le_refl _, fun j hj => absurd hj (Nat.not_lt_zero j)⟩
  | n + 2, _ => by
    obtain ⟨i, h1, h2, h3⟩ := fb_best f (n := n + 1) (by omega)
    by_cases q : f i < f (n + 1)
    · refine ⟨n + 1, by omega, fun j hj => ?_, fun j hj => ?_⟩
      · rcases Nat.lt_or_ge j (n + 1) with r | r
        · have := h2 j r; omega
        · have e : j = n + 1 := by omega
          subst e; exact Int.le_refl _
      · have := h2 j hj; omega
    · refine ⟨i, by omega, fun j hj => ?_, h3⟩
      rcases Nat.lt_or_ge j (n + 1) with r | r
      · exact h2 j r
      · have e : j = n + 1 := by omega
        subst e; omega
theorem fb_best_one {f : Nat → Int} {n i j : Nat} (hi : i < n) (hi2 : ∀ k, k < n → f k ≤ f i) (hi3 : ∀ k, k < i → f k < f i) (hj : j < n) (hj2 : ∀ k, k < n → f k ≤ f j) (hj3 : ∀ k, k < j → f k < f j) : i = j := by
  rcases Nat.lt_trichotomy i j with q | q | q
  · have a := hj3 i q
    have b := hi2 j hj
    omega
  · exact q
  · have a := hi3 j q
    have b := hj2 i hi
    omega
/-- the first least -/
theorem fb_low (f : Nat → Int) {n : Nat} (h : 0 < n) : ∃ i, i < n ∧ (∀ j, j < n → f i ≤ f j) ∧ ∀ j, j < i → f i < f j := by
  obtain ⟨i, h1, h2, h3⟩ := fb_best (fun k => -f k) h
  exact ⟨i, h1, fun j hj => by have := h2 j hj; omega, fun j hj => by have := h3 j hj; omega⟩
/-! ===== signed ints as whole numbers, within bounds ===== -/
theorem fb_rng (x : Int32) : -2147483648 ≤ x.toInt ∧ x.toInt < 2147483648 := by
  have h1 := Int32.le_toInt x
  have h2 := Int32.toInt_lt x
  omega
theorem fb_bmod {z : Int} (h1 : -2147483648 ≤ z) (h2 : z < 2147483648) : z.bmod (2 ^ 32) = z := by
  rw [Int.bmod_eq_of_le (by omega) (by omega)]
theorem fb_addI {x y : Int32} (h1 : -2147483648 ≤ x.toInt + y.toInt) (h2 : x.toInt + y.toInt < 2147483648) : (x + y).toInt = x.toInt + y.toInt := by
  rw [Int32.toInt_add, fb_bmod h1 h2]
theorem fb_subI {x y : Int32} (h1 : -2147483648 ≤ x.toInt - y.toInt) (h2 : x.toInt - y.toInt < 2147483648) : (x - y).toInt = x.toInt - y.toInt := by
  rw [Int32.toInt_sub, fb_bmod h1 h2]
theorem fb_mulI {x y : Int32} (h1 : -2147483648 ≤ x.toInt * y.toInt) (h2 : x.toInt * y.toInt < 2147483648) : (x * y).toInt = x.toInt * y.toInt := by
  rw [Int32.toInt_mul, fb_bmod h1 h2]
theorem fb_negI {x : Int32} (h : x.toInt ≠ -2147483648) : (-x).toInt = -x.toInt := by
  have := fb_rng x
  rw [Int32.toInt_neg, fb_bmod (by omega) (by omega)]
theorem fb_ofI {z : Int} (h1 : -2147483648 ≤ z) (h2 : z < 2147483648) : (Int32.ofInt z).toInt = z := by
  rw [Int32.toInt_ofInt, fb_bmod h1 h2]
theorem fb_asI (x : Int32) : Int32.ofInt x.toInt = x := Int32.ofInt_toInt x
theorem fb_rngL (x : Int64) : -9223372036854775808 ≤ x.toInt ∧ x.toInt < 9223372036854775808 := by
  have h1 := Int64.le_toInt x
  have h2 := Int64.toInt_lt x
  omega
theorem fb_bmodL {z : Int} (h1 : -9223372036854775808 ≤ z) (h2 : z < 9223372036854775808) : z.bmod (2 ^ 64) = z := by
  rw [Int.bmod_eq_of_le (by omega) (by omega)]
theorem fb_addL {x y : Int64} (h1 : -9223372036854775808 ≤ x.toInt + y.toInt) (h2 : x.toInt + y.toInt < 9223372036854775808) : (x + y).toInt = x.toInt + y.toInt := by
  rw [Int64.toInt_add, fb_bmodL h1 h2]
theorem fb_subL {x y : Int64} (h1 : -9223372036854775808 ≤ x.toInt - y.toInt) (h2 : x.toInt - y.toInt < 9223372036854775808) : (x - y).toInt = x.toInt - y.toInt := by
  rw [Int64.toInt_sub, fb_bmodL h1 h2]
theorem fb_mulL {x y : Int64} (h1 : -9223372036854775808 ≤ x.toInt * y.toInt) (h2 : x.toInt * y.toInt < 9223372036854775808) : (x * y).toInt = x.toInt * y.toInt := by
  rw [Int64.toInt_mul, fb_bmodL h1 h2]
/-! ===== cuts of what is narrow already ===== -/
theorem fb_byte {x : Int32} (h1 : -128 ≤ x.toInt) (h2 : x.toInt < 128) : x.toInt8.toInt32 = x := by
  apply Int32.toInt_inj.1
  rw [Int8.toInt_toInt32, Int32.toInt_toInt8, Int.bmod_eq_of_le (by omega) (by omega)]
theorem fb_short {x : Int32} (h1 : -32768 ≤ x.toInt) (h2 : x.toInt < 32768) : x.toInt16.toInt32 = x := by
  apply Int32.toInt_inj.1
  rw [Int16.toInt_toInt32, Int32.toInt_toInt16, Int.bmod_eq_of_le (by omega) (by omega)]
theorem fb_byte_rng (x : Int32) : -128 ≤ x.toInt8.toInt32.toInt ∧ x.toInt8.toInt32.toInt < 128 := by
  rw [Int8.toInt_toInt32]
  have h1 := Int8.le_toInt x.toInt8
  have h2 := Int8.toInt_lt x.toInt8
  omega
theorem fb_short_rng (x : Int32) : -32768 ≤ x.toInt16.toInt32.toInt ∧ x.toInt16.toInt32.toInt < 32768 := by
  rw [Int16.toInt_toInt32]
  have h1 := Int16.le_toInt x.toInt16
  have h2 := Int16.toInt_lt x.toInt16
  omega
theorem fb_byte_twice (x : Int32) : x.toInt8.toInt32.toInt8.toInt32 = x.toInt8.toInt32 := fb_byte (fb_byte_rng x).1 (fb_byte_rng x).2
theorem fb_short_twice (x : Int32) : x.toInt16.toInt32.toInt16.toInt32 = x.toInt16.toInt32 := fb_short (fb_short_rng x).1 (fb_short_rng x).2
theorem fb_char {n : Nat} (h : n < 65536) : (nI n).toUInt32.toUInt16.toUInt32.toInt32 = nI n := by
  apply Int32.toBitVec_inj.1
  apply BitVec.eq_of_toNat_eq
  have e1 : (nI n).toBitVec.toNat = n := by
    show (BitVec.ofNat 32 n).toNat = n
    rw [BitVec.toNat_ofNat, Nat.mod_eq_of_lt (by omega)]
  have e2 : ((nI n).toUInt32.toUInt16.toUInt32).toNat = n := by
    rw [UInt16.toNat_toUInt32, UInt32.toNat_toUInt16]
    show (nI n).toBitVec.toNat % 2 ^ 16 = n
    rw [e1, Nat.mod_eq_of_lt (by omega)]
  rw [e1]
  exact e2
end
section
/-! rules of the deep machine, for runs -/
section DXR
variable {d : Nat} {C : Nat → List Value → dx_M → (Option Value → dx_M → Prop) → Prop} {lay : List dx_Cell} {K : dx_K} {Z : Option Value → dx_M → Prop} {pc : Nat} {L t : List Value} {m : dx_M} {k n : Nat} {rs : List Nat} {r : dx_I}
theorem dx_row (h : dx_look K.2.1 pc = some r) (st : List Value) : dx_stp lay K (pc, L, st, m) = dx_ex lay r pc L st m := by simp [dx_stp, h]
theorem dx_inN {e n : Nat} (he : e < n) (hn : n < 2147483648) : ¬ (nI e < 0 ∨ n ≤ (nI e).toNatClampNeg) := vp_in_nI he hn
theorem dx_clN {e n : Nat} (he : e < n) (hn : n < 2147483648) : (nI e).toNatClampNeg = e := nI_clamp (Nat.lt_trans he hn)
theorem dx_aldN (e : Nat) {x : Int32} (hrow : dx_look K.2.1 pc = some r) (hr : r.1 = .iaload) (hl : lay[k]? = some (.inr (0, n, rs))) (hi : x = nI e) (he : e < n) (kk : dx_Go d C lay K Z (pc + 1, L, .int (m.1 k e) :: t, m)) (hn : n < 2147483648 := by decide) : dx_Go d C lay K Z (pc, L, .int x :: .ref k :: t, m) := by
  subst hi
  refine dx_step (c' := (pc + 1, L, .int (m.1 k e) :: t, m)) ?_ kk
  rw [dx_row hrow]
  unfold dx_ex
  rw [hr]
  simp only [dx_ald, hl]
  rw [if_pos (dx_inN he hn), dx_clN he hn]
theorem dx_bldN (e : Nat) {x : Int32} (hrow : dx_look K.2.1 pc = some r) (hr : r.1 = .baload) (hl : lay[k]? = some (.inr (1, n, rs)) ∨ lay[k]? = some (.inr (2, n, rs))) (hi : x = nI e) (he : e < n) (kk : dx_Go d C lay K Z (pc + 1, L, .int (m.1 k e) :: t, m)) (hn : n < 2147483648 := by decide) : dx_Go d C lay K Z (pc, L, .int x :: .ref k :: t, m) := by
  subst hi
  refine dx_step (c' := (pc + 1, L, .int (m.1 k e) :: t, m)) ?_ kk
  rw [dx_row hrow]
  unfold dx_ex
  rw [hr]
  rcases hl with hl | hl
  · simp only [dx_bld, hl]
    rw [if_pos (dx_inN he hn), dx_clN he hn]
  · simp only [dx_bld, hl]
    rw [if_pos (dx_inN he hn), dx_clN he hn]
theorem dx_astN (e : Nat) {x v : Int32} (hrow : dx_look K.2.1 pc = some r) (hr : r.1 = .iastore) (hl : lay[k]? = some (.inr (0, n, rs))) (hi : x = nI e) (he : e < n) (kk : dx_Go d C lay K Z (pc + 1, L, t, dx_pI m k e v)) (hn : n < 2147483648 := by decide) : dx_Go d C lay K Z (pc, L, .int v :: .int x :: .ref k :: t, m) := by
  subst hi
  refine dx_step (c' := (pc + 1, L, t, dx_pI m k e v)) ?_ kk
  rw [dx_row hrow]
  unfold dx_ex
  rw [hr]
  simp only [dx_ast, hl]
  rw [if_pos (dx_inN he hn), dx_clN he hn]
theorem dx_bstB (e : Nat) {x v : Int32} (hrow : dx_look K.2.1 pc = some r) (hr : r.1 = .bastore) (hl : lay[k]? = some (.inr (1, n, rs))) (hi : x = nI e) (he : e < n) (kk : dx_Go d C lay K Z (pc + 1, L, t, dx_pI m k e v.toInt8.toInt32)) (hn : n < 2147483648 := by decide) : dx_Go d C lay K Z (pc, L, .int v :: .int x :: .ref k :: t, m) := by
  subst hi
  refine dx_step (c' := (pc + 1, L, t, dx_pI m k e v.toInt8.toInt32)) ?_ kk
  rw [dx_row hrow]
  unfold dx_ex
  rw [hr]
  simp only [dx_bst, hl]
  rw [if_pos (dx_inN he hn), dx_clN he hn, vp_nar_byte]
theorem dx_bstZ (e : Nat) {x v : Int32} (hrow : dx_look K.2.1 pc = some r) (hr : r.1 = .bastore) (hl : lay[k]? = some (.inr (2, n, rs))) (hi : x = nI e) (he : e < n) (hv : v = 0 ∨ v = 1) (kk : dx_Go d C lay K Z (pc + 1, L, t, dx_pI m k e v)) (hn : n < 2147483648 := by decide) : dx_Go d C lay K Z (pc, L, .int v :: .int x :: .ref k :: t, m) := by
  subst hi
  refine dx_step (c' := (pc + 1, L, t, dx_pI m k e v)) ?_ kk
  rw [dx_row hrow]
  unfold dx_ex
  rw [hr]
  simp only [dx_bst, hl]
  rw [if_pos (dx_inN he hn), dx_clN he hn]
  rcases hv with rfl | rfl <;> rfl
theorem dx_aadN (e : Nat) {x : Int32} {q : Nat} (hrow : dx_look K.2.1 pc = some r) (hr : r.1 = .aaload) (hl : lay[k]? = some (.inr (3, n, rs)) ∨ lay[k]? = some (.inr (4, n, rs))) (hi : x = nI e) (he : e < n) (hq : rs[e]? = some q) (kk : dx_Go d C lay K Z (pc + 1, L, .ref q :: t, m)) (hn : n < 2147483648 := by decide) : dx_Go d C lay K Z (pc, L, .int x :: .ref k :: t, m) := by
  subst hi
  refine dx_step (c' := (pc + 1, L, .ref q :: t, m)) ?_ kk
  rw [dx_row hrow]
  unfold dx_ex
  rw [hr]
  rcases hl with hl | hl
  · simp only [dx_aad, hl, dx_rld]
    rw [if_pos (dx_inN he hn), dx_clN he hn, hq]
  · simp only [dx_aad, hl, dx_rld]
    rw [if_pos (dx_inN he hn), dx_clN he hn, hq]
theorem dx_getS {a b x : Nat} {fl : List (Nat × Nat)} {v : Value} (hrow : dx_look K.2.1 pc = some r) (hr : r.1 = .getfield x) (ha : r.2.2.2.1 = a) (hb : r.2.2.2.2.1 = b) (hl : lay[k]? = some (.inl (a, fl))) (hf : dx_fld m k b fl[b]? = some v) (kk : dx_Go d C lay K Z (pc + 3, L, v :: t, m)) : dx_Go d C lay K Z (pc, L, .ref k :: t, m) := by
  subst ha; subst hb
  refine dx_step (c' := (pc + 3, L, v :: t, m)) ?_ kk
  rw [dx_row hrow]
  unfold dx_ex
  rw [hr]
  simp only [dx_get, hl, Nat.beq_refl, hf]
theorem dx_putS {a b x : Nat} {fl : List (Nat × Nat)} {q : Nat} {v : Int32} (hrow : dx_look K.2.1 pc = some r) (hr : r.1 = .putfield x) (ha : r.2.2.2.1 = a) (hb : r.2.2.2.2.1 = b) (hl : lay[k]? = some (.inl (a, fl))) (hf : fl[b]? = some (0, q) ∨ (fl[b]? = some (1, q) ∧ (v = 0 ∨ v = 1))) (kk : dx_Go d C lay K Z (pc + 3, L, t, dx_pI m k b v)) : dx_Go d C lay K Z (pc, L, .int v :: .ref k :: t, m) := by
  subst ha; subst hb
  refine dx_step (c' := (pc + 3, L, t, dx_pI m k r.2.2.2.2.1 v)) ?_ kk
  rw [dx_row hrow]
  unfold dx_ex
  rw [hr]
  rcases hf with hf | ⟨hf, hv⟩
  · simp only [dx_put, hl, Nat.beq_refl, hf]
  · simp only [dx_put, hl, Nat.beq_refl, hf]
    rw [if_pos hv]
theorem dx_nmI {x : Int32} {st : List Value} (h : ∀ y : Int32, y = x → dx_Go d C lay K Z (pc, L, .int y :: st, m)) : dx_Go d C lay K Z (pc, L, .int x :: st, m) := h x rfl
theorem dx_nmL {x : Int64} {st : List Value} (h : ∀ y : Int64, y = x → dx_Go d C lay K Z (pc, L, .long y :: st, m)) : dx_Go d C lay K Z (pc, L, .long x :: st, m) := h x rfl
theorem dx_sp {q : Prop} [Decidable q] {a b : Nat} {st : List Value} (kt : q → dx_Go d C lay K Z (a, L, st, m)) (kf : ¬ q → dx_Go d C lay K Z (b, L, st, m)) : dx_Go d C lay K Z (if q then a else b, L, st, m) := by
  by_cases h : q
  · rw [if_pos h]; exact kt h
  · rw [if_neg h]; exact kf h
/-- the memory may be told otherwise -/
theorem dx_mem {m' : dx_M} {st : List Value} (e : m = m') (k : dx_Go d C lay K Z (pc, L, st, m')) : dx_Go d C lay K Z (pc, L, st, m) := e ▸ k
end DXR
/-- f, n times: at 0, 1, .. n - 1 -/
def nf {σ : Type} (f : Nat → σ → σ) : Nat → σ → σ
  | 0, s => s
  | n + 1, s => f n (nf f n s)
theorem nf_succ {σ : Type} (f : Nat → σ → σ) (n : Nat) (s : σ) : nf f (n + 1) s = f n (nf f n s) := rfl
/-- a loop that counts from 0 to N -/
theorem dx_for {σ : Type} {G : dx_F → Prop} (c : Nat → σ → dx_F) (f : Nat → σ → σ) (I : Nat → σ → Prop) (N : Nat) (s : σ) (h0 : I 0 s) (hs : ∀ i s, i < N → I i s → G (c (i + 1) (f i s)) → G (c i s)) (hi : ∀ i s, i < N → I i s → I (i + 1) (f i s)) (hk : I N (nf f N s) → G (c N (nf f N s))) : G (c 0 s) := by
  have key : ∀ k, k ≤ N → (I k (nf f k s)) ∧ (G (c k (nf f k s)) → G (c 0 s)) := by
    intro k
    induction k with
    | zero => exact fun _ => ⟨h0, fun h => h⟩
    | succ k ih =>
      intro hk
      obtain ⟨h1, h2⟩ := ih (by omega)
      exact ⟨hi k _ (by omega) h1, fun h => h2 (hs k _ (by omega) h1 h)⟩
  exact (key N (Nat.le_refl N)).2 (hk (key N (Nat.le_refl N)).1)
theorem nf_cong {σ : Type} {f g : Nat → σ → σ} {n : Nat} (s : σ) (h : ∀ i s, i < n → f i s = g i s) : nf f n s = nf g n s := by
  induction n with
  | zero => rfl
  | succ n ih => rw [nf_succ, nf_succ, ih (fun i s hi => h i s (by omega)), h n _ (by omega)]
theorem nI_geI {a b : Nat} (ha : a < 2 ^ 31) (hb : b < 2 ^ 31) : (nI a ≤ nI b) = (a ≤ b) := propext (nI_leI ha hb)
/-- a ≤ n ≤ b, as the programs ask it -/
def inI (n a b : Int32) : Bool := decide (a ≤ n) && decide (n ≤ b)
theorem inI_t {n a b : Int32} : inI n a b = true ↔ a ≤ n ∧ n ≤ b := by simp [inI]
theorem inI_f {n a b : Int32} : inI n a b = false ↔ ¬ (a ≤ n ∧ n ≤ b) := by rw [← inI_t]; simp
def bI (b : Bool) : Int32 := if b then 1 else 0
theorem bI_t {b : Bool} (h : b = true) : bI b = 1 := by rw [h]; rfl
theorem bI_f {b : Bool} (h : b = false) : bI b = 0 := by rw [h]; rfl
theorem bI_01 (b : Bool) : bI b = 0 ∨ bI b = 1 := by cases b <;> simp [bI]
theorem inI_lt {n a b : Int32} (h : n < a) : inI n a b = false := inI_f.mpr (by rw [fa_le, fa_le]; rw [fa_lt] at h; omega)
theorem inI_gt {n a b : Int32} (h : b < n) : inI n a b = false := inI_f.mpr (by rw [fa_le, fa_le]; rw [fa_lt] at h; omega)
theorem inI_in {n a b : Int32} (h : ¬ n < a) (h2 : ¬ b < n) : inI n a b = true := inI_t.mpr (by rw [fa_le, fa_le]; rw [fa_lt] at h h2; omega)
theorem bI_ne {b : Bool} (h : ¬ bI b = 0) : b = true := by cases b <;> simp_all [bI]
theorem bI_eq {b : Bool} (h : bI b = 0) : b = false := by cases b <;> simp_all [bI]
/-- a loop that counts from 0 to N, its frame told by the count alone -/
theorem dx_for0 {G : dx_F → Prop} (c : Nat → dx_F) (N : Nat) (hs : ∀ i, i < N → G (c (i + 1)) → G (c i)) (hk : G (c N)) : G (c 0) := by
  have key : ∀ k, k ≤ N → G (c k) → G (c 0) := by
    intro k
    induction k with
    | zero => exact fun _ h => h
    | succ k ih => exact fun hk h => ih (by omega) (hs k (by omega) h)
  exact key N (Nat.le_refl N) hk
theorem dx_pI_pR (m : dx_M) (k j : Nat) (f : Nat → Int32) (v : Int32) : dx_pI (dx_pR m k f) k j v = dx_pR m k (upd f j v) := by
  unfold dx_pI dx_pR
  refine Prod.ext (funext fun a => ?_) rfl
  by_cases h : a = k <;> simp [h]
theorem dx_pR_pR (m : dx_M) (k : Nat) (f g : Nat → Int32) : dx_pR (dx_pR m k f) k g = dx_pR m k g := by
  unfold dx_pR
  refine Prod.ext (funext fun a => ?_) rfl
  by_cases h : a = k <;> simp [h]
theorem dx_pR_self (m : dx_M) (k : Nat) : dx_pR m k (m.1 k) = m := by
  unfold dx_pR
  refine Prod.ext (funext fun a => ?_) rfl
  by_cases h : a = k <;> simp [h]
theorem nI_ix (b a : Nat) : nI b * 12 + nI a = nI (b * 12 + a) := by
  rw [show (12 : Int32) = nI 12 from rfl, pk_mul, nI_add]
theorem nI_ix2 (b a : Nat) : 12 * nI b + nI a = nI (12 * b + a) := by
  rw [show (12 : Int32) = nI 12 from rfl, pk_mul, nI_add]
section DXB
variable {d : Nat} {C : Nat → List Value → dx_M → (Option Value → dx_M → Prop) → Prop} {lay : List dx_Cell} {K : dx_K} {Z : Option Value → dx_M → Prop} {c : dx_F} {a b : Nat} {L st : List Value} {m : dx_M}
/-- a branch on a truth value -/
theorem dx_brB {B : Bool} (h : dx_stp lay K c = some (if bI B = 0 then a else b, L, st, m)) (kt : B = false → dx_Go d C lay K Z (a, L, st, m)) (kf : B = true → dx_Go d C lay K Z (b, L, st, m)) : dx_Go d C lay K Z c :=
  dx_br h (fun q => kt (bI_eq q)) (fun q => kf (bI_ne q))
/-- a branch, its question told otherwise -/
theorem dx_brQ {q q' : Prop} [Decidable q] (e : q ↔ q') (h : dx_stp lay K c = some (if q then a else b, L, st, m)) (kt : q' → dx_Go d C lay K Z (a, L, st, m)) (kf : ¬ q' → dx_Go d C lay K Z (b, L, st, m)) : dx_Go d C lay K Z c :=
  dx_br h (fun z => kt (e.mp z)) (fun z => kf (fun y => z (e.mpr y)))
end DXB
theorem lc_eq (x y : Int64) : lg_cmp x y = 0 ↔ x = y := by
  unfold lg_cmp
  by_cases h : x > y
  · rw [if_pos h]
    exact ⟨fun q => absurd q (by decide), fun q => by subst q; exact absurd (Int64.lt_iff_toInt_lt.mp h) (Int.lt_irrefl _)⟩
  · rw [if_neg h]
    by_cases h2 : x = y
    · rw [if_pos h2]; exact ⟨fun _ => h2, fun _ => rfl⟩
    · rw [if_neg h2]; exact ⟨fun q => absurd q (by decide), fun q => absurd q h2⟩
theorem lc_ge (x y : Int64) : 0 ≤ lg_cmp x y ↔ y ≤ x := lg_cmp_ge x y
theorem lc_le (x y : Int64) : lg_cmp x y ≤ 0 ↔ x ≤ y := lg_cmp_le x y
theorem lc_lt (x y : Int64) : lg_cmp x y < 0 ↔ x < y := by
  have h := lg_cmp_ge x y
  rw [fa_lt, fa_lt64]
  rw [fa_le, fa_le64] at h
  have e : (0 : Int32).toInt = 0 := rfl
  omega
theorem lc_gt (x y : Int64) : 0 < lg_cmp x y ↔ y < x := by
  have h := lg_cmp_le x y
  rw [fa_lt, fa_lt64]
  rw [fa_le, fa_le64] at h
  have e : (0 : Int32).toInt = 0 := rfl
  omega
theorem dx_rd {m : dx_M} {k i : Nat} {f : Nat → Int32} (h : i ≠ k) (j : Nat) : (dx_pR m k f).1 i j = m.1 i j := by
  show (if i = k then f else m.1 i) j = m.1 i j
  rw [if_neg h]
theorem dx_rdI {m : dx_M} {k i b : Nat} {v : Int32} (h : i ≠ k) (j : Nat) : (dx_pI m k b v).1 i j = m.1 i j := dx_rd h j
/-- a call on a cell that is told by a number -/
theorem dx_clV {lay : List dx_Cell} {K : dx_K} {pc : Nat} {L st as rest : List Value} {m : dx_M} {r : dx_I} {x k ci id : Nat} {fl : List (Nat × Nat)} (hrow : dx_look K.2.1 pc = some r) (hr : r.1 = .invokevirtual x) (ha : r.2.2.2.1 = 1) (hv : r.2.2.1 = .ref ci) (hl : lay[k]? = some (.inl (ci, fl))) (hid : r.2.2.2.2.1 = id) (hst : st = as.reverse ++ .ref k :: rest) (hn : r.2.2.2.2.2.1 = as.length) (hs : (rest.map fun v => v.category).sum ≤ 8) : dx_cl lay K (pc, L, st, m) = some (id, .ref k :: as, rest) := by
  subst hst
  subst hid
  have e1 : (as.reverse ++ Value.ref k :: rest).drop as.length = .ref k :: rest := by
    rw [List.drop_append_of_le_length (by simp)]
    simp
  have e2 : (as.reverse ++ Value.ref k :: rest).take as.length = as.reverse := by
    rw [List.take_append_of_le_length (by simp)]
    exact List.take_of_length_le (by simp)
  simp only [dx_cl, hrow, dx_cx, hr, ha, dx_cV, hn, e1, e2, hv, hl]
  rw [if_pos ⟨trivial, by simp, hs⟩, List.reverse_reverse]
end
section
/-! what is known of the locals may be forgotten -/
def dx_Le : List Value → List Value → Prop
  | [], [] => True
  | a :: s, b :: t => (a = .null ∨ a = b) ∧ dx_Le s t
  | _, _ => False
theorem dx_Le_rf : ∀ L : List Value, dx_Le L L
  | [] => trivial
  | _ :: t => ⟨Or.inr rfl, dx_Le_rf t⟩
theorem dx_Le_ld : ∀ {L' L : List Value} (i : Nat) {v : Value}, dx_Le L' L → dx_ld L' i = v → v ≠ .null → dx_ld L i = v
  | [], [], _, _, _, h, _ => h
  | a :: s, b :: t, 0, v, hl, h, hv => by
    rcases hl.1 with e | e
    · exact absurd (h.symm.trans e) hv
    · exact e ▸ h
  | a :: s, b :: t, n + 1, v, hl, h, hv => dx_Le_ld n hl.2 h hv
theorem dx_Le_len : ∀ {L' L : List Value}, dx_Le L' L → L'.length = L.length
  | [], [], _ => rfl
  | _ :: _, _ :: _, h => congrArg Nat.succ (dx_Le_len h.2)
theorem dx_Le_kill {a b : Value} (h : a = .null ∨ a = b) : dx_kill a = .null ∨ dx_kill a = dx_kill b := by
  rcases h with rfl | rfl
  · exact Or.inl rfl
  · exact Or.inr rfl
theorem dx_Le_st1 : ∀ {L' L : List Value} (i : Nat) (v : Value), dx_Le L' L → dx_Le (dx_st1 L' i v) (dx_st1 L i v)
  | [], [], _, _, h => h
  | _ :: _, _ :: _, 0, _, h => ⟨Or.inr rfl, h.2⟩
  | _ :: _, _ :: _, 1, v, h => ⟨dx_Le_kill h.1, dx_Le_st1 0 v h.2⟩
  | _ :: _, _ :: _, n + 2, v, h => ⟨h.1, dx_Le_st1 (n + 1) v h.2⟩
theorem dx_Le_tl0 : ∀ {L' L : List Value}, dx_Le L' L → dx_Le (dx_tl0 L') (dx_tl0 L)
  | [], [], h => h
  | _ :: _, _ :: _, h => ⟨Or.inr rfl, h.2⟩
theorem dx_Le_st2 : ∀ {L' L : List Value} (i : Nat) (v : Value), dx_Le L' L → dx_Le (dx_st2 L' i v) (dx_st2 L i v)
  | [], [], _, _, h => h
  | _ :: _, _ :: _, 0, _, h => ⟨Or.inr rfl, dx_Le_tl0 h.2⟩
  | _ :: _, _ :: _, 1, v, h => ⟨dx_Le_kill h.1, dx_Le_st2 0 v h.2⟩
  | _ :: _, _ :: _, n + 2, v, h => ⟨h.1, dx_Le_st2 (n + 1) v h.2⟩
/-- a step that only carries the locals along -/
def dx_car (f : List Value → Option dx_F) : Prop := ∀ (L' L : List Value) (c' : dx_F), f L' = some c' → c'.2.1 = L' ∧ f L = some (c'.1, L, c'.2.2.1, c'.2.2.2)
theorem dx_car_bI (g : Int32 → Int32 → Int32) (pc : Nat) (st : List Value) (m : dx_M) : dx_car (fun L => dx_bI g pc L st m) := by
  intro L' L c' h
  unfold dx_bI at h ⊢
  split at h
  · cases h; exact ⟨rfl, rfl⟩
  · cases h
theorem dx_car_bL (g : Int64 → Int64 → Int64) (pc : Nat) (st : List Value) (m : dx_M) : dx_car (fun L => dx_bL g pc L st m) := by
  intro L' L c' h
  unfold dx_bL at h ⊢
  split at h
  · cases h; exact ⟨rfl, rfl⟩
  · cases h
theorem dx_ife {α : Type} {q : Prop} [Decidable q] {x y : α} (h : (if q then some x else none) = some y) : q ∧ y = x := by
  by_cases hq : q
  · rw [if_pos hq] at h; exact ⟨hq, (Option.some.inj h).symm⟩
  · rw [if_neg hq] at h; cases h
theorem dx_car_dI (g : Int32 → Int32 → Int32) (pc : Nat) (st : List Value) (m : dx_M) : dx_car (fun L => dx_dI g pc L st m) := by
  intro L' L c' h
  unfold dx_dI at h ⊢
  split at h
  · obtain ⟨h1, rfl⟩ := dx_ife h
    exact ⟨rfl, if_pos h1⟩
  · cases h
theorem dx_car_dL (g : Int64 → Int64 → Int64) (pc : Nat) (st : List Value) (m : dx_M) : dx_car (fun L => dx_dL g pc L st m) := by
  intro L' L c' h
  unfold dx_dL at h ⊢
  split at h
  · obtain ⟨h1, rfl⟩ := dx_ife h
    exact ⟨rfl, if_pos h1⟩
  · cases h
theorem dx_car_if1 (g : Int32 → Nat) (st : List Value) (m : dx_M) : dx_car (fun L => dx_if1 g L st m) := by
  intro L' L c' h
  unfold dx_if1 at h ⊢
  split at h
  · cases h; exact ⟨rfl, rfl⟩
  · cases h
theorem dx_car_if2 (g : Int32 → Int32 → Nat) (st : List Value) (m : dx_M) : dx_car (fun L => dx_if2 g L st m) := by
  intro L' L c' h
  unfold dx_if2 at h ⊢
  split at h
  · cases h; exact ⟨rfl, rfl⟩
  · cases h
theorem dx_car_unI (g : Int32 → Value) (pc : Nat) (st : List Value) (m : dx_M) : dx_car (fun L => dx_unI g pc L st m) := by
  intro L' L c' h
  unfold dx_unI at h ⊢
  split at h
  · cases h; exact ⟨rfl, rfl⟩
  · cases h
theorem dx_car_unL (g : Int64 → Value) (pc : Nat) (st : List Value) (m : dx_M) : dx_car (fun L => dx_unL g pc L st m) := by
  intro L' L c' h
  unfold dx_unL at h ⊢
  split at h
  · cases h; exact ⟨rfl, rfl⟩
  · cases h
theorem dx_car_lcm (pc : Nat) (st : List Value) (m : dx_M) : dx_car (fun L => dx_lcm pc L st m) := by
  intro L' L c' h
  unfold dx_lcm at h ⊢
  split at h
  · cases h; exact ⟨rfl, rfl⟩
  · cases h
theorem dx_car_dup (pc : Nat) (st : List Value) (m : dx_M) : dx_car (fun L => dx_dup pc L st m) := by
  intro L' L c' h
  unfold dx_dup at h ⊢
  split at h
  · cases h; exact ⟨rfl, rfl⟩
  · cases h; exact ⟨rfl, rfl⟩
  · cases h
theorem dx_car_dup2 (pc : Nat) (st : List Value) (m : dx_M) : dx_car (fun L => dx_dup2 pc L st m) := by
  intro L' L c' h
  unfold dx_dup2 at h ⊢
  split at h
  · cases h; exact ⟨rfl, rfl⟩
  · cases h
theorem dx_car_get (lay : List dx_Cell) (a b pc : Nat) (st : List Value) (m : dx_M) : dx_car (fun L => dx_get lay a b pc L st m) := by
  intro L' L c' h
  dsimp only at h ⊢
  unfold dx_get at h ⊢
  split at h
  · try dsimp only
    split at h
    · next e =>
      try rw [e]
      try dsimp only
      split at h
      · next e2 =>
        try rw [e2]
        try dsimp only
        split at h
        · next e3 => (try rw [e3]); cases h; exact ⟨rfl, rfl⟩
        · cases h
      · cases h
    · cases h
  · cases h
theorem dx_car_put (lay : List dx_Cell) (a b pc : Nat) (st : List Value) (m : dx_M) : dx_car (fun L => dx_put lay a b pc L st m) := by
  intro L' L c' h
  dsimp only at h ⊢
  unfold dx_put at h ⊢
  split at h
  · try dsimp only
    split at h
    · next e =>
      try rw [e]
      try dsimp only
      split at h
      · next e2 =>
        try rw [e2]
        try dsimp only
        split at h
        · next e3 => (try rw [e3]); cases h; exact ⟨rfl, rfl⟩
        · next e3 =>
          try rw [e3]
          obtain ⟨h1, rfl⟩ := dx_ife h
          exact ⟨rfl, if_pos h1⟩
        · cases h
      · cases h
    · cases h
  · try dsimp only
    split at h
    · next e =>
      try rw [e]
      try dsimp only
      split at h
      · next e2 =>
        try rw [e2]
        try dsimp only
        split at h
        · next e3 => (try rw [e3]); cases h; exact ⟨rfl, rfl⟩
        · cases h
      · cases h
    · cases h
  · cases h
theorem dx_car_ald (lay : List dx_Cell) (pc : Nat) (st : List Value) (m : dx_M) : dx_car (fun L => dx_ald lay pc L st m) := by
  intro L' L c' h
  dsimp only at h ⊢
  unfold dx_ald at h ⊢
  split at h
  · try dsimp only
    split at h
    · next e =>
      try rw [e]
      obtain ⟨h1, rfl⟩ := dx_ife h
      exact ⟨rfl, if_pos h1⟩
    · cases h
  · cases h
theorem dx_car_bld (lay : List dx_Cell) (pc : Nat) (st : List Value) (m : dx_M) : dx_car (fun L => dx_bld lay pc L st m) := by
  intro L' L c' h
  dsimp only at h ⊢
  unfold dx_bld at h ⊢
  split at h
  · try dsimp only
    split at h
    · next e =>
      try rw [e]
      obtain ⟨h1, rfl⟩ := dx_ife h
      exact ⟨rfl, if_pos h1⟩
    · next e =>
      try rw [e]
      obtain ⟨h1, rfl⟩ := dx_ife h
      exact ⟨rfl, if_pos h1⟩
    · cases h
  · cases h
theorem dx_car_rld (pc : Nat) (t : List Value) (m : dx_M) (n : Nat) (rs : List Nat) (i : Int32) : dx_car (fun L => dx_rld pc L t m n rs i) := by
  intro L' L c' h
  dsimp only at h ⊢
  unfold dx_rld at h ⊢
  by_cases hq : ¬ (i < 0 ∨ n ≤ i.toNatClampNeg)
  · rw [if_pos hq] at h ⊢
    split at h
    · next e => (try rw [e]); cases h; exact ⟨rfl, rfl⟩
    · cases h
  · rw [if_neg hq] at h; cases h
theorem dx_car_aad (lay : List dx_Cell) (pc : Nat) (st : List Value) (m : dx_M) : dx_car (fun L => dx_aad lay pc L st m) := by
  intro L' L c' h
  dsimp only at h ⊢
  unfold dx_aad at h ⊢
  split at h
  · try dsimp only
    split at h
    · next e => (try rw [e]); exact dx_car_rld _ _ _ _ _ _ L' L c' h
    · next e => (try rw [e]); exact dx_car_rld _ _ _ _ _ _ L' L c' h
    · cases h
  · cases h
theorem dx_car_ast (lay : List dx_Cell) (pc : Nat) (st : List Value) (m : dx_M) : dx_car (fun L => dx_ast lay pc L st m) := by
  intro L' L c' h
  dsimp only at h ⊢
  unfold dx_ast at h ⊢
  split at h
  · try dsimp only
    split at h
    · next e =>
      try rw [e]
      obtain ⟨h1, rfl⟩ := dx_ife h
      exact ⟨rfl, if_pos h1⟩
    · cases h
  · cases h
theorem dx_car_bst (lay : List dx_Cell) (pc : Nat) (st : List Value) (m : dx_M) : dx_car (fun L => dx_bst lay pc L st m) := by
  intro L' L c' h
  dsimp only at h ⊢
  unfold dx_bst at h ⊢
  split at h
  · try dsimp only
    split at h
    · next e =>
      try rw [e]
      obtain ⟨h1, rfl⟩ := dx_ife h
      exact ⟨rfl, if_pos h1⟩
    · next e =>
      try rw [e]
      obtain ⟨h1, rfl⟩ := dx_ife h
      exact ⟨rfl, if_pos h1⟩
    · cases h
  · cases h
theorem dx_loI_le {pc : Nat} {L' L st : List Value} {m : dx_M} {i : Nat} {c' : dx_F} (hl : dx_Le L' L) (h : dx_loI pc L' st m i = some c') : ∃ L2, dx_loI pc L st m i = some (c'.1, L2, c'.2.2.1, c'.2.2.2) ∧ dx_Le c'.2.1 L2 := by
  unfold dx_loI at h ⊢
  split at h
  · next x e => rw [dx_Le_ld i hl e (fun q => by cases q)]; cases h; exact ⟨L, rfl, hl⟩
  · cases h
theorem dx_loL_le {pc : Nat} {L' L st : List Value} {m : dx_M} {i : Nat} {c' : dx_F} (hl : dx_Le L' L) (h : dx_loL pc L' st m i = some c') : ∃ L2, dx_loL pc L st m i = some (c'.1, L2, c'.2.2.1, c'.2.2.2) ∧ dx_Le c'.2.1 L2 := by
  unfold dx_loL at h ⊢
  split at h
  · next x e => rw [dx_Le_ld i hl e (fun q => by cases q)]; cases h; exact ⟨L, rfl, hl⟩
  · cases h
theorem dx_loA_le {pc : Nat} {L' L st : List Value} {m : dx_M} {i : Nat} {c' : dx_F} (hl : dx_Le L' L) (h : dx_loA pc L' st m i = some c') : ∃ L2, dx_loA pc L st m i = some (c'.1, L2, c'.2.2.1, c'.2.2.2) ∧ dx_Le c'.2.1 L2 := by
  unfold dx_loA at h ⊢
  split at h
  · next x e => rw [dx_Le_ld i hl e (fun q => by cases q)]; cases h; exact ⟨L, rfl, hl⟩
  · cases h
theorem dx_stI_le {pc : Nat} {L' L st : List Value} {m : dx_M} {i : Nat} {c' : dx_F} (hl : dx_Le L' L) (h : dx_stI pc L' st m i = some c') : ∃ L2, dx_stI pc L st m i = some (c'.1, L2, c'.2.2.1, c'.2.2.2) ∧ dx_Le c'.2.1 L2 := by
  unfold dx_stI at h ⊢
  split at h
  · obtain ⟨h1, rfl⟩ := dx_ife h
    exact ⟨_, if_pos (by rw [← dx_Le_len hl]; exact h1), dx_Le_st1 i _ hl⟩
  · cases h
theorem dx_stL_le {pc : Nat} {L' L st : List Value} {m : dx_M} {i : Nat} {c' : dx_F} (hl : dx_Le L' L) (h : dx_stL pc L' st m i = some c') : ∃ L2, dx_stL pc L st m i = some (c'.1, L2, c'.2.2.1, c'.2.2.2) ∧ dx_Le c'.2.1 L2 := by
  unfold dx_stL at h ⊢
  split at h
  · obtain ⟨h1, rfl⟩ := dx_ife h
    exact ⟨_, if_pos (by rw [← dx_Le_len hl]; exact h1), dx_Le_st2 i _ hl⟩
  · cases h
theorem dx_stA_le {pc : Nat} {L' L st : List Value} {m : dx_M} {i : Nat} {c' : dx_F} (hl : dx_Le L' L) (h : dx_stA pc L' st m i = some c') : ∃ L2, dx_stA pc L st m i = some (c'.1, L2, c'.2.2.1, c'.2.2.2) ∧ dx_Le c'.2.1 L2 := by
  unfold dx_stA at h ⊢
  split at h
  · obtain ⟨h1, rfl⟩ := dx_ife h
    exact ⟨_, if_pos (by rw [← dx_Le_len hl]; exact h1), dx_Le_st1 i _ hl⟩
  · cases h
theorem dx_inc_le {pc : Nat} {L' L st : List Value} {m : dx_M} {i : Nat} {v : Value} {c' : dx_F} (hl : dx_Le L' L) (h : dx_inc pc L' st m i v = some c') : ∃ L2, dx_inc pc L st m i v = some (c'.1, L2, c'.2.2.1, c'.2.2.2) ∧ dx_Le c'.2.1 L2 := by
  unfold dx_inc at h ⊢
  split at h
  · next x y e =>
    rw [dx_Le_ld i hl e (fun q => by cases q)]
    obtain ⟨h1, rfl⟩ := dx_ife h
    exact ⟨_, if_pos (by rw [← dx_Le_len hl]; exact h1), dx_Le_st1 i _ hl⟩
  · cases h
theorem dx_car_le {f : List Value → Option dx_F} (hf : dx_car f) {L' L : List Value} {c' : dx_F} (hl : dx_Le L' L) (h : f L' = some c') : ∃ L2, f L = some (c'.1, L2, c'.2.2.1, c'.2.2.2) ∧ dx_Le c'.2.1 L2 := by
  obtain ⟨h1, h2⟩ := hf L' L c' h
  exact ⟨L, h2, by rw [h1]; exact hl⟩
set_option maxHeartbeats 4000000 in
theorem dx_ex_le {lay : List dx_Cell} {r : dx_I} {pc : Nat} {L' L st : List Value} {m : dx_M} {c' : dx_F} (hl : dx_Le L' L) (h : dx_ex lay r pc L' st m = some c') : ∃ L2, dx_ex lay r pc L st m = some (c'.1, L2, c'.2.2.1, c'.2.2.2) ∧ dx_Le c'.2.1 L2 := by
  obtain ⟨i, n, v, a, b, cc, ts⟩ := r
  cases i
  case ifCond cd off => cases cd <;> exact dx_car_le (dx_car_if1 _ _ _) hl h
  case if_icmp cd off => cases cd <;> exact dx_car_le (dx_car_if2 _ _ _) hl h
  case tableswitch => exact dx_car_le (dx_car_if1 _ _ _) hl h
  case iadd => exact dx_car_le (dx_car_bI _ _ _ _) hl h
  case isub => exact dx_car_le (dx_car_bI _ _ _ _) hl h
  case imul => exact dx_car_le (dx_car_bI _ _ _ _) hl h
  case iand => exact dx_car_le (dx_car_bI _ _ _ _) hl h
  case ior => exact dx_car_le (dx_car_bI _ _ _ _) hl h
  case ixor => exact dx_car_le (dx_car_bI _ _ _ _) hl h
  case ishl => exact dx_car_le (dx_car_bI _ _ _ _) hl h
  case ishr => exact dx_car_le (dx_car_bI _ _ _ _) hl h
  case iushr => exact dx_car_le (dx_car_bI _ _ _ _) hl h
  case idiv => exact dx_car_le (dx_car_dI _ _ _ _) hl h
  case irem => exact dx_car_le (dx_car_dI _ _ _ _) hl h
  case ladd => exact dx_car_le (dx_car_bL _ _ _ _) hl h
  case lsub => exact dx_car_le (dx_car_bL _ _ _ _) hl h
  case lmul => exact dx_car_le (dx_car_bL _ _ _ _) hl h
  case ldiv => exact dx_car_le (dx_car_dL _ _ _ _) hl h
  case lrem => exact dx_car_le (dx_car_dL _ _ _ _) hl h
  case lneg => exact dx_car_le (dx_car_unL _ _ _ _) hl h
  case i2l => exact dx_car_le (dx_car_unI _ _ _ _) hl h
  case i2b => exact dx_car_le (dx_car_unI _ _ _ _) hl h
  case lcmp => exact dx_car_le (dx_car_lcm _ _ _) hl h
  case dup => exact dx_car_le (dx_car_dup _ _ _) hl h
  case dup2 => exact dx_car_le (dx_car_dup2 _ _ _) hl h
  case getfield => exact dx_car_le (dx_car_get _ _ _ _ _ _) hl h
  case putfield => exact dx_car_le (dx_car_put _ _ _ _ _ _) hl h
  case iaload => exact dx_car_le (dx_car_ald _ _ _ _) hl h
  case baload => exact dx_car_le (dx_car_bld _ _ _ _) hl h
  case aaload => exact dx_car_le (dx_car_aad _ _ _ _) hl h
  case iastore => exact dx_car_le (dx_car_ast _ _ _ _) hl h
  case bastore => exact dx_car_le (dx_car_bst _ _ _ _) hl h
  case iload_n => exact dx_loI_le hl h
  case iload => exact dx_loI_le hl h
  case lload_n => exact dx_loL_le hl h
  case lload => exact dx_loL_le hl h
  case aload_n => exact dx_loA_le hl h
  case aload => exact dx_loA_le hl h
  case istore_n => exact dx_stI_le hl h
  case istore => exact dx_stI_le hl h
  case lstore_n => exact dx_stL_le hl h
  case lstore => exact dx_stL_le hl h
  case astore_n => exact dx_stA_le hl h
  case astore => exact dx_stA_le hl h
  case iinc => exact dx_inc_le hl h
  case iconst => cases h; exact ⟨L, rfl, hl⟩
  case bipush => cases h; exact ⟨L, rfl, hl⟩
  case sipush => cases h; exact ⟨L, rfl, hl⟩
  case lconst => cases h; exact ⟨L, rfl, hl⟩
  case ldc_w => cases h; exact ⟨L, rfl, hl⟩
  case ldc2_w => cases h; exact ⟨L, rfl, hl⟩
  case goto => cases h; exact ⟨L, rfl, hl⟩
  all_goals exact absurd (show (none : Option dx_F) = some c' from h) (fun q => by cases q)
theorem dx_mth_car (r : dx_I) (pc : Nat) (st : List Value) (m : dx_M) : dx_car (fun L => dx_mth r pc L st m) := by
  intro L' L c' h
  dsimp only at h ⊢
  obtain ⟨i, n, v, a, b, cc, ts⟩ := r
  unfold dx_mth at h ⊢
  dsimp only at h ⊢
  split at h
  · obtain ⟨h1, rfl⟩ := dx_ife h
    exact ⟨rfl, if_pos h1⟩
  · obtain ⟨h1, rfl⟩ := dx_ife h
    exact ⟨rfl, if_pos h1⟩
  · obtain ⟨h1, rfl⟩ := dx_ife h
    exact ⟨rfl, if_pos h1⟩
  · cases h
theorem dx_cpx_car (lay : List dx_Cell) (r : dx_I) (pc : Nat) (st : List Value) (m : dx_M) : dx_car (fun L => dx_cpx lay r pc L st m) := by
  intro L' L c' h
  dsimp only at h ⊢
  obtain ⟨i, n, v, a, b, cc, ts⟩ := r
  unfold dx_cpx at h ⊢
  dsimp only at h ⊢
  split at h
  · split at h
    · next e1 e2 =>
      obtain ⟨h1, rfl⟩ := dx_ife h
      exact ⟨rfl, if_pos h1⟩
    · cases h
  · cases h
theorem dx_weak {d : Nat} {C : Nat → List Value → dx_M → (Option Value → dx_M → Prop) → Prop} {lay : List dx_Cell} {K : dx_K} {Z : Option Value → dx_M → Prop} (hC : dx_mono C) {pc : Nat} {L' L st : List Value} {m : dx_M} (hl : dx_Le L' L) (g : dx_Go d C lay K Z (pc, L', st, m)) : dx_Go d C lay K Z (pc, L, st, m) := by
  intro X hX
  refine g (fun c' => ∀ L2, dx_Le c'.2.1 L2 → X (c'.1, L2, c'.2.2.1, c'.2.2.2)) ?_ L hl
  intro c hone L2 hl2
  obtain ⟨pc, L', st, m⟩ := c
  dsimp only at hl2 ⊢
  refine hX _ ?_
  rcases hone with ⟨c', h1, hx1⟩ | ⟨r, h1, hz⟩ | ⟨id, as1, rest, h1, hc⟩ | ⟨hd1, c', h1, hx1⟩
  · unfold dx_stp at h1
    split at h1
    · next r e1 =>
      obtain ⟨L3, h2, h3⟩ := dx_ex_le hl2 h1
      refine Or.inl ⟨_, ?_, hx1 L3 h3⟩
      unfold dx_stp
      rw [e1]
      exact h2
    · cases h1
  · exact Or.inr (Or.inl ⟨r, h1, hz⟩)
  · refine Or.inr (Or.inr (Or.inl ⟨id, as1, rest, h1, hC _ _ _ _ _ (fun r m' z => z L2 hl2) hc⟩))
  · refine Or.inr (Or.inr (Or.inr ⟨hd1, ?_⟩))
    unfold dx_cp at h1
    split at h1
    · next r e1 =>
      split at h1
      · next c9 e2 =>
        cases h1
        obtain ⟨h2, h3⟩ := dx_mth_car r pc st m L' L2 _ e2
        refine ⟨_, ?_, hx1 L2 (by rw [h2]; exact hl2)⟩
        unfold dx_cp
        rw [e1]
        dsimp only at h3 ⊢
        rw [h3]
      · next e2 =>
        obtain ⟨h2, h3⟩ := dx_cpx_car lay r pc st m L' L2 _ h1
        refine ⟨_, ?_, hx1 L2 (by rw [h2]; exact hl2)⟩
        unfold dx_cp
        rw [e1]
        dsimp only at h3 ⊢
        have e3 : dx_mth r pc L2 st m = none := by
          cases e4 : dx_mth r pc L2 st m with
          | none => rfl
          | some c9 =>
            have e5 := (dx_mth_car r pc st m L2 L' c9 e4).2
            dsimp only at e5 e2
            rw [e5] at e2
            cases e2
        rw [e3]
        exact h3
    · cases h1
theorem dx_fgt {P : List dx_K} {d d' : Nat} {lay : List dx_Cell} {K : dx_K} {Z : Option Value → dx_M → Prop} {pc : Nat} {L st : List Value} {m : dx_M} (L' : List Value) (hl : dx_Le L' L) (g : dx_Go d' (dx_Sem P lay d) lay K Z (pc, L', st, m)) : dx_Go d' (dx_Sem P lay d) lay K Z (pc, L, st, m) := dx_weak (dx_Sem_mono P lay d) hl g
end
section
/-! small methods (printed by wip/whole/g10.py) -/
set_option maxRecDepth 20000 in
theorem sX3_within {lay : List dx_Cell} {d : Nat} (n a b : Int32) (m : dx_M) {Z : Option Value → dx_M → Prop} (h : Z (some (.int (bI (inI n a b)))) m) : dx_Sem dx_P lay (d + 1) 64 [.int n, .int a, .int b] m Z := by
  refine dx_sem km_X3_within rfl rfl ?_
  refine dx_blk 0 (c' := (0, [.int n, .int a, .int b], [], m)) rfl ?_
  refine dx_blk 2 (c' := (2, [.int n, .int a, .int b], [.int a, .int n], m)) rfl ?_
  refine dx_br (q := n < a) (a := 14) (b := 5) (L := [.int n, .int a, .int b]) (st := []) (m := m) rfl (fun h2 => ?_) (fun h2 => ?_)
  · refine dx_blk 1 (c' := (15, [.int n, .int a, .int b], [.int 0], m)) rfl ?_
    exact dx_ret (r := some (.int 0)) rfl (by first | (rw [bI_f (inI_lt (by assumption))] at h; exact h) | (rw [bI_f (inI_gt (by assumption))] at h; exact h) | (rw [bI_t (inI_in (by assumption) (by assumption))] at h; exact h))
  · refine dx_blk 2 (c' := (7, [.int n, .int a, .int b], [.int b, .int n], m)) rfl ?_
    refine dx_br (q := b < n) (a := 14) (b := 10) (L := [.int n, .int a, .int b]) (st := []) (m := m) rfl (fun h7 => ?_) (fun h7 => ?_)
    · refine dx_blk 1 (c' := (15, [.int n, .int a, .int b], [.int 0], m)) rfl ?_
      exact dx_ret (r := some (.int 0)) rfl (by first | (rw [bI_f (inI_lt (by assumption))] at h; exact h) | (rw [bI_f (inI_gt (by assumption))] at h; exact h) | (rw [bI_t (inI_in (by assumption) (by assumption))] at h; exact h))
    · refine dx_blk 2 (c' := (15, [.int n, .int a, .int b], [.int 1], m)) rfl ?_
      exact dx_ret (r := some (.int 1)) rfl (by first | (rw [bI_f (inI_lt (by assumption))] at h; exact h) | (rw [bI_f (inI_gt (by assumption))] at h; exact h) | (rw [bI_t (inI_in (by assumption) (by assumption))] at h; exact h))
set_option maxRecDepth 20000 in
theorem sX4_in {lay : List dx_Cell} {d : Nat} (n a b : Int32) (m : dx_M) {Z : Option Value → dx_M → Prop} (h : Z (some (.int (bI (inI n a b)))) m) : dx_Sem dx_P lay (d + 1) 82 [.int n, .int a, .int b] m Z := by
  refine dx_sem km_X4_in rfl rfl ?_
  refine dx_blk 0 (c' := (0, [.int n, .int a, .int b], [], m)) rfl ?_
  refine dx_blk 2 (c' := (2, [.int n, .int a, .int b], [.int a, .int n], m)) rfl ?_
  refine dx_br (q := n < a) (a := 14) (b := 5) (L := [.int n, .int a, .int b]) (st := []) (m := m) rfl (fun h2 => ?_) (fun h2 => ?_)
  · refine dx_blk 1 (c' := (15, [.int n, .int a, .int b], [.int 0], m)) rfl ?_
    exact dx_ret (r := some (.int 0)) rfl (by first | (rw [bI_f (inI_lt (by assumption))] at h; exact h) | (rw [bI_f (inI_gt (by assumption))] at h; exact h) | (rw [bI_t (inI_in (by assumption) (by assumption))] at h; exact h))
  · refine dx_blk 2 (c' := (7, [.int n, .int a, .int b], [.int b, .int n], m)) rfl ?_
    refine dx_br (q := b < n) (a := 14) (b := 10) (L := [.int n, .int a, .int b]) (st := []) (m := m) rfl (fun h7 => ?_) (fun h7 => ?_)
    · refine dx_blk 1 (c' := (15, [.int n, .int a, .int b], [.int 0], m)) rfl ?_
      exact dx_ret (r := some (.int 0)) rfl (by first | (rw [bI_f (inI_lt (by assumption))] at h; exact h) | (rw [bI_f (inI_gt (by assumption))] at h; exact h) | (rw [bI_t (inI_in (by assumption) (by assumption))] at h; exact h))
    · refine dx_blk 2 (c' := (15, [.int n, .int a, .int b], [.int 1], m)) rfl ?_
      exact dx_ret (r := some (.int 1)) rfl (by first | (rw [bI_f (inI_lt (by assumption))] at h; exact h) | (rw [bI_f (inI_gt (by assumption))] at h; exact h) | (rw [bI_t (inI_in (by assumption) (by assumption))] at h; exact h))
set_option maxRecDepth 20000 in
theorem sX3_isTurn {lay : List dx_Cell} {d : Nat} (n : Int32) (m : dx_M) {Z : Option Value → dx_M → Prop} (h : Z (some (.int (bI (inI n 0 3)))) m) : dx_Sem dx_P lay (d + 2) 65 [.int n] m Z := by
  refine dx_sem km_X3_isTurn rfl rfl ?_
  refine dx_blk 0 (c' := (0, [.int n], [], m)) rfl ?_
  refine dx_blk 3 (c' := (3, [.int n], [.int 3, .int 0, .int n], m)) rfl ?_
  refine dx_call (id := 64) (as := [.int n, .int 0, .int 3]) (rest := []) rfl ?_
  refine sX3_within n 0 3 _ ?_
  refine dx_blk 0 (c' := (6, [.int n], [.int (bI (inI n 0 3))], m)) rfl ?_
  exact dx_ret (r := some (.int (bI (inI n 0 3)))) (if_pos (bI_01 _)) h
set_option maxRecDepth 20000 in
theorem sX3_isSheet {lay : List dx_Cell} {d : Nat} (n : Int32) (m : dx_M) {Z : Option Value → dx_M → Prop} (h : Z (some (.int (bI (inI n 0 5)))) m) : dx_Sem dx_P lay (d + 2) 66 [.int n] m Z := by
  refine dx_sem km_X3_isSheet rfl rfl ?_
  refine dx_blk 0 (c' := (0, [.int n], [], m)) rfl ?_
  refine dx_blk 3 (c' := (3, [.int n], [.int 5, .int 0, .int n], m)) rfl ?_
  refine dx_call (id := 64) (as := [.int n, .int 0, .int 5]) (rest := []) rfl ?_
  refine sX3_within n 0 5 _ ?_
  refine dx_blk 0 (c' := (6, [.int n], [.int (bI (inI n 0 5))], m)) rfl ?_
  exact dx_ret (r := some (.int (bI (inI n 0 5)))) (if_pos (bI_01 _)) h
set_option maxRecDepth 20000 in
theorem sX4_isSheet {lay : List dx_Cell} {d : Nat} (n : Int32) (m : dx_M) {Z : Option Value → dx_M → Prop} (h : Z (some (.int (bI (inI n 0 5)))) m) : dx_Sem dx_P lay (d + 2) 96 [.int n] m Z := by
  refine dx_sem km_X4_isSheet rfl rfl ?_
  refine dx_blk 0 (c' := (0, [.int n], [], m)) rfl ?_
  refine dx_blk 3 (c' := (3, [.int n], [.int 5, .int 0, .int n], m)) rfl ?_
  refine dx_call (id := 82) (as := [.int n, .int 0, .int 5]) (rest := []) rfl ?_
  refine sX4_in n 0 5 _ ?_
  refine dx_blk 0 (c' := (6, [.int n], [.int (bI (inI n 0 5))], m)) rfl ?_
  exact dx_ret (r := some (.int (bI (inI n 0 5)))) (if_pos (bI_01 _)) h
set_option maxRecDepth 20000 in
theorem sX3_isPoint {lay : List dx_Cell} {d : Nat} (a b : Int32) (m : dx_M) {Z : Option Value → dx_M → Prop} (h : Z (some (.int (bI (inI a 0 24 && inI b 0 24)))) m) : dx_Sem dx_P lay (d + 2) 67 [.int a, .int b] m Z := by
  refine dx_sem km_X3_isPoint rfl rfl ?_
  refine dx_blk 0 (c' := (0, [.int a, .int b], [], m)) rfl ?_
  refine dx_blk 3 (c' := (4, [.int a, .int b], [.int 24, .int 0, .int a], m)) rfl ?_
  refine dx_call (id := 64) (as := [.int a, .int 0, .int 24]) (rest := []) rfl ?_
  refine sX3_within a 0 24 _ ?_
  refine dx_blk 0 (c' := (7, [.int a, .int b], [.int (bI (inI a 0 24))], m)) rfl ?_
  refine dx_brB (B := (inI a 0 24)) (a := 24) (b := 10) (L := [.int a, .int b]) (st := []) (m := m) rfl (fun h7 => ?_) (fun h7 => ?_)
  · refine dx_blk 1 (c' := (25, [.int a, .int b], [.int 0], m)) rfl ?_
    exact dx_ret (r := some (.int 0)) rfl (by simpa [bI, *] using h)
  · refine dx_blk 3 (c' := (14, [.int a, .int b], [.int 24, .int 0, .int b], m)) rfl ?_
    refine dx_call (id := 64) (as := [.int b, .int 0, .int 24]) (rest := []) rfl ?_
    refine sX3_within b 0 24 _ ?_
    refine dx_blk 0 (c' := (17, [.int a, .int b], [.int (bI (inI b 0 24))], m)) rfl ?_
    refine dx_brB (B := (inI b 0 24)) (a := 24) (b := 20) (L := [.int a, .int b]) (st := []) (m := m) rfl (fun h17 => ?_) (fun h17 => ?_)
    · refine dx_blk 1 (c' := (25, [.int a, .int b], [.int 0], m)) rfl ?_
      exact dx_ret (r := some (.int 0)) rfl (by simpa [bI, *] using h)
    · refine dx_blk 2 (c' := (25, [.int a, .int b], [.int 1], m)) rfl ?_
      exact dx_ret (r := some (.int 1)) rfl (by simpa [bI, *] using h)
set_option maxRecDepth 20000 in
theorem sX4_isPoint {lay : List dx_Cell} {d : Nat} (a b : Int32) (m : dx_M) {Z : Option Value → dx_M → Prop} (h : Z (some (.int (bI (inI a 0 24 && inI b 0 24)))) m) : dx_Sem dx_P lay (d + 2) 102 [.int a, .int b] m Z := by
  refine dx_sem km_X4_isPoint rfl rfl ?_
  refine dx_blk 0 (c' := (0, [.int a, .int b], [], m)) rfl ?_
  refine dx_blk 3 (c' := (4, [.int a, .int b], [.int 24, .int 0, .int a], m)) rfl ?_
  refine dx_call (id := 82) (as := [.int a, .int 0, .int 24]) (rest := []) rfl ?_
  refine sX4_in a 0 24 _ ?_
  refine dx_blk 0 (c' := (7, [.int a, .int b], [.int (bI (inI a 0 24))], m)) rfl ?_
  refine dx_brB (B := (inI a 0 24)) (a := 24) (b := 10) (L := [.int a, .int b]) (st := []) (m := m) rfl (fun h7 => ?_) (fun h7 => ?_)
  · refine dx_blk 1 (c' := (25, [.int a, .int b], [.int 0], m)) rfl ?_
    exact dx_ret (r := some (.int 0)) rfl (by simpa [bI, *] using h)
  · refine dx_blk 3 (c' := (14, [.int a, .int b], [.int 24, .int 0, .int b], m)) rfl ?_
    refine dx_call (id := 82) (as := [.int b, .int 0, .int 24]) (rest := []) rfl ?_
    refine sX4_in b 0 24 _ ?_
    refine dx_blk 0 (c' := (17, [.int a, .int b], [.int (bI (inI b 0 24))], m)) rfl ?_
    refine dx_brB (B := (inI b 0 24)) (a := 24) (b := 20) (L := [.int a, .int b]) (st := []) (m := m) rfl (fun h17 => ?_) (fun h17 => ?_)
    · refine dx_blk 1 (c' := (25, [.int a, .int b], [.int 0], m)) rfl ?_
      exact dx_ret (r := some (.int 0)) rfl (by simpa [bI, *] using h)
    · refine dx_blk 2 (c' := (25, [.int a, .int b], [.int 1], m)) rfl ?_
      exact dx_ret (r := some (.int 1)) rfl (by simpa [bI, *] using h)
end
section
/-! Cut, and the like of the reference (printed by wip/whole/g11.py) -/
def st_cnt (f : Nat → Int32) (i : Nat) (s : Int32) : Int32 := s + (if f i = -9 then 0 else 1)
def st_sum (f : Nat → Int32) (i : Nat) (s : Int32) : Int32 := s + (if f i = -9 then 0 else f i)
def n_cnt (f : Nat → Int32) : Int32 := nf (st_cnt f) 144 0
def n_sum (f : Nat → Int32) : Int32 := nf (st_sum f) 144 0
set_option maxRecDepth 20000 in
theorem sX0_begin {d : Nat} (w h : Int32) (m : dx_M) {Z : Option Value → dx_M → Prop} (h9 : Z none (dx_pR (dx_pI (dx_pI m 1 1 w) 1 2 h) 2 (fa_fill (fun _ => -9) (m.1 2) 144))) : dx_Sem dx_P lx_X (d + 1) 0 [.ref 1, .int w, .int h] m Z := by
  refine dx_sem km_X0_begin rfl rfl ?_
  refine dx_blk 0 (c' := (0, [.ref 1, .int w, .int h, .null], [], m)) rfl ?_
  refine dx_blk 8 (c' := (12, [.ref 1, .int w, .int h, .int 0], [], dx_pI (dx_pI m 1 1 w) 1 2 h)) rfl ?_
  refine dx_mem (m' := dx_pR (dx_pI (dx_pI m 1 1 w) 1 2 h) 2 (fa_fill (fun _ => -9) (m.1 2) 0)) (by rw [fa_fill_0]; exact (dx_pR_self _ 2).symm) ?_
  refine dx_blk 0 (c' := (12, [.ref 1, .int w, .int h, .int (nI 0)], [], dx_pR (dx_pI (dx_pI m 1 1 w) 1 2 h) 2 (fa_fill (fun _ => -9) (m.1 2) 0))) rfl ?_
  refine dx_for0 (fun (i : Nat) => ((12, [.ref 1, .int w, .int h, .int (nI i)], [], dx_pR (dx_pI (dx_pI m 1 1 w) 1 2 h) 2 (fa_fill (fun _ => -9) (m.1 2) i)) : dx_F)) 144 (fun i hi hk => ?_) ?_
  · refine dx_blk 0 (c' := (12, [.ref 1, .int w, .int h, .int (nI i)], [], dx_pR (dx_pI (dx_pI m 1 1 w) 1 2 h) 2 (fa_fill (fun _ => -9) (m.1 2) i))) rfl ?_
    refine dx_blk 2 (c' := (16, [.ref 1, .int w, .int h, .int (nI i)], [.int 144, .int (nI i)], dx_pR (dx_pI (dx_pI m 1 1 w) 1 2 h) 2 (fa_fill (fun _ => -9) (m.1 2) i))) rfl ?_
    refine dx_br (q := 144 ≤ (nI i)) (a := 33) (b := 19) (L := [.ref 1, .int w, .int h, .int (nI i)]) (st := []) (m := dx_pR (dx_pI (dx_pI m 1 1 w) 1 2 h) 2 (fa_fill (fun _ => -9) (m.1 2) i)) rfl (fun h => absurd h (nI_ge hi (by decide))) (fun _ => ?_)
    refine dx_blk 4 (c' := (26, [.ref 1, .int w, .int h, .int (nI i)], [.int (-9), .int (nI i), .ref 2], dx_pR (dx_pI (dx_pI m 1 1 w) 1 2 h) 2 (fa_fill (fun _ => -9) (m.1 2) i))) rfl ?_
    refine dx_astN i rfl rfl rfl rfl hi ?_
    refine dx_blk 0 (c' := (27, [.ref 1, .int w, .int h, .int (nI i)], [], dx_pI (dx_pR (dx_pI (dx_pI m 1 1 w) 1 2 h) 2 (fa_fill (fun _ => -9) (m.1 2) i)) 2 i (-9))) rfl ?_
    refine dx_blk 2 (c' := (12, [.ref 1, .int w, .int h, .int ((nI i) + 1)], [], dx_pI (dx_pR (dx_pI (dx_pI m 1 1 w) 1 2 h) 2 (fa_fill (fun _ => -9) (m.1 2) i)) 2 i (-9))) rfl ?_
    rw [dx_pI_pR, show upd (fa_fill (fun _ => (-9 : Int32)) (m.1 2) i) i (-9) = fa_fill (fun _ => (-9 : Int32)) (m.1 2) (i + 1) from fa_fill_succ (fun _ => -9) (m.1 2) i, ← nI_succ]
    exact hk
  · refine dx_blk 0 (c' := (12, [.ref 1, .int w, .int h, .int (nI 144)], [], dx_pR (dx_pI (dx_pI m 1 1 w) 1 2 h) 2 (fa_fill (fun _ => -9) (m.1 2) 144))) rfl ?_
    refine dx_blk 2 (c' := (16, [.ref 1, .int w, .int h, .int (nI 144)], [.int 144, .int (nI 144)], dx_pR (dx_pI (dx_pI m 1 1 w) 1 2 h) 2 (fa_fill (fun _ => -9) (m.1 2) 144))) rfl ?_
    refine dx_br (q := 144 ≤ (nI 144)) (a := 33) (b := 19) (L := [.ref 1, .int w, .int h, .int (nI 144)]) (st := []) (m := dx_pR (dx_pI (dx_pI m 1 1 w) 1 2 h) 2 (fa_fill (fun _ => -9) (m.1 2) 144)) rfl (fun _ => ?_) (fun h => absurd (nI_le (Nat.le_refl _) (by decide)) h)
    exact dx_ret (r := none) rfl h9
set_option maxRecDepth 20000 in
theorem sC0_begin {d : Nat} (w h : Int32) (m : dx_M) {Z : Option Value → dx_M → Prop} (h9 : Z none (dx_pR (dx_pI (dx_pI m 0 1 w) 0 2 h) 1 (fa_fill (fun _ => -9) (m.1 1) 144))) : dx_Sem dx_P lx_C (d + 1) 0 [.ref 0, .int w, .int h] m Z := by
  refine dx_sem km_X0_begin rfl rfl ?_
  refine dx_blk 0 (c' := (0, [.ref 0, .int w, .int h, .null], [], m)) rfl ?_
  refine dx_blk 8 (c' := (12, [.ref 0, .int w, .int h, .int 0], [], dx_pI (dx_pI m 0 1 w) 0 2 h)) rfl ?_
  refine dx_mem (m' := dx_pR (dx_pI (dx_pI m 0 1 w) 0 2 h) 1 (fa_fill (fun _ => -9) (m.1 1) 0)) (by rw [fa_fill_0]; exact (dx_pR_self _ 1).symm) ?_
  refine dx_blk 0 (c' := (12, [.ref 0, .int w, .int h, .int (nI 0)], [], dx_pR (dx_pI (dx_pI m 0 1 w) 0 2 h) 1 (fa_fill (fun _ => -9) (m.1 1) 0))) rfl ?_
  refine dx_for0 (fun (i : Nat) => ((12, [.ref 0, .int w, .int h, .int (nI i)], [], dx_pR (dx_pI (dx_pI m 0 1 w) 0 2 h) 1 (fa_fill (fun _ => -9) (m.1 1) i)) : dx_F)) 144 (fun i hi hk => ?_) ?_
  · refine dx_blk 0 (c' := (12, [.ref 0, .int w, .int h, .int (nI i)], [], dx_pR (dx_pI (dx_pI m 0 1 w) 0 2 h) 1 (fa_fill (fun _ => -9) (m.1 1) i))) rfl ?_
    refine dx_blk 2 (c' := (16, [.ref 0, .int w, .int h, .int (nI i)], [.int 144, .int (nI i)], dx_pR (dx_pI (dx_pI m 0 1 w) 0 2 h) 1 (fa_fill (fun _ => -9) (m.1 1) i))) rfl ?_
    refine dx_br (q := 144 ≤ (nI i)) (a := 33) (b := 19) (L := [.ref 0, .int w, .int h, .int (nI i)]) (st := []) (m := dx_pR (dx_pI (dx_pI m 0 1 w) 0 2 h) 1 (fa_fill (fun _ => -9) (m.1 1) i)) rfl (fun h => absurd h (nI_ge hi (by decide))) (fun _ => ?_)
    refine dx_blk 4 (c' := (26, [.ref 0, .int w, .int h, .int (nI i)], [.int (-9), .int (nI i), .ref 1], dx_pR (dx_pI (dx_pI m 0 1 w) 0 2 h) 1 (fa_fill (fun _ => -9) (m.1 1) i))) rfl ?_
    refine dx_astN i rfl rfl rfl rfl hi ?_
    refine dx_blk 0 (c' := (27, [.ref 0, .int w, .int h, .int (nI i)], [], dx_pI (dx_pR (dx_pI (dx_pI m 0 1 w) 0 2 h) 1 (fa_fill (fun _ => -9) (m.1 1) i)) 1 i (-9))) rfl ?_
    refine dx_blk 2 (c' := (12, [.ref 0, .int w, .int h, .int ((nI i) + 1)], [], dx_pI (dx_pR (dx_pI (dx_pI m 0 1 w) 0 2 h) 1 (fa_fill (fun _ => -9) (m.1 1) i)) 1 i (-9))) rfl ?_
    rw [dx_pI_pR, show upd (fa_fill (fun _ => (-9 : Int32)) (m.1 1) i) i (-9) = fa_fill (fun _ => (-9 : Int32)) (m.1 1) (i + 1) from fa_fill_succ (fun _ => -9) (m.1 1) i, ← nI_succ]
    exact hk
  · refine dx_blk 0 (c' := (12, [.ref 0, .int w, .int h, .int (nI 144)], [], dx_pR (dx_pI (dx_pI m 0 1 w) 0 2 h) 1 (fa_fill (fun _ => -9) (m.1 1) 144))) rfl ?_
    refine dx_blk 2 (c' := (16, [.ref 0, .int w, .int h, .int (nI 144)], [.int 144, .int (nI 144)], dx_pR (dx_pI (dx_pI m 0 1 w) 0 2 h) 1 (fa_fill (fun _ => -9) (m.1 1) 144))) rfl ?_
    refine dx_br (q := 144 ≤ (nI 144)) (a := 33) (b := 19) (L := [.ref 0, .int w, .int h, .int (nI 144)]) (st := []) (m := dx_pR (dx_pI (dx_pI m 0 1 w) 0 2 h) 1 (fa_fill (fun _ => -9) (m.1 1) 144)) rfl (fun _ => ?_) (fun h => absurd (nI_le (Nat.le_refl _) (by decide)) h)
    exact dx_ret (r := none) rfl h9
set_option maxRecDepth 20000 in
theorem sX0_has {d : Nat} (x y : Int32) (m : dx_M) {Z : Option Value → dx_M → Prop} (h : Z (some (.int (bI (inI x 0 (m.1 1 1 - 1) && inI y 0 (m.1 1 2 - 1))))) m) : dx_Sem dx_P lx_X (d + 2) 1 [.ref 1, .int x, .int y] m Z := by
  refine dx_sem km_X0_has rfl rfl ?_
  refine dx_blk 0 (c' := (0, [.ref 1, .int x, .int y], [], m)) rfl ?_
  refine dx_blk 6 (c' := (8, [.ref 1, .int x, .int y], [.int ((m.1 1 1) - 1), .int 0, .int x], m)) rfl ?_
  refine dx_call (id := 64) (as := [.int x, .int 0, .int ((m.1 1 1) - 1)]) (rest := []) rfl ?_
  refine sX3_within x 0 ((m.1 1 1) - 1) _ ?_
  refine dx_blk 0 (c' := (11, [.ref 1, .int x, .int y], [.int (bI (inI x 0 ((m.1 1 1) - 1)))], m)) rfl ?_
  refine dx_brB (B := (inI x 0 ((m.1 1 1) - 1))) (a := 32) (b := 14) (L := [.ref 1, .int x, .int y]) (st := []) (m := m) rfl (fun h11 => ?_) (fun h11 => ?_)
  · refine dx_blk 1 (c' := (33, [.ref 1, .int x, .int y], [.int 0], m)) rfl ?_
    exact dx_ret (r := some (.int 0)) rfl (by simpa [bI, *] using h)
  · refine dx_blk 6 (c' := (22, [.ref 1, .int x, .int y], [.int ((m.1 1 2) - 1), .int 0, .int y], m)) rfl ?_
    refine dx_call (id := 64) (as := [.int y, .int 0, .int ((m.1 1 2) - 1)]) (rest := []) rfl ?_
    refine sX3_within y 0 ((m.1 1 2) - 1) _ ?_
    refine dx_blk 0 (c' := (25, [.ref 1, .int x, .int y], [.int (bI (inI y 0 ((m.1 1 2) - 1)))], m)) rfl ?_
    refine dx_brB (B := (inI y 0 ((m.1 1 2) - 1))) (a := 32) (b := 28) (L := [.ref 1, .int x, .int y]) (st := []) (m := m) rfl (fun h25 => ?_) (fun h25 => ?_)
    · refine dx_blk 1 (c' := (33, [.ref 1, .int x, .int y], [.int 0], m)) rfl ?_
      exact dx_ret (r := some (.int 0)) rfl (by simpa [bI, *] using h)
    · refine dx_blk 2 (c' := (33, [.ref 1, .int x, .int y], [.int 1], m)) rfl ?_
      exact dx_ret (r := some (.int 1)) rfl (by simpa [bI, *] using h)
set_option maxRecDepth 20000 in
theorem sX4_isPlace {d : Nat} (x y : Int32) (m : dx_M) {Z : Option Value → dx_M → Prop} (h : Z (some (.int (bI (inI x 0 (m.1 0 4 - 1) && inI y 0 (m.1 0 5 - 1))))) m) : dx_Sem dx_P lx_M (d + 2) 92 [.ref 0, .int x, .int y] m Z := by
  refine dx_sem km_X4_isPlace rfl rfl ?_
  refine dx_blk 0 (c' := (0, [.ref 0, .int x, .int y], [], m)) rfl ?_
  refine dx_blk 6 (c' := (8, [.ref 0, .int x, .int y], [.int ((m.1 0 4) - 1), .int 0, .int x], m)) rfl ?_
  refine dx_call (id := 82) (as := [.int x, .int 0, .int ((m.1 0 4) - 1)]) (rest := []) rfl ?_
  refine sX4_in x 0 ((m.1 0 4) - 1) _ ?_
  refine dx_blk 0 (c' := (11, [.ref 0, .int x, .int y], [.int (bI (inI x 0 ((m.1 0 4) - 1)))], m)) rfl ?_
  refine dx_brB (B := (inI x 0 ((m.1 0 4) - 1))) (a := 32) (b := 14) (L := [.ref 0, .int x, .int y]) (st := []) (m := m) rfl (fun h11 => ?_) (fun h11 => ?_)
  · refine dx_blk 1 (c' := (33, [.ref 0, .int x, .int y], [.int 0], m)) rfl ?_
    exact dx_ret (r := some (.int 0)) rfl (by simpa [bI, *] using h)
  · refine dx_blk 6 (c' := (22, [.ref 0, .int x, .int y], [.int ((m.1 0 5) - 1), .int 0, .int y], m)) rfl ?_
    refine dx_call (id := 82) (as := [.int y, .int 0, .int ((m.1 0 5) - 1)]) (rest := []) rfl ?_
    refine sX4_in y 0 ((m.1 0 5) - 1) _ ?_
    refine dx_blk 0 (c' := (25, [.ref 0, .int x, .int y], [.int (bI (inI y 0 ((m.1 0 5) - 1)))], m)) rfl ?_
    refine dx_brB (B := (inI y 0 ((m.1 0 5) - 1))) (a := 32) (b := 28) (L := [.ref 0, .int x, .int y]) (st := []) (m := m) rfl (fun h25 => ?_) (fun h25 => ?_)
    · refine dx_blk 1 (c' := (33, [.ref 0, .int x, .int y], [.int 0], m)) rfl ?_
      exact dx_ret (r := some (.int 0)) rfl (by simpa [bI, *] using h)
    · refine dx_blk 2 (c' := (33, [.ref 0, .int x, .int y], [.int 1], m)) rfl ?_
      exact dx_ret (r := some (.int 1)) rfl (by simpa [bI, *] using h)
set_option maxRecDepth 20000 in
theorem sX0_weightOf {d : Nat} {a b : Nat} (ha : a < 12) (hb : b < 12) (m : dx_M) {Z : Option Value → dx_M → Prop} (h : Z (some (.int (m.1 2 (b * 12 + a)))) m) : dx_Sem dx_P lx_X (d + 1) 2 [.ref 1, .int (nI a), .int (nI b)] m Z := by
  refine dx_sem km_X0_weightOf rfl rfl ?_
  refine dx_blk 0 (c' := (0, [.ref 1, .int (nI a), .int (nI b)], [], m)) rfl ?_
  refine dx_blk 7 (c' := (10, [.ref 1, .int (nI a), .int (nI b)], [.int (((nI b) * 12) + (nI a)), .ref 2], m)) rfl ?_
  refine dx_aldN (b * 12 + a) rfl rfl rfl (nI_ix b a) (by omega) ?_
  refine dx_blk 0 (c' := (11, [.ref 1, .int (nI a), .int (nI b)], [.int (m.1 2 (b * 12 + a))], m)) rfl ?_
  exact dx_ret (r := some (.int (m.1 2 (b * 12 + a)))) rfl h
set_option maxRecDepth 20000 in
theorem sX0_put {d : Nat} {a b : Nat} (w : Int32) (ha : a < 12) (hb : b < 12) (m : dx_M) {Z : Option Value → dx_M → Prop} (h : Z none (dx_pI m 2 (b * 12 + a) w)) : dx_Sem dx_P lx_X (d + 1) 3 [.ref 1, .int (nI a), .int (nI b), .int w] m Z := by
  refine dx_sem km_X0_put rfl rfl ?_
  refine dx_blk 0 (c' := (0, [.ref 1, .int (nI a), .int (nI b), .int w], [], m)) rfl ?_
  refine dx_blk 8 (c' := (11, [.ref 1, .int (nI a), .int (nI b), .int w], [.int w, .int (((nI b) * 12) + (nI a)), .ref 2], m)) rfl ?_
  refine dx_astN (b * 12 + a) rfl rfl rfl (nI_ix b a) (by omega) ?_
  refine dx_blk 0 (c' := (12, [.ref 1, .int (nI a), .int (nI b), .int w], [], dx_pI m 2 (b * 12 + a) w)) rfl ?_
  exact dx_ret (r := none) rfl h
set_option maxRecDepth 20000 in
theorem sX0_across {d : Nat} (t : Int32) (m : dx_M) {Z : Option Value → dx_M → Prop} (h : Z (some (.int (if t - t / 2 * 2 = 0 then m.1 1 1 else m.1 1 2))) m) : dx_Sem dx_P lx_X (d + 1) 4 [.ref 1, .int t] m Z := by
  refine dx_sem km_X0_across rfl rfl ?_
  refine dx_blk 0 (c' := (0, [.ref 1, .int t], [], m)) rfl ?_
  refine dx_blk 3 (c' := (3, [.ref 1, .int t], [.int (t - t / 2 * 2)], m)) rfl ?_
  refine dx_br (q := (t - t / 2 * 2) = 0) (a := 6) (b := 13) (L := [.ref 1, .int t]) (st := []) (m := m) rfl (fun h3 => ?_) (fun h3 => ?_)
  · refine dx_blk 3 (c' := (17, [.ref 1, .int t], [.int (m.1 1 1)], m)) rfl ?_
    exact dx_ret (r := some (.int (m.1 1 1))) rfl (by first | (rw [if_pos (by assumption)] at h; exact h) | (rw [if_neg (by assumption)] at h; exact h))
  · refine dx_blk 2 (c' := (17, [.ref 1, .int t], [.int (m.1 1 2)], m)) rfl ?_
    exact dx_ret (r := some (.int (m.1 1 2))) rfl (by first | (rw [if_pos (by assumption)] at h; exact h) | (rw [if_neg (by assumption)] at h; exact h))
set_option maxRecDepth 20000 in
theorem sX0_up {d : Nat} (t : Int32) (m : dx_M) {Z : Option Value → dx_M → Prop} (h : Z (some (.int (if t - t / 2 * 2 = 0 then m.1 1 2 else m.1 1 1))) m) : dx_Sem dx_P lx_X (d + 1) 5 [.ref 1, .int t] m Z := by
  refine dx_sem km_X0_up rfl rfl ?_
  refine dx_blk 0 (c' := (0, [.ref 1, .int t], [], m)) rfl ?_
  refine dx_blk 3 (c' := (3, [.ref 1, .int t], [.int (t - t / 2 * 2)], m)) rfl ?_
  refine dx_br (q := (t - t / 2 * 2) = 0) (a := 6) (b := 13) (L := [.ref 1, .int t]) (st := []) (m := m) rfl (fun h3 => ?_) (fun h3 => ?_)
  · refine dx_blk 3 (c' := (17, [.ref 1, .int t], [.int (m.1 1 2)], m)) rfl ?_
    exact dx_ret (r := some (.int (m.1 1 2))) rfl (by first | (rw [if_pos (by assumption)] at h; exact h) | (rw [if_neg (by assumption)] at h; exact h))
  · refine dx_blk 2 (c' := (17, [.ref 1, .int t], [.int (m.1 1 1)], m)) rfl ?_
    exact dx_ret (r := some (.int (m.1 1 1))) rfl (by first | (rw [if_pos (by assumption)] at h; exact h) | (rw [if_neg (by assumption)] at h; exact h))
set_option maxRecDepth 20000 in
theorem sX0_squares {d : Nat}  (m : dx_M) {Z : Option Value → dx_M → Prop} (h : Z (some (.int (n_cnt (m.1 2)))) m) : dx_Sem dx_P lx_X (d + 1) 6 [.ref 1] m Z := by
  refine dx_sem km_X0_squares rfl rfl ?_
  refine dx_blk 0 (c' := (0, [.ref 1, .null, .null], [], m)) rfl ?_
  refine dx_blk 4 (c' := (4, [.ref 1, .int 0, .int 0], [], m)) rfl ?_
  refine dx_blk 0 (c' := (4, [.ref 1, .int 0, .int (nI 0)], [], m)) rfl ?_
  refine dx_for (fun (i : Nat) (s : Int32) => ((4, [.ref 1, .int s, .int (nI i)], [], m) : dx_F)) (st_cnt (m.1 2)) (fun _ _ => True) 144 0 trivial (fun i s hi hI hk => ?_) (fun _ _ _ _ => trivial) (fun hN => ?_)
  · refine dx_blk 0 (c' := (4, [.ref 1, .int s, .int (nI i)], [], m)) rfl ?_
    refine dx_blk 2 (c' := (8, [.ref 1, .int s, .int (nI i)], [.int 144, .int (nI i)], m)) rfl ?_
    refine dx_br (q := 144 ≤ (nI i)) (a := 36) (b := 11) (L := [.ref 1, .int s, .int (nI i)]) (st := []) (m := m) rfl (fun h => absurd h (nI_ge hi (by decide))) (fun _ => ?_)
    refine dx_blk 4 (c' := (17, [.ref 1, .int s, .int (nI i)], [.int (nI i), .ref 2, .int s], m)) rfl ?_
    refine dx_aldN i rfl rfl rfl rfl hi ?_
    refine dx_blk 0 (c' := (18, [.ref 1, .int s, .int (nI i)], [.int (m.1 2 i), .int s], m)) rfl ?_
    refine dx_blk 1 (c' := (20, [.ref 1, .int s, .int (nI i)], [.int (-9), .int (m.1 2 i), .int s], m)) rfl ?_
    refine dx_br (q := (m.1 2 i) = (-9)) (a := 23) (b := 27) (L := [.ref 1, .int s, .int (nI i)]) (st := [.int s]) (m := m) rfl (fun h20 => ?_) (fun h20 => ?_)
    · refine dx_blk 6 (c' := (4, [.ref 1, .int (s + 0), .int ((nI i) + 1)], [], m)) rfl ?_
      simp only [st_cnt] at hk
      first | (rw [if_pos (by assumption), nI_succ] at hk; exact hk) | (rw [if_neg (by assumption), nI_succ] at hk; exact hk)
    · refine dx_blk 5 (c' := (4, [.ref 1, .int (s + 1), .int ((nI i) + 1)], [], m)) rfl ?_
      simp only [st_cnt] at hk
      first | (rw [if_pos (by assumption), nI_succ] at hk; exact hk) | (rw [if_neg (by assumption), nI_succ] at hk; exact hk)
  · refine dx_blk 0 (c' := (4, [.ref 1, .int (nf (st_cnt (m.1 2)) 144 0), .int (nI 144)], [], m)) rfl ?_
    refine dx_blk 2 (c' := (8, [.ref 1, .int (nf (st_cnt (m.1 2)) 144 0), .int (nI 144)], [.int 144, .int (nI 144)], m)) rfl ?_
    refine dx_br (q := 144 ≤ (nI 144)) (a := 36) (b := 11) (L := [.ref 1, .int (nf (st_cnt (m.1 2)) 144 0), .int (nI 144)]) (st := []) (m := m) rfl (fun _ => ?_) (fun h => absurd (nI_le (Nat.le_refl _) (by decide)) h)
    refine dx_blk 1 (c' := (37, [.ref 1, .int (nf (st_cnt (m.1 2)) 144 0), .int (nI 144)], [.int (nf (st_cnt (m.1 2)) 144 0)], m)) rfl ?_
    exact dx_ret (r := some (.int (nf (st_cnt (m.1 2)) 144 0))) rfl h
set_option maxRecDepth 20000 in
theorem sX0_weight {d : Nat}  (m : dx_M) {Z : Option Value → dx_M → Prop} (h : Z (some (.int (n_sum (m.1 2)))) m) : dx_Sem dx_P lx_X (d + 1) 7 [.ref 1] m Z := by
  refine dx_sem km_X0_weight rfl rfl ?_
  refine dx_blk 0 (c' := (0, [.ref 1, .null, .null], [], m)) rfl ?_
  refine dx_blk 4 (c' := (4, [.ref 1, .int 0, .int 0], [], m)) rfl ?_
  refine dx_blk 0 (c' := (4, [.ref 1, .int 0, .int (nI 0)], [], m)) rfl ?_
  refine dx_for (fun (i : Nat) (s : Int32) => ((4, [.ref 1, .int s, .int (nI i)], [], m) : dx_F)) (st_sum (m.1 2)) (fun _ _ => True) 144 0 trivial (fun i s hi hI hk => ?_) (fun _ _ _ _ => trivial) (fun hN => ?_)
  · refine dx_blk 0 (c' := (4, [.ref 1, .int s, .int (nI i)], [], m)) rfl ?_
    refine dx_blk 2 (c' := (8, [.ref 1, .int s, .int (nI i)], [.int 144, .int (nI i)], m)) rfl ?_
    refine dx_br (q := 144 ≤ (nI i)) (a := 41) (b := 11) (L := [.ref 1, .int s, .int (nI i)]) (st := []) (m := m) rfl (fun h => absurd h (nI_ge hi (by decide))) (fun _ => ?_)
    refine dx_blk 4 (c' := (17, [.ref 1, .int s, .int (nI i)], [.int (nI i), .ref 2, .int s], m)) rfl ?_
    refine dx_aldN i rfl rfl rfl rfl hi ?_
    refine dx_blk 0 (c' := (18, [.ref 1, .int s, .int (nI i)], [.int (m.1 2 i), .int s], m)) rfl ?_
    refine dx_blk 1 (c' := (20, [.ref 1, .int s, .int (nI i)], [.int (-9), .int (m.1 2 i), .int s], m)) rfl ?_
    refine dx_br (q := (m.1 2 i) = (-9)) (a := 23) (b := 27) (L := [.ref 1, .int s, .int (nI i)]) (st := [.int s]) (m := m) rfl (fun h20 => ?_) (fun h20 => ?_)
    · refine dx_blk 6 (c' := (4, [.ref 1, .int (s + 0), .int ((nI i) + 1)], [], m)) rfl ?_
      simp only [st_sum] at hk
      first | (rw [if_pos (by assumption), nI_succ] at hk; exact hk) | (rw [if_neg (by assumption), nI_succ] at hk; exact hk)
    · refine dx_blk 3 (c' := (32, [.ref 1, .int s, .int (nI i)], [.int (nI i), .ref 2, .int s], m)) rfl ?_
      refine dx_aldN i rfl rfl rfl rfl hi ?_
      refine dx_blk 0 (c' := (33, [.ref 1, .int s, .int (nI i)], [.int (m.1 2 i), .int s], m)) rfl ?_
      refine dx_blk 4 (c' := (4, [.ref 1, .int (s + (m.1 2 i)), .int ((nI i) + 1)], [], m)) rfl ?_
      simp only [st_sum] at hk
      first | (rw [if_pos (by assumption), nI_succ] at hk; exact hk) | (rw [if_neg (by assumption), nI_succ] at hk; exact hk)
  · refine dx_blk 0 (c' := (4, [.ref 1, .int (nf (st_sum (m.1 2)) 144 0), .int (nI 144)], [], m)) rfl ?_
    refine dx_blk 2 (c' := (8, [.ref 1, .int (nf (st_sum (m.1 2)) 144 0), .int (nI 144)], [.int 144, .int (nI 144)], m)) rfl ?_
    refine dx_br (q := 144 ≤ (nI 144)) (a := 41) (b := 11) (L := [.ref 1, .int (nf (st_sum (m.1 2)) 144 0), .int (nI 144)]) (st := []) (m := m) rfl (fun _ => ?_) (fun h => absurd (nI_le (Nat.le_refl _) (by decide)) h)
    refine dx_blk 1 (c' := (42, [.ref 1, .int (nf (st_sum (m.1 2)) 144 0), .int (nI 144)], [.int (nf (st_sum (m.1 2)) 144 0)], m)) rfl ?_
    exact dx_ret (r := some (.int (nf (st_sum (m.1 2)) 144 0))) rfl h
set_option maxRecDepth 20000 in
theorem sX4_squareMany {d : Nat}  (m : dx_M) {Z : Option Value → dx_M → Prop} (h : Z (some (.int (n_cnt (m.1 2)))) m) : dx_Sem dx_P lx_M (d + 1) 111 [.ref 0] m Z := by
  refine dx_sem km_X4_squareMany rfl rfl ?_
  refine dx_blk 0 (c' := (0, [.ref 0, .null, .null], [], m)) rfl ?_
  refine dx_blk 4 (c' := (4, [.ref 0, .int 0, .int 0], [], m)) rfl ?_
  refine dx_blk 0 (c' := (4, [.ref 0, .int 0, .int (nI 0)], [], m)) rfl ?_
  refine dx_for (fun (i : Nat) (s : Int32) => ((4, [.ref 0, .int s, .int (nI i)], [], m) : dx_F)) (st_cnt (m.1 2)) (fun _ _ => True) 144 0 trivial (fun i s hi hI hk => ?_) (fun _ _ _ _ => trivial) (fun hN => ?_)
  · refine dx_blk 0 (c' := (4, [.ref 0, .int s, .int (nI i)], [], m)) rfl ?_
    refine dx_blk 2 (c' := (8, [.ref 0, .int s, .int (nI i)], [.int 144, .int (nI i)], m)) rfl ?_
    refine dx_br (q := 144 ≤ (nI i)) (a := 36) (b := 11) (L := [.ref 0, .int s, .int (nI i)]) (st := []) (m := m) rfl (fun h => absurd h (nI_ge hi (by decide))) (fun _ => ?_)
    refine dx_blk 4 (c' := (17, [.ref 0, .int s, .int (nI i)], [.int (nI i), .ref 2, .int s], m)) rfl ?_
    refine dx_aldN i rfl rfl rfl rfl hi ?_
    refine dx_blk 0 (c' := (18, [.ref 0, .int s, .int (nI i)], [.int (m.1 2 i), .int s], m)) rfl ?_
    refine dx_blk 1 (c' := (20, [.ref 0, .int s, .int (nI i)], [.int (-9), .int (m.1 2 i), .int s], m)) rfl ?_
    refine dx_br (q := (m.1 2 i) = (-9)) (a := 23) (b := 27) (L := [.ref 0, .int s, .int (nI i)]) (st := [.int s]) (m := m) rfl (fun h20 => ?_) (fun h20 => ?_)
    · refine dx_blk 6 (c' := (4, [.ref 0, .int (s + 0), .int ((nI i) + 1)], [], m)) rfl ?_
      simp only [st_cnt] at hk
      first | (rw [if_pos (by assumption), nI_succ] at hk; exact hk) | (rw [if_neg (by assumption), nI_succ] at hk; exact hk)
    · refine dx_blk 5 (c' := (4, [.ref 0, .int (s + 1), .int ((nI i) + 1)], [], m)) rfl ?_
      simp only [st_cnt] at hk
      first | (rw [if_pos (by assumption), nI_succ] at hk; exact hk) | (rw [if_neg (by assumption), nI_succ] at hk; exact hk)
  · refine dx_blk 0 (c' := (4, [.ref 0, .int (nf (st_cnt (m.1 2)) 144 0), .int (nI 144)], [], m)) rfl ?_
    refine dx_blk 2 (c' := (8, [.ref 0, .int (nf (st_cnt (m.1 2)) 144 0), .int (nI 144)], [.int 144, .int (nI 144)], m)) rfl ?_
    refine dx_br (q := 144 ≤ (nI 144)) (a := 36) (b := 11) (L := [.ref 0, .int (nf (st_cnt (m.1 2)) 144 0), .int (nI 144)]) (st := []) (m := m) rfl (fun _ => ?_) (fun h => absurd (nI_le (Nat.le_refl _) (by decide)) h)
    refine dx_blk 1 (c' := (37, [.ref 0, .int (nf (st_cnt (m.1 2)) 144 0), .int (nI 144)], [.int (nf (st_cnt (m.1 2)) 144 0)], m)) rfl ?_
    exact dx_ret (r := some (.int (nf (st_cnt (m.1 2)) 144 0))) rfl h
set_option maxRecDepth 20000 in
theorem sX4_squareWeights {d : Nat}  (m : dx_M) {Z : Option Value → dx_M → Prop} (h : Z (some (.int (n_sum (m.1 2)))) m) : dx_Sem dx_P lx_M (d + 1) 112 [.ref 0] m Z := by
  refine dx_sem km_X4_squareWeights rfl rfl ?_
  refine dx_blk 0 (c' := (0, [.ref 0, .null, .null], [], m)) rfl ?_
  refine dx_blk 4 (c' := (4, [.ref 0, .int 0, .int 0], [], m)) rfl ?_
  refine dx_blk 0 (c' := (4, [.ref 0, .int 0, .int (nI 0)], [], m)) rfl ?_
  refine dx_for (fun (i : Nat) (s : Int32) => ((4, [.ref 0, .int s, .int (nI i)], [], m) : dx_F)) (st_sum (m.1 2)) (fun _ _ => True) 144 0 trivial (fun i s hi hI hk => ?_) (fun _ _ _ _ => trivial) (fun hN => ?_)
  · refine dx_blk 0 (c' := (4, [.ref 0, .int s, .int (nI i)], [], m)) rfl ?_
    refine dx_blk 2 (c' := (8, [.ref 0, .int s, .int (nI i)], [.int 144, .int (nI i)], m)) rfl ?_
    refine dx_br (q := 144 ≤ (nI i)) (a := 41) (b := 11) (L := [.ref 0, .int s, .int (nI i)]) (st := []) (m := m) rfl (fun h => absurd h (nI_ge hi (by decide))) (fun _ => ?_)
    refine dx_blk 4 (c' := (17, [.ref 0, .int s, .int (nI i)], [.int (nI i), .ref 2, .int s], m)) rfl ?_
    refine dx_aldN i rfl rfl rfl rfl hi ?_
    refine dx_blk 0 (c' := (18, [.ref 0, .int s, .int (nI i)], [.int (m.1 2 i), .int s], m)) rfl ?_
    refine dx_blk 1 (c' := (20, [.ref 0, .int s, .int (nI i)], [.int (-9), .int (m.1 2 i), .int s], m)) rfl ?_
    refine dx_br (q := (m.1 2 i) = (-9)) (a := 23) (b := 27) (L := [.ref 0, .int s, .int (nI i)]) (st := [.int s]) (m := m) rfl (fun h20 => ?_) (fun h20 => ?_)
    · refine dx_blk 6 (c' := (4, [.ref 0, .int (s + 0), .int ((nI i) + 1)], [], m)) rfl ?_
      simp only [st_sum] at hk
      first | (rw [if_pos (by assumption), nI_succ] at hk; exact hk) | (rw [if_neg (by assumption), nI_succ] at hk; exact hk)
    · refine dx_blk 3 (c' := (32, [.ref 0, .int s, .int (nI i)], [.int (nI i), .ref 2, .int s], m)) rfl ?_
      refine dx_aldN i rfl rfl rfl rfl hi ?_
      refine dx_blk 0 (c' := (33, [.ref 0, .int s, .int (nI i)], [.int (m.1 2 i), .int s], m)) rfl ?_
      refine dx_blk 4 (c' := (4, [.ref 0, .int (s + (m.1 2 i)), .int ((nI i) + 1)], [], m)) rfl ?_
      simp only [st_sum] at hk
      first | (rw [if_pos (by assumption), nI_succ] at hk; exact hk) | (rw [if_neg (by assumption), nI_succ] at hk; exact hk)
  · refine dx_blk 0 (c' := (4, [.ref 0, .int (nf (st_sum (m.1 2)) 144 0), .int (nI 144)], [], m)) rfl ?_
    refine dx_blk 2 (c' := (8, [.ref 0, .int (nf (st_sum (m.1 2)) 144 0), .int (nI 144)], [.int 144, .int (nI 144)], m)) rfl ?_
    refine dx_br (q := 144 ≤ (nI 144)) (a := 41) (b := 11) (L := [.ref 0, .int (nf (st_sum (m.1 2)) 144 0), .int (nI 144)]) (st := []) (m := m) rfl (fun _ => ?_) (fun h => absurd (nI_le (Nat.le_refl _) (by decide)) h)
    refine dx_blk 1 (c' := (42, [.ref 0, .int (nf (st_sum (m.1 2)) 144 0), .int (nI 144)], [.int (nf (st_sum (m.1 2)) 144 0)], m)) rfl ?_
    exact dx_ret (r := some (.int (nf (st_sum (m.1 2)) 144 0))) rfl h
end
section
/-! the log, squares, water, sheets: both programs (printed by wip/whole/g12.py) -/
def fndX (m : dx_M) (f : Nat) : dx_M := dx_pI (dx_pI m 0 8 (nI f)) 9 f (m.1 9 f + 1)
def fndM (m : dx_M) (f : Nat) : dx_M := dx_pI (dx_pI m 0 0 (nI f)) 1 f (m.1 1 f + 1)
theorem lx_row : ∀ a, a < 6 → lx_X[20 + a]? = some (.inr (1, 12, []))
  | 0, _ => rfl
  | 1, _ => rfl
  | 2, _ => rfl
  | 3, _ => rfl
  | 4, _ => rfl
  | 5, _ => rfl
  | n + 6, h => absurd h (by omega)
theorem lx_ld : ∀ a, a < 10 → lx_X[10 + a]? = some (.inl (2, [(1, 0), (0, 0), (0, 0), (0, 0), (0, 0), (0, 0)]))
  | 0, _ => rfl
  | 1, _ => rfl
  | 2, _ => rfl
  | 3, _ => rfl
  | 4, _ => rfl
  | 5, _ => rfl
  | 6, _ => rfl
  | 7, _ => rfl
  | 8, _ => rfl
  | 9, _ => rfl
  | n + 10, h => absurd h (by omega)
theorem lx_rs7 : ∀ a, a < 6 → ([20, 21, 22, 23, 24, 25] : List Nat)[a]? = some (20 + a) := by decide
theorem lx_rs6 : ∀ a, a < 10 → ([10, 11, 12, 13, 14, 15, 16, 17, 18, 19] : List Nat)[a]? = some (10 + a) := by decide
theorem in_N {x M : Int32} {n : Nat} (hM : M.toInt = n) (h : inI x 0 M = true) : ∃ j : Nat, j ≤ n ∧ x = nI j := by
  obtain ⟨h1, h2⟩ := inI_t.mp h
  exact nI_of2 hM (by rw [fa_lt]; rw [fa_le] at h1; omega) h2
theorem in_W {x : Int32} {W : Nat} (hW : W ≤ 12) (h : inI x 0 (nI W - 1) = true) : ∃ j : Nat, j < W ∧ x = nI j := by
  obtain ⟨h1, h2⟩ := inI_t.mp h
  rw [fa_le] at h1 h2
  have e1 : (nI W - 1).toInt = (W : Int) - 1 := pk_sub_toInt (a := W) (b := 1) (by omega) (by decide)
  have e0 : (0 : Int32).toInt = 0 := rfl
  have e2 : ¬ x < 0 := by rw [fa_lt]; omega
  obtain ⟨j, hj, rfl⟩ := nI_of e2
  rw [e1, nI_toInt hj] at h2
  exact ⟨j, by omega, rfl⟩
theorem W_in {j W : Nat} (hW : W ≤ 12) (h : j < W) : inI (nI j) 0 (nI W - 1) = true := by
  refine inI_t.mpr ⟨nI_pos' (by omega), ?_⟩
  rw [fa_le, nI_toInt (by omega)]
  have e1 : (nI W - 1).toInt = (W : Int) - 1 := pk_sub_toInt (a := W) (b := 1) (by omega) (by decide)
  omega
set_option maxRecDepth 20000 in
theorem sX3_find {d : Nat} (f : Nat) (hf : f < 6) (m : dx_M) {Z : Option Value → dx_M → Prop} (h : Z (some (.int (-3))) (fndX m f)) : dx_Sem dx_P lx_X (d + 1) 70 [.ref 0, .int (nI f)] m Z := by
  refine dx_sem km_X3_find rfl rfl ?_
  refine dx_blk 0 (c' := (0, [.ref 0, .int (nI f)], [], m)) rfl ?_
  refine dx_blk 7 (c' := (11, [.ref 0, .int (nI f)], [.int (nI f), .ref 9, .int (nI f), .ref 9], dx_pI m 0 8 (nI f))) rfl ?_
  refine dx_aldN f rfl rfl rfl rfl (by omega) ?_
  refine dx_blk 0 (c' := (12, [.ref 0, .int (nI f)], [.int (m.1 9 f), .int (nI f), .ref 9], dx_pI m 0 8 (nI f))) rfl ?_
  refine dx_blk 2 (c' := (14, [.ref 0, .int (nI f)], [.int ((m.1 9 f) + 1), .int (nI f), .ref 9], dx_pI m 0 8 (nI f))) rfl ?_
  refine dx_astN f rfl rfl rfl rfl (by omega) ?_
  refine dx_blk 0 (c' := (15, [.ref 0, .int (nI f)], [], dx_pI (dx_pI m 0 8 (nI f)) 9 f ((m.1 9 f) + 1))) rfl ?_
  refine dx_blk 1 (c' := (17, [.ref 0, .int (nI f)], [.int (-3)], dx_pI (dx_pI m 0 8 (nI f)) 9 f ((m.1 9 f) + 1))) rfl ?_
  exact dx_ret (r := some (.int (-3))) rfl h
set_option maxRecDepth 20000 in
theorem sX4_meets {d : Nat} (f : Nat) (hf : f < 6) (m : dx_M) {Z : Option Value → dx_M → Prop} (h : Z (some (.int (-3))) (fndM m f)) : dx_Sem dx_P lx_M (d + 1) 83 [.ref 0, .int (nI f)] m Z := by
  refine dx_sem km_X4_meets rfl rfl ?_
  refine dx_blk 0 (c' := (0, [.ref 0, .int (nI f)], [], m)) rfl ?_
  refine dx_blk 7 (c' := (11, [.ref 0, .int (nI f)], [.int (nI f), .ref 1, .int (nI f), .ref 1], dx_pI m 0 0 (nI f))) rfl ?_
  refine dx_aldN f rfl rfl rfl rfl (by omega) ?_
  refine dx_blk 0 (c' := (12, [.ref 0, .int (nI f)], [.int (m.1 1 f), .int (nI f), .ref 1], dx_pI m 0 0 (nI f))) rfl ?_
  refine dx_blk 2 (c' := (14, [.ref 0, .int (nI f)], [.int ((m.1 1 f) + 1), .int (nI f), .ref 1], dx_pI m 0 0 (nI f))) rfl ?_
  refine dx_astN f rfl rfl rfl rfl (by omega) ?_
  refine dx_blk 0 (c' := (15, [.ref 0, .int (nI f)], [], dx_pI (dx_pI m 0 0 (nI f)) 1 f ((m.1 1 f) + 1))) rfl ?_
  refine dx_blk 1 (c' := (17, [.ref 0, .int (nI f)], [.int (-3)], dx_pI (dx_pI m 0 0 (nI f)) 1 f ((m.1 1 f) + 1))) rfl ?_
  exact dx_ret (r := some (.int (-3))) rfl h
set_option maxRecDepth 20000 in
theorem sX4_begin {d : Nat} (w h : Int32) (m : dx_M) {Z : Option Value → dx_M → Prop} (h9 : Z none (dx_pR (dx_pI (dx_pI (dx_pI m 0 4 w) 0 5 h) 0 11 0) 2 (fa_fill (fun _ => -9) (m.1 2) 144))) : dx_Sem dx_P lx_M (d + 1) 90 [.ref 0, .int w, .int h] m Z := by
  refine dx_sem km_X4_begin rfl rfl ?_
  refine dx_blk 0 (c' := (0, [.ref 0, .int w, .int h, .null], [], m)) rfl ?_
  refine dx_blk 11 (c' := (17, [.ref 0, .int w, .int h, .int 0], [], dx_pI (dx_pI (dx_pI m 0 4 w) 0 5 h) 0 11 0)) rfl ?_
  refine dx_mem (m' := dx_pR (dx_pI (dx_pI (dx_pI m 0 4 w) 0 5 h) 0 11 0) 2 (fa_fill (fun _ => -9) (m.1 2) 0)) (by rw [fa_fill_0]; exact (dx_pR_self _ 2).symm) ?_
  refine dx_blk 0 (c' := (17, [.ref 0, .int w, .int h, .int (nI 0)], [], dx_pR (dx_pI (dx_pI (dx_pI m 0 4 w) 0 5 h) 0 11 0) 2 (fa_fill (fun _ => -9) (m.1 2) 0))) rfl ?_
  refine dx_for0 (fun (i : Nat) => ((17, [.ref 0, .int w, .int h, .int (nI i)], [], dx_pR (dx_pI (dx_pI (dx_pI m 0 4 w) 0 5 h) 0 11 0) 2 (fa_fill (fun _ => -9) (m.1 2) i)) : dx_F)) 144 (fun i hi hk => ?_) ?_
  · refine dx_blk 0 (c' := (17, [.ref 0, .int w, .int h, .int (nI i)], [], dx_pR (dx_pI (dx_pI (dx_pI m 0 4 w) 0 5 h) 0 11 0) 2 (fa_fill (fun _ => -9) (m.1 2) i))) rfl ?_
    refine dx_blk 2 (c' := (21, [.ref 0, .int w, .int h, .int (nI i)], [.int 144, .int (nI i)], dx_pR (dx_pI (dx_pI (dx_pI m 0 4 w) 0 5 h) 0 11 0) 2 (fa_fill (fun _ => -9) (m.1 2) i))) rfl ?_
    refine dx_br (q := 144 ≤ (nI i)) (a := 38) (b := 24) (L := [.ref 0, .int w, .int h, .int (nI i)]) (st := []) (m := dx_pR (dx_pI (dx_pI (dx_pI m 0 4 w) 0 5 h) 0 11 0) 2 (fa_fill (fun _ => -9) (m.1 2) i)) rfl (fun h => absurd h (nI_ge hi (by decide))) (fun _ => ?_)
    refine dx_blk 4 (c' := (31, [.ref 0, .int w, .int h, .int (nI i)], [.int (-9), .int (nI i), .ref 2], dx_pR (dx_pI (dx_pI (dx_pI m 0 4 w) 0 5 h) 0 11 0) 2 (fa_fill (fun _ => -9) (m.1 2) i))) rfl ?_
    refine dx_astN i rfl rfl rfl rfl hi ?_
    refine dx_blk 0 (c' := (32, [.ref 0, .int w, .int h, .int (nI i)], [], dx_pI (dx_pR (dx_pI (dx_pI (dx_pI m 0 4 w) 0 5 h) 0 11 0) 2 (fa_fill (fun _ => -9) (m.1 2) i)) 2 i (-9))) rfl ?_
    refine dx_blk 2 (c' := (17, [.ref 0, .int w, .int h, .int ((nI i) + 1)], [], dx_pI (dx_pR (dx_pI (dx_pI (dx_pI m 0 4 w) 0 5 h) 0 11 0) 2 (fa_fill (fun _ => -9) (m.1 2) i)) 2 i (-9))) rfl ?_
    rw [dx_pI_pR, show upd (fa_fill (fun _ => (-9 : Int32)) (m.1 2) i) i (-9) = fa_fill (fun _ => (-9 : Int32)) (m.1 2) (i + 1) from fa_fill_succ (fun _ => -9) (m.1 2) i, ← nI_succ]
    exact hk
  · refine dx_blk 0 (c' := (17, [.ref 0, .int w, .int h, .int (nI 144)], [], dx_pR (dx_pI (dx_pI (dx_pI m 0 4 w) 0 5 h) 0 11 0) 2 (fa_fill (fun _ => -9) (m.1 2) 144))) rfl ?_
    refine dx_blk 2 (c' := (21, [.ref 0, .int w, .int h, .int (nI 144)], [.int 144, .int (nI 144)], dx_pR (dx_pI (dx_pI (dx_pI m 0 4 w) 0 5 h) 0 11 0) 2 (fa_fill (fun _ => -9) (m.1 2) 144))) rfl ?_
    refine dx_br (q := 144 ≤ (nI 144)) (a := 38) (b := 24) (L := [.ref 0, .int w, .int h, .int (nI 144)]) (st := []) (m := dx_pR (dx_pI (dx_pI (dx_pI m 0 4 w) 0 5 h) 0 11 0) 2 (fa_fill (fun _ => -9) (m.1 2) 144)) rfl (fun _ => ?_) (fun h => absurd (nI_le (Nat.le_refl _) (by decide)) h)
    exact dx_ret (r := none) rfl h9
set_option maxRecDepth 20000 in
theorem sX3_log {d : Nat} (w h : Int32) (m : dx_M) {Z : Option Value → dx_M → Prop} (h1 : (inI w 1 12 && inI h 1 12) = false → Z (some (.int (-1))) m) (h2 : (inI w 1 12 && inI h 1 12) = true → Z (some (.int (w * h))) (dx_pI (dx_pR (dx_pI (dx_pI m 1 1 w) 1 2 h) 2 (fa_fill (fun _ => -9) (m.1 2) 144)) 0 7 0)) : dx_Sem dx_P lx_X (d + 2) 26 [.ref 0, .int w, .int h] m Z := by
  refine dx_sem km_X3_log rfl rfl ?_
  refine dx_blk 0 (c' := (0, [.ref 0, .int w, .int h], [], m)) rfl ?_
  refine dx_blk 3 (c' := (4, [.ref 0, .int w, .int h], [.int 12, .int 1, .int w], m)) rfl ?_
  refine dx_call (id := 64) (as := [.int w, .int 1, .int 12]) (rest := []) rfl ?_
  refine sX3_within w 1 12 _ ?_
  refine dx_blk 0 (c' := (7, [.ref 0, .int w, .int h], [.int (bI (inI w 1 12))], m)) rfl ?_
  refine dx_brB (B := (inI w 1 12)) (a := 20) (b := 10) (L := [.ref 0, .int w, .int h]) (st := []) (m := m) rfl (fun h7 => ?_) (fun h7 => ?_)
  · refine dx_blk 1 (c' := (21, [.ref 0, .int w, .int h], [.int (-1)], m)) rfl ?_
    exact dx_ret (r := some (.int (-1))) rfl (h1 (by simp [*]))
  · refine dx_blk 3 (c' := (14, [.ref 0, .int w, .int h], [.int 12, .int 1, .int h], m)) rfl ?_
    refine dx_call (id := 64) (as := [.int h, .int 1, .int 12]) (rest := []) rfl ?_
    refine sX3_within h 1 12 _ ?_
    refine dx_blk 0 (c' := (17, [.ref 0, .int w, .int h], [.int (bI (inI h 1 12))], m)) rfl ?_
    refine dx_brB (B := (inI h 1 12)) (a := 20) (b := 22) (L := [.ref 0, .int w, .int h]) (st := []) (m := m) rfl (fun h17 => ?_) (fun h17 => ?_)
    · refine dx_blk 1 (c' := (21, [.ref 0, .int w, .int h], [.int (-1)], m)) rfl ?_
      exact dx_ret (r := some (.int (-1))) rfl (h1 (by simp [*]))
    · refine dx_blk 4 (c' := (28, [.ref 0, .int w, .int h], [.int h, .int w, .ref 1], m)) rfl ?_
      refine dx_call (id := 0) (as := [.ref 1, .int w, .int h]) (rest := []) rfl ?_
      refine sX0_begin w h _ ?_
      refine dx_blk 0 (c' := (31, [.ref 0, .int w, .int h], [], dx_pR (dx_pI (dx_pI m 1 1 w) 1 2 h) 2 (fa_fill (fun _ => -9) (m.1 2) 144))) rfl ?_
      refine dx_blk 6 (c' := (39, [.ref 0, .int w, .int h], [.int (w * h)], dx_pI (dx_pR (dx_pI (dx_pI m 1 1 w) 1 2 h) 2 (fa_fill (fun _ => -9) (m.1 2) 144)) 0 7 0)) rfl ?_
      exact dx_ret (r := some (.int (w * h))) rfl (h2 (by simp [*]))
set_option maxRecDepth 20000 in
theorem sX4_log {d : Nat} (w h : Int32) (m : dx_M) {Z : Option Value → dx_M → Prop} (h1 : (inI w 1 12 && inI h 1 12) = false → Z (some (.int (-1))) m) (h2 : (inI w 1 12 && inI h 1 12) = true → Z (some (.int (w * h))) (dx_pR (dx_pI (dx_pI (dx_pI m 0 4 w) 0 5 h) 0 11 0) 2 (fa_fill (fun _ => -9) (m.1 2) 144))) : dx_Sem dx_P lx_M (d + 2) 91 [.ref 0, .int w, .int h] m Z := by
  refine dx_sem km_X4_log rfl rfl ?_
  refine dx_blk 0 (c' := (0, [.ref 0, .int w, .int h], [], m)) rfl ?_
  refine dx_blk 3 (c' := (4, [.ref 0, .int w, .int h], [.int 12, .int 1, .int w], m)) rfl ?_
  refine dx_call (id := 82) (as := [.int w, .int 1, .int 12]) (rest := []) rfl ?_
  refine sX4_in w 1 12 _ ?_
  refine dx_blk 0 (c' := (7, [.ref 0, .int w, .int h], [.int (bI (inI w 1 12))], m)) rfl ?_
  refine dx_brB (B := (inI w 1 12)) (a := 20) (b := 10) (L := [.ref 0, .int w, .int h]) (st := []) (m := m) rfl (fun h7 => ?_) (fun h7 => ?_)
  · refine dx_blk 1 (c' := (21, [.ref 0, .int w, .int h], [.int (-1)], m)) rfl ?_
    exact dx_ret (r := some (.int (-1))) rfl (h1 (by simp [*]))
  · refine dx_blk 3 (c' := (14, [.ref 0, .int w, .int h], [.int 12, .int 1, .int h], m)) rfl ?_
    refine dx_call (id := 82) (as := [.int h, .int 1, .int 12]) (rest := []) rfl ?_
    refine sX4_in h 1 12 _ ?_
    refine dx_blk 0 (c' := (17, [.ref 0, .int w, .int h], [.int (bI (inI h 1 12))], m)) rfl ?_
    refine dx_brB (B := (inI h 1 12)) (a := 20) (b := 22) (L := [.ref 0, .int w, .int h]) (st := []) (m := m) rfl (fun h17 => ?_) (fun h17 => ?_)
    · refine dx_blk 1 (c' := (21, [.ref 0, .int w, .int h], [.int (-1)], m)) rfl ?_
      exact dx_ret (r := some (.int (-1))) rfl (h1 (by simp [*]))
    · refine dx_blk 3 (c' := (25, [.ref 0, .int w, .int h], [.int h, .int w, .ref 0], m)) rfl ?_
      refine dx_call (id := 90) (as := [.ref 0, .int w, .int h]) (rest := []) rfl ?_
      refine sX4_begin w h _ ?_
      refine dx_blk 0 (c' := (28, [.ref 0, .int w, .int h], [], dx_pR (dx_pI (dx_pI (dx_pI m 0 4 w) 0 5 h) 0 11 0) 2 (fa_fill (fun _ => -9) (m.1 2) 144))) rfl ?_
      refine dx_blk 3 (c' := (31, [.ref 0, .int w, .int h], [.int (w * h)], dx_pR (dx_pI (dx_pI (dx_pI m 0 4 w) 0 5 h) 0 11 0) 2 (fa_fill (fun _ => -9) (m.1 2) 144))) rfl ?_
      exact dx_ret (r := some (.int (w * h))) rfl (h2 (by simp [*]))
set_option maxRecDepth 20000 in
theorem sX3_square {d : Nat} (m : dx_M) {W H : Nat} (hW : W ≤ 12) (hH : H ≤ 12) (eW : m.1 1 1 = nI W) (eH : m.1 1 2 = nI H) (x y v : Int32) {Z : Option Value → dx_M → Prop} (h1 : ((inI x 0 (nI W - 1) && inI y 0 (nI H - 1)) && (decide (v = -9) || inI v 0 20)) = false → Z (some (.int (-1))) m) (h2 : ∀ a b, a < W → b < H → x = nI a → y = nI b → (decide (v = -9) || inI v 0 20) = true → Z (some (.int (m.1 2 (b * 12 + a)))) (dx_pI m 2 (b * 12 + a) v)) : dx_Sem dx_P lx_X (d + 3) 27 [.ref 0, .int x, .int y, .int v] m Z := by
  refine dx_sem km_X3_square rfl rfl ?_
  refine dx_blk 0 (c' := (0, [.ref 0, .int x, .int y, .int v, .null], [], m)) rfl ?_
  refine dx_blk 4 (c' := (6, [.ref 0, .int x, .int y, .int v, .null], [.int y, .int x, .ref 1], m)) rfl ?_
  refine dx_call (id := 1) (as := [.ref 1, .int x, .int y]) (rest := []) rfl ?_
  refine sX0_has x y _ ?_
  refine dx_blk 0 (c' := (9, [.ref 0, .int x, .int y, .int v, .null], [.int (bI (inI x 0 (m.1 1 1 - 1) && inI y 0 (m.1 1 2 - 1)))], m)) rfl ?_
  refine dx_brB (B := (inI x 0 (m.1 1 1 - 1) && inI y 0 (m.1 1 2 - 1))) (a := 28) (b := 12) (L := [.ref 0, .int x, .int y, .int v, .null]) (st := []) (m := m) rfl (fun h9 => ?_) (fun h9 => ?_)
  · refine dx_blk 1 (c' := (29, [.ref 0, .int x, .int y, .int v, .null], [.int (-1)], m)) rfl ?_
    exact dx_ret (r := some (.int (-1))) rfl (h1 (by simp_all))
  · refine dx_blk 2 (c' := (15, [.ref 0, .int x, .int y, .int v, .null], [.int (-9), .int v], m)) rfl ?_
    refine dx_br (q := v = (-9)) (a := 30) (b := 18) (L := [.ref 0, .int x, .int y, .int v, .null]) (st := []) (m := m) rfl (fun h15 => ?_) (fun h15 => ?_)
    · rw [eW, eH, Bool.and_eq_true] at h9
      obtain ⟨hx0, hy0⟩ := h9
      obtain ⟨a, ha, rfl⟩ := in_W hW hx0
      obtain ⟨b, hb, rfl⟩ := in_W hH hy0
      refine dx_blk 4 (c' := (36, [.ref 0, .int (nI a), .int (nI b), .int v, .null], [.int (nI b), .int (nI a), .ref 1], m)) rfl ?_
      refine dx_call (id := 2) (as := [.ref 1, .int (nI a), .int (nI b)]) (rest := []) rfl ?_
      refine sX0_weightOf (a := a) (b := b) (by omega) (by omega) _ ?_
      refine dx_blk 0 (c' := (39, [.ref 0, .int (nI a), .int (nI b), .int v, .null], [.int (m.1 2 (b * 12 + a))], m)) rfl ?_
      refine dx_blk 6 (c' := (48, [.ref 0, .int (nI a), .int (nI b), .int v, .int (m.1 2 (b * 12 + a))], [.int v, .int (nI b), .int (nI a), .ref 1], m)) rfl ?_
      refine dx_call (id := 3) (as := [.ref 1, .int (nI a), .int (nI b), .int v]) (rest := []) rfl ?_
      refine sX0_put (a := a) (b := b) v (by omega) (by omega) _ ?_
      refine dx_blk 0 (c' := (51, [.ref 0, .int (nI a), .int (nI b), .int v, .int (m.1 2 (b * 12 + a))], [], dx_pI m 2 (b * 12 + a) v)) rfl ?_
      refine dx_blk 1 (c' := (53, [.ref 0, .int (nI a), .int (nI b), .int v, .int (m.1 2 (b * 12 + a))], [.int (m.1 2 (b * 12 + a))], dx_pI m 2 (b * 12 + a) v)) rfl ?_
      exact dx_ret (r := some (.int (m.1 2 (b * 12 + a)))) rfl (h2 a b ha hb rfl rfl (by simp [*]))
    · refine dx_blk 3 (c' := (22, [.ref 0, .int x, .int y, .int v, .null], [.int 20, .int 0, .int v], m)) rfl ?_
      refine dx_call (id := 64) (as := [.int v, .int 0, .int 20]) (rest := []) rfl ?_
      refine sX3_within v 0 20 _ ?_
      refine dx_blk 0 (c' := (25, [.ref 0, .int x, .int y, .int v, .null], [.int (bI (inI v 0 20))], m)) rfl ?_
      refine dx_brB (B := (inI v 0 20)) (a := 28) (b := 30) (L := [.ref 0, .int x, .int y, .int v, .null]) (st := []) (m := m) rfl (fun h25 => ?_) (fun h25 => ?_)
      · refine dx_blk 1 (c' := (29, [.ref 0, .int x, .int y, .int v, .null], [.int (-1)], m)) rfl ?_
        exact dx_ret (r := some (.int (-1))) rfl (h1 (by simp_all))
      · rw [eW, eH, Bool.and_eq_true] at h9
        obtain ⟨hx0, hy0⟩ := h9
        obtain ⟨a, ha, rfl⟩ := in_W hW hx0
        obtain ⟨b, hb, rfl⟩ := in_W hH hy0
        refine dx_blk 4 (c' := (36, [.ref 0, .int (nI a), .int (nI b), .int v, .null], [.int (nI b), .int (nI a), .ref 1], m)) rfl ?_
        refine dx_call (id := 2) (as := [.ref 1, .int (nI a), .int (nI b)]) (rest := []) rfl ?_
        refine sX0_weightOf (a := a) (b := b) (by omega) (by omega) _ ?_
        refine dx_blk 0 (c' := (39, [.ref 0, .int (nI a), .int (nI b), .int v, .null], [.int (m.1 2 (b * 12 + a))], m)) rfl ?_
        refine dx_blk 6 (c' := (48, [.ref 0, .int (nI a), .int (nI b), .int v, .int (m.1 2 (b * 12 + a))], [.int v, .int (nI b), .int (nI a), .ref 1], m)) rfl ?_
        refine dx_call (id := 3) (as := [.ref 1, .int (nI a), .int (nI b), .int v]) (rest := []) rfl ?_
        refine sX0_put (a := a) (b := b) v (by omega) (by omega) _ ?_
        refine dx_blk 0 (c' := (51, [.ref 0, .int (nI a), .int (nI b), .int v, .int (m.1 2 (b * 12 + a))], [], dx_pI m 2 (b * 12 + a) v)) rfl ?_
        refine dx_blk 1 (c' := (53, [.ref 0, .int (nI a), .int (nI b), .int v, .int (m.1 2 (b * 12 + a))], [.int (m.1 2 (b * 12 + a))], dx_pI m 2 (b * 12 + a) v)) rfl ?_
        exact dx_ret (r := some (.int (m.1 2 (b * 12 + a)))) rfl (h2 a b ha hb rfl rfl (by simp [*]))
set_option maxRecDepth 20000 in
theorem sX4_square {d : Nat} (m : dx_M) {W H : Nat} (hW : W ≤ 12) (hH : H ≤ 12) (eW : m.1 0 4 = nI W) (eH : m.1 0 5 = nI H) (x y v : Int32) {Z : Option Value → dx_M → Prop} (h1 : ((inI x 0 (nI W - 1) && inI y 0 (nI H - 1)) && (decide (v = -9) || inI v 0 20)) = false → Z (some (.int (-1))) m) (h2 : ∀ a b, a < W → b < H → x = nI a → y = nI b → (decide (v = -9) || inI v 0 20) = true → Z (some (.int (m.1 2 (12 * b + a)))) (dx_pI m 2 (12 * b + a) v)) : dx_Sem dx_P lx_M (d + 3) 93 [.ref 0, .int x, .int y, .int v] m Z := by
  refine dx_sem km_X4_square rfl rfl ?_
  refine dx_blk 0 (c' := (0, [.ref 0, .int x, .int y, .int v, .null], [], m)) rfl ?_
  refine dx_blk 3 (c' := (3, [.ref 0, .int x, .int y, .int v, .null], [.int y, .int x, .ref 0], m)) rfl ?_
  refine dx_call (id := 92) (as := [.ref 0, .int x, .int y]) (rest := []) rfl ?_
  refine sX4_isPlace x y _ ?_
  refine dx_blk 0 (c' := (6, [.ref 0, .int x, .int y, .int v, .null], [.int (bI (inI x 0 (m.1 0 4 - 1) && inI y 0 (m.1 0 5 - 1)))], m)) rfl ?_
  refine dx_brB (B := (inI x 0 (m.1 0 4 - 1) && inI y 0 (m.1 0 5 - 1))) (a := 25) (b := 9) (L := [.ref 0, .int x, .int y, .int v, .null]) (st := []) (m := m) rfl (fun h6 => ?_) (fun h6 => ?_)
  · refine dx_blk 1 (c' := (26, [.ref 0, .int x, .int y, .int v, .null], [.int (-1)], m)) rfl ?_
    exact dx_ret (r := some (.int (-1))) rfl (h1 (by simp_all))
  · refine dx_blk 2 (c' := (12, [.ref 0, .int x, .int y, .int v, .null], [.int (-9), .int v], m)) rfl ?_
    refine dx_br (q := v = (-9)) (a := 27) (b := 15) (L := [.ref 0, .int x, .int y, .int v, .null]) (st := []) (m := m) rfl (fun h12 => ?_) (fun h12 => ?_)
    · rw [eW, eH, Bool.and_eq_true] at h6
      obtain ⟨hx0, hy0⟩ := h6
      obtain ⟨a, ha, rfl⟩ := in_W hW hx0
      obtain ⟨b, hb, rfl⟩ := in_W hH hy0
      refine dx_blk 7 (c' := (37, [.ref 0, .int (nI a), .int (nI b), .int v, .null], [.int ((12 * (nI b)) + (nI a)), .ref 2], m)) rfl ?_
      refine dx_aldN (12 * b + a) rfl rfl rfl (nI_ix2 b a) (by omega) ?_
      refine dx_blk 0 (c' := (38, [.ref 0, .int (nI a), .int (nI b), .int v, .null], [.int (m.1 2 (12 * b + a))], m)) rfl ?_
      refine dx_blk 9 (c' := (51, [.ref 0, .int (nI a), .int (nI b), .int v, .int (m.1 2 (12 * b + a))], [.int v, .int ((12 * (nI b)) + (nI a)), .ref 2], m)) rfl ?_
      refine dx_astN (12 * b + a) rfl rfl rfl (nI_ix2 b a) (by omega) ?_
      refine dx_blk 0 (c' := (52, [.ref 0, .int (nI a), .int (nI b), .int v, .int (m.1 2 (12 * b + a))], [], dx_pI m 2 (12 * b + a) v)) rfl ?_
      refine dx_blk 1 (c' := (54, [.ref 0, .int (nI a), .int (nI b), .int v, .int (m.1 2 (12 * b + a))], [.int (m.1 2 (12 * b + a))], dx_pI m 2 (12 * b + a) v)) rfl ?_
      exact dx_ret (r := some (.int (m.1 2 (12 * b + a)))) rfl (h2 a b ha hb rfl rfl (by simp [*]))
    · refine dx_blk 3 (c' := (19, [.ref 0, .int x, .int y, .int v, .null], [.int 20, .int 0, .int v], m)) rfl ?_
      refine dx_call (id := 82) (as := [.int v, .int 0, .int 20]) (rest := []) rfl ?_
      refine sX4_in v 0 20 _ ?_
      refine dx_blk 0 (c' := (22, [.ref 0, .int x, .int y, .int v, .null], [.int (bI (inI v 0 20))], m)) rfl ?_
      refine dx_brB (B := (inI v 0 20)) (a := 25) (b := 27) (L := [.ref 0, .int x, .int y, .int v, .null]) (st := []) (m := m) rfl (fun h22 => ?_) (fun h22 => ?_)
      · refine dx_blk 1 (c' := (26, [.ref 0, .int x, .int y, .int v, .null], [.int (-1)], m)) rfl ?_
        exact dx_ret (r := some (.int (-1))) rfl (h1 (by simp_all))
      · rw [eW, eH, Bool.and_eq_true] at h6
        obtain ⟨hx0, hy0⟩ := h6
        obtain ⟨a, ha, rfl⟩ := in_W hW hx0
        obtain ⟨b, hb, rfl⟩ := in_W hH hy0
        refine dx_blk 7 (c' := (37, [.ref 0, .int (nI a), .int (nI b), .int v, .null], [.int ((12 * (nI b)) + (nI a)), .ref 2], m)) rfl ?_
        refine dx_aldN (12 * b + a) rfl rfl rfl (nI_ix2 b a) (by omega) ?_
        refine dx_blk 0 (c' := (38, [.ref 0, .int (nI a), .int (nI b), .int v, .null], [.int (m.1 2 (12 * b + a))], m)) rfl ?_
        refine dx_blk 9 (c' := (51, [.ref 0, .int (nI a), .int (nI b), .int v, .int (m.1 2 (12 * b + a))], [.int v, .int ((12 * (nI b)) + (nI a)), .ref 2], m)) rfl ?_
        refine dx_astN (12 * b + a) rfl rfl rfl (nI_ix2 b a) (by omega) ?_
        refine dx_blk 0 (c' := (52, [.ref 0, .int (nI a), .int (nI b), .int v, .int (m.1 2 (12 * b + a))], [], dx_pI m 2 (12 * b + a) v)) rfl ?_
        refine dx_blk 1 (c' := (54, [.ref 0, .int (nI a), .int (nI b), .int v, .int (m.1 2 (12 * b + a))], [.int (m.1 2 (12 * b + a))], dx_pI m 2 (12 * b + a) v)) rfl ?_
        exact dx_ret (r := some (.int (m.1 2 (12 * b + a)))) rfl (h2 a b ha hb rfl rfl (by simp [*]))
set_option maxRecDepth 20000 in
theorem sX3_at {d : Nat} (m : dx_M) {W H : Nat} (hW : W ≤ 12) (hH : H ≤ 12) (eW : m.1 1 1 = nI W) (eH : m.1 1 2 = nI H) (x y : Int32) {Z : Option Value → dx_M → Prop} (h1 : (inI x 0 (nI W - 1) && inI y 0 (nI H - 1)) = false → Z (some (.int (-1))) m) (h2 : ∀ a b, a < W → b < H → x = nI a → y = nI b → Z (some (.int (m.1 2 (b * 12 + a)))) m) : dx_Sem dx_P lx_X (d + 3) 28 [.ref 0, .int x, .int y] m Z := by
  refine dx_sem km_X3_at rfl rfl ?_
  refine dx_blk 0 (c' := (0, [.ref 0, .int x, .int y], [], m)) rfl ?_
  refine dx_blk 4 (c' := (6, [.ref 0, .int x, .int y], [.int y, .int x, .ref 1], m)) rfl ?_
  refine dx_call (id := 1) (as := [.ref 1, .int x, .int y]) (rest := []) rfl ?_
  refine sX0_has x y _ ?_
  refine dx_blk 0 (c' := (9, [.ref 0, .int x, .int y], [.int (bI (inI x 0 (m.1 1 1 - 1) && inI y 0 (m.1 1 2 - 1)))], m)) rfl ?_
  refine dx_brB (B := (inI x 0 (m.1 1 1 - 1) && inI y 0 (m.1 1 2 - 1))) (a := 24) (b := 12) (L := [.ref 0, .int x, .int y]) (st := []) (m := m) rfl (fun h9 => ?_) (fun h9 => ?_)
  · refine dx_blk 1 (c' := (25, [.ref 0, .int x, .int y], [.int (-1)], m)) rfl ?_
    exact dx_ret (r := some (.int (-1))) rfl (h1 (by simp_all))
  · rw [eW, eH, Bool.and_eq_true] at h9
    obtain ⟨hx0, hy0⟩ := h9
    obtain ⟨a, ha, rfl⟩ := in_W hW hx0
    obtain ⟨b, hb, rfl⟩ := in_W hH hy0
    refine dx_blk 4 (c' := (18, [.ref 0, .int (nI a), .int (nI b)], [.int (nI b), .int (nI a), .ref 1], m)) rfl ?_
    refine dx_call (id := 2) (as := [.ref 1, .int (nI a), .int (nI b)]) (rest := []) rfl ?_
    refine sX0_weightOf (a := a) (b := b) (by omega) (by omega) _ ?_
    refine dx_blk 0 (c' := (21, [.ref 0, .int (nI a), .int (nI b)], [.int (m.1 2 (b * 12 + a))], m)) rfl ?_
    refine dx_blk 1 (c' := (25, [.ref 0, .int (nI a), .int (nI b)], [.int (m.1 2 (b * 12 + a))], m)) rfl ?_
    exact dx_ret (r := some (.int (m.1 2 (b * 12 + a)))) rfl (h2 a b ha hb rfl rfl)
set_option maxRecDepth 20000 in
theorem sX4_at {d : Nat} (m : dx_M) {W H : Nat} (hW : W ≤ 12) (hH : H ≤ 12) (eW : m.1 0 4 = nI W) (eH : m.1 0 5 = nI H) (x y : Int32) {Z : Option Value → dx_M → Prop} (h1 : (inI x 0 (nI W - 1) && inI y 0 (nI H - 1)) = false → Z (some (.int (-1))) m) (h2 : ∀ a b, a < W → b < H → x = nI a → y = nI b → Z (some (.int (m.1 2 (12 * b + a)))) m) : dx_Sem dx_P lx_M (d + 3) 94 [.ref 0, .int x, .int y] m Z := by
  refine dx_sem km_X4_at rfl rfl ?_
  refine dx_blk 0 (c' := (0, [.ref 0, .int x, .int y], [], m)) rfl ?_
  refine dx_blk 3 (c' := (3, [.ref 0, .int x, .int y], [.int y, .int x, .ref 0], m)) rfl ?_
  refine dx_call (id := 92) (as := [.ref 0, .int x, .int y]) (rest := []) rfl ?_
  refine sX4_isPlace x y _ ?_
  refine dx_blk 0 (c' := (6, [.ref 0, .int x, .int y], [.int (bI (inI x 0 (m.1 0 4 - 1) && inI y 0 (m.1 0 5 - 1)))], m)) rfl ?_
  refine dx_brB (B := (inI x 0 (m.1 0 4 - 1) && inI y 0 (m.1 0 5 - 1))) (a := 23) (b := 9) (L := [.ref 0, .int x, .int y]) (st := []) (m := m) rfl (fun h6 => ?_) (fun h6 => ?_)
  · refine dx_blk 1 (c' := (24, [.ref 0, .int x, .int y], [.int (-1)], m)) rfl ?_
    exact dx_ret (r := some (.int (-1))) rfl (h1 (by simp_all))
  · rw [eW, eH, Bool.and_eq_true] at h6
    obtain ⟨hx0, hy0⟩ := h6
    obtain ⟨a, ha, rfl⟩ := in_W hW hx0
    obtain ⟨b, hb, rfl⟩ := in_W hH hy0
    refine dx_blk 7 (c' := (19, [.ref 0, .int (nI a), .int (nI b)], [.int ((12 * (nI b)) + (nI a)), .ref 2], m)) rfl ?_
    refine dx_aldN (12 * b + a) rfl rfl rfl (nI_ix2 b a) (by omega) ?_
    refine dx_blk 0 (c' := (20, [.ref 0, .int (nI a), .int (nI b)], [.int (m.1 2 (12 * b + a))], m)) rfl ?_
    refine dx_blk 1 (c' := (24, [.ref 0, .int (nI a), .int (nI b)], [.int (m.1 2 (12 * b + a))], m)) rfl ?_
    exact dx_ret (r := some (.int (m.1 2 (12 * b + a)))) rfl (h2 a b ha hb rfl rfl)
set_option maxRecDepth 20000 in
theorem sX3_water {d : Nat} (x : Int32) (m : dx_M) {Z : Option Value → dx_M → Prop} (h1 : inI x 1 20 = false → Z (some (.int (-1))) m) (h2 : inI x 1 20 = true → Z (some (.int (m.1 0 6))) (dx_pI m 0 6 x)) : dx_Sem dx_P lx_X (d + 2) 29 [.ref 0, .int x] m Z := by
  refine dx_sem km_X3_water rfl rfl ?_
  refine dx_blk 0 (c' := (0, [.ref 0, .int x, .null], [], m)) rfl ?_
  refine dx_blk 3 (c' := (4, [.ref 0, .int x, .null], [.int 20, .int 1, .int x], m)) rfl ?_
  refine dx_call (id := 64) (as := [.int x, .int 1, .int 20]) (rest := []) rfl ?_
  refine sX3_within x 1 20 _ ?_
  refine dx_blk 0 (c' := (7, [.ref 0, .int x, .null], [.int (bI (inI x 1 20))], m)) rfl ?_
  refine dx_brB (B := (inI x 1 20)) (a := 10) (b := 12) (L := [.ref 0, .int x, .null]) (st := []) (m := m) rfl (fun h7 => ?_) (fun h7 => ?_)
  · refine dx_blk 1 (c' := (11, [.ref 0, .int x, .null], [.int (-1)], m)) rfl ?_
    exact dx_ret (r := some (.int (-1))) rfl (h1 (by assumption))
  · refine dx_blk 7 (c' := (23, [.ref 0, .int x, .int (m.1 0 6)], [.int (m.1 0 6)], dx_pI m 0 6 x)) rfl ?_
    exact dx_ret (r := some (.int (m.1 0 6))) rfl (h2 (by assumption))
set_option maxRecDepth 20000 in
theorem sX4_water {d : Nat} (x : Int32) (m : dx_M) {Z : Option Value → dx_M → Prop} (h1 : inI x 1 20 = false → Z (some (.int (-1))) m) (h2 : inI x 1 20 = true → Z (some (.int (m.1 0 6))) (dx_pI m 0 6 x)) : dx_Sem dx_P lx_M (d + 2) 95 [.ref 0, .int x] m Z := by
  refine dx_sem km_X4_water rfl rfl ?_
  refine dx_blk 0 (c' := (0, [.ref 0, .int x, .null], [], m)) rfl ?_
  refine dx_blk 3 (c' := (4, [.ref 0, .int x, .null], [.int 20, .int 1, .int x], m)) rfl ?_
  refine dx_call (id := 82) (as := [.int x, .int 1, .int 20]) (rest := []) rfl ?_
  refine sX4_in x 1 20 _ ?_
  refine dx_blk 0 (c' := (7, [.ref 0, .int x, .null], [.int (bI (inI x 1 20))], m)) rfl ?_
  refine dx_brB (B := (inI x 1 20)) (a := 10) (b := 12) (L := [.ref 0, .int x, .null]) (st := []) (m := m) rfl (fun h7 => ?_) (fun h7 => ?_)
  · refine dx_blk 1 (c' := (11, [.ref 0, .int x, .null], [.int (-1)], m)) rfl ?_
    exact dx_ret (r := some (.int (-1))) rfl (h1 (by assumption))
  · refine dx_blk 7 (c' := (23, [.ref 0, .int x, .int (m.1 0 6)], [.int (m.1 0 6)], dx_pI m 0 6 x)) rfl ?_
    exact dx_ret (r := some (.int (m.1 0 6))) rfl (h2 (by assumption))
end
section
/-! sheets: both programs (printed by wip/whole/g13.py) -/
theorem nI_ix3 (b a c : Nat) : 12 * nI b + nI a + nI c = nI (12 * b + a + c) := by
  rw [nI_ix2, nI_add]
theorem sz_of {x : Int32} {k : Nat} (hk : k ≤ 12) (h : ¬ x < 0) (h2 : x < nI k) : ∃ j : Nat, j < k ∧ x = nI j := by
  obtain ⟨j, hj, rfl⟩ := nI_of h
  exact ⟨j, (nI_ltI hj (by omega)).mp h2, rfl⟩
abbrev szP (v : Int32) : Prop := v = -1 ∨ ∃ z : Nat, z ≤ 12 ∧ v = nI z
theorem szA {v : Int32} (h : szP v) (h2 : ¬ 0 ≤ v) : v = -1 := by
  obtain e | ⟨z, hz, e⟩ := h
  · exact e
  · exact absurd (e ▸ nI_pos' (by omega)) h2
theorem szB {v : Int32} (h : szP v) (h2 : 0 ≤ v) : ∃ z : Nat, z ≤ 12 ∧ v = nI z := by
  obtain e | h := h
  · subst e; exact absurd h2 (by decide)
  · exact h
theorem szC {v : Int32} (h : szP v) (h2 : ¬ v = -1) : ∃ z : Nat, z ≤ 12 ∧ v = nI z := h.elim (fun e => absurd e h2) id
theorem szD {v : Int32} (h : szP v) (h2 : v < 0) : v = -1 := by
  obtain e | ⟨z, hz, e⟩ := h
  · exact e
  · subst e; exact absurd h2 (nI_pos (by omega))
theorem szE {v : Int32} (h : szP v) (h2 : ¬ v < 0) : ∃ z : Nat, z ≤ 12 ∧ v = nI z := by
  obtain e | h := h
  · subst e; exact absurd (by decide) h2
  · exact h
theorem szF {z : Nat} (hz : z ≤ 12) {v : Int32} (e : v = nI z) : ¬ v = -1 := by
  subst e
  intro h
  have h2 := congrArg Int32.toInt h
  rw [nI_toInt (by omega)] at h2
  have e1 : (-1 : Int32).toInt = -1 := rfl
  omega
/-- n bytes from i on are there, of z -/
def rB (z : Nat) (i n : Int32) : Bool := decide (0 ≤ i.toInt ∧ 0 ≤ n.toInt ∧ i.toInt + n.toInt ≤ z)
theorem rB_f1 {z : Nat} {i n : Int32} (h : i < 0) : rB z i n = false := decide_eq_false (fun q => by rw [fa_lt] at h; have e0 : (0 : Int32).toInt = 0 := rfl; omega)
theorem rB_f2 {z : Nat} {i n : Int32} (h : n < 0) : rB z i n = false := decide_eq_false (fun q => by rw [fa_lt] at h; have e0 : (0 : Int32).toInt = 0 := rfl; omega)
theorem rB_f3 {z : Nat} (hz : z ≤ 12) {i n : Int32} (h : nI z < i) : rB z i n = false := decide_eq_false (fun q => by rw [fa_lt, nI_toInt (by omega)] at h; omega)
theorem rB_sub {z : Nat} (hz : z ≤ 12) {i : Int32} (h1 : 0 ≤ i.toInt) (h2 : i.toInt ≤ z) : (nI z - i).toInt = z - i.toInt := by
  rw [fb_subI, nI_toInt (by omega)] <;> rw [nI_toInt (by omega)] <;> omega
theorem rB_f4 {z : Nat} (hz : z ≤ 12) {i n : Int32} (h : nI z - i < n) : rB z i n = false := decide_eq_false (fun q => by rw [fa_lt, rB_sub hz q.1 (by omega)] at h; omega)
theorem rB_t {z : Nat} (hz : z ≤ 12) {i n : Int32} (h1 : ¬ i < 0) (h2 : ¬ n < 0) (h3 : ¬ nI z < i) (h4 : ¬ nI z - i < n) : rB z i n = true := decide_eq_true (by
  have e0 : (0 : Int32).toInt = 0 := rfl
  rw [fa_lt] at h1 h2 h3 h4
  rw [nI_toInt (by omega)] at h3
  rw [rB_sub hz (by omega) (by omega)] at h4
  omega)
theorem rB_w {i n : Int32} (h1 : ¬ i < 0) (h2 : ¬ n < 0) : (i.toInt64 + n.toInt64).toInt = i.toInt + n.toInt := by
  have h3 := fb_rng i
  have h4 := fb_rng n
  rw [fb_addL] <;> rw [Int32.toInt_toInt64, Int32.toInt_toInt64] <;> omega
theorem rB_f5 {z : Nat} (hz : z ≤ 12) {i n : Int32} (h1 : ¬ i < 0) (h2 : ¬ n < 0) (h : (nI z).toInt64 < i.toInt64 + n.toInt64) : rB z i n = false := decide_eq_false (fun q => by
  rw [fa_lt64, rB_w h1 h2, Int32.toInt_toInt64, nI_toInt (by omega)] at h
  omega)
theorem rB_t5 {z : Nat} (hz : z ≤ 12) {i n : Int32} (h1 : ¬ i < 0) (h2 : ¬ n < 0) (h : ¬ (nI z).toInt64 < i.toInt64 + n.toInt64) : rB z i n = true := decide_eq_true (by
  rw [fa_lt64, rB_w h1 h2, Int32.toInt_toInt64, nI_toInt (by omega)] at h
  have e0 : (0 : Int32).toInt = 0 := rfl
  rw [fa_lt] at h1 h2
  omega)
theorem rB_of {z : Nat} {i n : Int32} (hz : z ≤ 12) (h : rB z i n = true) : ∃ j k : Nat, i = nI j ∧ n = nI k ∧ j + k ≤ z := by
  obtain ⟨h1, h2, h3⟩ := of_decide_eq_true h
  have e0 : (0 : Int32).toInt = 0 := rfl
  obtain ⟨j, hj, rfl⟩ := nI_of (x := i) (by rw [fa_lt]; omega)
  obtain ⟨k, hk, rfl⟩ := nI_of (x := n) (by rw [fa_lt]; omega)
  rw [nI_toInt hj, nI_toInt hk] at h3
  exact ⟨j, k, rfl, rfl, by omega⟩
set_option maxRecDepth 20000 in
theorem sX3_sheet {d : Nat} (m : dx_M) (s n : Int32) {Z : Option Value → dx_M → Prop} (h1 : (inI s 0 5 && decide (n ≤ 12)) = false → Z (some (.int (-1))) m) (h2 : inI s 0 5 = true → n ≤ 12 → n < 0 → Z (some (.int (-3))) (fndX m 5)) (h3 : ∀ a k : Nat, a < 6 → k ≤ 12 → s = nI a → n = nI k → Z (some (.int (nI k))) (dx_pI (dx_pR m (20 + a) (fa_fill (fun _ => 0) (m.1 (20 + a)) k)) 8 a (nI k))) : dx_Sem dx_P lx_X (d + 3) 30 [.ref 0, .int s, .int n] m Z := by
  refine dx_sem km_X3_sheet rfl rfl ?_
  refine dx_blk 0 (c' := (0, [.ref 0, .int s, .int n, .null], [], m)) rfl ?_
  refine dx_blk 1 (c' := (1, [.ref 0, .int s, .int n, .null], [.int s], m)) rfl ?_
  refine dx_call (id := 66) (as := [.int s]) (rest := []) rfl ?_
  refine sX3_isSheet s _ ?_
  refine dx_blk 0 (c' := (4, [.ref 0, .int s, .int n, .null], [.int (bI (inI s 0 5))], m)) rfl ?_
  refine dx_brB (B := (inI s 0 5)) (a := 13) (b := 7) (L := [.ref 0, .int s, .int n, .null]) (st := []) (m := m) rfl (fun h4 => ?_) (fun h4 => ?_)
  · refine dx_blk 1 (c' := (14, [.ref 0, .int s, .int n, .null], [.int (-1)], m)) rfl ?_
    exact dx_ret (r := some (.int (-1))) rfl (h1 (by simp_all))
  · refine dx_blk 2 (c' := (10, [.ref 0, .int s, .int n, .null], [.int 12, .int n], m)) rfl ?_
    refine dx_br (q := n ≤ 12) (a := 15) (b := 13) (L := [.ref 0, .int s, .int n, .null]) (st := []) (m := m) rfl (fun h10 => ?_) (fun h10 => ?_)
    · refine dx_blk 1 (c' := (16, [.ref 0, .int s, .int n, .null], [.int n], m)) rfl ?_
      refine dx_br (q := 0 ≤ n) (a := 25) (b := 19) (L := [.ref 0, .int s, .int n, .null]) (st := []) (m := m) rfl (fun h16 => ?_) (fun h16 => ?_)
      · obtain ⟨a, ha0, rfl⟩ := in_N (n := 5) rfl h4
        have ha : a < 6 := by omega
        obtain ⟨k, hk, rfl⟩ := nI_of2 (n := 12) rfl (by rw [fa_lt]; rw [fa_le] at h16; have e0 : (0 : Int32).toInt = 0 := rfl; omega) h10
        refine dx_blk 2 (c' := (27, [.ref 0, .int (nI a), .int (nI k), .int 0], [], m)) rfl ?_
        refine dx_mem (m' := dx_pR m (20 + a) (fa_fill (fun _ => 0) (m.1 (20 + a)) 0)) (by rw [fa_fill_0]; exact (dx_pR_self _ (20 + a)).symm) ?_
        refine dx_blk 0 (c' := (27, [.ref 0, .int (nI a), .int (nI k), .int (nI 0)], [], dx_pR m (20 + a) (fa_fill (fun _ => 0) (m.1 (20 + a)) 0))) rfl ?_
        refine dx_for0 (fun (i : Nat) => ((27, [.ref 0, .int (nI a), .int (nI k), .int (nI i)], [], dx_pR m (20 + a) (fa_fill (fun _ => 0) (m.1 (20 + a)) i)) : dx_F)) k (fun i hi hk => ?_) ?_
        · refine dx_blk 0 (c' := (27, [.ref 0, .int (nI a), .int (nI k), .int (nI i)], [], dx_pR m (20 + a) (fa_fill (fun _ => 0) (m.1 (20 + a)) i))) rfl ?_
          refine dx_blk 2 (c' := (29, [.ref 0, .int (nI a), .int (nI k), .int (nI i)], [.int (nI k), .int (nI i)], dx_pR m (20 + a) (fa_fill (fun _ => 0) (m.1 (20 + a)) i))) rfl ?_
          refine dx_br (q := (nI k) ≤ (nI i)) (a := 47) (b := 32) (L := [.ref 0, .int (nI a), .int (nI k), .int (nI i)]) (st := []) (m := dx_pR m (20 + a) (fa_fill (fun _ => 0) (m.1 (20 + a)) i)) rfl (fun h => absurd h (nI_ge hi (by omega))) (fun _ => ?_)
          refine dx_blk 3 (c' := (37, [.ref 0, .int (nI a), .int (nI k), .int (nI i)], [.int (nI a), .ref 7], dx_pR m (20 + a) (fa_fill (fun _ => 0) (m.1 (20 + a)) i))) rfl ?_
          refine dx_aadN a (q := (20 + a)) rfl rfl (Or.inr rfl) rfl (by omega) (lx_rs7 a (by omega)) ?_
          refine dx_blk 0 (c' := (38, [.ref 0, .int (nI a), .int (nI k), .int (nI i)], [.ref (20 + a)], dx_pR m (20 + a) (fa_fill (fun _ => 0) (m.1 (20 + a)) i))) rfl ?_
          refine dx_blk 2 (c' := (40, [.ref 0, .int (nI a), .int (nI k), .int (nI i)], [.int 0, .int (nI i), .ref (20 + a)], dx_pR m (20 + a) (fa_fill (fun _ => 0) (m.1 (20 + a)) i))) rfl ?_
          refine dx_bstB i rfl rfl (lx_row a (by omega)) rfl (by omega) ?_
          refine dx_blk 0 (c' := (41, [.ref 0, .int (nI a), .int (nI k), .int (nI i)], [], dx_pI (dx_pR m (20 + a) (fa_fill (fun _ => 0) (m.1 (20 + a)) i)) (20 + a) i ((0 : Int32).toInt8.toInt32))) rfl ?_
          refine dx_blk 2 (c' := (27, [.ref 0, .int (nI a), .int (nI k), .int ((nI i) + 1)], [], dx_pI (dx_pR m (20 + a) (fa_fill (fun _ => 0) (m.1 (20 + a)) i)) (20 + a) i ((0 : Int32).toInt8.toInt32))) rfl ?_
          rw [dx_pI_pR, show ((0 : Int32).toInt8.toInt32) = 0 from rfl, show upd (fa_fill (fun _ => (0 : Int32)) (m.1 (20 + a)) i) i 0 = fa_fill (fun _ => (0 : Int32)) (m.1 (20 + a)) (i + 1) from fa_fill_succ (fun _ => 0) (m.1 (20 + a)) i, ← nI_succ]
          exact hk
        · refine dx_blk 0 (c' := (27, [.ref 0, .int (nI a), .int (nI k), .int (nI k)], [], dx_pR m (20 + a) (fa_fill (fun _ => 0) (m.1 (20 + a)) k))) rfl ?_
          refine dx_blk 2 (c' := (29, [.ref 0, .int (nI a), .int (nI k), .int (nI k)], [.int (nI k), .int (nI k)], dx_pR m (20 + a) (fa_fill (fun _ => 0) (m.1 (20 + a)) k))) rfl ?_
          refine dx_br (q := (nI k) ≤ (nI k)) (a := 47) (b := 32) (L := [.ref 0, .int (nI a), .int (nI k), .int (nI k)]) (st := []) (m := dx_pR m (20 + a) (fa_fill (fun _ => 0) (m.1 (20 + a)) k)) rfl (fun _ => ?_) (fun h => absurd (nI_le (Nat.le_refl _) (by omega)) h)
          refine dx_blk 4 (c' := (53, [.ref 0, .int (nI a), .int (nI k), .int (nI k)], [.int (nI k), .int (nI a), .ref 8], dx_pR m (20 + a) (fa_fill (fun _ => 0) (m.1 (20 + a)) k))) rfl ?_
          refine dx_astN a rfl rfl rfl rfl (by omega) ?_
          refine dx_blk 0 (c' := (54, [.ref 0, .int (nI a), .int (nI k), .int (nI k)], [], dx_pI (dx_pR m (20 + a) (fa_fill (fun _ => 0) (m.1 (20 + a)) k)) 8 a (nI k))) rfl ?_
          refine dx_blk 1 (c' := (55, [.ref 0, .int (nI a), .int (nI k), .int (nI k)], [.int (nI k)], dx_pI (dx_pR m (20 + a) (fa_fill (fun _ => 0) (m.1 (20 + a)) k)) 8 a (nI k))) rfl ?_
          exact dx_ret (r := some (.int (nI k))) rfl (h3 a k ha hk rfl rfl)
      · refine dx_blk 2 (c' := (21, [.ref 0, .int s, .int n, .null], [.int 5, .ref 0], m)) rfl ?_
        refine dx_call (id := 70) (as := [.ref 0, .int 5]) (rest := []) rfl ?_
        refine sX3_find 5 (by decide) _ ?_
        refine dx_blk 0 (c' := (24, [.ref 0, .int s, .int n, .null], [.int (-3)], (fndX m 5))) rfl ?_
        exact dx_ret (r := some (.int (-3))) rfl (h2 (by assumption) (by assumption) (by rw [fa_lt]; rw [fa_le] at h16; have e0 : (0 : Int32).toInt = 0 := rfl; omega))
    · refine dx_blk 1 (c' := (14, [.ref 0, .int s, .int n, .null], [.int (-1)], m)) rfl ?_
      exact dx_ret (r := some (.int (-1))) rfl (h1 (by simp_all))
set_option maxRecDepth 20000 in
theorem sX4_sheet {d : Nat} (m : dx_M) (s n : Int32) {Z : Option Value → dx_M → Prop} (h1 : (inI s 0 5 && decide (n ≤ 12)) = false → Z (some (.int (-1))) m) (h2 : inI s 0 5 = true → n ≤ 12 → n < 0 → Z (some (.int (-3))) (fndM m 5)) (h3 : ∀ a k : Nat, a < 6 → k ≤ 12 → s = nI a → n = nI k → Z (some (.int (nI k))) (dx_pR (dx_pI m 3 a (nI k)) 4 (fb_put (m.1 4) (fun _ => 0) (12 * a) 12))) : dx_Sem dx_P lx_M (d + 3) 97 [.ref 0, .int s, .int n] m Z := by
  refine dx_sem km_X4_sheet rfl rfl ?_
  refine dx_blk 0 (c' := (0, [.ref 0, .int s, .int n, .null], [], m)) rfl ?_
  refine dx_blk 1 (c' := (1, [.ref 0, .int s, .int n, .null], [.int s], m)) rfl ?_
  refine dx_call (id := 96) (as := [.int s]) (rest := []) rfl ?_
  refine sX4_isSheet s _ ?_
  refine dx_blk 0 (c' := (4, [.ref 0, .int s, .int n, .null], [.int (bI (inI s 0 5))], m)) rfl ?_
  refine dx_brB (B := (inI s 0 5)) (a := 13) (b := 7) (L := [.ref 0, .int s, .int n, .null]) (st := []) (m := m) rfl (fun h4 => ?_) (fun h4 => ?_)
  · refine dx_blk 1 (c' := (14, [.ref 0, .int s, .int n, .null], [.int (-1)], m)) rfl ?_
    exact dx_ret (r := some (.int (-1))) rfl (h1 (by simp_all))
  · refine dx_blk 2 (c' := (10, [.ref 0, .int s, .int n, .null], [.int 12, .int n], m)) rfl ?_
    refine dx_br (q := n ≤ 12) (a := 15) (b := 13) (L := [.ref 0, .int s, .int n, .null]) (st := []) (m := m) rfl (fun h10 => ?_) (fun h10 => ?_)
    · refine dx_blk 1 (c' := (16, [.ref 0, .int s, .int n, .null], [.int n], m)) rfl ?_
      refine dx_br (q := 0 ≤ n) (a := 25) (b := 19) (L := [.ref 0, .int s, .int n, .null]) (st := []) (m := m) rfl (fun h16 => ?_) (fun h16 => ?_)
      · obtain ⟨a, ha0, rfl⟩ := in_N (n := 5) rfl h4
        have ha : a < 6 := by omega
        obtain ⟨k, hk, rfl⟩ := nI_of2 (n := 12) rfl (by rw [fa_lt]; rw [fa_le] at h16; have e0 : (0 : Int32).toInt = 0 := rfl; omega) h10
        refine dx_blk 4 (c' := (31, [.ref 0, .int (nI a), .int (nI k), .null], [.int (nI k), .int (nI a), .ref 3], m)) rfl ?_
        refine dx_astN a rfl rfl rfl rfl (by omega) ?_
        refine dx_blk 0 (c' := (32, [.ref 0, .int (nI a), .int (nI k), .null], [], dx_pI m 3 a (nI k))) rfl ?_
        refine dx_blk 2 (c' := (34, [.ref 0, .int (nI a), .int (nI k), .int 0], [], dx_pI m 3 a (nI k))) rfl ?_
        refine dx_mem (m' := dx_pR (dx_pI m 3 a (nI k)) 4 (fb_put (m.1 4) (fun _ => 0) (12 * a) 0)) (by rw [fb_put_0]; exact (dx_pR_self _ 4).symm) ?_
        refine dx_blk 0 (c' := (34, [.ref 0, .int (nI a), .int (nI k), .int (nI 0)], [], dx_pR (dx_pI m 3 a (nI k)) 4 (fb_put (m.1 4) (fun _ => 0) (12 * a) 0))) rfl ?_
        refine dx_for0 (fun (i : Nat) => ((34, [.ref 0, .int (nI a), .int (nI k), .int (nI i)], [], dx_pR (dx_pI m 3 a (nI k)) 4 (fb_put (m.1 4) (fun _ => 0) (12 * a) i)) : dx_F)) 12 (fun i hi hk => ?_) ?_
        · refine dx_blk 0 (c' := (34, [.ref 0, .int (nI a), .int (nI k), .int (nI i)], [], dx_pR (dx_pI m 3 a (nI k)) 4 (fb_put (m.1 4) (fun _ => 0) (12 * a) i))) rfl ?_
          refine dx_blk 2 (c' := (37, [.ref 0, .int (nI a), .int (nI k), .int (nI i)], [.int 12, .int (nI i)], dx_pR (dx_pI m 3 a (nI k)) 4 (fb_put (m.1 4) (fun _ => 0) (12 * a) i))) rfl ?_
          refine dx_br (q := 12 ≤ (nI i)) (a := 58) (b := 40) (L := [.ref 0, .int (nI a), .int (nI k), .int (nI i)]) (st := []) (m := dx_pR (dx_pI m 3 a (nI k)) 4 (fb_put (m.1 4) (fun _ => 0) (12 * a) i)) rfl (fun h => absurd h (nI_ge hi (by decide))) (fun _ => ?_)
          refine dx_blk 8 (c' := (51, [.ref 0, .int (nI a), .int (nI k), .int (nI i)], [.int 0, .int ((12 * (nI a)) + (nI i)), .ref 4], dx_pR (dx_pI m 3 a (nI k)) 4 (fb_put (m.1 4) (fun _ => 0) (12 * a) i))) rfl ?_
          refine dx_bstB (12 * a + i) rfl rfl rfl (nI_ix2 a i) (by omega) ?_
          refine dx_blk 0 (c' := (52, [.ref 0, .int (nI a), .int (nI k), .int (nI i)], [], dx_pI (dx_pR (dx_pI m 3 a (nI k)) 4 (fb_put (m.1 4) (fun _ => 0) (12 * a) i)) 4 (12 * a + i) ((0 : Int32).toInt8.toInt32))) rfl ?_
          refine dx_blk 2 (c' := (34, [.ref 0, .int (nI a), .int (nI k), .int ((nI i) + 1)], [], dx_pI (dx_pR (dx_pI m 3 a (nI k)) 4 (fb_put (m.1 4) (fun _ => 0) (12 * a) i)) 4 (12 * a + i) ((0 : Int32).toInt8.toInt32))) rfl ?_
          rw [dx_pI_pR, show ((0 : Int32).toInt8.toInt32) = 0 from rfl, show upd (fb_put (m.1 4) (fun _ => (0 : Int32)) (12 * a) i) (12 * a + i) 0 = fb_put (m.1 4) (fun _ => (0 : Int32)) (12 * a) (i + 1) from fb_put_succ (m.1 4) (fun _ => 0) (12 * a) i, ← nI_succ]
          exact hk
        · refine dx_blk 0 (c' := (34, [.ref 0, .int (nI a), .int (nI k), .int (nI 12)], [], dx_pR (dx_pI m 3 a (nI k)) 4 (fb_put (m.1 4) (fun _ => 0) (12 * a) 12))) rfl ?_
          refine dx_blk 2 (c' := (37, [.ref 0, .int (nI a), .int (nI k), .int (nI 12)], [.int 12, .int (nI 12)], dx_pR (dx_pI m 3 a (nI k)) 4 (fb_put (m.1 4) (fun _ => 0) (12 * a) 12))) rfl ?_
          refine dx_br (q := 12 ≤ (nI 12)) (a := 58) (b := 40) (L := [.ref 0, .int (nI a), .int (nI k), .int (nI 12)]) (st := []) (m := dx_pR (dx_pI m 3 a (nI k)) 4 (fb_put (m.1 4) (fun _ => 0) (12 * a) 12)) rfl (fun _ => ?_) (fun h => absurd (nI_le (Nat.le_refl _) (by decide)) h)
          refine dx_blk 1 (c' := (59, [.ref 0, .int (nI a), .int (nI k), .int (nI 12)], [.int (nI k)], dx_pR (dx_pI m 3 a (nI k)) 4 (fb_put (m.1 4) (fun _ => 0) (12 * a) 12))) rfl ?_
          exact dx_ret (r := some (.int (nI k))) rfl (h3 a k ha hk rfl rfl)
      · refine dx_blk 2 (c' := (21, [.ref 0, .int s, .int n, .null], [.int 5, .ref 0], m)) rfl ?_
        refine dx_call (id := 83) (as := [.ref 0, .int 5]) (rest := []) rfl ?_
        refine sX4_meets 5 (by decide) _ ?_
        refine dx_blk 0 (c' := (24, [.ref 0, .int s, .int n, .null], [.int (-3)], (fndM m 5))) rfl ?_
        exact dx_ret (r := some (.int (-3))) rfl (h2 (by assumption) (by assumption) (by rw [fa_lt]; rw [fa_le] at h16; have e0 : (0 : Int32).toInt = 0 := rfl; omega))
    · refine dx_blk 1 (c' := (14, [.ref 0, .int s, .int n, .null], [.int (-1)], m)) rfl ?_
      exact dx_ret (r := some (.int (-1))) rfl (h1 (by simp_all))
set_option maxRecDepth 20000 in
theorem sX3_tear {d : Nat} (m : dx_M) (hz : ∀ a : Nat, a < 6 → szP (m.1 8 a)) (s : Int32) {Z : Option Value → dx_M → Prop} (h1 : inI s 0 5 = false → Z (some (.int (-1))) m) (h2 : ∀ a : Nat, a < 6 → s = nI a → m.1 8 a = -1 → Z (some (.int (-3))) (fndX m 1)) (h3 : ∀ a z : Nat, a < 6 → s = nI a → z ≤ 12 → m.1 8 a = nI z → Z (some (.int 1)) (dx_pI m 8 a (-1))) : dx_Sem dx_P lx_X (d + 3) 32 [.ref 0, .int s] m Z := by
  refine dx_sem km_X3_tear rfl rfl ?_
  refine dx_blk 0 (c' := (0, [.ref 0, .int s], [], m)) rfl ?_
  refine dx_blk 1 (c' := (1, [.ref 0, .int s], [.int s], m)) rfl ?_
  refine dx_call (id := 66) (as := [.int s]) (rest := []) rfl ?_
  refine sX3_isSheet s _ ?_
  refine dx_blk 0 (c' := (4, [.ref 0, .int s], [.int (bI (inI s 0 5))], m)) rfl ?_
  refine dx_brB (B := (inI s 0 5)) (a := 7) (b := 9) (L := [.ref 0, .int s]) (st := []) (m := m) rfl (fun h4 => ?_) (fun h4 => ?_)
  · refine dx_blk 1 (c' := (8, [.ref 0, .int s], [.int (-1)], m)) rfl ?_
    exact dx_ret (r := some (.int (-1))) rfl (h1 (by assumption))
  · obtain ⟨a, ha0, rfl⟩ := in_N (n := 5) rfl h4
    have ha : a < 6 := by omega
    refine dx_blk 3 (c' := (14, [.ref 0, .int (nI a)], [.int (nI a), .ref 8], m)) rfl ?_
    refine dx_aldN a rfl rfl rfl rfl (by omega) ?_
    refine dx_blk 0 (c' := (15, [.ref 0, .int (nI a)], [.int (m.1 8 a)], m)) rfl ?_
    refine dx_blk 1 (c' := (16, [.ref 0, .int (nI a)], [.int (-1), .int (m.1 8 a)], m)) rfl ?_
    refine dx_br (q := (m.1 8 a) = (-1)) (a := 19) (b := 25) (L := [.ref 0, .int (nI a)]) (st := []) (m := m) rfl (fun h16 => ?_) (fun h16 => ?_)
    · refine dx_blk 2 (c' := (21, [.ref 0, .int (nI a)], [.int 1, .ref 0], m)) rfl ?_
      refine dx_call (id := 70) (as := [.ref 0, .int 1]) (rest := []) rfl ?_
      refine sX3_find 1 (by decide) _ ?_
      refine dx_blk 0 (c' := (24, [.ref 0, .int (nI a)], [.int (-3)], (fndX m 1))) rfl ?_
      exact dx_ret (r := some (.int (-3))) rfl (h2 a ha rfl (by assumption))
    · obtain ⟨z, hz1, ez⟩ := szC (hz a ha) (by assumption)
      refine dx_blk 4 (c' := (31, [.ref 0, .int (nI a)], [.int (-1), .int (nI a), .ref 8], m)) rfl ?_
      refine dx_astN a rfl rfl rfl rfl (by omega) ?_
      refine dx_blk 0 (c' := (32, [.ref 0, .int (nI a)], [], dx_pI m 8 a (-1))) rfl ?_
      refine dx_blk 1 (c' := (33, [.ref 0, .int (nI a)], [.int 1], dx_pI m 8 a (-1))) rfl ?_
      exact dx_ret (r := some (.int 1)) rfl (h3 a z ha rfl hz1 ez)
set_option maxRecDepth 20000 in
theorem sX4_tear {d : Nat} (m : dx_M) (hz : ∀ a : Nat, a < 6 → szP (m.1 3 a)) (s : Int32) {Z : Option Value → dx_M → Prop} (h1 : inI s 0 5 = false → Z (some (.int (-1))) m) (h2 : ∀ a : Nat, a < 6 → s = nI a → m.1 3 a = -1 → Z (some (.int (-3))) (fndM m 1)) (h3 : ∀ a z : Nat, a < 6 → s = nI a → z ≤ 12 → m.1 3 a = nI z → Z (some (.int 1)) (dx_pI m 3 a (-1))) : dx_Sem dx_P lx_M (d + 3) 99 [.ref 0, .int s] m Z := by
  refine dx_sem km_X4_tear rfl rfl ?_
  refine dx_blk 0 (c' := (0, [.ref 0, .int s], [], m)) rfl ?_
  refine dx_blk 1 (c' := (1, [.ref 0, .int s], [.int s], m)) rfl ?_
  refine dx_call (id := 96) (as := [.int s]) (rest := []) rfl ?_
  refine sX4_isSheet s _ ?_
  refine dx_blk 0 (c' := (4, [.ref 0, .int s], [.int (bI (inI s 0 5))], m)) rfl ?_
  refine dx_brB (B := (inI s 0 5)) (a := 7) (b := 9) (L := [.ref 0, .int s]) (st := []) (m := m) rfl (fun h4 => ?_) (fun h4 => ?_)
  · refine dx_blk 1 (c' := (8, [.ref 0, .int s], [.int (-1)], m)) rfl ?_
    exact dx_ret (r := some (.int (-1))) rfl (h1 (by assumption))
  · obtain ⟨a, ha0, rfl⟩ := in_N (n := 5) rfl h4
    have ha : a < 6 := by omega
    refine dx_blk 3 (c' := (14, [.ref 0, .int (nI a)], [.int (nI a), .ref 3], m)) rfl ?_
    refine dx_aldN a rfl rfl rfl rfl (by omega) ?_
    refine dx_blk 0 (c' := (15, [.ref 0, .int (nI a)], [.int (m.1 3 a)], m)) rfl ?_
    refine dx_br (q := 0 ≤ (m.1 3 a)) (a := 24) (b := 18) (L := [.ref 0, .int (nI a)]) (st := []) (m := m) rfl (fun h15 => ?_) (fun h15 => ?_)
    · obtain ⟨z, hz1, ez⟩ := szB (hz a ha) (by assumption)
      refine dx_blk 4 (c' := (30, [.ref 0, .int (nI a)], [.int (-1), .int (nI a), .ref 3], m)) rfl ?_
      refine dx_astN a rfl rfl rfl rfl (by omega) ?_
      refine dx_blk 0 (c' := (31, [.ref 0, .int (nI a)], [], dx_pI m 3 a (-1))) rfl ?_
      refine dx_blk 1 (c' := (32, [.ref 0, .int (nI a)], [.int 1], dx_pI m 3 a (-1))) rfl ?_
      exact dx_ret (r := some (.int 1)) rfl (h3 a z ha rfl hz1 ez)
    · refine dx_blk 2 (c' := (20, [.ref 0, .int (nI a)], [.int 1, .ref 0], m)) rfl ?_
      refine dx_call (id := 83) (as := [.ref 0, .int 1]) (rest := []) rfl ?_
      refine sX4_meets 1 (by decide) _ ?_
      refine dx_blk 0 (c' := (23, [.ref 0, .int (nI a)], [.int (-3)], (fndM m 1))) rfl ?_
      exact dx_ret (r := some (.int (-3))) rfl (h2 a ha rfl (szA (hz a ha) (by assumption)))
set_option maxRecDepth 20000 in
theorem sX3_lay {d : Nat} (m : dx_M) (hz : ∀ a : Nat, a < 6 → szP (m.1 8 a)) (s i v : Int32) {Z : Option Value → dx_M → Prop} (h1 : inI s 0 5 = false → Z (some (.int (-1))) m) (h2 : ∀ a : Nat, a < 6 → s = nI a → m.1 8 a = -1 → Z (some (.int (-3))) (fndX m 1)) (h3 : ∀ a z : Nat, a < 6 → s = nI a → z ≤ 12 → m.1 8 a = nI z → inI i 0 (nI z - 1) = false → Z (some (.int (-3))) (fndX m 2)) (h4 : ∀ a z j : Nat, a < 6 → s = nI a → z ≤ 12 → m.1 8 a = nI z → j < z → i = nI j → Z (some (.int (m.1 (20 + a) j + 1000))) (dx_pI m (20 + a) j v.toInt8.toInt32)) : dx_Sem dx_P lx_X (d + 3) 31 [.ref 0, .int s, .int i, .int v] m Z := by
  refine dx_sem km_X3_lay rfl rfl ?_
  refine dx_blk 0 (c' := (0, [.ref 0, .int s, .int i, .int v, .null], [], m)) rfl ?_
  refine dx_blk 1 (c' := (1, [.ref 0, .int s, .int i, .int v, .null], [.int s], m)) rfl ?_
  refine dx_call (id := 66) (as := [.int s]) (rest := []) rfl ?_
  refine sX3_isSheet s _ ?_
  refine dx_blk 0 (c' := (4, [.ref 0, .int s, .int i, .int v, .null], [.int (bI (inI s 0 5))], m)) rfl ?_
  refine dx_brB (B := (inI s 0 5)) (a := 7) (b := 9) (L := [.ref 0, .int s, .int i, .int v, .null]) (st := []) (m := m) rfl (fun q4 => ?_) (fun q4 => ?_)
  · refine dx_blk 1 (c' := (8, [.ref 0, .int s, .int i, .int v, .null], [.int (-1)], m)) rfl ?_
    exact dx_ret (r := some (.int (-1))) rfl (h1 (by assumption))
  · obtain ⟨a, ha0, rfl⟩ := in_N (n := 5) rfl q4
    have ha : a < 6 := by omega
    refine dx_blk 3 (c' := (14, [.ref 0, .int (nI a), .int i, .int v, .null], [.int (nI a), .ref 8], m)) rfl ?_
    refine dx_aldN a rfl rfl rfl rfl (by omega) ?_
    refine dx_blk 0 (c' := (15, [.ref 0, .int (nI a), .int i, .int v, .null], [.int (m.1 8 a)], m)) rfl ?_
    refine dx_blk 1 (c' := (16, [.ref 0, .int (nI a), .int i, .int v, .null], [.int (-1), .int (m.1 8 a)], m)) rfl ?_
    refine dx_br (q := (m.1 8 a) = (-1)) (a := 19) (b := 25) (L := [.ref 0, .int (nI a), .int i, .int v, .null]) (st := []) (m := m) rfl (fun h16 => ?_) (fun h16 => ?_)
    · refine dx_blk 2 (c' := (21, [.ref 0, .int (nI a), .int i, .int v, .null], [.int 1, .ref 0], m)) rfl ?_
      refine dx_call (id := 70) (as := [.ref 0, .int 1]) (rest := []) rfl ?_
      refine sX3_find 1 (by decide) _ ?_
      refine dx_blk 0 (c' := (24, [.ref 0, .int (nI a), .int i, .int v, .null], [.int (-3)], (fndX m 1))) rfl ?_
      exact dx_ret (r := some (.int (-3))) rfl (h2 a ha rfl (by assumption))
    · obtain ⟨z, hz1, ez⟩ := szC (hz a ha) (by assumption)
      refine dx_blk 1 (c' := (26, [.ref 0, .int (nI a), .int i, .int v, .null], [.int i], m)) rfl ?_
      refine dx_br (q := i < 0) (a := 39) (b := 29) (L := [.ref 0, .int (nI a), .int i, .int v, .null]) (st := []) (m := m) rfl (fun h26 => ?_) (fun h26 => ?_)
      · refine dx_blk 2 (c' := (41, [.ref 0, .int (nI a), .int i, .int v, .null], [.int 2, .ref 0], m)) rfl ?_
        refine dx_call (id := 70) (as := [.ref 0, .int 2]) (rest := []) rfl ?_
        refine sX3_find 2 (by decide) _ ?_
        refine dx_blk 0 (c' := (44, [.ref 0, .int (nI a), .int i, .int v, .null], [.int (-3)], (fndX m 2))) rfl ?_
        exact dx_ret (r := some (.int (-3))) rfl (h3 a z ha rfl hz1 ez (by first | exact inI_lt (by assumption) | (refine inI_f.mpr (fun q => ?_); obtain ⟨j, hj, rfl⟩ := in_W hz1 (inI_t.mpr q); exact absurd (show nI j < m.1 8 a by rw [ez]; exact nI_lt hj (by omega)) (by assumption))))
      · refine dx_blk 4 (c' := (35, [.ref 0, .int (nI a), .int i, .int v, .null], [.int (nI a), .ref 8, .int i], m)) rfl ?_
        refine dx_aldN a rfl rfl rfl rfl (by omega) ?_
        refine dx_blk 0 (c' := (36, [.ref 0, .int (nI a), .int i, .int v, .null], [.int (m.1 8 a), .int i], m)) rfl ?_
        refine dx_br (q := i < (m.1 8 a)) (a := 45) (b := 39) (L := [.ref 0, .int (nI a), .int i, .int v, .null]) (st := []) (m := m) rfl (fun h36 => ?_) (fun h36 => ?_)
        · obtain ⟨j, hj, rfl⟩ := sz_of hz1 (by assumption) (by rw [← ez]; assumption)
          refine dx_blk 3 (c' := (50, [.ref 0, .int (nI a), .int (nI j), .int v, .null], [.int (nI a), .ref 7], m)) rfl ?_
          refine dx_aadN a (q := (20 + a)) rfl rfl (Or.inr rfl) rfl (by omega) (lx_rs7 a (by omega)) ?_
          refine dx_blk 0 (c' := (51, [.ref 0, .int (nI a), .int (nI j), .int v, .null], [.ref (20 + a)], m)) rfl ?_
          refine dx_blk 1 (c' := (52, [.ref 0, .int (nI a), .int (nI j), .int v, .null], [.int (nI j), .ref (20 + a)], m)) rfl ?_
          refine dx_bldN j rfl rfl (Or.inl (lx_row a ha)) rfl (by omega) ?_
          refine dx_blk 0 (c' := (53, [.ref 0, .int (nI a), .int (nI j), .int v, .null], [.int (m.1 (20 + a) j)], m)) rfl ?_
          refine dx_blk 4 (c' := (60, [.ref 0, .int (nI a), .int (nI j), .int v, .int (m.1 (20 + a) j)], [.int (nI a), .ref 7], m)) rfl ?_
          refine dx_aadN a (q := (20 + a)) rfl rfl (Or.inr rfl) rfl (by omega) (lx_rs7 a (by omega)) ?_
          refine dx_blk 0 (c' := (61, [.ref 0, .int (nI a), .int (nI j), .int v, .int (m.1 (20 + a) j)], [.ref (20 + a)], m)) rfl ?_
          refine dx_blk 3 (c' := (64, [.ref 0, .int (nI a), .int (nI j), .int v, .int (m.1 (20 + a) j)], [.int v.toInt8.toInt32, .int (nI j), .ref (20 + a)], m)) rfl ?_
          refine dx_bstB j rfl rfl (lx_row a ha) rfl (by omega) ?_
          refine dx_blk 0 (c' := (65, [.ref 0, .int (nI a), .int (nI j), .int v, .int (m.1 (20 + a) j)], [], dx_pI m (20 + a) j v.toInt8.toInt32.toInt8.toInt32)) rfl ?_
          refine dx_blk 3 (c' := (71, [.ref 0, .int (nI a), .int (nI j), .int v, .int (m.1 (20 + a) j)], [.int ((m.1 (20 + a) j) + 1000)], dx_pI m (20 + a) j v.toInt8.toInt32.toInt8.toInt32)) rfl ?_
          exact dx_ret (r := some (.int ((m.1 (20 + a) j) + 1000))) rfl (by rw [fb_byte_twice]; exact h4 a z j ha rfl hz1 ez hj rfl)
        · refine dx_blk 2 (c' := (41, [.ref 0, .int (nI a), .int i, .int v, .null], [.int 2, .ref 0], m)) rfl ?_
          refine dx_call (id := 70) (as := [.ref 0, .int 2]) (rest := []) rfl ?_
          refine sX3_find 2 (by decide) _ ?_
          refine dx_blk 0 (c' := (44, [.ref 0, .int (nI a), .int i, .int v, .null], [.int (-3)], (fndX m 2))) rfl ?_
          exact dx_ret (r := some (.int (-3))) rfl (h3 a z ha rfl hz1 ez (by first | exact inI_lt (by assumption) | (refine inI_f.mpr (fun q => ?_); obtain ⟨j, hj, rfl⟩ := in_W hz1 (inI_t.mpr q); exact absurd (show nI j < m.1 8 a by rw [ez]; exact nI_lt hj (by omega)) (by assumption))))
set_option maxRecDepth 20000 in
theorem sX4_lay {d : Nat} (m : dx_M) (hz : ∀ a : Nat, a < 6 → szP (m.1 3 a)) (s i v : Int32) {Z : Option Value → dx_M → Prop} (h1 : inI s 0 5 = false → Z (some (.int (-1))) m) (h2 : ∀ a : Nat, a < 6 → s = nI a → m.1 3 a = -1 → Z (some (.int (-3))) (fndM m 1)) (h3 : ∀ a z : Nat, a < 6 → s = nI a → z ≤ 12 → m.1 3 a = nI z → inI i 0 (nI z - 1) = false → Z (some (.int (-3))) (fndM m 2)) (h4 : ∀ a z j : Nat, a < 6 → s = nI a → z ≤ 12 → m.1 3 a = nI z → j < z → i = nI j → Z (some (.int (m.1 4 (12 * a + j) + 1000))) (dx_pI m 4 (12 * a + j) v.toInt8.toInt32)) : dx_Sem dx_P lx_M (d + 3) 98 [.ref 0, .int s, .int i, .int v] m Z := by
  refine dx_sem km_X4_lay rfl rfl ?_
  refine dx_blk 0 (c' := (0, [.ref 0, .int s, .int i, .int v, .null], [], m)) rfl ?_
  refine dx_blk 1 (c' := (1, [.ref 0, .int s, .int i, .int v, .null], [.int s], m)) rfl ?_
  refine dx_call (id := 96) (as := [.int s]) (rest := []) rfl ?_
  refine sX4_isSheet s _ ?_
  refine dx_blk 0 (c' := (4, [.ref 0, .int s, .int i, .int v, .null], [.int (bI (inI s 0 5))], m)) rfl ?_
  refine dx_brB (B := (inI s 0 5)) (a := 7) (b := 9) (L := [.ref 0, .int s, .int i, .int v, .null]) (st := []) (m := m) rfl (fun q4 => ?_) (fun q4 => ?_)
  · refine dx_blk 1 (c' := (8, [.ref 0, .int s, .int i, .int v, .null], [.int (-1)], m)) rfl ?_
    exact dx_ret (r := some (.int (-1))) rfl (h1 (by assumption))
  · obtain ⟨a, ha0, rfl⟩ := in_N (n := 5) rfl q4
    have ha : a < 6 := by omega
    refine dx_blk 3 (c' := (14, [.ref 0, .int (nI a), .int i, .int v, .null], [.int (nI a), .ref 3], m)) rfl ?_
    refine dx_aldN a rfl rfl rfl rfl (by omega) ?_
    refine dx_blk 0 (c' := (15, [.ref 0, .int (nI a), .int i, .int v, .null], [.int (m.1 3 a)], m)) rfl ?_
    refine dx_br (q := 0 ≤ (m.1 3 a)) (a := 24) (b := 18) (L := [.ref 0, .int (nI a), .int i, .int v, .null]) (st := []) (m := m) rfl (fun h15 => ?_) (fun h15 => ?_)
    · obtain ⟨z, hz1, ez⟩ := szB (hz a ha) (by assumption)
      refine dx_blk 5 (c' := (31, [.ref 0, .int (nI a), .int i, .int v, .null], [.int (nI a), .ref 3, .int 0, .int i], m)) rfl ?_
      refine dx_aldN a rfl rfl rfl rfl (by omega) ?_
      refine dx_blk 0 (c' := (32, [.ref 0, .int (nI a), .int i, .int v, .null], [.int (m.1 3 a), .int 0, .int i], m)) rfl ?_
      refine dx_blk 2 (c' := (34, [.ref 0, .int (nI a), .int i, .int v, .null], [.int ((m.1 3 a) - 1), .int 0, .int i], m)) rfl ?_
      refine dx_call (id := 82) (as := [.int i, .int 0, .int ((m.1 3 a) - 1)]) (rest := []) rfl ?_
      refine sX4_in i 0 ((m.1 3 a) - 1) _ ?_
      refine dx_blk 0 (c' := (37, [.ref 0, .int (nI a), .int i, .int v, .null], [.int (bI (inI i 0 ((m.1 3 a) - 1)))], m)) rfl ?_
      refine dx_brB (B := (inI i 0 ((m.1 3 a) - 1))) (a := 40) (b := 46) (L := [.ref 0, .int (nI a), .int i, .int v, .null]) (st := []) (m := m) rfl (fun h37 => ?_) (fun h37 => ?_)
      · refine dx_blk 2 (c' := (42, [.ref 0, .int (nI a), .int i, .int v, .null], [.int 2, .ref 0], m)) rfl ?_
        refine dx_call (id := 83) (as := [.ref 0, .int 2]) (rest := []) rfl ?_
        refine sX4_meets 2 (by decide) _ ?_
        refine dx_blk 0 (c' := (45, [.ref 0, .int (nI a), .int i, .int v, .null], [.int (-3)], (fndM m 2))) rfl ?_
        exact dx_ret (r := some (.int (-3))) rfl (h3 a z ha rfl hz1 ez (by rw [← ez]; assumption))
      · obtain ⟨j, hj, rfl⟩ := in_W hz1 (by rw [← ez]; assumption)
        refine dx_blk 7 (c' := (56, [.ref 0, .int (nI a), .int (nI j), .int v, .null], [.int ((12 * (nI a)) + (nI j)), .ref 4], m)) rfl ?_
        refine dx_bldN (12 * a + j) rfl rfl (Or.inl rfl) (nI_ix2 a j) (by omega) ?_
        refine dx_blk 0 (c' := (57, [.ref 0, .int (nI a), .int (nI j), .int v, .null], [.int (m.1 4 (12 * a + j))], m)) rfl ?_
        refine dx_blk 10 (c' := (71, [.ref 0, .int (nI a), .int (nI j), .int v, .int (m.1 4 (12 * a + j))], [.int v.toInt8.toInt32, .int ((12 * (nI a)) + (nI j)), .ref 4], m)) rfl ?_
        refine dx_bstB (12 * a + j) rfl rfl rfl (nI_ix2 a j) (by omega) ?_
        refine dx_blk 0 (c' := (72, [.ref 0, .int (nI a), .int (nI j), .int v, .int (m.1 4 (12 * a + j))], [], dx_pI m 4 (12 * a + j) v.toInt8.toInt32.toInt8.toInt32)) rfl ?_
        refine dx_blk 3 (c' := (78, [.ref 0, .int (nI a), .int (nI j), .int v, .int (m.1 4 (12 * a + j))], [.int (1000 + (m.1 4 (12 * a + j)))], dx_pI m 4 (12 * a + j) v.toInt8.toInt32.toInt8.toInt32)) rfl ?_
        exact dx_ret (r := some (.int (1000 + (m.1 4 (12 * a + j))))) rfl (by rw [fb_byte_twice, Int32.add_comm]; exact h4 a z j ha rfl hz1 ez hj rfl)
    · refine dx_blk 2 (c' := (20, [.ref 0, .int (nI a), .int i, .int v, .null], [.int 1, .ref 0], m)) rfl ?_
      refine dx_call (id := 83) (as := [.ref 0, .int 1]) (rest := []) rfl ?_
      refine sX4_meets 1 (by decide) _ ?_
      refine dx_blk 0 (c' := (23, [.ref 0, .int (nI a), .int i, .int v, .null], [.int (-3)], (fndM m 1))) rfl ?_
      exact dx_ret (r := some (.int (-3))) rfl (h2 a ha rfl (szA (hz a ha) (by assumption)))
set_option maxRecDepth 20000 in
theorem sX3_reaches {d : Nat} (m : dx_M) {a z : Nat} (ha : a < 6) (hz : z ≤ 12) (ez : m.1 8 a = nI z) (i n : Int32) {Z : Option Value → dx_M → Prop} (h : Z (some (.int (bI (rB z i n)))) m) : dx_Sem dx_P lx_X (d + 1) 69 [.ref 0, .int (nI a), .int i, .int n] m Z := by
  refine dx_sem km_X3_reaches rfl rfl ?_
  refine dx_blk 0 (c' := (0, [.ref 0, .int (nI a), .int i, .int n], [], m)) rfl ?_
  refine dx_blk 1 (c' := (1, [.ref 0, .int (nI a), .int i, .int n], [.int i], m)) rfl ?_
  refine dx_br (q := i < 0) (a := 34) (b := 4) (L := [.ref 0, .int (nI a), .int i, .int n]) (st := []) (m := m) rfl (fun h1 => ?_) (fun h1 => ?_)
  · refine dx_blk 1 (c' := (35, [.ref 0, .int (nI a), .int i, .int n], [.int 0], m)) rfl ?_
    exact dx_ret (r := some (.int 0)) rfl (by first | (rw [rB_f1 (by assumption)] at h; exact h) | (rw [rB_f2 (by assumption)] at h; exact h) | (rw [rB_f3 hz (by rw [← ez]; assumption)] at h; exact h) | (rw [rB_f4 hz (by rw [← ez]; assumption)] at h; exact h) | (rw [rB_t hz (by assumption) (by assumption) (by rw [← ez]; assumption) (by rw [← ez]; assumption)] at h; exact h))
  · refine dx_blk 1 (c' := (5, [.ref 0, .int (nI a), .int i, .int n], [.int n], m)) rfl ?_
    refine dx_br (q := n < 0) (a := 34) (b := 8) (L := [.ref 0, .int (nI a), .int i, .int n]) (st := []) (m := m) rfl (fun h5 => ?_) (fun h5 => ?_)
    · refine dx_blk 1 (c' := (35, [.ref 0, .int (nI a), .int i, .int n], [.int 0], m)) rfl ?_
      exact dx_ret (r := some (.int 0)) rfl (by first | (rw [rB_f1 (by assumption)] at h; exact h) | (rw [rB_f2 (by assumption)] at h; exact h) | (rw [rB_f3 hz (by rw [← ez]; assumption)] at h; exact h) | (rw [rB_f4 hz (by rw [← ez]; assumption)] at h; exact h) | (rw [rB_t hz (by assumption) (by assumption) (by rw [← ez]; assumption) (by rw [← ez]; assumption)] at h; exact h))
    · refine dx_blk 4 (c' := (14, [.ref 0, .int (nI a), .int i, .int n], [.int (nI a), .ref 8, .int i], m)) rfl ?_
      refine dx_aldN a rfl rfl rfl rfl (by omega) ?_
      refine dx_blk 0 (c' := (15, [.ref 0, .int (nI a), .int i, .int n], [.int (m.1 8 a), .int i], m)) rfl ?_
      refine dx_br (q := (m.1 8 a) < i) (a := 34) (b := 18) (L := [.ref 0, .int (nI a), .int i, .int n]) (st := []) (m := m) rfl (fun h15 => ?_) (fun h15 => ?_)
      · refine dx_blk 1 (c' := (35, [.ref 0, .int (nI a), .int i, .int n], [.int 0], m)) rfl ?_
        exact dx_ret (r := some (.int 0)) rfl (by first | (rw [rB_f1 (by assumption)] at h; exact h) | (rw [rB_f2 (by assumption)] at h; exact h) | (rw [rB_f3 hz (by rw [← ez]; assumption)] at h; exact h) | (rw [rB_f4 hz (by rw [← ez]; assumption)] at h; exact h) | (rw [rB_t hz (by assumption) (by assumption) (by rw [← ez]; assumption) (by rw [← ez]; assumption)] at h; exact h))
      · refine dx_blk 4 (c' := (24, [.ref 0, .int (nI a), .int i, .int n], [.int (nI a), .ref 8, .int n], m)) rfl ?_
        refine dx_aldN a rfl rfl rfl rfl (by omega) ?_
        refine dx_blk 0 (c' := (25, [.ref 0, .int (nI a), .int i, .int n], [.int (m.1 8 a), .int n], m)) rfl ?_
        refine dx_blk 2 (c' := (27, [.ref 0, .int (nI a), .int i, .int n], [.int ((m.1 8 a) - i), .int n], m)) rfl ?_
        refine dx_br (q := ((m.1 8 a) - i) < n) (a := 34) (b := 30) (L := [.ref 0, .int (nI a), .int i, .int n]) (st := []) (m := m) rfl (fun h27 => ?_) (fun h27 => ?_)
        · refine dx_blk 1 (c' := (35, [.ref 0, .int (nI a), .int i, .int n], [.int 0], m)) rfl ?_
          exact dx_ret (r := some (.int 0)) rfl (by first | (rw [rB_f1 (by assumption)] at h; exact h) | (rw [rB_f2 (by assumption)] at h; exact h) | (rw [rB_f3 hz (by rw [← ez]; assumption)] at h; exact h) | (rw [rB_f4 hz (by rw [← ez]; assumption)] at h; exact h) | (rw [rB_t hz (by assumption) (by assumption) (by rw [← ez]; assumption) (by rw [← ez]; assumption)] at h; exact h))
        · refine dx_blk 2 (c' := (35, [.ref 0, .int (nI a), .int i, .int n], [.int 1], m)) rfl ?_
          exact dx_ret (r := some (.int 1)) rfl (by first | (rw [rB_f1 (by assumption)] at h; exact h) | (rw [rB_f2 (by assumption)] at h; exact h) | (rw [rB_f3 hz (by rw [← ez]; assumption)] at h; exact h) | (rw [rB_f4 hz (by rw [← ez]; assumption)] at h; exact h) | (rw [rB_t hz (by assumption) (by assumption) (by rw [← ez]; assumption) (by rw [← ez]; assumption)] at h; exact h))
theorem dx_cpN {d : Nat} {C : Nat → List Value → dx_M → (Option Value → dx_M → Prop) → Prop} {lay : List dx_Cell} {K : dx_K} {Z : Option Value → dx_M → Prop} {pc : Nat} {L : List Value} {m : dx_M} {r : dx_I} {x h k n0 n1 p q c : Nat} {r0 r1 : List Nat} (hrow : dx_look K.2.1 pc = some r) (hr : r.1 = .invokestatic x) (ha : r.2.2.2.1 = 4) (hh : lay[h]? = some (.inr (1, n0, r0))) (hk : lay[k]? = some (.inr (1, n1, r1))) (h0 : n0 < 2147483648) (h1 : n1 < 2147483648) (h2 : p + c ≤ n0) (h3 : q + c ≤ n1) (hf : ∀ i, i < c → fits .byte (.int (m.1 h (p + i))) = true) (kk : dx_Go (d + 1) C lay K Z (pc + 3, L, [], dx_pR m k (va_cpy (m.1 h) (m.1 k) p q c))) : dx_Go (d + 1) C lay K Z (pc, L, [.int (nI c), .int (nI q), .ref k, .int (nI p), .ref h], m) := by
  refine dx_copy (c' := (pc + 3, L, [], dx_pR m k (va_cpy (m.1 h) (m.1 k) p q c))) ?_ kk
  have ec : (nI c).toNatClampNeg = c := nI_clamp (by omega)
  have ep : (nI p).toNatClampNeg = p := nI_clamp (by omega)
  have eq : (nI q).toNatClampNeg = q := nI_clamp (by omega)
  have e1 : dx_mth r pc L [.int (nI c), .int (nI q), .ref k, .int (nI p), .ref h] m = none := by
    obtain ⟨i, n, v, a, b, cc, ts⟩ := r
    dsimp only at hr ha
    subst hr; subst ha
    rfl
  have e2 : dx_cpx lay r pc L [.int (nI c), .int (nI q), .ref k, .int (nI p), .ref h] m = some (pc + 3, L, [], dx_pR m k (va_cpy (m.1 h) (m.1 k) p q c)) := by
    obtain ⟨i, n, v, a, b, cc, ts⟩ := r
    dsimp only at hr ha
    subst hr; subst ha
    simp only [dx_cpx, hh, hk, ec, ep, eq]
    rw [if_pos ⟨nI_pos (by omega), nI_pos (by omega), nI_pos (by omega), h2, h3, hf, Nat.zero_le _⟩]
  simp only [dx_cp, hrow, e1, e2]
set_option maxRecDepth 20000 in
theorem sX3_copy {d : Nat} (m : dx_M) (hz : ∀ a : Nat, a < 6 → szP (m.1 8 a)) (hf : ∀ a j : Nat, a < 6 → j < 12 → fits .byte (.int (m.1 (20 + a) j)) = true) (s i t j n : Int32) {Z : Option Value → dx_M → Prop} (h1 : (inI s 0 5 && inI t 0 5) = false → Z (some (.int (-1))) m) (h2 : ∀ a b : Nat, a < 6 → b < 6 → s = nI a → t = nI b → (m.1 8 a = -1 ∨ m.1 8 b = -1) → Z (some (.int (-3))) (fndX m 1)) (h3 : ∀ a b z y : Nat, a < 6 → b < 6 → s = nI a → t = nI b → z ≤ 12 → y ≤ 12 → m.1 8 a = nI z → m.1 8 b = nI y → (rB z i n && rB y j n) = false → Z (some (.int (-3))) (fndX m 2)) (h4 : ∀ a b z y p q k : Nat, a < 6 → b < 6 → s = nI a → t = nI b → z ≤ 12 → y ≤ 12 → m.1 8 a = nI z → m.1 8 b = nI y → i = nI p → j = nI q → n = nI k → p + k ≤ z → q + k ≤ y → Z (some (.int 1)) (dx_pR m (20 + b) (va_cpy (m.1 (20 + a)) (m.1 (20 + b)) p q k))) : dx_Sem dx_P lx_X (d + 3) 33 [.ref 0, .int s, .int i, .int t, .int j, .int n] m Z := by
  refine dx_sem km_X3_copy rfl rfl ?_
  refine dx_blk 0 (c' := (0, [.ref 0, .int s, .int i, .int t, .int j, .int n], [], m)) rfl ?_
  refine dx_blk 1 (c' := (1, [.ref 0, .int s, .int i, .int t, .int j, .int n], [.int s], m)) rfl ?_
  refine dx_call (id := 66) (as := [.int s]) (rest := []) rfl ?_
  refine sX3_isSheet s _ ?_
  refine dx_blk 0 (c' := (4, [.ref 0, .int s, .int i, .int t, .int j, .int n], [.int (bI (inI s 0 5))], m)) rfl ?_
  refine dx_brB (B := (inI s 0 5)) (a := 14) (b := 7) (L := [.ref 0, .int s, .int i, .int t, .int j, .int n]) (st := []) (m := m) rfl (fun q4 => ?_) (fun q4 => ?_)
  · refine dx_blk 1 (c' := (15, [.ref 0, .int s, .int i, .int t, .int j, .int n], [.int (-1)], m)) rfl ?_
    exact dx_ret (r := some (.int (-1))) rfl (h1 (by simp_all))
  · refine dx_blk 1 (c' := (8, [.ref 0, .int s, .int i, .int t, .int j, .int n], [.int t], m)) rfl ?_
    refine dx_call (id := 66) (as := [.int t]) (rest := []) rfl ?_
    refine sX3_isSheet t _ ?_
    refine dx_blk 0 (c' := (11, [.ref 0, .int s, .int i, .int t, .int j, .int n], [.int (bI (inI t 0 5))], m)) rfl ?_
    refine dx_brB (B := (inI t 0 5)) (a := 14) (b := 16) (L := [.ref 0, .int s, .int i, .int t, .int j, .int n]) (st := []) (m := m) rfl (fun q11 => ?_) (fun q11 => ?_)
    · refine dx_blk 1 (c' := (15, [.ref 0, .int s, .int i, .int t, .int j, .int n], [.int (-1)], m)) rfl ?_
      exact dx_ret (r := some (.int (-1))) rfl (h1 (by simp_all))
    · obtain ⟨a, ha0, rfl⟩ := in_N (n := 5) rfl q4
      have ha : a < 6 := by omega
      obtain ⟨b, hb0, rfl⟩ := in_N (n := 5) rfl q11
      have hb : b < 6 := by omega
      refine dx_blk 3 (c' := (21, [.ref 0, .int (nI a), .int i, .int (nI b), .int j, .int n], [.int (nI a), .ref 8], m)) rfl ?_
      refine dx_aldN a rfl rfl rfl rfl (by omega) ?_
      refine dx_blk 0 (c' := (22, [.ref 0, .int (nI a), .int i, .int (nI b), .int j, .int n], [.int (m.1 8 a)], m)) rfl ?_
      refine dx_blk 1 (c' := (23, [.ref 0, .int (nI a), .int i, .int (nI b), .int j, .int n], [.int (-1), .int (m.1 8 a)], m)) rfl ?_
      refine dx_br (q := (m.1 8 a) = (-1)) (a := 36) (b := 26) (L := [.ref 0, .int (nI a), .int i, .int (nI b), .int j, .int n]) (st := []) (m := m) rfl (fun h23 => ?_) (fun h23 => ?_)
      · refine dx_blk 2 (c' := (38, [.ref 0, .int (nI a), .int i, .int (nI b), .int j, .int n], [.int 1, .ref 0], m)) rfl ?_
        refine dx_call (id := 70) (as := [.ref 0, .int 1]) (rest := []) rfl ?_
        refine sX3_find 1 (by decide) _ ?_
        refine dx_blk 0 (c' := (41, [.ref 0, .int (nI a), .int i, .int (nI b), .int j, .int n], [.int (-3)], (fndX m 1))) rfl ?_
        exact dx_ret (r := some (.int (-3))) rfl (h2 a b ha hb rfl rfl (by first | exact Or.inl (by assumption) | exact Or.inr (by assumption)))
      · refine dx_blk 3 (c' := (31, [.ref 0, .int (nI a), .int i, .int (nI b), .int j, .int n], [.int (nI b), .ref 8], m)) rfl ?_
        refine dx_aldN b rfl rfl rfl rfl (by omega) ?_
        refine dx_blk 0 (c' := (32, [.ref 0, .int (nI a), .int i, .int (nI b), .int j, .int n], [.int (m.1 8 b)], m)) rfl ?_
        refine dx_blk 1 (c' := (33, [.ref 0, .int (nI a), .int i, .int (nI b), .int j, .int n], [.int (-1), .int (m.1 8 b)], m)) rfl ?_
        refine dx_br (q := (m.1 8 b) = (-1)) (a := 36) (b := 42) (L := [.ref 0, .int (nI a), .int i, .int (nI b), .int j, .int n]) (st := []) (m := m) rfl (fun h33 => ?_) (fun h33 => ?_)
        · refine dx_blk 2 (c' := (38, [.ref 0, .int (nI a), .int i, .int (nI b), .int j, .int n], [.int 1, .ref 0], m)) rfl ?_
          refine dx_call (id := 70) (as := [.ref 0, .int 1]) (rest := []) rfl ?_
          refine sX3_find 1 (by decide) _ ?_
          refine dx_blk 0 (c' := (41, [.ref 0, .int (nI a), .int i, .int (nI b), .int j, .int n], [.int (-3)], (fndX m 1))) rfl ?_
          exact dx_ret (r := some (.int (-3))) rfl (h2 a b ha hb rfl rfl (by first | exact Or.inl (by assumption) | exact Or.inr (by assumption)))
        · obtain ⟨z, hz1, ez⟩ := szC (hz a ha) (by assumption)
          obtain ⟨y, hy1, ey⟩ := szC (hz b hb) (by assumption)
          refine dx_blk 4 (c' := (47, [.ref 0, .int (nI a), .int i, .int (nI b), .int j, .int n], [.int n, .int i, .int (nI a), .ref 0], m)) rfl ?_
          refine dx_call (id := 69) (as := [.ref 0, .int (nI a), .int i, .int n]) (rest := []) rfl ?_
          refine sX3_reaches _ (a := a) (z := z) (by omega) (by omega) (by assumption) i n ?_
          refine dx_blk 0 (c' := (50, [.ref 0, .int (nI a), .int i, .int (nI b), .int j, .int n], [.int (bI (rB z i n))], m)) rfl ?_
          refine dx_brB (B := (rB z i n)) (a := 65) (b := 53) (L := [.ref 0, .int (nI a), .int i, .int (nI b), .int j, .int n]) (st := []) (m := m) rfl (fun h50 => ?_) (fun h50 => ?_)
          · refine dx_blk 2 (c' := (67, [.ref 0, .int (nI a), .int i, .int (nI b), .int j, .int n], [.int 2, .ref 0], m)) rfl ?_
            refine dx_call (id := 70) (as := [.ref 0, .int 2]) (rest := []) rfl ?_
            refine sX3_find 2 (by decide) _ ?_
            refine dx_blk 0 (c' := (70, [.ref 0, .int (nI a), .int i, .int (nI b), .int j, .int n], [.int (-3)], (fndX m 2))) rfl ?_
            exact dx_ret (r := some (.int (-3))) rfl (h3 a b z y ha hb rfl rfl hz1 hy1 ez ey (by simp_all))
          · refine dx_blk 4 (c' := (59, [.ref 0, .int (nI a), .int i, .int (nI b), .int j, .int n], [.int n, .int j, .int (nI b), .ref 0], m)) rfl ?_
            refine dx_call (id := 69) (as := [.ref 0, .int (nI b), .int j, .int n]) (rest := []) rfl ?_
            refine sX3_reaches _ (a := b) (z := y) (by omega) (by omega) (by assumption) j n ?_
            refine dx_blk 0 (c' := (62, [.ref 0, .int (nI a), .int i, .int (nI b), .int j, .int n], [.int (bI (rB y j n))], m)) rfl ?_
            refine dx_brB (B := (rB y j n)) (a := 65) (b := 71) (L := [.ref 0, .int (nI a), .int i, .int (nI b), .int j, .int n]) (st := []) (m := m) rfl (fun h62 => ?_) (fun h62 => ?_)
            · refine dx_blk 2 (c' := (67, [.ref 0, .int (nI a), .int i, .int (nI b), .int j, .int n], [.int 2, .ref 0], m)) rfl ?_
              refine dx_call (id := 70) (as := [.ref 0, .int 2]) (rest := []) rfl ?_
              refine sX3_find 2 (by decide) _ ?_
              refine dx_blk 0 (c' := (70, [.ref 0, .int (nI a), .int i, .int (nI b), .int j, .int n], [.int (-3)], (fndX m 2))) rfl ?_
              exact dx_ret (r := some (.int (-3))) rfl (h3 a b z y ha hb rfl rfl hz1 hy1 ez ey (by simp_all))
            · obtain ⟨p, k, rfl, rfl, hpk⟩ := rB_of hz1 (by assumption)
              obtain ⟨q, k2, rfl, ek, hqk⟩ := rB_of hy1 (by assumption)
              obtain rfl : k = k2 := (nI_eq (by omega) (by omega)).mp ek
              refine dx_blk 3 (c' := (76, [.ref 0, .int (nI a), .int (nI p), .int (nI b), .int (nI q), .int (nI k)], [.int (nI a), .ref 7], m)) rfl ?_
              refine dx_aadN a (q := (20 + a)) rfl rfl (Or.inr rfl) rfl (by omega) (lx_rs7 a (by omega)) ?_
              refine dx_blk 0 (c' := (77, [.ref 0, .int (nI a), .int (nI p), .int (nI b), .int (nI q), .int (nI k)], [.ref (20 + a)], m)) rfl ?_
              refine dx_blk 4 (c' := (83, [.ref 0, .int (nI a), .int (nI p), .int (nI b), .int (nI q), .int (nI k)], [.int (nI b), .ref 7, .int (nI p), .ref (20 + a)], m)) rfl ?_
              refine dx_aadN b (q := (20 + b)) rfl rfl (Or.inr rfl) rfl (by omega) (lx_rs7 b (by omega)) ?_
              refine dx_blk 0 (c' := (84, [.ref 0, .int (nI a), .int (nI p), .int (nI b), .int (nI q), .int (nI k)], [.ref (20 + b), .int (nI p), .ref (20 + a)], m)) rfl ?_
              refine dx_blk 2 (c' := (88, [.ref 0, .int (nI a), .int (nI p), .int (nI b), .int (nI q), .int (nI k)], [.int (nI k), .int (nI q), .ref (20 + b), .int (nI p), .ref (20 + a)], m)) rfl ?_
              refine dx_cpN (r := (.invokestatic 84, 3, .null, 4, 0, 0, [])) (h := 20 + a) (k := 20 + b) (n0 := 12) (n1 := 12) (p := p) (q := q) (c := k) rfl rfl rfl (lx_row a ha) (lx_row b hb) (by decide) (by decide) (by omega) (by omega) (fun i hi => hf a (p + i) ha (by omega)) ?_
              refine dx_blk 1 (c' := (92, [.ref 0, .int (nI a), .int (nI p), .int (nI b), .int (nI q), .int (nI k)], [.int 1], dx_pR m (20 + b) (va_cpy (m.1 (20 + a)) (m.1 (20 + b)) p q k))) rfl ?_
              exact dx_ret (r := some (.int 1)) rfl (h4 a b z y p q k ha hb rfl rfl hz1 hy1 ez ey rfl rfl rfl hpk hqk)
set_option maxRecDepth 20000 in
theorem sX4_copy {d : Nat} (m : dx_M) (hz : ∀ a : Nat, a < 6 → szP (m.1 3 a)) (hb8 : ∀ c : Nat, c < 72 → (m.1 4 c).toInt8.toInt32 = m.1 4 c) (s i t j n : Int32) {Z : Option Value → dx_M → Prop} (h1 : (inI s 0 5 && inI t 0 5) = false → Z (some (.int (-1))) m) (h2 : ∀ a b : Nat, a < 6 → b < 6 → s = nI a → t = nI b → (m.1 3 a = -1 ∨ m.1 3 b = -1) → Z (some (.int (-3))) (fndM m 1)) (h3 : ∀ a b z y : Nat, a < 6 → b < 6 → s = nI a → t = nI b → z ≤ 12 → y ≤ 12 → m.1 3 a = nI z → m.1 3 b = nI y → (rB z i n && rB y j n) = false → Z (some (.int (-3))) (fndM m 2)) (h4 : ∀ a b z y p q k : Nat, a < 6 → b < 6 → s = nI a → t = nI b → z ≤ 12 → y ≤ 12 → m.1 3 a = nI z → m.1 3 b = nI y → i = nI p → j = nI q → n = nI k → p + k ≤ z → q + k ≤ y → Z (some (.int 1)) (dx_pR (dx_pR m 5 (fa_fill (fun c => m.1 4 (12 * a + p + c)) (m.1 5) k)) 4 (fb_put (m.1 4) (fun c => m.1 4 (12 * a + p + c)) (12 * b + q) k))) : dx_Sem dx_P lx_M (d + 3) 100 [.ref 0, .int s, .int i, .int t, .int j, .int n] m Z := by
  refine dx_sem km_X4_copy rfl rfl ?_
  refine dx_blk 0 (c' := (0, [.ref 0, .int s, .int i, .int t, .int j, .int n, .null], [], m)) rfl ?_
  refine dx_blk 1 (c' := (1, [.ref 0, .int s, .int i, .int t, .int j, .int n, .null], [.int s], m)) rfl ?_
  refine dx_call (id := 96) (as := [.int s]) (rest := []) rfl ?_
  refine sX4_isSheet s _ ?_
  refine dx_blk 0 (c' := (4, [.ref 0, .int s, .int i, .int t, .int j, .int n, .null], [.int (bI (inI s 0 5))], m)) rfl ?_
  refine dx_brB (B := (inI s 0 5)) (a := 14) (b := 7) (L := [.ref 0, .int s, .int i, .int t, .int j, .int n, .null]) (st := []) (m := m) rfl (fun q4 => ?_) (fun q4 => ?_)
  · refine dx_blk 1 (c' := (15, [.ref 0, .int s, .int i, .int t, .int j, .int n, .null], [.int (-1)], m)) rfl ?_
    exact dx_ret (r := some (.int (-1))) rfl (h1 (by simp_all))
  · refine dx_blk 1 (c' := (8, [.ref 0, .int s, .int i, .int t, .int j, .int n, .null], [.int t], m)) rfl ?_
    refine dx_call (id := 96) (as := [.int t]) (rest := []) rfl ?_
    refine sX4_isSheet t _ ?_
    refine dx_blk 0 (c' := (11, [.ref 0, .int s, .int i, .int t, .int j, .int n, .null], [.int (bI (inI t 0 5))], m)) rfl ?_
    refine dx_brB (B := (inI t 0 5)) (a := 14) (b := 16) (L := [.ref 0, .int s, .int i, .int t, .int j, .int n, .null]) (st := []) (m := m) rfl (fun q11 => ?_) (fun q11 => ?_)
    · refine dx_blk 1 (c' := (15, [.ref 0, .int s, .int i, .int t, .int j, .int n, .null], [.int (-1)], m)) rfl ?_
      exact dx_ret (r := some (.int (-1))) rfl (h1 (by simp_all))
    · obtain ⟨a, ha0, rfl⟩ := in_N (n := 5) rfl q4
      have ha : a < 6 := by omega
      obtain ⟨b, hb0, rfl⟩ := in_N (n := 5) rfl q11
      have hb : b < 6 := by omega
      refine dx_blk 3 (c' := (21, [.ref 0, .int (nI a), .int i, .int (nI b), .int j, .int n, .null], [.int (nI a), .ref 3], m)) rfl ?_
      refine dx_aldN a rfl rfl rfl rfl (by omega) ?_
      refine dx_blk 0 (c' := (22, [.ref 0, .int (nI a), .int i, .int (nI b), .int j, .int n, .null], [.int (m.1 3 a)], m)) rfl ?_
      refine dx_br (q := (m.1 3 a) < 0) (a := 34) (b := 25) (L := [.ref 0, .int (nI a), .int i, .int (nI b), .int j, .int n, .null]) (st := []) (m := m) rfl (fun h22 => ?_) (fun h22 => ?_)
      · refine dx_blk 2 (c' := (36, [.ref 0, .int (nI a), .int i, .int (nI b), .int j, .int n, .null], [.int 1, .ref 0], m)) rfl ?_
        refine dx_call (id := 83) (as := [.ref 0, .int 1]) (rest := []) rfl ?_
        refine sX4_meets 1 (by decide) _ ?_
        refine dx_blk 0 (c' := (39, [.ref 0, .int (nI a), .int i, .int (nI b), .int j, .int n, .null], [.int (-3)], (fndM m 1))) rfl ?_
        exact dx_ret (r := some (.int (-3))) rfl (h2 a b ha hb rfl rfl (by first | exact Or.inl (szD (hz a ha) (by assumption)) | exact Or.inr (szA (hz b hb) (by assumption))))
      · refine dx_blk 3 (c' := (30, [.ref 0, .int (nI a), .int i, .int (nI b), .int j, .int n, .null], [.int (nI b), .ref 3], m)) rfl ?_
        refine dx_aldN b rfl rfl rfl rfl (by omega) ?_
        refine dx_blk 0 (c' := (31, [.ref 0, .int (nI a), .int i, .int (nI b), .int j, .int n, .null], [.int (m.1 3 b)], m)) rfl ?_
        refine dx_br (q := 0 ≤ (m.1 3 b)) (a := 40) (b := 34) (L := [.ref 0, .int (nI a), .int i, .int (nI b), .int j, .int n, .null]) (st := []) (m := m) rfl (fun h31 => ?_) (fun h31 => ?_)
        · obtain ⟨z, hz1, ez⟩ := szE (hz a ha) (by assumption)
          obtain ⟨y, hy1, ey⟩ := szB (hz b hb) (by assumption)
          refine dx_blk 1 (c' := (41, [.ref 0, .int (nI a), .int i, .int (nI b), .int j, .int n, .null], [.int i], m)) rfl ?_
          refine dx_br (q := i < 0) (a := 89) (b := 44) (L := [.ref 0, .int (nI a), .int i, .int (nI b), .int j, .int n, .null]) (st := []) (m := m) rfl (fun h41 => ?_) (fun h41 => ?_)
          · refine dx_blk 2 (c' := (91, [.ref 0, .int (nI a), .int i, .int (nI b), .int j, .int n, .null], [.int 2, .ref 0], m)) rfl ?_
            refine dx_call (id := 83) (as := [.ref 0, .int 2]) (rest := []) rfl ?_
            refine sX4_meets 2 (by decide) _ ?_
            refine dx_blk 0 (c' := (94, [.ref 0, .int (nI a), .int i, .int (nI b), .int j, .int n, .null], [.int (-3)], (fndM m 2))) rfl ?_
            exact dx_ret (r := some (.int (-3))) rfl (h3 a b z y ha hb rfl rfl hz1 hy1 ez ey (by first | (rw [rB_f1 (by assumption)]; rfl) | (rw [rB_f1 (z := y) (by assumption), Bool.and_false]) | (rw [rB_f2 (by assumption)]; rfl) | (rw [rB_f5 hz1 (by assumption) (by assumption) (by rw [← ez]; assumption)]; rfl) | (rw [rB_f5 hy1 (by assumption) (by assumption) (by rw [← ey, fa_lt64]; rw [fa_le64] at *; omega), Bool.and_false])))
          · refine dx_blk 1 (c' := (46, [.ref 0, .int (nI a), .int i, .int (nI b), .int j, .int n, .null], [.int j], m)) rfl ?_
            refine dx_br (q := j < 0) (a := 89) (b := 49) (L := [.ref 0, .int (nI a), .int i, .int (nI b), .int j, .int n, .null]) (st := []) (m := m) rfl (fun h46 => ?_) (fun h46 => ?_)
            · refine dx_blk 2 (c' := (91, [.ref 0, .int (nI a), .int i, .int (nI b), .int j, .int n, .null], [.int 2, .ref 0], m)) rfl ?_
              refine dx_call (id := 83) (as := [.ref 0, .int 2]) (rest := []) rfl ?_
              refine sX4_meets 2 (by decide) _ ?_
              refine dx_blk 0 (c' := (94, [.ref 0, .int (nI a), .int i, .int (nI b), .int j, .int n, .null], [.int (-3)], (fndM m 2))) rfl ?_
              exact dx_ret (r := some (.int (-3))) rfl (h3 a b z y ha hb rfl rfl hz1 hy1 ez ey (by first | (rw [rB_f1 (by assumption)]; rfl) | (rw [rB_f1 (z := y) (by assumption), Bool.and_false]) | (rw [rB_f2 (by assumption)]; rfl) | (rw [rB_f5 hz1 (by assumption) (by assumption) (by rw [← ez]; assumption)]; rfl) | (rw [rB_f5 hy1 (by assumption) (by assumption) (by rw [← ey, fa_lt64]; rw [fa_le64] at *; omega), Bool.and_false])))
            · refine dx_blk 1 (c' := (51, [.ref 0, .int (nI a), .int i, .int (nI b), .int j, .int n, .null], [.int n], m)) rfl ?_
              refine dx_br (q := n < 0) (a := 89) (b := 54) (L := [.ref 0, .int (nI a), .int i, .int (nI b), .int j, .int n, .null]) (st := []) (m := m) rfl (fun h51 => ?_) (fun h51 => ?_)
              · refine dx_blk 2 (c' := (91, [.ref 0, .int (nI a), .int i, .int (nI b), .int j, .int n, .null], [.int 2, .ref 0], m)) rfl ?_
                refine dx_call (id := 83) (as := [.ref 0, .int 2]) (rest := []) rfl ?_
                refine sX4_meets 2 (by decide) _ ?_
                refine dx_blk 0 (c' := (94, [.ref 0, .int (nI a), .int i, .int (nI b), .int j, .int n, .null], [.int (-3)], (fndM m 2))) rfl ?_
                exact dx_ret (r := some (.int (-3))) rfl (h3 a b z y ha hb rfl rfl hz1 hy1 ez ey (by first | (rw [rB_f1 (by assumption)]; rfl) | (rw [rB_f1 (z := y) (by assumption), Bool.and_false]) | (rw [rB_f2 (by assumption)]; rfl) | (rw [rB_f5 hz1 (by assumption) (by assumption) (by rw [← ez]; assumption)]; rfl) | (rw [rB_f5 hy1 (by assumption) (by assumption) (by rw [← ey, fa_lt64]; rw [fa_le64] at *; omega), Bool.and_false])))
              · refine dx_blk 8 (c' := (65, [.ref 0, .int (nI a), .int i, .int (nI b), .int j, .int n, .null], [.int (nI a), .ref 3, .long (i.toInt64 + n.toInt64)], m)) rfl ?_
                refine dx_aldN a rfl rfl rfl rfl (by omega) ?_
                refine dx_blk 0 (c' := (66, [.ref 0, .int (nI a), .int i, .int (nI b), .int j, .int n, .null], [.int (m.1 3 a), .long (i.toInt64 + n.toInt64)], m)) rfl ?_
                refine dx_blk 2 (c' := (68, [.ref 0, .int (nI a), .int i, .int (nI b), .int j, .int n, .null], [.int (lg_cmp (i.toInt64 + n.toInt64) ((m.1 3 a).toInt64))], m)) rfl ?_
                refine dx_brQ (q := 0 < (lg_cmp (i.toInt64 + n.toInt64) ((m.1 3 a).toInt64))) (a := 89) (b := 71) (L := [.ref 0, .int (nI a), .int i, .int (nI b), .int j, .int n, .null]) (st := []) (m := m) (lc_gt _ _) rfl (fun h68 => ?_) (fun h68 => ?_)
                · refine dx_blk 2 (c' := (91, [.ref 0, .int (nI a), .int i, .int (nI b), .int j, .int n, .null], [.int 2, .ref 0], m)) rfl ?_
                  refine dx_call (id := 83) (as := [.ref 0, .int 2]) (rest := []) rfl ?_
                  refine sX4_meets 2 (by decide) _ ?_
                  refine dx_blk 0 (c' := (94, [.ref 0, .int (nI a), .int i, .int (nI b), .int j, .int n, .null], [.int (-3)], (fndM m 2))) rfl ?_
                  exact dx_ret (r := some (.int (-3))) rfl (h3 a b z y ha hb rfl rfl hz1 hy1 ez ey (by first | (rw [rB_f1 (by assumption)]; rfl) | (rw [rB_f1 (z := y) (by assumption), Bool.and_false]) | (rw [rB_f2 (by assumption)]; rfl) | (rw [rB_f5 hz1 (by assumption) (by assumption) (by rw [← ez]; assumption)]; rfl) | (rw [rB_f5 hy1 (by assumption) (by assumption) (by rw [← ey, fa_lt64]; rw [fa_le64] at *; omega), Bool.and_false])))
                · refine dx_blk 8 (c' := (83, [.ref 0, .int (nI a), .int i, .int (nI b), .int j, .int n, .null], [.int (nI b), .ref 3, .long (j.toInt64 + n.toInt64)], m)) rfl ?_
                  refine dx_aldN b rfl rfl rfl rfl (by omega) ?_
                  refine dx_blk 0 (c' := (84, [.ref 0, .int (nI a), .int i, .int (nI b), .int j, .int n, .null], [.int (m.1 3 b), .long (j.toInt64 + n.toInt64)], m)) rfl ?_
                  refine dx_blk 2 (c' := (86, [.ref 0, .int (nI a), .int i, .int (nI b), .int j, .int n, .null], [.int (lg_cmp (j.toInt64 + n.toInt64) ((m.1 3 b).toInt64))], m)) rfl ?_
                  refine dx_brQ (q := (lg_cmp (j.toInt64 + n.toInt64) ((m.1 3 b).toInt64)) ≤ 0) (a := 95) (b := 89) (L := [.ref 0, .int (nI a), .int i, .int (nI b), .int j, .int n, .null]) (st := []) (m := m) (lc_le _ _) rfl (fun h86 => ?_) (fun h86 => ?_)
                  · obtain ⟨p, k, rfl, rfl, hpk⟩ := rB_of hz1 (rB_t5 hz1 h41 h51 (by rw [← ez]; exact h68))
                    obtain ⟨q, k2, rfl, ek, hqk⟩ := rB_of hy1 (rB_t5 hy1 h46 h51 (by rw [← ey, fa_lt64]; rw [fa_le64] at h86; omega))
                    obtain rfl : k = k2 := (nI_eq (by omega) (by omega)).mp ek
                    refine dx_blk 2 (c' := (98, [.ref 0, .int (nI a), .int (nI p), .int (nI b), .int (nI q), .int (nI k), .int 0], [], m)) rfl ?_
                    refine dx_mem (m' := dx_pR m 5 (fa_fill (fun c => m.1 4 (12 * a + p + c)) (m.1 5) 0)) (by rw [fa_fill_0]; exact (dx_pR_self _ 5).symm) ?_
                    refine dx_blk 0 (c' := (98, [.ref 0, .int (nI a), .int (nI p), .int (nI b), .int (nI q), .int (nI k), .int (nI 0)], [], dx_pR m 5 (fa_fill (fun c => m.1 4 (12 * a + p + c)) (m.1 5) 0))) rfl ?_
                    refine dx_for0 (fun (i : Nat) => ((98, [.ref 0, .int (nI a), .int (nI p), .int (nI b), .int (nI q), .int (nI k), .int (nI i)], [], dx_pR m 5 (fa_fill (fun c => m.1 4 (12 * a + p + c)) (m.1 5) i)) : dx_F)) k (fun i hi hk => ?_) ?_
                    · refine dx_blk 0 (c' := (98, [.ref 0, .int (nI a), .int (nI p), .int (nI b), .int (nI q), .int (nI k), .int (nI i)], [], dx_pR m 5 (fa_fill (fun c => m.1 4 (12 * a + p + c)) (m.1 5) i))) rfl ?_
                      refine dx_blk 2 (c' := (102, [.ref 0, .int (nI a), .int (nI p), .int (nI b), .int (nI q), .int (nI k), .int (nI i)], [.int (nI k), .int (nI i)], dx_pR m 5 (fa_fill (fun c => m.1 4 (12 * a + p + c)) (m.1 5) i))) rfl ?_
                      refine dx_br (q := (nI k) ≤ (nI i)) (a := 132) (b := 105) (L := [.ref 0, .int (nI a), .int (nI p), .int (nI b), .int (nI q), .int (nI k), .int (nI i)]) (st := []) (m := dx_pR m 5 (fa_fill (fun c => m.1 4 (12 * a + p + c)) (m.1 5) i)) rfl (fun h => absurd h (nI_ge hi (by omega))) (fun _ => ?_)
                      refine dx_blk 12 (c' := (124, [.ref 0, .int (nI a), .int (nI p), .int (nI b), .int (nI q), .int (nI k), .int (nI i)], [.int (((12 * (nI a)) + (nI p)) + (nI i)), .ref 4, .int (nI i), .ref 5], dx_pR m 5 (fa_fill (fun c => m.1 4 (12 * a + p + c)) (m.1 5) i))) rfl ?_
                      refine dx_bldN (12 * a + p + i) rfl rfl (Or.inl rfl) (nI_ix3 a p i) (by omega) ?_
                      refine dx_blk 0 (c' := (125, [.ref 0, .int (nI a), .int (nI p), .int (nI b), .int (nI q), .int (nI k), .int (nI i)], [.int (m.1 4 (12 * a + p + i)), .int (nI i), .ref 5], dx_pR m 5 (fa_fill (fun c => m.1 4 (12 * a + p + c)) (m.1 5) i))) rfl ?_
                      refine dx_bstB i rfl rfl rfl rfl (by omega) ?_
                      refine dx_blk 0 (c' := (126, [.ref 0, .int (nI a), .int (nI p), .int (nI b), .int (nI q), .int (nI k), .int (nI i)], [], dx_pI (dx_pR m 5 (fa_fill (fun c => m.1 4 (12 * a + p + c)) (m.1 5) i)) 5 i ((m.1 4 (12 * a + p + i)).toInt8.toInt32))) rfl ?_
                      refine dx_blk 2 (c' := (98, [.ref 0, .int (nI a), .int (nI p), .int (nI b), .int (nI q), .int (nI k), .int ((nI i) + 1)], [], dx_pI (dx_pR m 5 (fa_fill (fun c => m.1 4 (12 * a + p + c)) (m.1 5) i)) 5 i ((m.1 4 (12 * a + p + i)).toInt8.toInt32))) rfl ?_
                      rw [dx_pI_pR, show (m.1 4 (12 * a + p + i)).toInt8.toInt32 = (fun c => m.1 4 (12 * a + p + c)) i from hb8 _ (by omega), fa_fill_succ, ← nI_succ]
                      exact hk
                    · refine dx_blk 0 (c' := (98, [.ref 0, .int (nI a), .int (nI p), .int (nI b), .int (nI q), .int (nI k), .int (nI k)], [], dx_pR m 5 (fa_fill (fun c => m.1 4 (12 * a + p + c)) (m.1 5) k))) rfl ?_
                      refine dx_blk 2 (c' := (102, [.ref 0, .int (nI a), .int (nI p), .int (nI b), .int (nI q), .int (nI k), .int (nI k)], [.int (nI k), .int (nI k)], dx_pR m 5 (fa_fill (fun c => m.1 4 (12 * a + p + c)) (m.1 5) k))) rfl ?_
                      refine dx_br (q := (nI k) ≤ (nI k)) (a := 132) (b := 105) (L := [.ref 0, .int (nI a), .int (nI p), .int (nI b), .int (nI q), .int (nI k), .int (nI k)]) (st := []) (m := dx_pR m 5 (fa_fill (fun c => m.1 4 (12 * a + p + c)) (m.1 5) k)) rfl (fun _ => ?_) (fun h => absurd (nI_le (Nat.le_refl _) (by omega)) h)
                      refine dx_blk 2 (c' := (135, [.ref 0, .int (nI a), .int (nI p), .int (nI b), .int (nI q), .int (nI k), .int 0], [], dx_pR m 5 (fa_fill (fun c => m.1 4 (12 * a + p + c)) (m.1 5) k))) rfl ?_
                      refine dx_mem (m' := dx_pR (dx_pR m 5 (fa_fill (fun c => m.1 4 (12 * a + p + c)) (m.1 5) k)) 4 (fb_put (m.1 4) (fun c => m.1 4 (12 * a + p + c)) (12 * b + q) 0)) (by rw [fb_put_0]; exact (dx_pR_self _ 4).symm) ?_
                      refine dx_blk 0 (c' := (135, [.ref 0, .int (nI a), .int (nI p), .int (nI b), .int (nI q), .int (nI k), .int (nI 0)], [], dx_pR (dx_pR m 5 (fa_fill (fun c => m.1 4 (12 * a + p + c)) (m.1 5) k)) 4 (fb_put (m.1 4) (fun c => m.1 4 (12 * a + p + c)) (12 * b + q) 0))) rfl ?_
                      refine dx_for0 (fun (i : Nat) => ((135, [.ref 0, .int (nI a), .int (nI p), .int (nI b), .int (nI q), .int (nI k), .int (nI i)], [], dx_pR (dx_pR m 5 (fa_fill (fun c => m.1 4 (12 * a + p + c)) (m.1 5) k)) 4 (fb_put (m.1 4) (fun c => m.1 4 (12 * a + p + c)) (12 * b + q) i)) : dx_F)) k (fun i hi hk => ?_) ?_
                      · refine dx_blk 0 (c' := (135, [.ref 0, .int (nI a), .int (nI p), .int (nI b), .int (nI q), .int (nI k), .int (nI i)], [], dx_pR (dx_pR m 5 (fa_fill (fun c => m.1 4 (12 * a + p + c)) (m.1 5) k)) 4 (fb_put (m.1 4) (fun c => m.1 4 (12 * a + p + c)) (12 * b + q) i))) rfl ?_
                        refine dx_blk 2 (c' := (139, [.ref 0, .int (nI a), .int (nI p), .int (nI b), .int (nI q), .int (nI k), .int (nI i)], [.int (nI k), .int (nI i)], dx_pR (dx_pR m 5 (fa_fill (fun c => m.1 4 (12 * a + p + c)) (m.1 5) k)) 4 (fb_put (m.1 4) (fun c => m.1 4 (12 * a + p + c)) (12 * b + q) i))) rfl ?_
                        refine dx_br (q := (nI k) ≤ (nI i)) (a := 170) (b := 142) (L := [.ref 0, .int (nI a), .int (nI p), .int (nI b), .int (nI q), .int (nI k), .int (nI i)]) (st := []) (m := dx_pR (dx_pR m 5 (fa_fill (fun c => m.1 4 (12 * a + p + c)) (m.1 5) k)) 4 (fb_put (m.1 4) (fun c => m.1 4 (12 * a + p + c)) (12 * b + q) i)) rfl (fun h => absurd h (nI_ge hi (by omega))) (fun _ => ?_)
                        refine dx_blk 12 (c' := (162, [.ref 0, .int (nI a), .int (nI p), .int (nI b), .int (nI q), .int (nI k), .int (nI i)], [.int (nI i), .ref 5, .int (((12 * (nI b)) + (nI q)) + (nI i)), .ref 4], dx_pR (dx_pR m 5 (fa_fill (fun c => m.1 4 (12 * a + p + c)) (m.1 5) k)) 4 (fb_put (m.1 4) (fun c => m.1 4 (12 * a + p + c)) (12 * b + q) i))) rfl ?_
                        refine dx_bldN i rfl rfl (Or.inl rfl) rfl (by omega) ?_
                        refine dx_blk 0 (c' := (163, [.ref 0, .int (nI a), .int (nI p), .int (nI b), .int (nI q), .int (nI k), .int (nI i)], [.int ((fa_fill (fun c => m.1 4 (12 * a + p + c)) (m.1 5) k) i), .int (((12 * (nI b)) + (nI q)) + (nI i)), .ref 4], dx_pR (dx_pR m 5 (fa_fill (fun c => m.1 4 (12 * a + p + c)) (m.1 5) k)) 4 (fb_put (m.1 4) (fun c => m.1 4 (12 * a + p + c)) (12 * b + q) i))) rfl ?_
                        refine dx_bstB (12 * b + q + i) rfl rfl rfl (nI_ix3 b q i) (by omega) ?_
                        refine dx_blk 0 (c' := (164, [.ref 0, .int (nI a), .int (nI p), .int (nI b), .int (nI q), .int (nI k), .int (nI i)], [], dx_pI (dx_pR (dx_pR m 5 (fa_fill (fun c => m.1 4 (12 * a + p + c)) (m.1 5) k)) 4 (fb_put (m.1 4) (fun c => m.1 4 (12 * a + p + c)) (12 * b + q) i)) 4 (12 * b + q + i) (((fa_fill (fun c => m.1 4 (12 * a + p + c)) (m.1 5) k) i).toInt8.toInt32))) rfl ?_
                        refine dx_blk 2 (c' := (135, [.ref 0, .int (nI a), .int (nI p), .int (nI b), .int (nI q), .int (nI k), .int ((nI i) + 1)], [], dx_pI (dx_pR (dx_pR m 5 (fa_fill (fun c => m.1 4 (12 * a + p + c)) (m.1 5) k)) 4 (fb_put (m.1 4) (fun c => m.1 4 (12 * a + p + c)) (12 * b + q) i)) 4 (12 * b + q + i) (((fa_fill (fun c => m.1 4 (12 * a + p + c)) (m.1 5) k) i).toInt8.toInt32))) rfl ?_
                        rw [dx_pI_pR, fa_fill_in hi, show (m.1 4 (12 * a + p + i)).toInt8.toInt32 = (fun c => m.1 4 (12 * a + p + c)) i from hb8 _ (by omega), fb_put_succ, ← nI_succ]
                        exact hk
                      · refine dx_blk 0 (c' := (135, [.ref 0, .int (nI a), .int (nI p), .int (nI b), .int (nI q), .int (nI k), .int (nI k)], [], dx_pR (dx_pR m 5 (fa_fill (fun c => m.1 4 (12 * a + p + c)) (m.1 5) k)) 4 (fb_put (m.1 4) (fun c => m.1 4 (12 * a + p + c)) (12 * b + q) k))) rfl ?_
                        refine dx_blk 2 (c' := (139, [.ref 0, .int (nI a), .int (nI p), .int (nI b), .int (nI q), .int (nI k), .int (nI k)], [.int (nI k), .int (nI k)], dx_pR (dx_pR m 5 (fa_fill (fun c => m.1 4 (12 * a + p + c)) (m.1 5) k)) 4 (fb_put (m.1 4) (fun c => m.1 4 (12 * a + p + c)) (12 * b + q) k))) rfl ?_
                        refine dx_br (q := (nI k) ≤ (nI k)) (a := 170) (b := 142) (L := [.ref 0, .int (nI a), .int (nI p), .int (nI b), .int (nI q), .int (nI k), .int (nI k)]) (st := []) (m := dx_pR (dx_pR m 5 (fa_fill (fun c => m.1 4 (12 * a + p + c)) (m.1 5) k)) 4 (fb_put (m.1 4) (fun c => m.1 4 (12 * a + p + c)) (12 * b + q) k)) rfl (fun _ => ?_) (fun h => absurd (nI_le (Nat.le_refl _) (by omega)) h)
                        refine dx_blk 1 (c' := (171, [.ref 0, .int (nI a), .int (nI p), .int (nI b), .int (nI q), .int (nI k), .int (nI k)], [.int 1], dx_pR (dx_pR m 5 (fa_fill (fun c => m.1 4 (12 * a + p + c)) (m.1 5) k)) 4 (fb_put (m.1 4) (fun c => m.1 4 (12 * a + p + c)) (12 * b + q) k))) rfl ?_
                        exact dx_ret (r := some (.int 1)) rfl (h4 a b z y p q k ha hb rfl rfl hz1 hy1 ez ey rfl rfl rfl hpk hqk)
                  · refine dx_blk 2 (c' := (91, [.ref 0, .int (nI a), .int i, .int (nI b), .int j, .int n, .null], [.int 2, .ref 0], m)) rfl ?_
                    refine dx_call (id := 83) (as := [.ref 0, .int 2]) (rest := []) rfl ?_
                    refine sX4_meets 2 (by decide) _ ?_
                    refine dx_blk 0 (c' := (94, [.ref 0, .int (nI a), .int i, .int (nI b), .int j, .int n, .null], [.int (-3)], (fndM m 2))) rfl ?_
                    exact dx_ret (r := some (.int (-3))) rfl (h3 a b z y ha hb rfl rfl hz1 hy1 ez ey (by first | (rw [rB_f1 (by assumption)]; rfl) | (rw [rB_f1 (z := y) (by assumption), Bool.and_false]) | (rw [rB_f2 (by assumption)]; rfl) | (rw [rB_f5 hz1 (by assumption) (by assumption) (by rw [← ez]; assumption)]; rfl) | (rw [rB_f5 hy1 (by assumption) (by assumption) (by rw [← ey, fa_lt64]; rw [fa_le64] at *; omega), Bool.and_false])))
        · refine dx_blk 2 (c' := (36, [.ref 0, .int (nI a), .int i, .int (nI b), .int j, .int n, .null], [.int 1, .ref 0], m)) rfl ?_
          refine dx_call (id := 83) (as := [.ref 0, .int 1]) (rest := []) rfl ?_
          refine sX4_meets 1 (by decide) _ ?_
          refine dx_blk 0 (c' := (39, [.ref 0, .int (nI a), .int i, .int (nI b), .int j, .int n, .null], [.int (-3)], (fndM m 1))) rfl ?_
          exact dx_ret (r := some (.int (-3))) rfl (h2 a b ha hb rfl rfl (by first | exact Or.inl (szD (hz a ha) (by assumption)) | exact Or.inr (szA (hz b hb) (by assumption))))
end
section
/-! fill: both programs (printed by wip/whole/g14.py) -/
def fv (t : Int32) : Int32 := if t < 0 then -9 else if 20 < t then 20 else t
def st_neg (f : Nat → Int32) (i : Nat) (s : Int32) : Int32 := s + (if f i < 0 then 0 else 1)
theorem i_nl {t : Int32} (h : 0 ≤ t) : ¬ t < 0 := by rw [fa_lt]; rw [fa_le] at h; omega
theorem i_nl2 {t : Int32} (h : ¬ 0 ≤ t) : t < 0 := by rw [fa_lt]; rw [fa_le] at h; omega
theorem i_nl3 {t : Int32} (h : t ≤ 20) : ¬ 20 < t := by rw [fa_lt]; rw [fa_le] at h; omega
theorem i_nl4 {t : Int32} (h : ¬ t ≤ 20) : 20 < t := by rw [fa_lt]; rw [fa_le] at h; omega
set_option maxRecDepth 20000 in
theorem sX3_fill {d : Nat} (m : dx_M) {W H : Nat} (hW1 : 1 ≤ W) (hW : W ≤ 12) (hH : H ≤ 12) (eW : m.1 1 1 = nI W) (eH : m.1 1 2 = nI H) (hz : ∀ a : Nat, a < 6 → szP (m.1 8 a)) (y s : Int32) {Z : Option Value → dx_M → Prop} (h1 : (inI y 0 (nI H - 1) && inI s 0 5) = false → Z (some (.int (-1))) m) (h2 : ∀ a : Nat, a < 6 → s = nI a → m.1 8 a = -1 → inI y 0 (nI H - 1) = true → Z (some (.int (-3))) (fndX m 1)) (h3 : ∀ a z : Nat, a < 6 → s = nI a → z ≤ 12 → m.1 8 a = nI z → z < W → inI y 0 (nI H - 1) = true → Z (some (.int (-3))) (fndX m 2)) (h4 : ∀ a b z : Nat, a < 6 → b < H → s = nI a → y = nI b → z ≤ 12 → m.1 8 a = nI z → W ≤ z → Z (some (.int (nf (st_neg (m.1 (20 + a))) W 0))) (dx_pR m 2 (fb_put (m.1 2) (fun x => fv ((m.1 (20 + a)) x)) (b * 12) W))) : dx_Sem dx_P lx_X (d + 3) 34 [.ref 0, .int y, .int s] m Z := by
  refine dx_sem km_X3_fill rfl rfl ?_
  refine dx_blk 0 (c' := (0, [.ref 0, .int y, .int s, .null, .null, .null], [], m)) rfl ?_
  refine dx_blk 4 (c' := (6, [.ref 0, .int y, .int s, .null, .null, .null], [.int y, .int 0, .ref 1], m)) rfl ?_
  refine dx_call (id := 1) (as := [.ref 1, .int 0, .int y]) (rest := []) rfl ?_
  refine sX0_has 0 y _ ?_
  refine dx_blk 0 (c' := (9, [.ref 0, .int y, .int s, .null, .null, .null], [.int (bI (inI 0 0 (m.1 1 1 - 1) && inI y 0 (m.1 1 2 - 1)))], m)) rfl ?_
  refine dx_brB (B := (inI 0 0 (m.1 1 1 - 1) && inI y 0 (m.1 1 2 - 1))) (a := 19) (b := 12) (L := [.ref 0, .int y, .int s, .null, .null, .null]) (st := []) (m := m) rfl (fun h9 => ?_) (fun h9 => ?_)
  · refine dx_blk 1 (c' := (20, [.ref 0, .int y, .int s, .null, .null, .null], [.int (-1)], m)) rfl ?_
    exact dx_ret (r := some (.int (-1))) rfl (by
    rw [eW, eH, show inI 0 0 (nI W - 1) = true from W_in hW hW1, Bool.true_and] at h9
    exact h1 (by simp_all))
  · refine dx_blk 1 (c' := (13, [.ref 0, .int y, .int s, .null, .null, .null], [.int s], m)) rfl ?_
    refine dx_call (id := 66) (as := [.int s]) (rest := []) rfl ?_
    refine sX3_isSheet s _ ?_
    refine dx_blk 0 (c' := (16, [.ref 0, .int y, .int s, .null, .null, .null], [.int (bI (inI s 0 5))], m)) rfl ?_
    refine dx_brB (B := (inI s 0 5)) (a := 19) (b := 21) (L := [.ref 0, .int y, .int s, .null, .null, .null]) (st := []) (m := m) rfl (fun q16 => ?_) (fun q16 => ?_)
    · refine dx_blk 1 (c' := (20, [.ref 0, .int y, .int s, .null, .null, .null], [.int (-1)], m)) rfl ?_
      exact dx_ret (r := some (.int (-1))) rfl (by
    rw [eW, eH, show inI 0 0 (nI W - 1) = true from W_in hW hW1, Bool.true_and] at h9
    exact h1 (by simp_all))
    · have hyH : inI y 0 (nI H - 1) = true := (by rw [eW, eH] at h9; rw [show inI 0 0 (nI W - 1) = true from W_in hW hW1, Bool.true_and] at h9; exact h9)
      obtain ⟨a, ha0, rfl⟩ := in_N (n := 5) rfl q16
      have ha : a < 6 := by omega
      refine dx_blk 3 (c' := (26, [.ref 0, .int y, .int (nI a), .null, .null, .null], [.int (nI a), .ref 8], m)) rfl ?_
      refine dx_aldN a rfl rfl rfl rfl (by omega) ?_
      refine dx_blk 0 (c' := (27, [.ref 0, .int y, .int (nI a), .null, .null, .null], [.int (m.1 8 a)], m)) rfl ?_
      refine dx_blk 1 (c' := (28, [.ref 0, .int y, .int (nI a), .null, .null, .null], [.int (-1), .int (m.1 8 a)], m)) rfl ?_
      refine dx_br (q := (m.1 8 a) = (-1)) (a := 31) (b := 37) (L := [.ref 0, .int y, .int (nI a), .null, .null, .null]) (st := []) (m := m) rfl (fun h28 => ?_) (fun h28 => ?_)
      · refine dx_blk 2 (c' := (33, [.ref 0, .int y, .int (nI a), .null, .null, .null], [.int 1, .ref 0], m)) rfl ?_
        refine dx_call (id := 70) (as := [.ref 0, .int 1]) (rest := []) rfl ?_
        refine sX3_find 1 (by decide) _ ?_
        refine dx_blk 0 (c' := (36, [.ref 0, .int y, .int (nI a), .null, .null, .null], [.int (-3)], (fndX m 1))) rfl ?_
        exact dx_ret (r := some (.int (-3))) rfl (h2 a ha rfl (by assumption) hyH)
      · obtain ⟨z, hz1, ez⟩ := szC (hz a ha) (by assumption)
        refine dx_blk 3 (c' := (42, [.ref 0, .int y, .int (nI a), .null, .null, .null], [.int (nI a), .ref 8], m)) rfl ?_
        refine dx_aldN a rfl rfl rfl rfl (by omega) ?_
        refine dx_blk 0 (c' := (43, [.ref 0, .int y, .int (nI a), .null, .null, .null], [.int (m.1 8 a)], m)) rfl ?_
        refine dx_blk 3 (c' := (50, [.ref 0, .int y, .int (nI a), .null, .null, .null], [.int (m.1 1 1), .int (m.1 8 a)], m)) rfl ?_
        refine dx_br (q := (m.1 1 1) ≤ (m.1 8 a)) (a := 59) (b := 53) (L := [.ref 0, .int y, .int (nI a), .null, .null, .null]) (st := []) (m := m) rfl (fun h50 => ?_) (fun h50 => ?_)
        · have hWz : W ≤ z := (by rcases Nat.lt_or_ge z W with q | q; exact absurd h50 (by rw [ez, eW]; exact nI_ge q (by omega)); exact q)
          obtain ⟨b, hb, rfl⟩ := in_W hH hyH
          refine dx_blk 4 (c' := (64, [.ref 0, .int (nI b), .int (nI a), .int 0, .int 0, .null], [], m)) rfl ?_
          refine dx_mem (m' := dx_pR m 2 (fb_put (m.1 2) (fun x => fv (m.1 (20 + a) x)) (b * 12) 0)) (by rw [fb_put_0]; exact (dx_pR_self _ 2).symm) ?_
          refine dx_blk 0 (c' := (64, [.ref 0, .int (nI b), .int (nI a), .int 0, .int (nI 0), .null], [], dx_pR m 2 (fb_put (m.1 2) (fun x => fv (m.1 (20 + a) x)) (b * 12) 0))) rfl ?_
          refine dx_for (fun (i : Nat) (s : Int32) => ((64, [.ref 0, .int (nI b), .int (nI a), .int s, .int (nI i), .null], [], dx_pR m 2 (fb_put (m.1 2) (fun x => fv (m.1 (20 + a) x)) (b * 12) i)) : dx_F)) (st_neg (m.1 (20 + a))) (fun _ _ => True) W 0 trivial (fun i s hi hI hk => ?_) (fun _ _ _ _ => trivial) (fun hN => ?_)
          · refine dx_blk 0 (c' := (64, [.ref 0, .int (nI b), .int (nI a), .int s, .int (nI i), .null], [], dx_pR m 2 (fb_put (m.1 2) (fun x => fv (m.1 (20 + a) x)) (b * 12) i))) rfl ?_
            refine dx_blk 4 (c' := (73, [.ref 0, .int (nI b), .int (nI a), .int s, .int (nI i), .null], [.int (m.1 1 1), .int (nI i)], dx_pR m 2 (fb_put (m.1 2) (fun x => fv (m.1 (20 + a) x)) (b * 12) i))) rfl ?_
            refine dx_br (q := (m.1 1 1) ≤ (nI i)) (a := 133) (b := 76) (L := [.ref 0, .int (nI b), .int (nI a), .int s, .int (nI i), .null]) (st := []) (m := dx_pR m 2 (fb_put (m.1 2) (fun x => fv (m.1 (20 + a) x)) (b * 12) i)) rfl (fun h => absurd h (by rw [show (m.1 1 1) = nI W from eW]; exact nI_ge hi (by omega))) (fun _ => ?_)
            refine dx_blk 3 (c' := (81, [.ref 0, .int (nI b), .int (nI a), .int s, .int (nI i), .null], [.int (nI a), .ref 7], dx_pR m 2 (fb_put (m.1 2) (fun x => fv (m.1 (20 + a) x)) (b * 12) i))) rfl ?_
            refine dx_aadN a (q := (20 + a)) rfl rfl (Or.inr rfl) rfl (by omega) (lx_rs7 a (by omega)) ?_
            refine dx_blk 0 (c' := (82, [.ref 0, .int (nI b), .int (nI a), .int s, .int (nI i), .null], [.ref (20 + a)], dx_pR m 2 (fb_put (m.1 2) (fun x => fv (m.1 (20 + a) x)) (b * 12) i))) rfl ?_
            refine dx_blk 1 (c' := (84, [.ref 0, .int (nI b), .int (nI a), .int s, .int (nI i), .null], [.int (nI i), .ref (20 + a)], dx_pR m 2 (fb_put (m.1 2) (fun x => fv (m.1 (20 + a) x)) (b * 12) i))) rfl ?_
            refine dx_bldN i rfl rfl (Or.inl (lx_row a ha)) rfl (by omega) ?_
            refine dx_blk 0 (c' := (85, [.ref 0, .int (nI b), .int (nI a), .int s, .int (nI i), .null], [.int ((dx_pR m 2 (fb_put (m.1 2) (fun x => fv (m.1 (20 + a) x)) (b * 12) i)).1 (20 + a) i)], dx_pR m 2 (fb_put (m.1 2) (fun x => fv (m.1 (20 + a) x)) (b * 12) i))) rfl ?_
            refine dx_nmI (fun told e_told => ?_)
            rw [dx_rd (by omega)] at e_told
            refine dx_blk 6 (c' := (96, [.ref 0, .int (nI b), .int (nI a), .int s, .int (nI i), .int told], [.int told, .int (nI b), .int (nI i), .ref 1], dx_pR m 2 (fb_put (m.1 2) (fun x => fv (m.1 (20 + a) x)) (b * 12) i))) rfl ?_
            refine dx_br (q := 0 ≤ told) (a := 104) (b := 99) (L := [.ref 0, .int (nI b), .int (nI a), .int s, .int (nI i), .int told]) (st := [.int (nI b), .int (nI i), .ref 1]) (m := dx_pR m 2 (fb_put (m.1 2) (fun x => fv (m.1 (20 + a) x)) (b * 12) i)) rfl (fun h96 => ?_) (fun h96 => ?_)
            · refine dx_blk 2 (c' := (108, [.ref 0, .int (nI b), .int (nI a), .int s, .int (nI i), .int told], [.int 20, .int told, .int (nI b), .int (nI i), .ref 1], dx_pR m 2 (fb_put (m.1 2) (fun x => fv (m.1 (20 + a) x)) (b * 12) i))) rfl ?_
              refine dx_copy (c' := (111, [.ref 0, .int (nI b), .int (nI a), .int s, .int (nI i), .int told], [.int (if 20 < told then 20 else told), .int (nI b), .int (nI i), .ref 1], dx_pR m 2 (fb_put (m.1 2) (fun x => fv (m.1 (20 + a) x)) (b * 12) i))) rfl ?_
              refine dx_call (id := 3) (as := [.ref 1, .int (nI i), .int (nI b), .int (if 20 < told then 20 else told)]) (rest := []) rfl ?_
              refine sX0_put (a := i) (b := b) (if 20 < told then 20 else told) (by omega) (by omega) _ ?_
              refine dx_blk 0 (c' := (114, [.ref 0, .int (nI b), .int (nI a), .int s, .int (nI i), .int told], [], dx_pI (dx_pR m 2 (fb_put (m.1 2) (fun x => fv (m.1 (20 + a) x)) (b * 12) i)) 2 (b * 12 + i) (if 20 < told then 20 else told))) rfl ?_
              refine dx_blk 2 (c' := (117, [.ref 0, .int (nI b), .int (nI a), .int s, .int (nI i), .int told], [.int told, .int s], dx_pI (dx_pR m 2 (fb_put (m.1 2) (fun x => fv (m.1 (20 + a) x)) (b * 12) i)) 2 (b * 12 + i) (if 20 < told then 20 else told))) rfl ?_
              refine dx_br (q := 0 ≤ told) (a := 124) (b := 120) (L := [.ref 0, .int (nI b), .int (nI a), .int s, .int (nI i), .int told]) (st := [.int s]) (m := dx_pI (dx_pR m 2 (fb_put (m.1 2) (fun x => fv (m.1 (20 + a) x)) (b * 12) i)) 2 (b * 12 + i) (if 20 < told then 20 else told)) rfl (fun _ => ?_) (fun h => absurd h96 h)
              refine dx_blk 5 (c' := (64, [.ref 0, .int (nI b), .int (nI a), .int (s + 1), .int ((nI i) + 1), .int told], [], dx_pI (dx_pR m 2 (fb_put (m.1 2) (fun x => fv (m.1 (20 + a) x)) (b * 12) i)) 2 (b * 12 + i) (if 20 < told then 20 else told))) rfl ?_
              refine dx_fgt [.ref 0, .int (nI b), .int (nI a), .int (s + 1), .int ((nI i) + 1), .null] (And.intro (Or.inr rfl) (And.intro (Or.inr rfl) (And.intro (Or.inr rfl) (And.intro (Or.inr rfl) (And.intro (Or.inr rfl) (And.intro (Or.inl rfl) trivial)))))) ?_
              simp only [st_neg, ← e_told] at hk
              first | (rw [if_pos (i_nl2 (by assumption))] at hk) | (rw [if_neg (i_nl (by assumption))] at hk)
              rw [dx_pI_pR, ← (show fv (m.1 (20 + a) i) = (if 20 < told then 20 else told) by rw [← e_told]; first | exact if_pos (i_nl2 (by assumption)) | exact if_neg (i_nl (by assumption))), fb_put_succ (m.1 2) (fun x => fv (m.1 (20 + a) x)) (b * 12) i, ← nI_succ]
              exact hk
            · refine dx_blk 2 (c' := (111, [.ref 0, .int (nI b), .int (nI a), .int s, .int (nI i), .int told], [.int (-9), .int (nI b), .int (nI i), .ref 1], dx_pR m 2 (fb_put (m.1 2) (fun x => fv (m.1 (20 + a) x)) (b * 12) i))) rfl ?_
              refine dx_call (id := 3) (as := [.ref 1, .int (nI i), .int (nI b), .int (-9)]) (rest := []) rfl ?_
              refine sX0_put (a := i) (b := b) (-9) (by omega) (by omega) _ ?_
              refine dx_blk 0 (c' := (114, [.ref 0, .int (nI b), .int (nI a), .int s, .int (nI i), .int told], [], dx_pI (dx_pR m 2 (fb_put (m.1 2) (fun x => fv (m.1 (20 + a) x)) (b * 12) i)) 2 (b * 12 + i) (-9))) rfl ?_
              refine dx_blk 2 (c' := (117, [.ref 0, .int (nI b), .int (nI a), .int s, .int (nI i), .int told], [.int told, .int s], dx_pI (dx_pR m 2 (fb_put (m.1 2) (fun x => fv (m.1 (20 + a) x)) (b * 12) i)) 2 (b * 12 + i) (-9))) rfl ?_
              refine dx_br (q := 0 ≤ told) (a := 124) (b := 120) (L := [.ref 0, .int (nI b), .int (nI a), .int s, .int (nI i), .int told]) (st := [.int s]) (m := dx_pI (dx_pR m 2 (fb_put (m.1 2) (fun x => fv (m.1 (20 + a) x)) (b * 12) i)) 2 (b * 12 + i) (-9)) rfl (fun h => absurd h h96) (fun _ => ?_)
              refine dx_blk 6 (c' := (64, [.ref 0, .int (nI b), .int (nI a), .int (s + 0), .int ((nI i) + 1), .int told], [], dx_pI (dx_pR m 2 (fb_put (m.1 2) (fun x => fv (m.1 (20 + a) x)) (b * 12) i)) 2 (b * 12 + i) (-9))) rfl ?_
              refine dx_fgt [.ref 0, .int (nI b), .int (nI a), .int (s + 0), .int ((nI i) + 1), .null] (And.intro (Or.inr rfl) (And.intro (Or.inr rfl) (And.intro (Or.inr rfl) (And.intro (Or.inr rfl) (And.intro (Or.inr rfl) (And.intro (Or.inl rfl) trivial)))))) ?_
              simp only [st_neg, ← e_told] at hk
              first | (rw [if_pos (i_nl2 (by assumption))] at hk) | (rw [if_neg (i_nl (by assumption))] at hk)
              rw [dx_pI_pR, ← (show fv (m.1 (20 + a) i) = (-9) by rw [← e_told]; first | exact if_pos (i_nl2 (by assumption)) | exact if_neg (i_nl (by assumption))), fb_put_succ (m.1 2) (fun x => fv (m.1 (20 + a) x)) (b * 12) i, ← nI_succ]
              exact hk
          · refine dx_blk 0 (c' := (64, [.ref 0, .int (nI b), .int (nI a), .int (nf (st_neg (m.1 (20 + a))) W 0), .int (nI W), .null], [], dx_pR m 2 (fb_put (m.1 2) (fun x => fv (m.1 (20 + a) x)) (b * 12) W))) rfl ?_
            refine dx_blk 4 (c' := (73, [.ref 0, .int (nI b), .int (nI a), .int (nf (st_neg (m.1 (20 + a))) W 0), .int (nI W), .null], [.int (m.1 1 1), .int (nI W)], dx_pR m 2 (fb_put (m.1 2) (fun x => fv (m.1 (20 + a) x)) (b * 12) W))) rfl ?_
            refine dx_br (q := (m.1 1 1) ≤ (nI W)) (a := 133) (b := 76) (L := [.ref 0, .int (nI b), .int (nI a), .int (nf (st_neg (m.1 (20 + a))) W 0), .int (nI W), .null]) (st := []) (m := dx_pR m 2 (fb_put (m.1 2) (fun x => fv (m.1 (20 + a) x)) (b * 12) W)) rfl (fun _ => ?_) (fun h => absurd (by rw [show (m.1 1 1) = nI W from eW]; exact nI_le (Nat.le_refl _) (by omega)) h)
            refine dx_blk 1 (c' := (134, [.ref 0, .int (nI b), .int (nI a), .int (nf (st_neg (m.1 (20 + a))) W 0), .int (nI W), .null], [.int (nf (st_neg (m.1 (20 + a))) W 0)], dx_pR m 2 (fb_put (m.1 2) (fun x => fv (m.1 (20 + a) x)) (b * 12) W))) rfl ?_
            exact dx_ret (r := some (.int (nf (st_neg (m.1 (20 + a))) W 0))) rfl (h4 a b z ha hb rfl rfl hz1 ez hWz)
        · refine dx_blk 2 (c' := (55, [.ref 0, .int y, .int (nI a), .null, .null, .null], [.int 2, .ref 0], m)) rfl ?_
          refine dx_call (id := 70) (as := [.ref 0, .int 2]) (rest := []) rfl ?_
          refine sX3_find 2 (by decide) _ ?_
          refine dx_blk 0 (c' := (58, [.ref 0, .int y, .int (nI a), .null, .null, .null], [.int (-3)], (fndX m 2))) rfl ?_
          exact dx_ret (r := some (.int (-3))) rfl (h3 a z ha rfl hz1 ez (by rcases Nat.lt_or_ge z W with q | q; exact q; exact absurd (by rw [ez, eW]; exact nI_le q (by omega)) h50) hyH)
set_option maxRecDepth 20000 in
theorem sX4_fill {d : Nat} (m : dx_M) {W H : Nat} (hW1 : 1 ≤ W) (hW : W ≤ 12) (hH : H ≤ 12) (eW : m.1 0 4 = nI W) (eH : m.1 0 5 = nI H) (hz : ∀ a : Nat, a < 6 → szP (m.1 3 a)) (y s : Int32) {Z : Option Value → dx_M → Prop} (h1 : (inI y 0 (nI H - 1) && inI s 0 5) = false → Z (some (.int (-1))) m) (h2 : ∀ a : Nat, a < 6 → s = nI a → m.1 3 a = -1 → inI y 0 (nI H - 1) = true → Z (some (.int (-3))) (fndM m 1)) (h3 : ∀ a z : Nat, a < 6 → s = nI a → z ≤ 12 → m.1 3 a = nI z → z < W → inI y 0 (nI H - 1) = true → Z (some (.int (-3))) (fndM m 2)) (h4 : ∀ a b z : Nat, a < 6 → b < H → s = nI a → y = nI b → z ≤ 12 → m.1 3 a = nI z → W ≤ z → Z (some (.int (nf (st_neg (fun x => m.1 4 (12 * a + x))) W 0))) (dx_pR m 2 (fb_put (m.1 2) (fun x => fv (m.1 4 (12 * a + x))) (12 * b) W))) : dx_Sem dx_P lx_M (d + 3) 101 [.ref 0, .int y, .int s] m Z := by
  refine dx_sem km_X4_fill rfl rfl ?_
  refine dx_blk 0 (c' := (0, [.ref 0, .int y, .int s, .null, .null, .null], [], m)) rfl ?_
  refine dx_blk 6 (c' := (8, [.ref 0, .int y, .int s, .null, .null, .null], [.int ((m.1 0 5) - 1), .int 0, .int y], m)) rfl ?_
  refine dx_call (id := 82) (as := [.int y, .int 0, .int ((m.1 0 5) - 1)]) (rest := []) rfl ?_
  refine sX4_in y 0 ((m.1 0 5) - 1) _ ?_
  refine dx_blk 0 (c' := (11, [.ref 0, .int y, .int s, .null, .null, .null], [.int (bI (inI y 0 ((m.1 0 5) - 1)))], m)) rfl ?_
  refine dx_brB (B := (inI y 0 ((m.1 0 5) - 1))) (a := 21) (b := 14) (L := [.ref 0, .int y, .int s, .null, .null, .null]) (st := []) (m := m) rfl (fun q11 => ?_) (fun q11 => ?_)
  · refine dx_blk 1 (c' := (22, [.ref 0, .int y, .int s, .null, .null, .null], [.int (-1)], m)) rfl ?_
    exact dx_ret (r := some (.int (-1))) rfl (by
    rw [eH] at q11
    exact h1 (by simp_all))
  · refine dx_blk 1 (c' := (15, [.ref 0, .int y, .int s, .null, .null, .null], [.int s], m)) rfl ?_
    refine dx_call (id := 96) (as := [.int s]) (rest := []) rfl ?_
    refine sX4_isSheet s _ ?_
    refine dx_blk 0 (c' := (18, [.ref 0, .int y, .int s, .null, .null, .null], [.int (bI (inI s 0 5))], m)) rfl ?_
    refine dx_brB (B := (inI s 0 5)) (a := 21) (b := 23) (L := [.ref 0, .int y, .int s, .null, .null, .null]) (st := []) (m := m) rfl (fun q18 => ?_) (fun q18 => ?_)
    · refine dx_blk 1 (c' := (22, [.ref 0, .int y, .int s, .null, .null, .null], [.int (-1)], m)) rfl ?_
      exact dx_ret (r := some (.int (-1))) rfl (by
    rw [eH] at q11
    exact h1 (by simp_all))
    · have hyH : inI y 0 (nI H - 1) = true := by rw [← eH]; exact q11
      obtain ⟨a, ha0, rfl⟩ := in_N (n := 5) rfl q18
      have ha : a < 6 := by omega
      refine dx_blk 3 (c' := (28, [.ref 0, .int y, .int (nI a), .null, .null, .null], [.int (nI a), .ref 3], m)) rfl ?_
      refine dx_aldN a rfl rfl rfl rfl (by omega) ?_
      refine dx_blk 0 (c' := (29, [.ref 0, .int y, .int (nI a), .null, .null, .null], [.int (m.1 3 a)], m)) rfl ?_
      refine dx_br (q := 0 ≤ (m.1 3 a)) (a := 38) (b := 32) (L := [.ref 0, .int y, .int (nI a), .null, .null, .null]) (st := []) (m := m) rfl (fun h29 => ?_) (fun h29 => ?_)
      · obtain ⟨z, hz1, ez⟩ := szB (hz a ha) (by assumption)
        refine dx_blk 3 (c' := (43, [.ref 0, .int y, .int (nI a), .null, .null, .null], [.int (nI a), .ref 3], m)) rfl ?_
        refine dx_aldN a rfl rfl rfl rfl (by omega) ?_
        refine dx_blk 0 (c' := (44, [.ref 0, .int y, .int (nI a), .null, .null, .null], [.int (m.1 3 a)], m)) rfl ?_
        refine dx_blk 2 (c' := (48, [.ref 0, .int y, .int (nI a), .null, .null, .null], [.int (m.1 0 4), .int (m.1 3 a)], m)) rfl ?_
        refine dx_br (q := (m.1 0 4) ≤ (m.1 3 a)) (a := 57) (b := 51) (L := [.ref 0, .int y, .int (nI a), .null, .null, .null]) (st := []) (m := m) rfl (fun h48 => ?_) (fun h48 => ?_)
        · have hWz : W ≤ z := (by rcases Nat.lt_or_ge z W with q | q; exact absurd h48 (by rw [ez, eW]; exact nI_ge q (by omega)); exact q)
          obtain ⟨b, hb, rfl⟩ := in_W hH hyH
          refine dx_blk 4 (c' := (62, [.ref 0, .int (nI b), .int (nI a), .int 0, .int 0, .null], [], m)) rfl ?_
          refine dx_mem (m' := dx_pR m 2 (fb_put (m.1 2) (fun x => fv (m.1 4 (12 * a + x))) (12 * b) 0)) (by rw [fb_put_0]; exact (dx_pR_self _ 2).symm) ?_
          refine dx_blk 0 (c' := (62, [.ref 0, .int (nI b), .int (nI a), .int 0, .int (nI 0), .null], [], dx_pR m 2 (fb_put (m.1 2) (fun x => fv (m.1 4 (12 * a + x))) (12 * b) 0))) rfl ?_
          refine dx_for (fun (i : Nat) (s : Int32) => ((62, [.ref 0, .int (nI b), .int (nI a), .int s, .int (nI i), .null], [], dx_pR m 2 (fb_put (m.1 2) (fun x => fv (m.1 4 (12 * a + x))) (12 * b) i)) : dx_F)) (st_neg (fun x => m.1 4 (12 * a + x))) (fun _ _ => True) W 0 trivial (fun i s hi hI hk => ?_) (fun _ _ _ _ => trivial) (fun hN => ?_)
          · refine dx_blk 0 (c' := (62, [.ref 0, .int (nI b), .int (nI a), .int s, .int (nI i), .null], [], dx_pR m 2 (fb_put (m.1 2) (fun x => fv (m.1 4 (12 * a + x))) (12 * b) i))) rfl ?_
            refine dx_blk 3 (c' := (68, [.ref 0, .int (nI b), .int (nI a), .int s, .int (nI i), .null], [.int (m.1 0 4), .int (nI i)], dx_pR m 2 (fb_put (m.1 2) (fun x => fv (m.1 4 (12 * a + x))) (12 * b) i))) rfl ?_
            refine dx_br (q := (m.1 0 4) ≤ (nI i)) (a := 140) (b := 71) (L := [.ref 0, .int (nI b), .int (nI a), .int s, .int (nI i), .null]) (st := []) (m := dx_pR m 2 (fb_put (m.1 2) (fun x => fv (m.1 4 (12 * a + x))) (12 * b) i)) rfl (fun h => absurd h (by rw [show (m.1 0 4) = nI W from eW]; exact nI_ge hi (by omega))) (fun _ => ?_)
            refine dx_blk 7 (c' := (82, [.ref 0, .int (nI b), .int (nI a), .int s, .int (nI i), .null], [.int ((12 * (nI a)) + (nI i)), .ref 4], dx_pR m 2 (fb_put (m.1 2) (fun x => fv (m.1 4 (12 * a + x))) (12 * b) i))) rfl ?_
            refine dx_bldN (12 * a + i) rfl rfl (Or.inl rfl) (nI_ix2 a i) (by omega) ?_
            refine dx_blk 0 (c' := (83, [.ref 0, .int (nI b), .int (nI a), .int s, .int (nI i), .null], [.int (m.1 4 (12 * a + i))], dx_pR m 2 (fb_put (m.1 2) (fun x => fv (m.1 4 (12 * a + x))) (12 * b) i))) rfl ?_
            refine dx_nmI (fun told e_told => ?_)
            refine dx_blk 9 (c' := (98, [.ref 0, .int (nI b), .int (nI a), .int s, .int (nI i), .int told], [.int told, .int ((12 * (nI b)) + (nI i)), .ref 2], dx_pR m 2 (fb_put (m.1 2) (fun x => fv (m.1 4 (12 * a + x))) (12 * b) i))) rfl ?_
            refine dx_br (q := 0 ≤ told) (a := 106) (b := 101) (L := [.ref 0, .int (nI b), .int (nI a), .int s, .int (nI i), .int told]) (st := [.int ((12 * (nI b)) + (nI i)), .ref 2]) (m := dx_pR m 2 (fb_put (m.1 2) (fun x => fv (m.1 4 (12 * a + x))) (12 * b) i)) rfl (fun h98 => ?_) (fun h98 => ?_)
            · refine dx_blk 2 (c' := (110, [.ref 0, .int (nI b), .int (nI a), .int s, .int (nI i), .int told], [.int 20, .int told, .int ((12 * (nI b)) + (nI i)), .ref 2], dx_pR m 2 (fb_put (m.1 2) (fun x => fv (m.1 4 (12 * a + x))) (12 * b) i))) rfl ?_
              refine dx_br (q := told ≤ 20) (a := 118) (b := 113) (L := [.ref 0, .int (nI b), .int (nI a), .int s, .int (nI i), .int told]) (st := [.int ((12 * (nI b)) + (nI i)), .ref 2]) (m := dx_pR m 2 (fb_put (m.1 2) (fun x => fv (m.1 4 (12 * a + x))) (12 * b) i)) rfl (fun h110 => ?_) (fun h110 => ?_)
              · refine dx_blk 1 (c' := (120, [.ref 0, .int (nI b), .int (nI a), .int s, .int (nI i), .int told], [.int told, .int ((12 * (nI b)) + (nI i)), .ref 2], dx_pR m 2 (fb_put (m.1 2) (fun x => fv (m.1 4 (12 * a + x))) (12 * b) i))) rfl ?_
                refine dx_astN (12 * b + i) rfl rfl rfl (nI_ix2 b i) (by omega) ?_
                refine dx_blk 0 (c' := (121, [.ref 0, .int (nI b), .int (nI a), .int s, .int (nI i), .int told], [], dx_pI (dx_pR m 2 (fb_put (m.1 2) (fun x => fv (m.1 4 (12 * a + x))) (12 * b) i)) 2 (12 * b + i) told)) rfl ?_
                refine dx_blk 2 (c' := (124, [.ref 0, .int (nI b), .int (nI a), .int s, .int (nI i), .int told], [.int told, .int s], dx_pI (dx_pR m 2 (fb_put (m.1 2) (fun x => fv (m.1 4 (12 * a + x))) (12 * b) i)) 2 (12 * b + i) told)) rfl ?_
                refine dx_br (q := 0 ≤ told) (a := 131) (b := 127) (L := [.ref 0, .int (nI b), .int (nI a), .int s, .int (nI i), .int told]) (st := [.int s]) (m := dx_pI (dx_pR m 2 (fb_put (m.1 2) (fun x => fv (m.1 4 (12 * a + x))) (12 * b) i)) 2 (12 * b + i) told) rfl (fun _ => ?_) (fun h => absurd h98 h)
                refine dx_blk 5 (c' := (62, [.ref 0, .int (nI b), .int (nI a), .int (s + 1), .int ((nI i) + 1), .int told], [], dx_pI (dx_pR m 2 (fb_put (m.1 2) (fun x => fv (m.1 4 (12 * a + x))) (12 * b) i)) 2 (12 * b + i) told)) rfl ?_
                refine dx_fgt [.ref 0, .int (nI b), .int (nI a), .int (s + 1), .int ((nI i) + 1), .null] (And.intro (Or.inr rfl) (And.intro (Or.inr rfl) (And.intro (Or.inr rfl) (And.intro (Or.inr rfl) (And.intro (Or.inr rfl) (And.intro (Or.inl rfl) trivial)))))) ?_
                simp only [st_neg, ← e_told] at hk
                first | (rw [if_pos (i_nl2 (by assumption))] at hk) | (rw [if_neg (i_nl (by assumption))] at hk)
                rw [dx_pI_pR, ← (show fv (m.1 4 (12 * a + i)) = told by rw [← e_told]; unfold fv; first | exact if_pos (i_nl2 (by assumption)) | (rw [if_neg (i_nl (by assumption)), if_neg (i_nl3 (by assumption))]) | (rw [if_neg (i_nl (by assumption)), if_pos (i_nl4 (by assumption))])), fb_put_succ (m.1 2) (fun x => fv (m.1 4 (12 * a + x))) (12 * b) i, ← nI_succ]
                exact hk
              · refine dx_blk 2 (c' := (120, [.ref 0, .int (nI b), .int (nI a), .int s, .int (nI i), .int told], [.int 20, .int ((12 * (nI b)) + (nI i)), .ref 2], dx_pR m 2 (fb_put (m.1 2) (fun x => fv (m.1 4 (12 * a + x))) (12 * b) i))) rfl ?_
                refine dx_astN (12 * b + i) rfl rfl rfl (nI_ix2 b i) (by omega) ?_
                refine dx_blk 0 (c' := (121, [.ref 0, .int (nI b), .int (nI a), .int s, .int (nI i), .int told], [], dx_pI (dx_pR m 2 (fb_put (m.1 2) (fun x => fv (m.1 4 (12 * a + x))) (12 * b) i)) 2 (12 * b + i) 20)) rfl ?_
                refine dx_blk 2 (c' := (124, [.ref 0, .int (nI b), .int (nI a), .int s, .int (nI i), .int told], [.int told, .int s], dx_pI (dx_pR m 2 (fb_put (m.1 2) (fun x => fv (m.1 4 (12 * a + x))) (12 * b) i)) 2 (12 * b + i) 20)) rfl ?_
                refine dx_br (q := 0 ≤ told) (a := 131) (b := 127) (L := [.ref 0, .int (nI b), .int (nI a), .int s, .int (nI i), .int told]) (st := [.int s]) (m := dx_pI (dx_pR m 2 (fb_put (m.1 2) (fun x => fv (m.1 4 (12 * a + x))) (12 * b) i)) 2 (12 * b + i) 20) rfl (fun _ => ?_) (fun h => absurd h98 h)
                refine dx_blk 5 (c' := (62, [.ref 0, .int (nI b), .int (nI a), .int (s + 1), .int ((nI i) + 1), .int told], [], dx_pI (dx_pR m 2 (fb_put (m.1 2) (fun x => fv (m.1 4 (12 * a + x))) (12 * b) i)) 2 (12 * b + i) 20)) rfl ?_
                refine dx_fgt [.ref 0, .int (nI b), .int (nI a), .int (s + 1), .int ((nI i) + 1), .null] (And.intro (Or.inr rfl) (And.intro (Or.inr rfl) (And.intro (Or.inr rfl) (And.intro (Or.inr rfl) (And.intro (Or.inr rfl) (And.intro (Or.inl rfl) trivial)))))) ?_
                simp only [st_neg, ← e_told] at hk
                first | (rw [if_pos (i_nl2 (by assumption))] at hk) | (rw [if_neg (i_nl (by assumption))] at hk)
                rw [dx_pI_pR, ← (show fv (m.1 4 (12 * a + i)) = 20 by rw [← e_told]; unfold fv; first | exact if_pos (i_nl2 (by assumption)) | (rw [if_neg (i_nl (by assumption)), if_neg (i_nl3 (by assumption))]) | (rw [if_neg (i_nl (by assumption)), if_pos (i_nl4 (by assumption))])), fb_put_succ (m.1 2) (fun x => fv (m.1 4 (12 * a + x))) (12 * b) i, ← nI_succ]
                exact hk
            · refine dx_blk 2 (c' := (120, [.ref 0, .int (nI b), .int (nI a), .int s, .int (nI i), .int told], [.int (-9), .int ((12 * (nI b)) + (nI i)), .ref 2], dx_pR m 2 (fb_put (m.1 2) (fun x => fv (m.1 4 (12 * a + x))) (12 * b) i))) rfl ?_
              refine dx_astN (12 * b + i) rfl rfl rfl (nI_ix2 b i) (by omega) ?_
              refine dx_blk 0 (c' := (121, [.ref 0, .int (nI b), .int (nI a), .int s, .int (nI i), .int told], [], dx_pI (dx_pR m 2 (fb_put (m.1 2) (fun x => fv (m.1 4 (12 * a + x))) (12 * b) i)) 2 (12 * b + i) (-9))) rfl ?_
              refine dx_blk 2 (c' := (124, [.ref 0, .int (nI b), .int (nI a), .int s, .int (nI i), .int told], [.int told, .int s], dx_pI (dx_pR m 2 (fb_put (m.1 2) (fun x => fv (m.1 4 (12 * a + x))) (12 * b) i)) 2 (12 * b + i) (-9))) rfl ?_
              refine dx_br (q := 0 ≤ told) (a := 131) (b := 127) (L := [.ref 0, .int (nI b), .int (nI a), .int s, .int (nI i), .int told]) (st := [.int s]) (m := dx_pI (dx_pR m 2 (fb_put (m.1 2) (fun x => fv (m.1 4 (12 * a + x))) (12 * b) i)) 2 (12 * b + i) (-9)) rfl (fun h => absurd h h98) (fun _ => ?_)
              refine dx_blk 6 (c' := (62, [.ref 0, .int (nI b), .int (nI a), .int (s + 0), .int ((nI i) + 1), .int told], [], dx_pI (dx_pR m 2 (fb_put (m.1 2) (fun x => fv (m.1 4 (12 * a + x))) (12 * b) i)) 2 (12 * b + i) (-9))) rfl ?_
              refine dx_fgt [.ref 0, .int (nI b), .int (nI a), .int (s + 0), .int ((nI i) + 1), .null] (And.intro (Or.inr rfl) (And.intro (Or.inr rfl) (And.intro (Or.inr rfl) (And.intro (Or.inr rfl) (And.intro (Or.inr rfl) (And.intro (Or.inl rfl) trivial)))))) ?_
              simp only [st_neg, ← e_told] at hk
              first | (rw [if_pos (i_nl2 (by assumption))] at hk) | (rw [if_neg (i_nl (by assumption))] at hk)
              rw [dx_pI_pR, ← (show fv (m.1 4 (12 * a + i)) = (-9) by rw [← e_told]; unfold fv; first | exact if_pos (i_nl2 (by assumption)) | (rw [if_neg (i_nl (by assumption)), if_neg (i_nl3 (by assumption))]) | (rw [if_neg (i_nl (by assumption)), if_pos (i_nl4 (by assumption))])), fb_put_succ (m.1 2) (fun x => fv (m.1 4 (12 * a + x))) (12 * b) i, ← nI_succ]
              exact hk
          · refine dx_blk 0 (c' := (62, [.ref 0, .int (nI b), .int (nI a), .int (nf (st_neg (fun x => m.1 4 (12 * a + x))) W 0), .int (nI W), .null], [], dx_pR m 2 (fb_put (m.1 2) (fun x => fv (m.1 4 (12 * a + x))) (12 * b) W))) rfl ?_
            refine dx_blk 3 (c' := (68, [.ref 0, .int (nI b), .int (nI a), .int (nf (st_neg (fun x => m.1 4 (12 * a + x))) W 0), .int (nI W), .null], [.int (m.1 0 4), .int (nI W)], dx_pR m 2 (fb_put (m.1 2) (fun x => fv (m.1 4 (12 * a + x))) (12 * b) W))) rfl ?_
            refine dx_br (q := (m.1 0 4) ≤ (nI W)) (a := 140) (b := 71) (L := [.ref 0, .int (nI b), .int (nI a), .int (nf (st_neg (fun x => m.1 4 (12 * a + x))) W 0), .int (nI W), .null]) (st := []) (m := dx_pR m 2 (fb_put (m.1 2) (fun x => fv (m.1 4 (12 * a + x))) (12 * b) W)) rfl (fun _ => ?_) (fun h => absurd (by rw [show (m.1 0 4) = nI W from eW]; exact nI_le (Nat.le_refl _) (by omega)) h)
            refine dx_blk 1 (c' := (141, [.ref 0, .int (nI b), .int (nI a), .int (nf (st_neg (fun x => m.1 4 (12 * a + x))) W 0), .int (nI W), .null], [.int (nf (st_neg (fun x => m.1 4 (12 * a + x))) W 0)], dx_pR m 2 (fb_put (m.1 2) (fun x => fv (m.1 4 (12 * a + x))) (12 * b) W))) rfl ?_
            exact dx_ret (r := some (.int (nf (st_neg (fun x => m.1 4 (12 * a + x))) W 0))) rfl (h4 a b z ha hb rfl rfl hz1 ez hWz)
        · refine dx_blk 2 (c' := (53, [.ref 0, .int y, .int (nI a), .null, .null, .null], [.int 2, .ref 0], m)) rfl ?_
          refine dx_call (id := 83) (as := [.ref 0, .int 2]) (rest := []) rfl ?_
          refine sX4_meets 2 (by decide) _ ?_
          refine dx_blk 0 (c' := (56, [.ref 0, .int y, .int (nI a), .null, .null, .null], [.int (-3)], (fndM m 2))) rfl ?_
          exact dx_ret (r := some (.int (-3))) rfl (h3 a z ha rfl hz1 ez (by rcases Nat.lt_or_ge z W with q | q; exact q; exact absurd (by rw [ez, eW]; exact nI_le q (by omega)) h48) hyH)
      · refine dx_blk 2 (c' := (34, [.ref 0, .int y, .int (nI a), .null, .null, .null], [.int 1, .ref 0], m)) rfl ?_
        refine dx_call (id := 83) (as := [.ref 0, .int 1]) (rest := []) rfl ?_
        refine sX4_meets 1 (by decide) _ ?_
        refine dx_blk 0 (c' := (37, [.ref 0, .int y, .int (nI a), .null, .null, .null], [.int (-3)], (fndM m 1))) rfl ?_
        exact dx_ret (r := some (.int (-3))) rfl (h2 a ha rfl (szA (hz a ha) (by assumption)) hyH)
end
section
/-! loads: both programs (printed by wip/whole/g15.py) -/
set_option maxRecDepth 20000 in
theorem sX3_isLoad {d : Nat} (m : dx_M) (l : Int32) {Z : Option Value → dx_M → Prop} (h : Z (some (.int (bI (inI l 0 (m.1 0 7 - 1))))) m) : dx_Sem dx_P lx_X (d + 2) 68 [.ref 0, .int l] m Z := by
  refine dx_sem km_X3_isLoad rfl rfl ?_
  refine dx_blk 0 (c' := (0, [.ref 0, .int l], [], m)) rfl ?_
  refine dx_blk 6 (c' := (8, [.ref 0, .int l], [.int ((m.1 0 7) - 1), .int 0, .int l], m)) rfl ?_
  refine dx_call (id := 64) (as := [.int l, .int 0, .int ((m.1 0 7) - 1)]) (rest := []) rfl ?_
  refine sX3_within l 0 ((m.1 0 7) - 1) _ ?_
  refine dx_blk 0 (c' := (11, [.ref 0, .int l], [.int (bI (inI l 0 ((m.1 0 7) - 1)))], m)) rfl ?_
  exact dx_ret (r := some (.int (bI (inI l 0 ((m.1 0 7) - 1))))) (if_pos (bI_01 _)) h
set_option maxRecDepth 20000 in
theorem sX2_begin {d : Nat} (m : dx_M) {j : Nat} (hj : j < 10) (k a b w : Int32) {Z : Option Value → dx_M → Prop} (h : Z none (dx_pI (dx_pI (dx_pI (dx_pI (dx_pI (dx_pI m (10 + j) 0 1) (10 + j) 1 k) (10 + j) 2 a) (10 + j) 3 b) (10 + j) 4 w) (10 + j) 5 0)) : dx_Sem dx_P lx_X (d + 1) 24 [.ref (10 + j), .int k, .int a, .int b, .int w] m Z := by
  refine dx_sem km_X2_begin rfl rfl ?_
  refine dx_blk 0 (c' := (0, [.ref (10 + j), .int k, .int a, .int b, .int w], [], m)) rfl ?_
  refine dx_blk 2 (c' := (2, [.ref (10 + j), .int k, .int a, .int b, .int w], [.int 1, .ref (10 + j)], m)) rfl ?_
  refine dx_putS (k := (10 + j)) rfl rfl rfl rfl (lx_ld j (by omega)) (Or.inr ⟨rfl, Or.inr rfl⟩) ?_
  refine dx_blk 0 (c' := (5, [.ref (10 + j), .int k, .int a, .int b, .int w], [], dx_pI m (10 + j) 0 1)) rfl ?_
  refine dx_blk 2 (c' := (7, [.ref (10 + j), .int k, .int a, .int b, .int w], [.int k, .ref (10 + j)], dx_pI m (10 + j) 0 1)) rfl ?_
  refine dx_putS (k := (10 + j)) rfl rfl rfl rfl (lx_ld j (by omega)) (Or.inl rfl) ?_
  refine dx_blk 0 (c' := (10, [.ref (10 + j), .int k, .int a, .int b, .int w], [], dx_pI (dx_pI m (10 + j) 0 1) (10 + j) 1 k)) rfl ?_
  refine dx_blk 2 (c' := (12, [.ref (10 + j), .int k, .int a, .int b, .int w], [.int a, .ref (10 + j)], dx_pI (dx_pI m (10 + j) 0 1) (10 + j) 1 k)) rfl ?_
  refine dx_putS (k := (10 + j)) rfl rfl rfl rfl (lx_ld j (by omega)) (Or.inl rfl) ?_
  refine dx_blk 0 (c' := (15, [.ref (10 + j), .int k, .int a, .int b, .int w], [], dx_pI (dx_pI (dx_pI m (10 + j) 0 1) (10 + j) 1 k) (10 + j) 2 a)) rfl ?_
  refine dx_blk 2 (c' := (17, [.ref (10 + j), .int k, .int a, .int b, .int w], [.int b, .ref (10 + j)], dx_pI (dx_pI (dx_pI m (10 + j) 0 1) (10 + j) 1 k) (10 + j) 2 a)) rfl ?_
  refine dx_putS (k := (10 + j)) rfl rfl rfl rfl (lx_ld j (by omega)) (Or.inl rfl) ?_
  refine dx_blk 0 (c' := (20, [.ref (10 + j), .int k, .int a, .int b, .int w], [], dx_pI (dx_pI (dx_pI (dx_pI m (10 + j) 0 1) (10 + j) 1 k) (10 + j) 2 a) (10 + j) 3 b)) rfl ?_
  refine dx_blk 2 (c' := (23, [.ref (10 + j), .int k, .int a, .int b, .int w], [.int w, .ref (10 + j)], dx_pI (dx_pI (dx_pI (dx_pI m (10 + j) 0 1) (10 + j) 1 k) (10 + j) 2 a) (10 + j) 3 b)) rfl ?_
  refine dx_putS (k := (10 + j)) rfl rfl rfl rfl (lx_ld j (by omega)) (Or.inl rfl) ?_
  refine dx_blk 0 (c' := (26, [.ref (10 + j), .int k, .int a, .int b, .int w], [], dx_pI (dx_pI (dx_pI (dx_pI (dx_pI m (10 + j) 0 1) (10 + j) 1 k) (10 + j) 2 a) (10 + j) 3 b) (10 + j) 4 w)) rfl ?_
  refine dx_blk 2 (c' := (28, [.ref (10 + j), .int k, .int a, .int b, .int w], [.int 0, .ref (10 + j)], dx_pI (dx_pI (dx_pI (dx_pI (dx_pI m (10 + j) 0 1) (10 + j) 1 k) (10 + j) 2 a) (10 + j) 3 b) (10 + j) 4 w)) rfl ?_
  refine dx_putS (k := (10 + j)) rfl rfl rfl rfl (lx_ld j (by omega)) (Or.inl rfl) ?_
  refine dx_blk 0 (c' := (31, [.ref (10 + j), .int k, .int a, .int b, .int w], [], dx_pI (dx_pI (dx_pI (dx_pI (dx_pI (dx_pI m (10 + j) 0 1) (10 + j) 1 k) (10 + j) 2 a) (10 + j) 3 b) (10 + j) 4 w) (10 + j) 5 0)) rfl ?_
  exact dx_ret (r := none) rfl h
def factX (m : dx_M) (j : Nat) (w : Int32) : Int32 := (if w = 0 then m.1 (10 + j) 1 else if w = 1 then m.1 (10 + j) 2 else if w = 2 then m.1 (10 + j) 3 else if w = 3 then m.1 (10 + j) 4 else if m.1 (10 + j) 1 = 1 then m.1 (10 + j) 5 else -9)
def factM (m : dx_M) (j : Nat) (w : Int32) : Int32 := (if w = 0 then m.1 6 j else if w = 1 then m.1 7 j else if w = 2 then m.1 8 j else if w = 3 then m.1 9 j else if m.1 6 j = 1 then m.1 10 j else -9)
set_option maxRecDepth 20000 in
theorem sX2_fact {d : Nat} (m : dx_M) {j : Nat} (hj : j < 10) (w : Int32) {Z : Option Value → dx_M → Prop} (h : Z (some (.int (factX m j w))) m) : dx_Sem dx_P lx_X (d + 1) 25 [.ref (10 + j), .int w] m Z := by
  refine dx_sem km_X2_fact rfl rfl ?_
  refine dx_blk 0 (c' := (0, [.ref (10 + j), .int w], [], m)) rfl ?_
  refine dx_blk 1 (c' := (1, [.ref (10 + j), .int w], [.int w], m)) rfl ?_
  refine dx_br (q := w = 0) (a := 32) (b := (if w = 1 then 37 else (if w = 2 then 42 else (if w = 3 then 47 else 52)))) (L := [.ref (10 + j), .int w]) (st := []) (m := m) rfl (fun h100 => ?_) (fun h100 => ?_)
  · refine dx_blk 1 (c' := (33, [.ref (10 + j), .int w], [.ref (10 + j)], m)) rfl ?_
    refine dx_getS (k := (10 + j)) (v := .int (m.1 (10 + j) 1)) rfl rfl rfl rfl (lx_ld j (by omega)) rfl ?_
    refine dx_blk 0 (c' := (36, [.ref (10 + j), .int w], [.int (m.1 (10 + j) 1)], m)) rfl ?_
    exact dx_ret (r := some (.int (m.1 (10 + j) 1))) rfl (by simpa [factX, *] using h)
  · refine dx_sp (q := w = 1) (fun h101 => ?_) (fun h101 => ?_)
    · refine dx_blk 1 (c' := (38, [.ref (10 + j), .int w], [.ref (10 + j)], m)) rfl ?_
      refine dx_getS (k := (10 + j)) (v := .int (m.1 (10 + j) 2)) rfl rfl rfl rfl (lx_ld j (by omega)) rfl ?_
      refine dx_blk 0 (c' := (41, [.ref (10 + j), .int w], [.int (m.1 (10 + j) 2)], m)) rfl ?_
      exact dx_ret (r := some (.int (m.1 (10 + j) 2))) rfl (by simpa [factX, *] using h)
    · refine dx_sp (q := w = 2) (fun h102 => ?_) (fun h102 => ?_)
      · refine dx_blk 1 (c' := (43, [.ref (10 + j), .int w], [.ref (10 + j)], m)) rfl ?_
        refine dx_getS (k := (10 + j)) (v := .int (m.1 (10 + j) 3)) rfl rfl rfl rfl (lx_ld j (by omega)) rfl ?_
        refine dx_blk 0 (c' := (46, [.ref (10 + j), .int w], [.int (m.1 (10 + j) 3)], m)) rfl ?_
        exact dx_ret (r := some (.int (m.1 (10 + j) 3))) rfl (by simpa [factX, *] using h)
      · refine dx_sp (q := w = 3) (fun h103 => ?_) (fun h103 => ?_)
        · refine dx_blk 1 (c' := (48, [.ref (10 + j), .int w], [.ref (10 + j)], m)) rfl ?_
          refine dx_getS (k := (10 + j)) (v := .int (m.1 (10 + j) 4)) rfl rfl rfl rfl (lx_ld j (by omega)) rfl ?_
          refine dx_blk 0 (c' := (51, [.ref (10 + j), .int w], [.int (m.1 (10 + j) 4)], m)) rfl ?_
          exact dx_ret (r := some (.int (m.1 (10 + j) 4))) rfl (by simpa [factX, *] using h)
        · refine dx_blk 1 (c' := (53, [.ref (10 + j), .int w], [.ref (10 + j)], m)) rfl ?_
          refine dx_getS (k := (10 + j)) (v := .int (m.1 (10 + j) 1)) rfl rfl rfl rfl (lx_ld j (by omega)) rfl ?_
          refine dx_blk 0 (c' := (56, [.ref (10 + j), .int w], [.int (m.1 (10 + j) 1)], m)) rfl ?_
          refine dx_blk 1 (c' := (57, [.ref (10 + j), .int w], [.int 1, .int (m.1 (10 + j) 1)], m)) rfl ?_
          refine dx_br (q := (m.1 (10 + j) 1) = 1) (a := 60) (b := 67) (L := [.ref (10 + j), .int w]) (st := []) (m := m) rfl (fun h57 => ?_) (fun h57 => ?_)
          · refine dx_blk 1 (c' := (61, [.ref (10 + j), .int w], [.ref (10 + j)], m)) rfl ?_
            refine dx_getS (k := (10 + j)) (v := .int (m.1 (10 + j) 5)) rfl rfl rfl rfl (lx_ld j (by omega)) rfl ?_
            refine dx_blk 0 (c' := (64, [.ref (10 + j), .int w], [.int (m.1 (10 + j) 5)], m)) rfl ?_
            refine dx_blk 1 (c' := (69, [.ref (10 + j), .int w], [.int (m.1 (10 + j) 5)], m)) rfl ?_
            exact dx_ret (r := some (.int (m.1 (10 + j) 5))) rfl (by simpa [factX, *] using h)
          · refine dx_blk 1 (c' := (69, [.ref (10 + j), .int w], [.int (-9)], m)) rfl ?_
            exact dx_ret (r := some (.int (-9))) rfl (by simpa [factX, *] using h)
set_option maxRecDepth 20000 in
theorem sX4_toldOf {d : Nat} (m : dx_M) {j : Nat} (hj : j < 10) (w : Int32) {Z : Option Value → dx_M → Prop} (h : Z (some (.int (factM m j w))) m) : dx_Sem dx_P lx_M (d + 1) 108 [.ref 0, .int (nI j), .int w] m Z := by
  refine dx_sem km_X4_toldOf rfl rfl ?_
  refine dx_blk 0 (c' := (0, [.ref 0, .int (nI j), .int w], [], m)) rfl ?_
  refine dx_blk 1 (c' := (1, [.ref 0, .int (nI j), .int w], [.int w], m)) rfl ?_
  refine dx_br (q := w = 0) (a := 32) (b := (if w = 1 then 39 else (if w = 2 then 46 else (if w = 3 then 53 else 60)))) (L := [.ref 0, .int (nI j), .int w]) (st := []) (m := m) rfl (fun h100 => ?_) (fun h100 => ?_)
  · refine dx_blk 3 (c' := (37, [.ref 0, .int (nI j), .int w], [.int (nI j), .ref 6], m)) rfl ?_
    refine dx_aldN j rfl rfl rfl rfl (by omega) ?_
    refine dx_blk 0 (c' := (38, [.ref 0, .int (nI j), .int w], [.int (m.1 6 j)], m)) rfl ?_
    exact dx_ret (r := some (.int (m.1 6 j))) rfl (by simpa [factM, *] using h)
  · refine dx_sp (q := w = 1) (fun h101 => ?_) (fun h101 => ?_)
    · refine dx_blk 3 (c' := (44, [.ref 0, .int (nI j), .int w], [.int (nI j), .ref 7], m)) rfl ?_
      refine dx_aldN j rfl rfl rfl rfl (by omega) ?_
      refine dx_blk 0 (c' := (45, [.ref 0, .int (nI j), .int w], [.int (m.1 7 j)], m)) rfl ?_
      exact dx_ret (r := some (.int (m.1 7 j))) rfl (by simpa [factM, *] using h)
    · refine dx_sp (q := w = 2) (fun h102 => ?_) (fun h102 => ?_)
      · refine dx_blk 3 (c' := (51, [.ref 0, .int (nI j), .int w], [.int (nI j), .ref 8], m)) rfl ?_
        refine dx_aldN j rfl rfl rfl rfl (by omega) ?_
        refine dx_blk 0 (c' := (52, [.ref 0, .int (nI j), .int w], [.int (m.1 8 j)], m)) rfl ?_
        exact dx_ret (r := some (.int (m.1 8 j))) rfl (by simpa [factM, *] using h)
      · refine dx_sp (q := w = 3) (fun h103 => ?_) (fun h103 => ?_)
        · refine dx_blk 3 (c' := (58, [.ref 0, .int (nI j), .int w], [.int (nI j), .ref 9], m)) rfl ?_
          refine dx_aldN j rfl rfl rfl rfl (by omega) ?_
          refine dx_blk 0 (c' := (59, [.ref 0, .int (nI j), .int w], [.int (m.1 9 j)], m)) rfl ?_
          exact dx_ret (r := some (.int (m.1 9 j))) rfl (by simpa [factM, *] using h)
        · refine dx_blk 3 (c' := (65, [.ref 0, .int (nI j), .int w], [.int (nI j), .ref 6], m)) rfl ?_
          refine dx_aldN j rfl rfl rfl rfl (by omega) ?_
          refine dx_blk 0 (c' := (66, [.ref 0, .int (nI j), .int w], [.int (m.1 6 j)], m)) rfl ?_
          refine dx_blk 1 (c' := (67, [.ref 0, .int (nI j), .int w], [.int 1, .int (m.1 6 j)], m)) rfl ?_
          refine dx_br (q := (m.1 6 j) = 1) (a := 70) (b := 79) (L := [.ref 0, .int (nI j), .int w]) (st := []) (m := m) rfl (fun h67 => ?_) (fun h67 => ?_)
          · refine dx_blk 3 (c' := (75, [.ref 0, .int (nI j), .int w], [.int (nI j), .ref 10], m)) rfl ?_
            refine dx_aldN j rfl rfl rfl rfl (by omega) ?_
            refine dx_blk 0 (c' := (76, [.ref 0, .int (nI j), .int w], [.int (m.1 10 j)], m)) rfl ?_
            refine dx_blk 1 (c' := (81, [.ref 0, .int (nI j), .int w], [.int (m.1 10 j)], m)) rfl ?_
            exact dx_ret (r := some (.int (m.1 10 j))) rfl (by simpa [factM, *] using h)
          · refine dx_blk 1 (c' := (81, [.ref 0, .int (nI j), .int w], [.int (-9)], m)) rfl ?_
            exact dx_ret (r := some (.int (-9))) rfl (by simpa [factM, *] using h)
set_option maxRecDepth 20000 in
theorem sX4_need {d : Nat} (m : dx_M) {E : Nat} (hE : E ≤ 10) (eE : m.1 0 11 = nI E) (g : Bool) (l : Int32) {Z : Option Value → dx_M → Prop} (h1 : (inI l 0 (nI E - 1) && g) = false → Z (some (.int (-1))) m) (h2 : ∀ j : Nat, j < E → l = nI j → g = true → ¬ m.1 11 j = 0 → Z (some (.int (-3))) (fndM m 1)) (h3 : ∀ j : Nat, j < E → l = nI j → g = true → m.1 11 j = 0 → Z (some (.int 0)) m) : dx_Sem dx_P lx_M (d + 2) 104 [.ref 0, .int (bI g), .int l] m Z := by
  refine dx_sem km_X4_need rfl rfl ?_
  refine dx_blk 0 (c' := (0, [.ref 0, .int (bI g), .int l], [], m)) rfl ?_
  refine dx_blk 6 (c' := (8, [.ref 0, .int (bI g), .int l], [.int ((m.1 0 11) - 1), .int 0, .int l], m)) rfl ?_
  refine dx_call (id := 82) (as := [.int l, .int 0, .int ((m.1 0 11) - 1)]) (rest := []) rfl ?_
  refine sX4_in l 0 ((m.1 0 11) - 1) _ ?_
  refine dx_blk 0 (c' := (11, [.ref 0, .int (bI g), .int l], [.int (bI (inI l 0 ((m.1 0 11) - 1)))], m)) rfl ?_
  refine dx_brB (B := (inI l 0 ((m.1 0 11) - 1))) (a := 18) (b := 14) (L := [.ref 0, .int (bI g), .int l]) (st := []) (m := m) rfl (fun h11 => ?_) (fun h11 => ?_)
  · refine dx_blk 2 (c' := (40, [.ref 0, .int (bI g), .int l], [.int (-1)], m)) rfl ?_
    exact dx_ret (r := some (.int (-1))) rfl (h1 (by rw [eE] at h11; simp_all))
  · refine dx_blk 1 (c' := (15, [.ref 0, .int (bI g), .int l], [.int (bI g)], m)) rfl ?_
    refine dx_brB (B := g) (a := 18) (b := 22) (L := [.ref 0, .int (bI g), .int l]) (st := []) (m := m) rfl (fun h15 => ?_) (fun h15 => ?_)
    · refine dx_blk 2 (c' := (40, [.ref 0, .int (bI g), .int l], [.int (-1)], m)) rfl ?_
      exact dx_ret (r := some (.int (-1))) rfl (h1 (by rw [eE] at h11; simp_all))
    · obtain ⟨j, hj, rfl⟩ := in_W (W := E) (x := l) (by omega) (by rw [← eE]; exact h11)
      refine dx_blk 3 (c' := (27, [.ref 0, .int (bI g), .int (nI j)], [.int (nI j), .ref 11], m)) rfl ?_
      refine dx_bldN j rfl rfl (Or.inr rfl) rfl (by omega) ?_
      refine dx_blk 0 (c' := (28, [.ref 0, .int (bI g), .int (nI j)], [.int (m.1 11 j)], m)) rfl ?_
      refine dx_br (q := (m.1 11 j) = 0) (a := 39) (b := 31) (L := [.ref 0, .int (bI g), .int (nI j)]) (st := []) (m := m) rfl (fun h28 => ?_) (fun h28 => ?_)
      · refine dx_blk 1 (c' := (40, [.ref 0, .int (bI g), .int (nI j)], [.int 0], m)) rfl ?_
        exact dx_ret (r := some (.int 0)) rfl (h3 j hj rfl (by assumption) (by assumption))
      · refine dx_blk 2 (c' := (33, [.ref 0, .int (bI g), .int (nI j)], [.int 1, .ref 0], m)) rfl ?_
        refine dx_call (id := 83) (as := [.ref 0, .int 1]) (rest := []) rfl ?_
        refine sX4_meets 1 (by decide) _ ?_
        refine dx_blk 0 (c' := (36, [.ref 0, .int (bI g), .int (nI j)], [.int (-3)], (fndM m 1))) rfl ?_
        refine dx_blk 1 (c' := (40, [.ref 0, .int (bI g), .int (nI j)], [.int (-3)], (fndM m 1))) rfl ?_
        exact dx_ret (r := some (.int (-3))) rfl (h2 j hj rfl (by assumption) (by assumption))
set_option maxRecDepth 20000 in
theorem sX3_load {d : Nat} (m : dx_M) {E : Nat} (hE : E ≤ 10) (eE : m.1 0 7 = nI E) (k a b w : Int32) {Z : Option Value → dx_M → Prop} (h1 : (inI k 0 2 && ((inI a 0 24 && inI b 0 24) && inI w 0 200)) = false → Z (some (.int (-1))) m) (h2 : E = 10 → (inI k 0 2 && ((inI a 0 24 && inI b 0 24) && inI w 0 200)) = true → Z (some (.int (-2))) m) (h3 : E < 10 → inI k 0 2 = true → inI a 0 24 = true → inI b 0 24 = true → inI w 0 200 = true → Z (some (.int (nI E))) (dx_pI (dx_pI (dx_pI (dx_pI (dx_pI (dx_pI (dx_pI m (10 + E) 0 1) (10 + E) 1 k) (10 + E) 2 a) (10 + E) 3 b) (10 + E) 4 w) (10 + E) 5 0) 0 7 (nI (E + 1)))) : dx_Sem dx_P lx_X (d + 3) 35 [.ref 0, .int k, .int a, .int b, .int w] m Z := by
  refine dx_sem km_X3_load rfl rfl ?_
  refine dx_blk 0 (c' := (0, [.ref 0, .int k, .int a, .int b, .int w], [], m)) rfl ?_
  refine dx_blk 3 (c' := (3, [.ref 0, .int k, .int a, .int b, .int w], [.int 2, .int 0, .int k], m)) rfl ?_
  refine dx_call (id := 64) (as := [.int k, .int 0, .int 2]) (rest := []) rfl ?_
  refine sX3_within k 0 2 _ ?_
  refine dx_blk 0 (c' := (6, [.ref 0, .int k, .int a, .int b, .int w], [.int (bI (inI k 0 2))], m)) rfl ?_
  refine dx_brB (B := (inI k 0 2)) (a := 29) (b := 9) (L := [.ref 0, .int k, .int a, .int b, .int w]) (st := []) (m := m) rfl (fun h6 => ?_) (fun h6 => ?_)
  · refine dx_blk 1 (c' := (30, [.ref 0, .int k, .int a, .int b, .int w], [.int (-1)], m)) rfl ?_
    exact dx_ret (r := some (.int (-1))) rfl (h1 (by simp_all))
  · refine dx_blk 2 (c' := (11, [.ref 0, .int k, .int a, .int b, .int w], [.int b, .int a], m)) rfl ?_
    refine dx_call (id := 67) (as := [.int a, .int b]) (rest := []) rfl ?_
    refine sX3_isPoint a b _ ?_
    refine dx_blk 0 (c' := (14, [.ref 0, .int k, .int a, .int b, .int w], [.int (bI (inI a 0 24 && inI b 0 24))], m)) rfl ?_
    refine dx_brB (B := (inI a 0 24 && inI b 0 24)) (a := 29) (b := 17) (L := [.ref 0, .int k, .int a, .int b, .int w]) (st := []) (m := m) rfl (fun h14 => ?_) (fun h14 => ?_)
    · refine dx_blk 1 (c' := (30, [.ref 0, .int k, .int a, .int b, .int w], [.int (-1)], m)) rfl ?_
      exact dx_ret (r := some (.int (-1))) rfl (h1 (by simp_all))
    · refine dx_blk 3 (c' := (23, [.ref 0, .int k, .int a, .int b, .int w], [.int 200, .int 0, .int w], m)) rfl ?_
      refine dx_call (id := 64) (as := [.int w, .int 0, .int 200]) (rest := []) rfl ?_
      refine sX3_within w 0 200 _ ?_
      refine dx_blk 0 (c' := (26, [.ref 0, .int k, .int a, .int b, .int w], [.int (bI (inI w 0 200))], m)) rfl ?_
      refine dx_brB (B := (inI w 0 200)) (a := 29) (b := 31) (L := [.ref 0, .int k, .int a, .int b, .int w]) (st := []) (m := m) rfl (fun h26 => ?_) (fun h26 => ?_)
      · refine dx_blk 1 (c' := (30, [.ref 0, .int k, .int a, .int b, .int w], [.int (-1)], m)) rfl ?_
        exact dx_ret (r := some (.int (-1))) rfl (h1 (by simp_all))
      · refine dx_blk 3 (c' := (37, [.ref 0, .int k, .int a, .int b, .int w], [.int 10, .int (m.1 0 7)], m)) rfl ?_
        refine dx_br (q := (m.1 0 7) < 10) (a := 43) (b := 40) (L := [.ref 0, .int k, .int a, .int b, .int w]) (st := []) (m := m) rfl (fun q37 => ?_) (fun q37 => ?_)
        · have hE2 : E < 10 := by
            rw [eE] at q37
            exact (nI_ltI (by omega) (by decide)).mp q37
          refine dx_blk 4 (c' := (51, [.ref 0, .int k, .int a, .int b, .int w], [.int (m.1 0 7), .ref 6], m)) rfl ?_
          refine dx_aadN E (q := (10 + E)) rfl rfl (Or.inl rfl) eE (by omega) (lx_rs6 E hE2) ?_
          refine dx_blk 0 (c' := (52, [.ref 0, .int k, .int a, .int b, .int w], [.ref (10 + E)], m)) rfl ?_
          refine dx_blk 4 (c' := (57, [.ref 0, .int k, .int a, .int b, .int w], [.int w, .int b, .int a, .int k, .ref (10 + E)], m)) rfl ?_
          refine dx_call (id := 24) (as := [.ref (10 + E), .int k, .int a, .int b, .int w]) (rest := []) (dx_clV (as := [.int k, .int a, .int b, .int w]) rfl rfl rfl rfl (lx_ld E hE2) rfl rfl rfl (Nat.le_of_ble_eq_true rfl)) ?_
          refine sX2_begin _ (j := E) (by omega) k a b w ?_
          refine dx_blk 0 (c' := (60, [.ref 0, .int k, .int a, .int b, .int w], [], (dx_pI (dx_pI (dx_pI (dx_pI (dx_pI (dx_pI m (10 + E) 0 1) (10 + E) 1 k) (10 + E) 2 a) (10 + E) 3 b) (10 + E) 4 w) (10 + E) 5 0))) rfl ?_
          refine dx_blk 10 (c' := (76, [.ref 0, .int k, .int a, .int b, .int w], [.int ((((dx_pI (dx_pI (dx_pI (dx_pI (dx_pI (dx_pI m (10 + E) 0 1) (10 + E) 1 k) (10 + E) 2 a) (10 + E) 3 b) (10 + E) 4 w) (10 + E) 5 0).1 0 7) + 1) - 1)], dx_pI (dx_pI (dx_pI (dx_pI (dx_pI (dx_pI (dx_pI m (10 + E) 0 1) (10 + E) 1 k) (10 + E) 2 a) (10 + E) 3 b) (10 + E) 4 w) (10 + E) 5 0) 0 7 (((dx_pI (dx_pI (dx_pI (dx_pI (dx_pI (dx_pI m (10 + E) 0 1) (10 + E) 1 k) (10 + E) 2 a) (10 + E) 3 b) (10 + E) 4 w) (10 + E) 5 0).1 0 7) + 1))) rfl ?_
          exact dx_ret (r := some (.int ((((dx_pI (dx_pI (dx_pI (dx_pI (dx_pI (dx_pI m (10 + E) 0 1) (10 + E) 1 k) (10 + E) 2 a) (10 + E) 3 b) (10 + E) 4 w) (10 + E) 5 0).1 0 7) + 1) - 1))) rfl (by simp only [Bool.and_eq_true] at h14; have e1 : (dx_pI (dx_pI (dx_pI (dx_pI (dx_pI (dx_pI m (10 + E) 0 1) (10 + E) 1 k) (10 + E) 2 a) (10 + E) 3 b) (10 + E) 4 w) (10 + E) 5 0).1 0 7 + 1 = nI (E + 1) := (by simp only [dx_rdI (show (0 : Nat) ≠ 10 + E by omega)]; rw [eE, nI_succ]); rw [e1, nI_pred]; exact h3 hE2 h6 h14.1 h14.2 h26)
        · refine dx_blk 1 (c' := (42, [.ref 0, .int k, .int a, .int b, .int w], [.int (-2)], m)) rfl ?_
          exact dx_ret (r := some (.int (-2))) rfl (h2 (by rw [eE] at q37; rcases Nat.lt_or_ge E 10 with q | q; exact absurd (nI_lt q (by decide)) q37; omega) (by simp_all))
set_option maxRecDepth 20000 in
theorem sX4_load {d : Nat} (m : dx_M) {E : Nat} (hE : E ≤ 10) (eE : m.1 0 11 = nI E) (k a b w : Int32) {Z : Option Value → dx_M → Prop} (h1 : (inI k 0 2 && ((inI a 0 24 && inI b 0 24) && inI w 0 200)) = false → Z (some (.int (-1))) m) (h2 : E = 10 → (inI k 0 2 && ((inI a 0 24 && inI b 0 24) && inI w 0 200)) = true → Z (some (.int (-2))) m) (h3 : E < 10 → inI k 0 2 = true → inI a 0 24 = true → inI b 0 24 = true → inI w 0 200 = true → Z (some (.int (nI E))) (dx_pI (dx_pI (dx_pI (dx_pI (dx_pI (dx_pI (dx_pI m 6 E k) 7 E a) 8 E b) 9 E w) 10 E 0) 11 E 0) 0 11 (nI (E + 1)))) : dx_Sem dx_P lx_M (d + 3) 103 [.ref 0, .int k, .int a, .int b, .int w] m Z := by
  refine dx_sem km_X4_load rfl rfl ?_
  refine dx_blk 0 (c' := (0, [.ref 0, .int k, .int a, .int b, .int w], [], m)) rfl ?_
  refine dx_blk 3 (c' := (3, [.ref 0, .int k, .int a, .int b, .int w], [.int 2, .int 0, .int k], m)) rfl ?_
  refine dx_call (id := 82) (as := [.int k, .int 0, .int 2]) (rest := []) rfl ?_
  refine sX4_in k 0 2 _ ?_
  refine dx_blk 0 (c' := (6, [.ref 0, .int k, .int a, .int b, .int w], [.int (bI (inI k 0 2))], m)) rfl ?_
  refine dx_brB (B := (inI k 0 2)) (a := 29) (b := 9) (L := [.ref 0, .int k, .int a, .int b, .int w]) (st := []) (m := m) rfl (fun h6 => ?_) (fun h6 => ?_)
  · refine dx_blk 1 (c' := (30, [.ref 0, .int k, .int a, .int b, .int w], [.int (-1)], m)) rfl ?_
    exact dx_ret (r := some (.int (-1))) rfl (h1 (by simp_all))
  · refine dx_blk 2 (c' := (11, [.ref 0, .int k, .int a, .int b, .int w], [.int b, .int a], m)) rfl ?_
    refine dx_call (id := 102) (as := [.int a, .int b]) (rest := []) rfl ?_
    refine sX4_isPoint a b _ ?_
    refine dx_blk 0 (c' := (14, [.ref 0, .int k, .int a, .int b, .int w], [.int (bI (inI a 0 24 && inI b 0 24))], m)) rfl ?_
    refine dx_brB (B := (inI a 0 24 && inI b 0 24)) (a := 29) (b := 17) (L := [.ref 0, .int k, .int a, .int b, .int w]) (st := []) (m := m) rfl (fun h14 => ?_) (fun h14 => ?_)
    · refine dx_blk 1 (c' := (30, [.ref 0, .int k, .int a, .int b, .int w], [.int (-1)], m)) rfl ?_
      exact dx_ret (r := some (.int (-1))) rfl (h1 (by simp_all))
    · refine dx_blk 3 (c' := (23, [.ref 0, .int k, .int a, .int b, .int w], [.int 200, .int 0, .int w], m)) rfl ?_
      refine dx_call (id := 82) (as := [.int w, .int 0, .int 200]) (rest := []) rfl ?_
      refine sX4_in w 0 200 _ ?_
      refine dx_blk 0 (c' := (26, [.ref 0, .int k, .int a, .int b, .int w], [.int (bI (inI w 0 200))], m)) rfl ?_
      refine dx_brB (B := (inI w 0 200)) (a := 29) (b := 31) (L := [.ref 0, .int k, .int a, .int b, .int w]) (st := []) (m := m) rfl (fun h26 => ?_) (fun h26 => ?_)
      · refine dx_blk 1 (c' := (30, [.ref 0, .int k, .int a, .int b, .int w], [.int (-1)], m)) rfl ?_
        exact dx_ret (r := some (.int (-1))) rfl (h1 (by simp_all))
      · refine dx_blk 3 (c' := (37, [.ref 0, .int k, .int a, .int b, .int w], [.int 10, .int (m.1 0 11)], m)) rfl ?_
        refine dx_br (q := (m.1 0 11) = 10) (a := 40) (b := 43) (L := [.ref 0, .int k, .int a, .int b, .int w]) (st := []) (m := m) rfl (fun q37 => ?_) (fun q37 => ?_)
        · refine dx_blk 1 (c' := (42, [.ref 0, .int k, .int a, .int b, .int w], [.int (-2)], m)) rfl ?_
          exact dx_ret (r := some (.int (-2))) rfl (h2 (by rw [eE] at q37; exact (nI_eq (by omega) (by decide)).mp q37) (by simp_all))
        · have hE2 : E < 10 := by
            rw [eE] at q37
            rcases Nat.lt_or_ge E 10 with q | q
            · exact q
            · exact absurd (show nI E = 10 by rw [show E = 10 by omega]; rfl) q37
          refine dx_blk 5 (c' := (52, [.ref 0, .int k, .int a, .int b, .int w], [.int k, .int (m.1 0 11), .ref 6], m)) rfl ?_
          refine dx_astN E rfl rfl rfl eE (by omega) ?_
          refine dx_blk 0 (c' := (53, [.ref 0, .int k, .int a, .int b, .int w], [], dx_pI m 6 E k)) rfl ?_
          refine dx_blk 5 (c' := (62, [.ref 0, .int k, .int a, .int b, .int w], [.int a, .int (m.1 0 11), .ref 7], dx_pI m 6 E k)) rfl ?_
          refine dx_astN E rfl rfl rfl eE (by omega) ?_
          refine dx_blk 0 (c' := (63, [.ref 0, .int k, .int a, .int b, .int w], [], dx_pI (dx_pI m 6 E k) 7 E a)) rfl ?_
          refine dx_blk 5 (c' := (72, [.ref 0, .int k, .int a, .int b, .int w], [.int b, .int (m.1 0 11), .ref 8], dx_pI (dx_pI m 6 E k) 7 E a)) rfl ?_
          refine dx_astN E rfl rfl rfl eE (by omega) ?_
          refine dx_blk 0 (c' := (73, [.ref 0, .int k, .int a, .int b, .int w], [], dx_pI (dx_pI (dx_pI m 6 E k) 7 E a) 8 E b)) rfl ?_
          refine dx_blk 5 (c' := (83, [.ref 0, .int k, .int a, .int b, .int w], [.int w, .int (m.1 0 11), .ref 9], dx_pI (dx_pI (dx_pI m 6 E k) 7 E a) 8 E b)) rfl ?_
          refine dx_astN E rfl rfl rfl eE (by omega) ?_
          refine dx_blk 0 (c' := (84, [.ref 0, .int k, .int a, .int b, .int w], [], dx_pI (dx_pI (dx_pI (dx_pI m 6 E k) 7 E a) 8 E b) 9 E w)) rfl ?_
          refine dx_blk 5 (c' := (93, [.ref 0, .int k, .int a, .int b, .int w], [.int 0, .int (m.1 0 11), .ref 10], dx_pI (dx_pI (dx_pI (dx_pI m 6 E k) 7 E a) 8 E b) 9 E w)) rfl ?_
          refine dx_astN E rfl rfl rfl eE (by omega) ?_
          refine dx_blk 0 (c' := (94, [.ref 0, .int k, .int a, .int b, .int w], [], dx_pI (dx_pI (dx_pI (dx_pI (dx_pI m 6 E k) 7 E a) 8 E b) 9 E w) 10 E 0)) rfl ?_
          refine dx_blk 5 (c' := (103, [.ref 0, .int k, .int a, .int b, .int w], [.int 0, .int (m.1 0 11), .ref 11], dx_pI (dx_pI (dx_pI (dx_pI (dx_pI m 6 E k) 7 E a) 8 E b) 9 E w) 10 E 0)) rfl ?_
          refine dx_bstZ E rfl rfl rfl eE (by omega) (Or.inl rfl) ?_
          refine dx_blk 0 (c' := (104, [.ref 0, .int k, .int a, .int b, .int w], [], dx_pI (dx_pI (dx_pI (dx_pI (dx_pI (dx_pI m 6 E k) 7 E a) 8 E b) 9 E w) 10 E 0) 11 E 0)) rfl ?_
          refine dx_blk 10 (c' := (120, [.ref 0, .int k, .int a, .int b, .int w], [.int (((m.1 0 11) + 1) - 1)], dx_pI (dx_pI (dx_pI (dx_pI (dx_pI (dx_pI (dx_pI m 6 E k) 7 E a) 8 E b) 9 E w) 10 E 0) 11 E 0) 0 11 ((m.1 0 11) + 1))) rfl ?_
          exact dx_ret (r := some (.int (((m.1 0 11) + 1) - 1))) rfl (by simp only [Bool.and_eq_true] at h14; rw [eE, show nI E + 1 = nI (E + 1) from (nI_succ E).symm, nI_pred]; exact h3 hE2 h6 h14.1 h14.2 h26)
set_option maxRecDepth 20000 in
theorem sX3_move {d : Nat} (m : dx_M) {E : Nat} (hE : E ≤ 10) (eE : m.1 0 7 = nI E) (l a b : Int32) {Z : Option Value → dx_M → Prop} (h1 : (inI l 0 (nI E - 1) && (inI a 0 24 && inI b 0 24)) = false → Z (some (.int (-1))) m) (h2 : ∀ j : Nat, j < E → l = nI j → (decide (¬ m.1 (10 + j) 0 = 0)) = false → (inI a 0 24 && inI b 0 24) = true → Z (some (.int (-3))) (fndX m 1)) (h3 : ∀ j : Nat, j < E → l = nI j → (decide (¬ m.1 (10 + j) 0 = 0)) = true → m.1 (10 + j) 1 = 2 → (inI a 0 24 && inI b 0 24) = true → Z (some (.int (-3))) (fndX m 3)) (h4 : ∀ j : Nat, j < E → l = nI j → (decide (¬ m.1 (10 + j) 0 = 0)) = true → ¬ m.1 (10 + j) 1 = 2 → (inI a 0 24 && inI b 0 24) = true → Z (some (.int 1)) (dx_pI (dx_pI m (10 + j) 2 a) (10 + j) 3 b)) : dx_Sem dx_P lx_X (d + 3) 36 [.ref 0, .int l, .int a, .int b] m Z := by
  refine dx_sem km_X3_move rfl rfl ?_
  refine dx_blk 0 (c' := (0, [.ref 0, .int l, .int a, .int b, .null], [], m)) rfl ?_
  refine dx_blk 2 (c' := (2, [.ref 0, .int l, .int a, .int b, .null], [.int l, .ref 0], m)) rfl ?_
  refine dx_call (id := 68) (as := [.ref 0, .int l]) (rest := []) rfl ?_
  refine sX3_isLoad _ l ?_
  refine dx_blk 0 (c' := (5, [.ref 0, .int l, .int a, .int b, .null], [.int (bI (inI l 0 (m.1 0 7 - 1)))], m)) rfl ?_
  refine dx_brB (B := (inI l 0 (m.1 0 7 - 1))) (a := 16) (b := 8) (L := [.ref 0, .int l, .int a, .int b, .null]) (st := []) (m := m) rfl (fun h5 => ?_) (fun h5 => ?_)
  · refine dx_blk 1 (c' := (17, [.ref 0, .int l, .int a, .int b, .null], [.int (-1)], m)) rfl ?_
    exact dx_ret (r := some (.int (-1))) rfl (h1 (by rw [eE] at h5; simp_all))
  · refine dx_blk 2 (c' := (10, [.ref 0, .int l, .int a, .int b, .null], [.int b, .int a], m)) rfl ?_
    refine dx_call (id := 67) (as := [.int a, .int b]) (rest := []) rfl ?_
    refine sX3_isPoint a b _ ?_
    refine dx_blk 0 (c' := (13, [.ref 0, .int l, .int a, .int b, .null], [.int (bI (inI a 0 24 && inI b 0 24))], m)) rfl ?_
    refine dx_brB (B := (inI a 0 24 && inI b 0 24)) (a := 16) (b := 18) (L := [.ref 0, .int l, .int a, .int b, .null]) (st := []) (m := m) rfl (fun h13 => ?_) (fun h13 => ?_)
    · refine dx_blk 1 (c' := (17, [.ref 0, .int l, .int a, .int b, .null], [.int (-1)], m)) rfl ?_
      exact dx_ret (r := some (.int (-1))) rfl (h1 (by rw [eE] at h5; simp_all))
    · obtain ⟨j, hj, rfl⟩ := in_W (W := E) (x := l) (by omega) (by rw [← eE]; exact h5)
      refine dx_blk 3 (c' := (23, [.ref 0, .int (nI j), .int a, .int b, .null], [.int (nI j), .ref 6], m)) rfl ?_
      refine dx_aadN j (q := (10 + j)) rfl rfl (Or.inl rfl) rfl (by omega) (lx_rs6 j (by omega)) ?_
      refine dx_blk 0 (c' := (24, [.ref 0, .int (nI j), .int a, .int b, .null], [.ref (10 + j)], m)) rfl ?_
      refine dx_blk 2 (c' := (28, [.ref 0, .int (nI j), .int a, .int b, .ref (10 + j)], [.ref (10 + j)], m)) rfl ?_
      refine dx_getS (k := (10 + j)) (v := .int (m.1 (10 + j) 0)) rfl rfl rfl rfl (lx_ld j (by omega)) rfl ?_
      refine dx_blk 0 (c' := (31, [.ref 0, .int (nI j), .int a, .int b, .ref (10 + j)], [.int (m.1 (10 + j) 0)], m)) rfl ?_
      refine dx_br (q := (m.1 (10 + j) 0) = 0) (a := 34) (b := 40) (L := [.ref 0, .int (nI j), .int a, .int b, .ref (10 + j)]) (st := []) (m := m) rfl (fun h31 => ?_) (fun h31 => ?_)
      · refine dx_blk 2 (c' := (36, [.ref 0, .int (nI j), .int a, .int b, .ref (10 + j)], [.int 1, .ref 0], m)) rfl ?_
        refine dx_call (id := 70) (as := [.ref 0, .int 1]) (rest := []) rfl ?_
        refine sX3_find 1 (by decide) _ ?_
        refine dx_blk 0 (c' := (39, [.ref 0, .int (nI j), .int a, .int b, .ref (10 + j)], [.int (-3)], (fndX m 1))) rfl ?_
        exact dx_ret (r := some (.int (-3))) rfl (h2 j hj rfl (by simp [*]) (by assumption))
      · refine dx_blk 1 (c' := (42, [.ref 0, .int (nI j), .int a, .int b, .ref (10 + j)], [.ref (10 + j)], m)) rfl ?_
        refine dx_getS (k := (10 + j)) (v := .int (m.1 (10 + j) 1)) rfl rfl rfl rfl (lx_ld j (by omega)) rfl ?_
        refine dx_blk 0 (c' := (45, [.ref 0, .int (nI j), .int a, .int b, .ref (10 + j)], [.int (m.1 (10 + j) 1)], m)) rfl ?_
        refine dx_blk 1 (c' := (46, [.ref 0, .int (nI j), .int a, .int b, .ref (10 + j)], [.int 2, .int (m.1 (10 + j) 1)], m)) rfl ?_
        refine dx_br (q := (m.1 (10 + j) 1) = 2) (a := 49) (b := 55) (L := [.ref 0, .int (nI j), .int a, .int b, .ref (10 + j)]) (st := []) (m := m) rfl (fun h46 => ?_) (fun h46 => ?_)
        · refine dx_blk 2 (c' := (51, [.ref 0, .int (nI j), .int a, .int b, .ref (10 + j)], [.int 3, .ref 0], m)) rfl ?_
          refine dx_call (id := 70) (as := [.ref 0, .int 3]) (rest := []) rfl ?_
          refine sX3_find 3 (by decide) _ ?_
          refine dx_blk 0 (c' := (54, [.ref 0, .int (nI j), .int a, .int b, .ref (10 + j)], [.int (-3)], (fndX m 3))) rfl ?_
          exact dx_ret (r := some (.int (-3))) rfl (h3 j hj rfl (by simp [*]) (by assumption) (by assumption))
        · refine dx_blk 2 (c' := (58, [.ref 0, .int (nI j), .int a, .int b, .ref (10 + j)], [.int a, .ref (10 + j)], m)) rfl ?_
          refine dx_putS (k := (10 + j)) rfl rfl rfl rfl (lx_ld j (by omega)) (Or.inl rfl) ?_
          refine dx_blk 0 (c' := (61, [.ref 0, .int (nI j), .int a, .int b, .ref (10 + j)], [], dx_pI m (10 + j) 2 a)) rfl ?_
          refine dx_blk 2 (c' := (64, [.ref 0, .int (nI j), .int a, .int b, .ref (10 + j)], [.int b, .ref (10 + j)], dx_pI m (10 + j) 2 a)) rfl ?_
          refine dx_putS (k := (10 + j)) rfl rfl rfl rfl (lx_ld j (by omega)) (Or.inl rfl) ?_
          refine dx_blk 0 (c' := (67, [.ref 0, .int (nI j), .int a, .int b, .ref (10 + j)], [], dx_pI (dx_pI m (10 + j) 2 a) (10 + j) 3 b)) rfl ?_
          refine dx_blk 1 (c' := (68, [.ref 0, .int (nI j), .int a, .int b, .ref (10 + j)], [.int 1], dx_pI (dx_pI m (10 + j) 2 a) (10 + j) 3 b)) rfl ?_
          exact dx_ret (r := some (.int 1)) rfl (h4 j hj rfl (by simp [*]) (by assumption) (by assumption))
set_option maxRecDepth 20000 in
theorem sX4_move {d : Nat} (m : dx_M) {E : Nat} (hE : E ≤ 10) (eE : m.1 0 11 = nI E) (l a b : Int32) {Z : Option Value → dx_M → Prop} (h1 : (inI l 0 (nI E - 1) && (inI a 0 24 && inI b 0 24)) = false → Z (some (.int (-1))) m) (h2 : ∀ j : Nat, j < E → l = nI j → (decide (m.1 11 j = 0)) = false → (inI a 0 24 && inI b 0 24) = true → Z (some (.int (-3))) (fndM m 1)) (h3 : ∀ j : Nat, j < E → l = nI j → (decide (m.1 11 j = 0)) = true → m.1 6 j = 2 → (inI a 0 24 && inI b 0 24) = true → Z (some (.int (-3))) (fndM m 3)) (h4 : ∀ j : Nat, j < E → l = nI j → (decide (m.1 11 j = 0)) = true → ¬ m.1 6 j = 2 → (inI a 0 24 && inI b 0 24) = true → Z (some (.int 1)) (dx_pI (dx_pI m 7 j a) 8 j b)) : dx_Sem dx_P lx_M (d + 3) 105 [.ref 0, .int l, .int a, .int b] m Z := by
  refine dx_sem km_X4_move rfl rfl ?_
  refine dx_blk 0 (c' := (0, [.ref 0, .int l, .int a, .int b, .null], [], m)) rfl ?_
  refine dx_blk 3 (c' := (3, [.ref 0, .int l, .int a, .int b, .null], [.int b, .int a, .ref 0], m)) rfl ?_
  refine dx_call (id := 102) (as := [.int a, .int b]) (rest := [.ref 0]) rfl ?_
  refine sX4_isPoint a b _ ?_
  refine dx_blk 0 (c' := (6, [.ref 0, .int l, .int a, .int b, .null], [.int (bI (inI a 0 24 && inI b 0 24)), .ref 0], m)) rfl ?_
  refine dx_blk 1 (c' := (7, [.ref 0, .int l, .int a, .int b, .null], [.int l, .int (bI (inI a 0 24 && inI b 0 24)), .ref 0], m)) rfl ?_
  refine dx_call (id := 104) (as := [.ref 0, .int (bI (inI a 0 24 && inI b 0 24)), .int l]) (rest := []) rfl ?_
  refine sX4_need _ hE eE (inI a 0 24 && inI b 0 24) l (fun q1 => ?_) (fun j hj ej q1 q2 => ?_) (fun j hj ej q1 q2 => ?_)
  · refine dx_blk 0 (c' := (10, [.ref 0, .int l, .int a, .int b, .null], [.int (-1)], m)) rfl ?_
    refine dx_blk 2 (c' := (14, [.ref 0, .int l, .int a, .int b, .int (-1)], [.int (-1)], m)) rfl ?_
    refine dx_br (q := 0 ≤ ((-1) : Int32)) (a := 20) (b := 17) (L := [.ref 0, .int l, .int a, .int b, .int (-1)]) (st := []) (m := m) rfl (fun h => absurd h (by decide)) (fun _ => ?_)
    refine dx_blk 1 (c' := (19, [.ref 0, .int l, .int a, .int b, .int (-1)], [.int (-1)], m)) rfl ?_
    exact dx_ret (r := some (.int (-1))) rfl (h1 (by assumption))
  · subst ej
    refine dx_blk 0 (c' := (10, [.ref 0, .int (nI j), .int a, .int b, .null], [.int (-3)], (fndM m 1))) rfl ?_
    refine dx_blk 2 (c' := (14, [.ref 0, .int (nI j), .int a, .int b, .int (-3)], [.int (-3)], (fndM m 1))) rfl ?_
    refine dx_br (q := 0 ≤ ((-3) : Int32)) (a := 20) (b := 17) (L := [.ref 0, .int (nI j), .int a, .int b, .int (-3)]) (st := []) (m := (fndM m 1)) rfl (fun h => absurd h (by decide)) (fun _ => ?_)
    refine dx_blk 1 (c' := (19, [.ref 0, .int (nI j), .int a, .int b, .int (-3)], [.int (-3)], (fndM m 1))) rfl ?_
    exact dx_ret (r := some (.int (-3))) rfl (h2 j hj rfl (by simp [*]) (by assumption))
  · subst ej
    refine dx_blk 0 (c' := (10, [.ref 0, .int (nI j), .int a, .int b, .null], [.int 0], m)) rfl ?_
    refine dx_blk 2 (c' := (14, [.ref 0, .int (nI j), .int a, .int b, .int 0], [.int 0], m)) rfl ?_
    refine dx_br (q := 0 ≤ (0 : Int32)) (a := 20) (b := 17) (L := [.ref 0, .int (nI j), .int a, .int b, .int 0]) (st := []) (m := m) rfl (fun _ => ?_) (fun h => absurd (by decide) h)
    refine dx_blk 3 (c' := (25, [.ref 0, .int (nI j), .int a, .int b, .int 0], [.int (nI j), .ref 6], m)) rfl ?_
    refine dx_aldN j rfl rfl rfl rfl (by omega) ?_
    refine dx_blk 0 (c' := (26, [.ref 0, .int (nI j), .int a, .int b, .int 0], [.int (m.1 6 j)], m)) rfl ?_
    refine dx_blk 1 (c' := (27, [.ref 0, .int (nI j), .int a, .int b, .int 0], [.int 2, .int (m.1 6 j)], m)) rfl ?_
    refine dx_br (q := (m.1 6 j) = 2) (a := 30) (b := 36) (L := [.ref 0, .int (nI j), .int a, .int b, .int 0]) (st := []) (m := m) rfl (fun h27 => ?_) (fun h27 => ?_)
    · refine dx_blk 2 (c' := (32, [.ref 0, .int (nI j), .int a, .int b, .int 0], [.int 3, .ref 0], m)) rfl ?_
      refine dx_call (id := 83) (as := [.ref 0, .int 3]) (rest := []) rfl ?_
      refine sX4_meets 3 (by decide) _ ?_
      refine dx_blk 0 (c' := (35, [.ref 0, .int (nI j), .int a, .int b, .int 0], [.int (-3)], (fndM m 3))) rfl ?_
      exact dx_ret (r := some (.int (-3))) rfl (h3 j hj rfl (by simp [*]) (by assumption) (by assumption))
    · refine dx_blk 4 (c' := (42, [.ref 0, .int (nI j), .int a, .int b, .int 0], [.int a, .int (nI j), .ref 7], m)) rfl ?_
      refine dx_astN j rfl rfl rfl rfl (by omega) ?_
      refine dx_blk 0 (c' := (43, [.ref 0, .int (nI j), .int a, .int b, .int 0], [], dx_pI m 7 j a)) rfl ?_
      refine dx_blk 4 (c' := (49, [.ref 0, .int (nI j), .int a, .int b, .int 0], [.int b, .int (nI j), .ref 8], dx_pI m 7 j a)) rfl ?_
      refine dx_astN j rfl rfl rfl rfl (by omega) ?_
      refine dx_blk 0 (c' := (50, [.ref 0, .int (nI j), .int a, .int b, .int 0], [], dx_pI (dx_pI m 7 j a) 8 j b)) rfl ?_
      refine dx_blk 1 (c' := (51, [.ref 0, .int (nI j), .int a, .int b, .int 0], [.int 1], dx_pI (dx_pI m 7 j a) 8 j b)) rfl ?_
      exact dx_ret (r := some (.int 1)) rfl (h4 j hj rfl (by simp [*]) (by assumption) (by assumption))
set_option maxRecDepth 20000 in
theorem sX3_rope {d : Nat} (m : dx_M) {E : Nat} (hE : E ≤ 10) (eE : m.1 0 7 = nI E) (l n : Int32) {Z : Option Value → dx_M → Prop} (h1 : (inI l 0 (nI E - 1) && inI n 0 20) = false → Z (some (.int (-1))) m) (h2 : ∀ j : Nat, j < E → l = nI j → (decide (¬ m.1 (10 + j) 0 = 0)) = false → inI n 0 20 = true → Z (some (.int (-3))) (fndX m 1)) (h3 : ∀ j : Nat, j < E → l = nI j → (decide (¬ m.1 (10 + j) 0 = 0)) = true → ¬ m.1 (10 + j) 1 = 1 → inI n 0 20 = true → Z (some (.int (-3))) (fndX m 3)) (h4 : ∀ j : Nat, j < E → l = nI j → (decide (¬ m.1 (10 + j) 0 = 0)) = true → m.1 (10 + j) 1 = 1 → inI n 0 20 = true → Z (some (.int (m.1 (10 + j) 5))) (dx_pI m (10 + j) 5 n)) : dx_Sem dx_P lx_X (d + 3) 37 [.ref 0, .int l, .int n] m Z := by
  refine dx_sem km_X3_rope rfl rfl ?_
  refine dx_blk 0 (c' := (0, [.ref 0, .int l, .int n, .null, .null], [], m)) rfl ?_
  refine dx_blk 2 (c' := (2, [.ref 0, .int l, .int n, .null, .null], [.int l, .ref 0], m)) rfl ?_
  refine dx_call (id := 68) (as := [.ref 0, .int l]) (rest := []) rfl ?_
  refine sX3_isLoad _ l ?_
  refine dx_blk 0 (c' := (5, [.ref 0, .int l, .int n, .null, .null], [.int (bI (inI l 0 (m.1 0 7 - 1)))], m)) rfl ?_
  refine dx_brB (B := (inI l 0 (m.1 0 7 - 1))) (a := 18) (b := 8) (L := [.ref 0, .int l, .int n, .null, .null]) (st := []) (m := m) rfl (fun h5 => ?_) (fun h5 => ?_)
  · refine dx_blk 1 (c' := (19, [.ref 0, .int l, .int n, .null, .null], [.int (-1)], m)) rfl ?_
    exact dx_ret (r := some (.int (-1))) rfl (h1 (by rw [eE] at h5; simp_all))
  · refine dx_blk 3 (c' := (12, [.ref 0, .int l, .int n, .null, .null], [.int 20, .int 0, .int n], m)) rfl ?_
    refine dx_call (id := 64) (as := [.int n, .int 0, .int 20]) (rest := []) rfl ?_
    refine sX3_within n 0 20 _ ?_
    refine dx_blk 0 (c' := (15, [.ref 0, .int l, .int n, .null, .null], [.int (bI (inI n 0 20))], m)) rfl ?_
    refine dx_brB (B := (inI n 0 20)) (a := 18) (b := 20) (L := [.ref 0, .int l, .int n, .null, .null]) (st := []) (m := m) rfl (fun h15 => ?_) (fun h15 => ?_)
    · refine dx_blk 1 (c' := (19, [.ref 0, .int l, .int n, .null, .null], [.int (-1)], m)) rfl ?_
      exact dx_ret (r := some (.int (-1))) rfl (h1 (by rw [eE] at h5; simp_all))
    · obtain ⟨j, hj, rfl⟩ := in_W (W := E) (x := l) (by omega) (by rw [← eE]; exact h5)
      refine dx_blk 3 (c' := (25, [.ref 0, .int (nI j), .int n, .null, .null], [.int (nI j), .ref 6], m)) rfl ?_
      refine dx_aadN j (q := (10 + j)) rfl rfl (Or.inl rfl) rfl (by omega) (lx_rs6 j (by omega)) ?_
      refine dx_blk 0 (c' := (26, [.ref 0, .int (nI j), .int n, .null, .null], [.ref (10 + j)], m)) rfl ?_
      refine dx_blk 2 (c' := (28, [.ref 0, .int (nI j), .int n, .ref (10 + j), .null], [.ref (10 + j)], m)) rfl ?_
      refine dx_getS (k := (10 + j)) (v := .int (m.1 (10 + j) 0)) rfl rfl rfl rfl (lx_ld j (by omega)) rfl ?_
      refine dx_blk 0 (c' := (31, [.ref 0, .int (nI j), .int n, .ref (10 + j), .null], [.int (m.1 (10 + j) 0)], m)) rfl ?_
      refine dx_br (q := (m.1 (10 + j) 0) = 0) (a := 34) (b := 40) (L := [.ref 0, .int (nI j), .int n, .ref (10 + j), .null]) (st := []) (m := m) rfl (fun h31 => ?_) (fun h31 => ?_)
      · refine dx_blk 2 (c' := (36, [.ref 0, .int (nI j), .int n, .ref (10 + j), .null], [.int 1, .ref 0], m)) rfl ?_
        refine dx_call (id := 70) (as := [.ref 0, .int 1]) (rest := []) rfl ?_
        refine sX3_find 1 (by decide) _ ?_
        refine dx_blk 0 (c' := (39, [.ref 0, .int (nI j), .int n, .ref (10 + j), .null], [.int (-3)], (fndX m 1))) rfl ?_
        exact dx_ret (r := some (.int (-3))) rfl (h2 j hj rfl (by simp [*]) (by assumption))
      · refine dx_blk 1 (c' := (41, [.ref 0, .int (nI j), .int n, .ref (10 + j), .null], [.ref (10 + j)], m)) rfl ?_
        refine dx_getS (k := (10 + j)) (v := .int (m.1 (10 + j) 1)) rfl rfl rfl rfl (lx_ld j (by omega)) rfl ?_
        refine dx_blk 0 (c' := (44, [.ref 0, .int (nI j), .int n, .ref (10 + j), .null], [.int (m.1 (10 + j) 1)], m)) rfl ?_
        refine dx_blk 1 (c' := (45, [.ref 0, .int (nI j), .int n, .ref (10 + j), .null], [.int 1, .int (m.1 (10 + j) 1)], m)) rfl ?_
        refine dx_br (q := (m.1 (10 + j) 1) = 1) (a := 54) (b := 48) (L := [.ref 0, .int (nI j), .int n, .ref (10 + j), .null]) (st := []) (m := m) rfl (fun h45 => ?_) (fun h45 => ?_)
        · refine dx_blk 1 (c' := (55, [.ref 0, .int (nI j), .int n, .ref (10 + j), .null], [.ref (10 + j)], m)) rfl ?_
          refine dx_getS (k := (10 + j)) (v := .int (m.1 (10 + j) 5)) rfl rfl rfl rfl (lx_ld j (by omega)) rfl ?_
          refine dx_blk 0 (c' := (58, [.ref 0, .int (nI j), .int n, .ref (10 + j), .null], [.int (m.1 (10 + j) 5)], m)) rfl ?_
          refine dx_blk 3 (c' := (62, [.ref 0, .int (nI j), .int n, .ref (10 + j), .int (m.1 (10 + j) 5)], [.int n, .ref (10 + j)], m)) rfl ?_
          refine dx_putS (k := (10 + j)) rfl rfl rfl rfl (lx_ld j (by omega)) (Or.inl rfl) ?_
          refine dx_blk 0 (c' := (65, [.ref 0, .int (nI j), .int n, .ref (10 + j), .int (m.1 (10 + j) 5)], [], dx_pI m (10 + j) 5 n)) rfl ?_
          refine dx_blk 1 (c' := (67, [.ref 0, .int (nI j), .int n, .ref (10 + j), .int (m.1 (10 + j) 5)], [.int (m.1 (10 + j) 5)], dx_pI m (10 + j) 5 n)) rfl ?_
          exact dx_ret (r := some (.int (m.1 (10 + j) 5))) rfl (h4 j hj rfl (by simp [*]) (by assumption) (by assumption))
        · refine dx_blk 2 (c' := (50, [.ref 0, .int (nI j), .int n, .ref (10 + j), .null], [.int 3, .ref 0], m)) rfl ?_
          refine dx_call (id := 70) (as := [.ref 0, .int 3]) (rest := []) rfl ?_
          refine sX3_find 3 (by decide) _ ?_
          refine dx_blk 0 (c' := (53, [.ref 0, .int (nI j), .int n, .ref (10 + j), .null], [.int (-3)], (fndX m 3))) rfl ?_
          exact dx_ret (r := some (.int (-3))) rfl (h3 j hj rfl (by simp [*]) (by assumption) (by assumption))
set_option maxRecDepth 20000 in
theorem sX4_rope {d : Nat} (m : dx_M) {E : Nat} (hE : E ≤ 10) (eE : m.1 0 11 = nI E) (l n : Int32) {Z : Option Value → dx_M → Prop} (h1 : (inI l 0 (nI E - 1) && inI n 0 20) = false → Z (some (.int (-1))) m) (h2 : ∀ j : Nat, j < E → l = nI j → (decide (m.1 11 j = 0)) = false → inI n 0 20 = true → Z (some (.int (-3))) (fndM m 1)) (h3 : ∀ j : Nat, j < E → l = nI j → (decide (m.1 11 j = 0)) = true → ¬ m.1 6 j = 1 → inI n 0 20 = true → Z (some (.int (-3))) (fndM m 3)) (h4 : ∀ j : Nat, j < E → l = nI j → (decide (m.1 11 j = 0)) = true → m.1 6 j = 1 → inI n 0 20 = true → Z (some (.int (m.1 10 j))) (dx_pI m 10 j n)) : dx_Sem dx_P lx_M (d + 3) 106 [.ref 0, .int l, .int n] m Z := by
  refine dx_sem km_X4_rope rfl rfl ?_
  refine dx_blk 0 (c' := (0, [.ref 0, .int l, .int n, .null, .null], [], m)) rfl ?_
  refine dx_blk 4 (c' := (5, [.ref 0, .int l, .int n, .null, .null], [.int 20, .int 0, .int n, .ref 0], m)) rfl ?_
  refine dx_call (id := 82) (as := [.int n, .int 0, .int 20]) (rest := [.ref 0]) rfl ?_
  refine sX4_in n 0 20 _ ?_
  refine dx_blk 0 (c' := (8, [.ref 0, .int l, .int n, .null, .null], [.int (bI (inI n 0 20)), .ref 0], m)) rfl ?_
  refine dx_blk 1 (c' := (9, [.ref 0, .int l, .int n, .null, .null], [.int l, .int (bI (inI n 0 20)), .ref 0], m)) rfl ?_
  refine dx_call (id := 104) (as := [.ref 0, .int (bI (inI n 0 20)), .int l]) (rest := []) rfl ?_
  refine sX4_need _ hE eE (inI n 0 20) l (fun q1 => ?_) (fun j hj ej q1 q2 => ?_) (fun j hj ej q1 q2 => ?_)
  · refine dx_blk 0 (c' := (12, [.ref 0, .int l, .int n, .null, .null], [.int (-1)], m)) rfl ?_
    refine dx_blk 2 (c' := (14, [.ref 0, .int l, .int n, .int (-1), .null], [.int (-1)], m)) rfl ?_
    refine dx_br (q := 0 ≤ ((-1) : Int32)) (a := 19) (b := 17) (L := [.ref 0, .int l, .int n, .int (-1), .null]) (st := []) (m := m) rfl (fun h => absurd h (by decide)) (fun _ => ?_)
    refine dx_blk 1 (c' := (18, [.ref 0, .int l, .int n, .int (-1), .null], [.int (-1)], m)) rfl ?_
    exact dx_ret (r := some (.int (-1))) rfl (h1 (by assumption))
  · subst ej
    refine dx_blk 0 (c' := (12, [.ref 0, .int (nI j), .int n, .null, .null], [.int (-3)], (fndM m 1))) rfl ?_
    refine dx_blk 2 (c' := (14, [.ref 0, .int (nI j), .int n, .int (-3), .null], [.int (-3)], (fndM m 1))) rfl ?_
    refine dx_br (q := 0 ≤ ((-3) : Int32)) (a := 19) (b := 17) (L := [.ref 0, .int (nI j), .int n, .int (-3), .null]) (st := []) (m := (fndM m 1)) rfl (fun h => absurd h (by decide)) (fun _ => ?_)
    refine dx_blk 1 (c' := (18, [.ref 0, .int (nI j), .int n, .int (-3), .null], [.int (-3)], (fndM m 1))) rfl ?_
    exact dx_ret (r := some (.int (-3))) rfl (h2 j hj rfl (by simp [*]) (by assumption))
  · subst ej
    refine dx_blk 0 (c' := (12, [.ref 0, .int (nI j), .int n, .null, .null], [.int 0], m)) rfl ?_
    refine dx_blk 2 (c' := (14, [.ref 0, .int (nI j), .int n, .int 0, .null], [.int 0], m)) rfl ?_
    refine dx_br (q := 0 ≤ (0 : Int32)) (a := 19) (b := 17) (L := [.ref 0, .int (nI j), .int n, .int 0, .null]) (st := []) (m := m) rfl (fun _ => ?_) (fun h => absurd (by decide) h)
    refine dx_blk 3 (c' := (24, [.ref 0, .int (nI j), .int n, .int 0, .null], [.int (nI j), .ref 6], m)) rfl ?_
    refine dx_aldN j rfl rfl rfl rfl (by omega) ?_
    refine dx_blk 0 (c' := (25, [.ref 0, .int (nI j), .int n, .int 0, .null], [.int (m.1 6 j)], m)) rfl ?_
    refine dx_blk 1 (c' := (26, [.ref 0, .int (nI j), .int n, .int 0, .null], [.int 1, .int (m.1 6 j)], m)) rfl ?_
    refine dx_br (q := (m.1 6 j) = 1) (a := 35) (b := 29) (L := [.ref 0, .int (nI j), .int n, .int 0, .null]) (st := []) (m := m) rfl (fun h26 => ?_) (fun h26 => ?_)
    · refine dx_blk 3 (c' := (40, [.ref 0, .int (nI j), .int n, .int 0, .null], [.int (nI j), .ref 10], m)) rfl ?_
      refine dx_aldN j rfl rfl rfl rfl (by omega) ?_
      refine dx_blk 0 (c' := (41, [.ref 0, .int (nI j), .int n, .int 0, .null], [.int (m.1 10 j)], m)) rfl ?_
      refine dx_blk 5 (c' := (49, [.ref 0, .int (nI j), .int n, .int 0, .int (m.1 10 j)], [.int n, .int (nI j), .ref 10], m)) rfl ?_
      refine dx_astN j rfl rfl rfl rfl (by omega) ?_
      refine dx_blk 0 (c' := (50, [.ref 0, .int (nI j), .int n, .int 0, .int (m.1 10 j)], [], dx_pI m 10 j n)) rfl ?_
      refine dx_blk 1 (c' := (52, [.ref 0, .int (nI j), .int n, .int 0, .int (m.1 10 j)], [.int (m.1 10 j)], dx_pI m 10 j n)) rfl ?_
      exact dx_ret (r := some (.int (m.1 10 j))) rfl (h4 j hj rfl (by simp [*]) (by assumption) (by assumption))
    · refine dx_blk 2 (c' := (31, [.ref 0, .int (nI j), .int n, .int 0, .null], [.int 3, .ref 0], m)) rfl ?_
      refine dx_call (id := 83) (as := [.ref 0, .int 3]) (rest := []) rfl ?_
      refine sX4_meets 3 (by decide) _ ?_
      refine dx_blk 0 (c' := (34, [.ref 0, .int (nI j), .int n, .int 0, .null], [.int (-3)], (fndM m 3))) rfl ?_
      exact dx_ret (r := some (.int (-3))) rfl (h3 j hj rfl (by simp [*]) (by assumption) (by assumption))
set_option maxRecDepth 20000 in
theorem sX3_drop {d : Nat} (m : dx_M) {E : Nat} (hE : E ≤ 10) (eE : m.1 0 7 = nI E) (l : Int32) {Z : Option Value → dx_M → Prop} (h1 : inI l 0 (nI E - 1) = false → Z (some (.int (-1))) m) (h2 : ∀ j : Nat, j < E → l = nI j → (decide (¬ m.1 (10 + j) 0 = 0)) = false → Z (some (.int (-3))) (fndX m 1)) (h4 : ∀ j : Nat, j < E → l = nI j → (decide (¬ m.1 (10 + j) 0 = 0)) = true → Z (some (.int 1)) (dx_pI m (10 + j) 0 0)) : dx_Sem dx_P lx_X (d + 3) 38 [.ref 0, .int l] m Z := by
  refine dx_sem km_X3_drop rfl rfl ?_
  refine dx_blk 0 (c' := (0, [.ref 0, .int l], [], m)) rfl ?_
  refine dx_blk 2 (c' := (2, [.ref 0, .int l], [.int l, .ref 0], m)) rfl ?_
  refine dx_call (id := 68) (as := [.ref 0, .int l]) (rest := []) rfl ?_
  refine sX3_isLoad _ l ?_
  refine dx_blk 0 (c' := (5, [.ref 0, .int l], [.int (bI (inI l 0 (m.1 0 7 - 1)))], m)) rfl ?_
  refine dx_brB (B := (inI l 0 (m.1 0 7 - 1))) (a := 8) (b := 10) (L := [.ref 0, .int l]) (st := []) (m := m) rfl (fun h5 => ?_) (fun h5 => ?_)
  · refine dx_blk 1 (c' := (9, [.ref 0, .int l], [.int (-1)], m)) rfl ?_
    exact dx_ret (r := some (.int (-1))) rfl (h1 (by rw [eE] at h5; exact h5))
  · obtain ⟨j, hj, rfl⟩ := in_W (W := E) (x := l) (by omega) (by rw [← eE]; exact h5)
    refine dx_blk 3 (c' := (15, [.ref 0, .int (nI j)], [.int (nI j), .ref 6], m)) rfl ?_
    refine dx_aadN j (q := (10 + j)) rfl rfl (Or.inl rfl) rfl (by omega) (lx_rs6 j (by omega)) ?_
    refine dx_blk 0 (c' := (16, [.ref 0, .int (nI j)], [.ref (10 + j)], m)) rfl ?_
    refine dx_getS (k := (10 + j)) (v := .int (m.1 (10 + j) 0)) rfl rfl rfl rfl (lx_ld j (by omega)) rfl ?_
    refine dx_blk 0 (c' := (19, [.ref 0, .int (nI j)], [.int (m.1 (10 + j) 0)], m)) rfl ?_
    refine dx_br (q := (m.1 (10 + j) 0) = 0) (a := 22) (b := 28) (L := [.ref 0, .int (nI j)]) (st := []) (m := m) rfl (fun h19 => ?_) (fun h19 => ?_)
    · refine dx_blk 2 (c' := (24, [.ref 0, .int (nI j)], [.int 1, .ref 0], m)) rfl ?_
      refine dx_call (id := 70) (as := [.ref 0, .int 1]) (rest := []) rfl ?_
      refine sX3_find 1 (by decide) _ ?_
      refine dx_blk 0 (c' := (27, [.ref 0, .int (nI j)], [.int (-3)], (fndX m 1))) rfl ?_
      exact dx_ret (r := some (.int (-3))) rfl (h2 j hj rfl (by simp [*]))
    · refine dx_blk 3 (c' := (33, [.ref 0, .int (nI j)], [.int (nI j), .ref 6], m)) rfl ?_
      refine dx_aadN j (q := (10 + j)) rfl rfl (Or.inl rfl) rfl (by omega) (lx_rs6 j (by omega)) ?_
      refine dx_blk 0 (c' := (34, [.ref 0, .int (nI j)], [.ref (10 + j)], m)) rfl ?_
      refine dx_blk 1 (c' := (35, [.ref 0, .int (nI j)], [.int 0, .ref (10 + j)], m)) rfl ?_
      refine dx_putS (k := (10 + j)) rfl rfl rfl rfl (lx_ld j (by omega)) (Or.inr ⟨rfl, Or.inl rfl⟩) ?_
      refine dx_blk 0 (c' := (38, [.ref 0, .int (nI j)], [], dx_pI m (10 + j) 0 0)) rfl ?_
      refine dx_blk 1 (c' := (39, [.ref 0, .int (nI j)], [.int 1], dx_pI m (10 + j) 0 0)) rfl ?_
      exact dx_ret (r := some (.int 1)) rfl (h4 j hj rfl (by simp [*]))
set_option maxRecDepth 20000 in
theorem sX4_drop {d : Nat} (m : dx_M) {E : Nat} (hE : E ≤ 10) (eE : m.1 0 11 = nI E) (l : Int32) {Z : Option Value → dx_M → Prop} (h1 : inI l 0 (nI E - 1) = false → Z (some (.int (-1))) m) (h2 : ∀ j : Nat, j < E → l = nI j → (decide (m.1 11 j = 0)) = false → Z (some (.int (-3))) (fndM m 1)) (h4 : ∀ j : Nat, j < E → l = nI j → (decide (m.1 11 j = 0)) = true → Z (some (.int 1)) (dx_pI m 11 j 1)) : dx_Sem dx_P lx_M (d + 3) 107 [.ref 0, .int l] m Z := by
  refine dx_sem km_X4_drop rfl rfl ?_
  refine dx_blk 0 (c' := (0, [.ref 0, .int l, .null], [], m)) rfl ?_
  refine dx_blk 3 (c' := (3, [.ref 0, .int l, .null], [.int l, .int 1, .ref 0], m)) rfl ?_
  refine dx_call (id := 104) (as := [.ref 0, .int 1, .int l]) (rest := []) rfl ?_
  refine sX4_need _ hE eE true l (fun q1 => ?_) (fun j hj ej q1 q2 => ?_) (fun j hj ej q1 q2 => ?_)
  · refine dx_blk 0 (c' := (6, [.ref 0, .int l, .null], [.int (-1)], m)) rfl ?_
    refine dx_blk 2 (c' := (8, [.ref 0, .int l, .int (-1)], [.int (-1)], m)) rfl ?_
    refine dx_br (q := 0 ≤ ((-1) : Int32)) (a := 13) (b := 11) (L := [.ref 0, .int l, .int (-1)]) (st := []) (m := m) rfl (fun h => absurd h (by decide)) (fun _ => ?_)
    refine dx_blk 1 (c' := (12, [.ref 0, .int l, .int (-1)], [.int (-1)], m)) rfl ?_
    exact dx_ret (r := some (.int (-1))) rfl (h1 (by simpa using q1))
  · subst ej
    refine dx_blk 0 (c' := (6, [.ref 0, .int (nI j), .null], [.int (-3)], (fndM m 1))) rfl ?_
    refine dx_blk 2 (c' := (8, [.ref 0, .int (nI j), .int (-3)], [.int (-3)], (fndM m 1))) rfl ?_
    refine dx_br (q := 0 ≤ ((-3) : Int32)) (a := 13) (b := 11) (L := [.ref 0, .int (nI j), .int (-3)]) (st := []) (m := (fndM m 1)) rfl (fun h => absurd h (by decide)) (fun _ => ?_)
    refine dx_blk 1 (c' := (12, [.ref 0, .int (nI j), .int (-3)], [.int (-3)], (fndM m 1))) rfl ?_
    exact dx_ret (r := some (.int (-3))) rfl (h2 j hj rfl (by simp [*]))
  · subst ej
    refine dx_blk 0 (c' := (6, [.ref 0, .int (nI j), .null], [.int 0], m)) rfl ?_
    refine dx_blk 2 (c' := (8, [.ref 0, .int (nI j), .int 0], [.int 0], m)) rfl ?_
    refine dx_br (q := 0 ≤ (0 : Int32)) (a := 13) (b := 11) (L := [.ref 0, .int (nI j), .int 0]) (st := []) (m := m) rfl (fun _ => ?_) (fun h => absurd (by decide) h)
    refine dx_blk 4 (c' := (19, [.ref 0, .int (nI j), .int 0], [.int 1, .int (nI j), .ref 11], m)) rfl ?_
    refine dx_bstZ j rfl rfl rfl rfl (by omega) (Or.inr rfl) ?_
    refine dx_blk 0 (c' := (20, [.ref 0, .int (nI j), .int 0], [], dx_pI m 11 j 1)) rfl ?_
    refine dx_blk 1 (c' := (21, [.ref 0, .int (nI j), .int 0], [.int 1], dx_pI m 11 j 1)) rfl ?_
    exact dx_ret (r := some (.int 1)) rfl (h4 j hj rfl (by simp [*]))
set_option maxRecDepth 20000 in
theorem sX3_told {d : Nat} (m : dx_M) {E : Nat} (hE : E ≤ 10) (eE : m.1 0 7 = nI E) (l w : Int32) {Z : Option Value → dx_M → Prop} (h1 : (inI l 0 (nI E - 1) && inI w 0 4) = false → Z (some (.int (-1))) m) (h2 : ∀ j : Nat, j < E → l = nI j → (decide (¬ m.1 (10 + j) 0 = 0)) = false → inI w 0 4 = true → Z (some (.int (-3))) (fndX m 1)) (h4 : ∀ j : Nat, j < E → l = nI j → (decide (¬ m.1 (10 + j) 0 = 0)) = true → inI w 0 4 = true → Z (some (.int (factX m j w))) m) : dx_Sem dx_P lx_X (d + 3) 39 [.ref 0, .int l, .int w] m Z := by
  refine dx_sem km_X3_told rfl rfl ?_
  refine dx_blk 0 (c' := (0, [.ref 0, .int l, .int w], [], m)) rfl ?_
  refine dx_blk 2 (c' := (2, [.ref 0, .int l, .int w], [.int l, .ref 0], m)) rfl ?_
  refine dx_call (id := 68) (as := [.ref 0, .int l]) (rest := []) rfl ?_
  refine sX3_isLoad _ l ?_
  refine dx_blk 0 (c' := (5, [.ref 0, .int l, .int w], [.int (bI (inI l 0 (m.1 0 7 - 1)))], m)) rfl ?_
  refine dx_brB (B := (inI l 0 (m.1 0 7 - 1))) (a := 17) (b := 8) (L := [.ref 0, .int l, .int w]) (st := []) (m := m) rfl (fun h5 => ?_) (fun h5 => ?_)
  · refine dx_blk 1 (c' := (18, [.ref 0, .int l, .int w], [.int (-1)], m)) rfl ?_
    exact dx_ret (r := some (.int (-1))) rfl (h1 (by rw [eE] at h5; simp_all))
  · refine dx_blk 3 (c' := (11, [.ref 0, .int l, .int w], [.int 4, .int 0, .int w], m)) rfl ?_
    refine dx_call (id := 64) (as := [.int w, .int 0, .int 4]) (rest := []) rfl ?_
    refine sX3_within w 0 4 _ ?_
    refine dx_blk 0 (c' := (14, [.ref 0, .int l, .int w], [.int (bI (inI w 0 4))], m)) rfl ?_
    refine dx_brB (B := (inI w 0 4)) (a := 17) (b := 19) (L := [.ref 0, .int l, .int w]) (st := []) (m := m) rfl (fun h14 => ?_) (fun h14 => ?_)
    · refine dx_blk 1 (c' := (18, [.ref 0, .int l, .int w], [.int (-1)], m)) rfl ?_
      exact dx_ret (r := some (.int (-1))) rfl (h1 (by rw [eE] at h5; simp_all))
    · obtain ⟨j, hj, rfl⟩ := in_W (W := E) (x := l) (by omega) (by rw [← eE]; exact h5)
      refine dx_blk 3 (c' := (24, [.ref 0, .int (nI j), .int w], [.int (nI j), .ref 6], m)) rfl ?_
      refine dx_aadN j (q := (10 + j)) rfl rfl (Or.inl rfl) rfl (by omega) (lx_rs6 j (by omega)) ?_
      refine dx_blk 0 (c' := (25, [.ref 0, .int (nI j), .int w], [.ref (10 + j)], m)) rfl ?_
      refine dx_getS (k := (10 + j)) (v := .int (m.1 (10 + j) 0)) rfl rfl rfl rfl (lx_ld j (by omega)) rfl ?_
      refine dx_blk 0 (c' := (28, [.ref 0, .int (nI j), .int w], [.int (m.1 (10 + j) 0)], m)) rfl ?_
      refine dx_br (q := (m.1 (10 + j) 0) = 0) (a := 44) (b := 31) (L := [.ref 0, .int (nI j), .int w]) (st := []) (m := m) rfl (fun h28 => ?_) (fun h28 => ?_)
      · refine dx_blk 2 (c' := (46, [.ref 0, .int (nI j), .int w], [.int 1, .ref 0], m)) rfl ?_
        refine dx_call (id := 70) (as := [.ref 0, .int 1]) (rest := []) rfl ?_
        refine sX3_find 1 (by decide) _ ?_
        refine dx_blk 0 (c' := (49, [.ref 0, .int (nI j), .int w], [.int (-3)], (fndX m 1))) rfl ?_
        exact dx_ret (r := some (.int (-3))) rfl (h2 j hj rfl (by simp [*]) (by assumption))
      · refine dx_blk 3 (c' := (36, [.ref 0, .int (nI j), .int w], [.int (nI j), .ref 6], m)) rfl ?_
        refine dx_aadN j (q := (10 + j)) rfl rfl (Or.inl rfl) rfl (by omega) (lx_rs6 j (by omega)) ?_
        refine dx_blk 0 (c' := (37, [.ref 0, .int (nI j), .int w], [.ref (10 + j)], m)) rfl ?_
        refine dx_blk 1 (c' := (38, [.ref 0, .int (nI j), .int w], [.int w, .ref (10 + j)], m)) rfl ?_
        refine dx_call (id := 25) (as := [.ref (10 + j), .int w]) (rest := []) (dx_clV (as := [.int w]) rfl rfl rfl rfl (lx_ld j (by omega)) rfl rfl rfl (Nat.le_of_ble_eq_true rfl)) ?_
        refine sX2_fact _ (j := j) (by omega) w ?_
        refine dx_blk 0 (c' := (41, [.ref 0, .int (nI j), .int w], [.int (factX m j w)], m)) rfl ?_
        refine dx_blk 1 (c' := (49, [.ref 0, .int (nI j), .int w], [.int (factX m j w)], m)) rfl ?_
        exact dx_ret (r := some (.int (factX m j w))) rfl (h4 j hj rfl (by simp [*]) (by assumption))
set_option maxRecDepth 20000 in
theorem sX4_told {d : Nat} (m : dx_M) {E : Nat} (hE : E ≤ 10) (eE : m.1 0 11 = nI E) (l w : Int32) {Z : Option Value → dx_M → Prop} (h1 : (inI l 0 (nI E - 1) && inI w 0 4) = false → Z (some (.int (-1))) m) (h2 : ∀ j : Nat, j < E → l = nI j → (decide (m.1 11 j = 0)) = false → inI w 0 4 = true → Z (some (.int (-3))) (fndM m 1)) (h4 : ∀ j : Nat, j < E → l = nI j → (decide (m.1 11 j = 0)) = true → inI w 0 4 = true → Z (some (.int (factM m j w))) m) : dx_Sem dx_P lx_M (d + 3) 109 [.ref 0, .int l, .int w] m Z := by
  refine dx_sem km_X4_told rfl rfl ?_
  refine dx_blk 0 (c' := (0, [.ref 0, .int l, .int w, .null], [], m)) rfl ?_
  refine dx_blk 4 (c' := (4, [.ref 0, .int l, .int w, .null], [.int 4, .int 0, .int w, .ref 0], m)) rfl ?_
  refine dx_call (id := 82) (as := [.int w, .int 0, .int 4]) (rest := [.ref 0]) rfl ?_
  refine sX4_in w 0 4 _ ?_
  refine dx_blk 0 (c' := (7, [.ref 0, .int l, .int w, .null], [.int (bI (inI w 0 4)), .ref 0], m)) rfl ?_
  refine dx_blk 1 (c' := (8, [.ref 0, .int l, .int w, .null], [.int l, .int (bI (inI w 0 4)), .ref 0], m)) rfl ?_
  refine dx_call (id := 104) (as := [.ref 0, .int (bI (inI w 0 4)), .int l]) (rest := []) rfl ?_
  refine sX4_need _ hE eE (inI w 0 4) l (fun q1 => ?_) (fun j hj ej q1 q2 => ?_) (fun j hj ej q1 q2 => ?_)
  · refine dx_blk 0 (c' := (11, [.ref 0, .int l, .int w, .null], [.int (-1)], m)) rfl ?_
    refine dx_blk 2 (c' := (13, [.ref 0, .int l, .int w, .int (-1)], [.int (-1)], m)) rfl ?_
    refine dx_br (q := 0 ≤ ((-1) : Int32)) (a := 20) (b := 16) (L := [.ref 0, .int l, .int w, .int (-1)]) (st := []) (m := m) rfl (fun h => absurd h (by decide)) (fun _ => ?_)
    refine dx_blk 2 (c' := (26, [.ref 0, .int l, .int w, .int (-1)], [.int (-1)], m)) rfl ?_
    exact dx_ret (r := some (.int (-1))) rfl (h1 (by assumption))
  · subst ej
    refine dx_blk 0 (c' := (11, [.ref 0, .int (nI j), .int w, .null], [.int (-3)], (fndM m 1))) rfl ?_
    refine dx_blk 2 (c' := (13, [.ref 0, .int (nI j), .int w, .int (-3)], [.int (-3)], (fndM m 1))) rfl ?_
    refine dx_br (q := 0 ≤ ((-3) : Int32)) (a := 20) (b := 16) (L := [.ref 0, .int (nI j), .int w, .int (-3)]) (st := []) (m := (fndM m 1)) rfl (fun h => absurd h (by decide)) (fun _ => ?_)
    refine dx_blk 2 (c' := (26, [.ref 0, .int (nI j), .int w, .int (-3)], [.int (-3)], (fndM m 1))) rfl ?_
    exact dx_ret (r := some (.int (-3))) rfl (h2 j hj rfl (by simp [*]) (by assumption))
  · subst ej
    refine dx_blk 0 (c' := (11, [.ref 0, .int (nI j), .int w, .null], [.int 0], m)) rfl ?_
    refine dx_blk 2 (c' := (13, [.ref 0, .int (nI j), .int w, .int 0], [.int 0], m)) rfl ?_
    refine dx_br (q := 0 ≤ (0 : Int32)) (a := 20) (b := 16) (L := [.ref 0, .int (nI j), .int w, .int 0]) (st := []) (m := m) rfl (fun _ => ?_) (fun h => absurd (by decide) h)
    refine dx_blk 3 (c' := (23, [.ref 0, .int (nI j), .int w, .int 0], [.int w, .int (nI j), .ref 0], m)) rfl ?_
    refine dx_call (id := 108) (as := [.ref 0, .int (nI j), .int w]) (rest := []) rfl ?_
    refine sX4_toldOf _ (j := j) (by omega) w ?_
    refine dx_blk 0 (c' := (26, [.ref 0, .int (nI j), .int w, .int 0], [.int (factM m j w)], m)) rfl ?_
    exact dx_ret (r := some (.int (factM m j w))) rfl (h4 j hj rfl (by simp [*]) (by assumption))
set_option maxRecDepth 20000 in
theorem sX3_is {d : Nat} (m : dx_M) {E : Nat} (hE : E ≤ 10) (eE : m.1 0 7 = nI E) (l k : Int32) {Z : Option Value → dx_M → Prop} (h1 : (inI l 0 (nI E - 1) && inI k 0 2) = false → Z (some (.int (-1))) m) (h2 : ∀ j : Nat, j < E → l = nI j → (decide (¬ m.1 (10 + j) 0 = 0)) = false → inI k 0 2 = true → Z (some (.int (-3))) (fndX m 1)) (h4 : ∀ j : Nat, j < E → l = nI j → (decide (¬ m.1 (10 + j) 0 = 0)) = true → inI k 0 2 = true → Z (some (.int (bI (decide (k = 0) || decide (k = m.1 (10 + j) 1))))) m) : dx_Sem dx_P lx_X (d + 3) 40 [.ref 0, .int l, .int k] m Z := by
  refine dx_sem km_X3_is rfl rfl ?_
  refine dx_blk 0 (c' := (0, [.ref 0, .int l, .int k], [], m)) rfl ?_
  refine dx_blk 2 (c' := (2, [.ref 0, .int l, .int k], [.int l, .ref 0], m)) rfl ?_
  refine dx_call (id := 68) (as := [.ref 0, .int l]) (rest := []) rfl ?_
  refine sX3_isLoad _ l ?_
  refine dx_blk 0 (c' := (5, [.ref 0, .int l, .int k], [.int (bI (inI l 0 (m.1 0 7 - 1)))], m)) rfl ?_
  refine dx_brB (B := (inI l 0 (m.1 0 7 - 1))) (a := 17) (b := 8) (L := [.ref 0, .int l, .int k]) (st := []) (m := m) rfl (fun h5 => ?_) (fun h5 => ?_)
  · refine dx_blk 1 (c' := (18, [.ref 0, .int l, .int k], [.int (-1)], m)) rfl ?_
    exact dx_ret (r := some (.int (-1))) rfl (h1 (by rw [eE] at h5; simp_all))
  · refine dx_blk 3 (c' := (11, [.ref 0, .int l, .int k], [.int 2, .int 0, .int k], m)) rfl ?_
    refine dx_call (id := 64) (as := [.int k, .int 0, .int 2]) (rest := []) rfl ?_
    refine sX3_within k 0 2 _ ?_
    refine dx_blk 0 (c' := (14, [.ref 0, .int l, .int k], [.int (bI (inI k 0 2))], m)) rfl ?_
    refine dx_brB (B := (inI k 0 2)) (a := 17) (b := 19) (L := [.ref 0, .int l, .int k]) (st := []) (m := m) rfl (fun h14 => ?_) (fun h14 => ?_)
    · refine dx_blk 1 (c' := (18, [.ref 0, .int l, .int k], [.int (-1)], m)) rfl ?_
      exact dx_ret (r := some (.int (-1))) rfl (h1 (by rw [eE] at h5; simp_all))
    · obtain ⟨j, hj, rfl⟩ := in_W (W := E) (x := l) (by omega) (by rw [← eE]; exact h5)
      refine dx_blk 3 (c' := (24, [.ref 0, .int (nI j), .int k], [.int (nI j), .ref 6], m)) rfl ?_
      refine dx_aadN j (q := (10 + j)) rfl rfl (Or.inl rfl) rfl (by omega) (lx_rs6 j (by omega)) ?_
      refine dx_blk 0 (c' := (25, [.ref 0, .int (nI j), .int k], [.ref (10 + j)], m)) rfl ?_
      refine dx_getS (k := (10 + j)) (v := .int (m.1 (10 + j) 0)) rfl rfl rfl rfl (lx_ld j (by omega)) rfl ?_
      refine dx_blk 0 (c' := (28, [.ref 0, .int (nI j), .int k], [.int (m.1 (10 + j) 0)], m)) rfl ?_
      refine dx_br (q := (m.1 (10 + j) 0) = 0) (a := 31) (b := 37) (L := [.ref 0, .int (nI j), .int k]) (st := []) (m := m) rfl (fun h28 => ?_) (fun h28 => ?_)
      · refine dx_blk 2 (c' := (33, [.ref 0, .int (nI j), .int k], [.int 1, .ref 0], m)) rfl ?_
        refine dx_call (id := 70) (as := [.ref 0, .int 1]) (rest := []) rfl ?_
        refine sX3_find 1 (by decide) _ ?_
        refine dx_blk 0 (c' := (36, [.ref 0, .int (nI j), .int k], [.int (-3)], (fndX m 1))) rfl ?_
        exact dx_ret (r := some (.int (-3))) rfl (h2 j hj rfl (by simp [*]) (by assumption))
      · refine dx_blk 1 (c' := (38, [.ref 0, .int (nI j), .int k], [.int k], m)) rfl ?_
        refine dx_br (q := k = 0) (a := 54) (b := 41) (L := [.ref 0, .int (nI j), .int k]) (st := []) (m := m) rfl (fun h38 => ?_) (fun h38 => ?_)
        · refine dx_blk 2 (c' := (59, [.ref 0, .int (nI j), .int k], [.int 1], m)) rfl ?_
          exact dx_ret (r := some (.int 1)) rfl (by have q := h4 j hj rfl (by simp [*]) (by assumption); simpa [bI, *] using q)
        · refine dx_blk 4 (c' := (47, [.ref 0, .int (nI j), .int k], [.int (nI j), .ref 6, .int k], m)) rfl ?_
          refine dx_aadN j (q := (10 + j)) rfl rfl (Or.inl rfl) rfl (by omega) (lx_rs6 j (by omega)) ?_
          refine dx_blk 0 (c' := (48, [.ref 0, .int (nI j), .int k], [.ref (10 + j), .int k], m)) rfl ?_
          refine dx_getS (k := (10 + j)) (v := .int (m.1 (10 + j) 1)) rfl rfl rfl rfl (lx_ld j (by omega)) rfl ?_
          refine dx_blk 0 (c' := (51, [.ref 0, .int (nI j), .int k], [.int (m.1 (10 + j) 1), .int k], m)) rfl ?_
          refine dx_br (q := k = (m.1 (10 + j) 1)) (a := 54) (b := 58) (L := [.ref 0, .int (nI j), .int k]) (st := []) (m := m) rfl (fun h51 => ?_) (fun h51 => ?_)
          · refine dx_blk 2 (c' := (59, [.ref 0, .int (nI j), .int k], [.int 1], m)) rfl ?_
            exact dx_ret (r := some (.int 1)) rfl (by have q := h4 j hj rfl (by simp [*]) (by assumption); simpa [bI, *] using q)
          · refine dx_blk 1 (c' := (59, [.ref 0, .int (nI j), .int k], [.int 0], m)) rfl ?_
            exact dx_ret (r := some (.int 0)) rfl (by have q := h4 j hj rfl (by simp [*]) (by assumption); simpa [bI, *] using q)
set_option maxRecDepth 20000 in
theorem sX4_is {d : Nat} (m : dx_M) {E : Nat} (hE : E ≤ 10) (eE : m.1 0 11 = nI E) (l k : Int32) {Z : Option Value → dx_M → Prop} (h1 : (inI l 0 (nI E - 1) && inI k 0 2) = false → Z (some (.int (-1))) m) (h2 : ∀ j : Nat, j < E → l = nI j → (decide (m.1 11 j = 0)) = false → inI k 0 2 = true → Z (some (.int (-3))) (fndM m 1)) (h4 : ∀ j : Nat, j < E → l = nI j → (decide (m.1 11 j = 0)) = true → inI k 0 2 = true → Z (some (.int (bI (decide (k = 0) || decide (k = m.1 6 j))))) m) : dx_Sem dx_P lx_M (d + 3) 110 [.ref 0, .int l, .int k] m Z := by
  refine dx_sem km_X4_is rfl rfl ?_
  refine dx_blk 0 (c' := (0, [.ref 0, .int l, .int k, .null], [], m)) rfl ?_
  refine dx_blk 4 (c' := (4, [.ref 0, .int l, .int k, .null], [.int 2, .int 0, .int k, .ref 0], m)) rfl ?_
  refine dx_call (id := 82) (as := [.int k, .int 0, .int 2]) (rest := [.ref 0]) rfl ?_
  refine sX4_in k 0 2 _ ?_
  refine dx_blk 0 (c' := (7, [.ref 0, .int l, .int k, .null], [.int (bI (inI k 0 2)), .ref 0], m)) rfl ?_
  refine dx_blk 1 (c' := (8, [.ref 0, .int l, .int k, .null], [.int l, .int (bI (inI k 0 2)), .ref 0], m)) rfl ?_
  refine dx_call (id := 104) (as := [.ref 0, .int (bI (inI k 0 2)), .int l]) (rest := []) rfl ?_
  refine sX4_need _ hE eE (inI k 0 2) l (fun q1 => ?_) (fun j hj ej q1 q2 => ?_) (fun j hj ej q1 q2 => ?_)
  · refine dx_blk 0 (c' := (11, [.ref 0, .int l, .int k, .null], [.int (-1)], m)) rfl ?_
    refine dx_blk 2 (c' := (13, [.ref 0, .int l, .int k, .int (-1)], [.int (-1)], m)) rfl ?_
    refine dx_br (q := 0 ≤ ((-1) : Int32)) (a := 20) (b := 16) (L := [.ref 0, .int l, .int k, .int (-1)]) (st := []) (m := m) rfl (fun h => absurd h (by decide)) (fun _ => ?_)
    refine dx_blk 2 (c' := (39, [.ref 0, .int l, .int k, .int (-1)], [.int (-1)], m)) rfl ?_
    exact dx_ret (r := some (.int (-1))) rfl (h1 (by assumption))
  · subst ej
    refine dx_blk 0 (c' := (11, [.ref 0, .int (nI j), .int k, .null], [.int (-3)], (fndM m 1))) rfl ?_
    refine dx_blk 2 (c' := (13, [.ref 0, .int (nI j), .int k, .int (-3)], [.int (-3)], (fndM m 1))) rfl ?_
    refine dx_br (q := 0 ≤ ((-3) : Int32)) (a := 20) (b := 16) (L := [.ref 0, .int (nI j), .int k, .int (-3)]) (st := []) (m := (fndM m 1)) rfl (fun h => absurd h (by decide)) (fun _ => ?_)
    refine dx_blk 2 (c' := (39, [.ref 0, .int (nI j), .int k, .int (-3)], [.int (-3)], (fndM m 1))) rfl ?_
    exact dx_ret (r := some (.int (-3))) rfl (h2 j hj rfl (by simp [*]) (by assumption))
  · subst ej
    refine dx_blk 0 (c' := (11, [.ref 0, .int (nI j), .int k, .null], [.int 0], m)) rfl ?_
    refine dx_blk 2 (c' := (13, [.ref 0, .int (nI j), .int k, .int 0], [.int 0], m)) rfl ?_
    refine dx_br (q := 0 ≤ (0 : Int32)) (a := 20) (b := 16) (L := [.ref 0, .int (nI j), .int k, .int 0]) (st := []) (m := m) rfl (fun _ => ?_) (fun h => absurd (by decide) h)
    refine dx_blk 1 (c' := (21, [.ref 0, .int (nI j), .int k, .int 0], [.int k], m)) rfl ?_
    refine dx_br (q := k = 0) (a := 34) (b := 24) (L := [.ref 0, .int (nI j), .int k, .int 0]) (st := []) (m := m) rfl (fun h21 => ?_) (fun h21 => ?_)
    · refine dx_blk 2 (c' := (39, [.ref 0, .int (nI j), .int k, .int 0], [.int 1], m)) rfl ?_
      exact dx_ret (r := some (.int 1)) rfl (by have q := h4 j hj rfl (by simp [*]) (by assumption); simp only [eq_comm (a := k) (b := m.1 6 j)] at q; simpa [bI, *] using q)
    · refine dx_blk 3 (c' := (29, [.ref 0, .int (nI j), .int k, .int 0], [.int (nI j), .ref 6], m)) rfl ?_
      refine dx_aldN j rfl rfl rfl rfl (by omega) ?_
      refine dx_blk 0 (c' := (30, [.ref 0, .int (nI j), .int k, .int 0], [.int (m.1 6 j)], m)) rfl ?_
      refine dx_blk 1 (c' := (31, [.ref 0, .int (nI j), .int k, .int 0], [.int k, .int (m.1 6 j)], m)) rfl ?_
      refine dx_br (q := (m.1 6 j) = k) (a := 34) (b := 38) (L := [.ref 0, .int (nI j), .int k, .int 0]) (st := []) (m := m) rfl (fun h31 => ?_) (fun h31 => ?_)
      · refine dx_blk 2 (c' := (39, [.ref 0, .int (nI j), .int k, .int 0], [.int 1], m)) rfl ?_
        exact dx_ret (r := some (.int 1)) rfl (by have q := h4 j hj rfl (by simp [*]) (by assumption); simp only [eq_comm (a := k) (b := m.1 6 j)] at q; simpa [bI, *] using q)
      · refine dx_blk 1 (c' := (39, [.ref 0, .int (nI j), .int k, .int 0], [.int 0], m)) rfl ?_
        exact dx_ret (r := some (.int 0)) rfl (by have q := h4 j hj rfl (by simp [*]) (by assumption); simp only [eq_comm (a := k) (b := m.1 6 j)] at q; simpa [bI, *] using q)
end
section
/-! sums, counts, digest: both programs (printed by wip/whole/g16.py) -/
def thX (m : dx_M) (j : Nat) : Bool := decide (¬ m.1 (10 + j) 0 = 0)
def thM (m : dx_M) (j : Nat) : Bool := decide (m.1 11 j = 0)
theorem thX_t {m : dx_M} {j : Nat} (h : ¬ m.1 (10 + j) 0 = 0) : thX m j = true := decide_eq_true h
theorem thX_f {m : dx_M} {j : Nat} (h : m.1 (10 + j) 0 = 0) : thX m j = false := decide_eq_false (fun q => q h)
theorem thM_t {m : dx_M} {j : Nat} (h : m.1 11 j = 0) : thM m j = true := decide_eq_true h
theorem thM_f {m : dx_M} {j : Nat} (h : ¬ m.1 11 j = 0) : thM m j = false := decide_eq_false h
def st_ld (th : Nat → Bool) (wt : Nat → Int32) (i : Nat) (s : Int32) : Int32 := s + (if th i = true then wt i else 0)
theorem st_ld_t {th : Nat → Bool} {wt : Nat → Int32} {i : Nat} {s : Int32} (h : th i = true) : st_ld th wt i s = s + wt i := by unfold st_ld; rw [if_pos h]
theorem st_ld_f {th : Nat → Bool} {wt : Nat → Int32} {i : Nat} {s : Int32} (h : th i = false) : st_ld th wt i s = s + 0 := by unfold st_ld; rw [if_neg (by rw [h]; decide)]
def n_all (sq : Nat → Int32) (th : Nat → Bool) (wt : Nat → Int32) (E : Nat) : Int32 := nf (st_ld th wt) E (n_sum sq)
def n_ther (th : Nat → Bool) (E : Nat) : Int32 := nf (st_ld th (fun _ => 1)) E 0
abbrev allX (m : dx_M) (E : Nat) : Int32 := n_all (m.1 2) (thX m) (fun i => m.1 (10 + i) 4) E
abbrev allM (m : dx_M) (E : Nat) : Int32 := n_all (m.1 2) (thM m) (m.1 9) E
def szN (v : Int32) : Nat := if v = -1 then 0 else v.toNatClampNeg
theorem szN_m : szN (-1) = 0 := rfl
theorem szN_z {z : Nat} (h : z ≤ 12) : szN (nI z) = z := by
  unfold szN
  rw [if_neg (szF h rfl), nI_clamp (by omega)]
def dg_P (f : Nat → Nat → Int32) (W H : Nat) (v : Int64) : Int64 := nf (fun y v => nf (fun x v => 31 * v + (f y x).toInt64) W v) H v
def dg_L (th : Nat → Bool) (fa : Nat → Int32 → Int32) (E : Nat) (v : Int64) : Int64 := nf (fun i v => if th i = true then nf (fun w v => 31 * v + (fa i (nI w)).toInt64) 5 v else 31 * v + -1) E v
def dg_S (sz : Nat → Int32) (f : Nat → Nat → Int32) (v : Int64) : Int64 := nf (fun s v => nf (fun i v => 31 * v + (f s i).toInt64) (szN (sz s)) (31 * v + (sz s).toInt64)) 6 v
set_option maxRecDepth 20000 in
theorem sX3_wholeWeight {d : Nat} (m : dx_M) {E : Nat} (hE : E ≤ 10) (eE : m.1 0 7 = nI E) {Z : Option Value → dx_M → Prop} (h : Z (some (.int (allX m E))) m) : dx_Sem dx_P lx_X (d + 2) 74 [.ref 0] m Z := by
  refine dx_sem km_X3_wholeWeight rfl rfl ?_
  refine dx_blk 0 (c' := (0, [.ref 0, .null, .null], [], m)) rfl ?_
  refine dx_blk 2 (c' := (4, [.ref 0, .null, .null], [.ref 1], m)) rfl ?_
  refine dx_call (id := 7) (as := [.ref 1]) (rest := []) rfl ?_
  refine sX0_weight _ ?_
  refine dx_blk 0 (c' := (7, [.ref 0, .null, .null], [.int (n_sum (m.1 2))], m)) rfl ?_
  refine dx_blk 3 (c' := (10, [.ref 0, .int (n_sum (m.1 2)), .int 0], [], m)) rfl ?_
  refine dx_blk 0 (c' := (10, [.ref 0, .int (n_sum (m.1 2)), .int (nI 0)], [], m)) rfl ?_
  refine dx_for (fun (i : Nat) (s : Int32) => ((10, [.ref 0, .int s, .int (nI i)], [], m) : dx_F)) (st_ld (thX m) (fun i => m.1 (10 + i) 4)) (fun _ _ => True) E (n_sum (m.1 2)) trivial (fun i s hi hI hk => ?_) (fun _ _ _ _ => trivial) (fun hN => ?_)
  · refine dx_blk 0 (c' := (10, [.ref 0, .int s, .int (nI i)], [], m)) rfl ?_
    refine dx_blk 3 (c' := (15, [.ref 0, .int s, .int (nI i)], [.int (m.1 0 7), .int (nI i)], m)) rfl ?_
    refine dx_br (q := (m.1 0 7) ≤ (nI i)) (a := 52) (b := 18) (L := [.ref 0, .int s, .int (nI i)]) (st := []) (m := m) rfl (fun h => absurd h (by rw [show m.1 0 7 = nI E from eE]; exact nI_ge hi (by omega))) (fun _ => ?_)
    refine dx_blk 4 (c' := (24, [.ref 0, .int s, .int (nI i)], [.int (nI i), .ref 6, .int s], m)) rfl ?_
    refine dx_aadN i (q := (10 + i)) rfl rfl (Or.inl rfl) rfl (by omega) (lx_rs6 i (by omega)) ?_
    refine dx_blk 0 (c' := (25, [.ref 0, .int s, .int (nI i)], [.ref (10 + i), .int s], m)) rfl ?_
    refine dx_getS (k := (10 + i)) (v := .int (m.1 (10 + i) 0)) rfl rfl rfl rfl (lx_ld i (by omega)) rfl ?_
    refine dx_blk 0 (c' := (28, [.ref 0, .int s, .int (nI i)], [.int (m.1 (10 + i) 0), .int s], m)) rfl ?_
    refine dx_br (q := (m.1 (10 + i) 0) = 0) (a := 43) (b := 31) (L := [.ref 0, .int s, .int (nI i)]) (st := [.int s]) (m := m) rfl (fun h28 => ?_) (fun h28 => ?_)
    · refine dx_blk 5 (c' := (10, [.ref 0, .int (s + 0), .int ((nI i) + 1)], [], m)) rfl ?_
      first | (rw [st_ld_f (thX_f (by assumption)), nI_succ] at hk; exact hk) | (rw [st_ld_t (thX_t (by assumption)), nI_succ] at hk; exact hk)
    · refine dx_blk 3 (c' := (36, [.ref 0, .int s, .int (nI i)], [.int (nI i), .ref 6, .int s], m)) rfl ?_
      refine dx_aadN i (q := (10 + i)) rfl rfl (Or.inl rfl) rfl (by omega) (lx_rs6 i (by omega)) ?_
      refine dx_blk 0 (c' := (37, [.ref 0, .int s, .int (nI i)], [.ref (10 + i), .int s], m)) rfl ?_
      refine dx_getS (k := (10 + i)) (v := .int (m.1 (10 + i) 4)) rfl rfl rfl rfl (lx_ld i (by omega)) rfl ?_
      refine dx_blk 0 (c' := (40, [.ref 0, .int s, .int (nI i)], [.int (m.1 (10 + i) 4), .int s], m)) rfl ?_
      refine dx_blk 5 (c' := (10, [.ref 0, .int (s + (m.1 (10 + i) 4)), .int ((nI i) + 1)], [], m)) rfl ?_
      first | (rw [st_ld_f (thX_f (by assumption)), nI_succ] at hk; exact hk) | (rw [st_ld_t (thX_t (by assumption)), nI_succ] at hk; exact hk)
  · refine dx_blk 0 (c' := (10, [.ref 0, .int (nf (st_ld (thX m) (fun i => m.1 (10 + i) 4)) E (n_sum (m.1 2))), .int (nI E)], [], m)) rfl ?_
    refine dx_blk 3 (c' := (15, [.ref 0, .int (nf (st_ld (thX m) (fun i => m.1 (10 + i) 4)) E (n_sum (m.1 2))), .int (nI E)], [.int (m.1 0 7), .int (nI E)], m)) rfl ?_
    refine dx_br (q := (m.1 0 7) ≤ (nI E)) (a := 52) (b := 18) (L := [.ref 0, .int (nf (st_ld (thX m) (fun i => m.1 (10 + i) 4)) E (n_sum (m.1 2))), .int (nI E)]) (st := []) (m := m) rfl (fun _ => ?_) (fun h => absurd (by rw [show m.1 0 7 = nI E from eE]; exact nI_le (Nat.le_refl _) (by omega)) h)
    refine dx_blk 1 (c' := (53, [.ref 0, .int (nf (st_ld (thX m) (fun i => m.1 (10 + i) 4)) E (n_sum (m.1 2))), .int (nI E)], [.int (nf (st_ld (thX m) (fun i => m.1 (10 + i) 4)) E (n_sum (m.1 2)))], m)) rfl ?_
    exact dx_ret (r := some (.int (nf (st_ld (thX m) (fun i => m.1 (10 + i) 4)) E (n_sum (m.1 2))))) rfl h
set_option maxRecDepth 20000 in
theorem sX4_all {d : Nat} (m : dx_M) {E : Nat} (hE : E ≤ 10) (eE : m.1 0 11 = nI E) {Z : Option Value → dx_M → Prop} (h : Z (some (.int (allM m E))) m) : dx_Sem dx_P lx_M (d + 2) 113 [.ref 0] m Z := by
  refine dx_sem km_X4_all rfl rfl ?_
  refine dx_blk 0 (c' := (0, [.ref 0, .null, .null], [], m)) rfl ?_
  refine dx_blk 1 (c' := (1, [.ref 0, .null, .null], [.ref 0], m)) rfl ?_
  refine dx_call (id := 112) (as := [.ref 0]) (rest := []) rfl ?_
  refine sX4_squareWeights _ ?_
  refine dx_blk 0 (c' := (4, [.ref 0, .null, .null], [.int (n_sum (m.1 2))], m)) rfl ?_
  refine dx_blk 3 (c' := (7, [.ref 0, .int (n_sum (m.1 2)), .int 0], [], m)) rfl ?_
  refine dx_blk 0 (c' := (7, [.ref 0, .int (n_sum (m.1 2)), .int (nI 0)], [], m)) rfl ?_
  refine dx_for (fun (i : Nat) (s : Int32) => ((7, [.ref 0, .int s, .int (nI i)], [], m) : dx_F)) (st_ld (thM m) (m.1 9)) (fun _ _ => True) E (n_sum (m.1 2)) trivial (fun i s hi hI hk => ?_) (fun _ _ _ _ => trivial) (fun hN => ?_)
  · refine dx_blk 0 (c' := (7, [.ref 0, .int s, .int (nI i)], [], m)) rfl ?_
    refine dx_blk 3 (c' := (12, [.ref 0, .int s, .int (nI i)], [.int (m.1 0 11), .int (nI i)], m)) rfl ?_
    refine dx_br (q := (m.1 0 11) ≤ (nI i)) (a := 43) (b := 15) (L := [.ref 0, .int s, .int (nI i)]) (st := []) (m := m) rfl (fun h => absurd h (by rw [show m.1 0 11 = nI E from eE]; exact nI_ge hi (by omega))) (fun _ => ?_)
    refine dx_blk 4 (c' := (21, [.ref 0, .int s, .int (nI i)], [.int (nI i), .ref 11, .int s], m)) rfl ?_
    refine dx_bldN i rfl rfl (Or.inr rfl) rfl (by omega) ?_
    refine dx_blk 0 (c' := (22, [.ref 0, .int s, .int (nI i)], [.int (m.1 11 i), .int s], m)) rfl ?_
    refine dx_br (q := (m.1 11 i) = 0) (a := 29) (b := 25) (L := [.ref 0, .int s, .int (nI i)]) (st := [.int s]) (m := m) rfl (fun h22 => ?_) (fun h22 => ?_)
    · refine dx_blk 3 (c' := (34, [.ref 0, .int s, .int (nI i)], [.int (nI i), .ref 9, .int s], m)) rfl ?_
      refine dx_aldN i rfl rfl rfl rfl (by omega) ?_
      refine dx_blk 0 (c' := (35, [.ref 0, .int s, .int (nI i)], [.int (m.1 9 i), .int s], m)) rfl ?_
      refine dx_blk 4 (c' := (7, [.ref 0, .int (s + (m.1 9 i)), .int ((nI i) + 1)], [], m)) rfl ?_
      first | (rw [st_ld_f (thM_f (by assumption)), nI_succ] at hk; exact hk) | (rw [st_ld_t (thM_t (by assumption)), nI_succ] at hk; exact hk)
    · refine dx_blk 6 (c' := (7, [.ref 0, .int (s + 0), .int ((nI i) + 1)], [], m)) rfl ?_
      first | (rw [st_ld_f (thM_f (by assumption)), nI_succ] at hk; exact hk) | (rw [st_ld_t (thM_t (by assumption)), nI_succ] at hk; exact hk)
  · refine dx_blk 0 (c' := (7, [.ref 0, .int (nf (st_ld (thM m) (m.1 9)) E (n_sum (m.1 2))), .int (nI E)], [], m)) rfl ?_
    refine dx_blk 3 (c' := (12, [.ref 0, .int (nf (st_ld (thM m) (m.1 9)) E (n_sum (m.1 2))), .int (nI E)], [.int (m.1 0 11), .int (nI E)], m)) rfl ?_
    refine dx_br (q := (m.1 0 11) ≤ (nI E)) (a := 43) (b := 15) (L := [.ref 0, .int (nf (st_ld (thM m) (m.1 9)) E (n_sum (m.1 2))), .int (nI E)]) (st := []) (m := m) rfl (fun _ => ?_) (fun h => absurd (by rw [show m.1 0 11 = nI E from eE]; exact nI_le (Nat.le_refl _) (by omega)) h)
    refine dx_blk 1 (c' := (44, [.ref 0, .int (nf (st_ld (thM m) (m.1 9)) E (n_sum (m.1 2))), .int (nI E)], [.int (nf (st_ld (thM m) (m.1 9)) E (n_sum (m.1 2)))], m)) rfl ?_
    exact dx_ret (r := some (.int (nf (st_ld (thM m) (m.1 9)) E (n_sum (m.1 2))))) rfl h
set_option maxRecDepth 20000 in
theorem sX3_all {d : Nat} (m : dx_M) {E : Nat} (hE : E ≤ 10) (eE : m.1 0 7 = nI E) {Z : Option Value → dx_M → Prop} (h : Z (some (.int (allX m E))) m) : dx_Sem dx_P lx_X (d + 3) 41 [.ref 0] m Z := by
  refine dx_sem km_X3_all rfl rfl ?_
  refine dx_blk 0 (c' := (0, [.ref 0], [], m)) rfl ?_
  refine dx_blk 1 (c' := (1, [.ref 0], [.ref 0], m)) rfl ?_
  refine dx_call (id := 74) (as := [.ref 0]) (rest := []) rfl ?_
  refine sX3_wholeWeight _ hE eE ?_
  refine dx_blk 0 (c' := (4, [.ref 0], [.int (allX m E)], m)) rfl ?_
  exact dx_ret (r := some (.int (allX m E))) rfl h
set_option maxRecDepth 20000 in
theorem sX3_loadsThere {d : Nat} (m : dx_M) {E : Nat} (hE : E ≤ 10) (eE : m.1 0 7 = nI E) {Z : Option Value → dx_M → Prop} (h : Z (some (.int (n_ther (thX m) E))) m) : dx_Sem dx_P lx_X (d + 1) 73 [.ref 0] m Z := by
  refine dx_sem km_X3_loadsThere rfl rfl ?_
  refine dx_blk 0 (c' := (0, [.ref 0, .null, .null], [], m)) rfl ?_
  refine dx_blk 4 (c' := (4, [.ref 0, .int 0, .int 0], [], m)) rfl ?_
  refine dx_blk 0 (c' := (4, [.ref 0, .int 0, .int (nI 0)], [], m)) rfl ?_
  refine dx_for (fun (i : Nat) (s : Int32) => ((4, [.ref 0, .int s, .int (nI i)], [], m) : dx_F)) (st_ld (thX m) (fun _ => 1)) (fun _ _ => True) E 0 trivial (fun i s hi hI hk => ?_) (fun _ _ _ _ => trivial) (fun hN => ?_)
  · refine dx_blk 0 (c' := (4, [.ref 0, .int s, .int (nI i)], [], m)) rfl ?_
    refine dx_blk 3 (c' := (9, [.ref 0, .int s, .int (nI i)], [.int (m.1 0 7), .int (nI i)], m)) rfl ?_
    refine dx_br (q := (m.1 0 7) ≤ (nI i)) (a := 38) (b := 12) (L := [.ref 0, .int s, .int (nI i)]) (st := []) (m := m) rfl (fun h => absurd h (by rw [show m.1 0 7 = nI E from eE]; exact nI_ge hi (by omega))) (fun _ => ?_)
    refine dx_blk 4 (c' := (18, [.ref 0, .int s, .int (nI i)], [.int (nI i), .ref 6, .int s], m)) rfl ?_
    refine dx_aadN i (q := (10 + i)) rfl rfl (Or.inl rfl) rfl (by omega) (lx_rs6 i (by omega)) ?_
    refine dx_blk 0 (c' := (19, [.ref 0, .int s, .int (nI i)], [.ref (10 + i), .int s], m)) rfl ?_
    refine dx_getS (k := (10 + i)) (v := .int (m.1 (10 + i) 0)) rfl rfl rfl rfl (lx_ld i (by omega)) rfl ?_
    refine dx_blk 0 (c' := (22, [.ref 0, .int s, .int (nI i)], [.int (m.1 (10 + i) 0), .int s], m)) rfl ?_
    refine dx_br (q := (m.1 (10 + i) 0) = 0) (a := 29) (b := 25) (L := [.ref 0, .int s, .int (nI i)]) (st := [.int s]) (m := m) rfl (fun h22 => ?_) (fun h22 => ?_)
    · refine dx_blk 5 (c' := (4, [.ref 0, .int (s + 0), .int ((nI i) + 1)], [], m)) rfl ?_
      first | (rw [st_ld_f (thX_f (by assumption)), nI_succ] at hk; exact hk) | (rw [st_ld_t (thX_t (by assumption)), nI_succ] at hk; exact hk)
    · refine dx_blk 6 (c' := (4, [.ref 0, .int (s + 1), .int ((nI i) + 1)], [], m)) rfl ?_
      first | (rw [st_ld_f (thX_f (by assumption)), nI_succ] at hk; exact hk) | (rw [st_ld_t (thX_t (by assumption)), nI_succ] at hk; exact hk)
  · refine dx_blk 0 (c' := (4, [.ref 0, .int (nf (st_ld (thX m) (fun _ => 1)) E 0), .int (nI E)], [], m)) rfl ?_
    refine dx_blk 3 (c' := (9, [.ref 0, .int (nf (st_ld (thX m) (fun _ => 1)) E 0), .int (nI E)], [.int (m.1 0 7), .int (nI E)], m)) rfl ?_
    refine dx_br (q := (m.1 0 7) ≤ (nI E)) (a := 38) (b := 12) (L := [.ref 0, .int (nf (st_ld (thX m) (fun _ => 1)) E 0), .int (nI E)]) (st := []) (m := m) rfl (fun _ => ?_) (fun h => absurd (by rw [show m.1 0 7 = nI E from eE]; exact nI_le (Nat.le_refl _) (by omega)) h)
    refine dx_blk 1 (c' := (39, [.ref 0, .int (nf (st_ld (thX m) (fun _ => 1)) E 0), .int (nI E)], [.int (nf (st_ld (thX m) (fun _ => 1)) E 0)], m)) rfl ?_
    exact dx_ret (r := some (.int (nf (st_ld (thX m) (fun _ => 1)) E 0))) rfl h
set_option maxRecDepth 20000 in
theorem sX3_count {d : Nat} (m : dx_M) {E : Nat} (hE : E ≤ 10) (eE : m.1 0 7 = nI E) (w : Int32) {Z : Option Value → dx_M → Prop} (h : Z (some (.int (if w = 0 then m.1 1 1 else if w = 1 then m.1 1 2 else if w = 2 then n_cnt (m.1 2) else if w = 3 then m.1 0 7 else if w = 4 then n_ther (thX m) E else -1))) m) : dx_Sem dx_P lx_X (d + 2) 57 [.ref 0, .int w] m Z := by
  refine dx_sem km_X3_count rfl rfl ?_
  refine dx_blk 0 (c' := (0, [.ref 0, .int w], [], m)) rfl ?_
  refine dx_blk 1 (c' := (1, [.ref 0, .int w], [.int w], m)) rfl ?_
  refine dx_br (q := w = 0) (a := 36) (b := (if w = 1 then 44 else (if w = 2 then 52 else (if w = 3 then 60 else (if w = 4 then 65 else 70))))) (L := [.ref 0, .int w]) (st := []) (m := m) rfl (fun h100 => ?_) (fun h100 => ?_)
  · refine dx_blk 3 (c' := (43, [.ref 0, .int w], [.int (m.1 1 1)], m)) rfl ?_
    exact dx_ret (r := some (.int (m.1 1 1))) rfl (by simpa [*] using h)
  · refine dx_sp (q := w = 1) (fun h101 => ?_) (fun h101 => ?_)
    · refine dx_blk 3 (c' := (51, [.ref 0, .int w], [.int (m.1 1 2)], m)) rfl ?_
      exact dx_ret (r := some (.int (m.1 1 2))) rfl (by simpa [*] using h)
    · refine dx_sp (q := w = 2) (fun h102 => ?_) (fun h102 => ?_)
      · refine dx_blk 2 (c' := (56, [.ref 0, .int w], [.ref 1], m)) rfl ?_
        refine dx_call (id := 6) (as := [.ref 1]) (rest := []) rfl ?_
        refine sX0_squares _ ?_
        refine dx_blk 0 (c' := (59, [.ref 0, .int w], [.int (n_cnt (m.1 2))], m)) rfl ?_
        exact dx_ret (r := some (.int (n_cnt (m.1 2)))) rfl (by simpa [*] using h)
      · refine dx_sp (q := w = 3) (fun h103 => ?_) (fun h103 => ?_)
        · refine dx_blk 2 (c' := (64, [.ref 0, .int w], [.int (m.1 0 7)], m)) rfl ?_
          exact dx_ret (r := some (.int (m.1 0 7))) rfl (by simpa [*] using h)
        · refine dx_sp (q := w = 4) (fun h104 => ?_) (fun h104 => ?_)
          · refine dx_blk 1 (c' := (66, [.ref 0, .int w], [.ref 0], m)) rfl ?_
            refine dx_call (id := 73) (as := [.ref 0]) (rest := []) rfl ?_
            refine sX3_loadsThere _ hE eE ?_
            refine dx_blk 0 (c' := (69, [.ref 0, .int w], [.int (n_ther (thX m) E)], m)) rfl ?_
            exact dx_ret (r := some (.int (n_ther (thX m) E))) rfl (by simpa [*] using h)
          · refine dx_blk 1 (c' := (71, [.ref 0, .int w], [.int (-1)], m)) rfl ?_
            exact dx_ret (r := some (.int (-1))) rfl (by simpa [*] using h)
set_option maxRecDepth 20000 in
theorem sX4_count {d : Nat} (m : dx_M) {E : Nat} (hE : E ≤ 10) (eE : m.1 0 11 = nI E) (w : Int32) {Z : Option Value → dx_M → Prop} (h : Z (some (.int (if w = 0 then m.1 0 4 else if w = 1 then m.1 0 5 else if w = 2 then n_cnt (m.1 2) else if w = 3 then m.1 0 11 else if w = 4 then n_ther (thM m) E else -1))) m) : dx_Sem dx_P lx_M (d + 2) 141 [.ref 0, .int w] m Z := by
  refine dx_sem km_X4_count rfl rfl ?_
  refine dx_blk 0 (c' := (0, [.ref 0, .int w, .null, .null], [], m)) rfl ?_
  refine dx_blk 4 (c' := (4, [.ref 0, .int w, .int 0, .int 0], [], m)) rfl ?_
  refine dx_blk 0 (c' := (4, [.ref 0, .int w, .int 0, .int (nI 0)], [], m)) rfl ?_
  refine dx_for (fun (i : Nat) (s : Int32) => ((4, [.ref 0, .int w, .int s, .int (nI i)], [], m) : dx_F)) (st_ld (thM m) (fun _ => 1)) (fun _ _ => True) E 0 trivial (fun i s hi hI hk => ?_) (fun _ _ _ _ => trivial) (fun hN => ?_)
  · refine dx_blk 0 (c' := (4, [.ref 0, .int w, .int s, .int (nI i)], [], m)) rfl ?_
    refine dx_blk 3 (c' := (9, [.ref 0, .int w, .int s, .int (nI i)], [.int (m.1 0 11), .int (nI i)], m)) rfl ?_
    refine dx_br (q := (m.1 0 11) ≤ (nI i)) (a := 35) (b := 12) (L := [.ref 0, .int w, .int s, .int (nI i)]) (st := []) (m := m) rfl (fun h => absurd h (by rw [show m.1 0 11 = nI E from eE]; exact nI_ge hi (by omega))) (fun _ => ?_)
    refine dx_blk 4 (c' := (18, [.ref 0, .int w, .int s, .int (nI i)], [.int (nI i), .ref 11, .int s], m)) rfl ?_
    refine dx_bldN i rfl rfl (Or.inr rfl) rfl (by omega) ?_
    refine dx_blk 0 (c' := (19, [.ref 0, .int w, .int s, .int (nI i)], [.int (m.1 11 i), .int s], m)) rfl ?_
    refine dx_br (q := (m.1 11 i) = 0) (a := 26) (b := 22) (L := [.ref 0, .int w, .int s, .int (nI i)]) (st := [.int s]) (m := m) rfl (fun h19 => ?_) (fun h19 => ?_)
    · refine dx_blk 5 (c' := (4, [.ref 0, .int w, .int (s + 1), .int ((nI i) + 1)], [], m)) rfl ?_
      first | (rw [st_ld_f (thM_f (by assumption)), nI_succ] at hk; exact hk) | (rw [st_ld_t (thM_t (by assumption)), nI_succ] at hk; exact hk)
    · refine dx_blk 6 (c' := (4, [.ref 0, .int w, .int (s + 0), .int ((nI i) + 1)], [], m)) rfl ?_
      first | (rw [st_ld_f (thM_f (by assumption)), nI_succ] at hk; exact hk) | (rw [st_ld_t (thM_t (by assumption)), nI_succ] at hk; exact hk)
  · refine dx_blk 0 (c' := (4, [.ref 0, .int w, .int (nf (st_ld (thM m) (fun _ => 1)) E 0), .int (nI E)], [], m)) rfl ?_
    refine dx_blk 3 (c' := (9, [.ref 0, .int w, .int (nf (st_ld (thM m) (fun _ => 1)) E 0), .int (nI E)], [.int (m.1 0 11), .int (nI E)], m)) rfl ?_
    refine dx_br (q := (m.1 0 11) ≤ (nI E)) (a := 35) (b := 12) (L := [.ref 0, .int w, .int (nf (st_ld (thM m) (fun _ => 1)) E 0), .int (nI E)]) (st := []) (m := m) rfl (fun _ => ?_) (fun h => absurd (by rw [show m.1 0 11 = nI E from eE]; exact nI_le (Nat.le_refl _) (by omega)) h)
    refine dx_blk 1 (c' := (36, [.ref 0, .int w, .int (nf (st_ld (thM m) (fun _ => 1)) E 0), .int (nI E)], [.int w], m)) rfl ?_
    refine dx_br (q := w = 0) (a := 39) (b := 46) (L := [.ref 0, .int w, .int (nf (st_ld (thM m) (fun _ => 1)) E 0), .int (nI E)]) (st := []) (m := m) rfl (fun h36 => ?_) (fun h36 => ?_)
    · refine dx_blk 3 (c' := (92, [.ref 0, .int w, .int (nf (st_ld (thM m) (fun _ => 1)) E 0), .int (nI E)], [.int (m.1 0 4)], m)) rfl ?_
      exact dx_ret (r := some (.int (m.1 0 4))) rfl (by simpa [n_ther, *] using h)
    · refine dx_blk 2 (c' := (48, [.ref 0, .int w, .int (nf (st_ld (thM m) (fun _ => 1)) E 0), .int (nI E)], [.int 1, .int w], m)) rfl ?_
      refine dx_br (q := w = 1) (a := 51) (b := 58) (L := [.ref 0, .int w, .int (nf (st_ld (thM m) (fun _ => 1)) E 0), .int (nI E)]) (st := []) (m := m) rfl (fun h48 => ?_) (fun h48 => ?_)
      · refine dx_blk 3 (c' := (92, [.ref 0, .int w, .int (nf (st_ld (thM m) (fun _ => 1)) E 0), .int (nI E)], [.int (m.1 0 5)], m)) rfl ?_
        exact dx_ret (r := some (.int (m.1 0 5))) rfl (by simpa [n_ther, *] using h)
      · refine dx_blk 2 (c' := (60, [.ref 0, .int w, .int (nf (st_ld (thM m) (fun _ => 1)) E 0), .int (nI E)], [.int 2, .int w], m)) rfl ?_
        refine dx_br (q := w = 2) (a := 63) (b := 70) (L := [.ref 0, .int w, .int (nf (st_ld (thM m) (fun _ => 1)) E 0), .int (nI E)]) (st := []) (m := m) rfl (fun h60 => ?_) (fun h60 => ?_)
        · refine dx_blk 1 (c' := (64, [.ref 0, .int w, .int (nf (st_ld (thM m) (fun _ => 1)) E 0), .int (nI E)], [.ref 0], m)) rfl ?_
          refine dx_call (id := 111) (as := [.ref 0]) (rest := []) rfl ?_
          refine sX4_squareMany _ ?_
          refine dx_blk 0 (c' := (67, [.ref 0, .int w, .int (nf (st_ld (thM m) (fun _ => 1)) E 0), .int (nI E)], [.int (n_cnt (m.1 2))], m)) rfl ?_
          refine dx_blk 1 (c' := (92, [.ref 0, .int w, .int (nf (st_ld (thM m) (fun _ => 1)) E 0), .int (nI E)], [.int (n_cnt (m.1 2))], m)) rfl ?_
          exact dx_ret (r := some (.int (n_cnt (m.1 2)))) rfl (by simpa [n_ther, *] using h)
        · refine dx_blk 2 (c' := (72, [.ref 0, .int w, .int (nf (st_ld (thM m) (fun _ => 1)) E 0), .int (nI E)], [.int 3, .int w], m)) rfl ?_
          refine dx_br (q := w = 3) (a := 75) (b := 82) (L := [.ref 0, .int w, .int (nf (st_ld (thM m) (fun _ => 1)) E 0), .int (nI E)]) (st := []) (m := m) rfl (fun h72 => ?_) (fun h72 => ?_)
          · refine dx_blk 3 (c' := (92, [.ref 0, .int w, .int (nf (st_ld (thM m) (fun _ => 1)) E 0), .int (nI E)], [.int (m.1 0 11)], m)) rfl ?_
            exact dx_ret (r := some (.int (m.1 0 11))) rfl (by simpa [n_ther, *] using h)
          · refine dx_blk 2 (c' := (84, [.ref 0, .int w, .int (nf (st_ld (thM m) (fun _ => 1)) E 0), .int (nI E)], [.int 4, .int w], m)) rfl ?_
            refine dx_br (q := w = 4) (a := 87) (b := 91) (L := [.ref 0, .int w, .int (nf (st_ld (thM m) (fun _ => 1)) E 0), .int (nI E)]) (st := []) (m := m) rfl (fun h84 => ?_) (fun h84 => ?_)
            · refine dx_blk 2 (c' := (92, [.ref 0, .int w, .int (nf (st_ld (thM m) (fun _ => 1)) E 0), .int (nI E)], [.int (nf (st_ld (thM m) (fun _ => 1)) E 0)], m)) rfl ?_
              exact dx_ret (r := some (.int (nf (st_ld (thM m) (fun _ => 1)) E 0))) rfl (by simpa [n_ther, *] using h)
            · refine dx_blk 1 (c' := (92, [.ref 0, .int w, .int (nf (st_ld (thM m) (fun _ => 1)) E 0), .int (nI E)], [.int (-1)], m)) rfl ?_
              exact dx_ret (r := some (.int (-1))) rfl (by simpa [n_ther, *] using h)
set_option maxRecDepth 20000 in
theorem sX3_mean {d : Nat} (m : dx_M)  {Z : Option Value → dx_M → Prop} (h1 : n_cnt (m.1 2) = 0 → Z (some (.int (-3))) (fndX m 4)) (h2 : ¬ n_cnt (m.1 2) = 0 → Z (some (.int (n_sum (m.1 2) / n_cnt (m.1 2)))) m) : dx_Sem dx_P lx_X (d + 2) 42 [.ref 0] m Z := by
  refine dx_sem km_X3_mean rfl rfl ?_
  refine dx_blk 0 (c' := (0, [.ref 0, .null], [], m)) rfl ?_
  refine dx_blk 2 (c' := (4, [.ref 0, .null], [.ref 1], m)) rfl ?_
  refine dx_call (id := 6) (as := [.ref 1]) (rest := []) rfl ?_
  refine sX0_squares _ ?_
  refine dx_blk 0 (c' := (7, [.ref 0, .null], [.int (n_cnt (m.1 2))], m)) rfl ?_
  refine dx_blk 2 (c' := (9, [.ref 0, .int (n_cnt (m.1 2))], [.int (n_cnt (m.1 2))], m)) rfl ?_
  refine dx_br (q := (n_cnt (m.1 2)) = 0) (a := 12) (b := 20) (L := [.ref 0, .int (n_cnt (m.1 2))]) (st := []) (m := m) rfl (fun h9 => ?_) (fun h9 => ?_)
  · refine dx_blk 2 (c' := (14, [.ref 0, .int (n_cnt (m.1 2))], [.int 4, .ref 0], m)) rfl ?_
    refine dx_call (id := 70) (as := [.ref 0, .int 4]) (rest := []) rfl ?_
    refine sX3_find 4 (by decide) _ ?_
    refine dx_blk 0 (c' := (17, [.ref 0, .int (n_cnt (m.1 2))], [.int (-3)], (fndX m 4))) rfl ?_
    refine dx_blk 1 (c' := (29, [.ref 0, .int (n_cnt (m.1 2))], [.int (-3)], (fndX m 4))) rfl ?_
    exact dx_ret (r := some (.int (-3))) rfl (h1 (by assumption))
  · refine dx_blk 2 (c' := (24, [.ref 0, .int (n_cnt (m.1 2))], [.ref 1], m)) rfl ?_
    refine dx_call (id := 7) (as := [.ref 1]) (rest := []) rfl ?_
    refine sX0_weight _ ?_
    refine dx_blk 0 (c' := (27, [.ref 0, .int (n_cnt (m.1 2))], [.int (n_sum (m.1 2))], m)) rfl ?_
    refine dx_blk 1 (c' := (28, [.ref 0, .int (n_cnt (m.1 2))], [.int (n_cnt (m.1 2)), .int (n_sum (m.1 2))], m)) rfl ?_
    refine dx_step (c' := (29, [.ref 0, .int (n_cnt (m.1 2))], [.int ((n_sum (m.1 2)) / (n_cnt (m.1 2)))], m)) (if_pos (by assumption)) ?_
    exact dx_ret (r := some (.int ((n_sum (m.1 2)) / (n_cnt (m.1 2))))) rfl (h2 (by assumption))
set_option maxRecDepth 20000 in
theorem sX4_mean {d : Nat} (m : dx_M)  {Z : Option Value → dx_M → Prop} (h1 : n_cnt (m.1 2) = 0 → Z (some (.int (-3))) (fndM m 4)) (h2 : ¬ n_cnt (m.1 2) = 0 → Z (some (.int (n_sum (m.1 2) / n_cnt (m.1 2)))) m) : dx_Sem dx_P lx_M (d + 2) 114 [.ref 0] m Z := by
  refine dx_sem km_X4_mean rfl rfl ?_
  refine dx_blk 0 (c' := (0, [.ref 0, .null], [], m)) rfl ?_
  refine dx_blk 1 (c' := (1, [.ref 0, .null], [.ref 0], m)) rfl ?_
  refine dx_call (id := 111) (as := [.ref 0]) (rest := []) rfl ?_
  refine sX4_squareMany _ ?_
  refine dx_blk 0 (c' := (4, [.ref 0, .null], [.int (n_cnt (m.1 2))], m)) rfl ?_
  refine dx_blk 2 (c' := (6, [.ref 0, .int (n_cnt (m.1 2))], [.int (n_cnt (m.1 2))], m)) rfl ?_
  refine dx_br (q := (n_cnt (m.1 2)) = 0) (a := 9) (b := 17) (L := [.ref 0, .int (n_cnt (m.1 2))]) (st := []) (m := m) rfl (fun h6 => ?_) (fun h6 => ?_)
  · refine dx_blk 2 (c' := (11, [.ref 0, .int (n_cnt (m.1 2))], [.int 4, .ref 0], m)) rfl ?_
    refine dx_call (id := 83) (as := [.ref 0, .int 4]) (rest := []) rfl ?_
    refine sX4_meets 4 (by decide) _ ?_
    refine dx_blk 0 (c' := (14, [.ref 0, .int (n_cnt (m.1 2))], [.int (-3)], (fndM m 4))) rfl ?_
    refine dx_blk 1 (c' := (23, [.ref 0, .int (n_cnt (m.1 2))], [.int (-3)], (fndM m 4))) rfl ?_
    exact dx_ret (r := some (.int (-3))) rfl (h1 (by assumption))
  · refine dx_blk 1 (c' := (18, [.ref 0, .int (n_cnt (m.1 2))], [.ref 0], m)) rfl ?_
    refine dx_call (id := 112) (as := [.ref 0]) (rest := []) rfl ?_
    refine sX4_squareWeights _ ?_
    refine dx_blk 0 (c' := (21, [.ref 0, .int (n_cnt (m.1 2))], [.int (n_sum (m.1 2))], m)) rfl ?_
    refine dx_blk 1 (c' := (22, [.ref 0, .int (n_cnt (m.1 2))], [.int (n_cnt (m.1 2)), .int (n_sum (m.1 2))], m)) rfl ?_
    refine dx_step (c' := (23, [.ref 0, .int (n_cnt (m.1 2))], [.int ((n_sum (m.1 2)) / (n_cnt (m.1 2)))], m)) (if_pos (by assumption)) ?_
    exact dx_ret (r := some (.int ((n_sum (m.1 2)) / (n_cnt (m.1 2))))) rfl (h2 (by assumption))
set_option maxRecDepth 20000 in
theorem sX3_findings {d : Nat} (m : dx_M) (f : Int32) {Z : Option Value → dx_M → Prop} (h1 : inI f 1 5 = false → Z (some (.int (-1))) m) (h2 : ∀ j : Nat, j < 6 → f = nI j → inI f 1 5 = true → Z (some (.int (m.1 9 j))) m) : dx_Sem dx_P lx_X (d + 2) 59 [.ref 0, .int f] m Z := by
  refine dx_sem km_X3_findings rfl rfl ?_
  refine dx_blk 0 (c' := (0, [.ref 0, .int f], [], m)) rfl ?_
  refine dx_blk 3 (c' := (3, [.ref 0, .int f], [.int 5, .int 1, .int f], m)) rfl ?_
  refine dx_call (id := 64) (as := [.int f, .int 1, .int 5]) (rest := []) rfl ?_
  refine sX3_within f 1 5 _ ?_
  refine dx_blk 0 (c' := (6, [.ref 0, .int f], [.int (bI (inI f 1 5))], m)) rfl ?_
  refine dx_brB (B := (inI f 1 5)) (a := 18) (b := 9) (L := [.ref 0, .int f]) (st := []) (m := m) rfl (fun h6 => ?_) (fun h6 => ?_)
  · refine dx_blk 1 (c' := (19, [.ref 0, .int f], [.int (-1)], m)) rfl ?_
    exact dx_ret (r := some (.int (-1))) rfl (h1 (by assumption))
  · obtain ⟨j, hj, rfl⟩ := in_N (n := 5) (x := f) (M := 5) rfl (by rw [inI_t] at h6 ⊢; rw [fa_le] at h6 ⊢; have e0 : (0 : Int32).toInt = 0 := rfl; have e1 : (1 : Int32).toInt = 1 := rfl; exact ⟨by omega, h6.2⟩)
    refine dx_blk 3 (c' := (14, [.ref 0, .int (nI j)], [.int (nI j), .ref 9], m)) rfl ?_
    refine dx_aldN j rfl rfl rfl rfl (by omega) ?_
    refine dx_blk 0 (c' := (15, [.ref 0, .int (nI j)], [.int (m.1 9 j)], m)) rfl ?_
    refine dx_blk 1 (c' := (19, [.ref 0, .int (nI j)], [.int (m.1 9 j)], m)) rfl ?_
    exact dx_ret (r := some (.int (m.1 9 j))) rfl (h2 j (by omega) rfl (by assumption))
set_option maxRecDepth 20000 in
theorem sX4_findings {d : Nat} (m : dx_M) (f : Int32) {Z : Option Value → dx_M → Prop} (h1 : inI f 1 5 = false → Z (some (.int (-1))) m) (h2 : ∀ j : Nat, j < 6 → f = nI j → inI f 1 5 = true → Z (some (.int (m.1 1 j))) m) : dx_Sem dx_P lx_M (d + 2) 85 [.ref 0, .int f] m Z := by
  refine dx_sem km_X4_findings rfl rfl ?_
  refine dx_blk 0 (c' := (0, [.ref 0, .int f], [], m)) rfl ?_
  refine dx_blk 3 (c' := (3, [.ref 0, .int f], [.int 5, .int 1, .int f], m)) rfl ?_
  refine dx_call (id := 82) (as := [.int f, .int 1, .int 5]) (rest := []) rfl ?_
  refine sX4_in f 1 5 _ ?_
  refine dx_blk 0 (c' := (6, [.ref 0, .int f], [.int (bI (inI f 1 5))], m)) rfl ?_
  refine dx_brB (B := (inI f 1 5)) (a := 18) (b := 9) (L := [.ref 0, .int f]) (st := []) (m := m) rfl (fun h6 => ?_) (fun h6 => ?_)
  · refine dx_blk 1 (c' := (19, [.ref 0, .int f], [.int (-1)], m)) rfl ?_
    exact dx_ret (r := some (.int (-1))) rfl (h1 (by assumption))
  · obtain ⟨j, hj, rfl⟩ := in_N (n := 5) (x := f) (M := 5) rfl (by rw [inI_t] at h6 ⊢; rw [fa_le] at h6 ⊢; have e0 : (0 : Int32).toInt = 0 := rfl; have e1 : (1 : Int32).toInt = 1 := rfl; exact ⟨by omega, h6.2⟩)
    refine dx_blk 3 (c' := (14, [.ref 0, .int (nI j)], [.int (nI j), .ref 1], m)) rfl ?_
    refine dx_aldN j rfl rfl rfl rfl (by omega) ?_
    refine dx_blk 0 (c' := (15, [.ref 0, .int (nI j)], [.int (m.1 1 j)], m)) rfl ?_
    refine dx_blk 1 (c' := (19, [.ref 0, .int (nI j)], [.int (m.1 1 j)], m)) rfl ?_
    exact dx_ret (r := some (.int (m.1 1 j))) rfl (h2 j (by omega) rfl (by assumption))
set_option maxRecDepth 20000 in
theorem sX3_finding {d : Nat} (m : dx_M)  {Z : Option Value → dx_M → Prop} (h : Z (some (.int (m.1 0 8))) m) : dx_Sem dx_P lx_X (d + 1) 58 [.ref 0] m Z := by
  refine dx_sem km_X3_finding rfl rfl ?_
  refine dx_blk 0 (c' := (0, [.ref 0], [], m)) rfl ?_
  refine dx_blk 2 (c' := (4, [.ref 0], [.int (m.1 0 8)], m)) rfl ?_
  exact dx_ret (r := some (.int (m.1 0 8))) rfl h
set_option maxRecDepth 20000 in
theorem sX4_finding {d : Nat} (m : dx_M)  {Z : Option Value → dx_M → Prop} (h : Z (some (.int (m.1 0 0))) m) : dx_Sem dx_P lx_M (d + 1) 84 [.ref 0] m Z := by
  refine dx_sem km_X4_finding rfl rfl ?_
  refine dx_blk 0 (c' := (0, [.ref 0], [], m)) rfl ?_
  refine dx_blk 2 (c' := (4, [.ref 0], [.int (m.1 0 0)], m)) rfl ?_
  exact dx_ret (r := some (.int (m.1 0 0))) rfl h
set_option maxRecDepth 20000 in
theorem sX3_upper {d : Nat} (m : dx_M)  {Z : Option Value → dx_M → Prop} (h : Z (some (.long (m.2 0 9))) m) : dx_Sem dx_P lx_X (d + 1) 55 [.ref 0] m Z := by
  refine dx_sem km_X3_upper rfl rfl ?_
  refine dx_blk 0 (c' := (0, [.ref 0], [], m)) rfl ?_
  refine dx_blk 2 (c' := (4, [.ref 0], [.long (m.2 0 9)], m)) rfl ?_
  exact dx_ret (r := some (.long (m.2 0 9))) rfl h
set_option maxRecDepth 20000 in
theorem sX4_upper {d : Nat} (m : dx_M)  {Z : Option Value → dx_M → Prop} (h : Z (some (.long (m.2 0 2))) m) : dx_Sem dx_P lx_M (d + 1) 88 [.ref 0] m Z := by
  refine dx_sem km_X4_upper rfl rfl ?_
  refine dx_blk 0 (c' := (0, [.ref 0], [], m)) rfl ?_
  refine dx_blk 2 (c' := (4, [.ref 0], [.long (m.2 0 2)], m)) rfl ?_
  exact dx_ret (r := some (.long (m.2 0 2))) rfl h
set_option maxRecDepth 20000 in
theorem sX3_lower {d : Nat} (m : dx_M)  {Z : Option Value → dx_M → Prop} (h : Z (some (.long (m.2 0 10))) m) : dx_Sem dx_P lx_X (d + 1) 56 [.ref 0] m Z := by
  refine dx_sem km_X3_lower rfl rfl ?_
  refine dx_blk 0 (c' := (0, [.ref 0], [], m)) rfl ?_
  refine dx_blk 2 (c' := (4, [.ref 0], [.long (m.2 0 10)], m)) rfl ?_
  exact dx_ret (r := some (.long (m.2 0 10))) rfl h
set_option maxRecDepth 20000 in
theorem sX4_lower {d : Nat} (m : dx_M)  {Z : Option Value → dx_M → Prop} (h : Z (some (.long (m.2 0 3))) m) : dx_Sem dx_P lx_M (d + 1) 89 [.ref 0] m Z := by
  refine dx_sem km_X4_lower rfl rfl ?_
  refine dx_blk 0 (c' := (0, [.ref 0], [], m)) rfl ?_
  refine dx_blk 2 (c' := (4, [.ref 0], [.long (m.2 0 3)], m)) rfl ?_
  exact dx_ret (r := some (.long (m.2 0 3))) rfl h
theorem nf_cst {σ : Type} {f g : Nat → σ → σ} (n : Nat) (s : σ) (h : ∀ i s, i < n → f i s = g i s) : nf f n s = nf g n s := nf_cong s h
set_option maxRecDepth 20000 in
theorem sX3_digestPlaces {d : Nat} (m : dx_M) {W H : Nat} (hW : W ≤ 12) (hH : H ≤ 12) (eW : m.1 1 1 = nI W) (eH : m.1 1 2 = nI H) (v0 : Int64) {Z : Option Value → dx_M → Prop} (h : Z (some (.long (dg_P (fun y x => m.1 2 (y * 12 + x)) W H (31 * (31 * v0 + (m.1 1 1).toInt64) + (m.1 1 2).toInt64)))) m) : dx_Sem dx_P lx_X (d + 2) 61 [.ref 0, .long v0] m Z := by
  refine dx_sem km_X3_digestPlaces rfl rfl ?_
  refine dx_blk 0 (c' := (0, [.ref 0, .long v0, .null, .null, .null, .null, .null], [], m)) rfl ?_
  refine dx_blk 20 (c' := (33, [.ref 0, .long v0, .null, .long ((31 * ((31 * v0) + ((m.1 1 1).toInt64))) + ((m.1 1 2).toInt64)), .null, .int 0, .null], [], m)) rfl ?_
  refine dx_blk 0 (c' := (33, [.ref 0, .long v0, .null, .long (31 * (31 * v0 + (m.1 1 1).toInt64) + (m.1 1 2).toInt64), .null, .int (nI 0), .null], [], m)) rfl ?_
  refine dx_for (fun (y : Nat) (u : Int64) => ((33, [.ref 0, .long v0, .null, .long u, .null, .int (nI y), .null], [], m) : dx_F)) (fun (y : Nat) (u : Int64) => nf (fun (x : Nat) (v : Int64) => 31 * v + (m.1 2 (y * 12 + x)).toInt64) W u) (fun _ _ => True) H (31 * (31 * v0 + (m.1 1 1).toInt64) + (m.1 1 2).toInt64) trivial (fun y u hi hI hk => ?_) (fun _ _ _ _ => trivial) (fun hN => ?_)
  · refine dx_blk 0 (c' := (33, [.ref 0, .long v0, .null, .long u, .null, .int (nI y), .null], [], m)) rfl ?_
    have hy : y < H := hi
    refine dx_blk 4 (c' := (42, [.ref 0, .long v0, .null, .long u, .null, .int (nI y), .null], [.int (m.1 1 2), .int (nI y)], m)) rfl ?_
    refine dx_br (q := (m.1 1 2) ≤ (nI y)) (a := 91) (b := 45) (L := [.ref 0, .long v0, .null, .long u, .null, .int (nI y), .null]) (st := []) (m := m) rfl (fun h => absurd h (by rw [show m.1 1 2 = nI H from eH]; exact nI_ge hi (by omega))) (fun _ => ?_)
    refine dx_blk 2 (c' := (48, [.ref 0, .long v0, .null, .long u, .null, .int (nI y), .int 0], [], m)) rfl ?_
    refine dx_blk 0 (c' := (48, [.ref 0, .long v0, .null, .long u, .null, .int (nI y), .int (nI 0)], [], m)) rfl ?_
    refine dx_for (fun (x : Nat) (v : Int64) => ((48, [.ref 0, .long v0, .null, .long v, .null, .int (nI y), .int (nI x)], [], m) : dx_F)) (fun (x : Nat) (v : Int64) => 31 * v + (m.1 2 (y * 12 + x)).toInt64) (fun _ _ => True) W u trivial (fun x v hi hI hk => ?_) (fun _ _ _ _ => trivial) (fun hN => ?_)
    · refine dx_blk 0 (c' := (48, [.ref 0, .long v0, .null, .long v, .null, .int (nI y), .int (nI x)], [], m)) rfl ?_
      refine dx_blk 4 (c' := (57, [.ref 0, .long v0, .null, .long v, .null, .int (nI y), .int (nI x)], [.int (m.1 1 1), .int (nI x)], m)) rfl ?_
      refine dx_br (q := (m.1 1 1) ≤ (nI x)) (a := 85) (b := 60) (L := [.ref 0, .long v0, .null, .long v, .null, .int (nI y), .int (nI x)]) (st := []) (m := m) rfl (fun h => absurd h (by rw [show m.1 1 1 = nI W from eW]; exact nI_ge hi (by omega))) (fun _ => ?_)
      refine dx_blk 7 (c' := (73, [.ref 0, .long v0, .null, .long v, .null, .int (nI y), .int (nI x)], [.int (nI y), .int (nI x), .ref 1, .long (31 * v)], m)) rfl ?_
      refine dx_call (id := 2) (as := [.ref 1, .int (nI x), .int (nI y)]) (rest := [.long (31 * v)]) rfl ?_
      refine sX0_weightOf (a := x) (b := y) (by omega) (by omega) _ ?_
      refine dx_blk 0 (c' := (76, [.ref 0, .long v0, .null, .long v, .null, .int (nI y), .int (nI x)], [.int (m.1 2 (y * 12 + x)), .long (31 * v)], m)) rfl ?_
      refine dx_blk 5 (c' := (48, [.ref 0, .long v0, .null, .long ((31 * v) + ((m.1 2 (y * 12 + x)).toInt64)), .null, .int (nI y), .int ((nI x) + 1)], [], m)) rfl ?_
      rw [← nI_succ]
      exact hk
    · refine dx_blk 0 (c' := (48, [.ref 0, .long v0, .null, .long (nf (fun (x : Nat) (v : Int64) => 31 * v + (m.1 2 (y * 12 + x)).toInt64) W u), .null, .int (nI y), .int (nI W)], [], m)) rfl ?_
      refine dx_blk 4 (c' := (57, [.ref 0, .long v0, .null, .long (nf (fun (x : Nat) (v : Int64) => 31 * v + (m.1 2 (y * 12 + x)).toInt64) W u), .null, .int (nI y), .int (nI W)], [.int (m.1 1 1), .int (nI W)], m)) rfl ?_
      refine dx_br (q := (m.1 1 1) ≤ (nI W)) (a := 85) (b := 60) (L := [.ref 0, .long v0, .null, .long (nf (fun (x : Nat) (v : Int64) => 31 * v + (m.1 2 (y * 12 + x)).toInt64) W u), .null, .int (nI y), .int (nI W)]) (st := []) (m := m) rfl (fun _ => ?_) (fun h => absurd (by rw [show m.1 1 1 = nI W from eW]; exact nI_le (Nat.le_refl _) (by omega)) h)
      refine dx_blk 2 (c' := (33, [.ref 0, .long v0, .null, .long (nf (fun (x : Nat) (v : Int64) => 31 * v + (m.1 2 (y * 12 + x)).toInt64) W u), .null, .int ((nI y) + 1), .int (nI W)], [], m)) rfl ?_
      refine dx_fgt [.ref 0, .long v0, .null, .long (nf (fun (x : Nat) (v : Int64) => 31 * v + (m.1 2 (y * 12 + x)).toInt64) W u), .null, .int ((nI y) + 1), .null] (And.intro (Or.inr rfl) (And.intro (Or.inr rfl) (And.intro (Or.inl rfl) (And.intro (Or.inr rfl) (And.intro (Or.inl rfl) (And.intro (Or.inr rfl) (And.intro (Or.inl rfl) trivial))))))) ?_
      rw [← nI_succ]
      exact hk
  · refine dx_blk 0 (c' := (33, [.ref 0, .long v0, .null, .long (nf (fun (y : Nat) (u : Int64) => nf (fun (x : Nat) (v : Int64) => 31 * v + (m.1 2 (y * 12 + x)).toInt64) W u) H (31 * (31 * v0 + (m.1 1 1).toInt64) + (m.1 1 2).toInt64)), .null, .int (nI H), .null], [], m)) rfl ?_
    refine dx_blk 4 (c' := (42, [.ref 0, .long v0, .null, .long (nf (fun (y : Nat) (u : Int64) => nf (fun (x : Nat) (v : Int64) => 31 * v + (m.1 2 (y * 12 + x)).toInt64) W u) H (31 * (31 * v0 + (m.1 1 1).toInt64) + (m.1 1 2).toInt64)), .null, .int (nI H), .null], [.int (m.1 1 2), .int (nI H)], m)) rfl ?_
    refine dx_br (q := (m.1 1 2) ≤ (nI H)) (a := 91) (b := 45) (L := [.ref 0, .long v0, .null, .long (nf (fun (y : Nat) (u : Int64) => nf (fun (x : Nat) (v : Int64) => 31 * v + (m.1 2 (y * 12 + x)).toInt64) W u) H (31 * (31 * v0 + (m.1 1 1).toInt64) + (m.1 1 2).toInt64)), .null, .int (nI H), .null]) (st := []) (m := m) rfl (fun _ => ?_) (fun h => absurd (by rw [show m.1 1 2 = nI H from eH]; exact nI_le (Nat.le_refl _) (by omega)) h)
    refine dx_blk 1 (c' := (92, [.ref 0, .long v0, .null, .long (nf (fun (y : Nat) (u : Int64) => nf (fun (x : Nat) (v : Int64) => 31 * v + (m.1 2 (y * 12 + x)).toInt64) W u) H (31 * (31 * v0 + (m.1 1 1).toInt64) + (m.1 1 2).toInt64)), .null, .int (nI H), .null], [.long (nf (fun (y : Nat) (u : Int64) => nf (fun (x : Nat) (v : Int64) => 31 * v + (m.1 2 (y * 12 + x)).toInt64) W u) H (31 * (31 * v0 + (m.1 1 1).toInt64) + (m.1 1 2).toInt64))], m)) rfl ?_
    exact dx_ret (r := some (.long (nf (fun (y : Nat) (u : Int64) => nf (fun (x : Nat) (v : Int64) => 31 * v + (m.1 2 (y * 12 + x)).toInt64) W u) H (31 * (31 * v0 + (m.1 1 1).toInt64) + (m.1 1 2).toInt64)))) rfl h
set_option maxRecDepth 20000 in
theorem sX3_digestLoads {d : Nat} (m : dx_M) {E : Nat} (hE : E ≤ 10) (eE : m.1 0 7 = nI E) (v0 : Int64) {Z : Option Value → dx_M → Prop} (h : Z (some (.long (dg_L (thX m) (factX m) E v0))) m) : dx_Sem dx_P lx_X (d + 2) 62 [.ref 0, .long v0] m Z := by
  refine dx_sem km_X3_digestLoads rfl rfl ?_
  refine dx_blk 0 (c' := (0, [.ref 0, .long v0, .null, .null, .null, .null, .null], [], m)) rfl ?_
  refine dx_blk 4 (c' := (5, [.ref 0, .long v0, .null, .long v0, .null, .int 0, .null], [], m)) rfl ?_
  refine dx_blk 0 (c' := (5, [.ref 0, .long v0, .null, .long v0, .null, .int (nI 0), .null], [], m)) rfl ?_
  refine dx_for (fun (i : Nat) (u : Int64) => ((5, [.ref 0, .long v0, .null, .long u, .null, .int (nI i), .null], [], m) : dx_F)) (fun (i : Nat) (u : Int64) => if thX m i = true then nf (fun (w : Nat) (v : Int64) => 31 * v + (factX m i (nI w)).toInt64) 5 u else 31 * u + -1) (fun _ _ => True) E v0 trivial (fun i u hi hI hk => ?_) (fun _ _ _ _ => trivial) (fun hN => ?_)
  · refine dx_blk 0 (c' := (5, [.ref 0, .long v0, .null, .long u, .null, .int (nI i), .null], [], m)) rfl ?_
    have hi2 : i < E := hi
    refine dx_blk 3 (c' := (11, [.ref 0, .long v0, .null, .long u, .null, .int (nI i), .null], [.int (m.1 0 7), .int (nI i)], m)) rfl ?_
    refine dx_br (q := (m.1 0 7) ≤ (nI i)) (a := 81) (b := 14) (L := [.ref 0, .long v0, .null, .long u, .null, .int (nI i), .null]) (st := []) (m := m) rfl (fun h => absurd h (by rw [show m.1 0 7 = nI E from eE]; exact nI_ge hi (by omega))) (fun _ => ?_)
    refine dx_blk 3 (c' := (20, [.ref 0, .long v0, .null, .long u, .null, .int (nI i), .null], [.int (nI i), .ref 6], m)) rfl ?_
    refine dx_aadN i (q := (10 + i)) rfl rfl (Or.inl rfl) rfl (by omega) (lx_rs6 i (by omega)) ?_
    refine dx_blk 0 (c' := (21, [.ref 0, .long v0, .null, .long u, .null, .int (nI i), .null], [.ref (10 + i)], m)) rfl ?_
    refine dx_getS (k := (10 + i)) (v := .int (m.1 (10 + i) 0)) rfl rfl rfl rfl (lx_ld i (by omega)) rfl ?_
    refine dx_blk 0 (c' := (24, [.ref 0, .long v0, .null, .long u, .null, .int (nI i), .null], [.int (m.1 (10 + i) 0)], m)) rfl ?_
    refine dx_br (q := (m.1 (10 + i) 0) = 0) (a := 27) (b := 40) (L := [.ref 0, .long v0, .null, .long u, .null, .int (nI i), .null]) (st := []) (m := m) rfl (fun h24 => ?_) (fun h24 => ?_)
    · refine dx_blk 9 (c' := (5, [.ref 0, .long v0, .null, .long ((31 * u) + (-1)), .null, .int ((nI i) + 1), .null], [], m)) rfl ?_
      first | (rw [if_neg (by rw [thX_f (by assumption)]; decide), nI_succ] at hk; exact hk) | (rw [if_pos (thX_t (by assumption)), nI_succ] at hk; exact hk)
    · refine dx_blk 2 (c' := (43, [.ref 0, .long v0, .null, .long u, .null, .int (nI i), .int 0], [], m)) rfl ?_
      refine dx_blk 0 (c' := (43, [.ref 0, .long v0, .null, .long u, .null, .int (nI i), .int (nI 0)], [], m)) rfl ?_
      refine dx_for (fun (w : Nat) (v : Int64) => ((43, [.ref 0, .long v0, .null, .long v, .null, .int (nI i), .int (nI w)], [], m) : dx_F)) (fun (w : Nat) (v : Int64) => 31 * v + (factX m i (nI w)).toInt64) (fun _ _ => True) 5 u trivial (fun w v hi hI hk => ?_) (fun _ _ _ _ => trivial) (fun hN => ?_)
      · refine dx_blk 0 (c' := (43, [.ref 0, .long v0, .null, .long v, .null, .int (nI i), .int (nI w)], [], m)) rfl ?_
        refine dx_blk 2 (c' := (46, [.ref 0, .long v0, .null, .long v, .null, .int (nI i), .int (nI w)], [.int 5, .int (nI w)], m)) rfl ?_
        refine dx_br (q := 5 ≤ (nI w)) (a := 75) (b := 49) (L := [.ref 0, .long v0, .null, .long v, .null, .int (nI i), .int (nI w)]) (st := []) (m := m) rfl (fun h => absurd h (nI_ge hi (by decide))) (fun _ => ?_)
        refine dx_blk 6 (c' := (60, [.ref 0, .long v0, .null, .long v, .null, .int (nI i), .int (nI w)], [.int (nI i), .ref 6, .long (31 * v)], m)) rfl ?_
        refine dx_aadN i (q := (10 + i)) rfl rfl (Or.inl rfl) rfl (by omega) (lx_rs6 i (by omega)) ?_
        refine dx_blk 0 (c' := (61, [.ref 0, .long v0, .null, .long v, .null, .int (nI i), .int (nI w)], [.ref (10 + i), .long (31 * v)], m)) rfl ?_
        refine dx_blk 1 (c' := (63, [.ref 0, .long v0, .null, .long v, .null, .int (nI i), .int (nI w)], [.int (nI w), .ref (10 + i), .long (31 * v)], m)) rfl ?_
        refine dx_call (id := 25) (as := [.ref (10 + i), .int (nI w)]) (rest := [.long (31 * v)]) (dx_clV (as := [.int (nI w)]) rfl rfl rfl rfl (lx_ld i (by omega)) rfl rfl rfl (Nat.le_of_ble_eq_true rfl)) ?_
        refine sX2_fact _ (j := i) (by omega) (nI w) ?_
        refine dx_blk 0 (c' := (66, [.ref 0, .long v0, .null, .long v, .null, .int (nI i), .int (nI w)], [.int (factX m i (nI w)), .long (31 * v)], m)) rfl ?_
        refine dx_blk 5 (c' := (43, [.ref 0, .long v0, .null, .long ((31 * v) + ((factX m i (nI w)).toInt64)), .null, .int (nI i), .int ((nI w) + 1)], [], m)) rfl ?_
        rw [← nI_succ]
        exact hk
      · refine dx_blk 0 (c' := (43, [.ref 0, .long v0, .null, .long (nf (fun (w : Nat) (v : Int64) => 31 * v + (factX m i (nI w)).toInt64) 5 u), .null, .int (nI i), .int (nI 5)], [], m)) rfl ?_
        refine dx_blk 2 (c' := (46, [.ref 0, .long v0, .null, .long (nf (fun (w : Nat) (v : Int64) => 31 * v + (factX m i (nI w)).toInt64) 5 u), .null, .int (nI i), .int (nI 5)], [.int 5, .int (nI 5)], m)) rfl ?_
        refine dx_br (q := 5 ≤ (nI 5)) (a := 75) (b := 49) (L := [.ref 0, .long v0, .null, .long (nf (fun (w : Nat) (v : Int64) => 31 * v + (factX m i (nI w)).toInt64) 5 u), .null, .int (nI i), .int (nI 5)]) (st := []) (m := m) rfl (fun _ => ?_) (fun h => absurd (nI_le (Nat.le_refl _) (by decide)) h)
        refine dx_blk 2 (c' := (5, [.ref 0, .long v0, .null, .long (nf (fun (w : Nat) (v : Int64) => 31 * v + (factX m i (nI w)).toInt64) 5 u), .null, .int ((nI i) + 1), .int (nI 5)], [], m)) rfl ?_
        refine dx_fgt [.ref 0, .long v0, .null, .long (nf (fun (w : Nat) (v : Int64) => 31 * v + (factX m i (nI w)).toInt64) 5 u), .null, .int ((nI i) + 1), .null] (And.intro (Or.inr rfl) (And.intro (Or.inr rfl) (And.intro (Or.inl rfl) (And.intro (Or.inr rfl) (And.intro (Or.inl rfl) (And.intro (Or.inr rfl) (And.intro (Or.inl rfl) trivial))))))) ?_
        first | (rw [if_neg (by rw [thX_f (by assumption)]; decide), nI_succ] at hk; exact hk) | (rw [if_pos (thX_t (by assumption)), nI_succ] at hk; exact hk)
  · refine dx_blk 0 (c' := (5, [.ref 0, .long v0, .null, .long (nf (fun (i : Nat) (u : Int64) => if thX m i = true then nf (fun (w : Nat) (v : Int64) => 31 * v + (factX m i (nI w)).toInt64) 5 u else 31 * u + -1) E v0), .null, .int (nI E), .null], [], m)) rfl ?_
    refine dx_blk 3 (c' := (11, [.ref 0, .long v0, .null, .long (nf (fun (i : Nat) (u : Int64) => if thX m i = true then nf (fun (w : Nat) (v : Int64) => 31 * v + (factX m i (nI w)).toInt64) 5 u else 31 * u + -1) E v0), .null, .int (nI E), .null], [.int (m.1 0 7), .int (nI E)], m)) rfl ?_
    refine dx_br (q := (m.1 0 7) ≤ (nI E)) (a := 81) (b := 14) (L := [.ref 0, .long v0, .null, .long (nf (fun (i : Nat) (u : Int64) => if thX m i = true then nf (fun (w : Nat) (v : Int64) => 31 * v + (factX m i (nI w)).toInt64) 5 u else 31 * u + -1) E v0), .null, .int (nI E), .null]) (st := []) (m := m) rfl (fun _ => ?_) (fun h => absurd (by rw [show m.1 0 7 = nI E from eE]; exact nI_le (Nat.le_refl _) (by omega)) h)
    refine dx_blk 1 (c' := (82, [.ref 0, .long v0, .null, .long (nf (fun (i : Nat) (u : Int64) => if thX m i = true then nf (fun (w : Nat) (v : Int64) => 31 * v + (factX m i (nI w)).toInt64) 5 u else 31 * u + -1) E v0), .null, .int (nI E), .null], [.long (nf (fun (i : Nat) (u : Int64) => if thX m i = true then nf (fun (w : Nat) (v : Int64) => 31 * v + (factX m i (nI w)).toInt64) 5 u else 31 * u + -1) E v0)], m)) rfl ?_
    exact dx_ret (r := some (.long (nf (fun (i : Nat) (u : Int64) => if thX m i = true then nf (fun (w : Nat) (v : Int64) => 31 * v + (factX m i (nI w)).toInt64) 5 u else 31 * u + -1) E v0))) rfl h
set_option maxRecDepth 20000 in
theorem sX3_digestSheets {d : Nat} (m : dx_M) (hz : ∀ a : Nat, a < 6 → szP (m.1 8 a)) (v0 : Int64) {Z : Option Value → dx_M → Prop} (h : Z (some (.long (dg_S (m.1 8) (fun s i => m.1 (20 + s) i) v0))) m) : dx_Sem dx_P lx_X (d + 1) 63 [.ref 0, .long v0] m Z := by
  refine dx_sem km_X3_digestSheets rfl rfl ?_
  refine dx_blk 0 (c' := (0, [.ref 0, .long v0, .null, .null, .null, .null, .null], [], m)) rfl ?_
  refine dx_blk 4 (c' := (5, [.ref 0, .long v0, .null, .long v0, .null, .int 0, .null], [], m)) rfl ?_
  refine dx_blk 0 (c' := (5, [.ref 0, .long v0, .null, .long v0, .null, .int (nI 0), .null], [], m)) rfl ?_
  refine dx_for (fun (i : Nat) (u : Int64) => ((5, [.ref 0, .long v0, .null, .long u, .null, .int (nI i), .null], [], m) : dx_F)) (fun (i : Nat) (u : Int64) => nf (fun (j : Nat) (v : Int64) => 31 * v + (m.1 (20 + i) j).toInt64) (szN (m.1 8 i)) (31 * u + (m.1 8 i).toInt64)) (fun _ _ => True) 6 v0 trivial (fun i u hi hI hk => ?_) (fun _ _ _ _ => trivial) (fun hN => ?_)
  · refine dx_blk 0 (c' := (5, [.ref 0, .long v0, .null, .long u, .null, .int (nI i), .null], [], m)) rfl ?_
    have hi2 : i < 6 := hi
    refine dx_blk 2 (c' := (9, [.ref 0, .long v0, .null, .long u, .null, .int (nI i), .null], [.int 6, .int (nI i)], m)) rfl ?_
    refine dx_br (q := 6 ≤ (nI i)) (a := 72) (b := 12) (L := [.ref 0, .long v0, .null, .long u, .null, .int (nI i), .null]) (st := []) (m := m) rfl (fun h => absurd h (nI_ge hi (by decide))) (fun _ => ?_)
    refine dx_blk 6 (c' := (23, [.ref 0, .long v0, .null, .long u, .null, .int (nI i), .null], [.int (nI i), .ref 8, .long (31 * u)], m)) rfl ?_
    refine dx_aldN i rfl rfl rfl rfl (by omega) ?_
    refine dx_blk 0 (c' := (24, [.ref 0, .long v0, .null, .long u, .null, .int (nI i), .null], [.int (m.1 8 i), .long (31 * u)], m)) rfl ?_
    refine dx_blk 5 (c' := (30, [.ref 0, .long v0, .null, .long ((31 * u) + ((m.1 8 i).toInt64)), .null, .int (nI i), .int 0], [], m)) rfl ?_
    rcases hz i hi2 with e | ⟨z, hz1, e⟩
    · refine dx_blk 0 (c' := (30, [.ref 0, .long v0, .null, .long ((31 * u) + ((m.1 8 i).toInt64)), .null, .int (nI i), .int 0], [], m)) rfl ?_
      refine dx_blk 0 (c' := (30, [.ref 0, .long v0, .null, .long (31 * u + (m.1 8 i).toInt64), .null, .int (nI i), .int (nI 0)], [], m)) rfl ?_
      refine dx_for (fun (j : Nat) (v : Int64) => ((30, [.ref 0, .long v0, .null, .long v, .null, .int (nI i), .int (nI j)], [], m) : dx_F)) (fun (j : Nat) (v : Int64) => 31 * v + (m.1 (20 + i) j).toInt64) (fun _ _ => True) 0 (31 * u + (m.1 8 i).toInt64) trivial (fun j v hi hI hk => ?_) (fun _ _ _ _ => trivial) (fun hN => ?_)
      · refine dx_blk 0 (c' := (30, [.ref 0, .long v0, .null, .long v, .null, .int (nI i), .int (nI j)], [], m)) rfl ?_
        refine dx_blk 4 (c' := (38, [.ref 0, .long v0, .null, .long v, .null, .int (nI i), .int (nI j)], [.int (nI i), .ref 8, .int (nI j)], m)) rfl ?_
        refine dx_aldN i rfl rfl rfl rfl (by omega) ?_
        refine dx_blk 0 (c' := (39, [.ref 0, .long v0, .null, .long v, .null, .int (nI i), .int (nI j)], [.int (m.1 8 i), .int (nI j)], m)) rfl ?_
        refine dx_br (q := (m.1 8 i) ≤ (nI j)) (a := 66) (b := 42) (L := [.ref 0, .long v0, .null, .long v, .null, .int (nI i), .int (nI j)]) (st := []) (m := m) rfl (fun h => absurd h (absurd hi (by omega))) (fun _ => ?_)
        refine dx_blk 6 (c' := (53, [.ref 0, .long v0, .null, .long v, .null, .int (nI i), .int (nI j)], [.int (nI i), .ref 7, .long (31 * v)], m)) rfl ?_
        refine dx_aadN i (q := (20 + i)) rfl rfl (Or.inr rfl) rfl (by omega) (lx_rs7 i (by omega)) ?_
        refine dx_blk 0 (c' := (54, [.ref 0, .long v0, .null, .long v, .null, .int (nI i), .int (nI j)], [.ref (20 + i), .long (31 * v)], m)) rfl ?_
        refine dx_blk 1 (c' := (56, [.ref 0, .long v0, .null, .long v, .null, .int (nI i), .int (nI j)], [.int (nI j), .ref (20 + i), .long (31 * v)], m)) rfl ?_
        refine dx_bldN j rfl rfl (Or.inl (lx_row i (by omega))) rfl (by omega) ?_
        refine dx_blk 0 (c' := (57, [.ref 0, .long v0, .null, .long v, .null, .int (nI i), .int (nI j)], [.int (m.1 (20 + i) j), .long (31 * v)], m)) rfl ?_
        refine dx_blk 5 (c' := (30, [.ref 0, .long v0, .null, .long ((31 * v) + ((m.1 (20 + i) j).toInt64)), .null, .int (nI i), .int ((nI j) + 1)], [], m)) rfl ?_
        rw [← nI_succ]
        exact hk
      · refine dx_blk 0 (c' := (30, [.ref 0, .long v0, .null, .long (nf (fun (j : Nat) (v : Int64) => 31 * v + (m.1 (20 + i) j).toInt64) 0 (31 * u + (m.1 8 i).toInt64)), .null, .int (nI i), .int (nI 0)], [], m)) rfl ?_
        refine dx_blk 4 (c' := (38, [.ref 0, .long v0, .null, .long (nf (fun (j : Nat) (v : Int64) => 31 * v + (m.1 (20 + i) j).toInt64) 0 (31 * u + (m.1 8 i).toInt64)), .null, .int (nI i), .int (nI 0)], [.int (nI i), .ref 8, .int (nI 0)], m)) rfl ?_
        refine dx_aldN i rfl rfl rfl rfl (by omega) ?_
        refine dx_blk 0 (c' := (39, [.ref 0, .long v0, .null, .long (nf (fun (j : Nat) (v : Int64) => 31 * v + (m.1 (20 + i) j).toInt64) 0 (31 * u + (m.1 8 i).toInt64)), .null, .int (nI i), .int (nI 0)], [.int (m.1 8 i), .int (nI 0)], m)) rfl ?_
        refine dx_br (q := (m.1 8 i) ≤ (nI 0)) (a := 66) (b := 42) (L := [.ref 0, .long v0, .null, .long (nf (fun (j : Nat) (v : Int64) => 31 * v + (m.1 (20 + i) j).toInt64) 0 (31 * u + (m.1 8 i).toInt64)), .null, .int (nI i), .int (nI 0)]) (st := []) (m := m) rfl (fun _ => ?_) (fun h => absurd (by rw [e]; decide) h)
        refine dx_blk 2 (c' := (5, [.ref 0, .long v0, .null, .long (nf (fun (j : Nat) (v : Int64) => 31 * v + (m.1 (20 + i) j).toInt64) 0 (31 * u + (m.1 8 i).toInt64)), .null, .int ((nI i) + 1), .int (nI 0)], [], m)) rfl ?_
        refine dx_fgt [.ref 0, .long v0, .null, .long (nf (fun (j : Nat) (v : Int64) => 31 * v + (m.1 (20 + i) j).toInt64) 0 (31 * u + (m.1 8 i).toInt64)), .null, .int ((nI i) + 1), .null] (And.intro (Or.inr rfl) (And.intro (Or.inr rfl) (And.intro (Or.inl rfl) (And.intro (Or.inr rfl) (And.intro (Or.inl rfl) (And.intro (Or.inr rfl) (And.intro (Or.inl rfl) trivial))))))) ?_
        first | (rw [show szN (m.1 8 i) = 0 by rw [e]; rfl, nI_succ] at hk; exact hk) | (rw [show szN (m.1 8 i) = z by rw [e]; exact szN_z hz1, nI_succ] at hk; exact hk)
    · refine dx_blk 0 (c' := (30, [.ref 0, .long v0, .null, .long ((31 * u) + ((m.1 8 i).toInt64)), .null, .int (nI i), .int 0], [], m)) rfl ?_
      refine dx_blk 0 (c' := (30, [.ref 0, .long v0, .null, .long (31 * u + (m.1 8 i).toInt64), .null, .int (nI i), .int (nI 0)], [], m)) rfl ?_
      refine dx_for (fun (j : Nat) (v : Int64) => ((30, [.ref 0, .long v0, .null, .long v, .null, .int (nI i), .int (nI j)], [], m) : dx_F)) (fun (j : Nat) (v : Int64) => 31 * v + (m.1 (20 + i) j).toInt64) (fun _ _ => True) z (31 * u + (m.1 8 i).toInt64) trivial (fun j v hi hI hk => ?_) (fun _ _ _ _ => trivial) (fun hN => ?_)
      · refine dx_blk 0 (c' := (30, [.ref 0, .long v0, .null, .long v, .null, .int (nI i), .int (nI j)], [], m)) rfl ?_
        refine dx_blk 4 (c' := (38, [.ref 0, .long v0, .null, .long v, .null, .int (nI i), .int (nI j)], [.int (nI i), .ref 8, .int (nI j)], m)) rfl ?_
        refine dx_aldN i rfl rfl rfl rfl (by omega) ?_
        refine dx_blk 0 (c' := (39, [.ref 0, .long v0, .null, .long v, .null, .int (nI i), .int (nI j)], [.int (m.1 8 i), .int (nI j)], m)) rfl ?_
        refine dx_br (q := (m.1 8 i) ≤ (nI j)) (a := 66) (b := 42) (L := [.ref 0, .long v0, .null, .long v, .null, .int (nI i), .int (nI j)]) (st := []) (m := m) rfl (fun h => absurd h (by rw [e]; exact nI_ge hi (by omega))) (fun _ => ?_)
        refine dx_blk 6 (c' := (53, [.ref 0, .long v0, .null, .long v, .null, .int (nI i), .int (nI j)], [.int (nI i), .ref 7, .long (31 * v)], m)) rfl ?_
        refine dx_aadN i (q := (20 + i)) rfl rfl (Or.inr rfl) rfl (by omega) (lx_rs7 i (by omega)) ?_
        refine dx_blk 0 (c' := (54, [.ref 0, .long v0, .null, .long v, .null, .int (nI i), .int (nI j)], [.ref (20 + i), .long (31 * v)], m)) rfl ?_
        refine dx_blk 1 (c' := (56, [.ref 0, .long v0, .null, .long v, .null, .int (nI i), .int (nI j)], [.int (nI j), .ref (20 + i), .long (31 * v)], m)) rfl ?_
        refine dx_bldN j rfl rfl (Or.inl (lx_row i (by omega))) rfl (by omega) ?_
        refine dx_blk 0 (c' := (57, [.ref 0, .long v0, .null, .long v, .null, .int (nI i), .int (nI j)], [.int (m.1 (20 + i) j), .long (31 * v)], m)) rfl ?_
        refine dx_blk 5 (c' := (30, [.ref 0, .long v0, .null, .long ((31 * v) + ((m.1 (20 + i) j).toInt64)), .null, .int (nI i), .int ((nI j) + 1)], [], m)) rfl ?_
        rw [← nI_succ]
        exact hk
      · refine dx_blk 0 (c' := (30, [.ref 0, .long v0, .null, .long (nf (fun (j : Nat) (v : Int64) => 31 * v + (m.1 (20 + i) j).toInt64) z (31 * u + (m.1 8 i).toInt64)), .null, .int (nI i), .int (nI z)], [], m)) rfl ?_
        refine dx_blk 4 (c' := (38, [.ref 0, .long v0, .null, .long (nf (fun (j : Nat) (v : Int64) => 31 * v + (m.1 (20 + i) j).toInt64) z (31 * u + (m.1 8 i).toInt64)), .null, .int (nI i), .int (nI z)], [.int (nI i), .ref 8, .int (nI z)], m)) rfl ?_
        refine dx_aldN i rfl rfl rfl rfl (by omega) ?_
        refine dx_blk 0 (c' := (39, [.ref 0, .long v0, .null, .long (nf (fun (j : Nat) (v : Int64) => 31 * v + (m.1 (20 + i) j).toInt64) z (31 * u + (m.1 8 i).toInt64)), .null, .int (nI i), .int (nI z)], [.int (m.1 8 i), .int (nI z)], m)) rfl ?_
        refine dx_br (q := (m.1 8 i) ≤ (nI z)) (a := 66) (b := 42) (L := [.ref 0, .long v0, .null, .long (nf (fun (j : Nat) (v : Int64) => 31 * v + (m.1 (20 + i) j).toInt64) z (31 * u + (m.1 8 i).toInt64)), .null, .int (nI i), .int (nI z)]) (st := []) (m := m) rfl (fun _ => ?_) (fun h => absurd (by rw [e]; exact nI_le (Nat.le_refl _) (by omega)) h)
        refine dx_blk 2 (c' := (5, [.ref 0, .long v0, .null, .long (nf (fun (j : Nat) (v : Int64) => 31 * v + (m.1 (20 + i) j).toInt64) z (31 * u + (m.1 8 i).toInt64)), .null, .int ((nI i) + 1), .int (nI z)], [], m)) rfl ?_
        refine dx_fgt [.ref 0, .long v0, .null, .long (nf (fun (j : Nat) (v : Int64) => 31 * v + (m.1 (20 + i) j).toInt64) z (31 * u + (m.1 8 i).toInt64)), .null, .int ((nI i) + 1), .null] (And.intro (Or.inr rfl) (And.intro (Or.inr rfl) (And.intro (Or.inl rfl) (And.intro (Or.inr rfl) (And.intro (Or.inl rfl) (And.intro (Or.inr rfl) (And.intro (Or.inl rfl) trivial))))))) ?_
        first | (rw [show szN (m.1 8 i) = 0 by rw [e]; rfl, nI_succ] at hk; exact hk) | (rw [show szN (m.1 8 i) = z by rw [e]; exact szN_z hz1, nI_succ] at hk; exact hk)
  · refine dx_blk 0 (c' := (5, [.ref 0, .long v0, .null, .long (nf (fun (i : Nat) (u : Int64) => nf (fun (j : Nat) (v : Int64) => 31 * v + (m.1 (20 + i) j).toInt64) (szN (m.1 8 i)) (31 * u + (m.1 8 i).toInt64)) 6 v0), .null, .int (nI 6), .null], [], m)) rfl ?_
    refine dx_blk 2 (c' := (9, [.ref 0, .long v0, .null, .long (nf (fun (i : Nat) (u : Int64) => nf (fun (j : Nat) (v : Int64) => 31 * v + (m.1 (20 + i) j).toInt64) (szN (m.1 8 i)) (31 * u + (m.1 8 i).toInt64)) 6 v0), .null, .int (nI 6), .null], [.int 6, .int (nI 6)], m)) rfl ?_
    refine dx_br (q := 6 ≤ (nI 6)) (a := 72) (b := 12) (L := [.ref 0, .long v0, .null, .long (nf (fun (i : Nat) (u : Int64) => nf (fun (j : Nat) (v : Int64) => 31 * v + (m.1 (20 + i) j).toInt64) (szN (m.1 8 i)) (31 * u + (m.1 8 i).toInt64)) 6 v0), .null, .int (nI 6), .null]) (st := []) (m := m) rfl (fun _ => ?_) (fun h => absurd (nI_le (Nat.le_refl _) (by decide)) h)
    refine dx_blk 1 (c' := (73, [.ref 0, .long v0, .null, .long (nf (fun (i : Nat) (u : Int64) => nf (fun (j : Nat) (v : Int64) => 31 * v + (m.1 (20 + i) j).toInt64) (szN (m.1 8 i)) (31 * u + (m.1 8 i).toInt64)) 6 v0), .null, .int (nI 6), .null], [.long (nf (fun (i : Nat) (u : Int64) => nf (fun (j : Nat) (v : Int64) => 31 * v + (m.1 (20 + i) j).toInt64) (szN (m.1 8 i)) (31 * u + (m.1 8 i).toInt64)) 6 v0)], m)) rfl ?_
    exact dx_ret (r := some (.long (nf (fun (i : Nat) (u : Int64) => nf (fun (j : Nat) (v : Int64) => 31 * v + (m.1 (20 + i) j).toInt64) (szN (m.1 8 i)) (31 * u + (m.1 8 i).toInt64)) 6 v0))) rfl h
set_option maxRecDepth 20000 in
theorem sX3_digest {d : Nat} (m : dx_M) {W H : Nat} (hW : W ≤ 12) (hH : H ≤ 12) (eW : m.1 1 1 = nI W) (eH : m.1 1 2 = nI H) {E : Nat} (hE : E ≤ 10) (eE : m.1 0 7 = nI E) (hz : ∀ a : Nat, a < 6 → szP (m.1 8 a)) {Z : Option Value → dx_M → Prop} (h : Z (some (.long (dg_S (m.1 8) (fun s i => m.1 (20 + s) i) (dg_L (thX m) (factX m) E (31 * dg_P (fun y x => m.1 2 (y * 12 + x)) W H (31 * (31 * 17 + (m.1 1 1).toInt64) + (m.1 1 2).toInt64) + (m.1 0 6).toInt64))))) m) : dx_Sem dx_P lx_X (d + 3) 60 [.ref 0] m Z := by
  refine dx_sem km_X3_digest rfl rfl ?_
  refine dx_blk 0 (c' := (0, [.ref 0], [], m)) rfl ?_
  refine dx_blk 5 (c' := (9, [.ref 0], [.long 17, .ref 0, .long 31, .ref 0, .ref 0], m)) rfl ?_
  refine dx_call (id := 61) (as := [.ref 0, .long 17]) (rest := [.long 31, .ref 0, .ref 0]) rfl ?_
  refine sX3_digestPlaces _ hW hH eW eH 17 ?_
  refine dx_blk 0 (c' := (12, [.ref 0], [.long (dg_P (fun y x => m.1 2 (y * 12 + x)) W H (31 * (31 * 17 + (m.1 1 1).toInt64) + (m.1 1 2).toInt64)), .long 31, .ref 0, .ref 0], m)) rfl ?_
  refine dx_blk 5 (c' := (19, [.ref 0], [.long ((31 * (dg_P (fun y x => m.1 2 (y * 12 + x)) W H (31 * (31 * 17 + (m.1 1 1).toInt64) + (m.1 1 2).toInt64))) + ((m.1 0 6).toInt64)), .ref 0, .ref 0], m)) rfl ?_
  refine dx_call (id := 62) (as := [.ref 0, .long ((31 * (dg_P (fun y x => m.1 2 (y * 12 + x)) W H (31 * (31 * 17 + (m.1 1 1).toInt64) + (m.1 1 2).toInt64))) + ((m.1 0 6).toInt64))]) (rest := [.ref 0]) rfl ?_
  refine sX3_digestLoads _ hE eE ((31 * (dg_P (fun y x => m.1 2 (y * 12 + x)) W H (31 * (31 * 17 + (m.1 1 1).toInt64) + (m.1 1 2).toInt64))) + ((m.1 0 6).toInt64)) ?_
  refine dx_blk 0 (c' := (22, [.ref 0], [.long (dg_L (thX m) (factX m) E ((31 * (dg_P (fun y x => m.1 2 (y * 12 + x)) W H (31 * (31 * 17 + (m.1 1 1).toInt64) + (m.1 1 2).toInt64))) + ((m.1 0 6).toInt64))), .ref 0], m)) rfl ?_
  refine dx_call (id := 63) (as := [.ref 0, .long (dg_L (thX m) (factX m) E ((31 * (dg_P (fun y x => m.1 2 (y * 12 + x)) W H (31 * (31 * 17 + (m.1 1 1).toInt64) + (m.1 1 2).toInt64))) + ((m.1 0 6).toInt64)))]) (rest := []) rfl ?_
  refine sX3_digestSheets _ hz (dg_L (thX m) (factX m) E ((31 * (dg_P (fun y x => m.1 2 (y * 12 + x)) W H (31 * (31 * 17 + (m.1 1 1).toInt64) + (m.1 1 2).toInt64))) + ((m.1 0 6).toInt64))) ?_
  refine dx_blk 0 (c' := (25, [.ref 0], [.long (dg_S (m.1 8) (fun s i => m.1 (20 + s) i) (dg_L (thX m) (factX m) E ((31 * (dg_P (fun y x => m.1 2 (y * 12 + x)) W H (31 * (31 * 17 + (m.1 1 1).toInt64) + (m.1 1 2).toInt64))) + ((m.1 0 6).toInt64))))], m)) rfl ?_
  exact dx_ret (r := some (.long (dg_S (m.1 8) (fun s i => m.1 (20 + s) i) (dg_L (thX m) (factX m) E ((31 * (dg_P (fun y x => m.1 2 (y * 12 + x)) W H (31 * (31 * 17 + (m.1 1 1).toInt64) + (m.1 1 2).toInt64))) + ((m.1 0 6).toInt64)))))) rfl h
set_option maxRecDepth 20000 in
set_option maxHeartbeats 4000000 in
theorem sX4_digest {d : Nat} (m : dx_M) {W H : Nat} (hW : W ≤ 12) (hH : H ≤ 12) (eW : m.1 0 4 = nI W) (eH : m.1 0 5 = nI H) {E : Nat} (hE : E ≤ 10) (eE : m.1 0 11 = nI E) (hz : ∀ a : Nat, a < 6 → szP (m.1 3 a)) {Z : Option Value → dx_M → Prop} (h : Z (some (.long (dg_S (m.1 3) (fun s i => m.1 4 (12 * s + i)) (dg_L (thM m) (factM m) E (31 * dg_P (fun y x => m.1 2 (12 * y + x)) W H (31 * (527 + (m.1 0 4).toInt64) + (m.1 0 5).toInt64) + (m.1 0 6).toInt64))))) m) : dx_Sem dx_P lx_M (d + 2) 142 [.ref 0] m Z := by
  refine dx_sem km_X4_digest rfl rfl ?_
  refine dx_blk 0 (c' := (0, [.ref 0, .null, .null, .null, .null], [], m)) rfl ?_
  refine dx_blk 14 (c' := (22, [.ref 0, .long ((31 * (527 + ((m.1 0 4).toInt64))) + ((m.1 0 5).toInt64)), .null, .int 0, .null], [], m)) rfl ?_
  refine dx_blk 0 (c' := (22, [.ref 0, .long (31 * (527 + (m.1 0 4).toInt64) + (m.1 0 5).toInt64), .null, .int (nI 0), .null], [], m)) rfl ?_
  refine dx_for (fun (y : Nat) (u : Int64) => ((22, [.ref 0, .long u, .null, .int (nI y), .null], [], m) : dx_F)) (fun (y : Nat) (u : Int64) => nf (fun (x : Nat) (v : Int64) => 31 * v + (m.1 2 (12 * y + x)).toInt64) W u) (fun _ _ => True) H (31 * (527 + (m.1 0 4).toInt64) + (m.1 0 5).toInt64) trivial (fun y u hi hI hk => ?_) (fun _ _ _ _ => trivial) (fun hN => ?_)
  · refine dx_blk 0 (c' := (22, [.ref 0, .long u, .null, .int (nI y), .null], [], m)) rfl ?_
    have hy : y < H := hi
    refine dx_blk 3 (c' := (27, [.ref 0, .long u, .null, .int (nI y), .null], [.int (m.1 0 5), .int (nI y)], m)) rfl ?_
    refine dx_br (q := (m.1 0 5) ≤ (nI y)) (a := 74) (b := 30) (L := [.ref 0, .long u, .null, .int (nI y), .null]) (st := []) (m := m) rfl (fun h => absurd h (by rw [show m.1 0 5 = nI H from eH]; exact nI_ge hi (by omega))) (fun _ => ?_)
    refine dx_blk 2 (c' := (33, [.ref 0, .long u, .null, .int (nI y), .int 0], [], m)) rfl ?_
    refine dx_blk 0 (c' := (33, [.ref 0, .long u, .null, .int (nI y), .int (nI 0)], [], m)) rfl ?_
    refine dx_for (fun (x : Nat) (v : Int64) => ((33, [.ref 0, .long v, .null, .int (nI y), .int (nI x)], [], m) : dx_F)) (fun (x : Nat) (v : Int64) => 31 * v + (m.1 2 (12 * y + x)).toInt64) (fun _ _ => True) W u trivial (fun x v hi hI hk => ?_) (fun _ _ _ _ => trivial) (fun hN => ?_)
    · refine dx_blk 0 (c' := (33, [.ref 0, .long v, .null, .int (nI y), .int (nI x)], [], m)) rfl ?_
      refine dx_blk 3 (c' := (39, [.ref 0, .long v, .null, .int (nI y), .int (nI x)], [.int (m.1 0 4), .int (nI x)], m)) rfl ?_
      refine dx_br (q := (m.1 0 4) ≤ (nI x)) (a := 68) (b := 42) (L := [.ref 0, .long v, .null, .int (nI y), .int (nI x)]) (st := []) (m := m) rfl (fun h => absurd h (by rw [show m.1 0 4 = nI W from eW]; exact nI_ge hi (by omega))) (fun _ => ?_)
      refine dx_blk 10 (c' := (58, [.ref 0, .long v, .null, .int (nI y), .int (nI x)], [.int ((12 * (nI y)) + (nI x)), .ref 2, .long (31 * v)], m)) rfl ?_
      refine dx_aldN (12 * y + x) rfl rfl rfl (nI_ix2 y x) (by omega) ?_
      refine dx_blk 0 (c' := (59, [.ref 0, .long v, .null, .int (nI y), .int (nI x)], [.int (m.1 2 (12 * y + x)), .long (31 * v)], m)) rfl ?_
      refine dx_blk 5 (c' := (33, [.ref 0, .long ((31 * v) + ((m.1 2 (12 * y + x)).toInt64)), .null, .int (nI y), .int ((nI x) + 1)], [], m)) rfl ?_
      rw [← nI_succ]
      exact hk
    · refine dx_blk 0 (c' := (33, [.ref 0, .long (nf (fun (x : Nat) (v : Int64) => 31 * v + (m.1 2 (12 * y + x)).toInt64) W u), .null, .int (nI y), .int (nI W)], [], m)) rfl ?_
      refine dx_blk 3 (c' := (39, [.ref 0, .long (nf (fun (x : Nat) (v : Int64) => 31 * v + (m.1 2 (12 * y + x)).toInt64) W u), .null, .int (nI y), .int (nI W)], [.int (m.1 0 4), .int (nI W)], m)) rfl ?_
      refine dx_br (q := (m.1 0 4) ≤ (nI W)) (a := 68) (b := 42) (L := [.ref 0, .long (nf (fun (x : Nat) (v : Int64) => 31 * v + (m.1 2 (12 * y + x)).toInt64) W u), .null, .int (nI y), .int (nI W)]) (st := []) (m := m) rfl (fun _ => ?_) (fun h => absurd (by rw [show m.1 0 4 = nI W from eW]; exact nI_le (Nat.le_refl _) (by omega)) h)
      refine dx_blk 2 (c' := (22, [.ref 0, .long (nf (fun (x : Nat) (v : Int64) => 31 * v + (m.1 2 (12 * y + x)).toInt64) W u), .null, .int ((nI y) + 1), .int (nI W)], [], m)) rfl ?_
      refine dx_fgt [.ref 0, .long (nf (fun (x : Nat) (v : Int64) => 31 * v + (m.1 2 (12 * y + x)).toInt64) W u), .null, .int ((nI y) + 1), .null] (And.intro (Or.inr rfl) (And.intro (Or.inr rfl) (And.intro (Or.inl rfl) (And.intro (Or.inr rfl) (And.intro (Or.inl rfl) trivial))))) ?_
      rw [← nI_succ]
      exact hk
  · refine dx_blk 0 (c' := (22, [.ref 0, .long (nf (fun (y : Nat) (u : Int64) => nf (fun (x : Nat) (v : Int64) => 31 * v + (m.1 2 (12 * y + x)).toInt64) W u) H (31 * (527 + (m.1 0 4).toInt64) + (m.1 0 5).toInt64)), .null, .int (nI H), .null], [], m)) rfl ?_
    refine dx_blk 3 (c' := (27, [.ref 0, .long (nf (fun (y : Nat) (u : Int64) => nf (fun (x : Nat) (v : Int64) => 31 * v + (m.1 2 (12 * y + x)).toInt64) W u) H (31 * (527 + (m.1 0 4).toInt64) + (m.1 0 5).toInt64)), .null, .int (nI H), .null], [.int (m.1 0 5), .int (nI H)], m)) rfl ?_
    refine dx_br (q := (m.1 0 5) ≤ (nI H)) (a := 74) (b := 30) (L := [.ref 0, .long (nf (fun (y : Nat) (u : Int64) => nf (fun (x : Nat) (v : Int64) => 31 * v + (m.1 2 (12 * y + x)).toInt64) W u) H (31 * (527 + (m.1 0 4).toInt64) + (m.1 0 5).toInt64)), .null, .int (nI H), .null]) (st := []) (m := m) rfl (fun _ => ?_) (fun h => absurd (by rw [show m.1 0 5 = nI H from eH]; exact nI_le (Nat.le_refl _) (by omega)) h)
    refine dx_blk 10 (c' := (88, [.ref 0, .long ((31 * (nf (fun (y : Nat) (u : Int64) => nf (fun (x : Nat) (v : Int64) => 31 * v + (m.1 2 (12 * y + x)).toInt64) W u) H (31 * (527 + (m.1 0 4).toInt64) + (m.1 0 5).toInt64))) + ((m.1 0 6).toInt64)), .null, .int 0, .null], [], m)) rfl ?_
    refine dx_blk 0 (c' := (88, [.ref 0, .long (31 * (nf (fun (y : Nat) (u : Int64) => nf (fun (x : Nat) (v : Int64) => 31 * v + (m.1 2 (12 * y + x)).toInt64) W u) H (31 * (527 + (m.1 0 4).toInt64) + (m.1 0 5).toInt64)) + (m.1 0 6).toInt64), .null, .int (nI 0), .null], [], m)) rfl ?_
    refine dx_for (fun (i : Nat) (u : Int64) => ((88, [.ref 0, .long u, .null, .int (nI i), .null], [], m) : dx_F)) (fun (i : Nat) (u : Int64) => if thM m i = true then nf (fun (w : Nat) (v : Int64) => 31 * v + (factM m i (nI w)).toInt64) 5 u else 31 * u + -1) (fun _ _ => True) E (31 * (nf (fun (y : Nat) (u : Int64) => nf (fun (x : Nat) (v : Int64) => 31 * v + (m.1 2 (12 * y + x)).toInt64) W u) H (31 * (527 + (m.1 0 4).toInt64) + (m.1 0 5).toInt64)) + (m.1 0 6).toInt64) trivial (fun i u hi hI hk => ?_) (fun _ _ _ _ => trivial) (fun hN => ?_)
    · refine dx_blk 0 (c' := (88, [.ref 0, .long u, .null, .int (nI i), .null], [], m)) rfl ?_
      have hi2 : i < E := hi
      refine dx_blk 3 (c' := (93, [.ref 0, .long u, .null, .int (nI i), .null], [.int (m.1 0 11), .int (nI i)], m)) rfl ?_
      refine dx_br (q := (m.1 0 11) ≤ (nI i)) (a := 162) (b := 96) (L := [.ref 0, .long u, .null, .int (nI i), .null]) (st := []) (m := m) rfl (fun h => absurd h (by rw [show m.1 0 11 = nI E from eE]; exact nI_ge hi (by omega))) (fun _ => ?_)
      refine dx_blk 2 (c' := (99, [.ref 0, .long u, .null, .int (nI i), .int 0], [], m)) rfl ?_
      rcases Decidable.em (m.1 11 i = 0) with g | g
      · refine dx_blk 0 (c' := (99, [.ref 0, .long u, .null, .int (nI i), .int 0], [], m)) rfl ?_
        refine dx_blk 0 (c' := (99, [.ref 0, .long u, .null, .int (nI i), .int (nI 0)], [], m)) rfl ?_
        refine dx_for (fun (w : Nat) (v : Int64) => ((99, [.ref 0, .long v, .null, .int (nI i), .int (nI w)], [], m) : dx_F)) (fun (w : Nat) (v : Int64) => 31 * v + (factM m i (nI w)).toInt64) (fun _ _ => True) 5 u trivial (fun w v hi hI hk => ?_) (fun _ _ _ _ => trivial) (fun hN => ?_)
        · refine dx_blk 0 (c' := (99, [.ref 0, .long v, .null, .int (nI i), .int (nI w)], [], m)) rfl ?_
          refine dx_blk 2 (c' := (102, [.ref 0, .long v, .null, .int (nI i), .int (nI w)], [.int 5, .int (nI w)], m)) rfl ?_
          refine dx_br (q := 5 ≤ (nI w)) (a := 135) (b := 105) (L := [.ref 0, .long v, .null, .int (nI i), .int (nI w)]) (st := []) (m := m) rfl (fun h => absurd h (nI_ge hi (by decide))) (fun _ => ?_)
          refine dx_blk 3 (c' := (110, [.ref 0, .long v, .null, .int (nI i), .int (nI w)], [.int (nI i), .ref 11], m)) rfl ?_
          refine dx_bldN i rfl rfl (Or.inr rfl) rfl (by omega) ?_
          refine dx_blk 0 (c' := (111, [.ref 0, .long v, .null, .int (nI i), .int (nI w)], [.int (m.1 11 i)], m)) rfl ?_
          refine dx_br (q := (m.1 11 i) = 0) (a := 114) (b := 135) (L := [.ref 0, .long v, .null, .int (nI i), .int (nI w)]) (st := []) (m := m) rfl (fun _ => ?_) (fun h => absurd g h)
          refine dx_blk 6 (c' := (123, [.ref 0, .long v, .null, .int (nI i), .int (nI w)], [.int (nI w), .int (nI i), .ref 0, .long (31 * v)], m)) rfl ?_
          refine dx_call (id := 108) (as := [.ref 0, .int (nI i), .int (nI w)]) (rest := [.long (31 * v)]) rfl ?_
          refine sX4_toldOf _ (j := i) (by omega) (nI w) ?_
          refine dx_blk 0 (c' := (126, [.ref 0, .long v, .null, .int (nI i), .int (nI w)], [.int (factM m i (nI w)), .long (31 * v)], m)) rfl ?_
          refine dx_blk 5 (c' := (99, [.ref 0, .long ((31 * v) + ((factM m i (nI w)).toInt64)), .null, .int (nI i), .int ((nI w) + 1)], [], m)) rfl ?_
          rw [← nI_succ]
          exact hk
        · refine dx_blk 0 (c' := (99, [.ref 0, .long (nf (fun (w : Nat) (v : Int64) => 31 * v + (factM m i (nI w)).toInt64) 5 u), .null, .int (nI i), .int (nI 5)], [], m)) rfl ?_
          refine dx_blk 2 (c' := (102, [.ref 0, .long (nf (fun (w : Nat) (v : Int64) => 31 * v + (factM m i (nI w)).toInt64) 5 u), .null, .int (nI i), .int (nI 5)], [.int 5, .int (nI 5)], m)) rfl ?_
          refine dx_br (q := 5 ≤ (nI 5)) (a := 135) (b := 105) (L := [.ref 0, .long (nf (fun (w : Nat) (v : Int64) => 31 * v + (factM m i (nI w)).toInt64) 5 u), .null, .int (nI i), .int (nI 5)]) (st := []) (m := m) rfl (fun _ => ?_) (fun h => absurd (nI_le (Nat.le_refl _) (by decide)) h)
          refine dx_blk 3 (c' := (140, [.ref 0, .long (nf (fun (w : Nat) (v : Int64) => 31 * v + (factM m i (nI w)).toInt64) 5 u), .null, .int (nI i), .int (nI 5)], [.int (nI i), .ref 11], m)) rfl ?_
          refine dx_bldN i rfl rfl (Or.inr rfl) rfl (by omega) ?_
          refine dx_blk 0 (c' := (141, [.ref 0, .long (nf (fun (w : Nat) (v : Int64) => 31 * v + (factM m i (nI w)).toInt64) 5 u), .null, .int (nI i), .int (nI 5)], [.int (m.1 11 i)], m)) rfl ?_
          refine dx_br (q := (m.1 11 i) = 0) (a := 154) (b := 144) (L := [.ref 0, .long (nf (fun (w : Nat) (v : Int64) => 31 * v + (factM m i (nI w)).toInt64) 5 u), .null, .int (nI i), .int (nI 5)]) (st := []) (m := m) rfl (fun _ => ?_) (fun h => absurd g h)
          refine dx_blk 4 (c' := (88, [.ref 0, .long (nf (fun (w : Nat) (v : Int64) => 31 * v + (factM m i (nI w)).toInt64) 5 u), .null, .int ((nI i) + 1), .int (nI 5)], [], m)) rfl ?_
          refine dx_fgt [.ref 0, .long (nf (fun (w : Nat) (v : Int64) => 31 * v + (factM m i (nI w)).toInt64) 5 u), .null, .int ((nI i) + 1), .null] (And.intro (Or.inr rfl) (And.intro (Or.inr rfl) (And.intro (Or.inl rfl) (And.intro (Or.inr rfl) (And.intro (Or.inl rfl) trivial))))) ?_
          first | (rw [if_neg (by rw [thM_f (by assumption)]; decide), nI_succ, show (31 * u + -1 : Int64) = 31 * u - 1 from (Int64.sub_eq_add_neg _ _).symm] at hk; exact hk) | (rw [if_pos (thM_t (by assumption)), nI_succ] at hk; exact hk)
      · refine dx_blk 0 (c' := (99, [.ref 0, .long u, .null, .int (nI i), .int 0], [], m)) rfl ?_
        refine dx_blk 2 (c' := (102, [.ref 0, .long u, .null, .int (nI i), .int 0], [.int 5, .int 0], m)) rfl ?_
        refine dx_br (q := 5 ≤ (0 : Int32)) (a := 135) (b := 105) (L := [.ref 0, .long u, .null, .int (nI i), .int 0]) (st := []) (m := m) rfl (fun h => absurd h (by decide)) (fun _ => ?_)
        refine dx_blk 3 (c' := (110, [.ref 0, .long u, .null, .int (nI i), .int 0], [.int (nI i), .ref 11], m)) rfl ?_
        refine dx_bldN i rfl rfl (Or.inr rfl) rfl (by omega) ?_
        refine dx_blk 0 (c' := (111, [.ref 0, .long u, .null, .int (nI i), .int 0], [.int (m.1 11 i)], m)) rfl ?_
        refine dx_br (q := (m.1 11 i) = 0) (a := 114) (b := 135) (L := [.ref 0, .long u, .null, .int (nI i), .int 0]) (st := []) (m := m) rfl (fun h => absurd h g) (fun _ => ?_)
        refine dx_blk 3 (c' := (140, [.ref 0, .long u, .null, .int (nI i), .int 0], [.int (nI i), .ref 11], m)) rfl ?_
        refine dx_bldN i rfl rfl (Or.inr rfl) rfl (by omega) ?_
        refine dx_blk 0 (c' := (141, [.ref 0, .long u, .null, .int (nI i), .int 0], [.int (m.1 11 i)], m)) rfl ?_
        refine dx_br (q := (m.1 11 i) = 0) (a := 154) (b := 144) (L := [.ref 0, .long u, .null, .int (nI i), .int 0]) (st := []) (m := m) rfl (fun h => absurd h g) (fun _ => ?_)
        refine dx_blk 9 (c' := (88, [.ref 0, .long ((31 * u) - 1), .null, .int ((nI i) + 1), .int 0], [], m)) rfl ?_
        refine dx_fgt [.ref 0, .long ((31 * u) - 1), .null, .int ((nI i) + 1), .null] (And.intro (Or.inr rfl) (And.intro (Or.inr rfl) (And.intro (Or.inl rfl) (And.intro (Or.inr rfl) (And.intro (Or.inl rfl) trivial))))) ?_
        first | (rw [if_neg (by rw [thM_f (by assumption)]; decide), nI_succ, show (31 * u + -1 : Int64) = 31 * u - 1 from (Int64.sub_eq_add_neg _ _).symm] at hk; exact hk) | (rw [if_pos (thM_t (by assumption)), nI_succ] at hk; exact hk)
    · refine dx_blk 0 (c' := (88, [.ref 0, .long (nf (fun (i : Nat) (u : Int64) => if thM m i = true then nf (fun (w : Nat) (v : Int64) => 31 * v + (factM m i (nI w)).toInt64) 5 u else 31 * u + -1) E (31 * (nf (fun (y : Nat) (u : Int64) => nf (fun (x : Nat) (v : Int64) => 31 * v + (m.1 2 (12 * y + x)).toInt64) W u) H (31 * (527 + (m.1 0 4).toInt64) + (m.1 0 5).toInt64)) + (m.1 0 6).toInt64)), .null, .int (nI E), .null], [], m)) rfl ?_
      refine dx_blk 3 (c' := (93, [.ref 0, .long (nf (fun (i : Nat) (u : Int64) => if thM m i = true then nf (fun (w : Nat) (v : Int64) => 31 * v + (factM m i (nI w)).toInt64) 5 u else 31 * u + -1) E (31 * (nf (fun (y : Nat) (u : Int64) => nf (fun (x : Nat) (v : Int64) => 31 * v + (m.1 2 (12 * y + x)).toInt64) W u) H (31 * (527 + (m.1 0 4).toInt64) + (m.1 0 5).toInt64)) + (m.1 0 6).toInt64)), .null, .int (nI E), .null], [.int (m.1 0 11), .int (nI E)], m)) rfl ?_
      refine dx_br (q := (m.1 0 11) ≤ (nI E)) (a := 162) (b := 96) (L := [.ref 0, .long (nf (fun (i : Nat) (u : Int64) => if thM m i = true then nf (fun (w : Nat) (v : Int64) => 31 * v + (factM m i (nI w)).toInt64) 5 u else 31 * u + -1) E (31 * (nf (fun (y : Nat) (u : Int64) => nf (fun (x : Nat) (v : Int64) => 31 * v + (m.1 2 (12 * y + x)).toInt64) W u) H (31 * (527 + (m.1 0 4).toInt64) + (m.1 0 5).toInt64)) + (m.1 0 6).toInt64)), .null, .int (nI E), .null]) (st := []) (m := m) rfl (fun _ => ?_) (fun h => absurd (by rw [show m.1 0 11 = nI E from eE]; exact nI_le (Nat.le_refl _) (by omega)) h)
      refine dx_blk 2 (c' := (164, [.ref 0, .long (nf (fun (i : Nat) (u : Int64) => if thM m i = true then nf (fun (w : Nat) (v : Int64) => 31 * v + (factM m i (nI w)).toInt64) 5 u else 31 * u + -1) E (31 * (nf (fun (y : Nat) (u : Int64) => nf (fun (x : Nat) (v : Int64) => 31 * v + (m.1 2 (12 * y + x)).toInt64) W u) H (31 * (527 + (m.1 0 4).toInt64) + (m.1 0 5).toInt64)) + (m.1 0 6).toInt64)), .null, .int 0, .null], [], m)) rfl ?_
      refine dx_blk 0 (c' := (164, [.ref 0, .long (nf (fun (i : Nat) (u : Int64) => if thM m i = true then nf (fun (w : Nat) (v : Int64) => 31 * v + (factM m i (nI w)).toInt64) 5 u else 31 * u + -1) E (31 * (nf (fun (y : Nat) (u : Int64) => nf (fun (x : Nat) (v : Int64) => 31 * v + (m.1 2 (12 * y + x)).toInt64) W u) H (31 * (527 + (m.1 0 4).toInt64) + (m.1 0 5).toInt64)) + (m.1 0 6).toInt64)), .null, .int (nI 0), .null], [], m)) rfl ?_
      refine dx_for (fun (i : Nat) (u : Int64) => ((164, [.ref 0, .long u, .null, .int (nI i), .null], [], m) : dx_F)) (fun (i : Nat) (u : Int64) => nf (fun (j : Nat) (v : Int64) => 31 * v + (m.1 4 (12 * i + j)).toInt64) (szN (m.1 3 i)) (31 * u + (m.1 3 i).toInt64)) (fun _ _ => True) 6 (nf (fun (i : Nat) (u : Int64) => if thM m i = true then nf (fun (w : Nat) (v : Int64) => 31 * v + (factM m i (nI w)).toInt64) 5 u else 31 * u + -1) E (31 * (nf (fun (y : Nat) (u : Int64) => nf (fun (x : Nat) (v : Int64) => 31 * v + (m.1 2 (12 * y + x)).toInt64) W u) H (31 * (527 + (m.1 0 4).toInt64) + (m.1 0 5).toInt64)) + (m.1 0 6).toInt64)) trivial (fun i u hi hI hk => ?_) (fun _ _ _ _ => trivial) (fun hN => ?_)
      · refine dx_blk 0 (c' := (164, [.ref 0, .long u, .null, .int (nI i), .null], [], m)) rfl ?_
        have hi2 : i < 6 := hi
        refine dx_blk 2 (c' := (167, [.ref 0, .long u, .null, .int (nI i), .null], [.int 6, .int (nI i)], m)) rfl ?_
        refine dx_br (q := 6 ≤ (nI i)) (a := 230) (b := 170) (L := [.ref 0, .long u, .null, .int (nI i), .null]) (st := []) (m := m) rfl (fun h => absurd h (nI_ge hi (by decide))) (fun _ => ?_)
        refine dx_blk 6 (c' := (180, [.ref 0, .long u, .null, .int (nI i), .null], [.int (nI i), .ref 3, .long (31 * u)], m)) rfl ?_
        refine dx_aldN i rfl rfl rfl rfl (by omega) ?_
        refine dx_blk 0 (c' := (181, [.ref 0, .long u, .null, .int (nI i), .null], [.int (m.1 3 i), .long (31 * u)], m)) rfl ?_
        refine dx_blk 5 (c' := (187, [.ref 0, .long ((31 * u) + ((m.1 3 i).toInt64)), .null, .int (nI i), .int 0], [], m)) rfl ?_
        rcases hz i hi2 with e | ⟨z, hz1, e⟩
        · refine dx_blk 0 (c' := (187, [.ref 0, .long ((31 * u) + ((m.1 3 i).toInt64)), .null, .int (nI i), .int 0], [], m)) rfl ?_
          refine dx_blk 0 (c' := (187, [.ref 0, .long (31 * u + (m.1 3 i).toInt64), .null, .int (nI i), .int (nI 0)], [], m)) rfl ?_
          refine dx_for (fun (j : Nat) (v : Int64) => ((187, [.ref 0, .long v, .null, .int (nI i), .int (nI j)], [], m) : dx_F)) (fun (j : Nat) (v : Int64) => 31 * v + (m.1 4 (12 * i + j)).toInt64) (fun _ _ => True) 0 (31 * u + (m.1 3 i).toInt64) trivial (fun j v hi hI hk => ?_) (fun _ _ _ _ => trivial) (fun hN => ?_)
          · refine dx_blk 0 (c' := (187, [.ref 0, .long v, .null, .int (nI i), .int (nI j)], [], m)) rfl ?_
            refine dx_blk 4 (c' := (194, [.ref 0, .long v, .null, .int (nI i), .int (nI j)], [.int (nI i), .ref 3, .int (nI j)], m)) rfl ?_
            refine dx_aldN i rfl rfl rfl rfl (by omega) ?_
            refine dx_blk 0 (c' := (195, [.ref 0, .long v, .null, .int (nI i), .int (nI j)], [.int (m.1 3 i), .int (nI j)], m)) rfl ?_
            refine dx_br (q := (m.1 3 i) ≤ (nI j)) (a := 224) (b := 198) (L := [.ref 0, .long v, .null, .int (nI i), .int (nI j)]) (st := []) (m := m) rfl (fun h => absurd h (absurd hi (by omega))) (fun _ => ?_)
            refine dx_blk 10 (c' := (214, [.ref 0, .long v, .null, .int (nI i), .int (nI j)], [.int ((12 * (nI i)) + (nI j)), .ref 4, .long (31 * v)], m)) rfl ?_
            refine dx_bldN (12 * i + j) rfl rfl (Or.inl rfl) (nI_ix2 i j) (by omega) ?_
            refine dx_blk 0 (c' := (215, [.ref 0, .long v, .null, .int (nI i), .int (nI j)], [.int (m.1 4 (12 * i + j)), .long (31 * v)], m)) rfl ?_
            refine dx_blk 5 (c' := (187, [.ref 0, .long ((31 * v) + ((m.1 4 (12 * i + j)).toInt64)), .null, .int (nI i), .int ((nI j) + 1)], [], m)) rfl ?_
            rw [← nI_succ]
            exact hk
          · refine dx_blk 0 (c' := (187, [.ref 0, .long (nf (fun (j : Nat) (v : Int64) => 31 * v + (m.1 4 (12 * i + j)).toInt64) 0 (31 * u + (m.1 3 i).toInt64)), .null, .int (nI i), .int (nI 0)], [], m)) rfl ?_
            refine dx_blk 4 (c' := (194, [.ref 0, .long (nf (fun (j : Nat) (v : Int64) => 31 * v + (m.1 4 (12 * i + j)).toInt64) 0 (31 * u + (m.1 3 i).toInt64)), .null, .int (nI i), .int (nI 0)], [.int (nI i), .ref 3, .int (nI 0)], m)) rfl ?_
            refine dx_aldN i rfl rfl rfl rfl (by omega) ?_
            refine dx_blk 0 (c' := (195, [.ref 0, .long (nf (fun (j : Nat) (v : Int64) => 31 * v + (m.1 4 (12 * i + j)).toInt64) 0 (31 * u + (m.1 3 i).toInt64)), .null, .int (nI i), .int (nI 0)], [.int (m.1 3 i), .int (nI 0)], m)) rfl ?_
            refine dx_br (q := (m.1 3 i) ≤ (nI 0)) (a := 224) (b := 198) (L := [.ref 0, .long (nf (fun (j : Nat) (v : Int64) => 31 * v + (m.1 4 (12 * i + j)).toInt64) 0 (31 * u + (m.1 3 i).toInt64)), .null, .int (nI i), .int (nI 0)]) (st := []) (m := m) rfl (fun _ => ?_) (fun h => absurd (by rw [e]; decide) h)
            refine dx_blk 2 (c' := (164, [.ref 0, .long (nf (fun (j : Nat) (v : Int64) => 31 * v + (m.1 4 (12 * i + j)).toInt64) 0 (31 * u + (m.1 3 i).toInt64)), .null, .int ((nI i) + 1), .int (nI 0)], [], m)) rfl ?_
            refine dx_fgt [.ref 0, .long (nf (fun (j : Nat) (v : Int64) => 31 * v + (m.1 4 (12 * i + j)).toInt64) 0 (31 * u + (m.1 3 i).toInt64)), .null, .int ((nI i) + 1), .null] (And.intro (Or.inr rfl) (And.intro (Or.inr rfl) (And.intro (Or.inl rfl) (And.intro (Or.inr rfl) (And.intro (Or.inl rfl) trivial))))) ?_
            first | (rw [show szN (m.1 3 i) = 0 by rw [e]; rfl, nI_succ] at hk; exact hk) | (rw [show szN (m.1 3 i) = z by rw [e]; exact szN_z hz1, nI_succ] at hk; exact hk)
        · refine dx_blk 0 (c' := (187, [.ref 0, .long ((31 * u) + ((m.1 3 i).toInt64)), .null, .int (nI i), .int 0], [], m)) rfl ?_
          refine dx_blk 0 (c' := (187, [.ref 0, .long (31 * u + (m.1 3 i).toInt64), .null, .int (nI i), .int (nI 0)], [], m)) rfl ?_
          refine dx_for (fun (j : Nat) (v : Int64) => ((187, [.ref 0, .long v, .null, .int (nI i), .int (nI j)], [], m) : dx_F)) (fun (j : Nat) (v : Int64) => 31 * v + (m.1 4 (12 * i + j)).toInt64) (fun _ _ => True) z (31 * u + (m.1 3 i).toInt64) trivial (fun j v hi hI hk => ?_) (fun _ _ _ _ => trivial) (fun hN => ?_)
          · refine dx_blk 0 (c' := (187, [.ref 0, .long v, .null, .int (nI i), .int (nI j)], [], m)) rfl ?_
            refine dx_blk 4 (c' := (194, [.ref 0, .long v, .null, .int (nI i), .int (nI j)], [.int (nI i), .ref 3, .int (nI j)], m)) rfl ?_
            refine dx_aldN i rfl rfl rfl rfl (by omega) ?_
            refine dx_blk 0 (c' := (195, [.ref 0, .long v, .null, .int (nI i), .int (nI j)], [.int (m.1 3 i), .int (nI j)], m)) rfl ?_
            refine dx_br (q := (m.1 3 i) ≤ (nI j)) (a := 224) (b := 198) (L := [.ref 0, .long v, .null, .int (nI i), .int (nI j)]) (st := []) (m := m) rfl (fun h => absurd h (by rw [e]; exact nI_ge hi (by omega))) (fun _ => ?_)
            refine dx_blk 10 (c' := (214, [.ref 0, .long v, .null, .int (nI i), .int (nI j)], [.int ((12 * (nI i)) + (nI j)), .ref 4, .long (31 * v)], m)) rfl ?_
            refine dx_bldN (12 * i + j) rfl rfl (Or.inl rfl) (nI_ix2 i j) (by omega) ?_
            refine dx_blk 0 (c' := (215, [.ref 0, .long v, .null, .int (nI i), .int (nI j)], [.int (m.1 4 (12 * i + j)), .long (31 * v)], m)) rfl ?_
            refine dx_blk 5 (c' := (187, [.ref 0, .long ((31 * v) + ((m.1 4 (12 * i + j)).toInt64)), .null, .int (nI i), .int ((nI j) + 1)], [], m)) rfl ?_
            rw [← nI_succ]
            exact hk
          · refine dx_blk 0 (c' := (187, [.ref 0, .long (nf (fun (j : Nat) (v : Int64) => 31 * v + (m.1 4 (12 * i + j)).toInt64) z (31 * u + (m.1 3 i).toInt64)), .null, .int (nI i), .int (nI z)], [], m)) rfl ?_
            refine dx_blk 4 (c' := (194, [.ref 0, .long (nf (fun (j : Nat) (v : Int64) => 31 * v + (m.1 4 (12 * i + j)).toInt64) z (31 * u + (m.1 3 i).toInt64)), .null, .int (nI i), .int (nI z)], [.int (nI i), .ref 3, .int (nI z)], m)) rfl ?_
            refine dx_aldN i rfl rfl rfl rfl (by omega) ?_
            refine dx_blk 0 (c' := (195, [.ref 0, .long (nf (fun (j : Nat) (v : Int64) => 31 * v + (m.1 4 (12 * i + j)).toInt64) z (31 * u + (m.1 3 i).toInt64)), .null, .int (nI i), .int (nI z)], [.int (m.1 3 i), .int (nI z)], m)) rfl ?_
            refine dx_br (q := (m.1 3 i) ≤ (nI z)) (a := 224) (b := 198) (L := [.ref 0, .long (nf (fun (j : Nat) (v : Int64) => 31 * v + (m.1 4 (12 * i + j)).toInt64) z (31 * u + (m.1 3 i).toInt64)), .null, .int (nI i), .int (nI z)]) (st := []) (m := m) rfl (fun _ => ?_) (fun h => absurd (by rw [e]; exact nI_le (Nat.le_refl _) (by omega)) h)
            refine dx_blk 2 (c' := (164, [.ref 0, .long (nf (fun (j : Nat) (v : Int64) => 31 * v + (m.1 4 (12 * i + j)).toInt64) z (31 * u + (m.1 3 i).toInt64)), .null, .int ((nI i) + 1), .int (nI z)], [], m)) rfl ?_
            refine dx_fgt [.ref 0, .long (nf (fun (j : Nat) (v : Int64) => 31 * v + (m.1 4 (12 * i + j)).toInt64) z (31 * u + (m.1 3 i).toInt64)), .null, .int ((nI i) + 1), .null] (And.intro (Or.inr rfl) (And.intro (Or.inr rfl) (And.intro (Or.inl rfl) (And.intro (Or.inr rfl) (And.intro (Or.inl rfl) trivial))))) ?_
            first | (rw [show szN (m.1 3 i) = 0 by rw [e]; rfl, nI_succ] at hk; exact hk) | (rw [show szN (m.1 3 i) = z by rw [e]; exact szN_z hz1, nI_succ] at hk; exact hk)
      · refine dx_blk 0 (c' := (164, [.ref 0, .long (nf (fun (i : Nat) (u : Int64) => nf (fun (j : Nat) (v : Int64) => 31 * v + (m.1 4 (12 * i + j)).toInt64) (szN (m.1 3 i)) (31 * u + (m.1 3 i).toInt64)) 6 (nf (fun (i : Nat) (u : Int64) => if thM m i = true then nf (fun (w : Nat) (v : Int64) => 31 * v + (factM m i (nI w)).toInt64) 5 u else 31 * u + -1) E (31 * (nf (fun (y : Nat) (u : Int64) => nf (fun (x : Nat) (v : Int64) => 31 * v + (m.1 2 (12 * y + x)).toInt64) W u) H (31 * (527 + (m.1 0 4).toInt64) + (m.1 0 5).toInt64)) + (m.1 0 6).toInt64))), .null, .int (nI 6), .null], [], m)) rfl ?_
        refine dx_blk 2 (c' := (167, [.ref 0, .long (nf (fun (i : Nat) (u : Int64) => nf (fun (j : Nat) (v : Int64) => 31 * v + (m.1 4 (12 * i + j)).toInt64) (szN (m.1 3 i)) (31 * u + (m.1 3 i).toInt64)) 6 (nf (fun (i : Nat) (u : Int64) => if thM m i = true then nf (fun (w : Nat) (v : Int64) => 31 * v + (factM m i (nI w)).toInt64) 5 u else 31 * u + -1) E (31 * (nf (fun (y : Nat) (u : Int64) => nf (fun (x : Nat) (v : Int64) => 31 * v + (m.1 2 (12 * y + x)).toInt64) W u) H (31 * (527 + (m.1 0 4).toInt64) + (m.1 0 5).toInt64)) + (m.1 0 6).toInt64))), .null, .int (nI 6), .null], [.int 6, .int (nI 6)], m)) rfl ?_
        refine dx_br (q := 6 ≤ (nI 6)) (a := 230) (b := 170) (L := [.ref 0, .long (nf (fun (i : Nat) (u : Int64) => nf (fun (j : Nat) (v : Int64) => 31 * v + (m.1 4 (12 * i + j)).toInt64) (szN (m.1 3 i)) (31 * u + (m.1 3 i).toInt64)) 6 (nf (fun (i : Nat) (u : Int64) => if thM m i = true then nf (fun (w : Nat) (v : Int64) => 31 * v + (factM m i (nI w)).toInt64) 5 u else 31 * u + -1) E (31 * (nf (fun (y : Nat) (u : Int64) => nf (fun (x : Nat) (v : Int64) => 31 * v + (m.1 2 (12 * y + x)).toInt64) W u) H (31 * (527 + (m.1 0 4).toInt64) + (m.1 0 5).toInt64)) + (m.1 0 6).toInt64))), .null, .int (nI 6), .null]) (st := []) (m := m) rfl (fun _ => ?_) (fun h => absurd (nI_le (Nat.le_refl _) (by decide)) h)
        refine dx_blk 1 (c' := (231, [.ref 0, .long (nf (fun (i : Nat) (u : Int64) => nf (fun (j : Nat) (v : Int64) => 31 * v + (m.1 4 (12 * i + j)).toInt64) (szN (m.1 3 i)) (31 * u + (m.1 3 i).toInt64)) 6 (nf (fun (i : Nat) (u : Int64) => if thM m i = true then nf (fun (w : Nat) (v : Int64) => 31 * v + (factM m i (nI w)).toInt64) 5 u else 31 * u + -1) E (31 * (nf (fun (y : Nat) (u : Int64) => nf (fun (x : Nat) (v : Int64) => 31 * v + (m.1 2 (12 * y + x)).toInt64) W u) H (31 * (527 + (m.1 0 4).toInt64) + (m.1 0 5).toInt64)) + (m.1 0 6).toInt64))), .null, .int (nI 6), .null], [.long (nf (fun (i : Nat) (u : Int64) => nf (fun (j : Nat) (v : Int64) => 31 * v + (m.1 4 (12 * i + j)).toInt64) (szN (m.1 3 i)) (31 * u + (m.1 3 i).toInt64)) 6 (nf (fun (i : Nat) (u : Int64) => if thM m i = true then nf (fun (w : Nat) (v : Int64) => 31 * v + (factM m i (nI w)).toInt64) 5 u else 31 * u + -1) E (31 * (nf (fun (y : Nat) (u : Int64) => nf (fun (x : Nat) (v : Int64) => 31 * v + (m.1 2 (12 * y + x)).toInt64) W u) H (31 * (527 + (m.1 0 4).toInt64) + (m.1 0 5).toInt64)) + (m.1 0 6).toInt64)))], m)) rfl ?_
        exact dx_ret (r := some (.long (nf (fun (i : Nat) (u : Int64) => nf (fun (j : Nat) (v : Int64) => 31 * v + (m.1 4 (12 * i + j)).toInt64) (szN (m.1 3 i)) (31 * u + (m.1 3 i).toInt64)) 6 (nf (fun (i : Nat) (u : Int64) => if thM m i = true then nf (fun (w : Nat) (v : Int64) => 31 * v + (factM m i (nI w)).toInt64) 5 u else 31 * u + -1) E (31 * (nf (fun (y : Nat) (u : Int64) => nf (fun (x : Nat) (v : Int64) => 31 * v + (m.1 2 (12 * y + x)).toInt64) W u) H (31 * (527 + (m.1 0 4).toInt64) + (m.1 0 5).toInt64)) + (m.1 0 6).toInt64))))) rfl h
end
section
/-! rows on bits, shifts and unsigned numbers, to paste: each family out of a closed proof of our own, whole with what it rests on; each by itself clean at Lean in its own claim (generation 39, form 5). Take a family whole -/
/-! ===== Int32 by its bits: bt x i ===== -/
def bt (x : Int32) (i : Nat) : Bool := x.toBitVec.getLsbD i
theorem b_ext {x y : Int32} (h : ∀ i, i < 32 → bt x i = bt y i) : x = y := Int32.toBitVec_inj.mp (BitVec.eq_of_getLsbD_eq (fun i hi => h i hi))
theorem b_or (x y : Int32) (i : Nat) : bt (x ||| y) i = (bt x i || bt y i) := by unfold bt; rw [Int32.toBitVec_or, BitVec.getLsbD_or]
theorem b_and (x y : Int32) (i : Nat) : bt (x &&& y) i = (bt x i && bt y i) := by unfold bt; rw [Int32.toBitVec_and, BitVec.getLsbD_and]
theorem b_xor (x y : Int32) (i : Nat) : bt (x ^^^ y) i = (bt x i ^^ bt y i) := by unfold bt; rw [Int32.toBitVec_xor, BitVec.getLsbD_xor]
theorem b_big {x : Int32} {i : Nat} (h : 32 ≤ i) : bt x i = false := BitVec.getLsbD_of_ge _ _ h
theorem b_255 (i : Nat) : bt 255 i = decide (i < 8) := by
  rcases Nat.lt_or_ge i 32 with h | h
  · exact (by decide +kernel : ∀ i, i < 32 → bt 255 i = decide (i < 8)) i h
  · rw [b_big h, decide_eq_false (by omega)]
theorem b_65535 (i : Nat) : bt 65535 i = decide (i < 16) := by
  rcases Nat.lt_or_ge i 32 with h | h
  · exact (by decide +kernel : ∀ i, i < 32 → bt 65535 i = decide (i < 16)) i h
  · rw [b_big h, decide_eq_false (by omega)]
theorem b_m1 : ∀ i, i < 32 → bt (-1) i = true := by decide +kernel
theorem b_0 (i : Nat) : bt 0 i = false := BitVec.getLsbD_zero
theorem s_l : ∀ n, n < 32 → ((nI n &&& 31).toBitVec.smod 32).toNat = n := by decide +kernel
theorem s_u : ∀ n, n < 32 → (((nI n).toUInt32 &&& Int32.toUInt32 31).toBitVec % 32).toNat = n := by decide +kernel
theorem b_shl (n : Nat) (hn : n < 32) (x : Int32) {i : Nat} (hi : i < 32) : bt (x <<< (nI n &&& 31)) i = (decide (n ≤ i) && bt x (i - n)) := by
  unfold bt
  rw [Int32.toBitVec_shiftLeft]
  show (x.toBitVec <<< ((nI n &&& 31).toBitVec.smod 32).toNat).getLsbD i = _
  rw [s_l n hn, BitVec.getLsbD_shiftLeft]
  rcases Nat.lt_or_ge i n with h | h
  · simp [h, Nat.not_le.mpr h]
  · simp [hi, h, Nat.not_lt.mpr h]
theorem b_ushr (n : Nat) (hn : n < 32) (x : Int32) (i : Nat) : bt ((x.toUInt32 >>> ((nI n).toUInt32 &&& Int32.toUInt32 31)).toInt32) i = bt x (n + i) := by
  show (x.toUInt32 >>> ((nI n).toUInt32 &&& Int32.toUInt32 31)).toBitVec.getLsbD i = x.toUInt32.toBitVec.getLsbD (n + i)
  rw [UInt32.toBitVec_shiftRight]
  show (x.toUInt32.toBitVec >>> (((nI n).toUInt32 &&& Int32.toUInt32 31).toBitVec % 32).toNat).getLsbD i = _
  rw [s_u n hn, BitVec.getLsbD_ushiftRight]
theorem b_sshr (n : Nat) (hn : n < 32) (x : Int32) {i : Nat} (hi : i < 32) : bt (x >>> (nI n &&& 31)) i = if n + i < 32 then bt x (n + i) else bt x 31 := by
  unfold bt
  rw [Int32.toBitVec_shiftRight]
  show (x.toBitVec.sshiftRight ((nI n &&& 31).toBitVec.smod 32).toNat).getLsbD i = _
  rw [s_l n hn, BitVec.getLsbD_sshiftRight, BitVec.msb_eq_getLsbD_last]
  simp [hi]
end
section
/-! Lie: rows of bits, plain (printed by wip/whole/g20.py) -/
def trA (t x y sa su : Int32) : Int32 := if t = 1 then su - y else if t = 2 then sa - x else if t = 3 then y else x
def trU (t x y sa su : Int32) : Int32 := if t = 1 then x else if t = 2 then su - y else if t = 3 then sa - x else y
def bcI (x : Int32) : Int32 :=
  let a := x - ((x.toUInt32 >>> ((1 : Int32).toUInt32 &&& Int32.toUInt32 31)).toInt32 &&& 1431655765)
  let b := (a &&& 858993459) + ((a.toUInt32 >>> ((2 : Int32).toUInt32 &&& Int32.toUInt32 31)).toInt32 &&& 858993459)
  let c := (b + (b.toUInt32 >>> ((4 : Int32).toUInt32 &&& Int32.toUInt32 31)).toInt32) &&& 252645135
  let e := c + (c.toUInt32 >>> ((8 : Int32).toUInt32 &&& Int32.toUInt32 31)).toInt32
  let f := e + (e.toUInt32 >>> ((16 : Int32).toUInt32 &&& Int32.toUInt32 31)).toInt32
  f &&& 63
def wyI (w y : Int32) : Int32 := if y = 0 then ((1 : Int32) <<< (w &&& 31)) - 1 else 1 ||| ((1 : Int32) <<< ((w - 1) &&& 31))
def fmI (w v : Int32) : Int32 := (((1 : Int32) <<< (w &&& 31)) - 1) &&& (v ^^^ (-1))
def st_hv (p : Int32) (x : Nat) (s : Int32) : Int32 := s + ((p >>> (nI x &&& 31)) &&& 1) * (2 * nI x + 1)
def st_fb (w : Int32) (f : Nat → Int32) (y : Nat) (s : Int32) : Int32 := s + bcI (fmI w (f y))
/-- a row of the flood, once looked at -/
def rwI (o f : Nat → Int32) (r y : Nat) : Int32 := ((((f y ||| (f y <<< ((1 : Int32) &&& 31))) ||| (f y >>> ((1 : Int32) &&& 31))) ||| (if 0 < y then f (y - 1) else 0)) ||| (if y < r then f (y + 1) else 0)) &&& o y
def psI (o : Nat → Int32) (r y : Nat) (s : (Nat → Int32) × Bool) : (Nat → Int32) × Bool := (upd s.1 y (rwI o s.1 r y), s.2 || decide (¬ rwI o s.1 r y = s.1 y))
def spI (o : Nat → Int32) (r : Nat) : Nat → (Nat → Int32) → Nat → Int32
  | 0, f => f
  | n + 1, f => if (nf (psI o r) (r + 1) (f, false)).2 = true then spI o r n (nf (psI o r) (r + 1) (f, false)).1 else (nf (psI o r) (r + 1) (f, false)).1
theorem spI_t {o : Nat → Int32} {r n : Nat} {f : Nat → Int32} (h : (nf (psI o r) (r + 1) (f, false)).2 = true) : spI o r (n + 1) f = spI o r n (nf (psI o r) (r + 1) (f, false)).1 := by
  show (if _ then _ else _) = _
  rw [if_pos h]
theorem spI_f {o : Nat → Int32} {r n : Nat} {f : Nat → Int32} (h : (nf (psI o r) (r + 1) (f, false)).2 = false) : spI o r (n + 1) f = (nf (psI o r) (r + 1) (f, false)).1 := by
  show (if _ then _ else _) = _
  rw [if_neg (by rw [h]; decide)]
theorem bI_o0 (b : Bool) : bI b ||| 0 = bI (b || false) := by cases b <;> rfl
theorem bI_o1 (b : Bool) : bI b ||| 1 = bI (b || true) := by cases b <;> rfl
theorem bI_or (a b : Bool) : bI a ||| bI b = bI (a || b) := by cases a <;> cases b <;> rfl
set_option maxRecDepth 20000 in
theorem sX3_turnedAcross {lay : List dx_Cell} {d : Nat} (t x y sa su : Int32) (m : dx_M) {Z : Option Value → dx_M → Prop} (h : Z (some (.int (trA t x y sa su))) m) : dx_Sem dx_P lay (d + 1) 80 [.int t, .int x, .int y, .int sa, .int su] m Z := by
  refine dx_sem km_X3_turnedAcross rfl rfl ?_
  refine dx_blk 0 (c' := (0, [.int t, .int x, .int y, .int sa, .int su], [], m)) rfl ?_
  refine dx_blk 1 (c' := (1, [.int t, .int x, .int y, .int sa, .int su], [.int t], m)) rfl ?_
  refine dx_br (q := t = 1) (a := 28) (b := (if t = 2 then 33 else (if t = 3 then 37 else 39))) (L := [.int t, .int x, .int y, .int sa, .int su]) (st := []) (m := m) rfl (fun h100 => ?_) (fun h100 => ?_)
  · refine dx_blk 3 (c' := (32, [.int t, .int x, .int y, .int sa, .int su], [.int (su - y)], m)) rfl ?_
    exact dx_ret (r := some (.int (su - y))) rfl (by simpa [trA, *] using h)
  · refine dx_sp (q := t = 2) (fun h101 => ?_) (fun h101 => ?_)
    · refine dx_blk 3 (c' := (36, [.int t, .int x, .int y, .int sa, .int su], [.int (sa - x)], m)) rfl ?_
      exact dx_ret (r := some (.int (sa - x))) rfl (by simpa [trA, *] using h)
    · refine dx_sp (q := t = 3) (fun h102 => ?_) (fun h102 => ?_)
      · refine dx_blk 1 (c' := (38, [.int t, .int x, .int y, .int sa, .int su], [.int y], m)) rfl ?_
        exact dx_ret (r := some (.int y)) rfl (by simpa [trA, *] using h)
      · refine dx_blk 1 (c' := (40, [.int t, .int x, .int y, .int sa, .int su], [.int x], m)) rfl ?_
        exact dx_ret (r := some (.int x)) rfl (by simpa [trA, *] using h)
set_option maxRecDepth 20000 in
theorem sX3_turnedUp {lay : List dx_Cell} {d : Nat} (t x y sa su : Int32) (m : dx_M) {Z : Option Value → dx_M → Prop} (h : Z (some (.int (trU t x y sa su))) m) : dx_Sem dx_P lay (d + 1) 81 [.int t, .int x, .int y, .int sa, .int su] m Z := by
  refine dx_sem km_X3_turnedUp rfl rfl ?_
  refine dx_blk 0 (c' := (0, [.int t, .int x, .int y, .int sa, .int su], [], m)) rfl ?_
  refine dx_blk 1 (c' := (1, [.int t, .int x, .int y, .int sa, .int su], [.int t], m)) rfl ?_
  refine dx_br (q := t = 1) (a := 28) (b := (if t = 2 then 30 else (if t = 3 then 35 else 39))) (L := [.int t, .int x, .int y, .int sa, .int su]) (st := []) (m := m) rfl (fun h100 => ?_) (fun h100 => ?_)
  · refine dx_blk 1 (c' := (29, [.int t, .int x, .int y, .int sa, .int su], [.int x], m)) rfl ?_
    exact dx_ret (r := some (.int x)) rfl (by simpa [trU, *] using h)
  · refine dx_sp (q := t = 2) (fun h101 => ?_) (fun h101 => ?_)
    · refine dx_blk 3 (c' := (34, [.int t, .int x, .int y, .int sa, .int su], [.int (su - y)], m)) rfl ?_
      exact dx_ret (r := some (.int (su - y))) rfl (by simpa [trU, *] using h)
    · refine dx_sp (q := t = 3) (fun h102 => ?_) (fun h102 => ?_)
      · refine dx_blk 3 (c' := (38, [.int t, .int x, .int y, .int sa, .int su], [.int (sa - x)], m)) rfl ?_
        exact dx_ret (r := some (.int (sa - x))) rfl (by simpa [trU, *] using h)
      · refine dx_blk 1 (c' := (40, [.int t, .int x, .int y, .int sa, .int su], [.int y], m)) rfl ?_
        exact dx_ret (r := some (.int y)) rfl (by simpa [trU, *] using h)
set_option maxRecDepth 20000 in
theorem sJ6_bitCount {lay : List dx_Cell} {d : Nat} (x : Int32) (m : dx_M) {Z : Option Value → dx_M → Prop} (h : Z (some (.int (bcI x))) m) : dx_Sem dx_P lay (d + 1) 143 [.int x] m Z := by
  refine dx_sem km_J6_bitCount_0f7a4 rfl rfl ?_
  refine dx_blk 0 (c' := (0, [.int x], [], m)) rfl ?_
  refine dx_blk 7 (c' := (9, [.int x], [.int (x - (((x.toUInt32 >>> ((1 : Int32).toUInt32 &&& Int32.toUInt32 31)).toInt32) &&& 1431655765))], m)) rfl ?_
  refine dx_nmI (fun i1 e_i1 => ?_)
  refine dx_blk 10 (c' := (23, [.int i1], [.int ((i1 &&& 858993459) + (((i1.toUInt32 >>> ((2 : Int32).toUInt32 &&& Int32.toUInt32 31)).toInt32) &&& 858993459))], m)) rfl ?_
  refine dx_nmI (fun i2 e_i2 => ?_)
  refine dx_blk 8 (c' := (33, [.int i2], [.int ((i2 + ((i2.toUInt32 >>> ((4 : Int32).toUInt32 &&& Int32.toUInt32 31)).toInt32)) &&& 252645135)], m)) rfl ?_
  refine dx_nmI (fun i3 e_i3 => ?_)
  refine dx_blk 6 (c' := (40, [.int i3], [.int (i3 + ((i3.toUInt32 >>> ((8 : Int32).toUInt32 &&& Int32.toUInt32 31)).toInt32))], m)) rfl ?_
  refine dx_nmI (fun i4 e_i4 => ?_)
  refine dx_blk 6 (c' := (47, [.int i4], [.int (i4 + ((i4.toUInt32 >>> ((16 : Int32).toUInt32 &&& Int32.toUInt32 31)).toInt32))], m)) rfl ?_
  refine dx_nmI (fun i5 e_i5 => ?_)
  refine dx_blk 4 (c' := (52, [.int i5], [.int (i5 &&& 63)], m)) rfl ?_
  exact dx_ret (r := some (.int (i5 &&& 63))) rfl (by rw [e_i5, e_i4, e_i3, e_i2, e_i1]; exact h)
set_option maxRecDepth 20000 in
theorem sX1_waysInto {d : Nat} (m : dx_M) (y : Int32) {Z : Option Value → dx_M → Prop} (h : Z (some (.int (wyI (m.1 3 2) y))) m) : dx_Sem dx_P lx_X (d + 1) 12 [.ref 3, .int y] m Z := by
  refine dx_sem km_X1_waysInto rfl rfl ?_
  refine dx_blk 0 (c' := (0, [.ref 3, .int y, .null, .null], [], m)) rfl ?_
  refine dx_blk 17 (c' := (21, [.ref 3, .int y, .int (((1 : Int32) <<< ((m.1 3 2) &&& 31)) - 1), .int (1 ||| ((1 : Int32) <<< (((m.1 3 2) - 1) &&& 31)))], [.int y], m)) rfl ?_
  refine dx_br (q := y = 0) (a := 24) (b := 28) (L := [.ref 3, .int y, .int (((1 : Int32) <<< ((m.1 3 2) &&& 31)) - 1), .int (1 ||| ((1 : Int32) <<< (((m.1 3 2) - 1) &&& 31)))]) (st := []) (m := m) rfl (fun h21 => ?_) (fun h21 => ?_)
  · refine dx_blk 2 (c' := (29, [.ref 3, .int y, .int (((1 : Int32) <<< ((m.1 3 2) &&& 31)) - 1), .int (1 ||| ((1 : Int32) <<< (((m.1 3 2) - 1) &&& 31)))], [.int (((1 : Int32) <<< ((m.1 3 2) &&& 31)) - 1)], m)) rfl ?_
    exact dx_ret (r := some (.int (((1 : Int32) <<< ((m.1 3 2) &&& 31)) - 1))) rfl (by simpa [wyI, *] using h)
  · refine dx_blk 1 (c' := (29, [.ref 3, .int y, .int (((1 : Int32) <<< ((m.1 3 2) &&& 31)) - 1), .int (1 ||| ((1 : Int32) <<< (((m.1 3 2) - 1) &&& 31)))], [.int (1 ||| ((1 : Int32) <<< (((m.1 3 2) - 1) &&& 31)))], m)) rfl ?_
    exact dx_ret (r := some (.int (1 ||| ((1 : Int32) <<< (((m.1 3 2) - 1) &&& 31))))) rfl (by simpa [wyI, *] using h)
set_option maxRecDepth 20000 in
theorem sX1_firm {d : Nat} (m : dx_M) {b : Nat} (hb : b < 12) {Z : Option Value → dx_M → Prop} (h : Z (some (.int (fmI (m.1 3 2) (m.1 5 b)))) m) : dx_Sem dx_P lx_X (d + 1) 14 [.ref 3, .int (nI b)] m Z := by
  refine dx_sem km_X1_firm rfl rfl ?_
  refine dx_blk 0 (c' := (0, [.ref 3, .int (nI b)], [], m)) rfl ?_
  refine dx_blk 9 (c' := (13, [.ref 3, .int (nI b)], [.int (nI b), .ref 5, .int (((1 : Int32) <<< ((m.1 3 2) &&& 31)) - 1)], m)) rfl ?_
  refine dx_aldN b rfl rfl rfl rfl (by omega) ?_
  refine dx_blk 0 (c' := (14, [.ref 3, .int (nI b)], [.int (m.1 5 b), .int (((1 : Int32) <<< ((m.1 3 2) &&& 31)) - 1)], m)) rfl ?_
  refine dx_blk 3 (c' := (17, [.ref 3, .int (nI b)], [.int ((((1 : Int32) <<< ((m.1 3 2) &&& 31)) - 1) &&& ((m.1 5 b) ^^^ (-1)))], m)) rfl ?_
  exact dx_ret (r := some (.int ((((1 : Int32) <<< ((m.1 3 2) &&& 31)) - 1) &&& ((m.1 5 b) ^^^ (-1))))) rfl h
set_option maxRecDepth 20000 in
theorem sX1_halves {d : Nat} (m : dx_M) {w : Nat} (hw : w ≤ 12) (ew : m.1 3 2 = nI w) (p : Int32) {Z : Option Value → dx_M → Prop} (h : Z (some (.int (nf (st_hv p) w 0))) m) : dx_Sem dx_P lx_X (d + 1) 19 [.ref 3, .int p] m Z := by
  refine dx_sem km_X1_halves rfl rfl ?_
  refine dx_blk 0 (c' := (0, [.ref 3, .int p, .null, .null], [], m)) rfl ?_
  refine dx_blk 4 (c' := (4, [.ref 3, .int p, .int 0, .int 0], [], m)) rfl ?_
  refine dx_blk 0 (c' := (4, [.ref 3, .int p, .int 0, .int (nI 0)], [], m)) rfl ?_
  refine dx_for (fun (x : Nat) (s : Int32) => ((4, [.ref 3, .int p, .int s, .int (nI x)], [], m) : dx_F)) (st_hv p) (fun _ _ => True) w 0 trivial (fun x s hi hI hk => ?_) (fun _ _ _ _ => trivial) (fun hN => ?_)
  · refine dx_blk 0 (c' := (4, [.ref 3, .int p, .int s, .int (nI x)], [], m)) rfl ?_
    refine dx_blk 3 (c' := (9, [.ref 3, .int p, .int s, .int (nI x)], [.int (m.1 3 2), .int (nI x)], m)) rfl ?_
    refine dx_br (q := (m.1 3 2) ≤ (nI x)) (a := 32) (b := 12) (L := [.ref 3, .int p, .int s, .int (nI x)]) (st := []) (m := m) rfl (fun h => absurd h (by rw [show m.1 3 2 = nI w from ew]; exact nI_ge hi (by omega))) (fun _ => ?_)
    refine dx_blk 16 (c' := (4, [.ref 3, .int p, .int (s + (((p >>> ((nI x) &&& 31)) &&& 1) * ((2 * (nI x)) + 1))), .int ((nI x) + 1)], [], m)) rfl ?_
    rw [← nI_succ]
    exact hk
  · refine dx_blk 0 (c' := (4, [.ref 3, .int p, .int (nf (st_hv p) w 0), .int (nI w)], [], m)) rfl ?_
    refine dx_blk 3 (c' := (9, [.ref 3, .int p, .int (nf (st_hv p) w 0), .int (nI w)], [.int (m.1 3 2), .int (nI w)], m)) rfl ?_
    refine dx_br (q := (m.1 3 2) ≤ (nI w)) (a := 32) (b := 12) (L := [.ref 3, .int p, .int (nf (st_hv p) w 0), .int (nI w)]) (st := []) (m := m) rfl (fun _ => ?_) (fun h => absurd (by rw [show m.1 3 2 = nI w from ew]; exact nI_le (Nat.le_refl _) (by omega)) h)
    refine dx_blk 1 (c' := (33, [.ref 3, .int p, .int (nf (st_hv p) w 0), .int (nI w)], [.int (nf (st_hv p) w 0)], m)) rfl ?_
    exact dx_ret (r := some (.int (nf (st_hv p) w 0))) rfl h
theorem dx_pI_pI (m : dx_M) (k j : Nat) (u v : Int32) : dx_pI (dx_pI m k j u) k j v = dx_pI m k j v := by
  unfold dx_pI
  rw [dx_pR_pR]
  congr 1
  show upd (if k = k then _ else _) j v = _
  rw [if_pos rfl, fa_upd_twice]
set_option maxRecDepth 20000 in
theorem sX1_countFirm {d : Nat} (m : dx_M) {r : Nat} (hr : r < 12) (er : m.1 3 4 = nI r) {Z : Option Value → dx_M → Prop} (h : Z none (dx_pI (dx_pI m 3 5 (nf (st_fb (m.1 3 2) (m.1 5)) r 0)) 3 6 (bcI (fmI (m.1 3 2) (m.1 5 r))))) : dx_Sem dx_P lx_X (d + 2) 15 [.ref 3] m Z := by
  refine dx_sem km_X1_countFirm rfl rfl ?_
  refine dx_blk 0 (c' := (0, [.ref 3, .null], [], m)) rfl ?_
  refine dx_blk 5 (c' := (7, [.ref 3, .int 0], [], dx_pI m 3 5 0)) rfl ?_
  refine dx_blk 0 (c' := (7, [.ref 3, .int (nI 0)], [], dx_pI m 3 5 0)) rfl ?_
  refine dx_for (fun (y : Nat) (s : Int32) => ((7, [.ref 3, .int (nI y)], [], dx_pI m 3 5 s) : dx_F)) (st_fb (m.1 3 2) (m.1 5)) (fun _ _ => True) r 0 trivial (fun y s hi hI hk => ?_) (fun _ _ _ _ => trivial) (fun hN => ?_)
  · refine dx_blk 0 (c' := (7, [.ref 3, .int (nI y)], [], dx_pI m 3 5 s)) rfl ?_
    refine dx_blk 3 (c' := (12, [.ref 3, .int (nI y)], [.int (m.1 3 4), .int (nI y)], dx_pI m 3 5 s)) rfl ?_
    refine dx_br (q := (m.1 3 4) ≤ (nI y)) (a := 38) (b := 15) (L := [.ref 3, .int (nI y)]) (st := []) (m := dx_pI m 3 5 s) rfl (fun h => absurd h (by rw [show m.1 3 4 = nI r from er]; exact nI_ge hi (by omega))) (fun _ => ?_)
    refine dx_blk 5 (c' := (22, [.ref 3, .int (nI y)], [.int (nI y), .ref 3, .int s, .ref 3], dx_pI m 3 5 s)) rfl ?_
    refine dx_call (id := 14) (as := [.ref 3, .int (nI y)]) (rest := [.int s, .ref 3]) rfl ?_
    refine sX1_firm _ (b := y) (by omega) ?_
    refine dx_blk 0 (c' := (25, [.ref 3, .int (nI y)], [.int (fmI (m.1 3 2) (m.1 5 y)), .int s, .ref 3], dx_pI m 3 5 s)) rfl ?_
    refine dx_call (id := 143) (as := [.int (fmI (m.1 3 2) (m.1 5 y))]) (rest := [.int s, .ref 3]) rfl ?_
    refine sJ6_bitCount (fmI (m.1 3 2) (m.1 5 y)) _ ?_
    refine dx_blk 0 (c' := (28, [.ref 3, .int (nI y)], [.int (bcI (fmI (m.1 3 2) (m.1 5 y))), .int s, .ref 3], dx_pI m 3 5 s)) rfl ?_
    refine dx_blk 4 (c' := (7, [.ref 3, .int ((nI y) + 1)], [], dx_pI (dx_pI m 3 5 s) 3 5 (s + (bcI (fmI (m.1 3 2) (m.1 5 y)))))) rfl ?_
    refine dx_mem (m' := dx_pI m 3 5 (s + bcI (fmI (m.1 3 2) (m.1 5 y)))) (dx_pI_pI _ _ _ _ _) ?_
    rw [← nI_succ]
    exact hk
  · refine dx_blk 0 (c' := (7, [.ref 3, .int (nI r)], [], dx_pI m 3 5 (nf (st_fb (m.1 3 2) (m.1 5)) r 0))) rfl ?_
    refine dx_blk 3 (c' := (12, [.ref 3, .int (nI r)], [.int (m.1 3 4), .int (nI r)], dx_pI m 3 5 (nf (st_fb (m.1 3 2) (m.1 5)) r 0))) rfl ?_
    refine dx_br (q := (m.1 3 4) ≤ (nI r)) (a := 38) (b := 15) (L := [.ref 3, .int (nI r)]) (st := []) (m := dx_pI m 3 5 (nf (st_fb (m.1 3 2) (m.1 5)) r 0)) rfl (fun _ => ?_) (fun h => absurd (by rw [show m.1 3 4 = nI r from er]; exact nI_le (Nat.le_refl _) (by omega)) h)
    refine dx_blk 3 (c' := (43, [.ref 3, .int (nI r)], [.int (m.1 3 4), .ref 3], dx_pI m 3 5 (nf (st_fb (m.1 3 2) (m.1 5)) r 0))) rfl ?_
    refine dx_br (q := 0 ≤ (m.1 3 4)) (a := 50) (b := 46) (L := [.ref 3, .int (nI r)]) (st := [.ref 3]) (m := dx_pI m 3 5 (nf (st_fb (m.1 3 2) (m.1 5)) r 0)) rfl (fun _ => ?_) (fun h => absurd (by rw [show m.1 3 4 = nI r from er]; exact nI_pos' (by omega)) h)
    refine dx_blk 3 (c' := (55, [.ref 3, .int (nI r)], [.int (m.1 3 4), .ref 3, .ref 3], dx_pI m 3 5 (nf (st_fb (m.1 3 2) (m.1 5)) r 0))) rfl ?_
    refine dx_call (id := 14) (as := [.ref 3, .int (m.1 3 4)]) (rest := [.ref 3]) rfl ?_
    rw [show m.1 3 4 = nI r from er]
    refine sX1_firm _ (b := r) (by omega) ?_
    refine dx_blk 0 (c' := (58, [.ref 3, .int (nI r)], [.int (fmI (m.1 3 2) (m.1 5 r)), .ref 3], dx_pI m 3 5 (nf (st_fb (m.1 3 2) (m.1 5)) r 0))) rfl ?_
    refine dx_call (id := 143) (as := [.int (fmI (m.1 3 2) (m.1 5 r))]) (rest := [.ref 3]) rfl ?_
    refine sJ6_bitCount (fmI (m.1 3 2) (m.1 5 r)) _ ?_
    refine dx_blk 0 (c' := (61, [.ref 3, .int (nI r)], [.int (bcI (fmI (m.1 3 2) (m.1 5 r))), .ref 3], dx_pI m 3 5 (nf (st_fb (m.1 3 2) (m.1 5)) r 0))) rfl ?_
    refine dx_blk 1 (c' := (64, [.ref 3, .int (nI r)], [], dx_pI (dx_pI m 3 5 (nf (st_fb (m.1 3 2) (m.1 5)) r 0)) 3 6 (bcI (fmI (m.1 3 2) (m.1 5 r))))) rfl ?_
    exact dx_ret (r := none) rfl h
set_option maxRecDepth 20000 in
/-- one pass of the flood -/
theorem lp_spread {d : Nat} (m : dx_M) {Z : Option Value → dx_M → Prop} {r : Nat} (hr : r < 12) (er : m.1 3 4 = nI r) (f : Nat → Int32) (n : Nat) (hn : n ≤ 144) (hk : dx_Go d (dx_Sem dx_P lx_X d) lx_X km_X1_spread Z (4, [.ref 3, .int (bI (nf (psI (m.1 4) r) (r + 1) (f, false)).2), .int (nI (n + 1)), .null, .null], [], dx_pR m 5 (nf (psI (m.1 4) r) (r + 1) (f, false)).1)) : dx_Go d (dx_Sem dx_P lx_X d) lx_X km_X1_spread Z (4, [.ref 3, .int (bI true), .int (nI n), .null, .null], [], dx_pR m 5 f) := by
  refine dx_blk 0 (c' := (4, [.ref 3, .int (bI true), .int (nI n), .null, .null], [], dx_pR m 5 f)) rfl ?_
  refine dx_blk 1 (c' := (5, [.ref 3, .int (bI true), .int (nI n), .null, .null], [.int (bI true)], dx_pR m 5 f)) rfl ?_
  refine dx_br (q := (bI true) = 0) (a := 149) (b := 8) (L := [.ref 3, .int (bI true), .int (nI n), .null, .null]) (st := []) (m := dx_pR m 5 f) rfl (fun h => absurd h (by decide)) (fun _ => ?_)
  refine dx_blk 2 (c' := (12, [.ref 3, .int (bI true), .int (nI n), .null, .null], [.int 144, .int (nI n)], dx_pR m 5 f)) rfl ?_
  refine dx_br (q := 144 < (nI n)) (a := 149) (b := 15) (L := [.ref 3, .int (bI true), .int (nI n), .null, .null]) (st := []) (m := dx_pR m 5 f) rfl (fun h => absurd h (nI_nlt (a := 144) (b := n) (by omega) (by decide))) (fun _ => ?_)
  refine dx_blk 4 (c' := (19, [.ref 3, .int 0, .int (nI n), .int 0, .null], [], dx_pR m 5 f)) rfl ?_
  refine dx_blk 0 (c' := (19, [.ref 3, .int (bI ((f, false)).2), .int (nI n), .int (nI 0), .null], [], dx_pR m 5 (((f, false)).1))) rfl ?_
  refine dx_for (fun (y : Nat) (s : (Nat → Int32) × Bool) => ((19, [.ref 3, .int (bI (s).2), .int (nI n), .int (nI y), .null], [], dx_pR m 5 ((s).1)) : dx_F)) (psI (m.1 4) r) (fun _ _ => True) (r + 1) (f, false) trivial (fun y s hi hI hk => ?_) (fun _ _ _ _ => trivial) (fun hN => ?_)
  · refine dx_blk 0 (c' := (19, [.ref 3, .int (bI (s).2), .int (nI n), .int (nI y), .null], [], dx_pR m 5 ((s).1))) rfl ?_
    refine dx_blk 3 (c' := (24, [.ref 3, .int (bI (s).2), .int (nI n), .int (nI y), .null], [.int (m.1 3 4), .int (nI y)], dx_pR m 5 ((s).1))) rfl ?_
    refine dx_br (q := (m.1 3 4) < (nI y)) (a := 143) (b := 27) (L := [.ref 3, .int (bI (s).2), .int (nI n), .int (nI y), .null]) (st := []) (m := dx_pR m 5 ((s).1)) rfl (fun h => absurd h (by rw [show m.1 3 4 = nI r from er]; exact nI_nlt (by omega) (by omega))) (fun _ => ?_)
    refine dx_blk 3 (c' := (32, [.ref 3, .int (bI (s).2), .int (nI n), .int (nI y), .null], [.int (nI y), .ref 5], dx_pR m 5 ((s).1))) rfl ?_
    refine dx_aldN y rfl rfl rfl rfl (by omega) ?_
    refine dx_blk 0 (c' := (33, [.ref 3, .int (bI (s).2), .int (nI n), .int (nI y), .null], [.int (((s).1) y)], dx_pR m 5 ((s).1))) rfl ?_
    refine dx_blk 3 (c' := (38, [.ref 3, .int (bI (s).2), .int (nI n), .int (nI y), .null], [.int (nI y), .ref 5, .int (((s).1) y)], dx_pR m 5 ((s).1))) rfl ?_
    refine dx_aldN y rfl rfl rfl rfl (by omega) ?_
    refine dx_blk 0 (c' := (39, [.ref 3, .int (bI (s).2), .int (nI n), .int (nI y), .null], [.int (((s).1) y), .int (((s).1) y)], dx_pR m 5 ((s).1))) rfl ?_
    refine dx_blk 6 (c' := (47, [.ref 3, .int (bI (s).2), .int (nI n), .int (nI y), .null], [.int (nI y), .ref 5, .int ((((s).1) y) ||| ((((s).1) y) <<< ((1 : Int32) &&& 31)))], dx_pR m 5 ((s).1))) rfl ?_
    refine dx_aldN y rfl rfl rfl rfl (by omega) ?_
    refine dx_blk 0 (c' := (48, [.ref 3, .int (bI (s).2), .int (nI n), .int (nI y), .null], [.int (((s).1) y), .int ((((s).1) y) ||| ((((s).1) y) <<< ((1 : Int32) &&& 31)))], dx_pR m 5 ((s).1))) rfl ?_
    refine dx_blk 4 (c' := (53, [.ref 3, .int (bI (s).2), .int (nI n), .int (nI y), .int (((((s).1) y) ||| ((((s).1) y) <<< ((1 : Int32) &&& 31))) ||| ((((s).1) y) >>> ((1 : Int32) &&& 31)))], [], dx_pR m 5 ((s).1))) rfl ?_
    rcases Decidable.em (0 < y) with qy | qy
    · refine dx_blk 0 (c' := (53, [.ref 3, .int (bI (s).2), .int (nI n), .int (nI y), .int (((((s).1) y) ||| ((((s).1) y) <<< ((1 : Int32) &&& 31))) ||| ((((s).1) y) >>> ((1 : Int32) &&& 31)))], [], dx_pR m 5 ((s).1))) rfl ?_
      rcases Decidable.em (y < r) with qr | qr
      · refine dx_blk 0 (c' := (53, [.ref 3, .int (bI (s).2), .int (nI n), .int (nI y), .int (((((s).1) y) ||| ((((s).1) y) <<< ((1 : Int32) &&& 31))) ||| ((((s).1) y) >>> ((1 : Int32) &&& 31)))], [], dx_pR m 5 ((s).1))) rfl ?_
        refine dx_blk 2 (c' := (56, [.ref 3, .int (bI (s).2), .int (nI n), .int (nI y), .int (((((s).1) y) ||| ((((s).1) y) <<< ((1 : Int32) &&& 31))) ||| ((((s).1) y) >>> ((1 : Int32) &&& 31)))], [.int (nI y), .int (((((s).1) y) ||| ((((s).1) y) <<< ((1 : Int32) &&& 31))) ||| ((((s).1) y) >>> ((1 : Int32) &&& 31)))], dx_pR m 5 ((s).1))) rfl ?_
        refine dx_br (q := (nI y) ≤ 0) (a := 70) (b := 59) (L := [.ref 3, .int (bI (s).2), .int (nI n), .int (nI y), .int (((((s).1) y) ||| ((((s).1) y) <<< ((1 : Int32) &&& 31))) ||| ((((s).1) y) >>> ((1 : Int32) &&& 31)))]) (st := [.int (((((s).1) y) ||| ((((s).1) y) <<< ((1 : Int32) &&& 31))) ||| ((((s).1) y) >>> ((1 : Int32) &&& 31)))]) (m := dx_pR m 5 ((s).1)) rfl (fun h => absurd h (nI_nle (by omega) (by omega))) (fun _ => ?_)
        refine dx_blk 5 (c' := (66, [.ref 3, .int (bI (s).2), .int (nI n), .int (nI y), .int (((((s).1) y) ||| ((((s).1) y) <<< ((1 : Int32) &&& 31))) ||| ((((s).1) y) >>> ((1 : Int32) &&& 31)))], [.int ((nI y) - 1), .ref 5, .int (((((s).1) y) ||| ((((s).1) y) <<< ((1 : Int32) &&& 31))) ||| ((((s).1) y) >>> ((1 : Int32) &&& 31)))], dx_pR m 5 ((s).1))) rfl ?_
        refine dx_aldN (y - 1) rfl rfl rfl (show nI y - 1 = nI (y - 1) from pk_sub (a := y) (b := 1) (by omega)) (by omega) ?_
        refine dx_blk 0 (c' := (67, [.ref 3, .int (bI (s).2), .int (nI n), .int (nI y), .int (((((s).1) y) ||| ((((s).1) y) <<< ((1 : Int32) &&& 31))) ||| ((((s).1) y) >>> ((1 : Int32) &&& 31)))], [.int (((s).1) (y - 1)), .int (((((s).1) y) ||| ((((s).1) y) <<< ((1 : Int32) &&& 31))) ||| ((((s).1) y) >>> ((1 : Int32) &&& 31)))], dx_pR m 5 ((s).1))) rfl ?_
        refine dx_blk 7 (c' := (81, [.ref 3, .int (bI (s).2), .int (nI n), .int (nI y), .int ((((((s).1) y) ||| ((((s).1) y) <<< ((1 : Int32) &&& 31))) ||| ((((s).1) y) >>> ((1 : Int32) &&& 31))) ||| (((s).1) (y - 1)))], [.int (m.1 3 4), .int (nI y), .int ((((((s).1) y) ||| ((((s).1) y) <<< ((1 : Int32) &&& 31))) ||| ((((s).1) y) >>> ((1 : Int32) &&& 31))) ||| (((s).1) (y - 1)))], dx_pR m 5 ((s).1))) rfl ?_
        refine dx_br (q := (m.1 3 4) ≤ (nI y)) (a := 95) (b := 84) (L := [.ref 3, .int (bI (s).2), .int (nI n), .int (nI y), .int ((((((s).1) y) ||| ((((s).1) y) <<< ((1 : Int32) &&& 31))) ||| ((((s).1) y) >>> ((1 : Int32) &&& 31))) ||| (((s).1) (y - 1)))]) (st := [.int ((((((s).1) y) ||| ((((s).1) y) <<< ((1 : Int32) &&& 31))) ||| ((((s).1) y) >>> ((1 : Int32) &&& 31))) ||| (((s).1) (y - 1)))]) (m := dx_pR m 5 ((s).1)) rfl (fun h => absurd h (by rw [show m.1 3 4 = nI r from er]; exact nI_ge qr (by omega))) (fun _ => ?_)
        refine dx_blk 5 (c' := (91, [.ref 3, .int (bI (s).2), .int (nI n), .int (nI y), .int ((((((s).1) y) ||| ((((s).1) y) <<< ((1 : Int32) &&& 31))) ||| ((((s).1) y) >>> ((1 : Int32) &&& 31))) ||| (((s).1) (y - 1)))], [.int ((nI y) + 1), .ref 5, .int ((((((s).1) y) ||| ((((s).1) y) <<< ((1 : Int32) &&& 31))) ||| ((((s).1) y) >>> ((1 : Int32) &&& 31))) ||| (((s).1) (y - 1)))], dx_pR m 5 ((s).1))) rfl ?_
        refine dx_aldN (y + 1) rfl rfl rfl (nI_1 y) (by omega) ?_
        refine dx_blk 0 (c' := (92, [.ref 3, .int (bI (s).2), .int (nI n), .int (nI y), .int ((((((s).1) y) ||| ((((s).1) y) <<< ((1 : Int32) &&& 31))) ||| ((((s).1) y) >>> ((1 : Int32) &&& 31))) ||| (((s).1) (y - 1)))], [.int (((s).1) (y + 1)), .int ((((((s).1) y) ||| ((((s).1) y) <<< ((1 : Int32) &&& 31))) ||| ((((s).1) y) >>> ((1 : Int32) &&& 31))) ||| (((s).1) (y - 1)))], dx_pR m 5 ((s).1))) rfl ?_
        refine dx_blk 7 (c' := (106, [.ref 3, .int (bI (s).2), .int (nI n), .int (nI y), .int (((((((s).1) y) ||| ((((s).1) y) <<< ((1 : Int32) &&& 31))) ||| ((((s).1) y) >>> ((1 : Int32) &&& 31))) ||| (((s).1) (y - 1))) ||| (((s).1) (y + 1)))], [.int (nI y), .ref 4, .int (((((((s).1) y) ||| ((((s).1) y) <<< ((1 : Int32) &&& 31))) ||| ((((s).1) y) >>> ((1 : Int32) &&& 31))) ||| (((s).1) (y - 1))) ||| (((s).1) (y + 1)))], dx_pR m 5 ((s).1))) rfl ?_
        refine dx_aldN y rfl rfl rfl rfl (by omega) ?_
        refine dx_blk 0 (c' := (107, [.ref 3, .int (bI (s).2), .int (nI n), .int (nI y), .int (((((((s).1) y) ||| ((((s).1) y) <<< ((1 : Int32) &&& 31))) ||| ((((s).1) y) >>> ((1 : Int32) &&& 31))) ||| (((s).1) (y - 1))) ||| (((s).1) (y + 1)))], [.int (m.1 4 y), .int (((((((s).1) y) ||| ((((s).1) y) <<< ((1 : Int32) &&& 31))) ||| ((((s).1) y) >>> ((1 : Int32) &&& 31))) ||| (((s).1) (y - 1))) ||| (((s).1) (y + 1)))], dx_pR m 5 ((s).1))) rfl ?_
        refine dx_blk 7 (c' := (118, [.ref 3, .int (bI (s).2), .int (nI n), .int (nI y), .int ((((((((s).1) y) ||| ((((s).1) y) <<< ((1 : Int32) &&& 31))) ||| ((((s).1) y) >>> ((1 : Int32) &&& 31))) ||| (((s).1) (y - 1))) ||| (((s).1) (y + 1))) &&& (m.1 4 y))], [.int (nI y), .ref 5, .int ((((((((s).1) y) ||| ((((s).1) y) <<< ((1 : Int32) &&& 31))) ||| ((((s).1) y) >>> ((1 : Int32) &&& 31))) ||| (((s).1) (y - 1))) ||| (((s).1) (y + 1))) &&& (m.1 4 y)), .int (bI (s).2)], dx_pR m 5 ((s).1))) rfl ?_
        refine dx_aldN y rfl rfl rfl rfl (by omega) ?_
        refine dx_blk 0 (c' := (119, [.ref 3, .int (bI (s).2), .int (nI n), .int (nI y), .int ((((((((s).1) y) ||| ((((s).1) y) <<< ((1 : Int32) &&& 31))) ||| ((((s).1) y) >>> ((1 : Int32) &&& 31))) ||| (((s).1) (y - 1))) ||| (((s).1) (y + 1))) &&& (m.1 4 y))], [.int (((s).1) y), .int ((((((((s).1) y) ||| ((((s).1) y) <<< ((1 : Int32) &&& 31))) ||| ((((s).1) y) >>> ((1 : Int32) &&& 31))) ||| (((s).1) (y - 1))) ||| (((s).1) (y + 1))) &&& (m.1 4 y)), .int (bI (s).2)], dx_pR m 5 ((s).1))) rfl ?_
        refine dx_br (q := ((((((((s).1) y) ||| ((((s).1) y) <<< ((1 : Int32) &&& 31))) ||| ((((s).1) y) >>> ((1 : Int32) &&& 31))) ||| (((s).1) (y - 1))) ||| (((s).1) (y + 1))) &&& (m.1 4 y)) = (((s).1) y)) (a := 126) (b := 122) (L := [.ref 3, .int (bI (s).2), .int (nI n), .int (nI y), .int ((((((((s).1) y) ||| ((((s).1) y) <<< ((1 : Int32) &&& 31))) ||| ((((s).1) y) >>> ((1 : Int32) &&& 31))) ||| (((s).1) (y - 1))) ||| (((s).1) (y + 1))) &&& (m.1 4 y))]) (st := [.int (bI (s).2)]) (m := dx_pR m 5 ((s).1)) rfl (fun q119 => ?_) (fun q119 => ?_)
        · refine dx_blk 7 (c' := (136, [.ref 3, .int ((bI (s).2) ||| 0), .int (nI n), .int (nI y), .int ((((((((s).1) y) ||| ((((s).1) y) <<< ((1 : Int32) &&& 31))) ||| ((((s).1) y) >>> ((1 : Int32) &&& 31))) ||| (((s).1) (y - 1))) ||| (((s).1) (y + 1))) &&& (m.1 4 y))], [.int ((((((((s).1) y) ||| ((((s).1) y) <<< ((1 : Int32) &&& 31))) ||| ((((s).1) y) >>> ((1 : Int32) &&& 31))) ||| (((s).1) (y - 1))) ||| (((s).1) (y + 1))) &&& (m.1 4 y)), .int (nI y), .ref 5], dx_pR m 5 ((s).1))) rfl ?_
          refine dx_astN y rfl rfl rfl rfl (by omega) ?_
          refine dx_blk 0 (c' := (137, [.ref 3, .int ((bI (s).2) ||| 0), .int (nI n), .int (nI y), .int ((((((((s).1) y) ||| ((((s).1) y) <<< ((1 : Int32) &&& 31))) ||| ((((s).1) y) >>> ((1 : Int32) &&& 31))) ||| (((s).1) (y - 1))) ||| (((s).1) (y + 1))) &&& (m.1 4 y))], [], dx_pI (dx_pR m 5 ((s).1)) 5 y ((((((((s).1) y) ||| ((((s).1) y) <<< ((1 : Int32) &&& 31))) ||| ((((s).1) y) >>> ((1 : Int32) &&& 31))) ||| (((s).1) (y - 1))) ||| (((s).1) (y + 1))) &&& (m.1 4 y)))) rfl ?_
          refine dx_blk 2 (c' := (19, [.ref 3, .int ((bI (s).2) ||| 0), .int (nI n), .int ((nI y) + 1), .int ((((((((s).1) y) ||| ((((s).1) y) <<< ((1 : Int32) &&& 31))) ||| ((((s).1) y) >>> ((1 : Int32) &&& 31))) ||| (((s).1) (y - 1))) ||| (((s).1) (y + 1))) &&& (m.1 4 y))], [], dx_pI (dx_pR m 5 ((s).1)) 5 y ((((((((s).1) y) ||| ((((s).1) y) <<< ((1 : Int32) &&& 31))) ||| ((((s).1) y) >>> ((1 : Int32) &&& 31))) ||| (((s).1) (y - 1))) ||| (((s).1) (y + 1))) &&& (m.1 4 y)))) rfl ?_
          refine dx_fgt [.ref 3, .int ((bI (s).2) ||| 0), .int (nI n), .int ((nI y) + 1), .null] (And.intro (Or.inr rfl) (And.intro (Or.inr rfl) (And.intro (Or.inr rfl) (And.intro (Or.inr rfl) (And.intro (Or.inl rfl) trivial))))) ?_
          have e1 : rwI (m.1 4) s.1 r y = (((((((s).1) y) ||| ((((s).1) y) <<< ((1 : Int32) &&& 31))) ||| ((((s).1) y) >>> ((1 : Int32) &&& 31))) ||| (((s).1) (y - 1))) ||| (((s).1) (y + 1))) &&& (m.1 4 y) := by
            unfold rwI
            first | rw [if_pos qy, if_pos qr] | rw [if_pos qy, if_neg qr] | rw [if_neg qy, if_pos qr] | rw [if_neg qy, if_neg qr]
          rw [dx_pI_pR, ← nI_succ]
          unfold psI at hk
          rw [e1] at hk
          first | (have e2 : decide (¬ ((((((((s).1) y) ||| ((((s).1) y) <<< ((1 : Int32) &&& 31))) ||| ((((s).1) y) >>> ((1 : Int32) &&& 31))) ||| (((s).1) (y - 1))) ||| (((s).1) (y + 1))) &&& (m.1 4 y)) = s.1 y) = false := decide_eq_false (fun q => q q119); rw [e2] at hk; rw [bI_o0]; exact hk) | (have e2 : decide (¬ ((((((((s).1) y) ||| ((((s).1) y) <<< ((1 : Int32) &&& 31))) ||| ((((s).1) y) >>> ((1 : Int32) &&& 31))) ||| (((s).1) (y - 1))) ||| (((s).1) (y + 1))) &&& (m.1 4 y)) = s.1 y) = true := decide_eq_true q119; rw [e2] at hk; rw [bI_o1]; exact hk)
        · refine dx_blk 8 (c' := (136, [.ref 3, .int ((bI (s).2) ||| 1), .int (nI n), .int (nI y), .int ((((((((s).1) y) ||| ((((s).1) y) <<< ((1 : Int32) &&& 31))) ||| ((((s).1) y) >>> ((1 : Int32) &&& 31))) ||| (((s).1) (y - 1))) ||| (((s).1) (y + 1))) &&& (m.1 4 y))], [.int ((((((((s).1) y) ||| ((((s).1) y) <<< ((1 : Int32) &&& 31))) ||| ((((s).1) y) >>> ((1 : Int32) &&& 31))) ||| (((s).1) (y - 1))) ||| (((s).1) (y + 1))) &&& (m.1 4 y)), .int (nI y), .ref 5], dx_pR m 5 ((s).1))) rfl ?_
          refine dx_astN y rfl rfl rfl rfl (by omega) ?_
          refine dx_blk 0 (c' := (137, [.ref 3, .int ((bI (s).2) ||| 1), .int (nI n), .int (nI y), .int ((((((((s).1) y) ||| ((((s).1) y) <<< ((1 : Int32) &&& 31))) ||| ((((s).1) y) >>> ((1 : Int32) &&& 31))) ||| (((s).1) (y - 1))) ||| (((s).1) (y + 1))) &&& (m.1 4 y))], [], dx_pI (dx_pR m 5 ((s).1)) 5 y ((((((((s).1) y) ||| ((((s).1) y) <<< ((1 : Int32) &&& 31))) ||| ((((s).1) y) >>> ((1 : Int32) &&& 31))) ||| (((s).1) (y - 1))) ||| (((s).1) (y + 1))) &&& (m.1 4 y)))) rfl ?_
          refine dx_blk 2 (c' := (19, [.ref 3, .int ((bI (s).2) ||| 1), .int (nI n), .int ((nI y) + 1), .int ((((((((s).1) y) ||| ((((s).1) y) <<< ((1 : Int32) &&& 31))) ||| ((((s).1) y) >>> ((1 : Int32) &&& 31))) ||| (((s).1) (y - 1))) ||| (((s).1) (y + 1))) &&& (m.1 4 y))], [], dx_pI (dx_pR m 5 ((s).1)) 5 y ((((((((s).1) y) ||| ((((s).1) y) <<< ((1 : Int32) &&& 31))) ||| ((((s).1) y) >>> ((1 : Int32) &&& 31))) ||| (((s).1) (y - 1))) ||| (((s).1) (y + 1))) &&& (m.1 4 y)))) rfl ?_
          refine dx_fgt [.ref 3, .int ((bI (s).2) ||| 1), .int (nI n), .int ((nI y) + 1), .null] (And.intro (Or.inr rfl) (And.intro (Or.inr rfl) (And.intro (Or.inr rfl) (And.intro (Or.inr rfl) (And.intro (Or.inl rfl) trivial))))) ?_
          have e1 : rwI (m.1 4) s.1 r y = (((((((s).1) y) ||| ((((s).1) y) <<< ((1 : Int32) &&& 31))) ||| ((((s).1) y) >>> ((1 : Int32) &&& 31))) ||| (((s).1) (y - 1))) ||| (((s).1) (y + 1))) &&& (m.1 4 y) := by
            unfold rwI
            first | rw [if_pos qy, if_pos qr] | rw [if_pos qy, if_neg qr] | rw [if_neg qy, if_pos qr] | rw [if_neg qy, if_neg qr]
          rw [dx_pI_pR, ← nI_succ]
          unfold psI at hk
          rw [e1] at hk
          first | (have e2 : decide (¬ ((((((((s).1) y) ||| ((((s).1) y) <<< ((1 : Int32) &&& 31))) ||| ((((s).1) y) >>> ((1 : Int32) &&& 31))) ||| (((s).1) (y - 1))) ||| (((s).1) (y + 1))) &&& (m.1 4 y)) = s.1 y) = false := decide_eq_false (fun q => q q119); rw [e2] at hk; rw [bI_o0]; exact hk) | (have e2 : decide (¬ ((((((((s).1) y) ||| ((((s).1) y) <<< ((1 : Int32) &&& 31))) ||| ((((s).1) y) >>> ((1 : Int32) &&& 31))) ||| (((s).1) (y - 1))) ||| (((s).1) (y + 1))) &&& (m.1 4 y)) = s.1 y) = true := decide_eq_true q119; rw [e2] at hk; rw [bI_o1]; exact hk)
      · refine dx_blk 0 (c' := (53, [.ref 3, .int (bI (s).2), .int (nI n), .int (nI y), .int (((((s).1) y) ||| ((((s).1) y) <<< ((1 : Int32) &&& 31))) ||| ((((s).1) y) >>> ((1 : Int32) &&& 31)))], [], dx_pR m 5 ((s).1))) rfl ?_
        refine dx_blk 2 (c' := (56, [.ref 3, .int (bI (s).2), .int (nI n), .int (nI y), .int (((((s).1) y) ||| ((((s).1) y) <<< ((1 : Int32) &&& 31))) ||| ((((s).1) y) >>> ((1 : Int32) &&& 31)))], [.int (nI y), .int (((((s).1) y) ||| ((((s).1) y) <<< ((1 : Int32) &&& 31))) ||| ((((s).1) y) >>> ((1 : Int32) &&& 31)))], dx_pR m 5 ((s).1))) rfl ?_
        refine dx_br (q := (nI y) ≤ 0) (a := 70) (b := 59) (L := [.ref 3, .int (bI (s).2), .int (nI n), .int (nI y), .int (((((s).1) y) ||| ((((s).1) y) <<< ((1 : Int32) &&& 31))) ||| ((((s).1) y) >>> ((1 : Int32) &&& 31)))]) (st := [.int (((((s).1) y) ||| ((((s).1) y) <<< ((1 : Int32) &&& 31))) ||| ((((s).1) y) >>> ((1 : Int32) &&& 31)))]) (m := dx_pR m 5 ((s).1)) rfl (fun h => absurd h (nI_nle (by omega) (by omega))) (fun _ => ?_)
        refine dx_blk 5 (c' := (66, [.ref 3, .int (bI (s).2), .int (nI n), .int (nI y), .int (((((s).1) y) ||| ((((s).1) y) <<< ((1 : Int32) &&& 31))) ||| ((((s).1) y) >>> ((1 : Int32) &&& 31)))], [.int ((nI y) - 1), .ref 5, .int (((((s).1) y) ||| ((((s).1) y) <<< ((1 : Int32) &&& 31))) ||| ((((s).1) y) >>> ((1 : Int32) &&& 31)))], dx_pR m 5 ((s).1))) rfl ?_
        refine dx_aldN (y - 1) rfl rfl rfl (show nI y - 1 = nI (y - 1) from pk_sub (a := y) (b := 1) (by omega)) (by omega) ?_
        refine dx_blk 0 (c' := (67, [.ref 3, .int (bI (s).2), .int (nI n), .int (nI y), .int (((((s).1) y) ||| ((((s).1) y) <<< ((1 : Int32) &&& 31))) ||| ((((s).1) y) >>> ((1 : Int32) &&& 31)))], [.int (((s).1) (y - 1)), .int (((((s).1) y) ||| ((((s).1) y) <<< ((1 : Int32) &&& 31))) ||| ((((s).1) y) >>> ((1 : Int32) &&& 31)))], dx_pR m 5 ((s).1))) rfl ?_
        refine dx_blk 7 (c' := (81, [.ref 3, .int (bI (s).2), .int (nI n), .int (nI y), .int ((((((s).1) y) ||| ((((s).1) y) <<< ((1 : Int32) &&& 31))) ||| ((((s).1) y) >>> ((1 : Int32) &&& 31))) ||| (((s).1) (y - 1)))], [.int (m.1 3 4), .int (nI y), .int ((((((s).1) y) ||| ((((s).1) y) <<< ((1 : Int32) &&& 31))) ||| ((((s).1) y) >>> ((1 : Int32) &&& 31))) ||| (((s).1) (y - 1)))], dx_pR m 5 ((s).1))) rfl ?_
        refine dx_br (q := (m.1 3 4) ≤ (nI y)) (a := 95) (b := 84) (L := [.ref 3, .int (bI (s).2), .int (nI n), .int (nI y), .int ((((((s).1) y) ||| ((((s).1) y) <<< ((1 : Int32) &&& 31))) ||| ((((s).1) y) >>> ((1 : Int32) &&& 31))) ||| (((s).1) (y - 1)))]) (st := [.int ((((((s).1) y) ||| ((((s).1) y) <<< ((1 : Int32) &&& 31))) ||| ((((s).1) y) >>> ((1 : Int32) &&& 31))) ||| (((s).1) (y - 1)))]) (m := dx_pR m 5 ((s).1)) rfl (fun _ => ?_) (fun h => absurd (by rw [show m.1 3 4 = nI r from er]; exact nI_le (by omega) (by omega)) h)
        refine dx_blk 7 (c' := (106, [.ref 3, .int (bI (s).2), .int (nI n), .int (nI y), .int (((((((s).1) y) ||| ((((s).1) y) <<< ((1 : Int32) &&& 31))) ||| ((((s).1) y) >>> ((1 : Int32) &&& 31))) ||| (((s).1) (y - 1))) ||| 0)], [.int (nI y), .ref 4, .int (((((((s).1) y) ||| ((((s).1) y) <<< ((1 : Int32) &&& 31))) ||| ((((s).1) y) >>> ((1 : Int32) &&& 31))) ||| (((s).1) (y - 1))) ||| 0)], dx_pR m 5 ((s).1))) rfl ?_
        refine dx_aldN y rfl rfl rfl rfl (by omega) ?_
        refine dx_blk 0 (c' := (107, [.ref 3, .int (bI (s).2), .int (nI n), .int (nI y), .int (((((((s).1) y) ||| ((((s).1) y) <<< ((1 : Int32) &&& 31))) ||| ((((s).1) y) >>> ((1 : Int32) &&& 31))) ||| (((s).1) (y - 1))) ||| 0)], [.int (m.1 4 y), .int (((((((s).1) y) ||| ((((s).1) y) <<< ((1 : Int32) &&& 31))) ||| ((((s).1) y) >>> ((1 : Int32) &&& 31))) ||| (((s).1) (y - 1))) ||| 0)], dx_pR m 5 ((s).1))) rfl ?_
        refine dx_blk 7 (c' := (118, [.ref 3, .int (bI (s).2), .int (nI n), .int (nI y), .int ((((((((s).1) y) ||| ((((s).1) y) <<< ((1 : Int32) &&& 31))) ||| ((((s).1) y) >>> ((1 : Int32) &&& 31))) ||| (((s).1) (y - 1))) ||| 0) &&& (m.1 4 y))], [.int (nI y), .ref 5, .int ((((((((s).1) y) ||| ((((s).1) y) <<< ((1 : Int32) &&& 31))) ||| ((((s).1) y) >>> ((1 : Int32) &&& 31))) ||| (((s).1) (y - 1))) ||| 0) &&& (m.1 4 y)), .int (bI (s).2)], dx_pR m 5 ((s).1))) rfl ?_
        refine dx_aldN y rfl rfl rfl rfl (by omega) ?_
        refine dx_blk 0 (c' := (119, [.ref 3, .int (bI (s).2), .int (nI n), .int (nI y), .int ((((((((s).1) y) ||| ((((s).1) y) <<< ((1 : Int32) &&& 31))) ||| ((((s).1) y) >>> ((1 : Int32) &&& 31))) ||| (((s).1) (y - 1))) ||| 0) &&& (m.1 4 y))], [.int (((s).1) y), .int ((((((((s).1) y) ||| ((((s).1) y) <<< ((1 : Int32) &&& 31))) ||| ((((s).1) y) >>> ((1 : Int32) &&& 31))) ||| (((s).1) (y - 1))) ||| 0) &&& (m.1 4 y)), .int (bI (s).2)], dx_pR m 5 ((s).1))) rfl ?_
        refine dx_br (q := ((((((((s).1) y) ||| ((((s).1) y) <<< ((1 : Int32) &&& 31))) ||| ((((s).1) y) >>> ((1 : Int32) &&& 31))) ||| (((s).1) (y - 1))) ||| 0) &&& (m.1 4 y)) = (((s).1) y)) (a := 126) (b := 122) (L := [.ref 3, .int (bI (s).2), .int (nI n), .int (nI y), .int ((((((((s).1) y) ||| ((((s).1) y) <<< ((1 : Int32) &&& 31))) ||| ((((s).1) y) >>> ((1 : Int32) &&& 31))) ||| (((s).1) (y - 1))) ||| 0) &&& (m.1 4 y))]) (st := [.int (bI (s).2)]) (m := dx_pR m 5 ((s).1)) rfl (fun q119 => ?_) (fun q119 => ?_)
        · refine dx_blk 7 (c' := (136, [.ref 3, .int ((bI (s).2) ||| 0), .int (nI n), .int (nI y), .int ((((((((s).1) y) ||| ((((s).1) y) <<< ((1 : Int32) &&& 31))) ||| ((((s).1) y) >>> ((1 : Int32) &&& 31))) ||| (((s).1) (y - 1))) ||| 0) &&& (m.1 4 y))], [.int ((((((((s).1) y) ||| ((((s).1) y) <<< ((1 : Int32) &&& 31))) ||| ((((s).1) y) >>> ((1 : Int32) &&& 31))) ||| (((s).1) (y - 1))) ||| 0) &&& (m.1 4 y)), .int (nI y), .ref 5], dx_pR m 5 ((s).1))) rfl ?_
          refine dx_astN y rfl rfl rfl rfl (by omega) ?_
          refine dx_blk 0 (c' := (137, [.ref 3, .int ((bI (s).2) ||| 0), .int (nI n), .int (nI y), .int ((((((((s).1) y) ||| ((((s).1) y) <<< ((1 : Int32) &&& 31))) ||| ((((s).1) y) >>> ((1 : Int32) &&& 31))) ||| (((s).1) (y - 1))) ||| 0) &&& (m.1 4 y))], [], dx_pI (dx_pR m 5 ((s).1)) 5 y ((((((((s).1) y) ||| ((((s).1) y) <<< ((1 : Int32) &&& 31))) ||| ((((s).1) y) >>> ((1 : Int32) &&& 31))) ||| (((s).1) (y - 1))) ||| 0) &&& (m.1 4 y)))) rfl ?_
          refine dx_blk 2 (c' := (19, [.ref 3, .int ((bI (s).2) ||| 0), .int (nI n), .int ((nI y) + 1), .int ((((((((s).1) y) ||| ((((s).1) y) <<< ((1 : Int32) &&& 31))) ||| ((((s).1) y) >>> ((1 : Int32) &&& 31))) ||| (((s).1) (y - 1))) ||| 0) &&& (m.1 4 y))], [], dx_pI (dx_pR m 5 ((s).1)) 5 y ((((((((s).1) y) ||| ((((s).1) y) <<< ((1 : Int32) &&& 31))) ||| ((((s).1) y) >>> ((1 : Int32) &&& 31))) ||| (((s).1) (y - 1))) ||| 0) &&& (m.1 4 y)))) rfl ?_
          refine dx_fgt [.ref 3, .int ((bI (s).2) ||| 0), .int (nI n), .int ((nI y) + 1), .null] (And.intro (Or.inr rfl) (And.intro (Or.inr rfl) (And.intro (Or.inr rfl) (And.intro (Or.inr rfl) (And.intro (Or.inl rfl) trivial))))) ?_
          have e1 : rwI (m.1 4) s.1 r y = (((((((s).1) y) ||| ((((s).1) y) <<< ((1 : Int32) &&& 31))) ||| ((((s).1) y) >>> ((1 : Int32) &&& 31))) ||| (((s).1) (y - 1))) ||| 0) &&& (m.1 4 y) := by
            unfold rwI
            first | rw [if_pos qy, if_pos qr] | rw [if_pos qy, if_neg qr] | rw [if_neg qy, if_pos qr] | rw [if_neg qy, if_neg qr]
          rw [dx_pI_pR, ← nI_succ]
          unfold psI at hk
          rw [e1] at hk
          first | (have e2 : decide (¬ ((((((((s).1) y) ||| ((((s).1) y) <<< ((1 : Int32) &&& 31))) ||| ((((s).1) y) >>> ((1 : Int32) &&& 31))) ||| (((s).1) (y - 1))) ||| 0) &&& (m.1 4 y)) = s.1 y) = false := decide_eq_false (fun q => q q119); rw [e2] at hk; rw [bI_o0]; exact hk) | (have e2 : decide (¬ ((((((((s).1) y) ||| ((((s).1) y) <<< ((1 : Int32) &&& 31))) ||| ((((s).1) y) >>> ((1 : Int32) &&& 31))) ||| (((s).1) (y - 1))) ||| 0) &&& (m.1 4 y)) = s.1 y) = true := decide_eq_true q119; rw [e2] at hk; rw [bI_o1]; exact hk)
        · refine dx_blk 8 (c' := (136, [.ref 3, .int ((bI (s).2) ||| 1), .int (nI n), .int (nI y), .int ((((((((s).1) y) ||| ((((s).1) y) <<< ((1 : Int32) &&& 31))) ||| ((((s).1) y) >>> ((1 : Int32) &&& 31))) ||| (((s).1) (y - 1))) ||| 0) &&& (m.1 4 y))], [.int ((((((((s).1) y) ||| ((((s).1) y) <<< ((1 : Int32) &&& 31))) ||| ((((s).1) y) >>> ((1 : Int32) &&& 31))) ||| (((s).1) (y - 1))) ||| 0) &&& (m.1 4 y)), .int (nI y), .ref 5], dx_pR m 5 ((s).1))) rfl ?_
          refine dx_astN y rfl rfl rfl rfl (by omega) ?_
          refine dx_blk 0 (c' := (137, [.ref 3, .int ((bI (s).2) ||| 1), .int (nI n), .int (nI y), .int ((((((((s).1) y) ||| ((((s).1) y) <<< ((1 : Int32) &&& 31))) ||| ((((s).1) y) >>> ((1 : Int32) &&& 31))) ||| (((s).1) (y - 1))) ||| 0) &&& (m.1 4 y))], [], dx_pI (dx_pR m 5 ((s).1)) 5 y ((((((((s).1) y) ||| ((((s).1) y) <<< ((1 : Int32) &&& 31))) ||| ((((s).1) y) >>> ((1 : Int32) &&& 31))) ||| (((s).1) (y - 1))) ||| 0) &&& (m.1 4 y)))) rfl ?_
          refine dx_blk 2 (c' := (19, [.ref 3, .int ((bI (s).2) ||| 1), .int (nI n), .int ((nI y) + 1), .int ((((((((s).1) y) ||| ((((s).1) y) <<< ((1 : Int32) &&& 31))) ||| ((((s).1) y) >>> ((1 : Int32) &&& 31))) ||| (((s).1) (y - 1))) ||| 0) &&& (m.1 4 y))], [], dx_pI (dx_pR m 5 ((s).1)) 5 y ((((((((s).1) y) ||| ((((s).1) y) <<< ((1 : Int32) &&& 31))) ||| ((((s).1) y) >>> ((1 : Int32) &&& 31))) ||| (((s).1) (y - 1))) ||| 0) &&& (m.1 4 y)))) rfl ?_
          refine dx_fgt [.ref 3, .int ((bI (s).2) ||| 1), .int (nI n), .int ((nI y) + 1), .null] (And.intro (Or.inr rfl) (And.intro (Or.inr rfl) (And.intro (Or.inr rfl) (And.intro (Or.inr rfl) (And.intro (Or.inl rfl) trivial))))) ?_
          have e1 : rwI (m.1 4) s.1 r y = (((((((s).1) y) ||| ((((s).1) y) <<< ((1 : Int32) &&& 31))) ||| ((((s).1) y) >>> ((1 : Int32) &&& 31))) ||| (((s).1) (y - 1))) ||| 0) &&& (m.1 4 y) := by
            unfold rwI
            first | rw [if_pos qy, if_pos qr] | rw [if_pos qy, if_neg qr] | rw [if_neg qy, if_pos qr] | rw [if_neg qy, if_neg qr]
          rw [dx_pI_pR, ← nI_succ]
          unfold psI at hk
          rw [e1] at hk
          first | (have e2 : decide (¬ ((((((((s).1) y) ||| ((((s).1) y) <<< ((1 : Int32) &&& 31))) ||| ((((s).1) y) >>> ((1 : Int32) &&& 31))) ||| (((s).1) (y - 1))) ||| 0) &&& (m.1 4 y)) = s.1 y) = false := decide_eq_false (fun q => q q119); rw [e2] at hk; rw [bI_o0]; exact hk) | (have e2 : decide (¬ ((((((((s).1) y) ||| ((((s).1) y) <<< ((1 : Int32) &&& 31))) ||| ((((s).1) y) >>> ((1 : Int32) &&& 31))) ||| (((s).1) (y - 1))) ||| 0) &&& (m.1 4 y)) = s.1 y) = true := decide_eq_true q119; rw [e2] at hk; rw [bI_o1]; exact hk)
    · refine dx_blk 0 (c' := (53, [.ref 3, .int (bI (s).2), .int (nI n), .int (nI y), .int (((((s).1) y) ||| ((((s).1) y) <<< ((1 : Int32) &&& 31))) ||| ((((s).1) y) >>> ((1 : Int32) &&& 31)))], [], dx_pR m 5 ((s).1))) rfl ?_
      rcases Decidable.em (y < r) with qr | qr
      · refine dx_blk 0 (c' := (53, [.ref 3, .int (bI (s).2), .int (nI n), .int (nI y), .int (((((s).1) y) ||| ((((s).1) y) <<< ((1 : Int32) &&& 31))) ||| ((((s).1) y) >>> ((1 : Int32) &&& 31)))], [], dx_pR m 5 ((s).1))) rfl ?_
        refine dx_blk 2 (c' := (56, [.ref 3, .int (bI (s).2), .int (nI n), .int (nI y), .int (((((s).1) y) ||| ((((s).1) y) <<< ((1 : Int32) &&& 31))) ||| ((((s).1) y) >>> ((1 : Int32) &&& 31)))], [.int (nI y), .int (((((s).1) y) ||| ((((s).1) y) <<< ((1 : Int32) &&& 31))) ||| ((((s).1) y) >>> ((1 : Int32) &&& 31)))], dx_pR m 5 ((s).1))) rfl ?_
        refine dx_br (q := (nI y) ≤ 0) (a := 70) (b := 59) (L := [.ref 3, .int (bI (s).2), .int (nI n), .int (nI y), .int (((((s).1) y) ||| ((((s).1) y) <<< ((1 : Int32) &&& 31))) ||| ((((s).1) y) >>> ((1 : Int32) &&& 31)))]) (st := [.int (((((s).1) y) ||| ((((s).1) y) <<< ((1 : Int32) &&& 31))) ||| ((((s).1) y) >>> ((1 : Int32) &&& 31)))]) (m := dx_pR m 5 ((s).1)) rfl (fun _ => ?_) (fun h => absurd (by rw [show y = 0 by omega]; decide) h)
        refine dx_blk 7 (c' := (81, [.ref 3, .int (bI (s).2), .int (nI n), .int (nI y), .int ((((((s).1) y) ||| ((((s).1) y) <<< ((1 : Int32) &&& 31))) ||| ((((s).1) y) >>> ((1 : Int32) &&& 31))) ||| 0)], [.int (m.1 3 4), .int (nI y), .int ((((((s).1) y) ||| ((((s).1) y) <<< ((1 : Int32) &&& 31))) ||| ((((s).1) y) >>> ((1 : Int32) &&& 31))) ||| 0)], dx_pR m 5 ((s).1))) rfl ?_
        refine dx_br (q := (m.1 3 4) ≤ (nI y)) (a := 95) (b := 84) (L := [.ref 3, .int (bI (s).2), .int (nI n), .int (nI y), .int ((((((s).1) y) ||| ((((s).1) y) <<< ((1 : Int32) &&& 31))) ||| ((((s).1) y) >>> ((1 : Int32) &&& 31))) ||| 0)]) (st := [.int ((((((s).1) y) ||| ((((s).1) y) <<< ((1 : Int32) &&& 31))) ||| ((((s).1) y) >>> ((1 : Int32) &&& 31))) ||| 0)]) (m := dx_pR m 5 ((s).1)) rfl (fun h => absurd h (by rw [show m.1 3 4 = nI r from er]; exact nI_ge qr (by omega))) (fun _ => ?_)
        refine dx_blk 5 (c' := (91, [.ref 3, .int (bI (s).2), .int (nI n), .int (nI y), .int ((((((s).1) y) ||| ((((s).1) y) <<< ((1 : Int32) &&& 31))) ||| ((((s).1) y) >>> ((1 : Int32) &&& 31))) ||| 0)], [.int ((nI y) + 1), .ref 5, .int ((((((s).1) y) ||| ((((s).1) y) <<< ((1 : Int32) &&& 31))) ||| ((((s).1) y) >>> ((1 : Int32) &&& 31))) ||| 0)], dx_pR m 5 ((s).1))) rfl ?_
        refine dx_aldN (y + 1) rfl rfl rfl (nI_1 y) (by omega) ?_
        refine dx_blk 0 (c' := (92, [.ref 3, .int (bI (s).2), .int (nI n), .int (nI y), .int ((((((s).1) y) ||| ((((s).1) y) <<< ((1 : Int32) &&& 31))) ||| ((((s).1) y) >>> ((1 : Int32) &&& 31))) ||| 0)], [.int (((s).1) (y + 1)), .int ((((((s).1) y) ||| ((((s).1) y) <<< ((1 : Int32) &&& 31))) ||| ((((s).1) y) >>> ((1 : Int32) &&& 31))) ||| 0)], dx_pR m 5 ((s).1))) rfl ?_
        refine dx_blk 7 (c' := (106, [.ref 3, .int (bI (s).2), .int (nI n), .int (nI y), .int (((((((s).1) y) ||| ((((s).1) y) <<< ((1 : Int32) &&& 31))) ||| ((((s).1) y) >>> ((1 : Int32) &&& 31))) ||| 0) ||| (((s).1) (y + 1)))], [.int (nI y), .ref 4, .int (((((((s).1) y) ||| ((((s).1) y) <<< ((1 : Int32) &&& 31))) ||| ((((s).1) y) >>> ((1 : Int32) &&& 31))) ||| 0) ||| (((s).1) (y + 1)))], dx_pR m 5 ((s).1))) rfl ?_
        refine dx_aldN y rfl rfl rfl rfl (by omega) ?_
        refine dx_blk 0 (c' := (107, [.ref 3, .int (bI (s).2), .int (nI n), .int (nI y), .int (((((((s).1) y) ||| ((((s).1) y) <<< ((1 : Int32) &&& 31))) ||| ((((s).1) y) >>> ((1 : Int32) &&& 31))) ||| 0) ||| (((s).1) (y + 1)))], [.int (m.1 4 y), .int (((((((s).1) y) ||| ((((s).1) y) <<< ((1 : Int32) &&& 31))) ||| ((((s).1) y) >>> ((1 : Int32) &&& 31))) ||| 0) ||| (((s).1) (y + 1)))], dx_pR m 5 ((s).1))) rfl ?_
        refine dx_blk 7 (c' := (118, [.ref 3, .int (bI (s).2), .int (nI n), .int (nI y), .int ((((((((s).1) y) ||| ((((s).1) y) <<< ((1 : Int32) &&& 31))) ||| ((((s).1) y) >>> ((1 : Int32) &&& 31))) ||| 0) ||| (((s).1) (y + 1))) &&& (m.1 4 y))], [.int (nI y), .ref 5, .int ((((((((s).1) y) ||| ((((s).1) y) <<< ((1 : Int32) &&& 31))) ||| ((((s).1) y) >>> ((1 : Int32) &&& 31))) ||| 0) ||| (((s).1) (y + 1))) &&& (m.1 4 y)), .int (bI (s).2)], dx_pR m 5 ((s).1))) rfl ?_
        refine dx_aldN y rfl rfl rfl rfl (by omega) ?_
        refine dx_blk 0 (c' := (119, [.ref 3, .int (bI (s).2), .int (nI n), .int (nI y), .int ((((((((s).1) y) ||| ((((s).1) y) <<< ((1 : Int32) &&& 31))) ||| ((((s).1) y) >>> ((1 : Int32) &&& 31))) ||| 0) ||| (((s).1) (y + 1))) &&& (m.1 4 y))], [.int (((s).1) y), .int ((((((((s).1) y) ||| ((((s).1) y) <<< ((1 : Int32) &&& 31))) ||| ((((s).1) y) >>> ((1 : Int32) &&& 31))) ||| 0) ||| (((s).1) (y + 1))) &&& (m.1 4 y)), .int (bI (s).2)], dx_pR m 5 ((s).1))) rfl ?_
        refine dx_br (q := ((((((((s).1) y) ||| ((((s).1) y) <<< ((1 : Int32) &&& 31))) ||| ((((s).1) y) >>> ((1 : Int32) &&& 31))) ||| 0) ||| (((s).1) (y + 1))) &&& (m.1 4 y)) = (((s).1) y)) (a := 126) (b := 122) (L := [.ref 3, .int (bI (s).2), .int (nI n), .int (nI y), .int ((((((((s).1) y) ||| ((((s).1) y) <<< ((1 : Int32) &&& 31))) ||| ((((s).1) y) >>> ((1 : Int32) &&& 31))) ||| 0) ||| (((s).1) (y + 1))) &&& (m.1 4 y))]) (st := [.int (bI (s).2)]) (m := dx_pR m 5 ((s).1)) rfl (fun q119 => ?_) (fun q119 => ?_)
        · refine dx_blk 7 (c' := (136, [.ref 3, .int ((bI (s).2) ||| 0), .int (nI n), .int (nI y), .int ((((((((s).1) y) ||| ((((s).1) y) <<< ((1 : Int32) &&& 31))) ||| ((((s).1) y) >>> ((1 : Int32) &&& 31))) ||| 0) ||| (((s).1) (y + 1))) &&& (m.1 4 y))], [.int ((((((((s).1) y) ||| ((((s).1) y) <<< ((1 : Int32) &&& 31))) ||| ((((s).1) y) >>> ((1 : Int32) &&& 31))) ||| 0) ||| (((s).1) (y + 1))) &&& (m.1 4 y)), .int (nI y), .ref 5], dx_pR m 5 ((s).1))) rfl ?_
          refine dx_astN y rfl rfl rfl rfl (by omega) ?_
          refine dx_blk 0 (c' := (137, [.ref 3, .int ((bI (s).2) ||| 0), .int (nI n), .int (nI y), .int ((((((((s).1) y) ||| ((((s).1) y) <<< ((1 : Int32) &&& 31))) ||| ((((s).1) y) >>> ((1 : Int32) &&& 31))) ||| 0) ||| (((s).1) (y + 1))) &&& (m.1 4 y))], [], dx_pI (dx_pR m 5 ((s).1)) 5 y ((((((((s).1) y) ||| ((((s).1) y) <<< ((1 : Int32) &&& 31))) ||| ((((s).1) y) >>> ((1 : Int32) &&& 31))) ||| 0) ||| (((s).1) (y + 1))) &&& (m.1 4 y)))) rfl ?_
          refine dx_blk 2 (c' := (19, [.ref 3, .int ((bI (s).2) ||| 0), .int (nI n), .int ((nI y) + 1), .int ((((((((s).1) y) ||| ((((s).1) y) <<< ((1 : Int32) &&& 31))) ||| ((((s).1) y) >>> ((1 : Int32) &&& 31))) ||| 0) ||| (((s).1) (y + 1))) &&& (m.1 4 y))], [], dx_pI (dx_pR m 5 ((s).1)) 5 y ((((((((s).1) y) ||| ((((s).1) y) <<< ((1 : Int32) &&& 31))) ||| ((((s).1) y) >>> ((1 : Int32) &&& 31))) ||| 0) ||| (((s).1) (y + 1))) &&& (m.1 4 y)))) rfl ?_
          refine dx_fgt [.ref 3, .int ((bI (s).2) ||| 0), .int (nI n), .int ((nI y) + 1), .null] (And.intro (Or.inr rfl) (And.intro (Or.inr rfl) (And.intro (Or.inr rfl) (And.intro (Or.inr rfl) (And.intro (Or.inl rfl) trivial))))) ?_
          have e1 : rwI (m.1 4) s.1 r y = (((((((s).1) y) ||| ((((s).1) y) <<< ((1 : Int32) &&& 31))) ||| ((((s).1) y) >>> ((1 : Int32) &&& 31))) ||| 0) ||| (((s).1) (y + 1))) &&& (m.1 4 y) := by
            unfold rwI
            first | rw [if_pos qy, if_pos qr] | rw [if_pos qy, if_neg qr] | rw [if_neg qy, if_pos qr] | rw [if_neg qy, if_neg qr]
          rw [dx_pI_pR, ← nI_succ]
          unfold psI at hk
          rw [e1] at hk
          first | (have e2 : decide (¬ ((((((((s).1) y) ||| ((((s).1) y) <<< ((1 : Int32) &&& 31))) ||| ((((s).1) y) >>> ((1 : Int32) &&& 31))) ||| 0) ||| (((s).1) (y + 1))) &&& (m.1 4 y)) = s.1 y) = false := decide_eq_false (fun q => q q119); rw [e2] at hk; rw [bI_o0]; exact hk) | (have e2 : decide (¬ ((((((((s).1) y) ||| ((((s).1) y) <<< ((1 : Int32) &&& 31))) ||| ((((s).1) y) >>> ((1 : Int32) &&& 31))) ||| 0) ||| (((s).1) (y + 1))) &&& (m.1 4 y)) = s.1 y) = true := decide_eq_true q119; rw [e2] at hk; rw [bI_o1]; exact hk)
        · refine dx_blk 8 (c' := (136, [.ref 3, .int ((bI (s).2) ||| 1), .int (nI n), .int (nI y), .int ((((((((s).1) y) ||| ((((s).1) y) <<< ((1 : Int32) &&& 31))) ||| ((((s).1) y) >>> ((1 : Int32) &&& 31))) ||| 0) ||| (((s).1) (y + 1))) &&& (m.1 4 y))], [.int ((((((((s).1) y) ||| ((((s).1) y) <<< ((1 : Int32) &&& 31))) ||| ((((s).1) y) >>> ((1 : Int32) &&& 31))) ||| 0) ||| (((s).1) (y + 1))) &&& (m.1 4 y)), .int (nI y), .ref 5], dx_pR m 5 ((s).1))) rfl ?_
          refine dx_astN y rfl rfl rfl rfl (by omega) ?_
          refine dx_blk 0 (c' := (137, [.ref 3, .int ((bI (s).2) ||| 1), .int (nI n), .int (nI y), .int ((((((((s).1) y) ||| ((((s).1) y) <<< ((1 : Int32) &&& 31))) ||| ((((s).1) y) >>> ((1 : Int32) &&& 31))) ||| 0) ||| (((s).1) (y + 1))) &&& (m.1 4 y))], [], dx_pI (dx_pR m 5 ((s).1)) 5 y ((((((((s).1) y) ||| ((((s).1) y) <<< ((1 : Int32) &&& 31))) ||| ((((s).1) y) >>> ((1 : Int32) &&& 31))) ||| 0) ||| (((s).1) (y + 1))) &&& (m.1 4 y)))) rfl ?_
          refine dx_blk 2 (c' := (19, [.ref 3, .int ((bI (s).2) ||| 1), .int (nI n), .int ((nI y) + 1), .int ((((((((s).1) y) ||| ((((s).1) y) <<< ((1 : Int32) &&& 31))) ||| ((((s).1) y) >>> ((1 : Int32) &&& 31))) ||| 0) ||| (((s).1) (y + 1))) &&& (m.1 4 y))], [], dx_pI (dx_pR m 5 ((s).1)) 5 y ((((((((s).1) y) ||| ((((s).1) y) <<< ((1 : Int32) &&& 31))) ||| ((((s).1) y) >>> ((1 : Int32) &&& 31))) ||| 0) ||| (((s).1) (y + 1))) &&& (m.1 4 y)))) rfl ?_
          refine dx_fgt [.ref 3, .int ((bI (s).2) ||| 1), .int (nI n), .int ((nI y) + 1), .null] (And.intro (Or.inr rfl) (And.intro (Or.inr rfl) (And.intro (Or.inr rfl) (And.intro (Or.inr rfl) (And.intro (Or.inl rfl) trivial))))) ?_
          have e1 : rwI (m.1 4) s.1 r y = (((((((s).1) y) ||| ((((s).1) y) <<< ((1 : Int32) &&& 31))) ||| ((((s).1) y) >>> ((1 : Int32) &&& 31))) ||| 0) ||| (((s).1) (y + 1))) &&& (m.1 4 y) := by
            unfold rwI
            first | rw [if_pos qy, if_pos qr] | rw [if_pos qy, if_neg qr] | rw [if_neg qy, if_pos qr] | rw [if_neg qy, if_neg qr]
          rw [dx_pI_pR, ← nI_succ]
          unfold psI at hk
          rw [e1] at hk
          first | (have e2 : decide (¬ ((((((((s).1) y) ||| ((((s).1) y) <<< ((1 : Int32) &&& 31))) ||| ((((s).1) y) >>> ((1 : Int32) &&& 31))) ||| 0) ||| (((s).1) (y + 1))) &&& (m.1 4 y)) = s.1 y) = false := decide_eq_false (fun q => q q119); rw [e2] at hk; rw [bI_o0]; exact hk) | (have e2 : decide (¬ ((((((((s).1) y) ||| ((((s).1) y) <<< ((1 : Int32) &&& 31))) ||| ((((s).1) y) >>> ((1 : Int32) &&& 31))) ||| 0) ||| (((s).1) (y + 1))) &&& (m.1 4 y)) = s.1 y) = true := decide_eq_true q119; rw [e2] at hk; rw [bI_o1]; exact hk)
      · refine dx_blk 0 (c' := (53, [.ref 3, .int (bI (s).2), .int (nI n), .int (nI y), .int (((((s).1) y) ||| ((((s).1) y) <<< ((1 : Int32) &&& 31))) ||| ((((s).1) y) >>> ((1 : Int32) &&& 31)))], [], dx_pR m 5 ((s).1))) rfl ?_
        refine dx_blk 2 (c' := (56, [.ref 3, .int (bI (s).2), .int (nI n), .int (nI y), .int (((((s).1) y) ||| ((((s).1) y) <<< ((1 : Int32) &&& 31))) ||| ((((s).1) y) >>> ((1 : Int32) &&& 31)))], [.int (nI y), .int (((((s).1) y) ||| ((((s).1) y) <<< ((1 : Int32) &&& 31))) ||| ((((s).1) y) >>> ((1 : Int32) &&& 31)))], dx_pR m 5 ((s).1))) rfl ?_
        refine dx_br (q := (nI y) ≤ 0) (a := 70) (b := 59) (L := [.ref 3, .int (bI (s).2), .int (nI n), .int (nI y), .int (((((s).1) y) ||| ((((s).1) y) <<< ((1 : Int32) &&& 31))) ||| ((((s).1) y) >>> ((1 : Int32) &&& 31)))]) (st := [.int (((((s).1) y) ||| ((((s).1) y) <<< ((1 : Int32) &&& 31))) ||| ((((s).1) y) >>> ((1 : Int32) &&& 31)))]) (m := dx_pR m 5 ((s).1)) rfl (fun _ => ?_) (fun h => absurd (by rw [show y = 0 by omega]; decide) h)
        refine dx_blk 7 (c' := (81, [.ref 3, .int (bI (s).2), .int (nI n), .int (nI y), .int ((((((s).1) y) ||| ((((s).1) y) <<< ((1 : Int32) &&& 31))) ||| ((((s).1) y) >>> ((1 : Int32) &&& 31))) ||| 0)], [.int (m.1 3 4), .int (nI y), .int ((((((s).1) y) ||| ((((s).1) y) <<< ((1 : Int32) &&& 31))) ||| ((((s).1) y) >>> ((1 : Int32) &&& 31))) ||| 0)], dx_pR m 5 ((s).1))) rfl ?_
        refine dx_br (q := (m.1 3 4) ≤ (nI y)) (a := 95) (b := 84) (L := [.ref 3, .int (bI (s).2), .int (nI n), .int (nI y), .int ((((((s).1) y) ||| ((((s).1) y) <<< ((1 : Int32) &&& 31))) ||| ((((s).1) y) >>> ((1 : Int32) &&& 31))) ||| 0)]) (st := [.int ((((((s).1) y) ||| ((((s).1) y) <<< ((1 : Int32) &&& 31))) ||| ((((s).1) y) >>> ((1 : Int32) &&& 31))) ||| 0)]) (m := dx_pR m 5 ((s).1)) rfl (fun _ => ?_) (fun h => absurd (by rw [show m.1 3 4 = nI r from er]; exact nI_le (by omega) (by omega)) h)
        refine dx_blk 7 (c' := (106, [.ref 3, .int (bI (s).2), .int (nI n), .int (nI y), .int (((((((s).1) y) ||| ((((s).1) y) <<< ((1 : Int32) &&& 31))) ||| ((((s).1) y) >>> ((1 : Int32) &&& 31))) ||| 0) ||| 0)], [.int (nI y), .ref 4, .int (((((((s).1) y) ||| ((((s).1) y) <<< ((1 : Int32) &&& 31))) ||| ((((s).1) y) >>> ((1 : Int32) &&& 31))) ||| 0) ||| 0)], dx_pR m 5 ((s).1))) rfl ?_
        refine dx_aldN y rfl rfl rfl rfl (by omega) ?_
        refine dx_blk 0 (c' := (107, [.ref 3, .int (bI (s).2), .int (nI n), .int (nI y), .int (((((((s).1) y) ||| ((((s).1) y) <<< ((1 : Int32) &&& 31))) ||| ((((s).1) y) >>> ((1 : Int32) &&& 31))) ||| 0) ||| 0)], [.int (m.1 4 y), .int (((((((s).1) y) ||| ((((s).1) y) <<< ((1 : Int32) &&& 31))) ||| ((((s).1) y) >>> ((1 : Int32) &&& 31))) ||| 0) ||| 0)], dx_pR m 5 ((s).1))) rfl ?_
        refine dx_blk 7 (c' := (118, [.ref 3, .int (bI (s).2), .int (nI n), .int (nI y), .int ((((((((s).1) y) ||| ((((s).1) y) <<< ((1 : Int32) &&& 31))) ||| ((((s).1) y) >>> ((1 : Int32) &&& 31))) ||| 0) ||| 0) &&& (m.1 4 y))], [.int (nI y), .ref 5, .int ((((((((s).1) y) ||| ((((s).1) y) <<< ((1 : Int32) &&& 31))) ||| ((((s).1) y) >>> ((1 : Int32) &&& 31))) ||| 0) ||| 0) &&& (m.1 4 y)), .int (bI (s).2)], dx_pR m 5 ((s).1))) rfl ?_
        refine dx_aldN y rfl rfl rfl rfl (by omega) ?_
        refine dx_blk 0 (c' := (119, [.ref 3, .int (bI (s).2), .int (nI n), .int (nI y), .int ((((((((s).1) y) ||| ((((s).1) y) <<< ((1 : Int32) &&& 31))) ||| ((((s).1) y) >>> ((1 : Int32) &&& 31))) ||| 0) ||| 0) &&& (m.1 4 y))], [.int (((s).1) y), .int ((((((((s).1) y) ||| ((((s).1) y) <<< ((1 : Int32) &&& 31))) ||| ((((s).1) y) >>> ((1 : Int32) &&& 31))) ||| 0) ||| 0) &&& (m.1 4 y)), .int (bI (s).2)], dx_pR m 5 ((s).1))) rfl ?_
        refine dx_br (q := ((((((((s).1) y) ||| ((((s).1) y) <<< ((1 : Int32) &&& 31))) ||| ((((s).1) y) >>> ((1 : Int32) &&& 31))) ||| 0) ||| 0) &&& (m.1 4 y)) = (((s).1) y)) (a := 126) (b := 122) (L := [.ref 3, .int (bI (s).2), .int (nI n), .int (nI y), .int ((((((((s).1) y) ||| ((((s).1) y) <<< ((1 : Int32) &&& 31))) ||| ((((s).1) y) >>> ((1 : Int32) &&& 31))) ||| 0) ||| 0) &&& (m.1 4 y))]) (st := [.int (bI (s).2)]) (m := dx_pR m 5 ((s).1)) rfl (fun q119 => ?_) (fun q119 => ?_)
        · refine dx_blk 7 (c' := (136, [.ref 3, .int ((bI (s).2) ||| 0), .int (nI n), .int (nI y), .int ((((((((s).1) y) ||| ((((s).1) y) <<< ((1 : Int32) &&& 31))) ||| ((((s).1) y) >>> ((1 : Int32) &&& 31))) ||| 0) ||| 0) &&& (m.1 4 y))], [.int ((((((((s).1) y) ||| ((((s).1) y) <<< ((1 : Int32) &&& 31))) ||| ((((s).1) y) >>> ((1 : Int32) &&& 31))) ||| 0) ||| 0) &&& (m.1 4 y)), .int (nI y), .ref 5], dx_pR m 5 ((s).1))) rfl ?_
          refine dx_astN y rfl rfl rfl rfl (by omega) ?_
          refine dx_blk 0 (c' := (137, [.ref 3, .int ((bI (s).2) ||| 0), .int (nI n), .int (nI y), .int ((((((((s).1) y) ||| ((((s).1) y) <<< ((1 : Int32) &&& 31))) ||| ((((s).1) y) >>> ((1 : Int32) &&& 31))) ||| 0) ||| 0) &&& (m.1 4 y))], [], dx_pI (dx_pR m 5 ((s).1)) 5 y ((((((((s).1) y) ||| ((((s).1) y) <<< ((1 : Int32) &&& 31))) ||| ((((s).1) y) >>> ((1 : Int32) &&& 31))) ||| 0) ||| 0) &&& (m.1 4 y)))) rfl ?_
          refine dx_blk 2 (c' := (19, [.ref 3, .int ((bI (s).2) ||| 0), .int (nI n), .int ((nI y) + 1), .int ((((((((s).1) y) ||| ((((s).1) y) <<< ((1 : Int32) &&& 31))) ||| ((((s).1) y) >>> ((1 : Int32) &&& 31))) ||| 0) ||| 0) &&& (m.1 4 y))], [], dx_pI (dx_pR m 5 ((s).1)) 5 y ((((((((s).1) y) ||| ((((s).1) y) <<< ((1 : Int32) &&& 31))) ||| ((((s).1) y) >>> ((1 : Int32) &&& 31))) ||| 0) ||| 0) &&& (m.1 4 y)))) rfl ?_
          refine dx_fgt [.ref 3, .int ((bI (s).2) ||| 0), .int (nI n), .int ((nI y) + 1), .null] (And.intro (Or.inr rfl) (And.intro (Or.inr rfl) (And.intro (Or.inr rfl) (And.intro (Or.inr rfl) (And.intro (Or.inl rfl) trivial))))) ?_
          have e1 : rwI (m.1 4) s.1 r y = (((((((s).1) y) ||| ((((s).1) y) <<< ((1 : Int32) &&& 31))) ||| ((((s).1) y) >>> ((1 : Int32) &&& 31))) ||| 0) ||| 0) &&& (m.1 4 y) := by
            unfold rwI
            first | rw [if_pos qy, if_pos qr] | rw [if_pos qy, if_neg qr] | rw [if_neg qy, if_pos qr] | rw [if_neg qy, if_neg qr]
          rw [dx_pI_pR, ← nI_succ]
          unfold psI at hk
          rw [e1] at hk
          first | (have e2 : decide (¬ ((((((((s).1) y) ||| ((((s).1) y) <<< ((1 : Int32) &&& 31))) ||| ((((s).1) y) >>> ((1 : Int32) &&& 31))) ||| 0) ||| 0) &&& (m.1 4 y)) = s.1 y) = false := decide_eq_false (fun q => q q119); rw [e2] at hk; rw [bI_o0]; exact hk) | (have e2 : decide (¬ ((((((((s).1) y) ||| ((((s).1) y) <<< ((1 : Int32) &&& 31))) ||| ((((s).1) y) >>> ((1 : Int32) &&& 31))) ||| 0) ||| 0) &&& (m.1 4 y)) = s.1 y) = true := decide_eq_true q119; rw [e2] at hk; rw [bI_o1]; exact hk)
        · refine dx_blk 8 (c' := (136, [.ref 3, .int ((bI (s).2) ||| 1), .int (nI n), .int (nI y), .int ((((((((s).1) y) ||| ((((s).1) y) <<< ((1 : Int32) &&& 31))) ||| ((((s).1) y) >>> ((1 : Int32) &&& 31))) ||| 0) ||| 0) &&& (m.1 4 y))], [.int ((((((((s).1) y) ||| ((((s).1) y) <<< ((1 : Int32) &&& 31))) ||| ((((s).1) y) >>> ((1 : Int32) &&& 31))) ||| 0) ||| 0) &&& (m.1 4 y)), .int (nI y), .ref 5], dx_pR m 5 ((s).1))) rfl ?_
          refine dx_astN y rfl rfl rfl rfl (by omega) ?_
          refine dx_blk 0 (c' := (137, [.ref 3, .int ((bI (s).2) ||| 1), .int (nI n), .int (nI y), .int ((((((((s).1) y) ||| ((((s).1) y) <<< ((1 : Int32) &&& 31))) ||| ((((s).1) y) >>> ((1 : Int32) &&& 31))) ||| 0) ||| 0) &&& (m.1 4 y))], [], dx_pI (dx_pR m 5 ((s).1)) 5 y ((((((((s).1) y) ||| ((((s).1) y) <<< ((1 : Int32) &&& 31))) ||| ((((s).1) y) >>> ((1 : Int32) &&& 31))) ||| 0) ||| 0) &&& (m.1 4 y)))) rfl ?_
          refine dx_blk 2 (c' := (19, [.ref 3, .int ((bI (s).2) ||| 1), .int (nI n), .int ((nI y) + 1), .int ((((((((s).1) y) ||| ((((s).1) y) <<< ((1 : Int32) &&& 31))) ||| ((((s).1) y) >>> ((1 : Int32) &&& 31))) ||| 0) ||| 0) &&& (m.1 4 y))], [], dx_pI (dx_pR m 5 ((s).1)) 5 y ((((((((s).1) y) ||| ((((s).1) y) <<< ((1 : Int32) &&& 31))) ||| ((((s).1) y) >>> ((1 : Int32) &&& 31))) ||| 0) ||| 0) &&& (m.1 4 y)))) rfl ?_
          refine dx_fgt [.ref 3, .int ((bI (s).2) ||| 1), .int (nI n), .int ((nI y) + 1), .null] (And.intro (Or.inr rfl) (And.intro (Or.inr rfl) (And.intro (Or.inr rfl) (And.intro (Or.inr rfl) (And.intro (Or.inl rfl) trivial))))) ?_
          have e1 : rwI (m.1 4) s.1 r y = (((((((s).1) y) ||| ((((s).1) y) <<< ((1 : Int32) &&& 31))) ||| ((((s).1) y) >>> ((1 : Int32) &&& 31))) ||| 0) ||| 0) &&& (m.1 4 y) := by
            unfold rwI
            first | rw [if_pos qy, if_pos qr] | rw [if_pos qy, if_neg qr] | rw [if_neg qy, if_pos qr] | rw [if_neg qy, if_neg qr]
          rw [dx_pI_pR, ← nI_succ]
          unfold psI at hk
          rw [e1] at hk
          first | (have e2 : decide (¬ ((((((((s).1) y) ||| ((((s).1) y) <<< ((1 : Int32) &&& 31))) ||| ((((s).1) y) >>> ((1 : Int32) &&& 31))) ||| 0) ||| 0) &&& (m.1 4 y)) = s.1 y) = false := decide_eq_false (fun q => q q119); rw [e2] at hk; rw [bI_o0]; exact hk) | (have e2 : decide (¬ ((((((((s).1) y) ||| ((((s).1) y) <<< ((1 : Int32) &&& 31))) ||| ((((s).1) y) >>> ((1 : Int32) &&& 31))) ||| 0) ||| 0) &&& (m.1 4 y)) = s.1 y) = true := decide_eq_true q119; rw [e2] at hk; rw [bI_o1]; exact hk)
  · refine dx_blk 0 (c' := (19, [.ref 3, .int (bI ((nf (psI (m.1 4) r) (r + 1) (f, false))).2), .int (nI n), .int (nI (r + 1)), .null], [], dx_pR m 5 (((nf (psI (m.1 4) r) (r + 1) (f, false))).1))) rfl ?_
    refine dx_blk 3 (c' := (24, [.ref 3, .int (bI ((nf (psI (m.1 4) r) (r + 1) (f, false))).2), .int (nI n), .int (nI (r + 1)), .null], [.int (m.1 3 4), .int (nI (r + 1))], dx_pR m 5 (((nf (psI (m.1 4) r) (r + 1) (f, false))).1))) rfl ?_
    refine dx_br (q := (m.1 3 4) < (nI (r + 1))) (a := 143) (b := 27) (L := [.ref 3, .int (bI ((nf (psI (m.1 4) r) (r + 1) (f, false))).2), .int (nI n), .int (nI (r + 1)), .null]) (st := []) (m := dx_pR m 5 (((nf (psI (m.1 4) r) (r + 1) (f, false))).1)) rfl (fun _ => ?_) (fun h => absurd (by rw [show m.1 3 4 = nI r from er]; exact nI_lt (by omega) (by omega)) h)
    refine dx_blk 2 (c' := (4, [.ref 3, .int (bI ((nf (psI (m.1 4) r) (r + 1) (f, false))).2), .int ((nI n) + 1), .int (nI (r + 1)), .null], [], dx_pR m 5 (((nf (psI (m.1 4) r) (r + 1) (f, false))).1))) rfl ?_
    refine dx_fgt [.ref 3, .int (bI ((nf (psI (m.1 4) r) (r + 1) (f, false))).2), .int ((nI n) + 1), .null, .null] (And.intro (Or.inr rfl) (And.intro (Or.inr rfl) (And.intro (Or.inr rfl) (And.intro (Or.inl rfl) (And.intro (Or.inl rfl) trivial))))) ?_
    rw [← nI_succ]
    exact hk
/-- the flood, till nothing changes or the passes are through -/
theorem lp_spreads {d : Nat} (m : dx_M) {Z : Option Value → dx_M → Prop} {r : Nat} (hr : r < 12) (er : m.1 3 4 = nI r) : ∀ (k n : Nat) (f : Nat → Int32), n + k = 145 → Z none (dx_pR m 5 (spI (m.1 4) r k f)) → dx_Go d (dx_Sem dx_P lx_X d) lx_X km_X1_spread Z (4, [.ref 3, .int (bI true), .int (nI n), .null, .null], [], dx_pR m 5 f) := by
  intro k
  induction k with
  | zero =>
    intro n f hn h
    obtain rfl : n = 145 := by omega
    refine dx_blk 1 (c' := (5, [.ref 3, .int (bI true), .int (nI 145), .null, .null], [.int (bI true)], dx_pR m 5 f)) rfl ?_
    refine dx_br (q := bI true = 0) (a := 149) (b := 8) (L := [.ref 3, .int (bI true), .int (nI 145), .null, .null]) (st := []) (m := dx_pR m 5 f) rfl (fun q => absurd q (by decide)) (fun _ => ?_)
    refine dx_blk 2 (c' := (12, [.ref 3, .int (bI true), .int (nI 145), .null, .null], [.int 144, .int (nI 145)], dx_pR m 5 f)) rfl ?_
    refine dx_br (q := 144 < nI 145) (a := 149) (b := 15) (L := [.ref 3, .int (bI true), .int (nI 145), .null, .null]) (st := []) (m := dx_pR m 5 f) rfl (fun _ => ?_) (fun q => absurd (by decide) q)
    exact dx_ret (r := none) rfl h
  | succ k ih =>
    intro n f hn h
    refine lp_spread m hr er f n (by omega) ?_
    cases e : (nf (psI (m.1 4) r) (r + 1) (f, false)).2 with
    | true =>
      rw [spI_t e] at h
      exact ih (n + 1) _ (by omega) h
    | false =>
      rw [spI_f e] at h
      refine dx_blk 1 (c' := (5, [.ref 3, .int (bI false), .int (nI (n + 1)), .null, .null], [.int (bI false)], dx_pR m 5 (nf (psI (m.1 4) r) (r + 1) (f, false)).1)) rfl ?_
      refine dx_br (q := bI false = 0) (a := 149) (b := 8) (L := [.ref 3, .int (bI false), .int (nI (n + 1)), .null, .null]) (st := []) (m := dx_pR m 5 (nf (psI (m.1 4) r) (r + 1) (f, false)).1) rfl (fun _ => ?_) (fun q => absurd (by decide) q)
      exact dx_ret (r := none) rfl h
theorem sX1_spread {d : Nat} (m : dx_M) {Z : Option Value → dx_M → Prop} {r : Nat} (hr : r < 12) (er : m.1 3 4 = nI r) (h : Z none (dx_pR m 5 (spI (m.1 4) r 145 (m.1 5)))) : dx_Sem dx_P lx_X (d + 1) 13 [.ref 3] m Z := by
  refine dx_sem km_X1_spread rfl rfl ?_
  refine dx_blk 4 (c' := (4, [.ref 3, .int 1, .int 0, .null, .null], [], m)) rfl ?_
  refine dx_mem (m' := dx_pR m 5 (m.1 5)) (dx_pR_self _ 5).symm ?_
  exact lp_spreads m hr er 145 0 (m.1 5) rfl h
end
section
/-! THE FLOOD: which places are wet with water in rows 0 to r, as the least set that is closed -/
def mk (p : Nat → Bool) : Nat → Nat
  | 0 => 0
  | n + 1 => mk p n ||| (if p n = true then 2 ^ n else 0)
theorem mk_bit (p : Nat → Bool) (x : Nat) : ∀ w, (mk p w).testBit x = (decide (x < w) && p x)
  | 0 => by simp [mk]
  | n + 1 => by
    have ih := mk_bit p x n
    unfold mk
    rw [Nat.testBit_or, ih]
    by_cases h : p n = true
    · rw [if_pos h, Nat.testBit_two_pow]
      by_cases e : n = x
      · subst e; simp [h]
      · have e2 : (x < n + 1) ↔ (x < n) := by omega
        simp [e, e2]
    · rw [if_neg h, Nat.zero_testBit, Bool.or_false]
      by_cases e : n = x
      · subst e; simp [h]
      · have e2 : (x < n + 1) ↔ (x < n) := by omega
        simp [e2]
theorem mk_lt (p : Nat → Bool) : ∀ w, mk p w < 2 ^ w
  | 0 => by simp [mk]
  | n + 1 => by
    have ih := mk_lt p n
    unfold mk
    refine Nat.or_lt_two_pow (Nat.lt_trans ih (Nat.pow_lt_pow_right (by decide) (by omega))) ?_
    by_cases h : p n = true
    · rw [if_pos h]; exact Nat.pow_lt_pow_right (by decide) (by omega)
    · rw [if_neg h]; exact Nat.two_pow_pos _
def IM (p : Nat → Bool) (w : Nat) : Int32 := nI (mk p w)
theorem bt_nI {n i : Nat} (hi : i < 32) : bt (nI n) i = n.testBit i := by
  unfold bt nI
  show (BitVec.ofNat 32 n).getLsbD i = n.testBit i
  rw [BitVec.getLsbD_ofNat]
  simp [hi]
theorem bt_IM {p : Nat → Bool} {w i : Nat} (hi : i < 32) : bt (IM p w) i = (decide (i < w) && p i) := by
  unfold IM
  rw [bt_nI hi, mk_bit]
theorem IM_ext {x : Int32} {p : Nat → Bool} {w : Nat} (h : ∀ i, i < 32 → bt x i = (decide (i < w) && p i)) : x = IM p w := b_ext (fun i hi => by rw [h i hi, bt_IM hi])
theorem IM_cong {p q : Nat → Bool} {w : Nat} (h : ∀ x, x < w → p x = q x) : IM p w = IM q w := IM_ext (fun i hi => by
  rw [bt_IM hi]
  by_cases e : i < w
  · rw [h i e]
  · simp [e])
theorem IM_inj {p q : Nat → Bool} {w : Nat} (hw : w ≤ 32) (h : IM p w = IM q w) : ∀ x, x < w → p x = q x := fun x hx => by
  have e := congrArg (fun z => bt z x) h
  simp only [bt_IM (show x < 32 by omega), hx, decide_true, Bool.true_and] at e
  exact e
def closedP (op : Nat → Nat → Bool) (w r : Nat) (S : Nat → Nat → Prop) : Prop :=
  ∀ y x, y ≤ r → x < w → op y x = true → (x = 0 ∨ x + 1 = w ∨ y = 0 ∨ (0 < x ∧ S y (x - 1)) ∨ (x + 1 < w ∧ S y (x + 1)) ∨ (0 < y ∧ S (y - 1) x) ∨ (y < r ∧ S (y + 1) x)) → S y x
def wetP (op : Nat → Nat → Bool) (w r y x : Nat) : Prop := ∀ S, closedP op w r S → S y x
noncomputable def wetB (op : Nat → Nat → Bool) (w r y x : Nat) : Bool := @decide (wetP op w r y x) (Classical.propDecidable _)
theorem wetB_t {op : Nat → Nat → Bool} {w r y x : Nat} : wetB op w r y x = true ↔ wetP op w r y x := by
  unfold wetB
  exact @decide_eq_true_iff _ (Classical.propDecidable _)
theorem wet_open {op : Nat → Nat → Bool} {w r y x : Nat} (h : wetB op w r y x = true) : op y x = true ∧ y ≤ r ∧ x < w :=
  wetB_t.mp h (fun y x => op y x = true ∧ y ≤ r ∧ x < w) (fun _ _ h1 h2 h3 _ => ⟨h3, h1, h2⟩)
theorem wet_closed (op : Nat → Nat → Bool) (w r : Nat) : closedP op w r (fun y x => wetB op w r y x = true) := by
  intro y x h1 h2 h3 h4
  refine wetB_t.mpr (fun S hS => hS y x h1 h2 h3 ?_)
  rcases h4 with h | h | h | ⟨h, k⟩ | ⟨h, k⟩ | ⟨h, k⟩ | ⟨h, k⟩
  · exact Or.inl h
  · exact Or.inr (Or.inl h)
  · exact Or.inr (Or.inr (Or.inl h))
  · exact Or.inr (Or.inr (Or.inr (Or.inl ⟨h, wetB_t.mp k S hS⟩)))
  · exact Or.inr (Or.inr (Or.inr (Or.inr (Or.inl ⟨h, wetB_t.mp k S hS⟩))))
  · exact Or.inr (Or.inr (Or.inr (Or.inr (Or.inr (Or.inl ⟨h, wetB_t.mp k S hS⟩)))))
  · exact Or.inr (Or.inr (Or.inr (Or.inr (Or.inr (Or.inr ⟨h, wetB_t.mp k S hS⟩)))))
theorem wet_least {op : Nat → Nat → Bool} {w r y x : Nat} {S : Nat → Nat → Prop} (hS : closedP op w r S) (h : wetB op w r y x = true) : S y x := wetB_t.mp h S hS
/-- water that rises leaves no place -/
theorem wet_mono {op : Nat → Nat → Bool} {w r r' y x : Nat} (hr : r ≤ r') (h : wetB op w r y x = true) : wetB op w r' y x = true := by
  refine wet_least (S := fun y x => wetB op w r' y x = true) (fun y x h1 h2 h3 h4 => ?_) h
  refine wet_closed op w r' y x (by omega) h2 h3 ?_
  rcases h4 with h | h | h | ⟨h, k⟩ | ⟨h, k⟩ | ⟨h, k⟩ | ⟨h, k⟩
  · exact Or.inl h
  · exact Or.inr (Or.inl h)
  · exact Or.inr (Or.inr (Or.inl h))
  · exact Or.inr (Or.inr (Or.inr (Or.inl ⟨h, k⟩)))
  · exact Or.inr (Or.inr (Or.inr (Or.inr (Or.inl ⟨h, k⟩))))
  · exact Or.inr (Or.inr (Or.inr (Or.inr (Or.inr (Or.inl ⟨h, k⟩)))))
  · exact Or.inr (Or.inr (Or.inr (Or.inr (Or.inr (Or.inr ⟨by omega, k⟩)))))
/-- a set that is sound and closed is the flood -/
theorem wet_is {op : Nat → Nat → Bool} {w r : Nat} {T : Nat → Nat → Bool} (h1 : ∀ y x, y ≤ r → x < w → T y x = true → wetB op w r y x = true) (h2 : closedP op w r (fun y x => y ≤ r ∧ x < w ∧ T y x = true)) : ∀ y x, y ≤ r → x < w → T y x = wetB op w r y x := by
  intro y x hy hx
  cases e : wetB op w r y x with
  | true => exact (wet_least h2 e).2.2
  | false =>
    cases e2 : T y x with
    | false => rfl
    | true => rw [h1 y x hy hx e2] at e; cases e
/-- a place as one look at its row sees it -/
def nbX (op wt : Nat → Nat → Bool) (w r y x : Nat) : Bool := (wt y x || (decide (0 < x) && wt y (x - 1)) || (decide (x + 1 < w) && wt y (x + 1)) || (decide (0 < y) && wt (y - 1) x) || (decide (y < r) && wt (y + 1) x)) && op y x
theorem rwI_IM {op wt : Nat → Nat → Bool} {o f : Nat → Int32} {w r y : Nat} (hw : w ≤ 12) (hy : y ≤ r) (ho : o y = IM (op y) w) (hf : ∀ y, y ≤ r → f y = IM (wt y) w) : rwI o f r y = IM (nbX op wt w r y) w := by
  refine IM_ext (fun i hi => ?_)
  unfold rwI
  rw [b_and, b_or, b_or, b_or, b_or, ho, bt_IM hi, hf y hy, bt_IM hi, show (1 : Int32) = nI 1 from rfl, b_shl 1 (by decide) _ hi, b_sshr 1 (by decide) _ hi, bt_IM (show i - 1 < 32 by omega)]
  have e1 : (if 1 + i < 32 then bt (IM (wt y) w) (1 + i) else bt (IM (wt y) w) 31) = (decide (i + 1 < w) && wt y (i + 1)) := by
    by_cases h : 1 + i < 32
    · rw [if_pos h, bt_IM h, Nat.add_comm 1 i]
    · rw [if_neg h, bt_IM (by decide)]
      have h2 : ¬ 31 < w := by omega
      have h3 : ¬ i + 1 < w := by omega
      simp [h2, h3]
  have e2 : bt (if 0 < y then f (y - 1) else 0) i = (decide (0 < y) && (decide (i < w) && wt (y - 1) i)) := by
    by_cases h : 0 < y
    · rw [if_pos h, hf (y - 1) (by omega), bt_IM hi]; simp [h]
    · rw [if_neg h, b_0]; simp [h]
  have e3 : bt (if y < r then f (y + 1) else 0) i = (decide (y < r) && (decide (i < w) && wt (y + 1) i)) := by
    by_cases h : y < r
    · rw [if_pos h, hf (y + 1) (by omega), bt_IM hi]; simp [h]
    · rw [if_neg h, b_0]; simp [h]
  rw [e1, e2, e3]
  unfold nbX
  by_cases h : i < w
  · have h2 : i - 1 < w := by omega
    have h3 : (1 ≤ i) = (0 < i) := rfl
    simp [h, h2, h3]
  · simp [h]
/-- what one pass does to the rows: the state before and after -/
def pasR (op wt wt' : Nat → Nat → Bool) (w r j : Nat) (more : Bool) : Prop :=
  (∀ y x, y ≤ r → x < w → wt y x = true → wt' y x = true) ∧
  ((∀ y x, y ≤ r → x < w → wt y x = true → wetB op w r y x = true) → ∀ y x, y ≤ r → x < w → wt' y x = true → wetB op w r y x = true) ∧
  (more = false → (∀ y x, y ≤ r → x < w → wt' y x = wt y x) ∧ ∀ y x, y < j → x < w → nbX op wt w r y x = wt y x) ∧
  (more = true → ∃ y x, y ≤ r ∧ x < w ∧ wt y x = false ∧ wt' y x = true)
end
section
theorem nbX_cong {op a b : Nat → Nat → Bool} {w r y x : Nat} (h : ∀ y x, y ≤ r → x < w → a y x = b y x) (hy : y ≤ r) (hx : x < w) : nbX op a w r y x = nbX op b w r y x := by
  unfold nbX
  have e1 : (decide (x + 1 < w) && a y (x + 1)) = (decide (x + 1 < w) && b y (x + 1)) := by
    by_cases q : x + 1 < w
    · rw [h y (x + 1) hy q]
    · simp [q]
  have e2 : (decide (y < r) && a (y + 1) x) = (decide (y < r) && b (y + 1) x) := by
    by_cases q : y < r
    · rw [h (y + 1) x (by omega) hx]
    · simp [q]
  rw [e1, e2, h y x hy hx, h y (x - 1) hy (by omega), h (y - 1) x (by omega) hx]
theorem nbX_ge {op a : Nat → Nat → Bool} {w r y x : Nat} (h : a y x = true) (ho : op y x = true) : nbX op a w r y x = true := by
  unfold nbX
  simp [h, ho]
theorem nbX_op {op a : Nat → Nat → Bool} {w r y x : Nat} (h : nbX op a w r y x = true) : op y x = true := by
  unfold nbX at h
  rw [Bool.and_eq_true] at h
  exact h.2
theorem nbX_wet {op a : Nat → Nat → Bool} {w r y x : Nat} (hy : y ≤ r) (hx : x < w) (ha : ∀ y x, y ≤ r → x < w → a y x = true → wetB op w r y x = true) (h : nbX op a w r y x = true) : wetB op w r y x = true := by
  have ho := nbX_op h
  unfold nbX at h
  simp only [Bool.and_eq_true, Bool.or_eq_true, decide_eq_true_eq] at h
  rcases h.1 with (((h | h) | h) | h) | h
  · exact ha y x hy hx h
  · exact wet_closed op w r y x hy hx ho (Or.inr (Or.inr (Or.inr (Or.inl ⟨h.1, ha y (x - 1) hy (by omega) h.2⟩))))
  · exact wet_closed op w r y x hy hx ho (Or.inr (Or.inr (Or.inr (Or.inr (Or.inl ⟨h.1, ha y (x + 1) hy h.1 h.2⟩)))))
  · exact wet_closed op w r y x hy hx ho (Or.inr (Or.inr (Or.inr (Or.inr (Or.inr (Or.inl ⟨h.1, ha (y - 1) x (by omega) hx h.2⟩))))))
  · exact wet_closed op w r y x hy hx ho (Or.inr (Or.inr (Or.inr (Or.inr (Or.inr (Or.inr ⟨h.1, ha (y + 1) x (by omega) hx h.2⟩))))))
theorem pass_spec {op wt : Nat → Nat → Bool} {o f : Nat → Int32} {w r : Nat} (hw : w ≤ 12) (ho : ∀ y, y ≤ r → o y = IM (op y) w) (hf : ∀ y, y ≤ r → f y = IM (wt y) w) (hop : ∀ y x, y ≤ r → x < w → wt y x = true → op y x = true) : ∀ j, j ≤ r + 1 → ∃ wt', (∀ y, y ≤ r → (nf (psI o r) j (f, false)).1 y = IM (wt' y) w) ∧ (∀ y, r < y → (nf (psI o r) j (f, false)).1 y = f y) ∧ (∀ y x, y ≤ r → x < w → wt' y x = true → op y x = true) ∧ pasR op wt wt' w r j (nf (psI o r) j (f, false)).2 := by
  intro j
  induction j with
  | zero =>
    intro _
    exact ⟨wt, hf, fun _ _ => rfl, hop, fun _ _ _ _ h => h, fun h => h, fun _ => ⟨fun _ _ _ _ => rfl, fun y x h => absurd h (by omega)⟩, fun h => by cases h⟩
  | succ j ih =>
    intro hj
    obtain ⟨wt1, h1, h2, h3, p1, p2, p3, p4⟩ := ih (by omega)
    rw [nf_succ]
    generalize nf (psI o r) j (f, false) = s at h1 h2 p3 p4 ⊢
    have hv : rwI o s.1 r j = IM (nbX op wt1 w r j) w := rwI_IM hw (by omega) (ho j (by omega)) h1
    have hge : ∀ y x, y ≤ r → x < w → wt1 y x = true → (if y = j then nbX op wt1 w r j x else wt1 y x) = true := by
      intro y x hy hx h
      by_cases e : y = j
      · subst e; rw [if_pos rfl]; exact nbX_ge h (h3 y x hy hx h)
      · rw [if_neg e]; exact h
    refine ⟨fun y x => if y = j then nbX op wt1 w r j x else wt1 y x, ?_, ?_, ?_, ?_, ?_, ?_, ?_⟩
    · intro y hy
      show upd s.1 j (rwI o s.1 r j) y = _
      by_cases e : y = j
      · subst e
        rw [pk_us, hv]
        exact IM_cong (fun x _ => by (try dsimp only); rw [if_pos rfl])
      · rw [pk_un e, h1 y hy]
        exact IM_cong (fun x _ => by (try dsimp only); rw [if_neg e])
    · intro y hy
      show upd s.1 j (rwI o s.1 r j) y = _
      rw [pk_un (by omega)]
      exact h2 y hy
    · intro y x hy hx h
      by_cases e : y = j
      · subst e; (try dsimp only at h); rw [if_pos rfl] at h; exact nbX_op h
      · (try dsimp only at h); rw [if_neg e] at h; exact h3 y x hy hx h
    · intro y x hy hx h
      exact hge y x hy hx (p1 y x hy hx h)
    · intro hs y x hy hx h
      have hs1 := p2 hs
      by_cases e : y = j
      · subst e; (try dsimp only at h); rw [if_pos rfl] at h; exact nbX_wet hy hx hs1 h
      · (try dsimp only at h); rw [if_neg e] at h; exact hs1 y x hy hx h
    · intro hm
      have hm2 : s.2 = false ∧ decide (¬ rwI o s.1 r j = s.1 j) = false := by
        have hm3 : (s.2 || decide (¬ rwI o s.1 r j = s.1 j)) = false := hm
        rw [Bool.or_eq_false_iff] at hm3
        exact hm3
      obtain ⟨q1, q2⟩ := p3 hm2.1
      have e1 : rwI o s.1 r j = s.1 j := Decidable.not_not.mp (of_decide_eq_false hm2.2)
      rw [hv, h1 j (by omega)] at e1
      have e2 := IM_inj (by omega) e1
      have e3 : ∀ x, x < w → nbX op wt w r j x = wt j x := fun x hx => by
        rw [← nbX_cong q1 (by omega) hx, e2 x hx, q1 j x (by omega) hx]
      refine ⟨fun y x hy hx => ?_, fun y x hy hx => ?_⟩
      · by_cases e : y = j
        · subst e; (try dsimp only); rw [if_pos rfl, e2 x hx, q1 y x hy hx]
        · (try dsimp only); rw [if_neg e, q1 y x hy hx]
      · by_cases e : y = j
        · subst e; exact e3 x hx
        · exact q2 y x (by omega) hx
    · intro hm
      by_cases hs : s.2 = true
      · obtain ⟨y, x, a1, a2, a3, a4⟩ := p4 hs
        exact ⟨y, x, a1, a2, a3, hge y x a1 a2 a4⟩
      · have hs2 : s.2 = false := by simpa using hs
        have hm3 : (s.2 || decide (¬ rwI o s.1 r j = s.1 j)) = true := hm
        rw [hs2, Bool.false_or] at hm3
        have hm4 := of_decide_eq_true hm3
        obtain ⟨q1, -⟩ := p3 hs2
        rw [hv, h1 j (by omega)] at hm4
        have ex : ∃ x, x < w ∧ nbX op wt1 w r j x ≠ wt1 j x := by
          refine Classical.byContradiction (fun hn => hm4 (IM_cong (fun x hx => ?_)))
          refine Classical.byContradiction (fun hn2 => hn ⟨x, hx, hn2⟩)
        obtain ⟨x, hx, hne⟩ := ex
        have e1 : wt1 j x = false := by
          cases e : wt1 j x with
          | false => rfl
          | true => rw [nbX_ge e (h3 j x (by omega) hx e), e] at hne; exact absurd rfl hne
        have e2 : nbX op wt1 w r j x = true := by
          cases e : nbX op wt1 w r j x with
          | true => rfl
          | false => rw [e, e1] at hne; exact absurd rfl hne
        refine ⟨j, x, by omega, hx, by rw [← q1 j x (by omega) hx]; exact e1, ?_⟩
        show (if j = j then nbX op wt1 w r j x else wt1 j x) = true
        rw [if_pos rfl]; exact e2
/-- how many places are wet -/
def wcnt (wt : Nat → Nat → Bool) (w r : Nat) : Nat := fb_sm (fun y => fb_ct (wt y) w) (r + 1)
theorem wcnt_le (wt : Nat → Nat → Bool) {w r : Nat} (hw : w ≤ 12) (hr : r < 12) : wcnt wt w r ≤ 144 := by
  have h := fb_sm_bound (f := fun y => fb_ct (wt y) w) (c := w) (n := r + 1) (fun k _ => fb_ct_le (wt k) w)
  have h2 : (r + 1) * w ≤ 12 * 12 := Nat.mul_le_mul (by omega) hw
  unfold wcnt
  omega
theorem sm_lt {f g : Nat → Nat} {n k : Nat} (h : ∀ i, i < n → f i ≤ g i) (hk : k < n) (hs : f k < g k) : fb_sm f n < fb_sm g n := by
  induction n with
  | zero => omega
  | succ n ih =>
    rw [fb_sm_succ, fb_sm_succ]
    by_cases e : k = n
    · subst e
      have := fb_sm_le (f := f) (g := g) (n := k) (fun i hi => h i (by omega))
      omega
    · have h1 := ih (fun i hi => h i (by omega)) (by omega)
      have h2 := h n (by omega)
      omega
theorem ct_lt {p q : Nat → Bool} {n k : Nat} (h : ∀ i, i < n → p i = true → q i = true) (hk : k < n) (h1 : p k = false) (h2 : q k = true) : fb_ct p n < fb_ct q n := by
  induction n with
  | zero => omega
  | succ n ih =>
    rw [fb_ct_succ, fb_ct_succ]
    by_cases e : k = n
    · subst e
      have := fb_ct_sub (p := p) (q := q) (n := k) (fun i hi => h i (by omega))
      rw [h1, h2]
      simp
      omega
    · have h3 := ih (fun i hi => h i (by omega)) (by omega)
      have h4 : (if p n = true then 1 else 0) ≤ (if q n = true then 1 else 0 : Nat) := by
        by_cases e2 : p n = true
        · rw [if_pos e2, if_pos (h n (by omega) e2)]; exact Nat.le_refl _
        · rw [if_neg e2]; exact Nat.zero_le _
      omega
theorem wcnt_lt {a b : Nat → Nat → Bool} {w r : Nat} (h : ∀ y x, y ≤ r → x < w → a y x = true → b y x = true) (hs : ∃ y x, y ≤ r ∧ x < w ∧ a y x = false ∧ b y x = true) : wcnt a w r < wcnt b w r := by
  obtain ⟨y, x, hy, hx, e1, e2⟩ := hs
  refine sm_lt (k := y) (fun i hi => fb_ct_sub (fun k hk => h i k (by omega) hk)) (by omega) ?_
  exact ct_lt (fun i hi => h y i hy hi) hx e1 e2
/-- the flood of the class, row by row of bits, is the flood -/
theorem spread_ok {op : Nat → Nat → Bool} {o : Nat → Int32} {w r : Nat} (hw : w ≤ 12) (hr : r < 12) (ho : ∀ y, y ≤ r → o y = IM (op y) w) : ∀ (n : Nat) (f : Nat → Int32) (wt : Nat → Nat → Bool), (∀ y, y ≤ r → f y = IM (wt y) w) → (∀ y x, y ≤ r → x < w → wt y x = true → wetB op w r y x = true) → (∀ y x, y ≤ r → x < w → op y x = true → (x = 0 ∨ x + 1 = w ∨ y = 0) → wt y x = true) → 145 ≤ wcnt wt w r + n → (∀ y, y ≤ r → spI o r n f y = IM (wetB op w r y) w) ∧ ∀ y, r < y → spI o r n f y = f y := by
  intro n
  induction n with
  | zero =>
    intro f wt _ _ _ h
    have := wcnt_le wt hw hr
    omega
  | succ n ih =>
    intro f wt hf hs hseed hn
    obtain ⟨wt', h1, h2, h3, p1, p2, p3, p4⟩ := pass_spec hw ho hf (fun y x hy hx h => (wet_open (hs y x hy hx h)).1) (r + 1) (Nat.le_refl _)
    cases e : (nf (psI o r) (r + 1) (f, false)).2 with
    | true =>
      rw [spI_t e]
      have hlt := wcnt_lt p1 (p4 e)
      obtain ⟨g1, g2⟩ := ih _ wt' h1 (p2 hs) (fun y x hy hx h4 h5 => p1 y x hy hx (hseed y x hy hx h4 h5)) (by omega)
      exact ⟨g1, fun y hy => by rw [g2 y hy, h2 y hy]⟩
    | false =>
      rw [spI_f e]
      obtain ⟨q1, q2⟩ := p3 e
      have hcl : closedP op w r (fun y x => y ≤ r ∧ x < w ∧ wt y x = true) := by
        intro y x hy hx hop hnb
        refine ⟨hy, hx, ?_⟩
        rw [← q2 y x (by omega) hx]
        unfold nbX
        simp only [Bool.and_eq_true, Bool.or_eq_true, decide_eq_true_eq]
        refine ⟨?_, hop⟩
        rcases hnb with h | h | h | ⟨h, -, -, k⟩ | ⟨h, -, -, k⟩ | ⟨h, -, -, k⟩ | ⟨h, -, -, k⟩
        · exact Or.inl (Or.inl (Or.inl (Or.inl (hseed y x hy hx hop (Or.inl h)))))
        · exact Or.inl (Or.inl (Or.inl (Or.inl (hseed y x hy hx hop (Or.inr (Or.inl h))))))
        · exact Or.inl (Or.inl (Or.inl (Or.inl (hseed y x hy hx hop (Or.inr (Or.inr h))))))
        · exact Or.inl (Or.inl (Or.inl (Or.inr ⟨h, k⟩)))
        · exact Or.inl (Or.inl (Or.inr ⟨h, k⟩))
        · exact Or.inl (Or.inr ⟨h, k⟩)
        · exact Or.inr ⟨h, k⟩
      have hw2 := wet_is hs hcl
      refine ⟨fun y hy => ?_, h2⟩
      rw [h1 y hy]
      exact IM_cong (fun x hx => by rw [q1 y x hy hx, hw2 y x hy hx])
end
section
/-! rows of bits: counts, ends, single bits -/
def pcN (k : Nat) : Nat := fb_ct (fun x => k.testBit x) 12
theorem bc_all : (List.range 4096).all (fun k => decide (bcI (nI k) = nI (pcN k))) = true := by decide +kernel
theorem bc_nI {k : Nat} (h : k < 4096) : bcI (nI k) = nI (pcN k) := of_decide_eq_true (List.all_eq_true.mp bc_all k (List.mem_range.mpr h))
theorem ct_cut {p q : Nat → Bool} {w : Nat} (h : ∀ x, x < w → q x = p x) (h2 : ∀ x, w ≤ x → q x = false) : ∀ n, w ≤ n → fb_ct q n = fb_ct p w := by
  intro n hn
  obtain ⟨k, rfl⟩ := Nat.exists_eq_add_of_le hn
  rw [fb_ct_split, fb_ct_zero.mpr (fun k _ => h2 (w + k) (by omega)), Nat.add_zero]
  exact fb_ct_cong h
theorem bc_IM {p : Nat → Bool} {w : Nat} (hw : w ≤ 12) : bcI (IM p w) = nI (fb_ct p w) := by
  have h1 : mk p w < 4096 := Nat.lt_of_lt_of_le (mk_lt p w) (Nat.pow_le_pow_right (by decide) hw)
  unfold IM
  rw [bc_nI h1]
  unfold pcN
  rw [ct_cut (p := p) (w := w) (fun x hx => by rw [mk_bit]; simp [hx]) (fun x hx => by rw [mk_bit]; simp [Nat.not_lt.mpr hx]) 12 hw]
theorem ones_all : ∀ w, w < 13 → ((1 : Int32) <<< (nI w &&& 31)) - 1 = nI (2 ^ w - 1) := by decide +kernel
theorem ones_bt {w i : Nat} (hw : w ≤ 12) (hi : i < 32) : bt (((1 : Int32) <<< (nI w &&& 31)) - 1) i = decide (i < w) := by
  rw [ones_all w (by omega), bt_nI hi, Nat.testBit_two_pow_sub_one]
theorem fm_IM {p : Nat → Bool} {w : Nat} (hw : w ≤ 12) : fmI (nI w) (IM p w) = IM (fun x => !p x) w := by
  refine IM_ext (fun i hi => ?_)
  unfold fmI
  rw [b_and, b_xor, ones_bt hw hi, bt_IM hi, b_m1 i hi]
  by_cases h : i < w <;> simp [h]
theorem wy_0 {w : Nat} (hw : w ≤ 12) : wyI (nI w) 0 = IM (fun _ => true) w := by
  refine IM_ext (fun i hi => ?_)
  unfold wyI
  rw [if_pos rfl, ones_bt hw hi, Bool.and_true]
theorem ends_all : ∀ w, w < 13 → 0 < w → (1 : Int32) ||| ((1 : Int32) <<< ((nI w - 1) &&& 31)) = nI (mk (fun x => decide (x = 0) || decide (x + 1 = w)) w) := by decide +kernel
theorem wy_n {w y : Nat} (hw : w ≤ 12) (hw1 : 0 < w) (hy : 0 < y) (hy2 : y < 12) : wyI (nI w) (nI y) = IM (fun x => decide (x = 0) || decide (x + 1 = w)) w := by
  unfold wyI
  rw [if_neg (nI_ne0 hy (by omega)), ends_all w (by omega) hw1]
  rfl
theorem bt_1 : ∀ i, i < 32 → bt 1 i = decide (i = 0) := by decide +kernel
theorem bt_bI (b : Bool) {i : Nat} (hi : i < 32) : bt (bI b) i = (decide (i = 0) && b) := by
  cases b
  · show bt 0 i = _
    rw [b_0]; simp
  · show bt 1 i = _
    rw [bt_1 i hi]; simp
theorem bit_IM {p : Nat → Bool} {w x : Nat} (hw : w ≤ 12) (hx : x < w) : (IM p w >>> (nI x &&& 31)) &&& 1 = bI (p x) := by
  refine b_ext (fun i hi => ?_)
  rw [b_and, b_sshr x (by omega) _ hi, bt_1 i hi, bt_bI _ hi]
  by_cases h : i = 0
  · subst h
    rw [if_pos (by omega), bt_IM (by omega)]
    simp [hx]
  · simp [h]
theorem bit_IM0 {p : Nat → Bool} {w x : Nat} (hw : w ≤ 12) (hx : x < 12) : (IM p w >>> (nI x &&& 31)) &&& 1 = bI (decide (x < w) && p x) := by
  refine b_ext (fun i hi => ?_)
  rw [b_and, b_sshr x (by omega) _ hi, bt_1 i hi, bt_bI _ hi]
  by_cases h : i = 0
  · subst h
    rw [if_pos (by omega), bt_IM (by omega)]
    simp
  · simp [h]
theorem bI_mul (b : Bool) (v : Nat) : bI b * nI v = nI (if b = true then v else 0) := by
  cases b
  · show (0 : Int32) * nI v = nI 0
    rw [show (0 : Int32) = nI 0 from rfl, pk_mul, Nat.zero_mul]
  · show (1 : Int32) * nI v = nI v
    rw [show (1 : Int32) = nI 1 from rfl, pk_mul, Nat.one_mul]
def hvS (p : Nat → Bool) (w : Nat) : Nat := fb_sm (fun x => if p x = true then 2 * x + 1 else 0) w
def thS (p : Nat → Bool) (w : Nat) : Nat := fb_sm (fun x => if p x = true then 3 * x * x + 3 * x + 1 else 0) w
theorem hv_IM {p : Nat → Bool} {w : Nat} (hw : w ≤ 12) : ∀ n, n ≤ w → nf (st_hv (IM p w)) n 0 = nI (hvS p n)
  | 0, _ => rfl
  | n + 1, hn => by
    rw [nf_succ, hv_IM hw n (by omega)]
    unfold st_hv hvS
    rw [bit_IM hw (by omega), fb_sm_succ, show (2 : Int32) * nI n + 1 = nI (2 * n + 1) by rw [show (2 : Int32) = nI 2 from rfl, pk_mul, nI_1], bI_mul, nI_add]
end
section
/-! the log turned, water that rises (printed by wip/whole/g24.py) -/
def aN (t x y W H : Nat) : Nat := if t = 1 then H - 1 - y else if t = 2 then W - 1 - x else if t = 3 then y else x
def uN' (t x y W H : Nat) : Nat := if t = 1 then x else if t = 2 then H - 1 - y else if t = 3 then W - 1 - x else y
def x0 (t v u W H : Nat) : Nat := if t = 1 then v else if t = 2 then W - 1 - u else if t = 3 then W - 1 - v else u
def y0 (t v u W H : Nat) : Nat := if t = 1 then H - 1 - u else if t = 2 then H - 1 - v else if t = 3 then u else v
def wdN (t W H : Nat) : Nat := if t = 1 ∨ t = 3 then H else W
def htN (t W H : Nat) : Nat := if t = 1 ∨ t = 3 then W else H
def opS (f : Nat → Int32) (t W H v u : Nat) : Bool := decide (f (12 * y0 t v u W H + x0 t v u W H) = -9)
theorem t_cases {t : Nat} (h : t < 4) : t = 0 ∨ t = 1 ∨ t = 2 ∨ t = 3 := by omega
theorem aN_lt {t x y W H : Nat} (h : t < 4) (hx : x < W) (hy : y < H) : aN t x y W H < wdN t W H := by
  rcases t_cases h with rfl | rfl | rfl | rfl <;> simp [aN, wdN] <;> omega
theorem uN_lt {t x y W H : Nat} (h : t < 4) (hx : x < W) (hy : y < H) : uN' t x y W H < htN t W H := by
  rcases t_cases h with rfl | rfl | rfl | rfl <;> simp [uN', htN] <;> omega
theorem x0_lt {t v u W H : Nat} (h : t < 4) (hv : v < htN t W H) (hu : u < wdN t W H) : x0 t v u W H < W := by
  rcases t_cases h with rfl | rfl | rfl | rfl <;> simp [x0, wdN, htN] at * <;> omega
theorem y0_lt {t v u W H : Nat} (h : t < 4) (hv : v < htN t W H) (hu : u < wdN t W H) : y0 t v u W H < H := by
  rcases t_cases h with rfl | rfl | rfl | rfl <;> simp [y0, wdN, htN] at * <;> omega
theorem turn_inv {t v u x y W H : Nat} (h : t < 4) (hv : v < htN t W H) (hu : u < wdN t W H) (hx : x < W) (hy : y < H) : (x0 t v u W H = x ∧ y0 t v u W H = y) ↔ (v = uN' t x y W H ∧ u = aN t x y W H) := by
  rcases t_cases h with rfl | rfl | rfl | rfl <;> simp [x0, y0, aN, uN', wdN, htN] at * <;> omega
theorem sub1 {a b : Nat} (h : b < a) : nI a - 1 - nI b = nI (a - 1 - b) := by
  rw [show nI a - 1 = nI (a - 1) from pk_sub (a := a) (b := 1) (by omega), pk_sub (by omega)]
theorem trA_N {t x y W H : Nat} (h : t < 4) (hx : x < W) (hy : y < H) : trA (nI t) (nI x) (nI y) (nI W - 1) (nI H - 1) = nI (aN t x y W H) := by
  rcases t_cases h with rfl | rfl | rfl | rfl
  · rfl
  · show nI H - 1 - nI y = nI (H - 1 - y)
    exact sub1 hy
  · show nI W - 1 - nI x = nI (W - 1 - x)
    exact sub1 hx
  · rfl
theorem trU_N {t x y W H : Nat} (h : t < 4) (hx : x < W) (hy : y < H) : trU (nI t) (nI x) (nI y) (nI W - 1) (nI H - 1) = nI (uN' t x y W H) := by
  rcases t_cases h with rfl | rfl | rfl | rfl
  · rfl
  · rfl
  · show nI H - 1 - nI y = nI (H - 1 - y)
    exact sub1 hy
  · show nI W - 1 - nI x = nI (W - 1 - x)
    exact sub1 hx
theorem even_N : ∀ t, t < 4 → (nI t - nI t / 2 * 2 = 0 ↔ ¬ (t = 1 ∨ t = 3)) := by decide +kernel
theorem wd_N {t W H : Nat} (h : t < 4) : (if nI t - nI t / 2 * 2 = 0 then nI W else nI H) = nI (wdN t W H) := by
  unfold wdN
  by_cases q : t = 1 ∨ t = 3
  · rw [if_neg (fun z => (even_N t h).mp z q), if_pos q]
  · rw [if_pos ((even_N t h).mpr q), if_neg q]
theorem ht_N {t W H : Nat} (h : t < 4) : (if nI t - nI t / 2 * 2 = 0 then nI H else nI W) = nI (htN t W H) := by
  unfold htN
  by_cases q : t = 1 ∨ t = 3
  · rw [if_neg (fun z => (even_N t h).mp z q), if_pos q]
  · rw [if_pos ((even_N t h).mpr q), if_neg q]
def tstep (f : Nat → Int32) (t W H y x : Nat) (o : Nat → Int32) : Nat → Int32 := if f (y * 12 + x) = -9 then upd o (uN' t x y W H) (o (uN' t x y W H) ||| ((1 : Int32) <<< (nI (aN t x y W H) &&& 31))) else o
def tfull (f : Nat → Int32) (t W H : Nat) (o : Nat → Int32) : Nat → Int32 := nf (fun y o => nf (fun x o => tstep f t W H y x o) W o) H o
theorem dx_pI_45 (b : dx_M) (f g : Nat → Int32) (i j : Nat) (u v : Int32) : dx_pI (dx_pI (dx_pR (dx_pR b 4 f) 5 g) 4 i u) 5 j v = dx_pR (dx_pR b 4 (upd f i u)) 5 (upd g j v) := by
  unfold dx_pI dx_pR
  refine Prod.ext (funext fun a => ?_) rfl
  by_cases h : a = 4
  · subst h; simp
  · by_cases h2 : a = 5
    · subst h2; simp
    · simp [h, h2]
theorem dx_pI_45b (b : dx_M) (f g : Nat → Int32) (i : Nat) (u : Int32) : dx_pI (dx_pR (dx_pR b 4 f) 5 g) 4 i u = dx_pR (dx_pR b 4 (upd f i u)) 5 g := by
  unfold dx_pI dx_pR
  refine Prod.ext (funext fun a => ?_) rfl
  by_cases h : a = 4
  · subst h; simp
  · by_cases h2 : a = 5
    · subst h2; simp
    · simp [h, h2]
set_option maxRecDepth 20000 in
theorem sX1_turnTo {d : Nat} (m : dx_M) {W H : Nat} (hW : W ≤ 12) (hH : H ≤ 12) (eW : m.1 1 1 = nI W) (eH : m.1 1 2 = nI H) {t : Nat} (ht : t < 4) {Z : Option Value → dx_M → Prop} (h : Z none (dx_pR (dx_pR (dx_pI (dx_pI (dx_pI m 3 2 (nI (wdN t W H))) 3 3 (nI (htN t W H))) 3 4 (-1)) 4 (tfull (m.1 2) t W H (fa_fill (fun _ => 0) (m.1 4) 12))) 5 (fa_fill (fun _ => 0) (m.1 5) 12))) : dx_Sem dx_P lx_X (d + 2) 10 [.ref 3, .ref 1, .int (nI t)] m Z := by
  have hht : htN t W H ≤ 12 := by unfold htN; by_cases q : t = 1 ∨ t = 3 <;> simp [q] <;> omega
  refine dx_sem km_X1_turnTo rfl rfl ?_
  refine dx_blk 0 (c' := (0, [.ref 3, .ref 1, .int (nI t), .null, .null, .null], [], m)) rfl ?_
  refine dx_blk 3 (c' := (3, [.ref 3, .ref 1, .int (nI t), .null, .null, .null], [.int (nI t), .ref 1, .ref 3], m)) rfl ?_
  refine dx_call (id := 4) (as := [.ref 1, .int (nI t)]) (rest := [.ref 3]) rfl ?_
  refine sX0_across (nI t) _ ?_
  rw [eW, eH, wd_N ht]
  refine dx_blk 0 (c' := (6, [.ref 3, .ref 1, .int (nI t), .null, .null, .null], [.int (nI (wdN t W H)), .ref 3], m)) rfl ?_
  refine dx_blk 4 (c' := (12, [.ref 3, .ref 1, .int (nI t), .null, .null, .null], [.int (nI t), .ref 1, .ref 3], dx_pI m 3 2 (nI (wdN t W H)))) rfl ?_
  refine dx_call (id := 5) (as := [.ref 1, .int (nI t)]) (rest := [.ref 3]) rfl ?_
  refine sX0_up (nI t) _ ?_
  rw [show (dx_pI m 3 2 (nI (wdN t W H))).1 1 2 = nI H from eH, show (dx_pI m 3 2 (nI (wdN t W H))).1 1 1 = nI W from eW, ht_N ht]
  refine dx_blk 0 (c' := (15, [.ref 3, .ref 1, .int (nI t), .null, .null, .null], [.int (nI (htN t W H)), .ref 3], dx_pI m 3 2 (nI (wdN t W H)))) rfl ?_
  refine dx_blk 6 (c' := (25, [.ref 3, .ref 1, .int (nI t), .int 0, .null, .null], [], dx_pI (dx_pI (dx_pI m 3 2 (nI (wdN t W H))) 3 3 (nI (htN t W H))) 3 4 (-1))) rfl ?_
  refine dx_mem (m' := dx_pR (dx_pR (dx_pI (dx_pI (dx_pI m 3 2 (nI (wdN t W H))) 3 3 (nI (htN t W H))) 3 4 (-1)) 4 (fa_fill (fun _ => 0) (m.1 4) 0)) 5 (fa_fill (fun _ => 0) (m.1 5) 0)) (by
    rw [fa_fill_0, fa_fill_0, show m.1 4 = (dx_pI (dx_pI (dx_pI m 3 2 (nI (wdN t W H))) 3 3 (nI (htN t W H))) 3 4 (-1)).1 4 from rfl, dx_pR_self, show m.1 5 = (dx_pI (dx_pI (dx_pI m 3 2 (nI (wdN t W H))) 3 3 (nI (htN t W H))) 3 4 (-1)).1 5 from rfl, dx_pR_self]) ?_
  refine dx_blk 0 (c' := (25, [.ref 3, .ref 1, .int (nI t), .int (nI 0), .null, .null], [], dx_pR (dx_pR (dx_pI (dx_pI (dx_pI m 3 2 (nI (wdN t W H))) 3 3 (nI (htN t W H))) 3 4 (-1)) 4 (fa_fill (fun _ => 0) (m.1 4) 0)) 5 (fa_fill (fun _ => 0) (m.1 5) 0))) rfl ?_
  refine dx_for0 (fun (i : Nat) => ((25, [.ref 3, .ref 1, .int (nI t), .int (nI i), .null, .null], [], dx_pR (dx_pR (dx_pI (dx_pI (dx_pI m 3 2 (nI (wdN t W H))) 3 3 (nI (htN t W H))) 3 4 (-1)) 4 (fa_fill (fun _ => 0) (m.1 4) i)) 5 (fa_fill (fun _ => 0) (m.1 5) i)) : dx_F)) 12 (fun i hi hk => ?_) ?_
  · refine dx_blk 0 (c' := (25, [.ref 3, .ref 1, .int (nI t), .int (nI i), .null, .null], [], dx_pR (dx_pR (dx_pI (dx_pI (dx_pI m 3 2 (nI (wdN t W H))) 3 3 (nI (htN t W H))) 3 4 (-1)) 4 (fa_fill (fun _ => 0) (m.1 4) i)) 5 (fa_fill (fun _ => 0) (m.1 5) i))) rfl ?_
    refine dx_blk 2 (c' := (28, [.ref 3, .ref 1, .int (nI t), .int (nI i), .null, .null], [.int 12, .int (nI i)], dx_pR (dx_pR (dx_pI (dx_pI (dx_pI m 3 2 (nI (wdN t W H))) 3 3 (nI (htN t W H))) 3 4 (-1)) 4 (fa_fill (fun _ => 0) (m.1 4) i)) 5 (fa_fill (fun _ => 0) (m.1 5) i))) rfl ?_
    refine dx_br (q := 12 ≤ (nI i)) (a := 51) (b := 31) (L := [.ref 3, .ref 1, .int (nI t), .int (nI i), .null, .null]) (st := []) (m := dx_pR (dx_pR (dx_pI (dx_pI (dx_pI m 3 2 (nI (wdN t W H))) 3 3 (nI (htN t W H))) 3 4 (-1)) 4 (fa_fill (fun _ => 0) (m.1 4) i)) 5 (fa_fill (fun _ => 0) (m.1 5) i)) rfl (fun h => absurd h (nI_ge hi (by decide))) (fun _ => ?_)
    refine dx_blk 4 (c' := (37, [.ref 3, .ref 1, .int (nI t), .int (nI i), .null, .null], [.int 0, .int (nI i), .ref 4], dx_pR (dx_pR (dx_pI (dx_pI (dx_pI m 3 2 (nI (wdN t W H))) 3 3 (nI (htN t W H))) 3 4 (-1)) 4 (fa_fill (fun _ => 0) (m.1 4) i)) 5 (fa_fill (fun _ => 0) (m.1 5) i))) rfl ?_
    refine dx_astN i rfl rfl rfl rfl (by omega) ?_
    refine dx_blk 0 (c' := (38, [.ref 3, .ref 1, .int (nI t), .int (nI i), .null, .null], [], dx_pI (dx_pR (dx_pR (dx_pI (dx_pI (dx_pI m 3 2 (nI (wdN t W H))) 3 3 (nI (htN t W H))) 3 4 (-1)) 4 (fa_fill (fun _ => 0) (m.1 4) i)) 5 (fa_fill (fun _ => 0) (m.1 5) i)) 4 i 0)) rfl ?_
    refine dx_blk 4 (c' := (44, [.ref 3, .ref 1, .int (nI t), .int (nI i), .null, .null], [.int 0, .int (nI i), .ref 5], dx_pI (dx_pR (dx_pR (dx_pI (dx_pI (dx_pI m 3 2 (nI (wdN t W H))) 3 3 (nI (htN t W H))) 3 4 (-1)) 4 (fa_fill (fun _ => 0) (m.1 4) i)) 5 (fa_fill (fun _ => 0) (m.1 5) i)) 4 i 0)) rfl ?_
    refine dx_astN i rfl rfl rfl rfl (by omega) ?_
    refine dx_blk 0 (c' := (45, [.ref 3, .ref 1, .int (nI t), .int (nI i), .null, .null], [], dx_pI (dx_pI (dx_pR (dx_pR (dx_pI (dx_pI (dx_pI m 3 2 (nI (wdN t W H))) 3 3 (nI (htN t W H))) 3 4 (-1)) 4 (fa_fill (fun _ => 0) (m.1 4) i)) 5 (fa_fill (fun _ => 0) (m.1 5) i)) 4 i 0) 5 i 0)) rfl ?_
    refine dx_blk 2 (c' := (25, [.ref 3, .ref 1, .int (nI t), .int ((nI i) + 1), .null, .null], [], dx_pI (dx_pI (dx_pR (dx_pR (dx_pI (dx_pI (dx_pI m 3 2 (nI (wdN t W H))) 3 3 (nI (htN t W H))) 3 4 (-1)) 4 (fa_fill (fun _ => 0) (m.1 4) i)) 5 (fa_fill (fun _ => 0) (m.1 5) i)) 4 i 0) 5 i 0)) rfl ?_
    rw [dx_pI_45, show upd (fa_fill (fun _ => (0 : Int32)) (m.1 4) i) i 0 = fa_fill (fun _ => (0 : Int32)) (m.1 4) (i + 1) from fa_fill_succ (fun _ => 0) (m.1 4) i, show upd (fa_fill (fun _ => (0 : Int32)) (m.1 5) i) i 0 = fa_fill (fun _ => (0 : Int32)) (m.1 5) (i + 1) from fa_fill_succ (fun _ => 0) (m.1 5) i, ← nI_succ]
    exact hk
  · refine dx_blk 0 (c' := (25, [.ref 3, .ref 1, .int (nI t), .int (nI 12), .null, .null], [], dx_pR (dx_pR (dx_pI (dx_pI (dx_pI m 3 2 (nI (wdN t W H))) 3 3 (nI (htN t W H))) 3 4 (-1)) 4 (fa_fill (fun _ => 0) (m.1 4) 12)) 5 (fa_fill (fun _ => 0) (m.1 5) 12))) rfl ?_
    refine dx_blk 2 (c' := (28, [.ref 3, .ref 1, .int (nI t), .int (nI 12), .null, .null], [.int 12, .int (nI 12)], dx_pR (dx_pR (dx_pI (dx_pI (dx_pI m 3 2 (nI (wdN t W H))) 3 3 (nI (htN t W H))) 3 4 (-1)) 4 (fa_fill (fun _ => 0) (m.1 4) 12)) 5 (fa_fill (fun _ => 0) (m.1 5) 12))) rfl ?_
    refine dx_br (q := 12 ≤ (nI 12)) (a := 51) (b := 31) (L := [.ref 3, .ref 1, .int (nI t), .int (nI 12), .null, .null]) (st := []) (m := dx_pR (dx_pR (dx_pI (dx_pI (dx_pI m 3 2 (nI (wdN t W H))) 3 3 (nI (htN t W H))) 3 4 (-1)) 4 (fa_fill (fun _ => 0) (m.1 4) 12)) 5 (fa_fill (fun _ => 0) (m.1 5) 12)) rfl (fun _ => ?_) (fun h => absurd (nI_le (Nat.le_refl _) (by decide)) h)
    refine dx_blk 2 (c' := (53, [.ref 3, .ref 1, .int (nI t), .int 0, .null, .null], [], dx_pR (dx_pR (dx_pI (dx_pI (dx_pI m 3 2 (nI (wdN t W H))) 3 3 (nI (htN t W H))) 3 4 (-1)) 4 (fa_fill (fun _ => 0) (m.1 4) 12)) 5 (fa_fill (fun _ => 0) (m.1 5) 12))) rfl ?_
    refine dx_blk 0 (c' := (53, [.ref 3, .ref 1, .int (nI t), .int (nI 0), .null, .null], [], dx_pR (dx_pR (dx_pI (dx_pI (dx_pI m 3 2 (nI (wdN t W H))) 3 3 (nI (htN t W H))) 3 4 (-1)) 4 (fa_fill (fun _ => 0) (m.1 4) 12)) 5 (fa_fill (fun _ => 0) (m.1 5) 12))) rfl ?_
    refine dx_for (fun (y : Nat) (u : Nat → Int32) => ((53, [.ref 3, .ref 1, .int (nI t), .int (nI y), .null, .null], [], dx_pR (dx_pR (dx_pI (dx_pI (dx_pI m 3 2 (nI (wdN t W H))) 3 3 (nI (htN t W H))) 3 4 (-1)) 4 u) 5 (fa_fill (fun _ => 0) (m.1 5) 12)) : dx_F)) (fun (y : Nat) (u : Nat → Int32) => nf (fun (x : Nat) (o : Nat → Int32) => tstep (m.1 2) t W H y x o) W u) (fun _ _ => True) H (fa_fill (fun _ => 0) (m.1 4) 12) trivial (fun y u hi hI hk => ?_) (fun _ _ _ _ => trivial) (fun hN => ?_)
    · refine dx_blk 0 (c' := (53, [.ref 3, .ref 1, .int (nI t), .int (nI y), .null, .null], [], dx_pR (dx_pR (dx_pI (dx_pI (dx_pI m 3 2 (nI (wdN t W H))) 3 3 (nI (htN t W H))) 3 4 (-1)) 4 u) 5 (fa_fill (fun _ => 0) (m.1 5) 12))) rfl ?_
      have hy : y < H := hi
      refine dx_blk 3 (c' := (58, [.ref 3, .ref 1, .int (nI t), .int (nI y), .null, .null], [.int (m.1 1 2), .int (nI y)], dx_pR (dx_pR (dx_pI (dx_pI (dx_pI m 3 2 (nI (wdN t W H))) 3 3 (nI (htN t W H))) 3 4 (-1)) 4 u) 5 (fa_fill (fun _ => 0) (m.1 5) 12))) rfl ?_
      refine dx_br (q := (m.1 1 2) ≤ (nI y)) (a := 149) (b := 61) (L := [.ref 3, .ref 1, .int (nI t), .int (nI y), .null, .null]) (st := []) (m := dx_pR (dx_pR (dx_pI (dx_pI (dx_pI m 3 2 (nI (wdN t W H))) 3 3 (nI (htN t W H))) 3 4 (-1)) 4 u) 5 (fa_fill (fun _ => 0) (m.1 5) 12)) rfl (fun h => absurd h (by rw [show m.1 1 2 = nI H from eH]; exact nI_ge hi (by omega))) (fun _ => ?_)
      refine dx_blk 2 (c' := (64, [.ref 3, .ref 1, .int (nI t), .int (nI y), .int 0, .null], [], dx_pR (dx_pR (dx_pI (dx_pI (dx_pI m 3 2 (nI (wdN t W H))) 3 3 (nI (htN t W H))) 3 4 (-1)) 4 u) 5 (fa_fill (fun _ => 0) (m.1 5) 12))) rfl ?_
      refine dx_blk 0 (c' := (64, [.ref 3, .ref 1, .int (nI t), .int (nI y), .int (nI 0), .null], [], dx_pR (dx_pR (dx_pI (dx_pI (dx_pI m 3 2 (nI (wdN t W H))) 3 3 (nI (htN t W H))) 3 4 (-1)) 4 u) 5 (fa_fill (fun _ => 0) (m.1 5) 12))) rfl ?_
      refine dx_for (fun (x : Nat) (o : Nat → Int32) => ((64, [.ref 3, .ref 1, .int (nI t), .int (nI y), .int (nI x), .null], [], dx_pR (dx_pR (dx_pI (dx_pI (dx_pI m 3 2 (nI (wdN t W H))) 3 3 (nI (htN t W H))) 3 4 (-1)) 4 o) 5 (fa_fill (fun _ => 0) (m.1 5) 12)) : dx_F)) (fun (x : Nat) (o : Nat → Int32) => tstep (m.1 2) t W H y x o) (fun _ _ => True) W u trivial (fun x o hi hI hk => ?_) (fun _ _ _ _ => trivial) (fun hN => ?_)
      · refine dx_blk 0 (c' := (64, [.ref 3, .ref 1, .int (nI t), .int (nI y), .int (nI x), .null], [], dx_pR (dx_pR (dx_pI (dx_pI (dx_pI m 3 2 (nI (wdN t W H))) 3 3 (nI (htN t W H))) 3 4 (-1)) 4 o) 5 (fa_fill (fun _ => 0) (m.1 5) 12))) rfl ?_
        refine dx_blk 3 (c' := (70, [.ref 3, .ref 1, .int (nI t), .int (nI y), .int (nI x), .null], [.int (m.1 1 1), .int (nI x)], dx_pR (dx_pR (dx_pI (dx_pI (dx_pI m 3 2 (nI (wdN t W H))) 3 3 (nI (htN t W H))) 3 4 (-1)) 4 o) 5 (fa_fill (fun _ => 0) (m.1 5) 12))) rfl ?_
        refine dx_br (q := (m.1 1 1) ≤ (nI x)) (a := 143) (b := 73) (L := [.ref 3, .ref 1, .int (nI t), .int (nI y), .int (nI x), .null]) (st := []) (m := dx_pR (dx_pR (dx_pI (dx_pI (dx_pI m 3 2 (nI (wdN t W H))) 3 3 (nI (htN t W H))) 3 4 (-1)) 4 o) 5 (fa_fill (fun _ => 0) (m.1 5) 12)) rfl (fun h => absurd h (by rw [show m.1 1 1 = nI W from eW]; exact nI_ge hi (by omega))) (fun _ => ?_)
        refine dx_blk 3 (c' := (77, [.ref 3, .ref 1, .int (nI t), .int (nI y), .int (nI x), .null], [.int (nI y), .int (nI x), .ref 1], dx_pR (dx_pR (dx_pI (dx_pI (dx_pI m 3 2 (nI (wdN t W H))) 3 3 (nI (htN t W H))) 3 4 (-1)) 4 o) 5 (fa_fill (fun _ => 0) (m.1 5) 12))) rfl ?_
        refine dx_call (id := 2) (as := [.ref 1, .int (nI x), .int (nI y)]) (rest := []) rfl ?_
        refine sX0_weightOf (a := x) (b := y) (by omega) (by omega) _ ?_
        refine dx_blk 0 (c' := (80, [.ref 3, .ref 1, .int (nI t), .int (nI y), .int (nI x), .null], [.int (m.1 2 (y * 12 + x))], dx_pR (dx_pR (dx_pI (dx_pI (dx_pI m 3 2 (nI (wdN t W H))) 3 3 (nI (htN t W H))) 3 4 (-1)) 4 o) 5 (fa_fill (fun _ => 0) (m.1 5) 12))) rfl ?_
        refine dx_blk 1 (c' := (82, [.ref 3, .ref 1, .int (nI t), .int (nI y), .int (nI x), .null], [.int (-9), .int (m.1 2 (y * 12 + x))], dx_pR (dx_pR (dx_pI (dx_pI (dx_pI m 3 2 (nI (wdN t W H))) 3 3 (nI (htN t W H))) 3 4 (-1)) 4 o) 5 (fa_fill (fun _ => 0) (m.1 5) 12))) rfl ?_
        refine dx_br (q := (m.1 2 (y * 12 + x)) = (-9)) (a := 85) (b := 137) (L := [.ref 3, .ref 1, .int (nI t), .int (nI y), .int (nI x), .null]) (st := []) (m := dx_pR (dx_pR (dx_pI (dx_pI (dx_pI m 3 2 (nI (wdN t W H))) 3 3 (nI (htN t W H))) 3 4 (-1)) 4 o) 5 (fa_fill (fun _ => 0) (m.1 5) 12)) rfl (fun h82 => ?_) (fun h82 => ?_)
        · refine dx_blk 12 (c' := (102, [.ref 3, .ref 1, .int (nI t), .int (nI y), .int (nI x), .null], [.int ((m.1 1 2) - 1), .int ((m.1 1 1) - 1), .int (nI y), .int (nI x), .int (nI t), .int 1], dx_pR (dx_pR (dx_pI (dx_pI (dx_pI m 3 2 (nI (wdN t W H))) 3 3 (nI (htN t W H))) 3 4 (-1)) 4 o) 5 (fa_fill (fun _ => 0) (m.1 5) 12))) rfl ?_
          refine dx_call (id := 80) (as := [.int (nI t), .int (nI x), .int (nI y), .int ((m.1 1 1) - 1), .int ((m.1 1 2) - 1)]) (rest := [.int 1]) rfl ?_
          refine sX3_turnedAcross (nI t) (nI x) (nI y) (m.1 1 1 - 1) (m.1 1 2 - 1) _ ?_
          rw [eW, eH, trA_N ht hi hy]
          refine dx_blk 0 (c' := (105, [.ref 3, .ref 1, .int (nI t), .int (nI y), .int (nI x), .null], [.int (nI (aN t x y W H)), .int 1], dx_pR (dx_pR (dx_pI (dx_pI (dx_pI m 3 2 (nI (wdN t W H))) 3 3 (nI (htN t W H))) 3 4 (-1)) 4 o) 5 (fa_fill (fun _ => 0) (m.1 5) 12))) rfl ?_
          refine dx_blk 15 (c' := (128, [.ref 3, .ref 1, .int (nI t), .int (nI y), .int (nI x), .int ((1 : Int32) <<< ((nI (aN t x y W H)) &&& 31))], [.int ((m.1 1 2) - 1), .int ((m.1 1 1) - 1), .int (nI y), .int (nI x), .int (nI t), .ref 4], dx_pR (dx_pR (dx_pI (dx_pI (dx_pI m 3 2 (nI (wdN t W H))) 3 3 (nI (htN t W H))) 3 4 (-1)) 4 o) 5 (fa_fill (fun _ => 0) (m.1 5) 12))) rfl ?_
          refine dx_call (id := 81) (as := [.int (nI t), .int (nI x), .int (nI y), .int ((m.1 1 1) - 1), .int ((m.1 1 2) - 1)]) (rest := [.ref 4]) rfl ?_
          refine sX3_turnedUp (nI t) (nI x) (nI y) (m.1 1 1 - 1) (m.1 1 2 - 1) _ ?_
          rw [eW, eH, trU_N ht hi hy]
          refine dx_blk 0 (c' := (131, [.ref 3, .ref 1, .int (nI t), .int (nI y), .int (nI x), .int ((1 : Int32) <<< ((nI (aN t x y W H)) &&& 31))], [.int (nI (uN' t x y W H)), .ref 4], dx_pR (dx_pR (dx_pI (dx_pI (dx_pI m 3 2 (nI (wdN t W H))) 3 3 (nI (htN t W H))) 3 4 (-1)) 4 o) 5 (fa_fill (fun _ => 0) (m.1 5) 12))) rfl ?_
          refine dx_blk 1 (c' := (132, [.ref 3, .ref 1, .int (nI t), .int (nI y), .int (nI x), .int ((1 : Int32) <<< ((nI (aN t x y W H)) &&& 31))], [.int (nI (uN' t x y W H)), .ref 4, .int (nI (uN' t x y W H)), .ref 4], dx_pR (dx_pR (dx_pI (dx_pI (dx_pI m 3 2 (nI (wdN t W H))) 3 3 (nI (htN t W H))) 3 4 (-1)) 4 o) 5 (fa_fill (fun _ => 0) (m.1 5) 12))) rfl ?_
          refine dx_aldN (uN' t x y W H) rfl rfl rfl rfl (Nat.lt_of_lt_of_le (uN_lt ht hi hy) hht) ?_
          refine dx_blk 0 (c' := (133, [.ref 3, .ref 1, .int (nI t), .int (nI y), .int (nI x), .int ((1 : Int32) <<< ((nI (aN t x y W H)) &&& 31))], [.int (o (uN' t x y W H)), .int (nI (uN' t x y W H)), .ref 4], dx_pR (dx_pR (dx_pI (dx_pI (dx_pI m 3 2 (nI (wdN t W H))) 3 3 (nI (htN t W H))) 3 4 (-1)) 4 o) 5 (fa_fill (fun _ => 0) (m.1 5) 12))) rfl ?_
          refine dx_blk 2 (c' := (136, [.ref 3, .ref 1, .int (nI t), .int (nI y), .int (nI x), .int ((1 : Int32) <<< ((nI (aN t x y W H)) &&& 31))], [.int ((o (uN' t x y W H)) ||| ((1 : Int32) <<< ((nI (aN t x y W H)) &&& 31))), .int (nI (uN' t x y W H)), .ref 4], dx_pR (dx_pR (dx_pI (dx_pI (dx_pI m 3 2 (nI (wdN t W H))) 3 3 (nI (htN t W H))) 3 4 (-1)) 4 o) 5 (fa_fill (fun _ => 0) (m.1 5) 12))) rfl ?_
          refine dx_astN (uN' t x y W H) rfl rfl rfl rfl (Nat.lt_of_lt_of_le (uN_lt ht hi hy) hht) ?_
          refine dx_blk 0 (c' := (137, [.ref 3, .ref 1, .int (nI t), .int (nI y), .int (nI x), .int ((1 : Int32) <<< ((nI (aN t x y W H)) &&& 31))], [], dx_pI (dx_pR (dx_pR (dx_pI (dx_pI (dx_pI m 3 2 (nI (wdN t W H))) 3 3 (nI (htN t W H))) 3 4 (-1)) 4 o) 5 (fa_fill (fun _ => 0) (m.1 5) 12)) 4 (uN' t x y W H) ((o (uN' t x y W H)) ||| ((1 : Int32) <<< ((nI (aN t x y W H)) &&& 31))))) rfl ?_
          refine dx_blk 2 (c' := (64, [.ref 3, .ref 1, .int (nI t), .int (nI y), .int ((nI x) + 1), .int ((1 : Int32) <<< ((nI (aN t x y W H)) &&& 31))], [], dx_pI (dx_pR (dx_pR (dx_pI (dx_pI (dx_pI m 3 2 (nI (wdN t W H))) 3 3 (nI (htN t W H))) 3 4 (-1)) 4 o) 5 (fa_fill (fun _ => 0) (m.1 5) 12)) 4 (uN' t x y W H) ((o (uN' t x y W H)) ||| ((1 : Int32) <<< ((nI (aN t x y W H)) &&& 31))))) rfl ?_
          refine dx_fgt [.ref 3, .ref 1, .int (nI t), .int (nI y), .int ((nI x) + 1), .null] (And.intro (Or.inr rfl) (And.intro (Or.inr rfl) (And.intro (Or.inr rfl) (And.intro (Or.inr rfl) (And.intro (Or.inr rfl) (And.intro (Or.inl rfl) trivial)))))) ?_
          rw [tstep, if_pos (by assumption), nI_succ] at hk
          rw [dx_pI_45b]
          exact hk
        · refine dx_blk 2 (c' := (64, [.ref 3, .ref 1, .int (nI t), .int (nI y), .int ((nI x) + 1), .null], [], dx_pR (dx_pR (dx_pI (dx_pI (dx_pI m 3 2 (nI (wdN t W H))) 3 3 (nI (htN t W H))) 3 4 (-1)) 4 o) 5 (fa_fill (fun _ => 0) (m.1 5) 12))) rfl ?_
          rw [tstep, if_neg (by assumption), nI_succ] at hk
          exact hk
      · refine dx_blk 0 (c' := (64, [.ref 3, .ref 1, .int (nI t), .int (nI y), .int (nI W), .null], [], dx_pR (dx_pR (dx_pI (dx_pI (dx_pI m 3 2 (nI (wdN t W H))) 3 3 (nI (htN t W H))) 3 4 (-1)) 4 (nf (fun (x : Nat) (o : Nat → Int32) => tstep (m.1 2) t W H y x o) W u)) 5 (fa_fill (fun _ => 0) (m.1 5) 12))) rfl ?_
        refine dx_blk 3 (c' := (70, [.ref 3, .ref 1, .int (nI t), .int (nI y), .int (nI W), .null], [.int (m.1 1 1), .int (nI W)], dx_pR (dx_pR (dx_pI (dx_pI (dx_pI m 3 2 (nI (wdN t W H))) 3 3 (nI (htN t W H))) 3 4 (-1)) 4 (nf (fun (x : Nat) (o : Nat → Int32) => tstep (m.1 2) t W H y x o) W u)) 5 (fa_fill (fun _ => 0) (m.1 5) 12))) rfl ?_
        refine dx_br (q := (m.1 1 1) ≤ (nI W)) (a := 143) (b := 73) (L := [.ref 3, .ref 1, .int (nI t), .int (nI y), .int (nI W), .null]) (st := []) (m := dx_pR (dx_pR (dx_pI (dx_pI (dx_pI m 3 2 (nI (wdN t W H))) 3 3 (nI (htN t W H))) 3 4 (-1)) 4 (nf (fun (x : Nat) (o : Nat → Int32) => tstep (m.1 2) t W H y x o) W u)) 5 (fa_fill (fun _ => 0) (m.1 5) 12)) rfl (fun _ => ?_) (fun h => absurd (by rw [show m.1 1 1 = nI W from eW]; exact nI_le (Nat.le_refl _) (by omega)) h)
        refine dx_blk 2 (c' := (53, [.ref 3, .ref 1, .int (nI t), .int ((nI y) + 1), .int (nI W), .null], [], dx_pR (dx_pR (dx_pI (dx_pI (dx_pI m 3 2 (nI (wdN t W H))) 3 3 (nI (htN t W H))) 3 4 (-1)) 4 (nf (fun (x : Nat) (o : Nat → Int32) => tstep (m.1 2) t W H y x o) W u)) 5 (fa_fill (fun _ => 0) (m.1 5) 12))) rfl ?_
        refine dx_fgt [.ref 3, .ref 1, .int (nI t), .int ((nI y) + 1), .null, .null] (And.intro (Or.inr rfl) (And.intro (Or.inr rfl) (And.intro (Or.inr rfl) (And.intro (Or.inr rfl) (And.intro (Or.inl rfl) (And.intro (Or.inl rfl) trivial)))))) ?_
        rw [← nI_succ]
        exact hk
    · refine dx_blk 0 (c' := (53, [.ref 3, .ref 1, .int (nI t), .int (nI H), .null, .null], [], dx_pR (dx_pR (dx_pI (dx_pI (dx_pI m 3 2 (nI (wdN t W H))) 3 3 (nI (htN t W H))) 3 4 (-1)) 4 (nf (fun (y : Nat) (u : Nat → Int32) => nf (fun (x : Nat) (o : Nat → Int32) => tstep (m.1 2) t W H y x o) W u) H (fa_fill (fun _ => 0) (m.1 4) 12))) 5 (fa_fill (fun _ => 0) (m.1 5) 12))) rfl ?_
      refine dx_blk 3 (c' := (58, [.ref 3, .ref 1, .int (nI t), .int (nI H), .null, .null], [.int (m.1 1 2), .int (nI H)], dx_pR (dx_pR (dx_pI (dx_pI (dx_pI m 3 2 (nI (wdN t W H))) 3 3 (nI (htN t W H))) 3 4 (-1)) 4 (nf (fun (y : Nat) (u : Nat → Int32) => nf (fun (x : Nat) (o : Nat → Int32) => tstep (m.1 2) t W H y x o) W u) H (fa_fill (fun _ => 0) (m.1 4) 12))) 5 (fa_fill (fun _ => 0) (m.1 5) 12))) rfl ?_
      refine dx_br (q := (m.1 1 2) ≤ (nI H)) (a := 149) (b := 61) (L := [.ref 3, .ref 1, .int (nI t), .int (nI H), .null, .null]) (st := []) (m := dx_pR (dx_pR (dx_pI (dx_pI (dx_pI m 3 2 (nI (wdN t W H))) 3 3 (nI (htN t W H))) 3 4 (-1)) 4 (nf (fun (y : Nat) (u : Nat → Int32) => nf (fun (x : Nat) (o : Nat → Int32) => tstep (m.1 2) t W H y x o) W u) H (fa_fill (fun _ => 0) (m.1 4) 12))) 5 (fa_fill (fun _ => 0) (m.1 5) 12)) rfl (fun _ => ?_) (fun h => absurd (by rw [show m.1 1 2 = nI H from eH]; exact nI_le (Nat.le_refl _) (by omega)) h)
      exact dx_ret (r := none) rfl h
end
section
/-! turned, the rows of bits tell the open places -/
def prB (Y X y x : Nat) : Bool := decide (y < Y) || (decide (y = Y) && decide (x < X))
def tIn (f : Nat → Int32) (t W H Y X : Nat) (o : Nat → Int32) : Prop := ∀ v, v < htN t W H → o v = IM (fun u => opS f t W H v u && prB Y X (y0 t v u W H) (x0 t v u W H)) (wdN t W H)
theorem wd_le {t W H : Nat} (hW : W ≤ 12) (hH : H ≤ 12) : wdN t W H ≤ 12 := by unfold wdN; by_cases q : t = 1 ∨ t = 3 <;> simp [q] <;> omega
theorem ht_le {t W H : Nat} (hW : W ≤ 12) (hH : H ≤ 12) : htN t W H ≤ 12 := by unfold htN; by_cases q : t = 1 ∨ t = 3 <;> simp [q] <;> omega
theorem shl_bt {n i : Nat} (hn : n < 12) (hi : i < 32) : bt ((1 : Int32) <<< (nI n &&& 31)) i = decide (i = n) := by
  rw [b_shl n (by omega) _ hi]
  by_cases h : n ≤ i
  · rw [bt_1 (i - n) (by omega)]
    by_cases e : i = n
    · subst e; simp
    · have e2 : ¬ i - n = 0 := by omega
      simp [e, e2]
  · have e : ¬ i = n := by omega
    simp [h, e]
theorem tstep_ok {f : Nat → Int32} {t W H Y X : Nat} {o : Nat → Int32} (ht : t < 4) (hW : W ≤ 12) (hH : H ≤ 12) (hX : X < W) (hY : Y < H) (h : tIn f t W H Y X o) : tIn f t W H Y (X + 1) (tstep f t W H Y X o) := by
  intro v hv
  have hinv : ∀ u, u < wdN t W H → (prB Y (X + 1) (y0 t v u W H) (x0 t v u W H) = (prB Y X (y0 t v u W H) (x0 t v u W H) || decide (v = uN' t X Y W H ∧ u = aN t X Y W H))) := by
    intro u hu
    have e := turn_inv ht hv hu hX hY
    unfold prB
    by_cases q : v = uN' t X Y W H ∧ u = aN t X Y W H
    · obtain ⟨q1, q2⟩ := e.mpr q
      rw [q1, q2]
      simp [q]
    · have q2 : ¬ (x0 t v u W H = X ∧ y0 t v u W H = Y) := fun z => q (e.mp z)
      rw [decide_eq_false q, Bool.or_false]
      by_cases a : y0 t v u W H = Y
      · have b : ¬ x0 t v u W H = X := fun z => q2 ⟨z, a⟩
        have c : (x0 t v u W H < X + 1) ↔ (x0 t v u W H < X) := by omega
        simp [a, c]
      · simp [a]
  have hat : v = uN' t X Y W H → ∀ u, u = aN t X Y W H → u < wdN t W H → opS f t W H v u = decide (f (Y * 12 + X) = -9) := by
    intro hv2 u hu2 hu
    obtain ⟨q1, q2⟩ := (turn_inv ht hv hu hX hY).mpr ⟨hv2, hu2⟩
    unfold opS
    rw [q1, q2, Nat.mul_comm 12 Y]
  unfold tstep
  by_cases hf : f (Y * 12 + X) = -9
  · rw [if_pos hf]
    by_cases e : v = uN' t X Y W H
    · rw [← e, pk_us, h v hv]
      refine IM_ext (fun i hi => ?_)
      rw [b_or, bt_IM hi, shl_bt (Nat.lt_of_lt_of_le (aN_lt ht hX hY) (wd_le hW hH)) hi]
      by_cases hi2 : i < wdN t W H
      · rw [hinv i hi2]
        by_cases e2 : i = aN t X Y W H
        · have e3 := hat e i e2 hi2
          rw [e3]
          have e4 : aN t X Y W H < wdN t W H := e2 ▸ hi2
          simp [hf, e, e2, e4]
        · simp [hi2, e2]
      · have e2 : ¬ i = aN t X Y W H := fun z => hi2 (z ▸ aN_lt ht hX hY)
        simp [hi2, e2]
    · rw [pk_un e, h v hv]
      exact IM_cong (fun u hu => by rw [hinv u hu]; simp [e])
  · rw [if_neg hf, h v hv]
    refine IM_cong (fun u hu => ?_)
    rw [hinv u hu]
    by_cases e : v = uN' t X Y W H ∧ u = aN t X Y W H
    · rw [hat e.1 u e.2 hu, decide_eq_false hf]; rfl
    · simp [e]
theorem trow_ok {f : Nat → Int32} {t W H Y : Nat} {o : Nat → Int32} (ht : t < 4) (hW : W ≤ 12) (hH : H ≤ 12) (hY : Y < H) (h : tIn f t W H Y 0 o) : ∀ X, X ≤ W → tIn f t W H Y X (nf (fun x o => tstep f t W H Y x o) X o)
  | 0, _ => h
  | X + 1, hX => tstep_ok ht hW hH (by omega) hY (trow_ok ht hW hH hY h X (by omega))
theorem tIn_next {f : Nat → Int32} {t W H Y : Nat} {o : Nat → Int32} (ht : t < 4) (h : tIn f t W H Y W o) : tIn f t W H (Y + 1) 0 o := by
  intro v hv
  rw [h v hv]
  refine IM_cong (fun u hu => ?_)
  have := x0_lt ht hv hu
  unfold prB
  have e : (y0 t v u W H < Y + 1) ↔ (y0 t v u W H < Y ∨ y0 t v u W H = Y) := by omega
  by_cases a : y0 t v u W H = Y
  · simp [a, this]
  · have e2 : (y0 t v u W H < Y + 1) ↔ (y0 t v u W H < Y) := by omega
    simp [a, e2]
theorem tall_ok {f : Nat → Int32} {t W H : Nat} {o : Nat → Int32} (ht : t < 4) (hW : W ≤ 12) (hH : H ≤ 12) (h : tIn f t W H 0 0 o) : ∀ Y, Y ≤ H → tIn f t W H Y 0 (nf (fun y o => nf (fun x o => tstep f t W H y x o) W o) Y o)
  | 0, _ => h
  | Y + 1, hY => tIn_next ht (trow_ok ht hW hH (by omega) (tall_ok ht hW hH h Y (by omega)) W (Nat.le_refl W))
theorem IM_0 (w : Nat) : IM (fun _ => false) w = 0 := b_ext (fun i hi => by rw [bt_IM hi, b_0, Bool.and_false])
/-- the open places, row by row -/
theorem turn_ok {f : Nat → Int32} {t W H : Nat} {o : Nat → Int32} (ht : t < 4) (hW : W ≤ 12) (hH : H ≤ 12) (h : ∀ v, v < 12 → o v = 0) : ∀ v, v < htN t W H → tfull f t W H o v = IM (opS f t W H v) (wdN t W H) := by
  intro v hv
  have h0 : tIn f t W H 0 0 o := by
    intro v hv
    rw [h v (Nat.lt_of_lt_of_le hv (ht_le hW hH)), ← IM_0 (wdN t W H)]
    exact IM_cong (fun u hu => by unfold prB; simp)
  have h1 := tall_ok ht hW hH h0 H (Nat.le_refl H) v hv
  unfold tfull
  rw [h1]
  refine IM_cong (fun u hu => ?_)
  have := y0_lt ht hv hu
  unfold prB
  simp [this]
/-! water that rises -/
def LX (m : dx_M) (op : Nat → Nat → Bool) (w h k : Nat) : Prop := 1 ≤ w ∧ w ≤ 12 ∧ h ≤ 12 ∧ k ≤ h ∧ m.1 3 2 = nI w ∧ m.1 3 3 = nI h ∧ m.1 3 4 = nI k - 1 ∧ (∀ y, y < h → m.1 4 y = IM (op y) w) ∧ ∀ y, y < k → m.1 5 y = IM (wetB op w (k - 1) y) w
/-- nothing but the water's own cells has changed -/
def keepX (m m' : dx_M) : Prop := (∀ k, k ≠ 3 → k ≠ 4 → k ≠ 5 → m'.1 k = m.1 k) ∧ (∀ k, k ≠ 3 → m'.2 k = m.2 k)
theorem keepX_rf (m : dx_M) : keepX m m := ⟨fun _ _ _ _ => rfl, fun _ _ => rfl⟩
theorem keepX_tr {a b c : dx_M} (h : keepX a b) (h2 : keepX b c) : keepX a c := ⟨fun k h3 h4 h5 => (h2.1 k h3 h4 h5).trans (h.1 k h3 h4 h5), fun k h3 => (h2.2 k h3).trans (h.2 k h3)⟩
noncomputable def fA (op : Nat → Nat → Bool) (w r : Nat) : Nat := fb_ct (fun x => !wetB op w r r x) w
noncomputable def fB (op : Nat → Nat → Bool) (w r : Nat) : Nat := fb_sm (fun y => fb_ct (fun x => !wetB op w r y x) w) r
def LF (m : dx_M) (op : Nat → Nat → Bool) (w h r : Nat) : Prop := LX m op w h (r + 1) ∧ m.1 3 5 = nI (fB op w r) ∧ m.1 3 6 = nI (fA op w r)
/-- one row more under water -/
theorem rise_row {m : dx_M} {op : Nat → Nat → Bool} {w h k : Nat} (hl : LX m op w h k) (hk : k < h) : ∀ y, y ≤ k → spI (m.1 4) k 145 (upd (m.1 5) k (m.1 4 k &&& wyI (nI w) (nI k))) y = IM (wetB op w k y) w := by
  obtain ⟨a1, a2, a3, a4, a5, a6, a7, a8, a9⟩ := hl
  have hways : ∀ x, x < w → ((decide (k = 0) || (decide (x = 0) || decide (x + 1 = w))) = true ↔ (x = 0 ∨ x + 1 = w ∨ k = 0)) := by
    intro x hx
    simp only [Bool.or_eq_true, decide_eq_true_eq]
    omega
  have hrow : m.1 4 k &&& wyI (nI w) (nI k) = IM (fun x => op k x && (decide (k = 0) || (decide (x = 0) || decide (x + 1 = w)))) w := by
    refine IM_ext (fun i hi => ?_)
    rw [b_and, a8 k hk, bt_IM hi]
    by_cases e : k = 0
    · subst e
      rw [show nI 0 = 0 from rfl, wy_0 a2, bt_IM hi]
      by_cases q : i < w <;> simp [q]
    · rw [wy_n a2 a1 (by omega) (by omega), bt_IM hi]
      by_cases q : i < w <;> simp [q, e]
  refine (spread_ok a2 (by omega) (fun y hy => a8 y (by omega)) 145 _ (fun y x => if y = k then (op k x && (decide (k = 0) || (decide (x = 0) || decide (x + 1 = w)))) else wetB op w (k - 1) y x) ?_ ?_ ?_ (by omega)).1
  · intro y hy
    by_cases e : y = k
    · subst e
      rw [pk_us, hrow]
      exact IM_cong (fun x _ => by (try dsimp only); rw [if_pos rfl])
    · rw [pk_un e, a9 y (by omega)]
      exact IM_cong (fun x _ => by (try dsimp only); rw [if_neg e])
  · intro y x hy hx h
    by_cases e : y = k
    · subst e
      rw [if_pos rfl, Bool.and_eq_true] at h
      exact wet_closed op w y y x (Nat.le_refl _) hx h.1 (by
        rcases (hways x hx).mp h.2 with q | q | q
        · exact Or.inl q
        · exact Or.inr (Or.inl q)
        · exact Or.inr (Or.inr (Or.inl q)))
    · rw [if_neg e] at h
      exact wet_mono (by omega) h
  · intro y x hy hx hop hs
    by_cases e : y = k
    · subst e
      rw [if_pos rfl, Bool.and_eq_true]
      exact ⟨hop, (hways x hx).mpr hs⟩
    · rw [if_neg e]
      exact wet_closed op w (k - 1) y x (by omega) hx hop (by
        rcases hs with q | q | q
        · exact Or.inl q
        · exact Or.inr (Or.inl q)
        · exact Or.inr (Or.inr (Or.inl q)))
theorem fb_ok {m : dx_M} {op : Nat → Nat → Bool} {w h r : Nat} (hl : LX m op w h (r + 1)) : ∀ n, n ≤ r → nf (st_fb (nI w) (m.1 5)) n 0 = nI (fb_sm (fun y => fb_ct (fun x => !wetB op w r y x) w) n)
  | 0, _ => rfl
  | n + 1, hn => by
    obtain ⟨a1, a2, a3, a4, a5, a6, a7, a8, a9⟩ := id hl
    rw [nf_succ, fb_ok hl n (by omega)]
    unfold st_fb
    rw [a9 n (by omega), Nat.add_sub_cancel, fm_IM a2, bc_IM a2, fb_sm_succ, nI_add]
end
section
/-! riseTo: the water rises to a row (printed by wip/whole/g26.py) -/
theorem row_nle {k t : Nat} (h : k ≤ t) (ht : t < 100) : ¬ nI t ≤ nI k - 1 := by
  rw [fa_le, nI_toInt (by omega), show (nI k - 1).toInt = (k : Int) - 1 from pk_sub_toInt (a := k) (b := 1) (by omega) (by decide)]
  omega
theorem row_1 (k : Nat) : nI k - 1 + 1 = nI k := Int32.sub_add_cancel _ _
set_option maxRecDepth 20000 in
theorem lp_rise {d : Nat} {Z : Option Value → dx_M → Prop} {op : Nat → Nat → Bool} {w h t : Nat} (ht : t < h) : ∀ (n k : Nat) (m : dx_M), k + n = t + 1 → LX m op w h k → (∀ m', LX m' op w h (t + 1) → keepX m m' → m'.2 = m.2 → dx_Go (d + 1) (dx_Sem dx_P lx_X (d + 1)) lx_X km_X1_riseTo Z (65, [.ref 3, .int (nI t)], [], m')) → dx_Go (d + 1) (dx_Sem dx_P lx_X (d + 1)) lx_X km_X1_riseTo Z (0, [.ref 3, .int (nI t)], [], m) := by
  intro n
  induction n with
  | zero =>
    intro k m hk hl hz
    obtain rfl : k = t + 1 := by omega
    obtain ⟨a1, a2, a3, a4, a5, a6, a7, a8, a9⟩ := id hl
    refine dx_blk 0 (c' := (0, [.ref 3, .int (nI t)], [], m)) rfl ?_
    refine dx_blk 3 (c' := (5, [.ref 3, .int (nI t)], [.int (nI t), .int (m.1 3 4)], m)) rfl ?_
    refine dx_br (q := (nI t) ≤ (m.1 3 4)) (a := 65) (b := 8) (L := [.ref 3, .int (nI t)]) (st := []) (m := m) rfl (fun _ => ?_) (fun h => absurd (by rw [a7, show nI (t + 1) - 1 = nI t from nI_pred t]; exact nI_le (Nat.le_refl _) (by omega)) h)
    exact hz m hl (keepX_rf m) rfl
  | succ n ih =>
    intro k m hk hl hz
    obtain ⟨a1, a2, a3, a4, a5, a6, a7, a8, a9⟩ := id hl
    have erow : m.1 3 4 + 1 = nI k := by rw [a7, row_1]
    refine dx_blk 0 (c' := (0, [.ref 3, .int (nI t)], [], m)) rfl ?_
    refine dx_blk 3 (c' := (5, [.ref 3, .int (nI t)], [.int (nI t), .int (m.1 3 4)], m)) rfl ?_
    refine dx_br (q := (nI t) ≤ (m.1 3 4)) (a := 65) (b := 8) (L := [.ref 3, .int (nI t)]) (st := []) (m := m) rfl (fun h => absurd h (by rw [a7]; exact row_nle (by omega) (by omega))) (fun _ => ?_)
    refine dx_blk 6 (c' := (18, [.ref 3, .int (nI t)], [.int (m.1 3 3), .int ((m.1 3 4) + 1)], m)) rfl ?_
    refine dx_br (q := (m.1 3 3) ≤ ((m.1 3 4) + 1)) (a := 65) (b := 21) (L := [.ref 3, .int (nI t)]) (st := []) (m := m) rfl (fun h => absurd h (by rw [erow, a6]; exact nI_ge (by omega) (by omega))) (fun _ => ?_)
    refine dx_blk 14 (c' := (47, [.ref 3, .int (nI t)], [.int ((m.1 3 4) + 1), .ref 4, .int ((m.1 3 4) + 1), .ref 5], dx_pI m 3 4 ((m.1 3 4) + 1))) rfl ?_
    refine dx_aldN k rfl rfl rfl erow (by omega) ?_
    refine dx_blk 0 (c' := (48, [.ref 3, .int (nI t)], [.int (m.1 4 k), .int ((m.1 3 4) + 1), .ref 5], dx_pI m 3 4 ((m.1 3 4) + 1))) rfl ?_
    refine dx_blk 3 (c' := (53, [.ref 3, .int (nI t)], [.int ((m.1 3 4) + 1), .ref 3, .int (m.1 4 k), .int ((m.1 3 4) + 1), .ref 5], dx_pI m 3 4 ((m.1 3 4) + 1))) rfl ?_
    refine dx_call (id := 12) (as := [.ref 3, .int ((m.1 3 4) + 1)]) (rest := [.int (m.1 4 k), .int ((m.1 3 4) + 1), .ref 5]) rfl ?_
    refine sX1_waysInto _ ((m.1 3 4) + 1) ?_
    refine dx_blk 0 (c' := (56, [.ref 3, .int (nI t)], [.int (wyI (m.1 3 2) ((m.1 3 4) + 1)), .int (m.1 4 k), .int ((m.1 3 4) + 1), .ref 5], dx_pI m 3 4 ((m.1 3 4) + 1))) rfl ?_
    refine dx_blk 1 (c' := (57, [.ref 3, .int (nI t)], [.int ((m.1 4 k) &&& (wyI (m.1 3 2) ((m.1 3 4) + 1))), .int ((m.1 3 4) + 1), .ref 5], dx_pI m 3 4 ((m.1 3 4) + 1))) rfl ?_
    refine dx_astN k rfl rfl rfl erow (by omega) ?_
    refine dx_blk 0 (c' := (58, [.ref 3, .int (nI t)], [], dx_pI (dx_pI m 3 4 ((m.1 3 4) + 1)) 5 k ((m.1 4 k) &&& (wyI (m.1 3 2) ((m.1 3 4) + 1))))) rfl ?_
    refine dx_blk 1 (c' := (59, [.ref 3, .int (nI t)], [.ref 3], dx_pI (dx_pI m 3 4 ((m.1 3 4) + 1)) 5 k ((m.1 4 k) &&& (wyI (m.1 3 2) ((m.1 3 4) + 1))))) rfl ?_
    refine dx_call (id := 13) (as := [.ref 3]) (rest := []) rfl ?_
    refine sX1_spread _ (r := k) (by omega) erow ?_
    refine dx_blk 0 (c' := (62, [.ref 3, .int (nI t)], [], dx_pR (dx_pI (dx_pI m 3 4 ((m.1 3 4) + 1)) 5 k ((m.1 4 k) &&& (wyI (m.1 3 2) ((m.1 3 4) + 1)))) 5 (spI (m.1 4) k 145 (upd (m.1 5) k (m.1 4 k &&& wyI (m.1 3 2) (m.1 3 4 + 1)))))) rfl ?_
    refine dx_blk 1 (c' := (0, [.ref 3, .int (nI t)], [], dx_pR (dx_pI (dx_pI m 3 4 ((m.1 3 4) + 1)) 5 k ((m.1 4 k) &&& (wyI (m.1 3 2) ((m.1 3 4) + 1)))) 5 (spI (m.1 4) k 145 (upd (m.1 5) k (m.1 4 k &&& wyI (m.1 3 2) (m.1 3 4 + 1)))))) rfl ?_
    refine ih (k + 1) _ (by omega) ?_ (fun m' h1 h2 h3 => hz m' h1 (keepX_tr ?_ h2) (h3.trans rfl))
    · refine ⟨a1, a2, a3, by omega, a5, a6, ?_, a8, fun y hy => ?_⟩
      · show m.1 3 4 + 1 = nI (k + 1) - 1
        rw [erow, nI_pred]
      · rw [Nat.add_sub_cancel]
        show spI (m.1 4) k 145 (upd (m.1 5) k (m.1 4 k &&& wyI (m.1 3 2) (m.1 3 4 + 1))) y = _
        rw [a5, erow]
        exact rise_row hl (by omega) y (by omega)
    · refine ⟨fun q h3 h4 h5 => ?_, fun q _ => rfl⟩
      simp [dx_pI, dx_pR, h3, h5]
set_option maxRecDepth 20000 in
/-- riseTo(t): the water stands in rows 0 to t -/
theorem sX1_riseTo {d : Nat} (m : dx_M) {Z : Option Value → dx_M → Prop} {op : Nat → Nat → Bool} {w h k t : Nat} (hl : LX m op w h k) (hk : k ≤ t + 1) (ht : t < h) (hz : ∀ m', LF m' op w h t → keepX m m' → m'.2 = m.2 → Z none m') : dx_Sem dx_P lx_X (d + 4) 11 [.ref 3, .int (nI t)] m Z := by
  refine dx_sem km_X1_riseTo rfl rfl ?_
  refine dx_blk 0 (c' := (0, [.ref 3, .int (nI t)], [], m)) rfl ?_
  refine lp_rise (d := d + 2) ht (t + 1 - k) k m (by omega) hl (fun m1 hl1 hk1 hm1 => ?_)
  obtain ⟨a1, a2, a3, a4, a5, a6, a7, a8, a9⟩ := id hl1
  have er : m1.1 3 4 = nI t := by rw [a7, nI_pred]
  refine dx_blk 0 (c' := (65, [.ref 3, .int (nI t)], [], m1)) rfl ?_
  refine dx_blk 1 (c' := (66, [.ref 3, .int (nI t)], [.ref 3], m1)) rfl ?_
  refine dx_call (id := 15) (as := [.ref 3]) (rest := []) rfl ?_
  refine sX1_countFirm _ (r := t) (by omega) er ?_
  refine dx_blk 0 (c' := (69, [.ref 3, .int (nI t)], [], dx_pI (dx_pI m1 3 5 (nf (st_fb (m1.1 3 2) (m1.1 5)) t 0)) 3 6 (bcI (fmI (m1.1 3 2) (m1.1 5 t))))) rfl ?_
  exact dx_ret (r := none) rfl (by
    refine hz _ ⟨⟨a1, a2, a3, a4, a5, a6, a7, a8, a9⟩, ?_, ?_⟩ (keepX_tr hk1 ?_) hm1
    · show nf (st_fb (m1.1 3 2) (m1.1 5)) t 0 = _
      rw [a5]
      exact fb_ok hl1 t (Nat.le_refl t)
    · show bcI (fmI (m1.1 3 2) (m1.1 5 t)) = _
      rw [a5, a9 t (by omega), Nat.add_sub_cancel, fm_IM a2, bc_IM a2]
      rfl
    · exact ⟨fun q h3 h4 h5 => (by simp [dx_pI, dx_pR, h3]), fun q _ => rfl⟩)
end
section
/-! what the water bears, its moments, the line (printed by wip/whole/g27.py) -/
noncomputable def rmN (op : Nat → Nat → Bool) (w r : Nat) : Nat := fB op w r + fA op w r
noncomputable def mxN (op : Nat → Nat → Bool) (w : Nat) : Nat → Nat
  | 0 => 0
  | r + 1 => if mxN op w r < rmN op w r then rmN op w r else mxN op w r
theorem mxN_succ (op : Nat → Nat → Bool) (w r : Nat) : mxN op w (r + 1) = if mxN op w r < rmN op w r then rmN op w r else mxN op w r := rfl
theorem fA_le (op : Nat → Nat → Bool) {w : Nat} (r : Nat) (hw : w ≤ 12) : fA op w r ≤ 12 := Nat.le_trans (fb_ct_le _ w) hw
theorem fB_le (op : Nat → Nat → Bool) {w r : Nat} (hw : w ≤ 12) (hr : r ≤ 12) : fB op w r ≤ 144 := by
  have h := fb_sm_bound (f := fun y => fb_ct (fun x => !wetB op w r y x) w) (c := w) (n := r) (fun k _ => fb_ct_le _ w)
  have h2 : r * w ≤ 12 * 12 := Nat.mul_le_mul hr hw
  unfold fB
  omega
theorem rm_le (op : Nat → Nat → Bool) {w r : Nat} (hw : w ≤ 12) (hr : r < 12) : rmN op w r ≤ 156 := by
  have h1 := fA_le op r hw
  have h2 := fB_le op hw (show r ≤ 12 by omega)
  unfold rmN
  omega
theorem mx_le (op : Nat → Nat → Bool) {w : Nat} (hw : w ≤ 12) : ∀ r, r ≤ 12 → mxN op w r ≤ 156
  | 0, _ => Nat.zero_le _
  | r + 1, h => by
    unfold mxN
    have h1 := mx_le op hw r (by omega)
    have h2 := rm_le op hw (show r < 12 by omega)
    by_cases q : mxN op w r < rmN op w r
    · rw [if_pos q]; exact h2
    · rw [if_neg q]; exact h1
theorem rm_I {op : Nat → Nat → Bool} {w h r : Nat} {m : dx_M} (hl : LF m op w h r) : m.1 3 5 + m.1 3 6 = nI (rmN op w r) := by
  rw [hl.2.1, hl.2.2, nI_add]
  rfl
theorem LF_row {op : Nat → Nat → Bool} {w h r : Nat} {m : dx_M} (hl : LF m op w h r) : m.1 3 4 = nI r := by
  have a7 := hl.1.2.2.2.2.2.2.1
  rw [a7, nI_pred]
theorem LF_wet {op : Nat → Nat → Bool} {w h r : Nat} {m : dx_M} (hl : LF m op w h r) {y : Nat} (hy : y ≤ r) : fmI (m.1 3 2) (m.1 5 y) = IM (fun x => !wetB op w r y x) w := by
  obtain ⟨a1, a2, a3, a4, a5, a6, a7, a8, a9⟩ := hl.1
  rw [a5, a9 y (by omega), Nat.add_sub_cancel, fm_IM a2]
set_option maxRecDepth 20000 in
theorem lp_bears {d : Nat} {Z : Option Value → dx_M → Prop} {op : Nat → Nat → Bool} {w h Wt D : Nat} (hWt : Wt ≤ 7000) (hD : D ≤ 20) (m0 : dx_M) (h1 : ∀ m', (∀ r, r < h → ¬ Wt ≤ rmN op w r * D) → keepX m0 m' → Z (some (.int 0)) m') (h2 : ∀ (r : Nat) (m' : dx_M), r < h → Wt ≤ rmN op w r * D → (∀ r', r' < r → ¬ Wt ≤ rmN op w r' * D) → LF m' op w h r → m'.2 3 7 = (nI Wt - nI (fB op w r) * nI D).toInt64 → m'.2 3 8 = (nI (fA op w r) * nI D).toInt64 → keepX m0 m' → Z (some (.int 1)) m') : ∀ (n y : Nat) (m : dx_M), y + n = h → LX m op w h y → keepX m0 m → (∀ r, r < y → ¬ Wt ≤ rmN op w r * D) → dx_Go (d + 4) (dx_Sem dx_P lx_X (d + 4)) lx_X km_X1_bears Z (2, [.ref 3, .int (nI Wt), .int (nI D), .int (nI y)], [], m) := by
  intro n
  induction n with
  | zero =>
    intro y m hy hl hk hno
    obtain rfl : y = h := by omega
    obtain ⟨a1, a2, a3, a4, a5, a6, a7, a8, a9⟩ := id hl
    refine dx_blk 0 (c' := (2, [.ref 3, .int (nI Wt), .int (nI D), .int (nI y)], [], m)) rfl ?_
    refine dx_blk 3 (c' := (7, [.ref 3, .int (nI Wt), .int (nI D), .int (nI y)], [.int (m.1 3 3), .int (nI y)], m)) rfl ?_
    refine dx_br (q := (m.1 3 3) ≤ (nI y)) (a := 62) (b := 10) (L := [.ref 3, .int (nI Wt), .int (nI D), .int (nI y)]) (st := []) (m := m) rfl (fun _ => ?_) (fun h => absurd (by rw [a6]; exact nI_le (Nat.le_refl _) (by omega)) h)
    refine dx_blk 1 (c' := (63, [.ref 3, .int (nI Wt), .int (nI D), .int (nI y)], [.int 0], m)) rfl ?_
    exact dx_ret (r := some (.int 0)) rfl (h1 m hno hk)
  | succ n ih =>
    intro y m hy hl hk hno
    obtain ⟨a1, a2, a3, a4, a5, a6, a7, a8, a9⟩ := id hl
    refine dx_blk 0 (c' := (2, [.ref 3, .int (nI Wt), .int (nI D), .int (nI y)], [], m)) rfl ?_
    refine dx_blk 3 (c' := (7, [.ref 3, .int (nI Wt), .int (nI D), .int (nI y)], [.int (m.1 3 3), .int (nI y)], m)) rfl ?_
    refine dx_br (q := (m.1 3 3) ≤ (nI y)) (a := 62) (b := 10) (L := [.ref 3, .int (nI Wt), .int (nI D), .int (nI y)]) (st := []) (m := m) rfl (fun h => absurd h (by rw [a6]; exact nI_ge (by omega) (by omega))) (fun _ => ?_)
    refine dx_blk 2 (c' := (12, [.ref 3, .int (nI Wt), .int (nI D), .int (nI y)], [.int (nI y), .ref 3], m)) rfl ?_
    refine dx_call (id := 11) (as := [.ref 3, .int (nI y)]) (rest := []) rfl ?_
    refine sX1_riseTo _ hl (t := y) (by omega) (by omega) (fun m1 hl1 hk1 hm1 => ?_)
    refine dx_blk 0 (c' := (15, [.ref 3, .int (nI Wt), .int (nI D), .int (nI y)], [], m1)) rfl ?_
    refine dx_blk 8 (c' := (27, [.ref 3, .int (nI Wt), .int (nI D), .int (nI y)], [.int (((m1.1 3 5) + (m1.1 3 6)) * (nI D)), .int (nI Wt)], m1)) rfl ?_
    refine dx_br (q := (((m1.1 3 5) + (m1.1 3 6)) * (nI D)) < (nI Wt)) (a := 56) (b := 30) (L := [.ref 3, .int (nI Wt), .int (nI D), .int (nI y)]) (st := []) (m := m1) rfl (fun q27 => ?_) (fun q27 => ?_)
    · refine dx_blk 2 (c' := (2, [.ref 3, .int (nI Wt), .int (nI D), .int ((nI y) + 1)], [], m1)) rfl ?_
      rw [← nI_succ]
      refine ih (y + 1) m1 (by omega) hl1.1 (keepX_tr hk hk1) (fun r hr => ?_)
      rcases Nat.lt_or_ge r y with q | q
      · exact hno r q
      · obtain rfl : r = y := by omega
        intro hle
        rw [rm_I hl1, pk_mul] at q27
        exact absurd q27 (nI_nlt hle (by have := rm_le op a2 (show r < 12 by omega); have : rmN op w r * D ≤ 156 * 20 := Nat.mul_le_mul this hD; omega))
    · have hle : Wt ≤ rmN op w y * D := by
        rw [rm_I hl1, pk_mul] at q27
        rcases Nat.lt_or_ge (rmN op w y * D) Wt with q | q
        · exact absurd (nI_lt q (by omega)) q27
        · exact q
      refine dx_blk 17 (c' := (55, [.ref 3, .int (nI Wt), .int (nI D), .int (nI y)], [.int 1], dx_pL (dx_pL m1 3 7 (((nI Wt) - ((m1.1 3 5) * (nI D))).toInt64)) 3 8 (((m1.1 3 6) * (nI D)).toInt64))) rfl ?_
      exact dx_ret (r := some (.int 1)) rfl (by
    refine h2 y _ (by omega) hle hno ?_ ?_ ?_ (keepX_tr hk (keepX_tr hk1 ?_))
    · exact hl1
    · show (nI Wt - m1.1 3 5 * nI D).toInt64 = _
      rw [hl1.2.1]
    · show (m1.1 3 6 * nI D).toInt64 = _
      rw [hl1.2.2]
    · exact ⟨fun q _ _ _ => rfl, fun q h3 => (by simp [dx_pL, h3])⟩)
theorem sX1_bears {d : Nat} (m0 : dx_M) {Z : Option Value → dx_M → Prop} {op : Nat → Nat → Bool} {w h Wt D : Nat} (hWt : Wt ≤ 7000) (hD : D ≤ 20) (hl : LX m0 op w h 0) (h1 : ∀ m', (∀ r, r < h → ¬ Wt ≤ rmN op w r * D) → keepX m0 m' → Z (some (.int 0)) m') (h2 : ∀ (r : Nat) (m' : dx_M), r < h → Wt ≤ rmN op w r * D → (∀ r', r' < r → ¬ Wt ≤ rmN op w r' * D) → LF m' op w h r → m'.2 3 7 = (nI Wt - nI (fB op w r) * nI D).toInt64 → m'.2 3 8 = (nI (fA op w r) * nI D).toInt64 → keepX m0 m' → Z (some (.int 1)) m') : dx_Sem dx_P lx_X (d + 5) 16 [.ref 3, .int (nI Wt), .int (nI D)] m0 Z := by
  refine dx_sem km_X1_bears rfl rfl ?_
  refine dx_blk 2 (c' := (2, [.ref 3, .int (nI Wt), .int (nI D), .int 0], [], m0)) rfl ?_
  exact lp_bears hWt hD m0 h1 h2 h 0 m0 (by omega) hl (keepX_rf m0) (fun r hr => absurd hr (by omega))
set_option maxRecDepth 20000 in
theorem lp_most {d : Nat} {Z : Option Value → dx_M → Prop} {op : Nat → Nat → Bool} {w h : Nat} (m0 : dx_M) (h1 : ∀ m', keepX m0 m' → Z (some (.int (nI (mxN op w h)))) m') : ∀ (n y : Nat) (m : dx_M), y + n = h → LX m op w h y → keepX m0 m → dx_Go (d + 4) (dx_Sem dx_P lx_X (d + 4)) lx_X km_X1_mostRoom Z (4, [.ref 3, .int (nI (mxN op w y)), .int (nI y)], [], m) := by
  intro n
  induction n with
  | zero =>
    intro y m hy hl hk
    obtain rfl : y = h := by omega
    obtain ⟨a1, a2, a3, a4, a5, a6, a7, a8, a9⟩ := id hl
    refine dx_blk 0 (c' := (4, [.ref 3, .int (nI (mxN op w y)), .int (nI y)], [], m)) rfl ?_
    refine dx_blk 3 (c' := (9, [.ref 3, .int (nI (mxN op w y)), .int (nI y)], [.int (m.1 3 3), .int (nI y)], m)) rfl ?_
    refine dx_br (q := (m.1 3 3) ≤ (nI y)) (a := 37) (b := 12) (L := [.ref 3, .int (nI (mxN op w y)), .int (nI y)]) (st := []) (m := m) rfl (fun _ => ?_) (fun h => absurd (by rw [a6]; exact nI_le (Nat.le_refl _) (by omega)) h)
    refine dx_blk 1 (c' := (38, [.ref 3, .int (nI (mxN op w y)), .int (nI y)], [.int (nI (mxN op w y))], m)) rfl ?_
    exact dx_ret (r := some (.int (nI (mxN op w y)))) rfl (h1 m hk)
  | succ n ih =>
    intro y m hy hl hk
    obtain ⟨a1, a2, a3, a4, a5, a6, a7, a8, a9⟩ := id hl
    refine dx_blk 0 (c' := (4, [.ref 3, .int (nI (mxN op w y)), .int (nI y)], [], m)) rfl ?_
    refine dx_blk 3 (c' := (9, [.ref 3, .int (nI (mxN op w y)), .int (nI y)], [.int (m.1 3 3), .int (nI y)], m)) rfl ?_
    refine dx_br (q := (m.1 3 3) ≤ (nI y)) (a := 37) (b := 12) (L := [.ref 3, .int (nI (mxN op w y)), .int (nI y)]) (st := []) (m := m) rfl (fun h => absurd h (by rw [a6]; exact nI_ge (by omega) (by omega))) (fun _ => ?_)
    refine dx_blk 2 (c' := (14, [.ref 3, .int (nI (mxN op w y)), .int (nI y)], [.int (nI y), .ref 3], m)) rfl ?_
    refine dx_call (id := 11) (as := [.ref 3, .int (nI y)]) (rest := []) rfl ?_
    refine sX1_riseTo _ hl (t := y) (by omega) (by omega) (fun m1 hl1 hk1 hm1 => ?_)
    refine dx_blk 0 (c' := (17, [.ref 3, .int (nI (mxN op w y)), .int (nI y)], [], m1)) rfl ?_
    refine dx_blk 6 (c' := (27, [.ref 3, .int (nI (mxN op w y)), .int (nI y)], [.int ((m1.1 3 5) + (m1.1 3 6)), .int (nI (mxN op w y))], m1)) rfl ?_
    refine dx_copy (c' := (30, [.ref 3, .int (nI (mxN op w y)), .int (nI y)], [.int (if (nI (mxN op w y)) < ((m1.1 3 5) + (m1.1 3 6)) then ((m1.1 3 5) + (m1.1 3 6)) else (nI (mxN op w y)))], m1)) rfl ?_
    refine dx_blk 3 (c' := (4, [.ref 3, .int (if (nI (mxN op w y)) < ((m1.1 3 5) + (m1.1 3 6)) then ((m1.1 3 5) + (m1.1 3 6)) else (nI (mxN op w y))), .int ((nI y) + 1)], [], m1)) rfl ?_
    rw [← nI_succ, rm_I hl1, show (if nI (mxN op w y) < nI (rmN op w y) then nI (rmN op w y) else nI (mxN op w y)) = nI (mxN op w (y + 1)) from ?_]
    · exact ih (y + 1) m1 (by omega) hl1.1 (keepX_tr hk hk1)
    · have e1 := mx_le op a2 y (by omega)
      have e2 := rm_le op a2 (show y < 12 by omega)
      rw [mxN_succ]
      by_cases q : mxN op w y < rmN op w y
      · rw [if_pos q, if_pos (nI_lt q (by omega))]
      · rw [if_neg q, if_neg (nI_nlt (by omega) (by omega))]
theorem sX1_mostRoom {d : Nat} (m0 : dx_M) {Z : Option Value → dx_M → Prop} {op : Nat → Nat → Bool} {w h : Nat} (hl : LX m0 op w h 0) (h1 : ∀ m', keepX m0 m' → Z (some (.int (nI (mxN op w h)))) m') : dx_Sem dx_P lx_X (d + 5) 17 [.ref 3] m0 Z := by
  refine dx_sem km_X1_mostRoom rfl rfl ?_
  refine dx_blk 4 (c' := (4, [.ref 3, .int 0, .int 0], [], m0)) rfl ?_
  exact lp_most m0 h1 h 0 m0 (by omega) hl (keepX_rf m0)
end
section
/-! long numbers as integers; moments, the line (printed by wip/whole/g28.py) -/
def lZ (z : Int) : Int64 := Int64.ofInt z
theorem lZ_add (a b : Int) : lZ a + lZ b = lZ (a + b) := (Int64.ofInt_add a b).symm
theorem lZ_sub (a b : Int) : lZ a - lZ b = lZ (a - b) := (Int64.ofInt_sub a b).symm
theorem lZ_mul (a b : Int) : lZ a * lZ b = lZ (a * b) := (Int64.ofInt_mul a b).symm
theorem lZ_neg (a : Int) : -lZ a = lZ (-a) := (Int64.ofInt_neg a).symm
theorem lZ_to {z : Int} (h1 : -9223372036854775808 ≤ z) (h2 : z < 9223372036854775808) : (lZ z).toInt = z := by
  unfold lZ
  rw [Int64.toInt_ofInt]
  exact fb_bmodL h1 h2
theorem lZ_of (x : Int64) : lZ x.toInt = x := Int64.ofInt_toInt x
theorem lZ_I (x : Int32) : x.toInt64 = lZ x.toInt := by
  rw [← lZ_of x.toInt64, Int32.toInt_toInt64]
theorem lZ_n {n : Nat} (h : n < 2 ^ 31) : (nI n).toInt64 = lZ n := by rw [lZ_I, nI_toInt h]
theorem lZ_lit (n : Nat) : (OfNat.ofNat n : Int64) = lZ n := by
  show Int64.ofNat n = Int64.ofInt n
  rfl
theorem lZ_inj {a b : Int} (h1 : -9223372036854775808 ≤ a) (h2 : a < 9223372036854775808) (h3 : -9223372036854775808 ≤ b) (h4 : b < 9223372036854775808) : lZ a = lZ b ↔ a = b := by
  rw [fa_eq64, lZ_to h1 h2, lZ_to h3 h4]
theorem lZ_lt {a b : Int} (h1 : -9223372036854775808 ≤ a) (h2 : a < 9223372036854775808) (h3 : -9223372036854775808 ≤ b) (h4 : b < 9223372036854775808) : lZ a < lZ b ↔ a < b := by
  rw [fa_lt64, lZ_to h1 h2, lZ_to h3 h4]
theorem sub_I {a b : Nat} (ha : a < 2 ^ 30) (hb : b < 2 ^ 30) : (nI a - nI b).toInt64 = lZ ((a : Int) - b) := by
  rw [lZ_I, pk_sub_toInt (by omega) (by omega)]
/-- the firm places of row y with water up to row r -/
noncomputable def fmB (op : Nat → Nat → Bool) (w r y x : Nat) : Bool := !wetB op w r y x
noncomputable def sXN (op : Nat → Nat → Bool) (w r : Nat) : Nat := fb_sm (fun y => hvS (fmB op w r y) w) r
noncomputable def rXN (op : Nat → Nat → Bool) (w r : Nat) : Nat := hvS (fmB op w r r) w
noncomputable def sYN (op : Nat → Nat → Bool) (w r : Nat) : Nat := fb_sm (fun y => fb_ct (fmB op w r y) w * (2 * y + 1)) r
def thZ (p : Nat → Bool) (w : Nat) : Nat := thS p w
/-- the line's breadth in row r -/
noncomputable def bUZ (op : Nat → Nat → Bool) (w r : Nat) : Int := 4 * (fA op w r : Int) * thS (fmB op w r r) w - 3 * rXN op w r * rXN op w r
noncomputable def bLZ (op : Nat → Nat → Bool) (w r : Nat) : Int := if fA op w r = 0 then 1 else 12 * (fA op w r : Int)
theorem hvS_le {p : Nat → Bool} {w : Nat} (hw : w ≤ 12) : hvS p w ≤ 300 := by
  have h := fb_sm_bound (f := fun x => if p x = true then 2 * x + 1 else 0) (c := 25) (n := w) (fun k hk => by by_cases q : p k = true <;> simp [q] <;> omega)
  unfold hvS
  omega
theorem thS_le {p : Nat → Bool} {w : Nat} (hw : w ≤ 12) : thS p w ≤ 6000 := by
  have h := fb_sm_bound (f := fun x => if p x = true then 3 * x * x + 3 * x + 1 else 0) (c := 500) (n := w) (fun k hk => by
    have h1 : 3 * k * k ≤ 3 * 12 * 12 := Nat.mul_le_mul (Nat.mul_le_mul_left 3 (by omega)) (by omega)
    by_cases q : p k = true <;> simp [q] <;> omega)
  unfold thS
  omega
theorem LF_hv {op : Nat → Nat → Bool} {w h r : Nat} {m : dx_M} (hl : LF m op w h r) {y : Nat} (hy : y ≤ r) : (nf (st_hv (fmI (m.1 3 2) (m.1 5 y))) w 0).toInt64 = lZ (hvS (fmB op w r y) w) := by
  have a2 := hl.1.2.1
  rw [LF_wet hl hy, hv_IM a2 w (Nat.le_refl w)]
  have := hvS_le (p := fun x => !wetB op w r y x) a2
  exact lZ_n (by omega)
theorem mA_ok {op : Nat → Nat → Bool} {w h r : Nat} {m : dx_M} (hl : LF m op w h r) : ∀ n, n ≤ r → nf (fun y s => s + (nf (st_hv (fmI (m.1 3 2) (m.1 5 y))) w 0).toInt64) n 0 = lZ (fb_sm (fun y => hvS (fmB op w r y) w) n)
  | 0, _ => rfl
  | n + 1, hn => by
    rw [nf_succ, mA_ok hl n (by omega)]
    try dsimp only
    rw [LF_hv hl (by omega), lZ_add, fb_sm_succ]
    rfl
theorem ct_I {p : Nat → Bool} {w y : Nat} (hw : w ≤ 12) (hy : y < 12) : (bcI (IM p w) * (2 * nI y + 1)).toInt64 = lZ (fb_ct p w * (2 * y + 1) : Nat) := by
  rw [bc_IM hw, show (2 : Int32) * nI y + 1 = nI (2 * y + 1) by rw [show (2 : Int32) = nI 2 from rfl, pk_mul, nI_1], pk_mul]
  have h1 := fb_ct_le p w
  have h2 : fb_ct p w * (2 * y + 1) ≤ 12 * 25 := Nat.mul_le_mul (by omega) (by omega)
  exact lZ_n (by omega)
theorem mU_ok {op : Nat → Nat → Bool} {w h r : Nat} {m : dx_M} (hl : LF m op w h r) : ∀ n, n ≤ r → nf (fun y s => s + (bcI (fmI (m.1 3 2) (m.1 5 y)) * (2 * nI y + 1)).toInt64) n 0 = lZ (fb_sm (fun y => fb_ct (fmB op w r y) w * (2 * y + 1)) n)
  | 0, _ => rfl
  | n + 1, hn => by
    have a := hl.1
    rw [nf_succ, mU_ok hl n (by omega)]
    try dsimp only
    rw [LF_wet hl (by omega), ct_I a.2.1 (by have := a.2.2.1; have := a.2.2.2.1; omega), lZ_add, fb_sm_succ]
    rfl
theorem th_ok {p : Nat → Bool} {w : Nat} (hw : w ≤ 12) : ∀ n, n ≤ w → nf (fun x s => s + ((IM p w >>> (nI x &&& 31) &&& 1) * (3 * nI x * nI x + 3 * nI x + 1)).toInt64) n 0 = lZ (thS p n)
  | 0, _ => rfl
  | n + 1, hn => by
    rw [nf_succ, th_ok hw n (by omega)]
    try dsimp only
    have e : (3 : Int32) * nI n * nI n + 3 * nI n + 1 = nI (3 * n * n + 3 * n + 1) := by rw [show (3 : Int32) = nI 3 from rfl, pk_mul, pk_mul, nI_add, nI_1]
    have h1 : 3 * n * n ≤ 3 * 12 * 12 := Nat.mul_le_mul (Nat.mul_le_mul_left 3 (by omega)) (by omega)
    rw [bit_IM hw (by omega), e, bI_mul, lZ_n (by by_cases q : p n = true <;> simp [q] <;> omega), lZ_add]
    rfl
set_option maxRecDepth 20000 in
theorem sX1_momentAcross {d : Nat} (m : dx_M) {Z : Option Value → dx_M → Prop} {op : Nat → Nat → Bool} {w h r : Nat} (hl : LF m op w h r) {p Q : Int} (e7 : m.2 3 7 = lZ p) (e8 : m.2 3 8 = lZ Q) (h1 : Z (some (.long (lZ (sXN op w r * Q + rXN op w r * p)))) m) : dx_Sem dx_P lx_X (d + 2) 20 [.ref 3] m Z := by
  obtain ⟨a1, a2, a3, a4, a5, a6, a7, a8, a9⟩ := id hl.1
  have er : m.1 3 4 = nI r := LF_row hl
  have hw : w ≤ 12 := a2
  have ew : m.1 3 2 = nI w := a5
  refine dx_sem km_X1_momentAcross rfl rfl ?_
  refine dx_blk 0 (c' := (0, [.ref 3, .null, .null, .null, .null], [], m)) rfl ?_
  refine dx_blk 4 (c' := (4, [.ref 3, .long 0, .null, .int 0, .null], [], m)) rfl ?_
  refine dx_blk 0 (c' := (4, [.ref 3, .long 0, .null, .int (nI 0), .null], [], m)) rfl ?_
  refine dx_for (fun (y : Nat) (s : Int64) => ((4, [.ref 3, .long s, .null, .int (nI y), .null], [], m) : dx_F)) (fun (y : Nat) (s : Int64) => s + (nf (st_hv (fmI (m.1 3 2) (m.1 5 y))) w 0).toInt64) (fun _ _ => True) r 0 trivial (fun y s hi hI hk => ?_) (fun _ _ _ _ => trivial) (fun hN => ?_)
  · refine dx_blk 0 (c' := (4, [.ref 3, .long s, .null, .int (nI y), .null], [], m)) rfl ?_
    refine dx_blk 3 (c' := (9, [.ref 3, .long s, .null, .int (nI y), .null], [.int (m.1 3 4), .int (nI y)], m)) rfl ?_
    refine dx_br (q := (m.1 3 4) ≤ (nI y)) (a := 31) (b := 12) (L := [.ref 3, .long s, .null, .int (nI y), .null]) (st := []) (m := m) rfl (fun h => absurd h (by rw [er]; exact nI_ge hi (by omega))) (fun _ => ?_)
    refine dx_blk 4 (c' := (16, [.ref 3, .long s, .null, .int (nI y), .null], [.int (nI y), .ref 3, .ref 3, .long s], m)) rfl ?_
    refine dx_call (id := 14) (as := [.ref 3, .int (nI y)]) (rest := [.ref 3, .long s]) rfl ?_
    refine sX1_firm _ (b := y) (by omega) ?_
    refine dx_blk 0 (c' := (19, [.ref 3, .long s, .null, .int (nI y), .null], [.int (fmI (m.1 3 2) (m.1 5 y)), .ref 3, .long s], m)) rfl ?_
    refine dx_call (id := 19) (as := [.ref 3, .int (fmI (m.1 3 2) (m.1 5 y))]) (rest := [.long s]) rfl ?_
    refine sX1_halves _ hw (by first | exact ew | assumption) (fmI (m.1 3 2) (m.1 5 y)) ?_
    refine dx_blk 0 (c' := (22, [.ref 3, .long s, .null, .int (nI y), .null], [.int (nf (st_hv (fmI (m.1 3 2) (m.1 5 y))) w 0), .long s], m)) rfl ?_
    refine dx_blk 5 (c' := (4, [.ref 3, .long (s + ((nf (st_hv (fmI (m.1 3 2) (m.1 5 y))) w 0).toInt64)), .null, .int ((nI y) + 1), .null], [], m)) rfl ?_
    rw [← nI_succ]
    exact hk
  · refine dx_blk 0 (c' := (4, [.ref 3, .long (nf (fun (y : Nat) (s : Int64) => s + (nf (st_hv (fmI (m.1 3 2) (m.1 5 y))) w 0).toInt64) r 0), .null, .int (nI r), .null], [], m)) rfl ?_
    refine dx_blk 3 (c' := (9, [.ref 3, .long (nf (fun (y : Nat) (s : Int64) => s + (nf (st_hv (fmI (m.1 3 2) (m.1 5 y))) w 0).toInt64) r 0), .null, .int (nI r), .null], [.int (m.1 3 4), .int (nI r)], m)) rfl ?_
    refine dx_br (q := (m.1 3 4) ≤ (nI r)) (a := 31) (b := 12) (L := [.ref 3, .long (nf (fun (y : Nat) (s : Int64) => s + (nf (st_hv (fmI (m.1 3 2) (m.1 5 y))) w 0).toInt64) r 0), .null, .int (nI r), .null]) (st := []) (m := m) rfl (fun _ => ?_) (fun h => absurd (by rw [er]; exact nI_le (Nat.le_refl _) (by omega)) h)
    refine dx_blk 2 (c' := (35, [.ref 3, .long (nf (fun (y : Nat) (s : Int64) => s + (nf (st_hv (fmI (m.1 3 2) (m.1 5 y))) w 0).toInt64) r 0), .null, .int (nI r), .null], [.int (m.1 3 4)], m)) rfl ?_
    refine dx_br (q := 0 ≤ (m.1 3 4)) (a := 42) (b := 38) (L := [.ref 3, .long (nf (fun (y : Nat) (s : Int64) => s + (nf (st_hv (fmI (m.1 3 2) (m.1 5 y))) w 0).toInt64) r 0), .null, .int (nI r), .null]) (st := []) (m := m) rfl (fun _ => ?_) (fun h => absurd (by rw [er]; exact nI_pos' (by omega)) h)
    refine dx_blk 4 (c' := (48, [.ref 3, .long (nf (fun (y : Nat) (s : Int64) => s + (nf (st_hv (fmI (m.1 3 2) (m.1 5 y))) w 0).toInt64) r 0), .null, .int (nI r), .null], [.int (m.1 3 4), .ref 3, .ref 3], m)) rfl ?_
    refine dx_call (id := 14) (as := [.ref 3, .int (m.1 3 4)]) (rest := [.ref 3]) rfl ?_
    rw [er]
    refine sX1_firm _ (b := r) (by omega) ?_
    refine dx_blk 0 (c' := (51, [.ref 3, .long (nf (fun (y : Nat) (s : Int64) => s + (nf (st_hv (fmI (m.1 3 2) (m.1 5 y))) w 0).toInt64) r 0), .null, .int (nI r), .null], [.int (fmI (m.1 3 2) (m.1 5 r)), .ref 3], m)) rfl ?_
    refine dx_call (id := 19) (as := [.ref 3, .int (fmI (m.1 3 2) (m.1 5 r))]) (rest := []) rfl ?_
    refine sX1_halves _ hw (by first | exact ew | assumption) (fmI (m.1 3 2) (m.1 5 r)) ?_
    refine dx_blk 0 (c' := (54, [.ref 3, .long (nf (fun (y : Nat) (s : Int64) => s + (nf (st_hv (fmI (m.1 3 2) (m.1 5 y))) w 0).toInt64) r 0), .null, .int (nI r), .null], [.int (nf (st_hv (fmI (m.1 3 2) (m.1 5 r))) w 0)], m)) rfl ?_
    refine dx_blk 11 (c' := (69, [.ref 3, .long (nf (fun (y : Nat) (s : Int64) => s + (nf (st_hv (fmI (m.1 3 2) (m.1 5 y))) w 0).toInt64) r 0), .null, .long ((nf (st_hv (fmI (m.1 3 2) (m.1 5 r))) w 0).toInt64), .null], [.long (((nf (fun (y : Nat) (s : Int64) => s + (nf (st_hv (fmI (m.1 3 2) (m.1 5 y))) w 0).toInt64) r 0) * (m.2 3 8)) + (((nf (st_hv (fmI (m.1 3 2) (m.1 5 r))) w 0).toInt64) * (m.2 3 7)))], m)) rfl ?_
    exact dx_ret (r := some (.long (((nf (fun (y : Nat) (s : Int64) => s + (nf (st_hv (fmI (m.1 3 2) (m.1 5 y))) w 0).toInt64) r 0) * (m.2 3 8)) + (((nf (st_hv (fmI (m.1 3 2) (m.1 5 r))) w 0).toInt64) * (m.2 3 7))))) rfl (by rw [mA_ok hl r (Nat.le_refl r), LF_hv hl (Nat.le_refl r), e7, e8, lZ_mul, lZ_mul, lZ_add]; exact h1)
set_option maxRecDepth 20000 in
theorem sX1_momentUp {d : Nat} (m : dx_M) {Z : Option Value → dx_M → Prop} {op : Nat → Nat → Bool} {w h r : Nat} (hl : LF m op w h r) {p Q : Int} (e7 : m.2 3 7 = lZ p) (e8 : m.2 3 8 = lZ Q) (h1 : Z (some (.long (lZ (sYN op w r * Q * Q + fA op w r * p * ((2 * r : Nat) * Q + p))))) m) : dx_Sem dx_P lx_X (d + 2) 21 [.ref 3] m Z := by
  obtain ⟨a1, a2, a3, a4, a5, a6, a7, a8, a9⟩ := id hl.1
  have er : m.1 3 4 = nI r := LF_row hl
  have hw : w ≤ 12 := a2
  have ew : m.1 3 2 = nI w := a5
  refine dx_sem km_X1_momentUp rfl rfl ?_
  refine dx_blk 0 (c' := (0, [.ref 3, .null, .null, .null], [], m)) rfl ?_
  refine dx_blk 4 (c' := (4, [.ref 3, .long 0, .null, .int 0], [], m)) rfl ?_
  refine dx_blk 0 (c' := (4, [.ref 3, .long 0, .null, .int (nI 0)], [], m)) rfl ?_
  refine dx_for (fun (y : Nat) (s : Int64) => ((4, [.ref 3, .long s, .null, .int (nI y)], [], m) : dx_F)) (fun (y : Nat) (s : Int64) => s + (bcI (fmI (m.1 3 2) (m.1 5 y)) * (2 * nI y + 1)).toInt64) (fun _ _ => True) r 0 trivial (fun y s hi hI hk => ?_) (fun _ _ _ _ => trivial) (fun hN => ?_)
  · refine dx_blk 0 (c' := (4, [.ref 3, .long s, .null, .int (nI y)], [], m)) rfl ?_
    refine dx_blk 3 (c' := (9, [.ref 3, .long s, .null, .int (nI y)], [.int (m.1 3 4), .int (nI y)], m)) rfl ?_
    refine dx_br (q := (m.1 3 4) ≤ (nI y)) (a := 36) (b := 12) (L := [.ref 3, .long s, .null, .int (nI y)]) (st := []) (m := m) rfl (fun h => absurd h (by rw [er]; exact nI_ge hi (by omega))) (fun _ => ?_)
    refine dx_blk 3 (c' := (15, [.ref 3, .long s, .null, .int (nI y)], [.int (nI y), .ref 3, .long s], m)) rfl ?_
    refine dx_call (id := 14) (as := [.ref 3, .int (nI y)]) (rest := [.long s]) rfl ?_
    refine sX1_firm _ (b := y) (by omega) ?_
    refine dx_blk 0 (c' := (18, [.ref 3, .long s, .null, .int (nI y)], [.int (fmI (m.1 3 2) (m.1 5 y)), .long s], m)) rfl ?_
    refine dx_call (id := 143) (as := [.int (fmI (m.1 3 2) (m.1 5 y))]) (rest := [.long s]) rfl ?_
    refine sJ6_bitCount (fmI (m.1 3 2) (m.1 5 y)) _ ?_
    refine dx_blk 0 (c' := (21, [.ref 3, .long s, .null, .int (nI y)], [.int (bcI (fmI (m.1 3 2) (m.1 5 y))), .long s], m)) rfl ?_
    refine dx_blk 11 (c' := (4, [.ref 3, .long (s + (((bcI (fmI (m.1 3 2) (m.1 5 y))) * ((2 * (nI y)) + 1)).toInt64)), .null, .int ((nI y) + 1)], [], m)) rfl ?_
    rw [← nI_succ]
    exact hk
  · refine dx_blk 0 (c' := (4, [.ref 3, .long (nf (fun (y : Nat) (s : Int64) => s + (bcI (fmI (m.1 3 2) (m.1 5 y)) * (2 * nI y + 1)).toInt64) r 0), .null, .int (nI r)], [], m)) rfl ?_
    refine dx_blk 3 (c' := (9, [.ref 3, .long (nf (fun (y : Nat) (s : Int64) => s + (bcI (fmI (m.1 3 2) (m.1 5 y)) * (2 * nI y + 1)).toInt64) r 0), .null, .int (nI r)], [.int (m.1 3 4), .int (nI r)], m)) rfl ?_
    refine dx_br (q := (m.1 3 4) ≤ (nI r)) (a := 36) (b := 12) (L := [.ref 3, .long (nf (fun (y : Nat) (s : Int64) => s + (bcI (fmI (m.1 3 2) (m.1 5 y)) * (2 * nI y + 1)).toInt64) r 0), .null, .int (nI r)]) (st := []) (m := m) rfl (fun _ => ?_) (fun h => absurd (by rw [er]; exact nI_le (Nat.le_refl _) (by omega)) h)
    refine dx_blk 26 (c' := (76, [.ref 3, .long (nf (fun (y : Nat) (s : Int64) => s + (bcI (fmI (m.1 3 2) (m.1 5 y)) * (2 * nI y + 1)).toInt64) r 0), .null, .int (nI r)], [.long ((((nf (fun (y : Nat) (s : Int64) => s + (bcI (fmI (m.1 3 2) (m.1 5 y)) * (2 * nI y + 1)).toInt64) r 0) * (m.2 3 8)) * (m.2 3 8)) + ((((m.1 3 6).toInt64) * (m.2 3 7)) * ((((2 * (m.1 3 4)).toInt64) * (m.2 3 8)) + (m.2 3 7))))], m)) rfl ?_
    exact dx_ret (r := some (.long ((((nf (fun (y : Nat) (s : Int64) => s + (bcI (fmI (m.1 3 2) (m.1 5 y)) * (2 * nI y + 1)).toInt64) r 0) * (m.2 3 8)) * (m.2 3 8)) + ((((m.1 3 6).toInt64) * (m.2 3 7)) * ((((2 * (m.1 3 4)).toInt64) * (m.2 3 8)) + (m.2 3 7)))))) rfl (by rw [mU_ok hl r (Nat.le_refl r), er, hl.2.2, lZ_n (by have := fA_le op r hw; omega), show (2 : Int32) * nI r = nI (2 * r) from pk_mul 2 r, lZ_n (by omega), e7, e8, lZ_mul, lZ_mul, lZ_mul, lZ_mul, lZ_add, lZ_mul, lZ_add]; exact h1)
set_option maxRecDepth 20000 in
theorem sX1_measureRow {d : Nat} (m : dx_M) {Z : Option Value → dx_M → Prop} {op : Nat → Nat → Bool} {w h r : Nat} (hl : LF m op w h r) (h1 : Z none (dx_pL (dx_pL m 3 9 (lZ (bUZ op w r))) 3 10 (lZ (bLZ op w r)))) : dx_Sem dx_P lx_X (d + 2) 23 [.ref 3] m Z := by
  obtain ⟨a1, a2, a3, a4, a5, a6, a7, a8, a9⟩ := id hl.1
  have er : m.1 3 4 = nI r := LF_row hl
  have hw : w ≤ 12 := a2
  have ew : m.1 3 2 = nI w := a5
  refine dx_sem km_X1_measureRow rfl rfl ?_
  refine dx_blk 0 (c' := (0, [.ref 3, .null, .null, .null, .null, .null, .null, .null], [], m)) rfl ?_
  refine dx_blk 2 (c' := (4, [.ref 3, .null, .null, .null, .null, .null, .null, .null], [.int (m.1 3 4)], m)) rfl ?_
  refine dx_br (q := 0 ≤ (m.1 3 4)) (a := 11) (b := 7) (L := [.ref 3, .null, .null, .null, .null, .null, .null, .null]) (st := []) (m := m) rfl (fun _ => ?_) (fun h => absurd (by rw [er]; exact nI_pos' (by omega)) h)
  refine dx_blk 3 (c' := (16, [.ref 3, .null, .null, .null, .null, .null, .null, .null], [.int (m.1 3 4), .ref 3], m)) rfl ?_
  refine dx_call (id := 14) (as := [.ref 3, .int (m.1 3 4)]) (rest := []) rfl ?_
  rw [er]
  refine sX1_firm _ (b := r) (by omega) ?_
  rw [LF_wet hl (Nat.le_refl r)]
  refine dx_blk 0 (c' := (19, [.ref 3, .null, .null, .null, .null, .null, .null, .null], [.int (IM (fmB op w r r) w)], m)) rfl ?_
  refine dx_blk 2 (c' := (21, [.ref 3, .int (IM (fmB op w r r) w), .null, .null, .null, .null, .null, .null], [.int (IM (fmB op w r r) w)], m)) rfl ?_
  refine dx_call (id := 143) (as := [.int (IM (fmB op w r r) w)]) (rest := []) rfl ?_
  refine sJ6_bitCount (IM (fmB op w r r) w) _ ?_
  refine dx_blk 0 (c' := (24, [.ref 3, .int (IM (fmB op w r r) w), .null, .null, .null, .null, .null, .null], [.int (bcI (IM (fmB op w r r) w))], m)) rfl ?_
  refine dx_blk 6 (c' := (32, [.ref 3, .int (IM (fmB op w r r) w), .long ((bcI (IM (fmB op w r r) w)).toInt64), .null, .long 0, .null, .int 0, .null], [], m)) rfl ?_
  rw [show bcI (IM (fmB op w r r) w) = nI (fA op w r) from bc_IM hw, lZ_n (by have := fA_le op r hw; omega)]
  refine dx_blk 0 (c' := (32, [.ref 3, .int (IM (fmB op w r r) w), .long (lZ (fA op w r)), .null, .long 0, .null, .int (nI 0), .null], [], m)) rfl ?_
  refine dx_for (fun (x : Nat) (s : Int64) => ((32, [.ref 3, .int (IM (fmB op w r r) w), .long (lZ (fA op w r)), .null, .long s, .null, .int (nI x), .null], [], m) : dx_F)) (fun (x : Nat) (s : Int64) => s + (((IM (fmB op w r r) w) >>> (nI x &&& 31) &&& 1) * (3 * nI x * nI x + 3 * nI x + 1)).toInt64) (fun _ _ => True) w 0 trivial (fun x s hi hI hk => ?_) (fun _ _ _ _ => trivial) (fun hN => ?_)
  · refine dx_blk 0 (c' := (32, [.ref 3, .int (IM (fmB op w r r) w), .long (lZ (fA op w r)), .null, .long s, .null, .int (nI x), .null], [], m)) rfl ?_
    refine dx_blk 3 (c' := (38, [.ref 3, .int (IM (fmB op w r r) w), .long (lZ (fA op w r)), .null, .long s, .null, .int (nI x), .null], [.int (m.1 3 2), .int (nI x)], m)) rfl ?_
    refine dx_br (q := (m.1 3 2) ≤ (nI x)) (a := 74) (b := 41) (L := [.ref 3, .int (IM (fmB op w r r) w), .long (lZ (fA op w r)), .null, .long s, .null, .int (nI x), .null]) (st := []) (m := m) rfl (fun h => absurd h (by rw [ew]; exact nI_ge hi (by omega))) (fun _ => ?_)
    refine dx_blk 23 (c' := (32, [.ref 3, .int (IM (fmB op w r r) w), .long (lZ (fA op w r)), .null, .long (s + (((((IM (fmB op w r r) w) >>> ((nI x) &&& 31)) &&& 1) * ((((3 * (nI x)) * (nI x)) + (3 * (nI x))) + 1)).toInt64)), .null, .int ((nI x) + 1), .null], [], m)) rfl ?_
    rw [← nI_succ]
    exact hk
  · refine dx_blk 0 (c' := (32, [.ref 3, .int (IM (fmB op w r r) w), .long (lZ (fA op w r)), .null, .long (nf (fun (x : Nat) (s : Int64) => s + (((IM (fmB op w r r) w) >>> (nI x &&& 31) &&& 1) * (3 * nI x * nI x + 3 * nI x + 1)).toInt64) w 0), .null, .int (nI w), .null], [], m)) rfl ?_
    refine dx_blk 3 (c' := (38, [.ref 3, .int (IM (fmB op w r r) w), .long (lZ (fA op w r)), .null, .long (nf (fun (x : Nat) (s : Int64) => s + (((IM (fmB op w r r) w) >>> (nI x &&& 31) &&& 1) * (3 * nI x * nI x + 3 * nI x + 1)).toInt64) w 0), .null, .int (nI w), .null], [.int (m.1 3 2), .int (nI w)], m)) rfl ?_
    refine dx_br (q := (m.1 3 2) ≤ (nI w)) (a := 74) (b := 41) (L := [.ref 3, .int (IM (fmB op w r r) w), .long (lZ (fA op w r)), .null, .long (nf (fun (x : Nat) (s : Int64) => s + (((IM (fmB op w r r) w) >>> (nI x &&& 31) &&& 1) * (3 * nI x * nI x + 3 * nI x + 1)).toInt64) w 0), .null, .int (nI w), .null]) (st := []) (m := m) rfl (fun _ => ?_) (fun h => absurd (by rw [ew]; exact nI_le (Nat.le_refl _) (by omega)) h)
    refine dx_blk 2 (c' := (76, [.ref 3, .int (IM (fmB op w r r) w), .long (lZ (fA op w r)), .null, .long (nf (fun (x : Nat) (s : Int64) => s + (((IM (fmB op w r r) w) >>> (nI x &&& 31) &&& 1) * (3 * nI x * nI x + 3 * nI x + 1)).toInt64) w 0), .null, .int (nI w), .null], [.int (IM (fmB op w r r) w), .ref 3], m)) rfl ?_
    refine dx_call (id := 19) (as := [.ref 3, .int (IM (fmB op w r r) w)]) (rest := []) rfl ?_
    refine sX1_halves _ hw (by first | exact ew | assumption) (IM (fmB op w r r) w) ?_
    rw [hv_IM hw w (Nat.le_refl w)]
    refine dx_blk 0 (c' := (79, [.ref 3, .int (IM (fmB op w r r) w), .long (lZ (fA op w r)), .null, .long (nf (fun (x : Nat) (s : Int64) => s + (((IM (fmB op w r r) w) >>> (nI x &&& 31) &&& 1) * (3 * nI x * nI x + 3 * nI x + 1)).toInt64) w 0), .null, .int (nI w), .null], [.int (nI (rXN op w r))], m)) rfl ?_
    refine dx_blk 15 (c' := (104, [.ref 3, .int (IM (fmB op w r r) w), .long (lZ (fA op w r)), .null, .long (nf (fun (x : Nat) (s : Int64) => s + (((IM (fmB op w r r) w) >>> (nI x &&& 31) &&& 1) * (3 * nI x * nI x + 3 * nI x + 1)).toInt64) w 0), .null, .long ((nI (rXN op w r)).toInt64), .null], [], dx_pL m 3 9 (((4 * (lZ (fA op w r))) * (nf (fun (x : Nat) (s : Int64) => s + (((IM (fmB op w r r) w) >>> (nI x &&& 31) &&& 1) * (3 * nI x * nI x + 3 * nI x + 1)).toInt64) w 0)) - ((3 * ((nI (rXN op w r)).toInt64)) * ((nI (rXN op w r)).toInt64))))) rfl ?_
    refine dx_mem (m' := dx_pL m 3 9 (lZ (bUZ op w r))) (by rw [th_ok hw w (Nat.le_refl w), lZ_n (n := rXN op w r) (by have := hvS_le (p := fmB op w r r) hw; unfold rXN; omega), show (4 : Int64) = lZ 4 from rfl, show (3 : Int64) = lZ 3 from rfl, lZ_mul, lZ_mul, lZ_mul, lZ_mul, lZ_sub]; rfl) ?_
    refine dx_blk 4 (c' := (108, [.ref 3, .int (IM (fmB op w r r) w), .long (lZ (fA op w r)), .null, .long (nf (fun (x : Nat) (s : Int64) => s + (((IM (fmB op w r r) w) >>> (nI x &&& 31) &&& 1) * (3 * nI x * nI x + 3 * nI x + 1)).toInt64) w 0), .null, .long ((nI (rXN op w r)).toInt64), .null], [.int (lg_cmp (lZ (fA op w r)) 0), .ref 3], dx_pL m 3 9 (lZ (bUZ op w r)))) rfl ?_
    refine dx_brQ (q := (lg_cmp (lZ (fA op w r)) 0) = 0) (a := 111) (b := 115) (L := [.ref 3, .int (IM (fmB op w r r) w), .long (lZ (fA op w r)), .null, .long (nf (fun (x : Nat) (s : Int64) => s + (((IM (fmB op w r r) w) >>> (nI x &&& 31) &&& 1) * (3 * nI x * nI x + 3 * nI x + 1)).toInt64) w 0), .null, .long ((nI (rXN op w r)).toInt64), .null]) (st := [.ref 3]) (m := dx_pL m 3 9 (lZ (bUZ op w r))) (lc_eq _ _) rfl (fun q108 => ?_) (fun q108 => ?_)
    · refine dx_blk 3 (c' := (123, [.ref 3, .int (IM (fmB op w r r) w), .long (lZ (fA op w r)), .null, .long (nf (fun (x : Nat) (s : Int64) => s + (((IM (fmB op w r r) w) >>> (nI x &&& 31) &&& 1) * (3 * nI x * nI x + 3 * nI x + 1)).toInt64) w 0), .null, .long ((nI (rXN op w r)).toInt64), .null], [], dx_pL (dx_pL m 3 9 (lZ (bUZ op w r))) 3 10 1)) rfl ?_
      exact dx_ret (r := none) rfl (by
    have q0 : fA op w r = 0 := by
      have := fA_le op r hw
      have e := (lZ_inj (by omega) (by omega) (by decide) (by decide)).mp (show lZ (fA op w r) = lZ 0 from q108)
      omega
    have e : lZ (bLZ op w r) = 1 := by unfold bLZ; rw [if_pos q0]; rfl
    rw [e] at h1; exact h1)
    · refine dx_blk 4 (c' := (123, [.ref 3, .int (IM (fmB op w r r) w), .long (lZ (fA op w r)), .null, .long (nf (fun (x : Nat) (s : Int64) => s + (((IM (fmB op w r r) w) >>> (nI x &&& 31) &&& 1) * (3 * nI x * nI x + 3 * nI x + 1)).toInt64) w 0), .null, .long ((nI (rXN op w r)).toInt64), .null], [], dx_pL (dx_pL m 3 9 (lZ (bUZ op w r))) 3 10 (12 * (lZ (fA op w r))))) rfl ?_
      exact dx_ret (r := none) rfl (by
    have q0 : ¬ fA op w r = 0 := fun e => q108 (by rw [e]; rfl)
    have e : lZ (bLZ op w r) = 12 * lZ (fA op w r) := by unfold bLZ; rw [if_neg q0, show (12 : Int64) = lZ 12 from rfl, lZ_mul]
    rw [e] at h1; exact h1)
end
section
/-! the line's breadth, the places, the weights' moments (printed by wip/whole/g29.py) -/
noncomputable def brB (op : Nat → Nat → Bool) (w h r : Nat) (p Q : Int) : Prop := (lZ p = lZ Q ∧ r + 1 < h) ∧ ¬ lZ (bUZ op w r * bLZ op w (r + 1)) < lZ (bUZ op w (r + 1) * bLZ op w r)
noncomputable def brU (op : Nat → Nat → Bool) (w h r : Nat) (p Q : Int) : Int := @ite _ (brB op w h r p Q) (Classical.propDecidable _) (bUZ op w (r + 1)) (bUZ op w r)
noncomputable def brL (op : Nat → Nat → Bool) (w h r : Nat) (p Q : Int) : Int := @ite _ (brB op w h r p Q) (Classical.propDecidable _) (bLZ op w (r + 1)) (bLZ op w r)
theorem brU_t {op : Nat → Nat → Bool} {w h r : Nat} {p Q : Int} (q : brB op w h r p Q) : brU op w h r p Q = bUZ op w (r + 1) ∧ brL op w h r p Q = bLZ op w (r + 1) := ⟨if_pos q, if_pos q⟩
theorem brU_f {op : Nat → Nat → Bool} {w h r : Nat} {p Q : Int} (q : ¬ brB op w h r p Q) : brU op w h r p Q = bUZ op w r ∧ brL op w h r p Q = bLZ op w r := ⟨if_neg q, if_neg q⟩
noncomputable def stN (op : Nat → Nat → Bool) (w r y x : Nat) : Int32 := if r < y then 0 else if wetB op w r y x = true then 1 else if op y x = true then 3 else 2
def mx0 (v : Int32) : Int32 := if v < 0 then 0 else v
def stW (tr : Int32 → Int32 → Int32) (f : Nat → Int32) (y x : Nat) (s : Int64) : Int64 := s + (mx0 (f (y * 12 + x)) * (2 * tr (nI x) (nI y) + 1)).toInt64
def cutW (tr : Int32 → Int32 → Int32) (f : Nat → Int32) (W H : Nat) : Int64 := nf (fun y s => nf (fun x s => stW tr f y x s) W s) H 0
def ldW (th : Nat → Bool) (wt v : Nat → Int32) (E : Nat) (s : Int64) : Int64 := nf (fun i s => if th i = true then s + (wt i * v i).toInt64 else s) E s
abbrev wAX (m : dx_M) (t : Int32) (W H E : Nat) : Int64 := ldW (thX m) (fun i => m.1 (10 + i) 4) (fun i => trA t (m.1 (10 + i) 2) (m.1 (10 + i) 3) (2 * nI W) (2 * nI H)) E (cutW (fun x y => trA t x y (nI W - 1) (nI H - 1)) (m.1 2) W H)
abbrev wUX (m : dx_M) (t : Int32) (W H E : Nat) : Int64 := ldW (thX m) (fun i => m.1 (10 + i) 4) (fun i => trU t (m.1 (10 + i) 2) (m.1 (10 + i) 3) (2 * nI W) (2 * nI H) + m.1 (10 + i) 5) E (cutW (fun x y => trU t x y (nI W - 1) (nI H - 1)) (m.1 2) W H)
set_option maxRecDepth 20000 in
theorem sX1_measureLine {d : Nat} (m : dx_M) {Z : Option Value → dx_M → Prop} {op : Nat → Nat → Bool} {w h r : Nat} (hl : LF m op w h r) {p Q : Int} (e7 : m.2 3 7 = lZ p) (e8 : m.2 3 8 = lZ Q) (h1 : ∀ m', keepX m m' → m'.2 3 9 = lZ (brU op w h r p Q) → m'.2 3 10 = lZ (brL op w h r p Q) → Z none m') : dx_Sem dx_P lx_X (d + 5) 22 [.ref 3] m Z := by
  obtain ⟨a1, a2, a3, a4, a5, a6, a7, a8, a9⟩ := id hl.1
  have er : m.1 3 4 = nI r := LF_row hl
  have hw : w ≤ 12 := a2
  have ew : m.1 3 2 = nI w := a5
  refine dx_sem km_X1_measureLine rfl rfl ?_
  refine dx_blk 0 (c' := (0, [.ref 3, .null, .null, .null, .null], [], m)) rfl ?_
  refine dx_blk 1 (c' := (1, [.ref 3, .null, .null, .null, .null], [.ref 3], m)) rfl ?_
  refine dx_call (id := 23) (as := [.ref 3]) (rest := []) rfl ?_
  refine sX1_measureRow _ hl ?_
  refine dx_blk 0 (c' := (4, [.ref 3, .null, .null, .null, .null], [], dx_pL (dx_pL m 3 9 (lZ (bUZ op w r))) 3 10 (lZ (bLZ op w r)))) rfl ?_
  refine dx_blk 5 (c' := (13, [.ref 3, .null, .null, .null, .null], [.int (lg_cmp (m.2 3 7) (m.2 3 8))], dx_pL (dx_pL m 3 9 (lZ (bUZ op w r))) 3 10 (lZ (bLZ op w r)))) rfl ?_
  refine dx_brQ (q := (lg_cmp (m.2 3 7) (m.2 3 8)) = 0) (a := 16) (b := 29) (L := [.ref 3, .null, .null, .null, .null]) (st := []) (m := dx_pL (dx_pL m 3 9 (lZ (bUZ op w r))) 3 10 (lZ (bLZ op w r))) (lc_eq _ _) rfl (fun q13 => ?_) (fun q13 => ?_)
  · rw [e7, e8] at q13
    rcases Decidable.em (r + 1 < h) with qh | qh
    · refine dx_blk 0 (c' := (16, [.ref 3, .null, .null, .null, .null], [], dx_pL (dx_pL m 3 9 (lZ (bUZ op w r))) 3 10 (lZ (bLZ op w r)))) rfl ?_
      refine dx_blk 6 (c' := (26, [.ref 3, .null, .null, .null, .null], [.int (m.1 3 3), .int ((m.1 3 4) + 1)], dx_pL (dx_pL m 3 9 (lZ (bUZ op w r))) 3 10 (lZ (bLZ op w r)))) rfl ?_
      refine dx_br (q := ((m.1 3 4) + 1) < (m.1 3 3)) (a := 30) (b := 29) (L := [.ref 3, .null, .null, .null, .null]) (st := []) (m := dx_pL (dx_pL m 3 9 (lZ (bUZ op w r))) 3 10 (lZ (bLZ op w r))) rfl (fun _ => ?_) (fun h => absurd (by rw [er, a6, nI_1 r]; exact nI_lt qh (by omega)) h)
      refine dx_blk 11 (c' := (47, [.ref 3, .long (lZ (bUZ op w r)), .null, .long (lZ (bLZ op w r)), .null], [.int ((m.1 3 4) + 1), .ref 3], dx_pL (dx_pL m 3 9 (lZ (bUZ op w r))) 3 10 (lZ (bLZ op w r)))) rfl ?_
      refine dx_call (id := 11) (as := [.ref 3, .int ((m.1 3 4) + 1)]) (rest := []) rfl ?_
      rw [show m.1 3 4 + 1 = nI (r + 1) by rw [er]; exact nI_1 r]
      refine sX1_riseTo _ (op := op) (w := w) (h := h) (k := r + 1) (t := r + 1) hl.1 (by omega) (by omega) (fun m2 hl2 hk2 hm2 => ?_)
      refine dx_blk 0 (c' := (50, [.ref 3, .long (lZ (bUZ op w r)), .null, .long (lZ (bLZ op w r)), .null], [], m2)) rfl ?_
      refine dx_blk 1 (c' := (51, [.ref 3, .long (lZ (bUZ op w r)), .null, .long (lZ (bLZ op w r)), .null], [.ref 3], m2)) rfl ?_
      refine dx_call (id := 23) (as := [.ref 3]) (rest := []) rfl ?_
      refine sX1_measureRow _ hl2 ?_
      refine dx_blk 0 (c' := (54, [.ref 3, .long (lZ (bUZ op w r)), .null, .long (lZ (bLZ op w r)), .null], [], dx_pL (dx_pL m2 3 9 (lZ (bUZ op w (r + 1)))) 3 10 (lZ (bLZ op w (r + 1))))) rfl ?_
      refine dx_blk 9 (c' := (67, [.ref 3, .long (lZ (bUZ op w r)), .null, .long (lZ (bLZ op w r)), .null], [.int (lg_cmp ((lZ (bUZ op w r)) * (lZ (bLZ op w (r + 1)))) ((lZ (bUZ op w (r + 1))) * (lZ (bLZ op w r))))], dx_pL (dx_pL m2 3 9 (lZ (bUZ op w (r + 1)))) 3 10 (lZ (bLZ op w (r + 1))))) rfl ?_
      refine dx_brQ (q := 0 ≤ (lg_cmp ((lZ (bUZ op w r)) * (lZ (bLZ op w (r + 1)))) ((lZ (bUZ op w (r + 1))) * (lZ (bLZ op w r))))) (a := 80) (b := 70) (L := [.ref 3, .long (lZ (bUZ op w r)), .null, .long (lZ (bLZ op w r)), .null]) (st := []) (m := dx_pL (dx_pL m2 3 9 (lZ (bUZ op w (r + 1)))) 3 10 (lZ (bLZ op w (r + 1)))) (lc_ge _ _) rfl (fun q67 => ?_) (fun q67 => ?_)
      · exact dx_ret (r := none) rfl (by
    have k1 : keepX m (dx_pL (dx_pL m 3 9 (lZ (bUZ op w r))) 3 10 (lZ (bLZ op w r))) := ⟨fun _ _ _ _ => rfl, fun q h3 => (by simp [dx_pL, h3])⟩
    have q67' := q67
    rw [show lZ (bUZ op w r) * lZ (bLZ op w (r + 1)) = lZ (bUZ op w r * bLZ op w (r + 1)) from lZ_mul _ _, show lZ (bUZ op w (r + 1)) * lZ (bLZ op w r) = lZ (bUZ op w (r + 1) * bLZ op w r) from lZ_mul _ _] at q67'
    rw [fa_le64] at q67'
    have nb : brB op w h r p Q := ⟨⟨q13, qh⟩, by rw [fa_lt64]; omega⟩
    refine h1 _ (keepX_tr k1 (keepX_tr hk2 ⟨fun _ _ _ _ => rfl, fun q h3 => (by simp [dx_pL, h3])⟩)) ?_ ?_
    · rw [(brU_t nb).1]; rfl
    · rw [(brU_t nb).2]; rfl)
      · refine dx_blk 6 (c' := (80, [.ref 3, .long (lZ (bUZ op w r)), .null, .long (lZ (bLZ op w r)), .null], [], dx_pL (dx_pL (dx_pL (dx_pL m2 3 9 (lZ (bUZ op w (r + 1)))) 3 10 (lZ (bLZ op w (r + 1)))) 3 9 (lZ (bUZ op w r))) 3 10 (lZ (bLZ op w r)))) rfl ?_
        exact dx_ret (r := none) rfl (by
    have k1 : keepX m (dx_pL (dx_pL m 3 9 (lZ (bUZ op w r))) 3 10 (lZ (bLZ op w r))) := ⟨fun _ _ _ _ => rfl, fun q h3 => (by simp [dx_pL, h3])⟩
    have q67' := q67
    rw [show lZ (bUZ op w r) * lZ (bLZ op w (r + 1)) = lZ (bUZ op w r * bLZ op w (r + 1)) from lZ_mul _ _, show lZ (bUZ op w (r + 1)) * lZ (bLZ op w r) = lZ (bUZ op w (r + 1) * bLZ op w r) from lZ_mul _ _] at q67'
    rw [fa_le64] at q67'
    have nb : ¬ brB op w h r p Q := fun q => q.2 (by rw [fa_lt64]; omega)
    refine h1 _ (keepX_tr k1 (keepX_tr hk2 ⟨fun _ _ _ _ => rfl, fun q h3 => (by simp [dx_pL, h3])⟩)) ?_ ?_
    · rw [(brU_f nb).1]; rfl
    · rw [(brU_f nb).2]; rfl)
    · refine dx_blk 0 (c' := (16, [.ref 3, .null, .null, .null, .null], [], dx_pL (dx_pL m 3 9 (lZ (bUZ op w r))) 3 10 (lZ (bLZ op w r)))) rfl ?_
      refine dx_blk 6 (c' := (26, [.ref 3, .null, .null, .null, .null], [.int (m.1 3 3), .int ((m.1 3 4) + 1)], dx_pL (dx_pL m 3 9 (lZ (bUZ op w r))) 3 10 (lZ (bLZ op w r)))) rfl ?_
      refine dx_br (q := ((m.1 3 4) + 1) < (m.1 3 3)) (a := 30) (b := 29) (L := [.ref 3, .null, .null, .null, .null]) (st := []) (m := dx_pL (dx_pL m 3 9 (lZ (bUZ op w r))) 3 10 (lZ (bLZ op w r))) rfl (fun h => absurd h (by rw [er, a6, show nI r + 1 = nI (r + 1) from nI_1 r]; exact nI_nlt (by omega) (by omega))) (fun _ => ?_)
      exact dx_ret (r := none) rfl (by
    have nb : ¬ brB op w h r p Q := fun q => qh q.1.2
    refine h1 _ ⟨fun _ _ _ _ => rfl, fun q h3 => (by simp [dx_pL, h3])⟩ ?_ ?_
    · rw [(brU_f nb).1]; rfl
    · rw [(brU_f nb).2]; rfl)
  · exact dx_ret (r := none) rfl (by
    have nb : ¬ brB op w h r p Q := fun q => q13 (by rw [e7, e8]; exact q.1.1)
    refine h1 _ ⟨fun _ _ _ _ => rfl, fun q h3 => (by simp [dx_pL, h3])⟩ ?_ ?_
    · rw [(brU_f nb).1]; rfl
    · rw [(brU_f nb).2]; rfl)
set_option maxRecDepth 20000 in
theorem sX1_stateOf {d : Nat} (m : dx_M) {Z : Option Value → dx_M → Prop} {op : Nat → Nat → Bool} {w h r : Nat} (hl : LF m op w h r) {x y : Nat} (hx : x < w) (hy : y < h) (h1 : Z (some (.int (stN op w r y x))) m) : dx_Sem dx_P lx_X (d + 1) 18 [.ref 3, .int (nI x), .int (nI y)] m Z := by
  obtain ⟨a1, a2, a3, a4, a5, a6, a7, a8, a9⟩ := id hl.1
  have er : m.1 3 4 = nI r := LF_row hl
  have hw : w ≤ 12 := a2
  have ew : m.1 3 2 = nI w := a5
  refine dx_sem km_X1_stateOf rfl rfl ?_
  refine dx_blk 0 (c' := (0, [.ref 3, .int (nI x), .int (nI y)], [], m)) rfl ?_
  rcases Nat.lt_or_ge r y with q | q
  · refine dx_blk 0 (c' := (0, [.ref 3, .int (nI x), .int (nI y)], [], m)) rfl ?_
    refine dx_blk 3 (c' := (5, [.ref 3, .int (nI x), .int (nI y)], [.int (m.1 3 4), .int (nI y)], m)) rfl ?_
    refine dx_br (q := (nI y) ≤ (m.1 3 4)) (a := 10) (b := 8) (L := [.ref 3, .int (nI x), .int (nI y)]) (st := []) (m := m) rfl (fun h => absurd h (by rw [er, fa_le, nI_toInt (by omega), nI_toInt (by omega)]; omega)) (fun _ => ?_)
    refine dx_blk 1 (c' := (9, [.ref 3, .int (nI x), .int (nI y)], [.int 0], m)) rfl ?_
    exact dx_ret (r := some (.int 0)) rfl (by
    have e : stN op w r y x = 0 := by unfold stN; rw [if_pos q]
    rw [e] at h1; exact h1)
  · refine dx_blk 0 (c' := (0, [.ref 3, .int (nI x), .int (nI y)], [], m)) rfl ?_
    refine dx_blk 3 (c' := (5, [.ref 3, .int (nI x), .int (nI y)], [.int (m.1 3 4), .int (nI y)], m)) rfl ?_
    refine dx_br (q := (nI y) ≤ (m.1 3 4)) (a := 10) (b := 8) (L := [.ref 3, .int (nI x), .int (nI y)]) (st := []) (m := m) rfl (fun _ => ?_) (fun h => absurd (by rw [er]; exact nI_le q (by omega)) h)
    have ewt : (m.1 5 y >>> (nI x &&& 31)) &&& 1 = bI (wetB op w r y x) := by rw [a9 y (by omega), Nat.add_sub_cancel]; exact bit_IM a2 hx
    have eop : (m.1 4 y >>> (nI x &&& 31)) &&& 1 = bI (op y x) := by rw [a8 y hy]; exact bit_IM a2 hx
    refine dx_blk 3 (c' := (15, [.ref 3, .int (nI x), .int (nI y)], [.int (nI y), .ref 5], m)) rfl ?_
    refine dx_aldN y rfl rfl rfl rfl (by omega) ?_
    refine dx_blk 0 (c' := (16, [.ref 3, .int (nI x), .int (nI y)], [.int (m.1 5 y)], m)) rfl ?_
    refine dx_blk 5 (c' := (21, [.ref 3, .int (nI x), .int (nI y)], [.int 1, .int (((m.1 5 y) >>> ((nI x) &&& 31)) &&& 1)], m)) rfl ?_
    refine dx_br (q := (((m.1 5 y) >>> ((nI x) &&& 31)) &&& 1) = 1) (a := 24) (b := 26) (L := [.ref 3, .int (nI x), .int (nI y)]) (st := []) (m := m) rfl (fun q21 => ?_) (fun q21 => ?_)
    · refine dx_blk 1 (c' := (25, [.ref 3, .int (nI x), .int (nI y)], [.int 1], m)) rfl ?_
      exact dx_ret (r := some (.int 1)) rfl (by
    have e : stN op w r y x = 1 := by unfold stN; rw [ewt] at q21; rw [if_neg (by omega), if_pos (bI_ne (by rw [q21]; decide))]
    rw [e] at h1; exact h1)
    · refine dx_blk 3 (c' := (31, [.ref 3, .int (nI x), .int (nI y)], [.int (nI y), .ref 4], m)) rfl ?_
      refine dx_aldN y rfl rfl rfl rfl (by omega) ?_
      refine dx_blk 0 (c' := (32, [.ref 3, .int (nI x), .int (nI y)], [.int (m.1 4 y)], m)) rfl ?_
      refine dx_blk 4 (c' := (36, [.ref 3, .int (nI x), .int (nI y)], [.int (((m.1 4 y) >>> ((nI x) &&& 31)) &&& 1)], m)) rfl ?_
      refine dx_br (q := (((m.1 4 y) >>> ((nI x) &&& 31)) &&& 1) = 0) (a := 39) (b := 43) (L := [.ref 3, .int (nI x), .int (nI y)]) (st := []) (m := m) rfl (fun q36 => ?_) (fun q36 => ?_)
      · refine dx_blk 2 (c' := (44, [.ref 3, .int (nI x), .int (nI y)], [.int 2], m)) rfl ?_
        exact dx_ret (r := some (.int 2)) rfl (by
    have e : stN op w r y x = 2 := by unfold stN; rw [ewt] at q21; have w0 : ¬ wetB op w r y x = true := fun z => q21 (bI_t z); rw [if_neg (by omega), if_neg w0]; rw [eop] at q36; rw [if_neg (by rw [bI_eq q36]; decide)]
    rw [e] at h1; exact h1)
      · refine dx_blk 1 (c' := (44, [.ref 3, .int (nI x), .int (nI y)], [.int 3], m)) rfl ?_
        exact dx_ret (r := some (.int 3)) rfl (by
    have e : stN op w r y x = 3 := by unfold stN; rw [ewt] at q21; have w0 : ¬ wetB op w r y x = true := fun z => q21 (bI_t z); rw [if_neg (by omega), if_neg w0]; rw [eop] at q36; rw [if_pos (bI_ne q36)]
    rw [e] at h1; exact h1)
set_option maxRecDepth 20000 in
theorem sX0_weightAcross {d : Nat} (m : dx_M) {W H : Nat} (hW : W ≤ 12) (hH : H ≤ 12) (eW : m.1 1 1 = nI W) (eH : m.1 1 2 = nI H) (t : Int32) {Z : Option Value → dx_M → Prop} (h : Z (some (.long (cutW (fun x y => trA t x y (nI W - 1) (nI H - 1)) (m.1 2) W H))) m) : dx_Sem dx_P lx_X (d + 2) 8 [.ref 1, .int t] m Z := by
  refine dx_sem km_X0_weightAcross rfl rfl ?_
  refine dx_blk 0 (c' := (0, [.ref 1, .int t, .null, .null, .null, .null, .null], [], m)) rfl ?_
  refine dx_blk 4 (c' := (5, [.ref 1, .int t, .long 0, .null, .int 0, .null, .null], [], m)) rfl ?_
  refine dx_blk 0 (c' := (5, [.ref 1, .int t, .long 0, .null, .int (nI 0), .null, .null], [], m)) rfl ?_
  refine dx_for (fun (y : Nat) (u : Int64) => ((5, [.ref 1, .int t, .long u, .null, .int (nI y), .null, .null], [], m) : dx_F)) (fun (y : Nat) (u : Int64) => nf (fun (x : Nat) (s : Int64) => stW (fun x y => trA t x y (nI W - 1) (nI H - 1)) (m.1 2) y x s) W u) (fun _ _ => True) H 0 trivial (fun y u hi hI hk => ?_) (fun _ _ _ _ => trivial) (fun hN => ?_)
  · refine dx_blk 0 (c' := (5, [.ref 1, .int t, .long u, .null, .int (nI y), .null, .null], [], m)) rfl ?_
    have hy : y < H := hi
    refine dx_blk 3 (c' := (11, [.ref 1, .int t, .long u, .null, .int (nI y), .null, .null], [.int (m.1 1 2), .int (nI y)], m)) rfl ?_
    refine dx_br (q := (m.1 1 2) ≤ (nI y)) (a := 83) (b := 14) (L := [.ref 1, .int t, .long u, .null, .int (nI y), .null, .null]) (st := []) (m := m) rfl (fun h => absurd h (by rw [show m.1 1 2 = nI H from eH]; exact nI_ge hi (by omega))) (fun _ => ?_)
    refine dx_blk 2 (c' := (17, [.ref 1, .int t, .long u, .null, .int (nI y), .int 0, .null], [], m)) rfl ?_
    refine dx_blk 0 (c' := (17, [.ref 1, .int t, .long u, .null, .int (nI y), .int (nI 0), .null], [], m)) rfl ?_
    refine dx_for (fun (x : Nat) (s : Int64) => ((17, [.ref 1, .int t, .long s, .null, .int (nI y), .int (nI x), .null], [], m) : dx_F)) (fun (x : Nat) (s : Int64) => stW (fun x y => trA t x y (nI W - 1) (nI H - 1)) (m.1 2) y x s) (fun _ _ => True) W u trivial (fun x s hi hI hk => ?_) (fun _ _ _ _ => trivial) (fun hN => ?_)
    · refine dx_blk 0 (c' := (17, [.ref 1, .int t, .long s, .null, .int (nI y), .int (nI x), .null], [], m)) rfl ?_
      refine dx_blk 3 (c' := (23, [.ref 1, .int t, .long s, .null, .int (nI y), .int (nI x), .null], [.int (m.1 1 1), .int (nI x)], m)) rfl ?_
      refine dx_br (q := (m.1 1 1) ≤ (nI x)) (a := 77) (b := 26) (L := [.ref 1, .int t, .long s, .null, .int (nI y), .int (nI x), .null]) (st := []) (m := m) rfl (fun h => absurd h (by rw [show m.1 1 1 = nI W from eW]; exact nI_ge hi (by omega))) (fun _ => ?_)
      refine dx_blk 3 (c' := (31, [.ref 1, .int t, .long s, .null, .int (nI y), .int (nI x), .null], [.int (nI y), .int (nI x), .ref 1], m)) rfl ?_
      refine dx_call (id := 2) (as := [.ref 1, .int (nI x), .int (nI y)]) (rest := []) rfl ?_
      refine sX0_weightOf (a := x) (b := y) (by omega) (by omega) _ ?_
      refine dx_blk 0 (c' := (34, [.ref 1, .int t, .long s, .null, .int (nI y), .int (nI x), .null], [.int (m.1 2 (y * 12 + x))], m)) rfl ?_
      refine dx_blk 1 (c' := (35, [.ref 1, .int t, .long s, .null, .int (nI y), .int (nI x), .null], [.int 0, .int (m.1 2 (y * 12 + x))], m)) rfl ?_
      refine dx_copy (c' := (38, [.ref 1, .int t, .long s, .null, .int (nI y), .int (nI x), .null], [.int (if (m.1 2 (y * 12 + x)) < 0 then 0 else (m.1 2 (y * 12 + x)))], m)) rfl ?_
      refine dx_blk 15 (c' := (61, [.ref 1, .int t, .long s, .null, .int (nI y), .int (nI x), .int (if (m.1 2 (y * 12 + x)) < 0 then 0 else (m.1 2 (y * 12 + x)))], [.int ((m.1 1 2) - 1), .int ((m.1 1 1) - 1), .int (nI y), .int (nI x), .int t, .int 2, .int (if (m.1 2 (y * 12 + x)) < 0 then 0 else (m.1 2 (y * 12 + x))), .long s], m)) rfl ?_
      refine dx_call (id := 80) (as := [.int t, .int (nI x), .int (nI y), .int ((m.1 1 1) - 1), .int ((m.1 1 2) - 1)]) (rest := [.int 2, .int (if (m.1 2 (y * 12 + x)) < 0 then 0 else (m.1 2 (y * 12 + x))), .long s]) rfl ?_
      refine sX3_turnedAcross t (nI x) (nI y) (m.1 1 1 - 1) (m.1 1 2 - 1) _ ?_
      rw [eW, eH]
      refine dx_blk 0 (c' := (64, [.ref 1, .int t, .long s, .null, .int (nI y), .int (nI x), .int (if (m.1 2 (y * 12 + x)) < 0 then 0 else (m.1 2 (y * 12 + x)))], [.int (trA t (nI x) (nI y) (nI W - 1) (nI H - 1)), .int 2, .int (if (m.1 2 (y * 12 + x)) < 0 then 0 else (m.1 2 (y * 12 + x))), .long s], m)) rfl ?_
      refine dx_blk 9 (c' := (17, [.ref 1, .int t, .long (s + (((if (m.1 2 (y * 12 + x)) < 0 then 0 else (m.1 2 (y * 12 + x))) * ((2 * (trA t (nI x) (nI y) (nI W - 1) (nI H - 1))) + 1)).toInt64)), .null, .int (nI y), .int ((nI x) + 1), .int (if (m.1 2 (y * 12 + x)) < 0 then 0 else (m.1 2 (y * 12 + x)))], [], m)) rfl ?_
      refine dx_fgt [.ref 1, .int t, .long (s + (((if (m.1 2 (y * 12 + x)) < 0 then 0 else (m.1 2 (y * 12 + x))) * ((2 * (trA t (nI x) (nI y) (nI W - 1) (nI H - 1))) + 1)).toInt64)), .null, .int (nI y), .int ((nI x) + 1), .null] (And.intro (Or.inr rfl) (And.intro (Or.inr rfl) (And.intro (Or.inr rfl) (And.intro (Or.inl rfl) (And.intro (Or.inr rfl) (And.intro (Or.inr rfl) (And.intro (Or.inl rfl) trivial))))))) ?_
      rw [← nI_succ]
      exact hk
    · refine dx_blk 0 (c' := (17, [.ref 1, .int t, .long (nf (fun (x : Nat) (s : Int64) => stW (fun x y => trA t x y (nI W - 1) (nI H - 1)) (m.1 2) y x s) W u), .null, .int (nI y), .int (nI W), .null], [], m)) rfl ?_
      refine dx_blk 3 (c' := (23, [.ref 1, .int t, .long (nf (fun (x : Nat) (s : Int64) => stW (fun x y => trA t x y (nI W - 1) (nI H - 1)) (m.1 2) y x s) W u), .null, .int (nI y), .int (nI W), .null], [.int (m.1 1 1), .int (nI W)], m)) rfl ?_
      refine dx_br (q := (m.1 1 1) ≤ (nI W)) (a := 77) (b := 26) (L := [.ref 1, .int t, .long (nf (fun (x : Nat) (s : Int64) => stW (fun x y => trA t x y (nI W - 1) (nI H - 1)) (m.1 2) y x s) W u), .null, .int (nI y), .int (nI W), .null]) (st := []) (m := m) rfl (fun _ => ?_) (fun h => absurd (by rw [show m.1 1 1 = nI W from eW]; exact nI_le (Nat.le_refl _) (by omega)) h)
      refine dx_blk 2 (c' := (5, [.ref 1, .int t, .long (nf (fun (x : Nat) (s : Int64) => stW (fun x y => trA t x y (nI W - 1) (nI H - 1)) (m.1 2) y x s) W u), .null, .int ((nI y) + 1), .int (nI W), .null], [], m)) rfl ?_
      refine dx_fgt [.ref 1, .int t, .long (nf (fun (x : Nat) (s : Int64) => stW (fun x y => trA t x y (nI W - 1) (nI H - 1)) (m.1 2) y x s) W u), .null, .int ((nI y) + 1), .null, .null] (And.intro (Or.inr rfl) (And.intro (Or.inr rfl) (And.intro (Or.inr rfl) (And.intro (Or.inl rfl) (And.intro (Or.inr rfl) (And.intro (Or.inl rfl) (And.intro (Or.inl rfl) trivial))))))) ?_
      rw [← nI_succ]
      exact hk
  · refine dx_blk 0 (c' := (5, [.ref 1, .int t, .long (nf (fun (y : Nat) (u : Int64) => nf (fun (x : Nat) (s : Int64) => stW (fun x y => trA t x y (nI W - 1) (nI H - 1)) (m.1 2) y x s) W u) H 0), .null, .int (nI H), .null, .null], [], m)) rfl ?_
    refine dx_blk 3 (c' := (11, [.ref 1, .int t, .long (nf (fun (y : Nat) (u : Int64) => nf (fun (x : Nat) (s : Int64) => stW (fun x y => trA t x y (nI W - 1) (nI H - 1)) (m.1 2) y x s) W u) H 0), .null, .int (nI H), .null, .null], [.int (m.1 1 2), .int (nI H)], m)) rfl ?_
    refine dx_br (q := (m.1 1 2) ≤ (nI H)) (a := 83) (b := 14) (L := [.ref 1, .int t, .long (nf (fun (y : Nat) (u : Int64) => nf (fun (x : Nat) (s : Int64) => stW (fun x y => trA t x y (nI W - 1) (nI H - 1)) (m.1 2) y x s) W u) H 0), .null, .int (nI H), .null, .null]) (st := []) (m := m) rfl (fun _ => ?_) (fun h => absurd (by rw [show m.1 1 2 = nI H from eH]; exact nI_le (Nat.le_refl _) (by omega)) h)
    refine dx_blk 1 (c' := (84, [.ref 1, .int t, .long (nf (fun (y : Nat) (u : Int64) => nf (fun (x : Nat) (s : Int64) => stW (fun x y => trA t x y (nI W - 1) (nI H - 1)) (m.1 2) y x s) W u) H 0), .null, .int (nI H), .null, .null], [.long (nf (fun (y : Nat) (u : Int64) => nf (fun (x : Nat) (s : Int64) => stW (fun x y => trA t x y (nI W - 1) (nI H - 1)) (m.1 2) y x s) W u) H 0)], m)) rfl ?_
    exact dx_ret (r := some (.long (nf (fun (y : Nat) (u : Int64) => nf (fun (x : Nat) (s : Int64) => stW (fun x y => trA t x y (nI W - 1) (nI H - 1)) (m.1 2) y x s) W u) H 0))) rfl h
set_option maxRecDepth 20000 in
theorem sX3_weightAcross {d : Nat} (m : dx_M) {W H : Nat} (hW : W ≤ 12) (hH : H ≤ 12) (eW : m.1 1 1 = nI W) (eH : m.1 1 2 = nI H) {E : Nat} (hE : E ≤ 10) (eE : m.1 0 7 = nI E) (t : Int32) {Z : Option Value → dx_M → Prop} (h : Z (some (.long (wAX m t W H E))) m) : dx_Sem dx_P lx_X (d + 3) 76 [.ref 0, .int t] m Z := by
  refine dx_sem km_X3_weightAcross rfl rfl ?_
  refine dx_blk 0 (c' := (0, [.ref 0, .int t, .null, .null, .null, .null], [], m)) rfl ?_
  refine dx_blk 3 (c' := (5, [.ref 0, .int t, .null, .null, .null, .null], [.int t, .ref 1], m)) rfl ?_
  refine dx_call (id := 8) (as := [.ref 1, .int t]) (rest := []) rfl ?_
  refine sX0_weightAcross _ hW hH eW eH t ?_
  refine dx_blk 0 (c' := (8, [.ref 0, .int t, .null, .null, .null, .null], [.long (cutW (fun x y => trA t x y (nI W - 1) (nI H - 1)) (m.1 2) W H)], m)) rfl ?_
  refine dx_blk 3 (c' := (12, [.ref 0, .int t, .long (cutW (fun x y => trA t x y (nI W - 1) (nI H - 1)) (m.1 2) W H), .null, .int 0, .null], [], m)) rfl ?_
  refine dx_blk 0 (c' := (12, [.ref 0, .int t, .long (cutW (fun x y => trA t x y (nI W - 1) (nI H - 1)) (m.1 2) W H), .null, .int (nI 0), .null], [], m)) rfl ?_
  refine dx_for (fun (i : Nat) (s : Int64) => ((12, [.ref 0, .int t, .long s, .null, .int (nI i), .null], [], m) : dx_F)) (fun (i : Nat) (s : Int64) => if thX m i = true then s + (m.1 (10 + i) 4 * (trA t (m.1 (10 + i) 2) (m.1 (10 + i) 3) (2 * nI W) (2 * nI H))).toInt64 else s) (fun _ _ => True) E (cutW (fun x y => trA t x y (nI W - 1) (nI H - 1)) (m.1 2) W H) trivial (fun i s hi hI hk => ?_) (fun _ _ _ _ => trivial) (fun hN => ?_)
  · refine dx_blk 0 (c' := (12, [.ref 0, .int t, .long s, .null, .int (nI i), .null], [], m)) rfl ?_
    refine dx_blk 3 (c' := (18, [.ref 0, .int t, .long s, .null, .int (nI i), .null], [.int (m.1 0 7), .int (nI i)], m)) rfl ?_
    refine dx_br (q := (m.1 0 7) ≤ (nI i)) (a := 86) (b := 21) (L := [.ref 0, .int t, .long s, .null, .int (nI i), .null]) (st := []) (m := m) rfl (fun h => absurd h (by rw [show m.1 0 7 = nI E from eE]; exact nI_ge hi (by omega))) (fun _ => ?_)
    refine dx_blk 3 (c' := (27, [.ref 0, .int t, .long s, .null, .int (nI i), .null], [.int (nI i), .ref 6], m)) rfl ?_
    refine dx_aadN i (q := (10 + i)) rfl rfl (Or.inl rfl) rfl (by omega) (lx_rs6 i (by omega)) ?_
    refine dx_blk 0 (c' := (28, [.ref 0, .int t, .long s, .null, .int (nI i), .null], [.ref (10 + i)], m)) rfl ?_
    refine dx_blk 2 (c' := (32, [.ref 0, .int t, .long s, .null, .int (nI i), .ref (10 + i)], [.ref (10 + i)], m)) rfl ?_
    refine dx_getS (k := (10 + i)) (v := .int (m.1 (10 + i) 0)) rfl rfl rfl rfl (lx_ld i (by omega)) rfl ?_
    refine dx_blk 0 (c' := (35, [.ref 0, .int t, .long s, .null, .int (nI i), .ref (10 + i)], [.int (m.1 (10 + i) 0)], m)) rfl ?_
    refine dx_br (q := (m.1 (10 + i) 0) = 0) (a := 80) (b := 38) (L := [.ref 0, .int t, .long s, .null, .int (nI i), .ref (10 + i)]) (st := []) (m := m) rfl (fun h35 => ?_) (fun h35 => ?_)
    · refine dx_blk 2 (c' := (12, [.ref 0, .int t, .long s, .null, .int ((nI i) + 1), .ref (10 + i)], [], m)) rfl ?_
      refine dx_fgt [.ref 0, .int t, .long s, .null, .int ((nI i) + 1), .null] (And.intro (Or.inr rfl) (And.intro (Or.inr rfl) (And.intro (Or.inr rfl) (And.intro (Or.inl rfl) (And.intro (Or.inr rfl) (And.intro (Or.inl rfl) trivial)))))) ?_
      first | (rw [if_neg (by rw [thX_f (by assumption)]; decide), nI_succ] at hk; exact hk) | (rw [if_pos (thX_t (by assumption)), nI_succ] at hk; exact hk)
    · refine dx_blk 2 (c' := (41, [.ref 0, .int t, .long s, .null, .int (nI i), .ref (10 + i)], [.ref (10 + i), .long s], m)) rfl ?_
      refine dx_getS (k := (10 + i)) (v := .int (m.1 (10 + i) 4)) rfl rfl rfl rfl (lx_ld i (by omega)) rfl ?_
      refine dx_blk 0 (c' := (44, [.ref 0, .int t, .long s, .null, .int (nI i), .ref (10 + i)], [.int (m.1 (10 + i) 4), .long s], m)) rfl ?_
      refine dx_blk 2 (c' := (47, [.ref 0, .int t, .long s, .null, .int (nI i), .ref (10 + i)], [.ref (10 + i), .int t, .int (m.1 (10 + i) 4), .long s], m)) rfl ?_
      refine dx_getS (k := (10 + i)) (v := .int (m.1 (10 + i) 2)) rfl rfl rfl rfl (lx_ld i (by omega)) rfl ?_
      refine dx_blk 0 (c' := (50, [.ref 0, .int t, .long s, .null, .int (nI i), .ref (10 + i)], [.int (m.1 (10 + i) 2), .int t, .int (m.1 (10 + i) 4), .long s], m)) rfl ?_
      refine dx_blk 1 (c' := (52, [.ref 0, .int t, .long s, .null, .int (nI i), .ref (10 + i)], [.ref (10 + i), .int (m.1 (10 + i) 2), .int t, .int (m.1 (10 + i) 4), .long s], m)) rfl ?_
      refine dx_getS (k := (10 + i)) (v := .int (m.1 (10 + i) 3)) rfl rfl rfl rfl (lx_ld i (by omega)) rfl ?_
      refine dx_blk 0 (c' := (55, [.ref 0, .int t, .long s, .null, .int (nI i), .ref (10 + i)], [.int (m.1 (10 + i) 3), .int (m.1 (10 + i) 2), .int t, .int (m.1 (10 + i) 4), .long s], m)) rfl ?_
      refine dx_blk 10 (c' := (73, [.ref 0, .int t, .long s, .null, .int (nI i), .ref (10 + i)], [.int (2 * (m.1 1 2)), .int (2 * (m.1 1 1)), .int (m.1 (10 + i) 3), .int (m.1 (10 + i) 2), .int t, .int (m.1 (10 + i) 4), .long s], m)) rfl ?_
      refine dx_call (id := 80) (as := [.int t, .int (m.1 (10 + i) 2), .int (m.1 (10 + i) 3), .int (2 * (m.1 1 1)), .int (2 * (m.1 1 2))]) (rest := [.int (m.1 (10 + i) 4), .long s]) rfl ?_
      refine sX3_turnedAcross t (m.1 (10 + i) 2) (m.1 (10 + i) 3) (2 * m.1 1 1) (2 * m.1 1 2) _ ?_
      rw [eW, eH]
      refine dx_blk 0 (c' := (76, [.ref 0, .int t, .long s, .null, .int (nI i), .ref (10 + i)], [.int (trA t (m.1 (10 + i) 2) (m.1 (10 + i) 3) (2 * nI W) (2 * nI H)), .int (m.1 (10 + i) 4), .long s], m)) rfl ?_
      refine dx_blk 6 (c' := (12, [.ref 0, .int t, .long (s + (((m.1 (10 + i) 4) * (trA t (m.1 (10 + i) 2) (m.1 (10 + i) 3) (2 * nI W) (2 * nI H))).toInt64)), .null, .int ((nI i) + 1), .ref (10 + i)], [], m)) rfl ?_
      refine dx_fgt [.ref 0, .int t, .long (s + (((m.1 (10 + i) 4) * (trA t (m.1 (10 + i) 2) (m.1 (10 + i) 3) (2 * nI W) (2 * nI H))).toInt64)), .null, .int ((nI i) + 1), .null] (And.intro (Or.inr rfl) (And.intro (Or.inr rfl) (And.intro (Or.inr rfl) (And.intro (Or.inl rfl) (And.intro (Or.inr rfl) (And.intro (Or.inl rfl) trivial)))))) ?_
      first | (rw [if_neg (by rw [thX_f (by assumption)]; decide), nI_succ] at hk; exact hk) | (rw [if_pos (thX_t (by assumption)), nI_succ] at hk; exact hk)
  · refine dx_blk 0 (c' := (12, [.ref 0, .int t, .long (nf (fun (i : Nat) (s : Int64) => if thX m i = true then s + (m.1 (10 + i) 4 * (trA t (m.1 (10 + i) 2) (m.1 (10 + i) 3) (2 * nI W) (2 * nI H))).toInt64 else s) E (cutW (fun x y => trA t x y (nI W - 1) (nI H - 1)) (m.1 2) W H)), .null, .int (nI E), .null], [], m)) rfl ?_
    refine dx_blk 3 (c' := (18, [.ref 0, .int t, .long (nf (fun (i : Nat) (s : Int64) => if thX m i = true then s + (m.1 (10 + i) 4 * (trA t (m.1 (10 + i) 2) (m.1 (10 + i) 3) (2 * nI W) (2 * nI H))).toInt64 else s) E (cutW (fun x y => trA t x y (nI W - 1) (nI H - 1)) (m.1 2) W H)), .null, .int (nI E), .null], [.int (m.1 0 7), .int (nI E)], m)) rfl ?_
    refine dx_br (q := (m.1 0 7) ≤ (nI E)) (a := 86) (b := 21) (L := [.ref 0, .int t, .long (nf (fun (i : Nat) (s : Int64) => if thX m i = true then s + (m.1 (10 + i) 4 * (trA t (m.1 (10 + i) 2) (m.1 (10 + i) 3) (2 * nI W) (2 * nI H))).toInt64 else s) E (cutW (fun x y => trA t x y (nI W - 1) (nI H - 1)) (m.1 2) W H)), .null, .int (nI E), .null]) (st := []) (m := m) rfl (fun _ => ?_) (fun h => absurd (by rw [show m.1 0 7 = nI E from eE]; exact nI_le (Nat.le_refl _) (by omega)) h)
    refine dx_blk 1 (c' := (87, [.ref 0, .int t, .long (nf (fun (i : Nat) (s : Int64) => if thX m i = true then s + (m.1 (10 + i) 4 * (trA t (m.1 (10 + i) 2) (m.1 (10 + i) 3) (2 * nI W) (2 * nI H))).toInt64 else s) E (cutW (fun x y => trA t x y (nI W - 1) (nI H - 1)) (m.1 2) W H)), .null, .int (nI E), .null], [.long (nf (fun (i : Nat) (s : Int64) => if thX m i = true then s + (m.1 (10 + i) 4 * (trA t (m.1 (10 + i) 2) (m.1 (10 + i) 3) (2 * nI W) (2 * nI H))).toInt64 else s) E (cutW (fun x y => trA t x y (nI W - 1) (nI H - 1)) (m.1 2) W H))], m)) rfl ?_
    exact dx_ret (r := some (.long (nf (fun (i : Nat) (s : Int64) => if thX m i = true then s + (m.1 (10 + i) 4 * (trA t (m.1 (10 + i) 2) (m.1 (10 + i) 3) (2 * nI W) (2 * nI H))).toInt64 else s) E (cutW (fun x y => trA t x y (nI W - 1) (nI H - 1)) (m.1 2) W H)))) rfl h
set_option maxRecDepth 20000 in
theorem sX0_weightUp {d : Nat} (m : dx_M) {W H : Nat} (hW : W ≤ 12) (hH : H ≤ 12) (eW : m.1 1 1 = nI W) (eH : m.1 1 2 = nI H) (t : Int32) {Z : Option Value → dx_M → Prop} (h : Z (some (.long (cutW (fun x y => trU t x y (nI W - 1) (nI H - 1)) (m.1 2) W H))) m) : dx_Sem dx_P lx_X (d + 2) 9 [.ref 1, .int t] m Z := by
  refine dx_sem km_X0_weightUp rfl rfl ?_
  refine dx_blk 0 (c' := (0, [.ref 1, .int t, .null, .null, .null, .null, .null], [], m)) rfl ?_
  refine dx_blk 4 (c' := (5, [.ref 1, .int t, .long 0, .null, .int 0, .null, .null], [], m)) rfl ?_
  refine dx_blk 0 (c' := (5, [.ref 1, .int t, .long 0, .null, .int (nI 0), .null, .null], [], m)) rfl ?_
  refine dx_for (fun (y : Nat) (u : Int64) => ((5, [.ref 1, .int t, .long u, .null, .int (nI y), .null, .null], [], m) : dx_F)) (fun (y : Nat) (u : Int64) => nf (fun (x : Nat) (s : Int64) => stW (fun x y => trU t x y (nI W - 1) (nI H - 1)) (m.1 2) y x s) W u) (fun _ _ => True) H 0 trivial (fun y u hi hI hk => ?_) (fun _ _ _ _ => trivial) (fun hN => ?_)
  · refine dx_blk 0 (c' := (5, [.ref 1, .int t, .long u, .null, .int (nI y), .null, .null], [], m)) rfl ?_
    have hy : y < H := hi
    refine dx_blk 3 (c' := (11, [.ref 1, .int t, .long u, .null, .int (nI y), .null, .null], [.int (m.1 1 2), .int (nI y)], m)) rfl ?_
    refine dx_br (q := (m.1 1 2) ≤ (nI y)) (a := 83) (b := 14) (L := [.ref 1, .int t, .long u, .null, .int (nI y), .null, .null]) (st := []) (m := m) rfl (fun h => absurd h (by rw [show m.1 1 2 = nI H from eH]; exact nI_ge hi (by omega))) (fun _ => ?_)
    refine dx_blk 2 (c' := (17, [.ref 1, .int t, .long u, .null, .int (nI y), .int 0, .null], [], m)) rfl ?_
    refine dx_blk 0 (c' := (17, [.ref 1, .int t, .long u, .null, .int (nI y), .int (nI 0), .null], [], m)) rfl ?_
    refine dx_for (fun (x : Nat) (s : Int64) => ((17, [.ref 1, .int t, .long s, .null, .int (nI y), .int (nI x), .null], [], m) : dx_F)) (fun (x : Nat) (s : Int64) => stW (fun x y => trU t x y (nI W - 1) (nI H - 1)) (m.1 2) y x s) (fun _ _ => True) W u trivial (fun x s hi hI hk => ?_) (fun _ _ _ _ => trivial) (fun hN => ?_)
    · refine dx_blk 0 (c' := (17, [.ref 1, .int t, .long s, .null, .int (nI y), .int (nI x), .null], [], m)) rfl ?_
      refine dx_blk 3 (c' := (23, [.ref 1, .int t, .long s, .null, .int (nI y), .int (nI x), .null], [.int (m.1 1 1), .int (nI x)], m)) rfl ?_
      refine dx_br (q := (m.1 1 1) ≤ (nI x)) (a := 77) (b := 26) (L := [.ref 1, .int t, .long s, .null, .int (nI y), .int (nI x), .null]) (st := []) (m := m) rfl (fun h => absurd h (by rw [show m.1 1 1 = nI W from eW]; exact nI_ge hi (by omega))) (fun _ => ?_)
      refine dx_blk 3 (c' := (31, [.ref 1, .int t, .long s, .null, .int (nI y), .int (nI x), .null], [.int (nI y), .int (nI x), .ref 1], m)) rfl ?_
      refine dx_call (id := 2) (as := [.ref 1, .int (nI x), .int (nI y)]) (rest := []) rfl ?_
      refine sX0_weightOf (a := x) (b := y) (by omega) (by omega) _ ?_
      refine dx_blk 0 (c' := (34, [.ref 1, .int t, .long s, .null, .int (nI y), .int (nI x), .null], [.int (m.1 2 (y * 12 + x))], m)) rfl ?_
      refine dx_blk 1 (c' := (35, [.ref 1, .int t, .long s, .null, .int (nI y), .int (nI x), .null], [.int 0, .int (m.1 2 (y * 12 + x))], m)) rfl ?_
      refine dx_copy (c' := (38, [.ref 1, .int t, .long s, .null, .int (nI y), .int (nI x), .null], [.int (if (m.1 2 (y * 12 + x)) < 0 then 0 else (m.1 2 (y * 12 + x)))], m)) rfl ?_
      refine dx_blk 15 (c' := (61, [.ref 1, .int t, .long s, .null, .int (nI y), .int (nI x), .int (if (m.1 2 (y * 12 + x)) < 0 then 0 else (m.1 2 (y * 12 + x)))], [.int ((m.1 1 2) - 1), .int ((m.1 1 1) - 1), .int (nI y), .int (nI x), .int t, .int 2, .int (if (m.1 2 (y * 12 + x)) < 0 then 0 else (m.1 2 (y * 12 + x))), .long s], m)) rfl ?_
      refine dx_call (id := 81) (as := [.int t, .int (nI x), .int (nI y), .int ((m.1 1 1) - 1), .int ((m.1 1 2) - 1)]) (rest := [.int 2, .int (if (m.1 2 (y * 12 + x)) < 0 then 0 else (m.1 2 (y * 12 + x))), .long s]) rfl ?_
      refine sX3_turnedUp t (nI x) (nI y) (m.1 1 1 - 1) (m.1 1 2 - 1) _ ?_
      rw [eW, eH]
      refine dx_blk 0 (c' := (64, [.ref 1, .int t, .long s, .null, .int (nI y), .int (nI x), .int (if (m.1 2 (y * 12 + x)) < 0 then 0 else (m.1 2 (y * 12 + x)))], [.int (trU t (nI x) (nI y) (nI W - 1) (nI H - 1)), .int 2, .int (if (m.1 2 (y * 12 + x)) < 0 then 0 else (m.1 2 (y * 12 + x))), .long s], m)) rfl ?_
      refine dx_blk 9 (c' := (17, [.ref 1, .int t, .long (s + (((if (m.1 2 (y * 12 + x)) < 0 then 0 else (m.1 2 (y * 12 + x))) * ((2 * (trU t (nI x) (nI y) (nI W - 1) (nI H - 1))) + 1)).toInt64)), .null, .int (nI y), .int ((nI x) + 1), .int (if (m.1 2 (y * 12 + x)) < 0 then 0 else (m.1 2 (y * 12 + x)))], [], m)) rfl ?_
      refine dx_fgt [.ref 1, .int t, .long (s + (((if (m.1 2 (y * 12 + x)) < 0 then 0 else (m.1 2 (y * 12 + x))) * ((2 * (trU t (nI x) (nI y) (nI W - 1) (nI H - 1))) + 1)).toInt64)), .null, .int (nI y), .int ((nI x) + 1), .null] (And.intro (Or.inr rfl) (And.intro (Or.inr rfl) (And.intro (Or.inr rfl) (And.intro (Or.inl rfl) (And.intro (Or.inr rfl) (And.intro (Or.inr rfl) (And.intro (Or.inl rfl) trivial))))))) ?_
      rw [← nI_succ]
      exact hk
    · refine dx_blk 0 (c' := (17, [.ref 1, .int t, .long (nf (fun (x : Nat) (s : Int64) => stW (fun x y => trU t x y (nI W - 1) (nI H - 1)) (m.1 2) y x s) W u), .null, .int (nI y), .int (nI W), .null], [], m)) rfl ?_
      refine dx_blk 3 (c' := (23, [.ref 1, .int t, .long (nf (fun (x : Nat) (s : Int64) => stW (fun x y => trU t x y (nI W - 1) (nI H - 1)) (m.1 2) y x s) W u), .null, .int (nI y), .int (nI W), .null], [.int (m.1 1 1), .int (nI W)], m)) rfl ?_
      refine dx_br (q := (m.1 1 1) ≤ (nI W)) (a := 77) (b := 26) (L := [.ref 1, .int t, .long (nf (fun (x : Nat) (s : Int64) => stW (fun x y => trU t x y (nI W - 1) (nI H - 1)) (m.1 2) y x s) W u), .null, .int (nI y), .int (nI W), .null]) (st := []) (m := m) rfl (fun _ => ?_) (fun h => absurd (by rw [show m.1 1 1 = nI W from eW]; exact nI_le (Nat.le_refl _) (by omega)) h)
      refine dx_blk 2 (c' := (5, [.ref 1, .int t, .long (nf (fun (x : Nat) (s : Int64) => stW (fun x y => trU t x y (nI W - 1) (nI H - 1)) (m.1 2) y x s) W u), .null, .int ((nI y) + 1), .int (nI W), .null], [], m)) rfl ?_
      refine dx_fgt [.ref 1, .int t, .long (nf (fun (x : Nat) (s : Int64) => stW (fun x y => trU t x y (nI W - 1) (nI H - 1)) (m.1 2) y x s) W u), .null, .int ((nI y) + 1), .null, .null] (And.intro (Or.inr rfl) (And.intro (Or.inr rfl) (And.intro (Or.inr rfl) (And.intro (Or.inl rfl) (And.intro (Or.inr rfl) (And.intro (Or.inl rfl) (And.intro (Or.inl rfl) trivial))))))) ?_
      rw [← nI_succ]
      exact hk
  · refine dx_blk 0 (c' := (5, [.ref 1, .int t, .long (nf (fun (y : Nat) (u : Int64) => nf (fun (x : Nat) (s : Int64) => stW (fun x y => trU t x y (nI W - 1) (nI H - 1)) (m.1 2) y x s) W u) H 0), .null, .int (nI H), .null, .null], [], m)) rfl ?_
    refine dx_blk 3 (c' := (11, [.ref 1, .int t, .long (nf (fun (y : Nat) (u : Int64) => nf (fun (x : Nat) (s : Int64) => stW (fun x y => trU t x y (nI W - 1) (nI H - 1)) (m.1 2) y x s) W u) H 0), .null, .int (nI H), .null, .null], [.int (m.1 1 2), .int (nI H)], m)) rfl ?_
    refine dx_br (q := (m.1 1 2) ≤ (nI H)) (a := 83) (b := 14) (L := [.ref 1, .int t, .long (nf (fun (y : Nat) (u : Int64) => nf (fun (x : Nat) (s : Int64) => stW (fun x y => trU t x y (nI W - 1) (nI H - 1)) (m.1 2) y x s) W u) H 0), .null, .int (nI H), .null, .null]) (st := []) (m := m) rfl (fun _ => ?_) (fun h => absurd (by rw [show m.1 1 2 = nI H from eH]; exact nI_le (Nat.le_refl _) (by omega)) h)
    refine dx_blk 1 (c' := (84, [.ref 1, .int t, .long (nf (fun (y : Nat) (u : Int64) => nf (fun (x : Nat) (s : Int64) => stW (fun x y => trU t x y (nI W - 1) (nI H - 1)) (m.1 2) y x s) W u) H 0), .null, .int (nI H), .null, .null], [.long (nf (fun (y : Nat) (u : Int64) => nf (fun (x : Nat) (s : Int64) => stW (fun x y => trU t x y (nI W - 1) (nI H - 1)) (m.1 2) y x s) W u) H 0)], m)) rfl ?_
    exact dx_ret (r := some (.long (nf (fun (y : Nat) (u : Int64) => nf (fun (x : Nat) (s : Int64) => stW (fun x y => trU t x y (nI W - 1) (nI H - 1)) (m.1 2) y x s) W u) H 0))) rfl h
set_option maxRecDepth 20000 in
theorem sX3_weightUp {d : Nat} (m : dx_M) {W H : Nat} (hW : W ≤ 12) (hH : H ≤ 12) (eW : m.1 1 1 = nI W) (eH : m.1 1 2 = nI H) {E : Nat} (hE : E ≤ 10) (eE : m.1 0 7 = nI E) (t : Int32) {Z : Option Value → dx_M → Prop} (h : Z (some (.long (wUX m t W H E))) m) : dx_Sem dx_P lx_X (d + 3) 77 [.ref 0, .int t] m Z := by
  refine dx_sem km_X3_weightUp rfl rfl ?_
  refine dx_blk 0 (c' := (0, [.ref 0, .int t, .null, .null, .null, .null], [], m)) rfl ?_
  refine dx_blk 3 (c' := (5, [.ref 0, .int t, .null, .null, .null, .null], [.int t, .ref 1], m)) rfl ?_
  refine dx_call (id := 9) (as := [.ref 1, .int t]) (rest := []) rfl ?_
  refine sX0_weightUp _ hW hH eW eH t ?_
  refine dx_blk 0 (c' := (8, [.ref 0, .int t, .null, .null, .null, .null], [.long (cutW (fun x y => trU t x y (nI W - 1) (nI H - 1)) (m.1 2) W H)], m)) rfl ?_
  refine dx_blk 3 (c' := (12, [.ref 0, .int t, .long (cutW (fun x y => trU t x y (nI W - 1) (nI H - 1)) (m.1 2) W H), .null, .int 0, .null], [], m)) rfl ?_
  refine dx_blk 0 (c' := (12, [.ref 0, .int t, .long (cutW (fun x y => trU t x y (nI W - 1) (nI H - 1)) (m.1 2) W H), .null, .int (nI 0), .null], [], m)) rfl ?_
  refine dx_for (fun (i : Nat) (s : Int64) => ((12, [.ref 0, .int t, .long s, .null, .int (nI i), .null], [], m) : dx_F)) (fun (i : Nat) (s : Int64) => if thX m i = true then s + (m.1 (10 + i) 4 * (trU t (m.1 (10 + i) 2) (m.1 (10 + i) 3) (2 * nI W) (2 * nI H) + m.1 (10 + i) 5)).toInt64 else s) (fun _ _ => True) E (cutW (fun x y => trU t x y (nI W - 1) (nI H - 1)) (m.1 2) W H) trivial (fun i s hi hI hk => ?_) (fun _ _ _ _ => trivial) (fun hN => ?_)
  · refine dx_blk 0 (c' := (12, [.ref 0, .int t, .long s, .null, .int (nI i), .null], [], m)) rfl ?_
    refine dx_blk 3 (c' := (18, [.ref 0, .int t, .long s, .null, .int (nI i), .null], [.int (m.1 0 7), .int (nI i)], m)) rfl ?_
    refine dx_br (q := (m.1 0 7) ≤ (nI i)) (a := 92) (b := 21) (L := [.ref 0, .int t, .long s, .null, .int (nI i), .null]) (st := []) (m := m) rfl (fun h => absurd h (by rw [show m.1 0 7 = nI E from eE]; exact nI_ge hi (by omega))) (fun _ => ?_)
    refine dx_blk 3 (c' := (27, [.ref 0, .int t, .long s, .null, .int (nI i), .null], [.int (nI i), .ref 6], m)) rfl ?_
    refine dx_aadN i (q := (10 + i)) rfl rfl (Or.inl rfl) rfl (by omega) (lx_rs6 i (by omega)) ?_
    refine dx_blk 0 (c' := (28, [.ref 0, .int t, .long s, .null, .int (nI i), .null], [.ref (10 + i)], m)) rfl ?_
    refine dx_blk 2 (c' := (32, [.ref 0, .int t, .long s, .null, .int (nI i), .ref (10 + i)], [.ref (10 + i)], m)) rfl ?_
    refine dx_getS (k := (10 + i)) (v := .int (m.1 (10 + i) 0)) rfl rfl rfl rfl (lx_ld i (by omega)) rfl ?_
    refine dx_blk 0 (c' := (35, [.ref 0, .int t, .long s, .null, .int (nI i), .ref (10 + i)], [.int (m.1 (10 + i) 0)], m)) rfl ?_
    refine dx_br (q := (m.1 (10 + i) 0) = 0) (a := 86) (b := 38) (L := [.ref 0, .int t, .long s, .null, .int (nI i), .ref (10 + i)]) (st := []) (m := m) rfl (fun h35 => ?_) (fun h35 => ?_)
    · refine dx_blk 2 (c' := (12, [.ref 0, .int t, .long s, .null, .int ((nI i) + 1), .ref (10 + i)], [], m)) rfl ?_
      refine dx_fgt [.ref 0, .int t, .long s, .null, .int ((nI i) + 1), .null] (And.intro (Or.inr rfl) (And.intro (Or.inr rfl) (And.intro (Or.inr rfl) (And.intro (Or.inl rfl) (And.intro (Or.inr rfl) (And.intro (Or.inl rfl) trivial)))))) ?_
      first | (rw [if_neg (by rw [thX_f (by assumption)]; decide), nI_succ] at hk; exact hk) | (rw [if_pos (thX_t (by assumption)), nI_succ] at hk; exact hk)
    · refine dx_blk 2 (c' := (41, [.ref 0, .int t, .long s, .null, .int (nI i), .ref (10 + i)], [.ref (10 + i), .long s], m)) rfl ?_
      refine dx_getS (k := (10 + i)) (v := .int (m.1 (10 + i) 4)) rfl rfl rfl rfl (lx_ld i (by omega)) rfl ?_
      refine dx_blk 0 (c' := (44, [.ref 0, .int t, .long s, .null, .int (nI i), .ref (10 + i)], [.int (m.1 (10 + i) 4), .long s], m)) rfl ?_
      refine dx_blk 2 (c' := (47, [.ref 0, .int t, .long s, .null, .int (nI i), .ref (10 + i)], [.ref (10 + i), .int t, .int (m.1 (10 + i) 4), .long s], m)) rfl ?_
      refine dx_getS (k := (10 + i)) (v := .int (m.1 (10 + i) 2)) rfl rfl rfl rfl (lx_ld i (by omega)) rfl ?_
      refine dx_blk 0 (c' := (50, [.ref 0, .int t, .long s, .null, .int (nI i), .ref (10 + i)], [.int (m.1 (10 + i) 2), .int t, .int (m.1 (10 + i) 4), .long s], m)) rfl ?_
      refine dx_blk 1 (c' := (52, [.ref 0, .int t, .long s, .null, .int (nI i), .ref (10 + i)], [.ref (10 + i), .int (m.1 (10 + i) 2), .int t, .int (m.1 (10 + i) 4), .long s], m)) rfl ?_
      refine dx_getS (k := (10 + i)) (v := .int (m.1 (10 + i) 3)) rfl rfl rfl rfl (lx_ld i (by omega)) rfl ?_
      refine dx_blk 0 (c' := (55, [.ref 0, .int t, .long s, .null, .int (nI i), .ref (10 + i)], [.int (m.1 (10 + i) 3), .int (m.1 (10 + i) 2), .int t, .int (m.1 (10 + i) 4), .long s], m)) rfl ?_
      refine dx_blk 10 (c' := (73, [.ref 0, .int t, .long s, .null, .int (nI i), .ref (10 + i)], [.int (2 * (m.1 1 2)), .int (2 * (m.1 1 1)), .int (m.1 (10 + i) 3), .int (m.1 (10 + i) 2), .int t, .int (m.1 (10 + i) 4), .long s], m)) rfl ?_
      refine dx_call (id := 81) (as := [.int t, .int (m.1 (10 + i) 2), .int (m.1 (10 + i) 3), .int (2 * (m.1 1 1)), .int (2 * (m.1 1 2))]) (rest := [.int (m.1 (10 + i) 4), .long s]) rfl ?_
      refine sX3_turnedUp t (m.1 (10 + i) 2) (m.1 (10 + i) 3) (2 * m.1 1 1) (2 * m.1 1 2) _ ?_
      rw [eW, eH]
      refine dx_blk 0 (c' := (76, [.ref 0, .int t, .long s, .null, .int (nI i), .ref (10 + i)], [.int (trU t (m.1 (10 + i) 2) (m.1 (10 + i) 3) (2 * nI W) (2 * nI H)), .int (m.1 (10 + i) 4), .long s], m)) rfl ?_
      refine dx_blk 1 (c' := (78, [.ref 0, .int t, .long s, .null, .int (nI i), .ref (10 + i)], [.ref (10 + i), .int (trU t (m.1 (10 + i) 2) (m.1 (10 + i) 3) (2 * nI W) (2 * nI H)), .int (m.1 (10 + i) 4), .long s], m)) rfl ?_
      refine dx_getS (k := (10 + i)) (v := .int (m.1 (10 + i) 5)) rfl rfl rfl rfl (lx_ld i (by omega)) rfl ?_
      refine dx_blk 0 (c' := (81, [.ref 0, .int t, .long s, .null, .int (nI i), .ref (10 + i)], [.int (m.1 (10 + i) 5), .int (trU t (m.1 (10 + i) 2) (m.1 (10 + i) 3) (2 * nI W) (2 * nI H)), .int (m.1 (10 + i) 4), .long s], m)) rfl ?_
      refine dx_blk 7 (c' := (12, [.ref 0, .int t, .long (s + (((m.1 (10 + i) 4) * ((trU t (m.1 (10 + i) 2) (m.1 (10 + i) 3) (2 * nI W) (2 * nI H)) + (m.1 (10 + i) 5))).toInt64)), .null, .int ((nI i) + 1), .ref (10 + i)], [], m)) rfl ?_
      refine dx_fgt [.ref 0, .int t, .long (s + (((m.1 (10 + i) 4) * ((trU t (m.1 (10 + i) 2) (m.1 (10 + i) 3) (2 * nI W) (2 * nI H)) + (m.1 (10 + i) 5))).toInt64)), .null, .int ((nI i) + 1), .null] (And.intro (Or.inr rfl) (And.intro (Or.inr rfl) (And.intro (Or.inr rfl) (And.intro (Or.inl rfl) (And.intro (Or.inr rfl) (And.intro (Or.inl rfl) trivial)))))) ?_
      first | (rw [if_neg (by rw [thX_f (by assumption)]; decide), nI_succ] at hk; exact hk) | (rw [if_pos (thX_t (by assumption)), nI_succ] at hk; exact hk)
  · refine dx_blk 0 (c' := (12, [.ref 0, .int t, .long (nf (fun (i : Nat) (s : Int64) => if thX m i = true then s + (m.1 (10 + i) 4 * (trU t (m.1 (10 + i) 2) (m.1 (10 + i) 3) (2 * nI W) (2 * nI H) + m.1 (10 + i) 5)).toInt64 else s) E (cutW (fun x y => trU t x y (nI W - 1) (nI H - 1)) (m.1 2) W H)), .null, .int (nI E), .null], [], m)) rfl ?_
    refine dx_blk 3 (c' := (18, [.ref 0, .int t, .long (nf (fun (i : Nat) (s : Int64) => if thX m i = true then s + (m.1 (10 + i) 4 * (trU t (m.1 (10 + i) 2) (m.1 (10 + i) 3) (2 * nI W) (2 * nI H) + m.1 (10 + i) 5)).toInt64 else s) E (cutW (fun x y => trU t x y (nI W - 1) (nI H - 1)) (m.1 2) W H)), .null, .int (nI E), .null], [.int (m.1 0 7), .int (nI E)], m)) rfl ?_
    refine dx_br (q := (m.1 0 7) ≤ (nI E)) (a := 92) (b := 21) (L := [.ref 0, .int t, .long (nf (fun (i : Nat) (s : Int64) => if thX m i = true then s + (m.1 (10 + i) 4 * (trU t (m.1 (10 + i) 2) (m.1 (10 + i) 3) (2 * nI W) (2 * nI H) + m.1 (10 + i) 5)).toInt64 else s) E (cutW (fun x y => trU t x y (nI W - 1) (nI H - 1)) (m.1 2) W H)), .null, .int (nI E), .null]) (st := []) (m := m) rfl (fun _ => ?_) (fun h => absurd (by rw [show m.1 0 7 = nI E from eE]; exact nI_le (Nat.le_refl _) (by omega)) h)
    refine dx_blk 1 (c' := (93, [.ref 0, .int t, .long (nf (fun (i : Nat) (s : Int64) => if thX m i = true then s + (m.1 (10 + i) 4 * (trU t (m.1 (10 + i) 2) (m.1 (10 + i) 3) (2 * nI W) (2 * nI H) + m.1 (10 + i) 5)).toInt64 else s) E (cutW (fun x y => trU t x y (nI W - 1) (nI H - 1)) (m.1 2) W H)), .null, .int (nI E), .null], [.long (nf (fun (i : Nat) (s : Int64) => if thX m i = true then s + (m.1 (10 + i) 4 * (trU t (m.1 (10 + i) 2) (m.1 (10 + i) 3) (2 * nI W) (2 * nI H) + m.1 (10 + i) 5)).toInt64 else s) E (cutW (fun x y => trU t x y (nI W - 1) (nI H - 1)) (m.1 2) W H))], m)) rfl ?_
    exact dx_ret (r := some (.long (nf (fun (i : Nat) (s : Int64) => if thX m i = true then s + (m.1 (10 + i) 4 * (trU t (m.1 (10 + i) 2) (m.1 (10 + i) 3) (2 * nI W) (2 * nI H) + m.1 (10 + i) 5)).toInt64 else s) E (cutW (fun x y => trU t x y (nI W - 1) (nI H - 1)) (m.1 2) W H)))) rfl h
end
section
/-! the greatest common divisor, tell, compare (printed by wip/whole/g30.py) -/
def eu : Nat → Int64 → Int64 → Int64
  | 0, a, _ => a
  | n + 1, a, b => if b = 0 then a else eu n b (a - a / b * b)
def euT : Nat → Int64 → Int64 → Prop
  | 0, _, b => b = 0
  | n + 1, a, b => b = 0 ∨ euT n b (a - a / b * b)
theorem eu_0 (n : Nat) (a : Int64) : eu n a 0 = a := by cases n <;> rfl
theorem eu_s {n : Nat} {a b : Int64} (h : ¬ b = 0) : eu (n + 1) a b = eu n b (a - a / b * b) := if_neg h
theorem lZ_div {u : Int} {g : Nat} (h1 : -9223372036854775807 ≤ u) (h2 : u ≤ 9223372036854775807) (hg : g < 9223372036854775808) : lZ u / lZ g = lZ (u.tdiv g) := by
  have hb : (u.tdiv g).natAbs ≤ u.natAbs := by rw [Int.natAbs_tdiv]; exact Nat.div_le_self _ _
  refine Int64.toInt_inj.mp ?_
  rw [Int64.toInt_div, lZ_to (by omega) (by omega), lZ_to (by omega) (by omega), lZ_to (by omega) (by omega)]
  exact fb_bmodL (by omega) (by omega)
theorem lZ_rem {A B : Nat} (hA : A < 9223372036854775808) (hB : B < 9223372036854775808) : lZ A - lZ A / lZ B * lZ B = lZ (A % B : Nat) := by
  rw [lZ_div (by omega) (by omega) hB, lZ_mul, lZ_sub]
  congr 1
  rw [show ((A : Int).tdiv B) = ((A / B : Nat) : Int) from rfl]
  have h := Nat.div_add_mod A B
  have h2 : (A / B) * B = B * (A / B) := Nat.mul_comm _ _
  have h3 : ((A / B : Nat) : Int) * (B : Int) = ((A / B * B : Nat) : Int) := (Int.natCast_mul _ _).symm
  rw [h3, h2]
  omega
theorem lZ_n0 {B : Nat} (hB : B < 9223372036854775808) (h : B ≠ 0) : ¬ lZ B = 0 := fun e => by
  have := (lZ_inj (a := (B : Int)) (b := 0) (by omega) (by omega) (by decide) (by decide)).mp e
  omega
theorem eu_ok : ∀ (j A B k : Nat), B < 2 ^ j → 2 * j + 1 ≤ k → A < 9223372036854775808 → B < 9223372036854775808 → euT k (lZ A) (lZ B) ∧ eu k (lZ A) (lZ B) = lZ (Nat.gcd A B)
  | 0, A, B, k, hB, hk, hA, _ => by
    have e : B = 0 := by have : (2 : Nat) ^ 0 = 1 := rfl; omega
    subst e
    obtain ⟨k, rfl⟩ : ∃ n, k = n + 1 := ⟨k - 1, by omega⟩
    rw [Nat.gcd_zero_right]
    exact ⟨Or.inl rfl, eu_0 _ _⟩
  | j + 1, A, B, k, hB, hk, hA, hB2 => by
    obtain ⟨k, rfl⟩ : ∃ n, k = n + 2 := ⟨k - 2, by omega⟩
    by_cases h0 : B = 0
    · subst h0
      rw [Nat.gcd_zero_right]
      exact ⟨Or.inl rfl, eu_0 _ _⟩
    · have hr : A % B < B := Nat.mod_lt _ (by omega)
      rw [eu_s (lZ_n0 hB2 h0), lZ_rem hA hB2]
      have g1 : Nat.gcd A B = Nat.gcd B (A % B) := by rw [Nat.gcd_comm A B, Nat.gcd_rec B A, Nat.gcd_comm]
      rw [g1]
      suffices hs : euT (k + 1) (lZ B) (lZ (A % B : Nat)) ∧ eu (k + 1) (lZ B) (lZ (A % B : Nat)) = lZ (Nat.gcd B (A % B)) from
        ⟨Or.inr (by rw [lZ_rem hA hB2]; exact hs.1), hs.2⟩
      generalize A % B = R at hr
      by_cases h1 : R = 0
      · subst h1
        rw [Nat.gcd_zero_right]
        exact ⟨Or.inl rfl, eu_0 _ _⟩
      · have hr2 : B % R < R := Nat.mod_lt _ (by omega)
        have hr3 : B % R < 2 ^ j := by
          have e := Nat.div_add_mod B R
          have e2 : 1 ≤ B / R := Nat.div_pos (by omega) (by omega)
          have e3 : R * 1 ≤ R * (B / R) := Nat.mul_le_mul_left R e2
          have e4 : 2 ^ (j + 1) = 2 ^ j * 2 := Nat.pow_succ 2 j
          omega
        rw [eu_s (lZ_n0 (by omega) h1), lZ_rem (by omega) (by omega)]
        have g2 : Nat.gcd B R = Nat.gcd R (B % R) := by rw [Nat.gcd_comm B R, Nat.gcd_rec R B, Nat.gcd_comm]
        rw [g2]
        have ih := eu_ok j R (B % R) k hr3 (by omega) (by omega) (by omega)
        exact ⟨Or.inr (by rw [lZ_rem (by omega) (by omega)]; exact ih.1), ih.2⟩
def gN (u l : Int) : Nat := Nat.gcd u.natAbs l.natAbs
def tU (u l : Int) : Int64 := lZ (u.tdiv (gN u l))
def tL (u l : Int) : Int64 := lZ (l.tdiv (gN u l))
theorem gN_pos {u l : Int} (h : 0 < l) : 0 < gN u l := Nat.gcd_pos_of_pos_right _ (by omega)
theorem gN_le {u l : Int} (h : 0 < l) : (gN u l : Int) ≤ l := by
  have := Nat.gcd_le_right u.natAbs (show 0 < l.natAbs by omega)
  unfold gN
  omega
/-- numbers that may be told -/
def tlP (u l : Int) : Prop := -9223372036854775807 ≤ u ∧ u ≤ 9223372036854775807 ∧ 0 < l ∧ l < 562949953421312
theorem eu_gN {u l : Int} (h : tlP u l) : euT 100 (lZ u.natAbs) (lZ l) ∧ eu 100 (lZ u.natAbs) (lZ l) = lZ (gN u l) := by
  obtain ⟨h1, h2, h3, h4⟩ := h
  have e : l = (l.natAbs : Int) := by omega
  have h := eu_ok 49 u.natAbs l.natAbs 100 (by rw [show (2 : Nat) ^ 49 = 562949953421312 from rfl]; omega) (by decide) (by omega) (by omega)
  rw [← e] at h
  exact h
theorem abs_X {u : Int} (h1 : -9223372036854775807 ≤ u) (h2 : u ≤ 9223372036854775807) : (if 0 < lZ u then lZ u else -(lZ u)) = lZ u.natAbs := by
  have e : (0 < lZ u) ↔ 0 < u := lZ_lt (a := 0) (b := u) (by decide) (by decide) (by omega) (by omega)
  by_cases h : 0 < u
  · rw [if_pos (e.mpr h)]
    congr 1
    omega
  · rw [if_neg (fun z => h (e.mp z)), lZ_neg]
    congr 1
    omega
def cmL (a b : Int64) : Int32 := if a < b then -1 else if a = b then 0 else 1
set_option maxRecDepth 20000 in
theorem sJ13_compare {lay : List dx_Cell} {d : Nat} (a b : Int64) (m : dx_M) {Z : Option Value → dx_M → Prop} (h : Z (some (.int (cmL a b))) m) : dx_Sem dx_P lay (d + 1) 144 [.long a, .long b] m Z := by
  refine dx_sem km_J13_compare_74951 rfl rfl ?_
  refine dx_blk 0 (c' := (0, [.long a, .null, .long b, .null], [], m)) rfl ?_
  refine dx_blk 3 (c' := (3, [.long a, .null, .long b, .null], [.int (lg_cmp a b)], m)) rfl ?_
  refine dx_brQ (q := 0 ≤ (lg_cmp a b)) (a := 10) (b := 6) (L := [.long a, .null, .long b, .null]) (st := []) (m := m) (lc_ge _ _) rfl (fun h3 => ?_) (fun h3 => ?_)
  · refine dx_blk 3 (c' := (13, [.long a, .null, .long b, .null], [.int (lg_cmp a b)], m)) rfl ?_
    refine dx_brQ (q := (lg_cmp a b) = 0) (a := 16) (b := 20) (L := [.long a, .null, .long b, .null]) (st := []) (m := m) (lc_eq _ _) rfl (fun h13 => ?_) (fun h13 => ?_)
    · refine dx_blk 2 (c' := (21, [.long a, .null, .long b, .null], [.int 0], m)) rfl ?_
      exact dx_ret (r := some (.int 0)) rfl (by
    have e : cmL a b = 0 := by unfold cmL; rw [if_neg (by rw [fa_lt64]; rw [fa_le64] at h3; omega), if_pos h13]
    rw [e] at h; exact h)
    · refine dx_blk 1 (c' := (21, [.long a, .null, .long b, .null], [.int 1], m)) rfl ?_
      exact dx_ret (r := some (.int 1)) rfl (by
    have e : cmL a b = 1 := by unfold cmL; rw [if_neg (by rw [fa_lt64]; rw [fa_le64] at h3; omega), if_neg h13]
    rw [e] at h; exact h)
  · refine dx_blk 2 (c' := (21, [.long a, .null, .long b, .null], [.int (-1)], m)) rfl ?_
    exact dx_ret (r := some (.int (-1))) rfl (by
    have e : cmL a b = -1 := by unfold cmL; rw [if_pos (by rw [fa_lt64]; rw [fa_le64] at h3; omega)]
    rw [e] at h; exact h)
set_option maxRecDepth 20000 in
theorem lp_comm {lay : List dx_Cell} {d : Nat} {Z : Option Value → dx_M → Prop} (m : dx_M) (a0 b0 : Int64) : ∀ (k n : Nat) (a b : Int64), n + k = 100 → Z (some (.long (eu k a b))) m → dx_Go d (dx_Sem dx_P lay d) lay km_X3_commonDivisor Z (9, [.long a0, .null, .long b0, .null, .long a, .null, .long b, .null, .int (nI n), .null, .null], [], m) := by
  intro k
  induction k with
  | zero =>
    intro n a b hn h
    obtain rfl : n = 100 := by omega
    refine dx_blk 0 (c' := (9, [.long a0, .null, .long b0, .null, .long a, .null, .long b, .null, .int (nI 100), .null, .null], [], m)) rfl ?_
    refine dx_blk 2 (c' := (13, [.long a0, .null, .long b0, .null, .long a, .null, .long b, .null, .int (nI 100), .null, .null], [.int 100, .int (nI 100)], m)) rfl ?_
    refine dx_br (q := 100 ≤ (nI 100)) (a := 44) (b := 16) (L := [.long a0, .null, .long b0, .null, .long a, .null, .long b, .null, .int (nI 100), .null, .null]) (st := []) (m := m) rfl (fun _ => ?_) (fun h => absurd (by decide) h)
    refine dx_blk 1 (c' := (46, [.long a0, .null, .long b0, .null, .long a, .null, .long b, .null, .int (nI 100), .null, .null], [.long a], m)) rfl ?_
    exact dx_ret (r := some (.long a)) rfl h
  | succ k ih =>
    intro n a b hn h
    refine dx_blk 0 (c' := (9, [.long a0, .null, .long b0, .null, .long a, .null, .long b, .null, .int (nI n), .null, .null], [], m)) rfl ?_
    refine dx_blk 2 (c' := (13, [.long a0, .null, .long b0, .null, .long a, .null, .long b, .null, .int (nI n), .null, .null], [.int 100, .int (nI n)], m)) rfl ?_
    refine dx_br (q := 100 ≤ (nI n)) (a := 44) (b := 16) (L := [.long a0, .null, .long b0, .null, .long a, .null, .long b, .null, .int (nI n), .null, .null]) (st := []) (m := m) rfl (fun h => absurd h (nI_ge (a := n) (b := 100) (by omega) (by decide))) (fun _ => ?_)
    refine dx_blk 3 (c' := (20, [.long a0, .null, .long b0, .null, .long a, .null, .long b, .null, .int (nI n), .null, .null], [.int (lg_cmp b 0)], m)) rfl ?_
    refine dx_brQ (q := (lg_cmp b 0) = 0) (a := 44) (b := 23) (L := [.long a0, .null, .long b0, .null, .long a, .null, .long b, .null, .int (nI n), .null, .null]) (st := []) (m := m) (lc_eq _ _) rfl (fun h20 => ?_) (fun h20 => ?_)
    · refine dx_blk 1 (c' := (46, [.long a0, .null, .long b0, .null, .long a, .null, .long b, .null, .int (nI n), .null, .null], [.long a], m)) rfl ?_
      exact dx_ret (r := some (.long a)) rfl (by rw [h20, eu_0] at h; exact h)
    · refine dx_blk 2 (c' := (27, [.long a0, .null, .long b0, .null, .long a, .null, .long b, .null, .int (nI n), .null, .null], [.long b, .long a], m)) rfl ?_
      refine dx_step (c' := (28, [.long a0, .null, .long b0, .null, .long a, .null, .long b, .null, .int (nI n), .null, .null], [.long (a - a / b * b)], m)) (if_pos h20) ?_
      refine dx_blk 7 (c' := (9, [.long a0, .null, .long b0, .null, .long b, .null, .long (a - a / b * b), .null, .int ((nI n) + 1), .long (a - a / b * b), .null], [], m)) rfl ?_
      refine dx_fgt [.long a0, .null, .long b0, .null, .long b, .null, .long (a - a / b * b), .null, .int ((nI n) + 1), .null, .null] (And.intro (Or.inr rfl) (And.intro (Or.inl rfl) (And.intro (Or.inr rfl) (And.intro (Or.inl rfl) (And.intro (Or.inr rfl) (And.intro (Or.inl rfl) (And.intro (Or.inr rfl) (And.intro (Or.inl rfl) (And.intro (Or.inr rfl) (And.intro (Or.inl rfl) (And.intro (Or.inl rfl) trivial))))))))))) ?_
      rw [← nI_succ]
      exact ih (n + 1) _ _ (by omega) (by rw [eu_s h20] at h; exact h)
theorem sX3_commonDivisor {lay : List dx_Cell} {d : Nat} (a b : Int64) (m : dx_M) {Z : Option Value → dx_M → Prop} (h : Z (some (.long (eu 100 a b))) m) : dx_Sem dx_P lay (d + 1) 72 [.long a, .long b] m Z := by
  refine dx_sem km_X3_commonDivisor rfl rfl ?_
  refine dx_blk 6 (c' := (9, [.long a, .null, .long b, .null, .long a, .null, .long b, .null, .int 0, .null, .null], [], m)) rfl ?_
  exact lp_comm m a b 100 0 a b rfl h
set_option maxRecDepth 20000 in
theorem sX3_tell {d : Nat} (m : dx_M) {u l : Int} (ht : tlP u l) {Z : Option Value → dx_M → Prop} (h : Z (some (.int 1)) (dx_pL (dx_pL m 0 9 (tU u l)) 0 10 (tL u l))) : dx_Sem dx_P lx_X (d + 2) 71 [.ref 0, .long (lZ u), .long (lZ l)] m Z := by
  have g0 := gN_pos (u := u) ht.2.2.1
  have g1 := gN_le (u := u) ht.2.2.1
  have g2 := ht.2.2.2
  have gn : ¬ lZ (gN u l) = 0 := lZ_n0 (by omega) (by omega)
  refine dx_sem km_X3_tell rfl rfl ?_
  refine dx_blk 0 (c' := (0, [.ref 0, .long (lZ u), .null, .long (lZ l), .null, .null, .null], [], m)) rfl ?_
  refine dx_blk 1 (c' := (1, [.ref 0, .long (lZ u), .null, .long (lZ l), .null, .null, .null], [.long (lZ u)], m)) rfl ?_
  refine dx_copy (c' := (4, [.ref 0, .long (lZ u), .null, .long (lZ l), .null, .null, .null], [.long (if 0 < (lZ u) then (lZ u) else -(lZ u))], m)) rfl ?_
  refine dx_blk 1 (c' := (5, [.ref 0, .long (lZ u), .null, .long (lZ l), .null, .null, .null], [.long (lZ l), .long (if 0 < (lZ u) then (lZ u) else -(lZ u))], m)) rfl ?_
  refine dx_call (id := 72) (as := [.long (if 0 < (lZ u) then (lZ u) else -(lZ u)), .long (lZ l)]) (rest := []) rfl ?_
  refine sX3_commonDivisor _ _ _ ?_
  rw [abs_X ht.1 ht.2.1, (eu_gN ht).2]
  refine dx_blk 0 (c' := (8, [.ref 0, .long (lZ u), .null, .long (lZ l), .null, .null, .null], [.long (lZ (gN u l))], m)) rfl ?_
  refine dx_blk 4 (c' := (14, [.ref 0, .long (lZ u), .null, .long (lZ l), .null, .long (lZ (gN u l)), .null], [.int (lg_cmp (lZ (gN u l)) 0)], m)) rfl ?_
  refine dx_brQ (q := (lg_cmp (lZ (gN u l)) 0) ≤ 0) (a := 33) (b := 17) (L := [.ref 0, .long (lZ u), .null, .long (lZ l), .null, .long (lZ (gN u l)), .null]) (st := []) (m := m) (lc_le _ _) rfl (fun h => absurd h (by rw [fa_le64, lZ_to (by omega) (by omega)]; have e : (0 : Int64).toInt = 0 := rfl; omega)) (fun _ => ?_)
  refine dx_blk 3 (c' := (21, [.ref 0, .long (lZ u), .null, .long (lZ l), .null, .long (lZ (gN u l)), .null], [.long (lZ (gN u l)), .long (lZ u), .ref 0], m)) rfl ?_
  refine dx_step (c' := (22, [.ref 0, .long (lZ u), .null, .long (lZ l), .null, .long (lZ (gN u l)), .null], [.long ((lZ u) / (lZ (gN u l))), .ref 0], m)) (if_pos gn) ?_
  refine dx_blk 4 (c' := (29, [.ref 0, .long (lZ u), .null, .long (lZ l), .null, .long (lZ (gN u l)), .null], [.long (lZ (gN u l)), .long (lZ l), .ref 0], dx_pL m 0 9 ((lZ u) / (lZ (gN u l))))) rfl ?_
  refine dx_step (c' := (30, [.ref 0, .long (lZ u), .null, .long (lZ l), .null, .long (lZ (gN u l)), .null], [.long ((lZ l) / (lZ (gN u l))), .ref 0], dx_pL m 0 9 ((lZ u) / (lZ (gN u l))))) (if_pos gn) ?_
  refine dx_blk 2 (c' := (34, [.ref 0, .long (lZ u), .null, .long (lZ l), .null, .long (lZ (gN u l)), .null], [.int 1], dx_pL (dx_pL m 0 9 ((lZ u) / (lZ (gN u l)))) 0 10 ((lZ l) / (lZ (gN u l))))) rfl ?_
  exact dx_ret (r := some (.int 1)) rfl (by rw [lZ_div ht.1 ht.2.1 (by omega), lZ_div (u := l) (by omega) (by omega) (by omega)]; exact h)
set_option maxRecDepth 20000 in
theorem lp_gcd {lay : List dx_Cell} {d : Nat} {Z : Option Value → dx_M → Prop} (m : dx_M) (a0 b0 : Int64) : ∀ (k : Nat) (a b : Int64), euT k a b → Z (some (.long (eu k a b))) m → dx_Go d (dx_Sem dx_P lay d) lay km_X4_gcd Z (17, [.long a0, .null, .long b0, .null, .long a, .null, .long b, .null, .null, .null], [], m) := by
  intro k
  induction k with
  | zero =>
    intro a b ht h
    obtain rfl : b = 0 := ht
    refine dx_blk 0 (c' := (17, [.long a0, .null, .long b0, .null, .long a, .null, .long 0, .null, .null, .null], [], m)) rfl ?_
    refine dx_blk 3 (c' := (21, [.long a0, .null, .long b0, .null, .long a, .null, .long 0, .null, .null, .null], [.int (lg_cmp 0 0)], m)) rfl ?_
    refine dx_brQ (q := (lg_cmp 0 0) = 0) (a := 42) (b := 24) (L := [.long a0, .null, .long b0, .null, .long a, .null, .long 0, .null, .null, .null]) (st := []) (m := m) (lc_eq _ _) rfl (fun _ => ?_) (fun h => absurd rfl h)
    refine dx_blk 1 (c' := (44, [.long a0, .null, .long b0, .null, .long a, .null, .long 0, .null, .null, .null], [.long a], m)) rfl ?_
    exact dx_ret (r := some (.long a)) rfl h
  | succ k ih =>
    intro a b ht h
    refine dx_blk 0 (c' := (17, [.long a0, .null, .long b0, .null, .long a, .null, .long b, .null, .null, .null], [], m)) rfl ?_
    refine dx_blk 3 (c' := (21, [.long a0, .null, .long b0, .null, .long a, .null, .long b, .null, .null, .null], [.int (lg_cmp b 0)], m)) rfl ?_
    refine dx_brQ (q := (lg_cmp b 0) = 0) (a := 42) (b := 24) (L := [.long a0, .null, .long b0, .null, .long a, .null, .long b, .null, .null, .null]) (st := []) (m := m) (lc_eq _ _) rfl (fun h21 => ?_) (fun h21 => ?_)
    · refine dx_blk 1 (c' := (44, [.long a0, .null, .long b0, .null, .long a, .null, .long b, .null, .null, .null], [.long a], m)) rfl ?_
      exact dx_ret (r := some (.long a)) rfl (by rw [h21, eu_0] at h; exact h)
    · refine dx_blk 2 (c' := (28, [.long a0, .null, .long b0, .null, .long a, .null, .long b, .null, .null, .null], [.long b, .long a], m)) rfl ?_
      refine dx_step (c' := (29, [.long a0, .null, .long b0, .null, .long a, .null, .long b, .null, .null, .null], [.long (a - a / b * b)], m)) (if_pos h21) ?_
      refine dx_blk 6 (c' := (17, [.long a0, .null, .long b0, .null, .long b, .null, .long (a - a / b * b), .null, .long (a - a / b * b), .null], [], m)) rfl ?_
      refine dx_fgt [.long a0, .null, .long b0, .null, .long b, .null, .long (a - a / b * b), .null, .null, .null] (And.intro (Or.inr rfl) (And.intro (Or.inl rfl) (And.intro (Or.inr rfl) (And.intro (Or.inl rfl) (And.intro (Or.inr rfl) (And.intro (Or.inl rfl) (And.intro (Or.inr rfl) (And.intro (Or.inl rfl) (And.intro (Or.inl rfl) (And.intro (Or.inl rfl) trivial)))))))))) ?_
      exact ih _ _ (ht.resolve_left h21) (by rw [eu_s h21] at h; exact h)
set_option maxRecDepth 20000 in
theorem sX4_gcd {lay : List dx_Cell} {d : Nat} {u l : Int} (ht : tlP u l) (m : dx_M) {Z : Option Value → dx_M → Prop} (h : Z (some (.long (lZ (gN u l)))) m) : dx_Sem dx_P lay (d + 1) 86 [.long (lZ u), .long (lZ l)] m Z := by
  refine dx_sem km_X4_gcd rfl rfl ?_
  refine dx_blk 0 (c' := (0, [.long (lZ u), .null, .long (lZ l), .null, .null, .null, .null, .null, .null, .null], [], m)) rfl ?_
  refine dx_blk 3 (c' := (3, [.long (lZ u), .null, .long (lZ l), .null, .null, .null, .null, .null, .null, .null], [.int (lg_cmp (lZ u) 0)], m)) rfl ?_
  refine dx_brQ (q := 0 ≤ (lg_cmp (lZ u) 0)) (a := 11) (b := 6) (L := [.long (lZ u), .null, .long (lZ l), .null, .null, .null, .null, .null, .null, .null]) (st := []) (m := m) (lc_ge _ _) rfl (fun h3 => ?_) (fun h3 => ?_)
  · refine dx_blk 4 (c' := (17, [.long (lZ u), .null, .long (lZ l), .null, .long (lZ u), .null, .long (lZ l), .null, .null, .null], [], m)) rfl ?_
    rw [show lZ u = lZ u.natAbs from ?_]
    · exact lp_gcd m _ _ 100 _ _ (eu_gN ht).1 (by rw [(eu_gN ht).2]; exact h)
    · rw [← abs_X ht.1 ht.2.1]
      rw [fa_le64] at h3
      have e : (0 : Int64).toInt = 0 := rfl
      have e2 := lZ_to (z := u) (by have := ht.1; omega) (by have := ht.2.1; omega)
      first | rw [if_pos (by rw [fa_lt64]; omega)] | (by_cases q : 0 < lZ u <;> first | rw [if_pos q] | (rw [if_neg q]; rw [fa_lt64] at q; first | omega | (have u0 : u = 0 := by omega); subst u0; rfl)) | rw [if_neg (by rw [fa_lt64]; omega)]
  · refine dx_blk 6 (c' := (17, [.long (lZ u), .null, .long (lZ l), .null, .long (-(lZ u)), .null, .long (lZ l), .null, .null, .null], [], m)) rfl ?_
    rw [show -(lZ u) = lZ u.natAbs from ?_]
    · exact lp_gcd m _ _ 100 _ _ (eu_gN ht).1 (by rw [(eu_gN ht).2]; exact h)
    · rw [← abs_X ht.1 ht.2.1]
      rw [fa_le64] at h3
      have e : (0 : Int64).toInt = 0 := rfl
      have e2 := lZ_to (z := u) (by have := ht.1; omega) (by have := ht.2.1; omega)
      first | rw [if_pos (by rw [fa_lt64]; omega)] | (by_cases q : 0 < lZ u <;> first | rw [if_pos q] | (rw [if_neg q]; rw [fa_lt64] at q; first | omega | (have u0 : u = 0 := by omega); subst u0; rfl)) | rw [if_neg (by rw [fa_lt64]; omega)]
set_option maxRecDepth 20000 in
theorem sX4_tells {d : Nat} (m : dx_M) {u l : Int} (ht : tlP u l) {Z : Option Value → dx_M → Prop} (h : Z (some (.int 1)) (dx_pL (dx_pL m 0 2 (tU u l)) 0 3 (tL u l))) : dx_Sem dx_P lx_M (d + 2) 87 [.ref 0, .long (lZ u), .long (lZ l)] m Z := by
  have g0 := gN_pos (u := u) ht.2.2.1
  have g1 := gN_le (u := u) ht.2.2.1
  have g2 := ht.2.2.2
  have gn : ¬ lZ (gN u l) = 0 := lZ_n0 (by omega) (by omega)
  refine dx_sem km_X4_tells rfl rfl ?_
  refine dx_blk 0 (c' := (0, [.ref 0, .long (lZ u), .null, .long (lZ l), .null, .null, .null], [], m)) rfl ?_
  refine dx_blk 2 (c' := (2, [.ref 0, .long (lZ u), .null, .long (lZ l), .null, .null, .null], [.long (lZ l), .long (lZ u)], m)) rfl ?_
  refine dx_call (id := 86) (as := [.long (lZ u), .long (lZ l)]) (rest := []) rfl ?_
  refine sX4_gcd ht _ ?_
  refine dx_blk 0 (c' := (5, [.ref 0, .long (lZ u), .null, .long (lZ l), .null, .null, .null], [.long (lZ (gN u l))], m)) rfl ?_
  refine dx_blk 4 (c' := (11, [.ref 0, .long (lZ u), .null, .long (lZ l), .null, .long (lZ (gN u l)), .null], [.long (lZ (gN u l)), .long (lZ u), .ref 0], m)) rfl ?_
  refine dx_step (c' := (12, [.ref 0, .long (lZ u), .null, .long (lZ l), .null, .long (lZ (gN u l)), .null], [.long ((lZ u) / (lZ (gN u l))), .ref 0], m)) (if_pos gn) ?_
  refine dx_blk 4 (c' := (19, [.ref 0, .long (lZ u), .null, .long (lZ l), .null, .long (lZ (gN u l)), .null], [.long (lZ (gN u l)), .long (lZ l), .ref 0], dx_pL m 0 2 ((lZ u) / (lZ (gN u l))))) rfl ?_
  refine dx_step (c' := (20, [.ref 0, .long (lZ u), .null, .long (lZ l), .null, .long (lZ (gN u l)), .null], [.long ((lZ l) / (lZ (gN u l))), .ref 0], dx_pL m 0 2 ((lZ u) / (lZ (gN u l))))) (if_pos gn) ?_
  refine dx_blk 2 (c' := (24, [.ref 0, .long (lZ u), .null, .long (lZ l), .null, .long (lZ (gN u l)), .null], [.int 1], dx_pL (dx_pL m 0 2 ((lZ u) / (lZ (gN u l)))) 0 3 ((lZ l) / (lZ (gN u l))))) rfl ?_
  exact dx_ret (r := some (.int 1)) rfl (by rw [lZ_div ht.1 ht.2.1 (by omega), lZ_div (u := l) (by omega) (by omega) (by omega)]; exact h)
end
section
/-! how it lies: what both programs find (printed by wip/whole/g31.py) -/
theorem fB_rm (op : Nat → Nat → Bool) (w r : Nat) : fB op w (r + 1) ≤ rmN op w r := by
  have h : fB op w (r + 1) ≤ fb_sm (fun y => fb_ct (fun x => !wetB op w r y x) w) (r + 1) := by
    unfold fB
    refine fb_sm_le (fun y _ => fb_ct_sub (fun x _ h => ?_))
    cases e : wetB op w r y x with
    | false => rfl
    | true => rw [wet_mono (Nat.le_succ r) e] at h; exact h
  rw [fb_sm_succ] at h
  exact h
noncomputable def pN (op : Nat → Nat → Bool) (w r D Wt : Nat) : Int := (Wt : Int) - (fB op w r * D : Nat)
noncomputable def qN (op : Nat → Nat → Bool) (w r D : Nat) : Int := (fA op w r * D : Nat)
def rfP (op : Nat → Nat → Bool) (w h D Wt r : Nat) : Prop := r < h ∧ Wt ≤ rmN op w r * D ∧ ∀ r', r' < r → ¬ Wt ≤ rmN op w r' * D
theorem fl_pos {op : Nat → Nat → Bool} {w h D Wt r : Nat} (h0 : 0 < Wt) (hr : rfP op w h D Wt r) : fB op w r * D < Wt := by
  obtain ⟨-, -, h3⟩ := hr
  cases r with
  | zero =>
    have e : fB op w 0 = 0 := rfl
    rw [e, Nat.zero_mul]
    exact h0
  | succ r =>
    have h4 := h3 r (Nat.lt_succ_self r)
    have h5 : fB op w (r + 1) * D ≤ rmN op w r * D := Nat.mul_le_mul_right D (fB_rm op w r)
    omega
/-- the draft's part -/
theorem pq_ok {op : Nat → Nat → Bool} {w h D Wt r : Nat} (hw : w ≤ 12) (hD : D ≤ 20) (h0 : 0 < Wt) (hr : rfP op w h D Wt r) : 0 < pN op w r D Wt ∧ pN op w r D Wt ≤ qN op w r D ∧ qN op w r D ≤ 240 := by
  have h1 := fl_pos h0 hr
  have h2 := hr.2.1
  have h3 : fA op w r * D ≤ 12 * 20 := Nat.mul_le_mul (fA_le op r hw) hD
  unfold rmN at h2
  rw [Nat.add_mul] at h2
  unfold pN qN
  omega
noncomputable def rowO (op : Nat → Nat → Bool) (w h D Wt : Nat) : Nat := if fa_first (fun r => decide (Wt ≤ rmN op w r * D)) h < h then fa_first (fun r => decide (Wt ≤ rmN op w r * D)) h + 3 else 2
theorem rowO_2 {op : Nat → Nat → Bool} {w h D Wt : Nat} (hn : ∀ r, r < h → ¬ Wt ≤ rmN op w r * D) : rowO op w h D Wt = 2 := by
  unfold rowO
  refine if_neg (fun q => ?_)
  exact hn _ q (of_decide_eq_true (fa_first_yes (fun r => decide (Wt ≤ rmN op w r * D)) h q))
theorem rowO_r {op : Nat → Nat → Bool} {w h D Wt r : Nat} (hr : rfP op w h D Wt r) : rowO op w h D Wt = r + 3 := by
  obtain ⟨h1, h2, h3⟩ := hr
  have e : fa_first (fun r => decide (Wt ≤ rmN op w r * D)) h = r := by
    rcases Nat.lt_trichotomy (fa_first (fun r => decide (Wt ≤ rmN op w r * D)) h) r with q | q | q
    · exact absurd (of_decide_eq_true (fa_first_yes (fun r => decide (Wt ≤ rmN op w r * D)) h (by omega))) (h3 _ q)
    · exact q
    · exact absurd h2 (of_decide_eq_false (fa_first_no (fun r => decide (Wt ≤ rmN op w r * D)) h r q))
  unfold rowO
  rw [e, if_pos h1]
noncomputable def ouN (f : Nat → Int32) (W H D Wt sq : Nat) (t : Int32) : Nat := if inI t 0 3 = true then (if Wt = 0 ∨ sq = 0 then 1 else rowO (opS f t.toNatClampNeg W H) (wdN t.toNatClampNeg W H) (htN t.toNatClampNeg W H) D Wt) else 0
theorem ou_0 {f : Nat → Int32} {W H D Wt sq : Nat} {t : Int32} (h : inI t 0 3 = false) : ouN f W H D Wt sq t = 0 := if_neg (by rw [h]; decide)
theorem ou_1 {f : Nat → Int32} {W H D Wt sq : Nat} {t : Int32} (h : inI t 0 3 = true) (h2 : Wt = 0 ∨ sq = 0) : ouN f W H D Wt sq t = 1 := by
  unfold ouN
  rw [if_pos h, if_pos h2]
theorem in_03 {t : Nat} (h : t < 4) : inI (nI t) 0 3 = true := inI_t.mpr ⟨nI_le (a := 0) (by omega) (by omega), nI_le (b := 3) (by omega) (by decide)⟩
theorem ou_2 {f : Nat → Int32} {W H D Wt sq t : Nat} (ht : t < 4) (h : Wt ≠ 0) (h2 : sq ≠ 0) : ouN f W H D Wt sq (nI t) = rowO (opS f t W H) (wdN t W H) (htN t W H) D Wt := by
  unfold ouN
  rw [if_pos (in_03 ht), if_neg (by omega), nI_clamp (by omega)]
def ansO (o : Nat) : Int32 := if o = 0 then -1 else if o = 1 then -4 else if o = 2 then -5 else 1
theorem ans_1 {o : Nat} (h : ansO o = 1) : ∃ r, o = r + 3 := by
  match o, h with
  | 0, h => exact absurd h (by decide)
  | 1, h => exact absurd h (by decide)
  | 2, h => exact absurd h (by decide)
  | r + 3, _ => exact ⟨r, rfl⟩
theorem ans_r (r : Nat) : ansO (r + 3) = 1 := by
  unfold ansO
  rw [if_neg (by omega), if_neg (by omega), if_neg (by omega)]
theorem ans_n {o : Nat} (h : ¬ ansO o = 1) : o < 3 := by
  rcases Nat.lt_or_ge o 3 with q | q
  · exact q
  · obtain ⟨r, rfl⟩ := Nat.exists_eq_add_of_le q
    rw [Nat.add_comm] at h
    exact absurd (ans_r r) h
theorem ans_neg {o : Nat} : ansO o < 0 ↔ o < 3 := by
  match o with
  | 0 => decide
  | 1 => decide
  | 2 => decide
  | r + 3 => rw [ans_r]; exact ⟨fun h => absurd h (by decide), fun h => by omega⟩
theorem ans_st {o : Nat} : ansO o = -4 ↔ o = 1 := by
  match o with
  | 0 => decide
  | 1 => decide
  | 2 => decide
  | r + 3 => rw [ans_r]; exact ⟨fun h => absurd h (by decide), fun h => by omega⟩
/-- what the class knows of the log -/
def GX (m : dx_M) (f : Nat → Int32) (W H E D Wt sq : Nat) (wa wu : Nat → Int) : Prop :=
  1 ≤ W ∧ W ≤ 12 ∧ 1 ≤ H ∧ H ≤ 12 ∧ E ≤ 10 ∧ 1 ≤ D ∧ D ≤ 20 ∧ m.1 1 1 = nI W ∧ m.1 1 2 = nI H ∧ m.1 0 7 = nI E ∧ m.1 0 6 = nI D ∧ m.1 2 = f ∧ allX m E = nI Wt ∧ n_cnt f = nI sq ∧ Wt ≤ 5000 ∧ sq ≤ 144 ∧ ∀ k, k < 4 → wAX m (nI k) W H E = lZ (wa k) ∧ wUX m (nI k) W H E = lZ (wu k) ∧ (wa k).natAbs ≤ 200000 ∧ (wu k).natAbs ≤ 200000
theorem keep_all {m m' : dx_M} (hk : keepX m m') (E : Nat) : allX m' E = allX m E ∧ (∀ t W H, wAX m' t W H E = wAX m t W H E) ∧ ∀ t W H, wUX m' t W H E = wUX m t W H E := by
  have e : ∀ i, m'.1 (10 + i) = m.1 (10 + i) := fun i => hk.1 (10 + i) (by omega) (by omega) (by omega)
  have e2 : thX m' = thX m := funext fun i => by unfold thX; rw [e i]
  have e3 : m'.1 2 = m.1 2 := hk.1 2 (by decide) (by decide) (by decide)
  refine ⟨?_, fun t W H => ?_, fun t W H => ?_⟩
  · unfold allX
    rw [e2, e3, show (fun i => m'.1 (10 + i) 4) = (fun i => m.1 (10 + i) 4) from funext fun i => by rw [e i]]
  · unfold wAX
    rw [e2, e3, show (fun i => m'.1 (10 + i) 4) = (fun i => m.1 (10 + i) 4) from funext fun i => by rw [e i], show (fun i => trA t (m'.1 (10 + i) 2) (m'.1 (10 + i) 3) (2 * nI W) (2 * nI H)) = (fun i => trA t (m.1 (10 + i) 2) (m.1 (10 + i) 3) (2 * nI W) (2 * nI H)) from funext fun i => by rw [e i]]
  · unfold wUX
    rw [e2, e3, show (fun i => m'.1 (10 + i) 4) = (fun i => m.1 (10 + i) 4) from funext fun i => by rw [e i], show (fun i => trU t (m'.1 (10 + i) 2) (m'.1 (10 + i) 3) (2 * nI W) (2 * nI H) + m'.1 (10 + i) 5) = (fun i => trU t (m.1 (10 + i) 2) (m.1 (10 + i) 3) (2 * nI W) (2 * nI H) + m.1 (10 + i) 5) from funext fun i => by rw [e i]]
theorem GX_keep {m m' : dx_M} {f : Nat → Int32} {W H E D Wt sq : Nat} {wa wu : Nat → Int} (hk : keepX m m') (hg : GX m f W H E D Wt sq wa wu) : GX m' f W H E D Wt sq wa wu := by
  obtain ⟨k1, k2, k3⟩ := keep_all hk E
  obtain ⟨g1, g2, g3, g4, g5, g6, g7, g8, g9, g10, g11, g12, g13, g14, g15, g16, g17⟩ := hg
  have e0 : m'.1 0 = m.1 0 := hk.1 0 (by decide) (by decide) (by decide)
  have e1 : m'.1 1 = m.1 1 := hk.1 1 (by decide) (by decide) (by decide)
  have e3 : m'.1 2 = m.1 2 := hk.1 2 (by decide) (by decide) (by decide)
  exact ⟨g1, g2, g3, g4, g5, g6, g7, by rw [e1]; exact g8, by rw [e1]; exact g9, by rw [e0]; exact g10, by rw [e0]; exact g11, e3.trans g12, k1.trans g13, g14, g15, g16, fun k hk4 => ⟨(k2 _ _ _).trans (g17 k hk4).1, (k3 _ _ _).trans (g17 k hk4).2.1, (g17 k hk4).2.2⟩⟩
theorem sX1_turnT {d : Nat} (m : dx_M) {f : Nat → Int32} {W H : Nat} (hW1 : 1 ≤ W) (hW : W ≤ 12) (hH1 : 1 ≤ H) (hH : H ≤ 12) (eW : m.1 1 1 = nI W) (eH : m.1 1 2 = nI H) (ef : m.1 2 = f) {t : Nat} (ht : t < 4) {Z : Option Value → dx_M → Prop} (h : ∀ m', LX m' (opS f t W H) (wdN t W H) (htN t W H) 0 → keepX m m' → Z none m') : dx_Sem dx_P lx_X (d + 2) 10 [.ref 3, .ref 1, .int (nI t)] m Z := by
  subst ef
  refine sX1_turnTo m hW hH eW eH ht (h _ ⟨?_, ?_, ?_, by omega, rfl, rfl, rfl, fun y hy => ?_, fun y hy => absurd hy (by omega)⟩ ⟨fun q h3 h4 h5 => ?_, fun q _ => rfl⟩)
  · unfold wdN; by_cases q : t = 1 ∨ t = 3 <;> simp [q] <;> omega
  · unfold wdN; by_cases q : t = 1 ∨ t = 3 <;> simp [q] <;> omega
  · exact ht_le hW hH
  · exact turn_ok ht hW hH (fun v hv => fa_fill_in hv) y hy
  · simp [dx_pI, dx_pR, h3, h4, h5]
def AX (m : dx_M) (op : Nat → Nat → Bool) (w h r : Nat) (p Q : Int) : Prop := LF m op w h r ∧ m.2 3 7 = lZ p ∧ m.2 3 8 = lZ Q
set_option maxRecDepth 20000 in
theorem sX3_settle {d : Nat} (m : dx_M) {f : Nat → Int32} {W H E D Wt sq : Nat} {wa wu : Nat → Int} (hg : GX m f W H E D Wt sq wa wu) (t : Int32) {Z : Option Value → dx_M → Prop} (h1 : ∀ m', keepX m m' → (∀ r, ouN f W H D Wt sq t = r + 3 → ∃ tn, tn < 4 ∧ t = nI tn ∧ 0 < Wt ∧ rfP (opS f tn W H) (wdN tn W H) (htN tn W H) D Wt r ∧ AX m' (opS f tn W H) (wdN tn W H) (htN tn W H) r (pN (opS f tn W H) (wdN tn W H) r D Wt) (qN (opS f tn W H) (wdN tn W H) r D)) → Z (some (.int (ansO (ouN f W H D Wt sq t)))) m') : dx_Sem dx_P lx_X (d + 6) 75 [.ref 0, .int t] m Z := by
  obtain ⟨g1, g2, g3, g4, g5, g6, g7, g8, g9, g10, g11, g12, g13, g14, g15, g16, g17⟩ := id hg
  have hE := g5
  have eE := g10
  have hW := g2
  have hH := g4
  have eW := g8
  have eH := g9
  refine dx_sem km_X3_settle rfl rfl ?_
  refine dx_blk 0 (c' := (0, [.ref 0, .int t, .null], [], m)) rfl ?_
  refine dx_blk 1 (c' := (1, [.ref 0, .int t, .null], [.int t], m)) rfl ?_
  refine dx_call (id := 65) (as := [.int t]) (rest := []) rfl ?_
  refine sX3_isTurn t _ ?_
  refine dx_blk 0 (c' := (4, [.ref 0, .int t, .null], [.int (bI (inI t 0 3))], m)) rfl ?_
  refine dx_brB (B := (inI t 0 3)) (a := 7) (b := 9) (L := [.ref 0, .int t, .null]) (st := []) (m := m) rfl (fun h4 => ?_) (fun h4 => ?_)
  · refine dx_blk 1 (c' := (8, [.ref 0, .int t, .null], [.int (-1)], m)) rfl ?_
    exact dx_ret (r := some (.int (-1))) rfl (by
    have eo : ouN f W H D Wt sq t = 0 := ou_0 h4
    have hz := h1 m (keepX_rf m) (fun r' e => absurd e (by omega))
    rw [eo] at hz; exact hz)
  · obtain ⟨tn, htn, rfl⟩ := in_N (n := 3) (x := t) (M := 3) rfl h4
    refine dx_blk 1 (c' := (10, [.ref 0, .int (nI tn), .null], [.ref 0], m)) rfl ?_
    refine dx_call (id := 74) (as := [.ref 0]) (rest := []) rfl ?_
    refine sX3_wholeWeight _ hE (by first | exact eE | assumption) ?_
    rw [show allX _ E = nI Wt from g13]
    refine dx_blk 0 (c' := (13, [.ref 0, .int (nI tn), .null], [.int (nI Wt)], m)) rfl ?_
    refine dx_blk 1 (c' := (14, [.ref 0, .int (nI tn), .int (nI Wt)], [], m)) rfl ?_
    rcases Decidable.em (Wt = 0) with q1 | q1
    · refine dx_blk 0 (c' := (14, [.ref 0, .int (nI tn), .int (nI Wt)], [], m)) rfl ?_
      refine dx_blk 1 (c' := (15, [.ref 0, .int (nI tn), .int (nI Wt)], [.int (nI Wt)], m)) rfl ?_
      refine dx_br (q := (nI Wt) = 0) (a := 28) (b := 18) (L := [.ref 0, .int (nI tn), .int (nI Wt)]) (st := []) (m := m) rfl (fun _ => ?_) (fun h => absurd (by rw [q1]; rfl) h)
      refine dx_blk 1 (c' := (30, [.ref 0, .int (nI tn), .int (nI Wt)], [.int (-4)], m)) rfl ?_
      exact dx_ret (r := some (.int (-4))) rfl (by
    have eo : ouN f W H D Wt sq (nI tn) = 1 := ou_1 h4 (by omega)
    have hz := h1 m (keepX_rf m) (fun r' e => absurd e (by omega))
    rw [eo] at hz; exact hz)
    · refine dx_blk 0 (c' := (14, [.ref 0, .int (nI tn), .int (nI Wt)], [], m)) rfl ?_
      refine dx_blk 1 (c' := (15, [.ref 0, .int (nI tn), .int (nI Wt)], [.int (nI Wt)], m)) rfl ?_
      refine dx_br (q := (nI Wt) = 0) (a := 28) (b := 18) (L := [.ref 0, .int (nI tn), .int (nI Wt)]) (st := []) (m := m) rfl (fun h => absurd h (nI_ne0 (by omega) (by omega))) (fun _ => ?_)
      refine dx_blk 2 (c' := (22, [.ref 0, .int (nI tn), .int (nI Wt)], [.ref 1], m)) rfl ?_
      refine dx_call (id := 6) (as := [.ref 1]) (rest := []) rfl ?_
      refine sX0_squares _ ?_
      rw [g12, g14]
      refine dx_blk 0 (c' := (25, [.ref 0, .int (nI tn), .int (nI Wt)], [.int (nI sq)], m)) rfl ?_
      refine dx_br (q := (nI sq) = 0) (a := 28) (b := 31) (L := [.ref 0, .int (nI tn), .int (nI Wt)]) (st := []) (m := m) rfl (fun h25 => ?_) (fun h25 => ?_)
      · have q2 : sq = 0 := by
          rcases Nat.eq_zero_or_pos sq with z | z
          · exact z
          · exact absurd h25 (nI_ne0 z (by omega))
        refine dx_blk 1 (c' := (30, [.ref 0, .int (nI tn), .int (nI Wt)], [.int (-4)], m)) rfl ?_
        exact dx_ret (r := some (.int (-4))) rfl (by
    have eo : ouN f W H D Wt sq (nI tn) = 1 := ou_1 h4 (by omega)
    have hz := h1 m (keepX_rf m) (fun r' e => absurd e (by omega))
    rw [eo] at hz; exact hz)
      · have q2 : sq ≠ 0 := fun z => h25 (by rw [z]; rfl)
        refine dx_blk 5 (c' := (40, [.ref 0, .int (nI tn), .int (nI Wt)], [.int (nI tn), .ref 1, .ref 3], m)) rfl ?_
        refine dx_call (id := 10) (as := [.ref 3, .ref 1, .int (nI tn)]) (rest := []) rfl ?_
        refine sX1_turnT _ g1 g2 g3 g4 g8 g9 g12 (by omega) (fun m1 hl1 hk1 => ?_)
        refine dx_blk 0 (c' := (43, [.ref 0, .int (nI tn), .int (nI Wt)], [], m1)) rfl ?_
        refine dx_blk 5 (c' := (52, [.ref 0, .int (nI tn), .int (nI Wt)], [.int (m1.1 0 6), .int (nI Wt), .ref 3], m1)) rfl ?_
        refine dx_call (id := 16) (as := [.ref 3, .int (nI Wt), .int (m1.1 0 6)]) (rest := []) rfl ?_
        rw [show m1.1 0 6 = nI D from (GX_keep hk1 hg).2.2.2.2.2.2.2.2.2.2.1]
        refine sX1_bears (Wt := Wt) m1 (by omega) (by omega) hl1 (fun m2 hno hk2 => ?_) (fun r m2 hr hle hno hl2 e7 e8 hk2 => ?_)
        · refine dx_blk 0 (c' := (55, [.ref 0, .int (nI tn), .int (nI Wt)], [.int 0], m2)) rfl ?_
          refine dx_br (q := (0 : Int32) = 0) (a := 62) (b := 58) (L := [.ref 0, .int (nI tn), .int (nI Wt)]) (st := []) (m := m2) rfl (fun _ => ?_) (fun h => absurd (by decide) h)
          refine dx_blk 1 (c' := (64, [.ref 0, .int (nI tn), .int (nI Wt)], [.int (-5)], m2)) rfl ?_
          exact dx_ret (r := some (.int (-5))) rfl (by
    have eo : ouN f W H D Wt sq (nI tn) = 2 := by rw [ou_2 (by omega) q1 q2]; exact rowO_2 hno
    have hz := h1 m2 (keepX_tr hk1 hk2) (fun r' e => absurd e (by omega))
    rw [eo] at hz; exact hz)
        · refine dx_blk 0 (c' := (55, [.ref 0, .int (nI tn), .int (nI Wt)], [.int 1], m2)) rfl ?_
          refine dx_br (q := (1 : Int32) = 0) (a := 62) (b := 58) (L := [.ref 0, .int (nI tn), .int (nI Wt)]) (st := []) (m := m2) rfl (fun h => absurd h (by decide)) (fun _ => ?_)
          refine dx_blk 2 (c' := (64, [.ref 0, .int (nI tn), .int (nI Wt)], [.int 1], m2)) rfl ?_
          exact dx_ret (r := some (.int 1)) rfl (by
    have hrf : rfP (opS f tn W H) (wdN tn W H) (htN tn W H) D Wt r := ⟨hr, hle, hno⟩
    have eo : ouN f W H D Wt sq (nI tn) = r + 3 := by rw [ou_2 (by omega) q1 q2]; exact rowO_r hrf
    have hz := h1 m2 (keepX_tr hk1 hk2) (fun r' e => ?_)
    · rw [eo, ans_r] at hz; exact hz
    · obtain rfl : r = r' := by omega
      exact ⟨tn, by omega, rfl, by omega, hrf, ⟨hl2, by rw [e7, pk_mul, sub_I (by omega) (by have := fl_pos (Wt := Wt) (by omega) hrf; omega)]; rfl, by rw [e8, pk_mul, lZ_n (by have : fA (opS f tn W H) (wdN tn W H) r * D ≤ 12 * 20 := Nat.mul_le_mul (fA_le _ r hl1.2.1) g7; omega)]; rfl⟩⟩)
end
section
/-! the class's questions (printed by wip/whole/g32.py) -/
theorem bd_mul {a b : Int} {A B : Nat} (h1 : a.natAbs ≤ A) (h2 : b.natAbs ≤ B) : (a * b).natAbs ≤ A * B := by rw [Int.natAbs_mul]; exact Nat.mul_le_mul h1 h2
theorem bd_add {a b : Int} {A B : Nat} (h1 : a.natAbs ≤ A) (h2 : b.natAbs ≤ B) : (a + b).natAbs ≤ A + B := by omega
theorem bd_sub {a b : Int} {A B : Nat} (h1 : a.natAbs ≤ A) (h2 : b.natAbs ≤ B) : (a - b).natAbs ≤ A + B := by omega
theorem bd_n {n A : Nat} (h : n ≤ A) : (n : Int).natAbs ≤ A := by omega
theorem tl_of {u l : Int} {A B : Nat} (h : u.natAbs ≤ A) (h1 : l.natAbs ≤ B) (h0 : 0 < l) (hA : A ≤ 1152921504606846976) (hB : B ≤ 281474976710656) : tlP u l := ⟨by omega, by omega, h0, by omega⟩
theorem lZ_eqB {a b : Int} {A B : Nat} (h1 : a.natAbs ≤ A) (h2 : b.natAbs ≤ B) (hA : A ≤ 1152921504606846976) (hB : B ≤ 1152921504606846976) : lZ a = lZ b ↔ a = b := lZ_inj (by omega) (by omega) (by omega) (by omega)
theorem lZ_ltB {a b : Int} {A B : Nat} (h1 : a.natAbs ≤ A) (h2 : b.natAbs ≤ B) (hA : A ≤ 1152921504606846976) (hB : B ≤ 1152921504606846976) : lZ a < lZ b ↔ a < b := lZ_lt (by omega) (by omega) (by omega) (by omega)
theorem lZ_leB {a b : Int} {A B : Nat} (h1 : a.natAbs ≤ A) (h2 : b.natAbs ≤ B) (hA : A ≤ 1152921504606846976) (hB : B ≤ 1152921504606846976) : lZ a ≤ lZ b ↔ a ≤ b := by rw [fa_le64, lZ_to (by omega) (by omega), lZ_to (by omega) (by omega)]
noncomputable def pwX (op : Nat → Nat → Bool) (w r : Nat) (p Q : Int) : Int := sXN op w r * Q + rXN op w r * p
noncomputable def pwY (op : Nat → Nat → Bool) (w r : Nat) (p Q : Int) : Int := sYN op w r * Q * Q + fA op w r * p * ((2 * r : Nat) * Q + p)
theorem sX_le (op : Nat → Nat → Bool) {w r : Nat} (hw : w ≤ 12) (hr : r < 12) : sXN op w r ≤ 3600 := by
  have h := fb_sm_bound (f := fun y => hvS (fmB op w r y) w) (c := 300) (n := r) (fun k _ => hvS_le hw)
  unfold sXN
  omega
theorem sY_le (op : Nat → Nat → Bool) {w r : Nat} (hw : w ≤ 12) (hr : r < 12) : sYN op w r ≤ 3600 := by
  have h := fb_sm_bound (f := fun y => fb_ct (fmB op w r y) w * (2 * y + 1)) (c := 300) (n := r) (fun k hk => by
    have h1 := fb_ct_le (fmB op w r k) w
    exact Nat.le_trans (Nat.mul_le_mul (show fb_ct (fmB op w r k) w ≤ 12 by omega) (show 2 * k + 1 ≤ 25 by omega)) (by decide))
  unfold sYN
  omega
theorem rX_le (op : Nat → Nat → Bool) {w : Nat} (r : Nat) (hw : w ≤ 12) : rXN op w r ≤ 300 := hvS_le hw
theorem pwX_bd {op : Nat → Nat → Bool} {w r : Nat} {p Q : Int} (hw : w ≤ 12) (hr : r < 12) (h0 : 0 < p) (h1 : p ≤ Q) (h2 : Q ≤ 240) : (pwX op w r p Q).natAbs ≤ 3600 * 240 + 300 * 240 :=
  bd_add (bd_mul (bd_n (sX_le op hw hr)) (by omega)) (bd_mul (bd_n (rX_le op r hw)) (by omega))
theorem pwY_bd {op : Nat → Nat → Bool} {w r : Nat} {p Q : Int} (hw : w ≤ 12) (hr : r < 12) (h0 : 0 < p) (h1 : p ≤ Q) (h2 : Q ≤ 240) : (pwY op w r p Q).natAbs ≤ 3600 * 240 * 240 + 12 * 240 * (24 * 240 + 240) :=
  bd_add (bd_mul (bd_mul (bd_n (sY_le op hw hr)) (by omega)) (by omega)) (bd_mul (bd_mul (bd_n (fA_le op r hw)) (by omega)) (bd_add (bd_mul (bd_n (by omega)) (by omega)) (by omega)))
theorem bU_bd {op : Nat → Nat → Bool} {w r : Nat} (hw : w ≤ 12) : (bUZ op w r).natAbs ≤ 4 * 12 * 6000 + 3 * 300 * 300 :=
  bd_sub (bd_mul (bd_mul (by decide) (bd_n (fA_le op r hw))) (bd_n (thS_le hw))) (bd_mul (bd_mul (by decide) (bd_n (rX_le op r hw))) (bd_n (rX_le op r hw)))
theorem bL_bd {op : Nat → Nat → Bool} {w r : Nat} (hw : w ≤ 12) : 0 < bLZ op w r ∧ bLZ op w r ≤ 144 := by
  have := fA_le op r hw
  unfold bLZ
  by_cases q : fA op w r = 0
  · rw [if_pos q]; decide
  · rw [if_neg q]; omega
theorem br_bd {op : Nat → Nat → Bool} {w h r : Nat} {p Q : Int} (hw : w ≤ 12) : (brU op w h r p Q).natAbs ≤ 4 * 12 * 6000 + 3 * 300 * 300 ∧ 0 < brL op w h r p Q ∧ brL op w h r p Q ≤ 144 := by
  by_cases q : brB op w h r p Q
  · rw [(brU_t q).1, (brU_t q).2]; exact ⟨bU_bd hw, bL_bd hw⟩
  · rw [(brU_f q).1, (brU_f q).2]; exact ⟨bU_bd hw, bL_bd hw⟩
def leZ (a b : Int) : Int32 := if a = b then 0 else if a < b then 1 else 2
def hoZ (a b : Int) : Int32 := if b < a then 2 else if a = b then 1 else 0
theorem cm_ho {a b : Int} {A B : Nat} (h1 : a.natAbs ≤ A) (h2 : b.natAbs ≤ B) (hA : A ≤ 1152921504606846976) (hB : B ≤ 1152921504606846976) : (cmL (lZ a) (lZ b) ≤ 0 ↔ ¬ hoZ a b = 2) ∧ (cmL (lZ a) (lZ b) = 0 ↔ hoZ a b = 1) := by
  unfold cmL hoZ
  have e1 := lZ_ltB h1 h2 hA hB
  have e2 := lZ_eqB h1 h2 hA hB
  rcases Int.lt_trichotomy a b with q | q | q
  · rw [if_pos (e1.mpr q), if_neg (by omega), if_neg (by omega)]; decide
  · rw [if_neg (fun z => by have := e1.mp z; omega), if_pos (e2.mpr q), if_neg (by omega), if_pos q]; decide
  · rw [if_neg (fun z => by have := e1.mp z; omega), if_neg (fun z => by have := e2.mp z; omega), if_pos q]; decide
theorem hoZ_0 {a b : Int} (h : ¬ hoZ a b = 2) (h2 : ¬ hoZ a b = 1) : hoZ a b = 0 := by
  unfold hoZ at *
  by_cases q : b < a
  · rw [if_pos q] at h; exact absurd rfl h
  · rw [if_neg q] at h h2 ⊢
    by_cases q2 : a = b
    · rw [if_pos q2] at h2; exact absurd rfl h2
    · rw [if_neg q2]
noncomputable def leT (op : Nat → Nat → Bool) (w r D : Nat) (p Q wa : Int) : Int32 := leZ (wa * Q) (pwX op w r p Q * D)
noncomputable def hoA (op : Nat → Nat → Bool) (w h r D : Nat) (p Q : Int) : Int := brU op w h r p Q * 2 * D * (Q * Q)
noncomputable def hoB (op : Nat → Nat → Bool) (w h r D : Nat) (p Q wu : Int) : Int := (wu * (Q * Q) - pwY op w r p Q * D) * brL op w h r p Q
noncomputable def hoT (op : Nat → Nat → Bool) (w h r D : Nat) (p Q wa wu : Int) : Int32 := if leT op w r D p Q wa = 0 then hoZ (hoA op w h r D p Q) (hoB op w h r D p Q wu) else 0
theorem hoA_bd {op : Nat → Nat → Bool} {w h r D : Nat} {p Q : Int} (hw : w ≤ 12) (hD : D ≤ 20) (h0 : 0 < p) (h1 : p ≤ Q) (h2 : Q ≤ 240) : (hoA op w h r D p Q).natAbs ≤ (4 * 12 * 6000 + 3 * 300 * 300) * 2 * 20 * (240 * 240) :=
  bd_mul (bd_mul (bd_mul (br_bd hw).1 (by decide)) (bd_n hD)) (bd_mul (by omega) (by omega))
theorem hoB_bd {op : Nat → Nat → Bool} {w h r D : Nat} {p Q wu : Int} (hw : w ≤ 12) (hr : r < 12) (hD : D ≤ 20) (h0 : 0 < p) (h1 : p ≤ Q) (h2 : Q ≤ 240) (hu : wu.natAbs ≤ 200000) : (hoB op w h r D p Q wu).natAbs ≤ (200000 * (240 * 240) + (3600 * 240 * 240 + 12 * 240 * (24 * 240 + 240)) * 20) * 144 :=
  bd_mul (bd_sub (bd_mul hu (bd_mul (by omega) (by omega))) (bd_mul (pwY_bd hw hr h0 h1 h2) (bd_n hD))) (by have := (br_bd (op := op) (h := h) (r := r) (p := p) (Q := Q) hw).2; omega)
theorem sX3_tellE {d : Nat} (m : dx_M) {u l : Int} {a b : Int64} (ea : a = lZ u) (eb : b = lZ l) (ht : tlP u l) {Z : Option Value → dx_M → Prop} (h : Z (some (.int 1)) (dx_pL (dx_pL m 0 9 (tU u l)) 0 10 (tL u l))) : dx_Sem dx_P lx_X (d + 2) 71 [.ref 0, .long a, .long b] m Z := by
  subst ea; subst eb
  exact sX3_tell m ht h
set_option maxRecDepth 20000 in
theorem sX3_leaning {d : Nat} (m : dx_M) {f : Nat → Int32} {W H E D Wt sq : Nat} {wa wu : Nat → Int} (hg : GX m f W H E D Wt sq wa wu) {Z : Option Value → dx_M → Prop} {op : Nat → Nat → Bool} {w h r tn : Nat} {p Q : Int} (hr : r < h) (htn : tn < 4) (hA : AX m op w h r p Q) (h0 : 0 < p) (h2 : p ≤ Q) (h3 : Q ≤ 240) (h1 : Z (some (.int (leT op w r D p Q (wa tn)))) m) : dx_Sem dx_P lx_X (d + 4) 78 [.ref 0, .int (nI tn)] m Z := by
  obtain ⟨g1, g2, g3, g4, g5, g6, g7, g8, g9, g10, g11, g12, g13, g14, g15, g16, g17⟩ := id hg
  have hE := g5
  have eE := g10
  have hW := g2
  have hH := g4
  have eW := g8
  have eH := g9
  obtain ⟨a1, a2, a3, a4, a5, a6, a7, a8, a9⟩ := id hA.1.1
  obtain ⟨w1, w2, w3, w4⟩ := g17 tn htn
  have eD : (m.1 0 6).toInt64 = lZ D := by rw [g11, lZ_n (by omega)]
  refine dx_sem km_X3_leaning rfl rfl ?_
  refine dx_blk 0 (c' := (0, [.ref 0, .int (nI tn), .null, .null, .null, .null], [], m)) rfl ?_
  refine dx_blk 2 (c' := (4, [.ref 0, .int (nI tn), .null, .null, .null, .null], [.ref 3], m)) rfl ?_
  refine dx_call (id := 20) (as := [.ref 3]) (rest := []) rfl ?_
  refine sX1_momentAcross _ hA.1 hA.2.1 hA.2.2 ?_
  refine dx_blk 0 (c' := (7, [.ref 0, .int (nI tn), .null, .null, .null, .null], [.long (lZ (pwX op w r p Q))], m)) rfl ?_
  refine dx_blk 7 (c' := (16, [.ref 0, .int (nI tn), .long ((lZ (pwX op w r p Q)) * ((m.1 0 6).toInt64)), .null, .null, .null], [.int (nI tn), .ref 0], m)) rfl ?_
  refine dx_call (id := 76) (as := [.ref 0, .int (nI tn)]) (rest := []) rfl ?_
  refine sX3_weightAcross _ hW hH eW eH hE eE _ ?_
  rw [w1]
  refine dx_blk 0 (c' := (19, [.ref 0, .int (nI tn), .long ((lZ (pwX op w r p Q)) * ((m.1 0 6).toInt64)), .null, .null, .null], [.long (lZ (wa tn))], m)) rfl ?_
  refine dx_blk 5 (c' := (29, [.ref 0, .int (nI tn), .long ((lZ (pwX op w r p Q)) * ((m.1 0 6).toInt64)), .null, .long ((lZ (wa tn)) * (m.2 3 8)), .null], [], m)) rfl ?_
  rw [eD, hA.2.2, lZ_mul, lZ_mul]
  refine dx_blk 3 (c' := (33, [.ref 0, .int (nI tn), .long (lZ (pwX op w r p Q * D)), .null, .long (lZ (wa tn * Q)), .null], [.int (lg_cmp (lZ (wa tn * Q)) (lZ (pwX op w r p Q * D)))], m)) rfl ?_
  refine dx_brQ (q := (lg_cmp (lZ (wa tn * Q)) (lZ (pwX op w r p Q * D))) = 0) (a := 36) (b := 38) (L := [.ref 0, .int (nI tn), .long (lZ (pwX op w r p Q * D)), .null, .long (lZ (wa tn * Q)), .null]) (st := []) (m := m) (lc_eq _ _) rfl (fun q33 => ?_) (fun q33 => ?_)
  · refine dx_blk 1 (c' := (37, [.ref 0, .int (nI tn), .long (lZ (pwX op w r p Q * D)), .null, .long (lZ (wa tn * Q)), .null], [.int 0], m)) rfl ?_
    exact dx_ret (r := some (.int 0)) rfl (by
    rw [lZ_eqB (bd_mul w3 (show Q.natAbs ≤ 240 by omega)) (bd_mul (pwX_bd a2 (by omega) h0 h2 h3) (bd_n g7)) (by decide) (by decide)] at q33
    have e : leT op w r D p Q (wa tn) = 0 := by unfold leT leZ; rw [if_pos q33]
    rw [e] at h1; exact h1)
  · refine dx_blk 3 (c' := (42, [.ref 0, .int (nI tn), .long (lZ (pwX op w r p Q * D)), .null, .long (lZ (wa tn * Q)), .null], [.int (lg_cmp (lZ (wa tn * Q)) (lZ (pwX op w r p Q * D)))], m)) rfl ?_
    refine dx_brQ (q := 0 ≤ (lg_cmp (lZ (wa tn * Q)) (lZ (pwX op w r p Q * D)))) (a := 49) (b := 45) (L := [.ref 0, .int (nI tn), .long (lZ (pwX op w r p Q * D)), .null, .long (lZ (wa tn * Q)), .null]) (st := []) (m := m) (lc_ge _ _) rfl (fun q42 => ?_) (fun q42 => ?_)
    · refine dx_blk 1 (c' := (50, [.ref 0, .int (nI tn), .long (lZ (pwX op w r p Q * D)), .null, .long (lZ (wa tn * Q)), .null], [.int 2], m)) rfl ?_
      exact dx_ret (r := some (.int 2)) rfl (by
    rw [lZ_eqB (bd_mul w3 (show Q.natAbs ≤ 240 by omega)) (bd_mul (pwX_bd a2 (by omega) h0 h2 h3) (bd_n g7)) (by decide) (by decide)] at q33
    rw [lZ_leB (bd_mul (pwX_bd a2 (by omega) h0 h2 h3) (bd_n g7)) (bd_mul w3 (show Q.natAbs ≤ 240 by omega)) (by decide) (by decide)] at q42
    have e : leT op w r D p Q (wa tn) = 2 := by unfold leT leZ; rw [if_neg q33, if_neg (by omega)]
    rw [e] at h1; exact h1)
    · refine dx_blk 2 (c' := (50, [.ref 0, .int (nI tn), .long (lZ (pwX op w r p Q * D)), .null, .long (lZ (wa tn * Q)), .null], [.int 1], m)) rfl ?_
      exact dx_ret (r := some (.int 1)) rfl (by
    rw [lZ_eqB (bd_mul w3 (show Q.natAbs ≤ 240 by omega)) (bd_mul (pwX_bd a2 (by omega) h0 h2 h3) (bd_n g7)) (by decide) (by decide)] at q33
    rw [lZ_leB (bd_mul (pwX_bd a2 (by omega) h0 h2 h3) (bd_n g7)) (bd_mul w3 (show Q.natAbs ≤ 240 by omega)) (by decide) (by decide)] at q42
    have e : leT op w r D p Q (wa tn) = 1 := by unfold leT leZ; rw [if_neg q33, if_pos (by omega)]
    rw [e] at h1; exact h1)
set_option maxRecDepth 20000 in
theorem sX3_holding {d : Nat} (m : dx_M) {f : Nat → Int32} {W H E D Wt sq : Nat} {wa wu : Nat → Int} (hg : GX m f W H E D Wt sq wa wu) {Z : Option Value → dx_M → Prop} {op : Nat → Nat → Bool} {w h r tn : Nat} {p Q : Int} (hr : r < h) (htn : tn < 4) (hA : AX m op w h r p Q) (h0 : 0 < p) (h2 : p ≤ Q) (h3 : Q ≤ 240) (h1 : ∀ m', keepX m m' → Z (some (.int (hoT op w h r D p Q (wa tn) (wu tn)))) m') : dx_Sem dx_P lx_X (d + 6) 79 [.ref 0, .int (nI tn)] m Z := by
  obtain ⟨g1, g2, g3, g4, g5, g6, g7, g8, g9, g10, g11, g12, g13, g14, g15, g16, g17⟩ := id hg
  have hE := g5
  have eE := g10
  have hW := g2
  have hH := g4
  have eW := g8
  have eH := g9
  obtain ⟨a1, a2, a3, a4, a5, a6, a7, a8, a9⟩ := id hA.1.1
  obtain ⟨w1, w2, w3, w4⟩ := g17 tn htn
  have eD : (m.1 0 6).toInt64 = lZ D := by rw [g11, lZ_n (by omega)]
  refine dx_sem km_X3_holding rfl rfl ?_
  refine dx_blk 0 (c' := (0, [.ref 0, .int (nI tn), .null, .null, .null, .null, .null, .null, .null], [], m)) rfl ?_
  refine dx_blk 2 (c' := (2, [.ref 0, .int (nI tn), .null, .null, .null, .null, .null, .null, .null], [.int (nI tn), .ref 0], m)) rfl ?_
  refine dx_call (id := 78) (as := [.ref 0, .int (nI tn)]) (rest := []) rfl ?_
  refine sX3_leaning _ hg hr htn hA h0 h2 h3 ?_
  refine dx_blk 0 (c' := (5, [.ref 0, .int (nI tn), .null, .null, .null, .null, .null, .null, .null], [.int (leT op w r D p Q (wa tn))], m)) rfl ?_
  refine dx_br (q := (leT op w r D p Q (wa tn)) = 0) (a := 10) (b := 8) (L := [.ref 0, .int (nI tn), .null, .null, .null, .null, .null, .null, .null]) (st := []) (m := m) rfl (fun q5 => ?_) (fun q5 => ?_)
  · refine dx_blk 10 (c' := (28, [.ref 0, .int (nI tn), .long ((m.2 3 8) * (m.2 3 8)), .null, .null, .null, .null, .null, .null], [.int (nI tn), .ref 0], m)) rfl ?_
    refine dx_call (id := 77) (as := [.ref 0, .int (nI tn)]) (rest := []) rfl ?_
    refine sX3_weightUp _ hW hH eW eH hE eE _ ?_
    rw [w2]
    refine dx_blk 0 (c' := (31, [.ref 0, .int (nI tn), .long ((m.2 3 8) * (m.2 3 8)), .null, .null, .null, .null, .null, .null], [.long (lZ (wu tn))], m)) rfl ?_
    refine dx_blk 4 (c' := (37, [.ref 0, .int (nI tn), .long ((m.2 3 8) * (m.2 3 8)), .null, .null, .null, .null, .null, .null], [.ref 3, .long ((lZ (wu tn)) * ((m.2 3 8) * (m.2 3 8)))], m)) rfl ?_
    refine dx_call (id := 21) (as := [.ref 3]) (rest := [.long ((lZ (wu tn)) * ((m.2 3 8) * (m.2 3 8)))]) rfl ?_
    refine sX1_momentUp _ hA.1 hA.2.1 hA.2.2 ?_
    refine dx_blk 0 (c' := (40, [.ref 0, .int (nI tn), .long ((m.2 3 8) * (m.2 3 8)), .null, .null, .null, .null, .null, .null], [.long (lZ (pwY op w r p Q)), .long ((lZ (wu tn)) * ((m.2 3 8) * (m.2 3 8)))], m)) rfl ?_
    refine dx_blk 6 (c' := (49, [.ref 0, .int (nI tn), .long ((m.2 3 8) * (m.2 3 8)), .null, .long (((lZ (wu tn)) * ((m.2 3 8) * (m.2 3 8))) - ((lZ (pwY op w r p Q)) * ((m.1 0 6).toInt64))), .null, .null, .null, .null], [], m)) rfl ?_
    rw [eD, hA.2.2, lZ_mul, lZ_mul, lZ_mul, lZ_sub]
    refine dx_blk 2 (c' := (53, [.ref 0, .int (nI tn), .long (lZ (Q * Q)), .null, .long (lZ (wu tn * (Q * Q) - pwY op w r p Q * D)), .null, .null, .null, .null], [.ref 3], m)) rfl ?_
    refine dx_call (id := 22) (as := [.ref 3]) (rest := []) rfl ?_
    refine sX1_measureLine _ hA.1 hA.2.1 hA.2.2 (fun m2 hk2 e9 e10 => ?_)
    refine dx_blk 0 (c' := (56, [.ref 0, .int (nI tn), .long (lZ (Q * Q)), .null, .long (lZ (wu tn * (Q * Q) - pwY op w r p Q * D)), .null, .null, .null, .null], [], m2)) rfl ?_
    refine dx_blk 12 (c' := (77, [.ref 0, .int (nI tn), .long (lZ (Q * Q)), .null, .long (lZ (wu tn * (Q * Q) - pwY op w r p Q * D)), .null, .long ((((m2.2 3 9) * 2) * ((m2.1 0 6).toInt64)) * (lZ (Q * Q))), .null, .null], [], m2)) rfl ?_
    have eD2 : (m2.1 0 6).toInt64 = lZ D := by rw [(GX_keep hk2 hg).2.2.2.2.2.2.2.2.2.2.1, lZ_n (by omega)]
    rw [e9, eD2, show (2 : Int64) = lZ 2 from rfl, lZ_mul, lZ_mul, lZ_mul]
    refine dx_blk 6 (c' := (89, [.ref 0, .int (nI tn), .long (lZ (Q * Q)), .null, .long (lZ (wu tn * (Q * Q) - pwY op w r p Q * D)), .null, .long (lZ (hoA op w h r D p Q)), .null, .null], [.long ((lZ (wu tn * (Q * Q) - pwY op w r p Q * D)) * (m2.2 3 10)), .long (lZ (hoA op w h r D p Q))], m2)) rfl ?_
    refine dx_call (id := 144) (as := [.long (lZ (hoA op w h r D p Q)), .long ((lZ (wu tn * (Q * Q) - pwY op w r p Q * D)) * (m2.2 3 10))]) (rest := []) rfl ?_
    refine sJ13_compare _ _ _ ?_
    rw [e10, lZ_mul]
    refine dx_blk 0 (c' := (92, [.ref 0, .int (nI tn), .long (lZ (Q * Q)), .null, .long (lZ (wu tn * (Q * Q) - pwY op w r p Q * D)), .null, .long (lZ (hoA op w h r D p Q)), .null, .null], [.int (cmL (lZ (hoA op w h r D p Q)) (lZ (hoB op w h r D p Q (wu tn))))], m2)) rfl ?_
    refine dx_blk 2 (c' := (96, [.ref 0, .int (nI tn), .long (lZ (Q * Q)), .null, .long (lZ (wu tn * (Q * Q) - pwY op w r p Q * D)), .null, .long (lZ (hoA op w h r D p Q)), .null, .int (cmL (lZ (hoA op w h r D p Q)) (lZ (hoB op w h r D p Q (wu tn))))], [.int (cmL (lZ (hoA op w h r D p Q)) (lZ (hoB op w h r D p Q (wu tn))))], m2)) rfl ?_
    refine dx_br (q := (cmL (lZ (hoA op w h r D p Q)) (lZ (hoB op w h r D p Q (wu tn)))) ≤ 0) (a := 103) (b := 99) (L := [.ref 0, .int (nI tn), .long (lZ (Q * Q)), .null, .long (lZ (wu tn * (Q * Q) - pwY op w r p Q * D)), .null, .long (lZ (hoA op w h r D p Q)), .null, .int (cmL (lZ (hoA op w h r D p Q)) (lZ (hoB op w h r D p Q (wu tn))))]) (st := []) (m := m2) rfl (fun q96 => ?_) (fun q96 => ?_)
    · refine dx_blk 1 (c' := (105, [.ref 0, .int (nI tn), .long (lZ (Q * Q)), .null, .long (lZ (wu tn * (Q * Q) - pwY op w r p Q * D)), .null, .long (lZ (hoA op w h r D p Q)), .null, .int (cmL (lZ (hoA op w h r D p Q)) (lZ (hoB op w h r D p Q (wu tn))))], [.int (cmL (lZ (hoA op w h r D p Q)) (lZ (hoB op w h r D p Q (wu tn))))], m2)) rfl ?_
      refine dx_br (q := (cmL (lZ (hoA op w h r D p Q)) (lZ (hoB op w h r D p Q (wu tn)))) = 0) (a := 108) (b := 112) (L := [.ref 0, .int (nI tn), .long (lZ (Q * Q)), .null, .long (lZ (wu tn * (Q * Q) - pwY op w r p Q * D)), .null, .long (lZ (hoA op w h r D p Q)), .null, .int (cmL (lZ (hoA op w h r D p Q)) (lZ (hoB op w h r D p Q (wu tn))))]) (st := []) (m := m2) rfl (fun q105 => ?_) (fun q105 => ?_)
      · refine dx_blk 2 (c' := (113, [.ref 0, .int (nI tn), .long (lZ (Q * Q)), .null, .long (lZ (wu tn * (Q * Q) - pwY op w r p Q * D)), .null, .long (lZ (hoA op w h r D p Q)), .null, .int (cmL (lZ (hoA op w h r D p Q)) (lZ (hoB op w h r D p Q (wu tn))))], [.int 1], m2)) rfl ?_
        exact dx_ret (r := some (.int 1)) rfl (by
    have cm := cm_ho (hoA_bd a2 g7 h0 h2 h3) (hoB_bd a2 (by omega) g7 h0 h2 h3 w4) (by decide) (by decide)
    have e : hoT op w h r D p Q (wa tn) (wu tn) = 1 := by unfold hoT; rw [if_pos q5]; exact (cm.2.mp q105)
    have hz := h1 m2 hk2
    rw [e] at hz; exact hz)
      · refine dx_blk 1 (c' := (113, [.ref 0, .int (nI tn), .long (lZ (Q * Q)), .null, .long (lZ (wu tn * (Q * Q) - pwY op w r p Q * D)), .null, .long (lZ (hoA op w h r D p Q)), .null, .int (cmL (lZ (hoA op w h r D p Q)) (lZ (hoB op w h r D p Q (wu tn))))], [.int 0], m2)) rfl ?_
        exact dx_ret (r := some (.int 0)) rfl (by
    have cm := cm_ho (hoA_bd a2 g7 h0 h2 h3) (hoB_bd a2 (by omega) g7 h0 h2 h3 w4) (by decide) (by decide)
    have e : hoT op w h r D p Q (wa tn) (wu tn) = 0 := by unfold hoT; rw [if_pos q5]; exact (hoZ_0 (cm.1.mp q96) (fun z => q105 (cm.2.mpr z)))
    have hz := h1 m2 hk2
    rw [e] at hz; exact hz)
    · refine dx_blk 2 (c' := (113, [.ref 0, .int (nI tn), .long (lZ (Q * Q)), .null, .long (lZ (wu tn * (Q * Q) - pwY op w r p Q * D)), .null, .long (lZ (hoA op w h r D p Q)), .null, .int (cmL (lZ (hoA op w h r D p Q)) (lZ (hoB op w h r D p Q (wu tn))))], [.int 2], m2)) rfl ?_
      exact dx_ret (r := some (.int 2)) rfl (by
    have cm := cm_ho (hoA_bd a2 g7 h0 h2 h3) (hoB_bd a2 (by omega) g7 h0 h2 h3 w4) (by decide) (by decide)
    have e : hoT op w h r D p Q (wa tn) (wu tn) = 2 := by unfold hoT; rw [if_pos q5]; exact (by refine Classical.byContradiction (fun z => q96 (cm.1.mpr z)))
    have hz := h1 m2 hk2
    rw [e] at hz; exact hz)
  · refine dx_blk 1 (c' := (9, [.ref 0, .int (nI tn), .null, .null, .null, .null, .null, .null, .null], [.int 0], m)) rfl ?_
    exact dx_ret (r := some (.int 0)) rfl (by
    have e : hoT op w h r D p Q (wa tn) (wu tn) = 0 := by unfold hoT; rw [if_neg q5]
    have hz := h1 m (keepX_rf m)
    rw [e] at hz; exact hz)
end
section
theorem zz_last : True := trivial
end
