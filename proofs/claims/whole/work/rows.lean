section
-- ===== PART A: goes FIRST, ahead of the names: the tables' words, and 'selects' of the private methods out of them =====
/-- a private method of a class that the tables say can be made, by its rows of tables_1 -/
def lw_okq (q : MethodName × Nat) : Prop := (q.1.cls ≠ "java/lang/invoke/MethodHandle" ∧ q.1.cls ≠ "java/lang/invoke/VarHandle") ∧ Cond.instantiable q.1.cls q.2 ∈ tables_1 ∧ Cond.privateMethod q.1 ∈ tables_1 ∧ Cond.instanceMethod q.1 ∈ tables_1
theorem lw_p0 : lw_okq (⟨"LogsAfloat", "find", "(I)I"⟩, 11) := ⟨⟨by decide +kernel, by decide +kernel⟩, List.mem_of_getElem? (i := 11) (by decide +kernel), List.mem_of_getElem? (i := 201) (by decide +kernel), List.mem_of_getElem? (i := 202) (by decide +kernel)⟩
theorem lw_p1 : lw_okq (⟨"LogsAfloat", "reaches", "(III)Z"⟩, 11) := ⟨⟨by decide +kernel, by decide +kernel⟩, List.mem_of_getElem? (i := 11) (by decide +kernel), List.mem_of_getElem? (i := 217) (by decide +kernel), List.mem_of_getElem? (i := 218) (by decide +kernel)⟩
theorem lw_p2 : lw_okq (⟨"LogsAfloat", "isLoad", "(I)Z"⟩, 11) := ⟨⟨by decide +kernel, by decide +kernel⟩, List.mem_of_getElem? (i := 11) (by decide +kernel), List.mem_of_getElem? (i := 246) (by decide +kernel), List.mem_of_getElem? (i := 247) (by decide +kernel)⟩
theorem lw_p3 : lw_okq (⟨"LogsAfloat", "wholeWeight", "()I"⟩, 11) := ⟨⟨by decide +kernel, by decide +kernel⟩, List.mem_of_getElem? (i := 11) (by decide +kernel), List.mem_of_getElem? (i := 274) (by decide +kernel), List.mem_of_getElem? (i := 275) (by decide +kernel)⟩
theorem lw_p4 : lw_okq (⟨"LogsAfloat", "settle", "(I)I"⟩, 11) := ⟨⟨by decide +kernel, by decide +kernel⟩, List.mem_of_getElem? (i := 11) (by decide +kernel), List.mem_of_getElem? (i := 294) (by decide +kernel), List.mem_of_getElem? (i := 295) (by decide +kernel)⟩
theorem lw_p5 : lw_okq (⟨"LogsAfloat", "tell", "(JJ)I"⟩, 11) := ⟨⟨by decide +kernel, by decide +kernel⟩, List.mem_of_getElem? (i := 11) (by decide +kernel), List.mem_of_getElem? (i := 354) (by decide +kernel), List.mem_of_getElem? (i := 355) (by decide +kernel)⟩
theorem lw_p6 : lw_okq (⟨"LogsAfloat", "weightAcross", "(I)J"⟩, 11) := ⟨⟨by decide +kernel, by decide +kernel⟩, List.mem_of_getElem? (i := 11) (by decide +kernel), List.mem_of_getElem? (i := 385) (by decide +kernel), List.mem_of_getElem? (i := 386) (by decide +kernel)⟩
theorem lw_p7 : lw_okq (⟨"LogsAfloat", "weightUp", "(I)J"⟩, 11) := ⟨⟨by decide +kernel, by decide +kernel⟩, List.mem_of_getElem? (i := 11) (by decide +kernel), List.mem_of_getElem? (i := 399) (by decide +kernel), List.mem_of_getElem? (i := 400) (by decide +kernel)⟩
theorem lw_p8 : lw_okq (⟨"LogsAfloat", "leaning", "(I)I"⟩, 11) := ⟨⟨by decide +kernel, by decide +kernel⟩, List.mem_of_getElem? (i := 11) (by decide +kernel), List.mem_of_getElem? (i := 423) (by decide +kernel), List.mem_of_getElem? (i := 424) (by decide +kernel)⟩
theorem lw_p9 : lw_okq (⟨"LogsAfloat", "holding", "(I)I"⟩, 11) := ⟨⟨by decide +kernel, by decide +kernel⟩, List.mem_of_getElem? (i := 11) (by decide +kernel), List.mem_of_getElem? (i := 446) (by decide +kernel), List.mem_of_getElem? (i := 447) (by decide +kernel)⟩
theorem lw_p10 : lw_okq (⟨"LogsAfloat", "loadsThere", "()I"⟩, 11) := ⟨⟨by decide +kernel, by decide +kernel⟩, List.mem_of_getElem? (i := 11) (by decide +kernel), List.mem_of_getElem? (i := 487) (by decide +kernel), List.mem_of_getElem? (i := 488) (by decide +kernel)⟩
theorem lw_p11 : lw_okq (⟨"LogsAfloat", "digestPlaces", "(J)J"⟩, 11) := ⟨⟨by decide +kernel, by decide +kernel⟩, List.mem_of_getElem? (i := 11) (by decide +kernel), List.mem_of_getElem? (i := 505) (by decide +kernel), List.mem_of_getElem? (i := 506) (by decide +kernel)⟩
theorem lw_p12 : lw_okq (⟨"LogsAfloat", "digestLoads", "(J)J"⟩, 11) := ⟨⟨by decide +kernel, by decide +kernel⟩, List.mem_of_getElem? (i := 11) (by decide +kernel), List.mem_of_getElem? (i := 509) (by decide +kernel), List.mem_of_getElem? (i := 510) (by decide +kernel)⟩
theorem lw_p13 : lw_okq (⟨"LogsAfloat", "digestSheets", "(J)J"⟩, 11) := ⟨⟨by decide +kernel, by decide +kernel⟩, List.mem_of_getElem? (i := 11) (by decide +kernel), List.mem_of_getElem? (i := 514) (by decide +kernel), List.mem_of_getElem? (i := 515) (by decide +kernel)⟩
theorem lw_p14 : lw_okq (⟨"LogsAfloatModel", "begin", "(II)V"⟩, 38) := ⟨⟨by decide +kernel, by decide +kernel⟩, List.mem_of_getElem? (i := 518) (by decide +kernel), List.mem_of_getElem? (i := 524) (by decide +kernel), List.mem_of_getElem? (i := 525) (by decide +kernel)⟩
theorem lw_p15 : lw_okq (⟨"LogsAfloatModel", "isPlace", "(II)Z"⟩, 38) := ⟨⟨by decide +kernel, by decide +kernel⟩, List.mem_of_getElem? (i := 518) (by decide +kernel), List.mem_of_getElem? (i := 671) (by decide +kernel), List.mem_of_getElem? (i := 672) (by decide +kernel)⟩
def lw_privs_1 : List (MethodName × Nat) := [(⟨"LogsAfloat", "find", "(I)I"⟩, 11), (⟨"LogsAfloat", "reaches", "(III)Z"⟩, 11), (⟨"LogsAfloat", "isLoad", "(I)Z"⟩, 11), (⟨"LogsAfloat", "wholeWeight", "()I"⟩, 11), (⟨"LogsAfloat", "settle", "(I)I"⟩, 11), (⟨"LogsAfloat", "tell", "(JJ)I"⟩, 11), (⟨"LogsAfloat", "weightAcross", "(I)J"⟩, 11), (⟨"LogsAfloat", "weightUp", "(I)J"⟩, 11), (⟨"LogsAfloat", "leaning", "(I)I"⟩, 11), (⟨"LogsAfloat", "holding", "(I)I"⟩, 11), (⟨"LogsAfloat", "loadsThere", "()I"⟩, 11), (⟨"LogsAfloat", "digestPlaces", "(J)J"⟩, 11), (⟨"LogsAfloat", "digestLoads", "(J)J"⟩, 11), (⟨"LogsAfloat", "digestSheets", "(J)J"⟩, 11), (⟨"LogsAfloatModel", "begin", "(II)V"⟩, 38), (⟨"LogsAfloatModel", "isPlace", "(II)Z"⟩, 38)]
theorem lw_r1 : ∀ q ∈ lw_privs_1, lw_okq q := List.forall_mem_cons.mpr ⟨lw_p0, List.forall_mem_cons.mpr ⟨lw_p1, List.forall_mem_cons.mpr ⟨lw_p2, List.forall_mem_cons.mpr ⟨lw_p3, List.forall_mem_cons.mpr ⟨lw_p4, List.forall_mem_cons.mpr ⟨lw_p5, List.forall_mem_cons.mpr ⟨lw_p6, List.forall_mem_cons.mpr ⟨lw_p7, List.forall_mem_cons.mpr ⟨lw_p8, List.forall_mem_cons.mpr ⟨lw_p9, List.forall_mem_cons.mpr ⟨lw_p10, List.forall_mem_cons.mpr ⟨lw_p11, List.forall_mem_cons.mpr ⟨lw_p12, List.forall_mem_cons.mpr ⟨lw_p13, List.forall_mem_cons.mpr ⟨lw_p14, List.forall_mem_cons.mpr ⟨lw_p15, fun _ h => absurd h List.not_mem_nil⟩⟩⟩⟩⟩⟩⟩⟩⟩⟩⟩⟩⟩⟩⟩⟩
theorem lw_p16 : lw_okq (⟨"LogsAfloatModel", "meets", "(I)I"⟩, 38) := ⟨⟨by decide +kernel, by decide +kernel⟩, List.mem_of_getElem? (i := 518) (by decide +kernel), List.mem_of_getElem? (i := 690) (by decide +kernel), List.mem_of_getElem? (i := 691) (by decide +kernel)⟩
theorem lw_p17 : lw_okq (⟨"LogsAfloatModel", "need", "(ZI)I"⟩, 38) := ⟨⟨by decide +kernel, by decide +kernel⟩, List.mem_of_getElem? (i := 518) (by decide +kernel), List.mem_of_getElem? (i := 721) (by decide +kernel), List.mem_of_getElem? (i := 722) (by decide +kernel)⟩
theorem lw_p18 : lw_okq (⟨"LogsAfloatModel", "toldOf", "(II)I"⟩, 38) := ⟨⟨by decide +kernel, by decide +kernel⟩, List.mem_of_getElem? (i := 518) (by decide +kernel), List.mem_of_getElem? (i := 737) (by decide +kernel), List.mem_of_getElem? (i := 738) (by decide +kernel)⟩
theorem lw_p19 : lw_okq (⟨"LogsAfloatModel", "squareWeights", "()I"⟩, 38) := ⟨⟨by decide +kernel, by decide +kernel⟩, List.mem_of_getElem? (i := 518) (by decide +kernel), List.mem_of_getElem? (i := 749) (by decide +kernel), List.mem_of_getElem? (i := 750) (by decide +kernel)⟩
theorem lw_p20 : lw_okq (⟨"LogsAfloatModel", "squareMany", "()I"⟩, 38) := ⟨⟨by decide +kernel, by decide +kernel⟩, List.mem_of_getElem? (i := 518) (by decide +kernel), List.mem_of_getElem? (i := 757) (by decide +kernel), List.mem_of_getElem? (i := 758) (by decide +kernel)⟩
theorem lw_p21 : lw_okq (⟨"LogsAfloatModel", "afloat", "(ZI)I"⟩, 38) := ⟨⟨by decide +kernel, by decide +kernel⟩, List.mem_of_getElem? (i := 518) (by decide +kernel), List.mem_of_getElem? (i := 765) (by decide +kernel), List.mem_of_getElem? (i := 766) (by decide +kernel)⟩
theorem lw_p22 : lw_okq (⟨"LogsAfloatModel", "lay", "(I)V"⟩, 38) := ⟨⟨by decide +kernel, by decide +kernel⟩, List.mem_of_getElem? (i := 518) (by decide +kernel), List.mem_of_getElem? (i := 770) (by decide +kernel), List.mem_of_getElem? (i := 771) (by decide +kernel)⟩
theorem lw_p23 : lw_okq (⟨"LogsAfloatModel", "finds", "(I)Z"⟩, 38) := ⟨⟨by decide +kernel, by decide +kernel⟩, List.mem_of_getElem? (i := 518) (by decide +kernel), List.mem_of_getElem? (i := 774) (by decide +kernel), List.mem_of_getElem? (i := 775) (by decide +kernel)⟩
theorem lw_p24 : lw_okq (⟨"LogsAfloatModel", "spread", "(I)V"⟩, 38) := ⟨⟨by decide +kernel, by decide +kernel⟩, List.mem_of_getElem? (i := 518) (by decide +kernel), List.mem_of_getElem? (i := 778) (by decide +kernel), List.mem_of_getElem? (i := 779) (by decide +kernel)⟩
theorem lw_p25 : lw_okq (⟨"LogsAfloatModel", "isWetAt", "(III)Z"⟩, 38) := ⟨⟨by decide +kernel, by decide +kernel⟩, List.mem_of_getElem? (i := 518) (by decide +kernel), List.mem_of_getElem? (i := 782) (by decide +kernel), List.mem_of_getElem? (i := 783) (by decide +kernel)⟩
theorem lw_p26 : lw_okq (⟨"LogsAfloatModel", "firmBelow", "(I)I"⟩, 38) := ⟨⟨by decide +kernel, by decide +kernel⟩, List.mem_of_getElem? (i := 518) (by decide +kernel), List.mem_of_getElem? (i := 786) (by decide +kernel), List.mem_of_getElem? (i := 787) (by decide +kernel)⟩
theorem lw_p27 : lw_okq (⟨"LogsAfloatModel", "firmIn", "(I)I"⟩, 38) := ⟨⟨by decide +kernel, by decide +kernel⟩, List.mem_of_getElem? (i := 518) (by decide +kernel), List.mem_of_getElem? (i := 790) (by decide +kernel), List.mem_of_getElem? (i := 791) (by decide +kernel)⟩
theorem lw_p28 : lw_okq (⟨"LogsAfloatModel", "tells", "(JJ)I"⟩, 38) := ⟨⟨by decide +kernel, by decide +kernel⟩, List.mem_of_getElem? (i := 518) (by decide +kernel), List.mem_of_getElem? (i := 798) (by decide +kernel), List.mem_of_getElem? (i := 799) (by decide +kernel)⟩
theorem lw_p29 : lw_okq (⟨"LogsAfloatModel", "layPowers", "()V"⟩, 38) := ⟨⟨by decide +kernel, by decide +kernel⟩, List.mem_of_getElem? (i := 518) (by decide +kernel), List.mem_of_getElem? (i := 813) (by decide +kernel), List.mem_of_getElem? (i := 814) (by decide +kernel)⟩
theorem lw_p30 : lw_okq (⟨"LogsAfloatModel", "laySums", "()V"⟩, 38) := ⟨⟨by decide +kernel, by decide +kernel⟩, List.mem_of_getElem? (i := 518) (by decide +kernel), List.mem_of_getElem? (i := 817) (by decide +kernel), List.mem_of_getElem? (i := 818) (by decide +kernel)⟩
theorem lw_p31 : lw_okq (⟨"LogsAfloatModel", "lean", "()J"⟩, 38) := ⟨⟨by decide +kernel, by decide +kernel⟩, List.mem_of_getElem? (i := 518) (by decide +kernel), List.mem_of_getElem? (i := 830) (by decide +kernel), List.mem_of_getElem? (i := 831) (by decide +kernel)⟩
def lw_privs_2 : List (MethodName × Nat) := [(⟨"LogsAfloatModel", "meets", "(I)I"⟩, 38), (⟨"LogsAfloatModel", "need", "(ZI)I"⟩, 38), (⟨"LogsAfloatModel", "toldOf", "(II)I"⟩, 38), (⟨"LogsAfloatModel", "squareWeights", "()I"⟩, 38), (⟨"LogsAfloatModel", "squareMany", "()I"⟩, 38), (⟨"LogsAfloatModel", "afloat", "(ZI)I"⟩, 38), (⟨"LogsAfloatModel", "lay", "(I)V"⟩, 38), (⟨"LogsAfloatModel", "finds", "(I)Z"⟩, 38), (⟨"LogsAfloatModel", "spread", "(I)V"⟩, 38), (⟨"LogsAfloatModel", "isWetAt", "(III)Z"⟩, 38), (⟨"LogsAfloatModel", "firmBelow", "(I)I"⟩, 38), (⟨"LogsAfloatModel", "firmIn", "(I)I"⟩, 38), (⟨"LogsAfloatModel", "tells", "(JJ)I"⟩, 38), (⟨"LogsAfloatModel", "layPowers", "()V"⟩, 38), (⟨"LogsAfloatModel", "laySums", "()V"⟩, 38), (⟨"LogsAfloatModel", "lean", "()J"⟩, 38)]
theorem lw_r2 : ∀ q ∈ lw_privs_2, lw_okq q := List.forall_mem_cons.mpr ⟨lw_p16, List.forall_mem_cons.mpr ⟨lw_p17, List.forall_mem_cons.mpr ⟨lw_p18, List.forall_mem_cons.mpr ⟨lw_p19, List.forall_mem_cons.mpr ⟨lw_p20, List.forall_mem_cons.mpr ⟨lw_p21, List.forall_mem_cons.mpr ⟨lw_p22, List.forall_mem_cons.mpr ⟨lw_p23, List.forall_mem_cons.mpr ⟨lw_p24, List.forall_mem_cons.mpr ⟨lw_p25, List.forall_mem_cons.mpr ⟨lw_p26, List.forall_mem_cons.mpr ⟨lw_p27, List.forall_mem_cons.mpr ⟨lw_p28, List.forall_mem_cons.mpr ⟨lw_p29, List.forall_mem_cons.mpr ⟨lw_p30, List.forall_mem_cons.mpr ⟨lw_p31, fun _ h => absurd h List.not_mem_nil⟩⟩⟩⟩⟩⟩⟩⟩⟩⟩⟩⟩⟩⟩⟩⟩
theorem lw_p32 : lw_okq (⟨"LogsAfloatModel", "leastBreadth", "()V"⟩, 38) := ⟨⟨by decide +kernel, by decide +kernel⟩, List.mem_of_getElem? (i := 518) (by decide +kernel), List.mem_of_getElem? (i := 838) (by decide +kernel), List.mem_of_getElem? (i := 839) (by decide +kernel)⟩
theorem lw_p33 : lw_okq (⟨"LogsAfloatModel", "layBreadth", "(I)V"⟩, 38) := ⟨⟨by decide +kernel, by decide +kernel⟩, List.mem_of_getElem? (i := 518) (by decide +kernel), List.mem_of_getElem? (i := 842) (by decide +kernel), List.mem_of_getElem? (i := 843) (by decide +kernel)⟩
theorem lw_p34 : lw_okq (⟨"LogsAfloatModel", "holdsNow", "()I"⟩, 38) := ⟨⟨by decide +kernel, by decide +kernel⟩, List.mem_of_getElem? (i := 518) (by decide +kernel), List.mem_of_getElem? (i := 853) (by decide +kernel), List.mem_of_getElem? (i := 854) (by decide +kernel)⟩
theorem lw_p35 : lw_okq (⟨"LogsAfloatModel", "mostRoom", "()I"⟩, 38) := ⟨⟨by decide +kernel, by decide +kernel⟩, List.mem_of_getElem? (i := 518) (by decide +kernel), List.mem_of_getElem? (i := 865) (by decide +kernel), List.mem_of_getElem? (i := 866) (by decide +kernel)⟩
def lw_privs_3 : List (MethodName × Nat) := [(⟨"LogsAfloatModel", "leastBreadth", "()V"⟩, 38), (⟨"LogsAfloatModel", "layBreadth", "(I)V"⟩, 38), (⟨"LogsAfloatModel", "holdsNow", "()I"⟩, 38), (⟨"LogsAfloatModel", "mostRoom", "()I"⟩, 38)]
theorem lw_r3 : ∀ q ∈ lw_privs_3, lw_okq q := List.forall_mem_cons.mpr ⟨lw_p32, List.forall_mem_cons.mpr ⟨lw_p33, List.forall_mem_cons.mpr ⟨lw_p34, List.forall_mem_cons.mpr ⟨lw_p35, fun _ h => absurd h List.not_mem_nil⟩⟩⟩⟩
def lw_privs : List (MethodName × Nat) := lw_privs_1 ++ (lw_privs_2 ++ (lw_privs_3))
def lw_tbl : List Cond := k2_sels lw_privs ++ tables_1
theorem lw_privs_ok : ∀ q ∈ lw_privs, lw_okq q := by
  show ∀ q ∈ lw_privs_1 ++ (lw_privs_2 ++ (lw_privs_3)), lw_okq q
  exact List.forall_mem_append.mpr ⟨lw_r1, List.forall_mem_append.mpr ⟨lw_r2, lw_r3⟩⟩
end
section
/-! ===== BEGIN words of one list among another's, by their places ===== -/
theorem goodIn_r {big : List Cond} (ws : List Cond) (ps : List Nat) (hp : ws = ps.filterMap (fun i => big[i]?)) (h : ws.all goodWord = true) : GoodIn big ws := by
  intro w hw
  have h1 := List.all_eq_true.mp h w hw
  rw [hp] at hw
  obtain ⟨i, -, hi⟩ := List.mem_filterMap.mp hw
  have hm : w ∈ big := by first | exact List.mem_of_getElem? hi | exact List.getElem?_mem hi
  exact ⟨hm, good_of_word h1⟩
theorem goodIn_app {big a b : List Cond} (ha : GoodIn big a) (hb : GoodIn big b) : GoodIn big (a ++ b) := fun w h => (List.mem_append.mp h).elim (ha w) (hb w)
theorem goodIn_ca {big a b : List Cond} {c : Cond} (ha : GoodIn big (c :: a)) (hb : GoodIn big b) : GoodIn big (c :: (a ++ b)) := fun w h => (List.mem_cons.mp h).elim (fun e => ha w (List.mem_cons.mpr (Or.inl e))) (fun h => (List.mem_append.mp h).elim (fun h => ha w (List.mem_cons.mpr (Or.inr h))) (hb w))
theorem goodIn_sub {big ws : List Cond} (hm : ∀ w ∈ ws, w ∈ big) (h : ws.all goodWord = true) : GoodIn big ws := fun w hw => ⟨hm w hw, good_of_word (List.all_eq_true.mp h w hw)⟩
/-! ===== END ===== -/
/-! ===== BEGIN printed: names, fields, word lists, decode rows ===== -/
def RX0 : String := "LogsAfloat$Cut"
def TX0 : u_T := fun k => match k with
  | 0 => ("LogsAfloat$Cut", "weights", "[I", true)
  | 1 => ("LogsAfloat$Cut", "width", "I", false)
  | _ => ("LogsAfloat$Cut", "height", "I", false)
def tyX0 : Nat → FieldType := fun k => match k with
  | 0 => .array .int
  | 1 => .int
  | _ => .int
abbrev wsX00 : List Cond := u_ws RX0 TX0 3
theorem nmX0 : ∀ a, a < 3 → ∀ b, b < 3 → a ≠ b → (TX0 a).2.1 ≠ (TX0 b).2.1 := by decide +kernel
theorem tyX0_ok : ∀ k, k < 3 → parseFieldDescriptor (TX0 k).2.2.1 = some (tyX0 k) := by decide +kernel
abbrev cX0_init : ByteArray := prog_2_method_1_code
def yX0_init : MethodName := ⟨RX0, "<init>", "()V"⟩
abbrev cX0_begin : ByteArray := prog_2_method_2_code
def yX0_begin : MethodName := ⟨RX0, "begin", "(II)V"⟩
abbrev cX0_has : ByteArray := prog_2_method_3_code
def yX0_has : MethodName := ⟨RX0, "has", "(II)Z"⟩
abbrev cX0_weightOf : ByteArray := prog_2_method_4_code
def yX0_weightOf : MethodName := ⟨RX0, "weightOf", "(II)I"⟩
abbrev cX0_put : ByteArray := prog_2_method_5_code
def yX0_put : MethodName := ⟨RX0, "put", "(III)V"⟩
abbrev cX0_across : ByteArray := prog_2_method_6_code
def yX0_across : MethodName := ⟨RX0, "across", "(I)I"⟩
abbrev cX0_up : ByteArray := prog_2_method_7_code
def yX0_up : MethodName := ⟨RX0, "up", "(I)I"⟩
abbrev cX0_squares : ByteArray := prog_2_method_8_code
def yX0_squares : MethodName := ⟨RX0, "squares", "()I"⟩
abbrev cX0_weight : ByteArray := prog_2_method_9_code
def yX0_weight : MethodName := ⟨RX0, "weight", "()I"⟩
abbrev cX0_weightAcross : ByteArray := prog_2_method_10_code
def yX0_weightAcross : MethodName := ⟨RX0, "weightAcross", "(I)J"⟩
abbrev cX0_weightUp : ByteArray := prog_2_method_11_code
def yX0_weightUp : MethodName := ⟨RX0, "weightUp", "(I)J"⟩
def RX1 : String := "LogsAfloat$Lie"
def TX1 : u_T := fun k => match k with
  | 0 => ("LogsAfloat$Lie", "open", "[I", true)
  | 1 => ("LogsAfloat$Lie", "wet", "[I", true)
  | 2 => ("LogsAfloat$Lie", "width", "I", false)
  | 3 => ("LogsAfloat$Lie", "height", "I", false)
  | 4 => ("LogsAfloat$Lie", "row", "I", false)
  | 5 => ("LogsAfloat$Lie", "firmBelow", "I", false)
  | 6 => ("LogsAfloat$Lie", "firmAcross", "I", false)
  | 7 => ("LogsAfloat$Lie", "part", "J", false)
  | 8 => ("LogsAfloat$Lie", "parts", "J", false)
  | 9 => ("LogsAfloat$Lie", "breadthUpper", "J", false)
  | _ => ("LogsAfloat$Lie", "breadthLower", "J", false)
def tyX1 : Nat → FieldType := fun k => match k with
  | 0 => .array .int
  | 1 => .array .int
  | 2 => .int
  | 3 => .int
  | 4 => .int
  | 5 => .int
  | 6 => .int
  | 7 => .long
  | 8 => .long
  | 9 => .long
  | _ => .long
abbrev wsX10 : List Cond := u_ws RX1 TX1 11
theorem nmX1 : ∀ a, a < 11 → ∀ b, b < 11 → a ≠ b → (TX1 a).2.1 ≠ (TX1 b).2.1 := by decide +kernel
theorem tyX1_ok : ∀ k, k < 11 → parseFieldDescriptor (TX1 k).2.2.1 = some (tyX1 k) := by decide +kernel
abbrev cX1_init : ByteArray := prog_3_method_1_code
def yX1_init : MethodName := ⟨RX1, "<init>", "()V"⟩
abbrev cX1_turnTo : ByteArray := prog_3_method_2_code
def yX1_turnTo : MethodName := ⟨RX1, "turnTo", "(LLogsAfloat$Cut;I)V"⟩
abbrev cX1_riseTo : ByteArray := prog_3_method_3_code
def yX1_riseTo : MethodName := ⟨RX1, "riseTo", "(I)V"⟩
abbrev cX1_waysInto : ByteArray := prog_3_method_4_code
def yX1_waysInto : MethodName := ⟨RX1, "waysInto", "(I)I"⟩
abbrev cX1_spread : ByteArray := prog_3_method_5_code
def yX1_spread : MethodName := ⟨RX1, "spread", "()V"⟩
abbrev cX1_firm : ByteArray := prog_3_method_6_code
def yX1_firm : MethodName := ⟨RX1, "firm", "(I)I"⟩
abbrev cX1_countFirm : ByteArray := prog_3_method_7_code
def yX1_countFirm : MethodName := ⟨RX1, "countFirm", "()V"⟩
abbrev cX1_bears : ByteArray := prog_3_method_8_code
def yX1_bears : MethodName := ⟨RX1, "bears", "(II)Z"⟩
abbrev cX1_mostRoom : ByteArray := prog_3_method_9_code
def yX1_mostRoom : MethodName := ⟨RX1, "mostRoom", "()I"⟩
abbrev cX1_stateOf : ByteArray := prog_3_method_10_code
def yX1_stateOf : MethodName := ⟨RX1, "stateOf", "(II)I"⟩
abbrev cX1_halves : ByteArray := prog_3_method_11_code
def yX1_halves : MethodName := ⟨RX1, "halves", "(I)I"⟩
abbrev cX1_momentAcross : ByteArray := prog_3_method_12_code
def yX1_momentAcross : MethodName := ⟨RX1, "momentAcross", "()J"⟩
abbrev cX1_momentUp : ByteArray := prog_3_method_13_code
def yX1_momentUp : MethodName := ⟨RX1, "momentUp", "()J"⟩
abbrev cX1_measureLine : ByteArray := prog_3_method_14_code
def yX1_measureLine : MethodName := ⟨RX1, "measureLine", "()V"⟩
abbrev cX1_measureRow : ByteArray := prog_3_method_15_code
def yX1_measureRow : MethodName := ⟨RX1, "measureRow", "()V"⟩
def RX2 : String := "LogsAfloat$Load"
def TX2 : u_T := fun k => match k with
  | 0 => ("LogsAfloat$Load", "there", "Z", false)
  | 1 => ("LogsAfloat$Load", "kind", "I", false)
  | 2 => ("LogsAfloat$Load", "a", "I", false)
  | 3 => ("LogsAfloat$Load", "b", "I", false)
  | 4 => ("LogsAfloat$Load", "weight", "I", false)
  | _ => ("LogsAfloat$Load", "rope", "I", false)
def tyX2 : Nat → FieldType := fun k => match k with
  | 0 => .boolean
  | 1 => .int
  | 2 => .int
  | 3 => .int
  | 4 => .int
  | _ => .int
abbrev wsX20 : List Cond := u_ws RX2 TX2 6
theorem nmX2 : ∀ a, a < 6 → ∀ b, b < 6 → a ≠ b → (TX2 a).2.1 ≠ (TX2 b).2.1 := by decide +kernel
theorem tyX2_ok : ∀ k, k < 6 → parseFieldDescriptor (TX2 k).2.2.1 = some (tyX2 k) := by decide +kernel
abbrev cX2_init : ByteArray := prog_4_method_1_code
def yX2_init : MethodName := ⟨RX2, "<init>", "()V"⟩
abbrev cX2_begin : ByteArray := prog_4_method_2_code
def yX2_begin : MethodName := ⟨RX2, "begin", "(IIII)V"⟩
abbrev cX2_fact : ByteArray := prog_4_method_3_code
def yX2_fact : MethodName := ⟨RX2, "fact", "(I)I"⟩
def RX3 : String := "LogsAfloat"
def TX3 : u_T := fun k => match k with
  | 0 => ("LogsAfloat", "cut", "LLogsAfloat$Cut;", true)
  | 1 => ("LogsAfloat", "lie", "LLogsAfloat$Lie;", true)
  | 2 => ("LogsAfloat", "loads", "[LLogsAfloat$Load;", true)
  | 3 => ("LogsAfloat", "sheets", "[[B", true)
  | 4 => ("LogsAfloat", "sizes", "[I", true)
  | 5 => ("LogsAfloat", "found", "[I", true)
  | 6 => ("LogsAfloat", "density", "I", false)
  | 7 => ("LogsAfloat", "ever", "I", false)
  | 8 => ("LogsAfloat", "latest", "I", false)
  | 9 => ("LogsAfloat", "upper", "J", false)
  | _ => ("LogsAfloat", "lower", "J", false)
def tyX3 : Nat → FieldType := fun k => match k with
  | 0 => .object "LogsAfloat$Cut"
  | 1 => .object "LogsAfloat$Lie"
  | 2 => .array (.object "LogsAfloat$Load")
  | 3 => .array (.array .byte)
  | 4 => .array .int
  | 5 => .array .int
  | 6 => .int
  | 7 => .int
  | 8 => .int
  | 9 => .long
  | _ => .long
abbrev wsX30 : List Cond := u_ws RX3 TX3 11
theorem nmX3 : ∀ a, a < 11 → ∀ b, b < 11 → a ≠ b → (TX3 a).2.1 ≠ (TX3 b).2.1 := by decide +kernel
theorem tyX3_ok : ∀ k, k < 11 → parseFieldDescriptor (TX3 k).2.2.1 = some (tyX3 k) := by decide +kernel
abbrev cX3_init : ByteArray := prog_1_method_1_code
def yX3_init : MethodName := ⟨RX3, "<init>", "()V"⟩
abbrev cX3_log : ByteArray := prog_1_method_2_code
def yX3_log : MethodName := ⟨RX3, "log", "(II)I"⟩
abbrev cX3_square : ByteArray := prog_1_method_3_code
def yX3_square : MethodName := ⟨RX3, "square", "(III)I"⟩
abbrev cX3_at : ByteArray := prog_1_method_4_code
def yX3_at : MethodName := ⟨RX3, "at", "(II)I"⟩
abbrev cX3_water : ByteArray := prog_1_method_5_code
def yX3_water : MethodName := ⟨RX3, "water", "(I)I"⟩
abbrev cX3_sheet : ByteArray := prog_1_method_6_code
def yX3_sheet : MethodName := ⟨RX3, "sheet", "(II)I"⟩
abbrev cX3_lay : ByteArray := prog_1_method_7_code
def yX3_lay : MethodName := ⟨RX3, "lay", "(III)I"⟩
abbrev cX3_tear : ByteArray := prog_1_method_8_code
def yX3_tear : MethodName := ⟨RX3, "tear", "(I)I"⟩
abbrev cX3_copy : ByteArray := prog_1_method_9_code
def yX3_copy : MethodName := ⟨RX3, "copy", "(IIIII)I"⟩
abbrev cX3_fill : ByteArray := prog_1_method_10_code
def yX3_fill : MethodName := ⟨RX3, "fill", "(II)I"⟩
abbrev cX3_load : ByteArray := prog_1_method_11_code
def yX3_load : MethodName := ⟨RX3, "load", "(IIII)I"⟩
abbrev cX3_move : ByteArray := prog_1_method_12_code
def yX3_move : MethodName := ⟨RX3, "move", "(III)I"⟩
abbrev cX3_rope : ByteArray := prog_1_method_13_code
def yX3_rope : MethodName := ⟨RX3, "rope", "(II)I"⟩
abbrev cX3_drop : ByteArray := prog_1_method_14_code
def yX3_drop : MethodName := ⟨RX3, "drop", "(I)I"⟩
abbrev cX3_told : ByteArray := prog_1_method_15_code
def yX3_told : MethodName := ⟨RX3, "told", "(II)I"⟩
abbrev cX3_is : ByteArray := prog_1_method_16_code
def yX3_is : MethodName := ⟨RX3, "is", "(II)I"⟩
abbrev cX3_all : ByteArray := prog_1_method_17_code
def yX3_all : MethodName := ⟨RX3, "all", "()I"⟩
abbrev cX3_mean : ByteArray := prog_1_method_18_code
def yX3_mean : MethodName := ⟨RX3, "mean", "()I"⟩
abbrev cX3_floats : ByteArray := prog_1_method_19_code
def yX3_floats : MethodName := ⟨RX3, "floats", "(I)I"⟩
abbrev cX3_draft : ByteArray := prog_1_method_20_code
def yX3_draft : MethodName := ⟨RX3, "draft", "(I)I"⟩
abbrev cX3_above : ByteArray := prog_1_method_21_code
def yX3_above : MethodName := ⟨RX3, "above", "(I)I"⟩
abbrev cX3_middle : ByteArray := prog_1_method_22_code
def yX3_middle : MethodName := ⟨RX3, "middle", "(II)I"⟩
abbrev cX3_place : ByteArray := prog_1_method_23_code
def yX3_place : MethodName := ⟨RX3, "place", "(III)I"⟩
abbrev cX3_leans : ByteArray := prog_1_method_24_code
def yX3_leans : MethodName := ⟨RX3, "leans", "(I)I"⟩
abbrev cX3_breadth : ByteArray := prog_1_method_25_code
def yX3_breadth : MethodName := ⟨RX3, "breadth", "(I)I"⟩
abbrev cX3_holds : ByteArray := prog_1_method_26_code
def yX3_holds : MethodName := ⟨RX3, "holds", "(I)I"⟩
abbrev cX3_rests : ByteArray := prog_1_method_27_code
def yX3_rests : MethodName := ⟨RX3, "rests", "()I"⟩
abbrev cX3_carries : ByteArray := prog_1_method_28_code
def yX3_carries : MethodName := ⟨RX3, "carries", "(I)I"⟩
abbrev cX3_trim : ByteArray := prog_1_method_29_code
def yX3_trim : MethodName := ⟨RX3, "trim", "(II)I"⟩
abbrev cX3_room : ByteArray := prog_1_method_30_code
def yX3_room : MethodName := ⟨RX3, "room", "(III)I"⟩
abbrev cX3_upper : ByteArray := prog_1_method_31_code
def yX3_upper : MethodName := ⟨RX3, "upper", "()J"⟩
abbrev cX3_lower : ByteArray := prog_1_method_32_code
def yX3_lower : MethodName := ⟨RX3, "lower", "()J"⟩
abbrev cX3_count : ByteArray := prog_1_method_33_code
def yX3_count : MethodName := ⟨RX3, "count", "(I)I"⟩
abbrev cX3_finding : ByteArray := prog_1_method_34_code
def yX3_finding : MethodName := ⟨RX3, "finding", "()I"⟩
abbrev cX3_findings : ByteArray := prog_1_method_35_code
def yX3_findings : MethodName := ⟨RX3, "findings", "(I)I"⟩
abbrev cX3_digest : ByteArray := prog_1_method_36_code
def yX3_digest : MethodName := ⟨RX3, "digest", "()J"⟩
abbrev cX3_digestPlaces : ByteArray := prog_1_method_37_code
def yX3_digestPlaces : MethodName := ⟨RX3, "digestPlaces", "(J)J"⟩
abbrev cX3_digestLoads : ByteArray := prog_1_method_38_code
def yX3_digestLoads : MethodName := ⟨RX3, "digestLoads", "(J)J"⟩
abbrev cX3_digestSheets : ByteArray := prog_1_method_39_code
def yX3_digestSheets : MethodName := ⟨RX3, "digestSheets", "(J)J"⟩
abbrev cX3_within : ByteArray := prog_1_method_40_code
def yX3_within : MethodName := ⟨RX3, "within", "(III)Z"⟩
abbrev cX3_isTurn : ByteArray := prog_1_method_41_code
def yX3_isTurn : MethodName := ⟨RX3, "isTurn", "(I)Z"⟩
abbrev cX3_isSheet : ByteArray := prog_1_method_42_code
def yX3_isSheet : MethodName := ⟨RX3, "isSheet", "(I)Z"⟩
abbrev cX3_isPoint : ByteArray := prog_1_method_43_code
def yX3_isPoint : MethodName := ⟨RX3, "isPoint", "(II)Z"⟩
abbrev cX3_isLoad : ByteArray := prog_1_method_44_code
def yX3_isLoad : MethodName := ⟨RX3, "isLoad", "(I)Z"⟩
abbrev cX3_reaches : ByteArray := prog_1_method_45_code
def yX3_reaches : MethodName := ⟨RX3, "reaches", "(III)Z"⟩
abbrev cX3_find : ByteArray := prog_1_method_46_code
def yX3_find : MethodName := ⟨RX3, "find", "(I)I"⟩
abbrev cX3_tell : ByteArray := prog_1_method_47_code
def yX3_tell : MethodName := ⟨RX3, "tell", "(JJ)I"⟩
abbrev cX3_commonDivisor : ByteArray := prog_1_method_48_code
def yX3_commonDivisor : MethodName := ⟨RX3, "commonDivisor", "(JJ)J"⟩
abbrev cX3_loadsThere : ByteArray := prog_1_method_49_code
def yX3_loadsThere : MethodName := ⟨RX3, "loadsThere", "()I"⟩
abbrev cX3_wholeWeight : ByteArray := prog_1_method_50_code
def yX3_wholeWeight : MethodName := ⟨RX3, "wholeWeight", "()I"⟩
abbrev cX3_settle : ByteArray := prog_1_method_51_code
def yX3_settle : MethodName := ⟨RX3, "settle", "(I)I"⟩
abbrev cX3_weightAcross : ByteArray := prog_1_method_52_code
def yX3_weightAcross : MethodName := ⟨RX3, "weightAcross", "(I)J"⟩
abbrev cX3_weightUp : ByteArray := prog_1_method_53_code
def yX3_weightUp : MethodName := ⟨RX3, "weightUp", "(I)J"⟩
abbrev cX3_leaning : ByteArray := prog_1_method_54_code
def yX3_leaning : MethodName := ⟨RX3, "leaning", "(I)I"⟩
abbrev cX3_holding : ByteArray := prog_1_method_55_code
def yX3_holding : MethodName := ⟨RX3, "holding", "(I)I"⟩
abbrev cX3_turnedAcross : ByteArray := prog_1_method_56_code
def yX3_turnedAcross : MethodName := ⟨RX3, "turnedAcross", "(IIIII)I"⟩
abbrev cX3_turnedUp : ByteArray := prog_1_method_57_code
def yX3_turnedUp : MethodName := ⟨RX3, "turnedUp", "(IIIII)I"⟩
def RX4 : String := "LogsAfloatModel"
def TX4 : u_T := fun k => match k with
  | 0 => ("LogsAfloatModel", "latest", "I", false)
  | 1 => ("LogsAfloatModel", "came", "[I", true)
  | 2 => ("LogsAfloatModel", "upper", "J", false)
  | 3 => ("LogsAfloatModel", "lower", "J", false)
  | 4 => ("LogsAfloatModel", "w", "I", false)
  | 5 => ("LogsAfloatModel", "h", "I", false)
  | 6 => ("LogsAfloatModel", "water", "I", false)
  | 7 => ("LogsAfloatModel", "squares", "[I", true)
  | 8 => ("LogsAfloatModel", "sheetSize", "[I", true)
  | 9 => ("LogsAfloatModel", "sheets", "[B", true)
  | 10 => ("LogsAfloatModel", "copied", "[B", true)
  | 11 => ("LogsAfloatModel", "loads", "I", false)
  | 12 => ("LogsAfloatModel", "kindOf", "[I", true)
  | 13 => ("LogsAfloatModel", "pointA", "[I", true)
  | 14 => ("LogsAfloatModel", "pointB", "[I", true)
  | 15 => ("LogsAfloatModel", "weightOf", "[I", true)
  | 16 => ("LogsAfloatModel", "ropes", "[I", true)
  | 17 => ("LogsAfloatModel", "isGone", "[Z", true)
  | 18 => ("LogsAfloatModel", "wide", "I", false)
  | 19 => ("LogsAfloatModel", "high", "I", false)
  | 20 => ("LogsAfloatModel", "lies", "[I", true)
  | 21 => ("LogsAfloatModel", "weightX", "J", false)
  | 22 => ("LogsAfloatModel", "weightY", "J", false)
  | 23 => ("LogsAfloatModel", "isWet", "[Z", true)
  | 24 => ("LogsAfloatModel", "row", "I", false)
  | 25 => ("LogsAfloatModel", "partUp", "J", false)
  | 26 => ("LogsAfloatModel", "partLow", "J", false)
  | 27 => ("LogsAfloatModel", "below", "I", false)
  | 28 => ("LogsAfloatModel", "firm", "I", false)
  | 29 => ("LogsAfloatModel", "sumX", "J", false)
  | 30 => ("LogsAfloatModel", "sumRowX", "J", false)
  | 31 => ("LogsAfloatModel", "sumY", "J", false)
  | 32 => ("LogsAfloatModel", "powerX", "J", false)
  | 33 => ("LogsAfloatModel", "bottomX", "J", false)
  | 34 => ("LogsAfloatModel", "powerY", "J", false)
  | 35 => ("LogsAfloatModel", "bottomY", "J", false)
  | 36 => ("LogsAfloatModel", "breadthUp", "J", false)
  | _ => ("LogsAfloatModel", "breadthLow", "J", false)
def tyX4 : Nat → FieldType := fun k => match k with
  | 0 => .int
  | 1 => .array .int
  | 2 => .long
  | 3 => .long
  | 4 => .int
  | 5 => .int
  | 6 => .int
  | 7 => .array .int
  | 8 => .array .int
  | 9 => .array .byte
  | 10 => .array .byte
  | 11 => .int
  | 12 => .array .int
  | 13 => .array .int
  | 14 => .array .int
  | 15 => .array .int
  | 16 => .array .int
  | 17 => .array .boolean
  | 18 => .int
  | 19 => .int
  | 20 => .array .int
  | 21 => .long
  | 22 => .long
  | 23 => .array .boolean
  | 24 => .int
  | 25 => .long
  | 26 => .long
  | 27 => .int
  | 28 => .int
  | 29 => .long
  | 30 => .long
  | 31 => .long
  | 32 => .long
  | 33 => .long
  | 34 => .long
  | 35 => .long
  | 36 => .long
  | _ => .long
abbrev wsX40 : List Cond := u_ws RX4 TX4 38
theorem nmX4 : ∀ a, a < 38 → ∀ b, b < 38 → a ≠ b → (TX4 a).2.1 ≠ (TX4 b).2.1 := by decide +kernel
theorem tyX4_ok : ∀ k, k < 38 → parseFieldDescriptor (TX4 k).2.2.1 = some (tyX4 k) := by decide +kernel
abbrev cX4_init : ByteArray := prog_6_method_1_code
def yX4_init : MethodName := ⟨RX4, "<init>", "()V"⟩
abbrev cX4_in : ByteArray := prog_6_method_2_code
def yX4_in : MethodName := ⟨RX4, "in", "(III)Z"⟩
abbrev cX4_meets : ByteArray := prog_6_method_3_code
def yX4_meets : MethodName := ⟨RX4, "meets", "(I)I"⟩
abbrev cX4_finding : ByteArray := prog_6_method_4_code
def yX4_finding : MethodName := ⟨RX4, "finding", "()I"⟩
abbrev cX4_findings : ByteArray := prog_6_method_5_code
def yX4_findings : MethodName := ⟨RX4, "findings", "(I)I"⟩
abbrev cX4_gcd : ByteArray := prog_6_method_6_code
def yX4_gcd : MethodName := ⟨RX4, "gcd", "(JJ)J"⟩
abbrev cX4_tells : ByteArray := prog_6_method_7_code
def yX4_tells : MethodName := ⟨RX4, "tells", "(JJ)I"⟩
abbrev cX4_upper : ByteArray := prog_6_method_8_code
def yX4_upper : MethodName := ⟨RX4, "upper", "()J"⟩
abbrev cX4_lower : ByteArray := prog_6_method_9_code
def yX4_lower : MethodName := ⟨RX4, "lower", "()J"⟩
abbrev cX4_begin : ByteArray := prog_6_method_10_code
def yX4_begin : MethodName := ⟨RX4, "begin", "(II)V"⟩
abbrev cX4_log : ByteArray := prog_6_method_11_code
def yX4_log : MethodName := ⟨RX4, "log", "(II)I"⟩
abbrev cX4_isPlace : ByteArray := prog_6_method_12_code
def yX4_isPlace : MethodName := ⟨RX4, "isPlace", "(II)Z"⟩
abbrev cX4_square : ByteArray := prog_6_method_13_code
def yX4_square : MethodName := ⟨RX4, "square", "(III)I"⟩
abbrev cX4_at : ByteArray := prog_6_method_14_code
def yX4_at : MethodName := ⟨RX4, "at", "(II)I"⟩
abbrev cX4_water : ByteArray := prog_6_method_15_code
def yX4_water : MethodName := ⟨RX4, "water", "(I)I"⟩
abbrev cX4_isSheet : ByteArray := prog_6_method_16_code
def yX4_isSheet : MethodName := ⟨RX4, "isSheet", "(I)Z"⟩
abbrev cX4_sheet : ByteArray := prog_6_method_17_code
def yX4_sheet : MethodName := ⟨RX4, "sheet", "(II)I"⟩
abbrev cX4_lay : ByteArray := prog_6_method_18_code
def yX4_lay : MethodName := ⟨RX4, "lay", "(III)I"⟩
abbrev cX4_tear : ByteArray := prog_6_method_19_code
def yX4_tear : MethodName := ⟨RX4, "tear", "(I)I"⟩
abbrev cX4_copy : ByteArray := prog_6_method_20_code
def yX4_copy : MethodName := ⟨RX4, "copy", "(IIIII)I"⟩
abbrev cX4_fill : ByteArray := prog_6_method_21_code
def yX4_fill : MethodName := ⟨RX4, "fill", "(II)I"⟩
abbrev cX4_isPoint : ByteArray := prog_6_method_22_code
def yX4_isPoint : MethodName := ⟨RX4, "isPoint", "(II)Z"⟩
abbrev cX4_load : ByteArray := prog_6_method_23_code
def yX4_load : MethodName := ⟨RX4, "load", "(IIII)I"⟩
abbrev cX4_need : ByteArray := prog_6_method_24_code
def yX4_need : MethodName := ⟨RX4, "need", "(ZI)I"⟩
abbrev cX4_move : ByteArray := prog_6_method_25_code
def yX4_move : MethodName := ⟨RX4, "move", "(III)I"⟩
abbrev cX4_rope : ByteArray := prog_6_method_26_code
def yX4_rope : MethodName := ⟨RX4, "rope", "(II)I"⟩
abbrev cX4_drop : ByteArray := prog_6_method_27_code
def yX4_drop : MethodName := ⟨RX4, "drop", "(I)I"⟩
abbrev cX4_toldOf : ByteArray := prog_6_method_28_code
def yX4_toldOf : MethodName := ⟨RX4, "toldOf", "(II)I"⟩
abbrev cX4_told : ByteArray := prog_6_method_29_code
def yX4_told : MethodName := ⟨RX4, "told", "(II)I"⟩
abbrev cX4_is : ByteArray := prog_6_method_30_code
def yX4_is : MethodName := ⟨RX4, "is", "(II)I"⟩
abbrev cX4_squareMany : ByteArray := prog_6_method_31_code
def yX4_squareMany : MethodName := ⟨RX4, "squareMany", "()I"⟩
abbrev cX4_squareWeights : ByteArray := prog_6_method_32_code
def yX4_squareWeights : MethodName := ⟨RX4, "squareWeights", "()I"⟩
abbrev cX4_all : ByteArray := prog_6_method_33_code
def yX4_all : MethodName := ⟨RX4, "all", "()I"⟩
abbrev cX4_mean : ByteArray := prog_6_method_34_code
def yX4_mean : MethodName := ⟨RX4, "mean", "()I"⟩
abbrev cX4_lay_ : ByteArray := prog_6_method_35_code
def yX4_lay_ : MethodName := ⟨RX4, "lay", "(I)V"⟩
abbrev cX4_isWetAt : ByteArray := prog_6_method_36_code
def yX4_isWetAt : MethodName := ⟨RX4, "isWetAt", "(III)Z"⟩
abbrev cX4_spread : ByteArray := prog_6_method_37_code
def yX4_spread : MethodName := ⟨RX4, "spread", "(I)V"⟩
abbrev cX4_firmIn : ByteArray := prog_6_method_38_code
def yX4_firmIn : MethodName := ⟨RX4, "firmIn", "(I)I"⟩
abbrev cX4_firmBelow : ByteArray := prog_6_method_39_code
def yX4_firmBelow : MethodName := ⟨RX4, "firmBelow", "(I)I"⟩
abbrev cX4_finds : ByteArray := prog_6_method_40_code
def yX4_finds : MethodName := ⟨RX4, "finds", "(I)Z"⟩
abbrev cX4_afloat : ByteArray := prog_6_method_41_code
def yX4_afloat : MethodName := ⟨RX4, "afloat", "(ZI)I"⟩
abbrev cX4_floats : ByteArray := prog_6_method_42_code
def yX4_floats : MethodName := ⟨RX4, "floats", "(I)I"⟩
abbrev cX4_draft : ByteArray := prog_6_method_43_code
def yX4_draft : MethodName := ⟨RX4, "draft", "(I)I"⟩
abbrev cX4_above : ByteArray := prog_6_method_44_code
def yX4_above : MethodName := ⟨RX4, "above", "(I)I"⟩
abbrev cX4_laySums : ByteArray := prog_6_method_45_code
def yX4_laySums : MethodName := ⟨RX4, "laySums", "()V"⟩
abbrev cX4_layPowers : ByteArray := prog_6_method_46_code
def yX4_layPowers : MethodName := ⟨RX4, "layPowers", "()V"⟩
abbrev cX4_middle : ByteArray := prog_6_method_47_code
def yX4_middle : MethodName := ⟨RX4, "middle", "(II)I"⟩
abbrev cX4_place : ByteArray := prog_6_method_48_code
def yX4_place : MethodName := ⟨RX4, "place", "(III)I"⟩
abbrev cX4_lean : ByteArray := prog_6_method_49_code
def yX4_lean : MethodName := ⟨RX4, "lean", "()J"⟩
abbrev cX4_leans : ByteArray := prog_6_method_50_code
def yX4_leans : MethodName := ⟨RX4, "leans", "(I)I"⟩
abbrev cX4_layBreadth : ByteArray := prog_6_method_51_code
def yX4_layBreadth : MethodName := ⟨RX4, "layBreadth", "(I)V"⟩
abbrev cX4_leastBreadth : ByteArray := prog_6_method_52_code
def yX4_leastBreadth : MethodName := ⟨RX4, "leastBreadth", "()V"⟩
abbrev cX4_breadth : ByteArray := prog_6_method_53_code
def yX4_breadth : MethodName := ⟨RX4, "breadth", "(I)I"⟩
abbrev cX4_holdsNow : ByteArray := prog_6_method_54_code
def yX4_holdsNow : MethodName := ⟨RX4, "holdsNow", "()I"⟩
abbrev cX4_holds : ByteArray := prog_6_method_55_code
def yX4_holds : MethodName := ⟨RX4, "holds", "(I)I"⟩
abbrev cX4_rests : ByteArray := prog_6_method_56_code
def yX4_rests : MethodName := ⟨RX4, "rests", "()I"⟩
abbrev cX4_mostRoom : ByteArray := prog_6_method_57_code
def yX4_mostRoom : MethodName := ⟨RX4, "mostRoom", "()I"⟩
abbrev cX4_carries : ByteArray := prog_6_method_58_code
def yX4_carries : MethodName := ⟨RX4, "carries", "(I)I"⟩
abbrev cX4_trim : ByteArray := prog_6_method_59_code
def yX4_trim : MethodName := ⟨RX4, "trim", "(II)I"⟩
abbrev cX4_room : ByteArray := prog_6_method_60_code
def yX4_room : MethodName := ⟨RX4, "room", "(III)I"⟩
abbrev cX4_count : ByteArray := prog_6_method_61_code
def yX4_count : MethodName := ⟨RX4, "count", "(I)I"⟩
abbrev cX4_digest : ByteArray := prog_6_method_62_code
def yX4_digest : MethodName := ⟨RX4, "digest", "()J"⟩
def RJ6 : String := "java/lang/Integer"
def TJ6 : u_T := fun k => match k with
  | _ => ("", "", "", false)
def tyJ6 : Nat → FieldType := fun k => match k with
  | _ => .int
abbrev wsJ60 : List Cond := u_ws RJ6 TJ6 0
theorem nmJ6 : ∀ a, a < 0 → ∀ b, b < 0 → a ≠ b → (TJ6 a).2.1 ≠ (TJ6 b).2.1 := by decide +kernel
theorem tyJ6_ok : ∀ k, k < 0 → parseFieldDescriptor (TJ6 k).2.2.1 = some (tyJ6 k) := by decide +kernel
abbrev cJ6_bitCount_0f7a4 : ByteArray := prog_7_method_49_code
def yJ6_bitCount_0f7a4 : MethodName := ⟨RJ6, "bitCount", "(I)I"⟩
def RJ13 : String := "java/lang/Long"
def TJ13 : u_T := fun k => match k with
  | _ => ("", "", "", false)
def tyJ13 : Nat → FieldType := fun k => match k with
  | _ => .int
abbrev wsJ130 : List Cond := u_ws RJ13 TJ13 0
theorem nmJ13 : ∀ a, a < 0 → ∀ b, b < 0 → a ≠ b → (TJ13 a).2.1 ≠ (TJ13 b).2.1 := by decide +kernel
theorem tyJ13_ok : ∀ k, k < 0 → parseFieldDescriptor (TJ13 k).2.2.1 = some (tyJ13 k) := by decide +kernel
abbrev cJ13_compare_74951 : ByteArray := prog_8_method_42_code
def yJ13_compare_74951 : MethodName := ⟨RJ13, "compare", "(JJ)I"⟩
def RJ9 : String := "java/lang/Math"
def TJ9 : u_T := fun k => match k with
  | _ => ("", "", "", false)
def tyJ9 : Nat → FieldType := fun k => match k with
  | _ => .int
abbrev wsJ90 : List Cond := u_ws RJ9 TJ9 0
theorem nmJ9 : ∀ a, a < 0 → ∀ b, b < 0 → a ≠ b → (TJ9 a).2.1 ≠ (TJ9 b).2.1 := by decide +kernel
theorem tyJ9_ok : ∀ k, k < 0 → parseFieldDescriptor (TJ9 k).2.2.1 = some (tyJ9 k) := by decide +kernel
abbrev cJ9_abs_067f4 : ByteArray := prog_9_method_61_code
def yJ9_abs_067f4 : MethodName := ⟨RJ9, "abs", "(J)J"⟩
abbrev cJ9_max_7cf53 : ByteArray := prog_9_method_65_code
def yJ9_max_7cf53 : MethodName := ⟨RJ9, "max", "(II)I"⟩
abbrev cJ9_min_7cf53 : ByteArray := prog_9_method_69_code
def yJ9_min_7cf53 : MethodName := ⟨RJ9, "min", "(II)I"⟩
def RJ10 : String := "java/lang/System"
def TJ10 : u_T := fun k => match k with
  | _ => ("", "", "", false)
def tyJ10 : Nat → FieldType := fun k => match k with
  | _ => .int
abbrev wsJ100 : List Cond := u_ws RJ10 TJ10 0
theorem nmJ10 : ∀ a, a < 0 → ∀ b, b < 0 → a ≠ b → (TJ10 a).2.1 ≠ (TJ10 b).2.1 := by decide +kernel
theorem tyJ10_ok : ∀ k, k < 0 → parseFieldDescriptor (TJ10 k).2.2.1 = some (tyJ10 k) := by decide +kernel
def RL : String := "LogsAfloatLaw"
abbrev cL_law : ByteArray := code
def yL_law : MethodName := ⟨RL, "law", "([I)Z"⟩
abbrev vwCl : List vw_C := [(RX0, TX0, 3), (RX1, TX1, 11), (RX2, TX2, 6), (RX3, TX3, 11), (RX4, TX4, 38)]
end
section
/-! THE DEEP MACHINE. Memory by cells and places; a frame is (pc, locals, stack, memory); one step; runs; calls by depth. No heap, no tables: pure. -/
abbrev dx_M : Type := (Nat → Nat → Int32) × (Nat → Nat → Int64)
abbrev dx_F : Type := Nat × List Value × List Value × dx_M
/-- a cell of a layout: an object (class, its fields: kind 0 int, 1 boolean, 2 long, 3 a reference to a cell), or an array (kind 0 int, 1 byte, 2 boolean, 3 objects, 4 byte rows; length; the cells it refers to) -/
abbrev dx_Cell : Type := (Nat × List (Nat × Nat)) ⊕ (Nat × Nat × List Nat)
/-- an instruction's row: itself, its length, a constant, three numbers, a switch's pairs -/
abbrev dx_I : Type := Instr × Nat × Value × Nat × Nat × Nat × List (Int32 × Nat)
/-- a method: name, bytes, locals, what it returns; its rows by pc; its pool by index -/
abbrev dx_K : Type := (MethodName × ByteArray × Nat × Option FieldType) × List (Nat × dx_I) × List (Nat × Nat × Nat × Nat)
def dx_look {α : Type} : List (Nat × α) → Nat → Option α
  | [], _ => none
  | (k, v) :: t, n => match Nat.beq k n with
    | true => some v
    | false => dx_look t n
def dx_pR (m : dx_M) (k : Nat) (f : Nat → Int32) : dx_M := (fun a => if a = k then f else m.1 a, m.2)
def dx_pI (m : dx_M) (k j : Nat) (v : Int32) : dx_M := dx_pR m k (upd (m.1 k) j v)
def dx_pL (m : dx_M) (k j : Nat) (v : Int64) : dx_M := (m.1, fun a => if a = k then vp_updL (m.2 k) j v else m.2 a)
def dx_kill : Value → Value
  | .long _ => .null
  | .double _ => .null
  | v => v
def dx_st1 : List Value → Nat → Value → List Value
  | [], _, _ => []
  | _ :: t, 0, v => v :: t
  | w :: t, 1, v => dx_kill w :: dx_st1 t 0 v
  | w :: t, n + 2, v => w :: dx_st1 t (n + 1) v
def dx_tl0 : List Value → List Value
  | [] => []
  | _ :: t => .null :: t
def dx_st2 : List Value → Nat → Value → List Value
  | [], _, _ => []
  | _ :: t, 0, v => v :: dx_tl0 t
  | w :: t, 1, v => dx_kill w :: dx_st2 t 0 v
  | w :: t, n + 2, v => w :: dx_st2 t (n + 1) v
def dx_ld : List Value → Nat → Value
  | [], _ => .null
  | w :: _, 0 => w
  | _ :: t, n + 1 => dx_ld t n
def dx_sw : List (Int32 × Nat) → Int32 → Nat → Nat
  | [], _, d => d
  | (k, t) :: r, x, d => if x = k then t else dx_sw r x d
def dx_loI (pc : Nat) (L st : List Value) (m : dx_M) (i : Nat) : Option dx_F := match dx_ld L i with
  | .int x => some (pc, L, .int x :: st, m)
  | _ => none
def dx_loL (pc : Nat) (L st : List Value) (m : dx_M) (i : Nat) : Option dx_F := match dx_ld L i with
  | .long x => some (pc, L, .long x :: st, m)
  | _ => none
def dx_loA (pc : Nat) (L st : List Value) (m : dx_M) (i : Nat) : Option dx_F := match dx_ld L i with
  | .ref x => some (pc, L, .ref x :: st, m)
  | _ => none
def dx_stI (pc : Nat) (L st : List Value) (m : dx_M) (i : Nat) : Option dx_F := match st with
  | .int x :: t => if i < L.length then some (pc, dx_st1 L i (.int x), t, m) else none
  | _ => none
def dx_stL (pc : Nat) (L st : List Value) (m : dx_M) (i : Nat) : Option dx_F := match st with
  | .long x :: t => if i + 1 < L.length then some (pc, dx_st2 L i (.long x), t, m) else none
  | _ => none
def dx_stA (pc : Nat) (L st : List Value) (m : dx_M) (i : Nat) : Option dx_F := match st with
  | .ref x :: t => if i < L.length then some (pc, dx_st1 L i (.ref x), t, m) else none
  | _ => none
def dx_inc (pc : Nat) (L st : List Value) (m : dx_M) (i : Nat) (v : Value) : Option dx_F := match dx_ld L i, v with
  | .int x, .int y => if i < L.length then some (pc, dx_st1 L i (.int (x + y)), st, m) else none
  | _, _ => none
def dx_bI (f : Int32 → Int32 → Int32) (pc : Nat) (L st : List Value) (m : dx_M) : Option dx_F := match st with
  | .int y :: .int x :: t => some (pc, L, .int (f x y) :: t, m)
  | _ => none
def dx_bL (f : Int64 → Int64 → Int64) (pc : Nat) (L st : List Value) (m : dx_M) : Option dx_F := match st with
  | .long y :: .long x :: t => some (pc, L, .long (f x y) :: t, m)
  | _ => none
def dx_dI (f : Int32 → Int32 → Int32) (pc : Nat) (L st : List Value) (m : dx_M) : Option dx_F := match st with
  | .int y :: .int x :: t => if ¬ y = 0 then some (pc, L, .int (f x y) :: t, m) else none
  | _ => none
def dx_dL (f : Int64 → Int64 → Int64) (pc : Nat) (L st : List Value) (m : dx_M) : Option dx_F := match st with
  | .long y :: .long x :: t => if ¬ y = 0 then some (pc, L, .long (f x y) :: t, m) else none
  | _ => none
def dx_if1 (f : Int32 → Nat) (L st : List Value) (m : dx_M) : Option dx_F := match st with
  | .int x :: t => some (f x, L, t, m)
  | _ => none
def dx_if2 (f : Int32 → Int32 → Nat) (L st : List Value) (m : dx_M) : Option dx_F := match st with
  | .int y :: .int x :: t => some (f x y, L, t, m)
  | _ => none
def dx_fld (m : dx_M) (k b : Nat) : Option (Nat × Nat) → Option Value
  | some (0, _) => some (.int (m.1 k b))
  | some (1, _) => some (.int (m.1 k b))
  | some (2, _) => some (.long (m.2 k b))
  | some (3, q) => some (.ref q)
  | _ => none
def dx_get (lay : List dx_Cell) (a b pc : Nat) (L st : List Value) (m : dx_M) : Option dx_F := match st with
  | .ref k :: t => match lay[k]? with
    | some (.inl (ci, fl)) => match Nat.beq ci a with
      | true => match dx_fld m k b fl[b]? with
        | some v => some (pc, L, v :: t, m)
        | none => none
      | false => none
    | _ => none
  | _ => none
def dx_put (lay : List dx_Cell) (a b pc : Nat) (L st : List Value) (m : dx_M) : Option dx_F := match st with
  | .int x :: .ref k :: t => match lay[k]? with
    | some (.inl (ci, fl)) => match Nat.beq ci a with
      | true => match fl[b]? with
        | some (0, _) => some (pc, L, t, dx_pI m k b x)
        | some (1, _) => if x = 0 ∨ x = 1 then some (pc, L, t, dx_pI m k b x) else none
        | _ => none
      | false => none
    | _ => none
  | .long x :: .ref k :: t => match lay[k]? with
    | some (.inl (ci, fl)) => match Nat.beq ci a with
      | true => match fl[b]? with
        | some (2, _) => some (pc, L, t, dx_pL m k b x)
        | _ => none
      | false => none
    | _ => none
  | _ => none
def dx_ald (lay : List dx_Cell) (pc : Nat) (L st : List Value) (m : dx_M) : Option dx_F := match st with
  | .int i :: .ref k :: t => match lay[k]? with
    | some (.inr (0, n, _)) => if ¬ (i < 0 ∨ n ≤ i.toNatClampNeg) then some (pc, L, .int (m.1 k i.toNatClampNeg) :: t, m) else none
    | _ => none
  | _ => none
def dx_bld (lay : List dx_Cell) (pc : Nat) (L st : List Value) (m : dx_M) : Option dx_F := match st with
  | .int i :: .ref k :: t => match lay[k]? with
    | some (.inr (1, n, _)) => if ¬ (i < 0 ∨ n ≤ i.toNatClampNeg) then some (pc, L, .int (m.1 k i.toNatClampNeg) :: t, m) else none
    | some (.inr (2, n, _)) => if ¬ (i < 0 ∨ n ≤ i.toNatClampNeg) then some (pc, L, .int (m.1 k i.toNatClampNeg) :: t, m) else none
    | _ => none
  | _ => none
def dx_rld (pc : Nat) (L t : List Value) (m : dx_M) (n : Nat) (rs : List Nat) (i : Int32) : Option dx_F :=
  if ¬ (i < 0 ∨ n ≤ i.toNatClampNeg) then (match rs[i.toNatClampNeg]? with
    | some q => some (pc, L, .ref q :: t, m)
    | none => none) else none
def dx_aad (lay : List dx_Cell) (pc : Nat) (L st : List Value) (m : dx_M) : Option dx_F := match st with
  | .int i :: .ref k :: t => match lay[k]? with
    | some (.inr (3, n, rs)) => dx_rld pc L t m n rs i
    | some (.inr (4, n, rs)) => dx_rld pc L t m n rs i
    | _ => none
  | _ => none
def dx_ast (lay : List dx_Cell) (pc : Nat) (L st : List Value) (m : dx_M) : Option dx_F := match st with
  | .int x :: .int i :: .ref k :: t => match lay[k]? with
    | some (.inr (0, n, _)) => if ¬ (i < 0 ∨ n ≤ i.toNatClampNeg) then some (pc, L, t, dx_pI m k i.toNatClampNeg x) else none
    | _ => none
  | _ => none
def dx_bst (lay : List dx_Cell) (pc : Nat) (L st : List Value) (m : dx_M) : Option dx_F := match st with
  | .int x :: .int i :: .ref k :: t => match lay[k]? with
    | some (.inr (1, n, _)) => if ¬ (i < 0 ∨ n ≤ i.toNatClampNeg) then some (pc, L, t, dx_pI m k i.toNatClampNeg (vp_nar .byte x)) else none
    | some (.inr (2, n, _)) => if ¬ (i < 0 ∨ n ≤ i.toNatClampNeg) then some (pc, L, t, dx_pI m k i.toNatClampNeg (vp_nar .boolean x)) else none
    | _ => none
  | _ => none
def dx_dup (pc : Nat) (L st : List Value) (m : dx_M) : Option dx_F := match st with
  | .int x :: t => some (pc, L, .int x :: .int x :: t, m)
  | .ref x :: t => some (pc, L, .ref x :: .ref x :: t, m)
  | _ => none
def dx_dup2 (pc : Nat) (L st : List Value) (m : dx_M) : Option dx_F := match st with
  | .int x :: .ref y :: t => some (pc, L, .int x :: .ref y :: .int x :: .ref y :: t, m)
  | _ => none
def dx_unI (f : Int32 → Value) (pc : Nat) (L st : List Value) (m : dx_M) : Option dx_F := match st with
  | .int x :: t => some (pc, L, f x :: t, m)
  | _ => none
def dx_unL (f : Int64 → Value) (pc : Nat) (L st : List Value) (m : dx_M) : Option dx_F := match st with
  | .long x :: t => some (pc, L, f x :: t, m)
  | _ => none
def dx_lcm (pc : Nat) (L st : List Value) (m : dx_M) : Option dx_F := match st with
  | .long y :: .long x :: t => some (pc, L, .int (lg_cmp x y) :: t, m)
  | _ => none
def dx_ex (lay : List dx_Cell) (r : dx_I) (pc : Nat) (L st : List Value) (m : dx_M) : Option dx_F :=
  match r.1 with
  | .iconst _ => some (pc + 1, L, r.2.2.1 :: st, m)
  | .bipush _ => some (pc + 2, L, r.2.2.1 :: st, m)
  | .sipush _ => some (pc + 3, L, r.2.2.1 :: st, m)
  | .lconst _ => some (pc + 1, L, r.2.2.1 :: st, m)
  | .ldc_w _ => some (pc + 3, L, r.2.2.1 :: st, m)
  | .ldc2_w _ => some (pc + 3, L, r.2.2.1 :: st, m)
  | .iload_n k => dx_loI (pc + 1) L st m k.val
  | .iload k => dx_loI (pc + 2) L st m k
  | .lload_n k => dx_loL (pc + 1) L st m k.val
  | .lload k => dx_loL (pc + 2) L st m k
  | .aload_n k => dx_loA (pc + 1) L st m k.val
  | .aload k => dx_loA (pc + 2) L st m k
  | .istore_n k => dx_stI (pc + 1) L st m k.val
  | .istore k => dx_stI (pc + 2) L st m k
  | .lstore_n k => dx_stL (pc + 1) L st m k.val
  | .lstore k => dx_stL (pc + 2) L st m k
  | .astore_n k => dx_stA (pc + 1) L st m k.val
  | .astore k => dx_stA (pc + 2) L st m k
  | .iinc k _ => dx_inc (pc + 3) L st m k r.2.2.1
  | .iadd => dx_bI (fun x y => x + y) (pc + 1) L st m
  | .isub => dx_bI (fun x y => x - y) (pc + 1) L st m
  | .imul => dx_bI (fun x y => x * y) (pc + 1) L st m
  | .iand => dx_bI (fun x y => x &&& y) (pc + 1) L st m
  | .ior => dx_bI (fun x y => x ||| y) (pc + 1) L st m
  | .ixor => dx_bI (fun x y => x ^^^ y) (pc + 1) L st m
  | .ishl => dx_bI (fun x y => x <<< (y &&& 31)) (pc + 1) L st m
  | .ishr => dx_bI (fun x y => x >>> (y &&& 31)) (pc + 1) L st m
  | .iushr => dx_bI (fun x y => (x.toUInt32 >>> (y.toUInt32 &&& Int32.toUInt32 31)).toInt32) (pc + 1) L st m
  | .idiv => dx_dI (fun x y => x / y) (pc + 1) L st m
  | .irem => dx_dI (fun x y => x - x / y * y) (pc + 1) L st m
  | .ladd => dx_bL (fun x y => x + y) (pc + 1) L st m
  | .lsub => dx_bL (fun x y => x - y) (pc + 1) L st m
  | .lmul => dx_bL (fun x y => x * y) (pc + 1) L st m
  | .ldiv => dx_dL (fun x y => x / y) (pc + 1) L st m
  | .lrem => dx_dL (fun x y => x - x / y * y) (pc + 1) L st m
  | .lneg => dx_unL (fun x => .long (-x)) (pc + 1) L st m
  | .i2l => dx_unI (fun x => .long x.toInt64) (pc + 1) L st m
  | .i2b => dx_unI (fun x => .int x.toInt8.toInt32) (pc + 1) L st m
  | .lcmp => dx_lcm (pc + 1) L st m
  | .dup => dx_dup (pc + 1) L st m
  | .dup2 => dx_dup2 (pc + 1) L st m
  | .goto _ => some (r.2.2.2.1, L, st, m)
  | .ifCond .eq _ => dx_if1 (fun x => if x = 0 then r.2.2.2.1 else pc + 3) L st m
  | .ifCond .ne _ => dx_if1 (fun x => if x = 0 then pc + 3 else r.2.2.2.1) L st m
  | .ifCond .lt _ => dx_if1 (fun x => if x < 0 then r.2.2.2.1 else pc + 3) L st m
  | .ifCond .ge _ => dx_if1 (fun x => if 0 ≤ x then r.2.2.2.1 else pc + 3) L st m
  | .ifCond .gt _ => dx_if1 (fun x => if 0 < x then r.2.2.2.1 else pc + 3) L st m
  | .ifCond .le _ => dx_if1 (fun x => if x ≤ 0 then r.2.2.2.1 else pc + 3) L st m
  | .if_icmp .eq _ => dx_if2 (fun x y => if x = y then r.2.2.2.1 else pc + 3) L st m
  | .if_icmp .ne _ => dx_if2 (fun x y => if x = y then pc + 3 else r.2.2.2.1) L st m
  | .if_icmp .lt _ => dx_if2 (fun x y => if x < y then r.2.2.2.1 else pc + 3) L st m
  | .if_icmp .ge _ => dx_if2 (fun x y => if y ≤ x then r.2.2.2.1 else pc + 3) L st m
  | .if_icmp .gt _ => dx_if2 (fun x y => if y < x then r.2.2.2.1 else pc + 3) L st m
  | .if_icmp .le _ => dx_if2 (fun x y => if x ≤ y then r.2.2.2.1 else pc + 3) L st m
  | .tableswitch _ _ _ _ => dx_if1 (fun x => dx_sw r.2.2.2.2.2.2 x r.2.2.2.1) L st m
  | .getfield _ => dx_get lay r.2.2.2.1 r.2.2.2.2.1 (pc + 3) L st m
  | .putfield _ => dx_put lay r.2.2.2.1 r.2.2.2.2.1 (pc + 3) L st m
  | .iaload => dx_ald lay (pc + 1) L st m
  | .baload => dx_bld lay (pc + 1) L st m
  | .aaload => dx_aad lay (pc + 1) L st m
  | .iastore => dx_ast lay (pc + 1) L st m
  | .bastore => dx_bst lay (pc + 1) L st m
  | _ => none
/-- one plain step -/
def dx_stp (lay : List dx_Cell) (K : dx_K) (c : dx_F) : Option dx_F := match dx_look K.2.1 c.1 with
  | some r => dx_ex lay r c.1 c.2.1 c.2.2.1 c.2.2.2
  | none => none
/-- k plain steps -/
def dx_run (lay : List dx_Cell) (K : dx_K) : Nat → dx_F → Option dx_F
  | 0, c => some c
  | n + 1, c => match dx_stp lay K c with
    | some c' => dx_run lay K n c'
    | none => none
/-- a return: what is answered -/
def dx_rx (ret : Option FieldType) (i : Instr) (st : List Value) : Option (Option Value) := match i, ret, st with
  | .return_, none, [] => some none
  | .ireturn, some .int, [.int v] => some (some (.int v))
  | .ireturn, some .boolean, [.int v] => if v = 0 ∨ v = 1 then some (some (.int v)) else none
  | .lreturn, some .long, [.long v] => some (some (.long v))
  | _, _, _ => none
def dx_rt (K : dx_K) (c : dx_F) : Option (Option Value) := match dx_look K.2.1 c.1 with
  | some r => dx_rx K.1.2.2.2 r.1 c.2.2.1
  | none => none
/-- a call: which method, its arguments, what stays on the stack -/
def dx_cS (r : dx_I) (st : List Value) : Option (Nat × List Value × List Value) :=
  if (st.take r.2.2.2.2.2.1).length = r.2.2.2.2.2.1 ∧ ((st.drop r.2.2.2.2.2.1).map fun v => v.category).sum ≤ 8 then some (r.2.2.2.2.1, (st.take r.2.2.2.2.2.1).reverse, st.drop r.2.2.2.2.2.1) else none
def dx_cV (lay : List dx_Cell) (r : dx_I) (st : List Value) : Option (Nat × List Value × List Value) := match st.drop r.2.2.2.2.2.1, r.2.2.1 with
  | .ref k :: t, .ref ci => match lay[k]? with
    | some (.inl (cj, _)) => if cj = ci ∧ (st.take r.2.2.2.2.2.1).length = r.2.2.2.2.2.1 ∧ (t.map fun v => v.category).sum ≤ 8 then some (r.2.2.2.2.1, .ref k :: (st.take r.2.2.2.2.2.1).reverse, t) else none
    | _ => none
  | _, _ => none
def dx_cx (lay : List dx_Cell) (r : dx_I) (st : List Value) : Option (Nat × List Value × List Value) := match r.1, r.2.2.2.1 with
  | .invokevirtual _, 1 => dx_cV lay r st
  | .invokestatic _, 2 => dx_cS r st
  | .invokestatic _, 3 => dx_cS r st
  | _, _ => none
def dx_cl (lay : List dx_Cell) (K : dx_K) (c : dx_F) : Option (Nat × List Value × List Value) := match dx_look K.2.1 c.1 with
  | some r => dx_cx lay r c.2.2.1
  | none => none
/-- System.arraycopy of bytes -/
def dx_cpx (lay : List dx_Cell) (r : dx_I) (pc : Nat) (L st : List Value) (m : dx_M) : Option dx_F := match r.1, r.2.2.2.1, st with
  | .invokestatic _, 4, .int n :: .int j :: .ref k :: .int i :: .ref h :: t => match lay[h]?, lay[k]? with
    | some (.inr (1, n0, _)), some (.inr (1, n1, _)) => if ¬ i < 0 ∧ ¬ j < 0 ∧ ¬ n < 0 ∧ i.toNatClampNeg + n.toNatClampNeg ≤ n0 ∧ j.toNatClampNeg + n.toNatClampNeg ≤ n1 ∧ (∀ q, q < n.toNatClampNeg → fits .byte (.int (m.1 h (i.toNatClampNeg + q))) = true) ∧ (t.map fun v => v.category).sum ≤ 8 then some (pc + 3, L, t, dx_pR m k (va_cpy (m.1 h) (m.1 k) i.toNatClampNeg j.toNatClampNeg n.toNatClampNeg)) else none
    | _, _ => none
  | _, _, _ => none
/-- Math.max, Math.min, Math.abs of longs -/
def dx_mth (r : dx_I) (pc : Nat) (L st : List Value) (m : dx_M) : Option dx_F := match r.1, r.2.2.2.1, st with
  | .invokestatic _, 7, .int y :: .int x :: t => if (t.map fun v => v.category).sum ≤ 8 then some (pc + 3, L, .int (if x < y then y else x) :: t, m) else none
  | .invokestatic _, 8, .int y :: .int x :: t => if (t.map fun v => v.category).sum ≤ 8 then some (pc + 3, L, .int (if y < x then y else x) :: t, m) else none
  | .invokestatic _, 9, .long x :: t => if (t.map fun v => v.category).sum ≤ 8 then some (pc + 3, L, .long (if 0 < x then x else -x) :: t, m) else none
  | _, _, _ => none
def dx_cp (lay : List dx_Cell) (K : dx_K) (c : dx_F) : Option dx_F := match dx_look K.2.1 c.1 with
  | some r => match dx_mth r c.1 c.2.1 c.2.2.1 c.2.2.2 with
    | some c' => some c'
    | none => dx_cpx lay r c.1 c.2.1 c.2.2.1 c.2.2.2
  | none => none
/-- one move of a run that is to end with Z: a step, a return, a call, a copy -/
def dx_one (d : Nat) (C : Nat → List Value → dx_M → (Option Value → dx_M → Prop) → Prop) (lay : List dx_Cell) (K : dx_K) (Z : Option Value → dx_M → Prop) (X : dx_F → Prop) (c : dx_F) : Prop :=
  (∃ c', dx_stp lay K c = some c' ∧ X c') ∨ (∃ r, dx_rt K c = some r ∧ Z r c.2.2.2) ∨
  (∃ (id : Nat) (as rest : List Value), dx_cl lay K c = some (id, as, rest) ∧ C id as c.2.2.2 (fun r m' => X (c.1 + 3, c.2.1, r.toList ++ rest, m'))) ∨
  (1 ≤ d ∧ ∃ c', dx_cp lay K c = some c' ∧ X c')
def dx_Go (d : Nat) (C : Nat → List Value → dx_M → (Option Value → dx_M → Prop) → Prop) (lay : List dx_Cell) (K : dx_K) (Z : Option Value → dx_M → Prop) (c : dx_F) : Prop :=
  ∀ X : dx_F → Prop, (∀ c, dx_one d C lay K Z X c → X c) → X c
/-- the locals at a method's entry -/
def dx_ent : Nat → List Value → List Value
  | n, [] => List.replicate n .null
  | n, .long x :: t => .long x :: .null :: dx_ent (n - 2) t
  | n, .double x :: t => .double x :: .null :: dx_ent (n - 2) t
  | n, v :: t => v :: dx_ent (n - 1) t
/-- method id, with these arguments and this memory, at most d calls deep, returns with Z -/
def dx_Sem (P : List dx_K) (lay : List dx_Cell) : Nat → Nat → List Value → dx_M → (Option Value → dx_M → Prop) → Prop
  | 0, _, _, _, _ => False
  | d + 1, id, as, m, Z => ∃ K, P[id]? = some K ∧ (dx_ent K.1.2.2.1 as).length = K.1.2.2.1 ∧ dx_Go d (dx_Sem P lay d) lay K Z (0, dx_ent K.1.2.2.1 as, [], m)
def dx_mono (C : Nat → List Value → dx_M → (Option Value → dx_M → Prop) → Prop) : Prop := ∀ id as m Z Z', (∀ r m', Z r m' → Z' r m') → C id as m Z → C id as m Z'
theorem dx_Go_mono {d : Nat} {C : Nat → List Value → dx_M → (Option Value → dx_M → Prop) → Prop} {lay : List dx_Cell} {K : dx_K} {Z Z' : Option Value → dx_M → Prop} {c : dx_F} (h : ∀ r m', Z r m' → Z' r m') (g : dx_Go d C lay K Z c) : dx_Go d C lay K Z' c := by
  intro X hX
  refine g X (fun c hc => hX c ?_)
  rcases hc with a | ⟨r, a, b⟩ | a | a
  · exact Or.inl a
  · exact Or.inr (Or.inl ⟨r, a, h _ _ b⟩)
  · exact Or.inr (Or.inr (Or.inl a))
  · exact Or.inr (Or.inr (Or.inr a))
theorem dx_Sem_mono (P : List dx_K) (lay : List dx_Cell) : ∀ d, dx_mono (dx_Sem P lay d)
  | 0 => fun _ _ _ _ _ _ h => h
  | d + 1 => fun id as m Z Z' h ⟨K, hK, hn, g⟩ => ⟨K, hK, hn, dx_Go_mono h g⟩
section DXG
variable {d : Nat} {C : Nat → List Value → dx_M → (Option Value → dx_M → Prop) → Prop} {lay : List dx_Cell} {K : dx_K} {Z : Option Value → dx_M → Prop} {c : dx_F}
theorem dx_step {c' : dx_F} (h : dx_stp lay K c = some c') (k : dx_Go d C lay K Z c') : dx_Go d C lay K Z c := fun X hX => hX c (Or.inl ⟨c', h, k X hX⟩)
theorem dx_blk (n : Nat) {c' : dx_F} (h : dx_run lay K n c = some c') (k : dx_Go d C lay K Z c') : dx_Go d C lay K Z c := by
  induction n generalizing c with
  | zero => cases h; exact k
  | succ n ih =>
    unfold dx_run at h
    split at h
    · next c1 h1 => exact dx_step h1 (ih h)
    · cases h
theorem dx_ret {r : Option Value} (h : dx_rt K c = some r) (k : Z r c.2.2.2) : dx_Go d C lay K Z c := fun X hX => hX c (Or.inr (Or.inl ⟨r, h, k⟩))
theorem dx_copy {c' : dx_F} (h : dx_cp lay K c = some c') (k : dx_Go (d + 1) C lay K Z c') : dx_Go (d + 1) C lay K Z c := fun X hX => hX c (Or.inr (Or.inr (Or.inr ⟨Nat.le_add_left 1 d, c', h, k X hX⟩)))
theorem dx_br {q : Prop} [Decidable q] {a b : Nat} {L st : List Value} {m : dx_M} (h : dx_stp lay K c = some (if q then a else b, L, st, m)) (kt : q → dx_Go d C lay K Z (a, L, st, m)) (kf : ¬ q → dx_Go d C lay K Z (b, L, st, m)) : dx_Go d C lay K Z c := by
  by_cases hq : q
  · rw [if_pos hq] at h
    exact dx_step h (kt hq)
  · rw [if_neg hq] at h
    exact dx_step h (kf hq)
end DXG
theorem dx_call {P : List dx_K} {d d' : Nat} {lay : List dx_Cell} {K : dx_K} {Z : Option Value → dx_M → Prop} {c : dx_F} {id : Nat} {as rest : List Value} (h : dx_cl lay K c = some (id, as, rest)) (k : dx_Sem P lay d id as c.2.2.2 (fun r m' => dx_Go d' (dx_Sem P lay d) lay K Z (c.1 + 3, c.2.1, r.toList ++ rest, m'))) : dx_Go d' (dx_Sem P lay d) lay K Z c :=
  fun X hX => hX c (Or.inr (Or.inr (Or.inl ⟨id, as, rest, h, dx_Sem_mono P lay d _ _ _ _ _ (fun r m' g => g X hX) k⟩)))
theorem dx_sem {P : List dx_K} {d : Nat} {lay : List dx_Cell} {id : Nat} {as : List Value} {m : dx_M} {Z : Option Value → dx_M → Prop} (K : dx_K) (h : P[id]? = some K) (hn : (dx_ent K.1.2.2.1 as).length = K.1.2.2.1) (k : dx_Go d (dx_Sem P lay d) lay K Z (0, dx_ent K.1.2.2.1 as, [], m)) : dx_Sem P lay (d + 1) id as m Z := ⟨K, h, hn, k⟩
end
section
/-! THE PROGRAM as tables: printed by wip/whole/prog.py out of the names -/
def kp_J13 : List (Nat × Nat × Nat × Nat) := []
def kp_J6 : List (Nat × Nat × Nat × Nat) := [(265, 5, 1431656765, 0), (266, 5, 858994459, 0), (267, 5, 252646135, 0)]
def kp_X0 : List (Nat × Nat × Nat × Nat) := [(9, 0, 0, 0), (19, 0, 0, 1), (23, 0, 0, 2), (26, 3, 64, 3), (30, 1, 2, 2), (34, 7, 0, 0), (39, 3, 80, 5), (43, 3, 81, 5)]
def kp_X1 : List (Nat × Nat × Nat × Nat) := [(9, 0, 1, 0), (15, 0, 1, 1), (18, 1, 4, 1), (24, 0, 1, 2), (28, 1, 5, 1), (31, 0, 1, 3), (34, 0, 1, 4), (37, 0, 0, 2), (38, 0, 0, 1), (39, 1, 2, 2), (43, 3, 80, 5), (47, 3, 81, 5), (50, 1, 12, 17), (53, 1, 13, 16), (56, 1, 15, 16), (59, 0, 1, 5), (62, 1, 14, 17), (65, 2, 143, 1), (70, 0, 1, 6), (73, 1, 11, 17), (77, 0, 1, 7), (81, 0, 1, 8), (84, 7, 0, 0), (89, 1, 19, 17), (92, 1, 23, 16), (95, 0, 1, 9), (98, 0, 1, 10), (101, 6, 1004, 0), (103, 6, 1003, 0), (105, 6, 1012, 0)]
def kp_X2 : List (Nat × Nat × Nat × Nat) := [(9, 0, 2, 0), (15, 0, 2, 1), (19, 0, 2, 2), (22, 0, 2, 3), (25, 0, 2, 4), (28, 0, 2, 5)]
def kp_X3 : List (Nat × Nat × Nat × Nat) := [(12, 0, 3, 0), (19, 0, 3, 1), (25, 0, 3, 2), (32, 0, 3, 3), (35, 0, 3, 4), (39, 0, 3, 5), (42, 0, 3, 6), (46, 0, 3, 10), (50, 2, 64, 3), (54, 1, 0, 2), (58, 0, 3, 7), (61, 1, 1, 2), (65, 1, 2, 2), (69, 1, 3, 3), (73, 2, 66, 1), (77, 1, 70, 49), (81, 1, 69, 51), (84, 4, 0, 0), (90, 0, 0, 1), (93, 8, 0, 0), (98, 2, 67, 2), (101, 1, 24, 36), (104, 1, 68, 49), (107, 0, 2, 0), (111, 0, 2, 1), (114, 0, 2, 2), (117, 0, 2, 3), (120, 0, 2, 5), (123, 1, 25, 33), (126, 1, 74, 48), (130, 1, 6, 0), (133, 1, 7, 0), (136, 1, 75, 49), (139, 0, 1, 4), (142, 0, 1, 8), (145, 0, 1, 7), (148, 1, 71, 50), (152, 0, 1, 3), (155, 1, 20, 16), (159, 6, 1002, 0), (161, 1, 21, 16), (164, 1, 76, 49), (168, 1, 77, 49), (171, 2, 65, 1), (174, 1, 4, 1), (177, 1, 5, 1), (180, 1, 18, 18), (183, 1, 78, 49), (186, 1, 22, 16), (189, 0, 1, 9), (192, 0, 1, 10), (195, 1, 79, 49), (198, 1, 10, 18), (202, 1, 17, 16), (205, 1, 16, 18), (208, 1, 11, 17), (212, 0, 1, 5), (215, 0, 1, 6), (218, 0, 3, 9), (221, 0, 0, 2), (222, 1, 73, 48), (225, 0, 3, 8), (228, 6, 1031, 0), (230, 6, 1017, 0), (232, 1, 61, 49), (236, 1, 62, 49), (239, 1, 63, 49), (242, 6, 999, 0), (244, 9, 0, 0), (247, 2, 72, 2), (251, 0, 2, 4), (253, 1, 8, 1), (254, 2, 80, 5), (258, 1, 9, 1), (259, 2, 81, 5), (262, 2, 144, 2)]
def kp_X4 : List (Nat × Nat × Nat × Nat) := [(7, 0, 4, 1), (13, 0, 4, 7), (16, 0, 4, 8), (19, 0, 4, 9), (23, 0, 4, 10), (26, 0, 4, 12), (29, 0, 4, 13), (32, 0, 4, 14), (35, 0, 4, 15), (38, 0, 4, 16), (41, 0, 4, 17), (45, 0, 4, 20), (48, 0, 4, 23), (51, 0, 4, 6), (55, 0, 4, 3), (59, 1, 90, 66), (63, 0, 4, 0), (66, 2, 82, 3), (70, 2, 86, 2), (74, 0, 4, 2), (77, 0, 4, 4), (80, 0, 4, 5), (83, 0, 4, 11), (86, 1, 92, 66), (90, 2, 96, 1), (94, 1, 83, 65), (98, 2, 102, 2), (101, 1, 104, 66), (105, 1, 108, 66), (109, 1, 112, 64), (113, 1, 111, 64), (116, 0, 4, 18), (119, 0, 4, 19), (122, 0, 4, 21), (125, 0, 4, 22), (128, 1, 116, 67), (131, 1, 118, 65), (134, 1, 117, 65), (138, 1, 119, 65), (141, 0, 4, 24), (144, 0, 4, 27), (147, 0, 4, 28), (150, 0, 4, 25), (153, 0, 4, 26), (156, 1, 113, 64), (159, 1, 115, 65), (162, 1, 120, 65), (165, 1, 121, 66), (168, 1, 87, 66), (172, 0, 4, 29), (175, 0, 4, 30), (178, 0, 4, 31), (181, 1, 125, 64), (184, 0, 4, 32), (187, 6, 1002, 0), (189, 0, 4, 33), (192, 0, 4, 34), (195, 0, 4, 35), (198, 1, 126, 64), (201, 1, 129, 64), (205, 6, 1003, 0), (207, 6, 1004, 0), (209, 0, 4, 36), (212, 6, 1012, 0), (214, 0, 4, 37), (217, 1, 131, 65), (220, 1, 132, 64), (223, 1, 134, 64), (226, 1, 137, 64), (229, 6, 1031, 0), (231, 6, 1527, 0)]
def kr_X0_begin : List (Nat × dx_I) := [(0, (.aload_n 0, 1, .null, 0, 0, 0, [])), (1, (.iload_n 1, 1, .null, 0, 0, 0, [])), (2, (.putfield 19, 3, .null, 0, 1, 0, [])), (5, (.aload_n 0, 1, .null, 0, 0, 0, [])), (6, (.iload_n 2, 1, .null, 0, 0, 0, [])), (7, (.putfield 23, 3, .null, 0, 2, 0, [])), (10, (.iconst 0, 1, .int 0, 0, 0, 0, [])), (11, (.istore_n 3, 1, .null, 0, 0, 0, [])), (12, (.iload_n 3, 1, .null, 0, 0, 0, [])), (13, (.sipush 144, 3, .int 144, 0, 0, 0, [])), (16, (.if_icmp .ge 17, 3, .null, 33, 0, 0, [])), (19, (.aload_n 0, 1, .null, 0, 0, 0, [])), (20, (.getfield 9, 3, .null, 0, 0, 0, [])), (23, (.iload_n 3, 1, .null, 0, 0, 0, [])), (24, (.bipush (-9), 2, .int (-9), 0, 0, 0, [])), (26, (.iastore, 1, .null, 0, 0, 0, [])), (27, (.iinc 3 1, 3, .int 1, 0, 0, 0, [])), (30, (.goto (-18), 3, .null, 12, 0, 0, [])), (33, (.return_, 1, .null, 0, 0, 0, []))]
def km_X0_begin : dx_K := ((yX0_begin, cX0_begin, 4, none), kr_X0_begin, kp_X0)
def kr_X0_has : List (Nat × dx_I) := [(0, (.iload_n 1, 1, .null, 0, 0, 0, [])), (1, (.iconst 0, 1, .int 0, 0, 0, 0, [])), (2, (.aload_n 0, 1, .null, 0, 0, 0, [])), (3, (.getfield 19, 3, .null, 0, 1, 0, [])), (6, (.iconst 1, 1, .int 1, 0, 0, 0, [])), (7, (.isub, 1, .null, 0, 0, 0, [])), (8, (.invokestatic 26, 3, .null, 3, 64, 3, [])), (11, (.ifCond .eq 21, 3, .null, 32, 0, 0, [])), (14, (.iload_n 2, 1, .null, 0, 0, 0, [])), (15, (.iconst 0, 1, .int 0, 0, 0, 0, [])), (16, (.aload_n 0, 1, .null, 0, 0, 0, [])), (17, (.getfield 23, 3, .null, 0, 2, 0, [])), (20, (.iconst 1, 1, .int 1, 0, 0, 0, [])), (21, (.isub, 1, .null, 0, 0, 0, [])), (22, (.invokestatic 26, 3, .null, 3, 64, 3, [])), (25, (.ifCond .eq 7, 3, .null, 32, 0, 0, [])), (28, (.iconst 1, 1, .int 1, 0, 0, 0, [])), (29, (.goto 4, 3, .null, 33, 0, 0, [])), (32, (.iconst 0, 1, .int 0, 0, 0, 0, [])), (33, (.ireturn, 1, .null, 0, 0, 0, []))]
def km_X0_has : dx_K := ((yX0_has, cX0_has, 3, some .boolean), kr_X0_has, kp_X0)
def kr_X0_weightOf : List (Nat × dx_I) := [(0, (.aload_n 0, 1, .null, 0, 0, 0, [])), (1, (.getfield 9, 3, .null, 0, 0, 0, [])), (4, (.iload_n 2, 1, .null, 0, 0, 0, [])), (5, (.bipush 12, 2, .int 12, 0, 0, 0, [])), (7, (.imul, 1, .null, 0, 0, 0, [])), (8, (.iload_n 1, 1, .null, 0, 0, 0, [])), (9, (.iadd, 1, .null, 0, 0, 0, [])), (10, (.iaload, 1, .null, 0, 0, 0, [])), (11, (.ireturn, 1, .null, 0, 0, 0, []))]
def km_X0_weightOf : dx_K := ((yX0_weightOf, cX0_weightOf, 3, some .int), kr_X0_weightOf, kp_X0)
def kr_X0_put : List (Nat × dx_I) := [(0, (.aload_n 0, 1, .null, 0, 0, 0, [])), (1, (.getfield 9, 3, .null, 0, 0, 0, [])), (4, (.iload_n 2, 1, .null, 0, 0, 0, [])), (5, (.bipush 12, 2, .int 12, 0, 0, 0, [])), (7, (.imul, 1, .null, 0, 0, 0, [])), (8, (.iload_n 1, 1, .null, 0, 0, 0, [])), (9, (.iadd, 1, .null, 0, 0, 0, [])), (10, (.iload_n 3, 1, .null, 0, 0, 0, [])), (11, (.iastore, 1, .null, 0, 0, 0, [])), (12, (.return_, 1, .null, 0, 0, 0, []))]
def km_X0_put : dx_K := ((yX0_put, cX0_put, 4, none), kr_X0_put, kp_X0)
def kr_X0_across : List (Nat × dx_I) := [(0, (.iload_n 1, 1, .null, 0, 0, 0, [])), (1, (.iconst 2, 1, .int 2, 0, 0, 0, [])), (2, (.irem, 1, .null, 0, 0, 0, [])), (3, (.ifCond .ne 10, 3, .null, 13, 0, 0, [])), (6, (.aload_n 0, 1, .null, 0, 0, 0, [])), (7, (.getfield 19, 3, .null, 0, 1, 0, [])), (10, (.goto 7, 3, .null, 17, 0, 0, [])), (13, (.aload_n 0, 1, .null, 0, 0, 0, [])), (14, (.getfield 23, 3, .null, 0, 2, 0, [])), (17, (.ireturn, 1, .null, 0, 0, 0, []))]
def km_X0_across : dx_K := ((yX0_across, cX0_across, 2, some .int), kr_X0_across, kp_X0)
def kr_X0_up : List (Nat × dx_I) := [(0, (.iload_n 1, 1, .null, 0, 0, 0, [])), (1, (.iconst 2, 1, .int 2, 0, 0, 0, [])), (2, (.irem, 1, .null, 0, 0, 0, [])), (3, (.ifCond .ne 10, 3, .null, 13, 0, 0, [])), (6, (.aload_n 0, 1, .null, 0, 0, 0, [])), (7, (.getfield 23, 3, .null, 0, 2, 0, [])), (10, (.goto 7, 3, .null, 17, 0, 0, [])), (13, (.aload_n 0, 1, .null, 0, 0, 0, [])), (14, (.getfield 19, 3, .null, 0, 1, 0, [])), (17, (.ireturn, 1, .null, 0, 0, 0, []))]
def km_X0_up : dx_K := ((yX0_up, cX0_up, 2, some .int), kr_X0_up, kp_X0)
def kr_X0_squares : List (Nat × dx_I) := [(0, (.iconst 0, 1, .int 0, 0, 0, 0, [])), (1, (.istore_n 1, 1, .null, 0, 0, 0, [])), (2, (.iconst 0, 1, .int 0, 0, 0, 0, [])), (3, (.istore_n 2, 1, .null, 0, 0, 0, [])), (4, (.iload_n 2, 1, .null, 0, 0, 0, [])), (5, (.sipush 144, 3, .int 144, 0, 0, 0, [])), (8, (.if_icmp .ge 28, 3, .null, 36, 0, 0, [])), (11, (.iload_n 1, 1, .null, 0, 0, 0, [])), (12, (.aload_n 0, 1, .null, 0, 0, 0, [])), (13, (.getfield 9, 3, .null, 0, 0, 0, [])), (16, (.iload_n 2, 1, .null, 0, 0, 0, [])), (17, (.iaload, 1, .null, 0, 0, 0, [])), (18, (.bipush (-9), 2, .int (-9), 0, 0, 0, [])), (20, (.if_icmp .ne 7, 3, .null, 27, 0, 0, [])), (23, (.iconst 0, 1, .int 0, 0, 0, 0, [])), (24, (.goto 4, 3, .null, 28, 0, 0, [])), (27, (.iconst 1, 1, .int 1, 0, 0, 0, [])), (28, (.iadd, 1, .null, 0, 0, 0, [])), (29, (.istore_n 1, 1, .null, 0, 0, 0, [])), (30, (.iinc 2 1, 3, .int 1, 0, 0, 0, [])), (33, (.goto (-29), 3, .null, 4, 0, 0, [])), (36, (.iload_n 1, 1, .null, 0, 0, 0, [])), (37, (.ireturn, 1, .null, 0, 0, 0, []))]
def km_X0_squares : dx_K := ((yX0_squares, cX0_squares, 3, some .int), kr_X0_squares, kp_X0)
def kr_X0_weight : List (Nat × dx_I) := [(0, (.iconst 0, 1, .int 0, 0, 0, 0, [])), (1, (.istore_n 1, 1, .null, 0, 0, 0, [])), (2, (.iconst 0, 1, .int 0, 0, 0, 0, [])), (3, (.istore_n 2, 1, .null, 0, 0, 0, [])), (4, (.iload_n 2, 1, .null, 0, 0, 0, [])), (5, (.sipush 144, 3, .int 144, 0, 0, 0, [])), (8, (.if_icmp .ge 33, 3, .null, 41, 0, 0, [])), (11, (.iload_n 1, 1, .null, 0, 0, 0, [])), (12, (.aload_n 0, 1, .null, 0, 0, 0, [])), (13, (.getfield 9, 3, .null, 0, 0, 0, [])), (16, (.iload_n 2, 1, .null, 0, 0, 0, [])), (17, (.iaload, 1, .null, 0, 0, 0, [])), (18, (.bipush (-9), 2, .int (-9), 0, 0, 0, [])), (20, (.if_icmp .ne 7, 3, .null, 27, 0, 0, [])), (23, (.iconst 0, 1, .int 0, 0, 0, 0, [])), (24, (.goto 9, 3, .null, 33, 0, 0, [])), (27, (.aload_n 0, 1, .null, 0, 0, 0, [])), (28, (.getfield 9, 3, .null, 0, 0, 0, [])), (31, (.iload_n 2, 1, .null, 0, 0, 0, [])), (32, (.iaload, 1, .null, 0, 0, 0, [])), (33, (.iadd, 1, .null, 0, 0, 0, [])), (34, (.istore_n 1, 1, .null, 0, 0, 0, [])), (35, (.iinc 2 1, 3, .int 1, 0, 0, 0, [])), (38, (.goto (-34), 3, .null, 4, 0, 0, [])), (41, (.iload_n 1, 1, .null, 0, 0, 0, [])), (42, (.ireturn, 1, .null, 0, 0, 0, []))]
def km_X0_weight : dx_K := ((yX0_weight, cX0_weight, 3, some .int), kr_X0_weight, kp_X0)
def kr_X0_weightAcross : List (Nat × dx_I) := [(0, (.lconst 0, 1, .long 0, 0, 0, 0, [])), (1, (.lstore_n 2, 1, .null, 0, 0, 0, [])), (2, (.iconst 0, 1, .int 0, 0, 0, 0, [])), (3, (.istore 4, 2, .null, 0, 0, 0, [])), (5, (.iload 4, 2, .null, 0, 0, 0, [])), (7, (.aload_n 0, 1, .null, 0, 0, 0, [])), (8, (.getfield 23, 3, .null, 0, 2, 0, [])), (11, (.if_icmp .ge 72, 3, .null, 83, 0, 0, [])), (14, (.iconst 0, 1, .int 0, 0, 0, 0, [])), (15, (.istore 5, 2, .null, 0, 0, 0, [])), (17, (.iload 5, 2, .null, 0, 0, 0, [])), (19, (.aload_n 0, 1, .null, 0, 0, 0, [])), (20, (.getfield 19, 3, .null, 0, 1, 0, [])), (23, (.if_icmp .ge 54, 3, .null, 77, 0, 0, [])), (26, (.aload_n 0, 1, .null, 0, 0, 0, [])), (27, (.iload 5, 2, .null, 0, 0, 0, [])), (29, (.iload 4, 2, .null, 0, 0, 0, [])), (31, (.invokevirtual 30, 3, .ref 0, 1, 2, 2, [])), (34, (.iconst 0, 1, .int 0, 0, 0, 0, [])), (35, (.invokestatic 34, 3, .null, 7, 0, 0, [])), (38, (.istore 6, 2, .null, 0, 0, 0, [])), (40, (.lload_n 2, 1, .null, 0, 0, 0, [])), (41, (.iload 6, 2, .null, 0, 0, 0, [])), (43, (.iconst 2, 1, .int 2, 0, 0, 0, [])), (44, (.iload_n 1, 1, .null, 0, 0, 0, [])), (45, (.iload 5, 2, .null, 0, 0, 0, [])), (47, (.iload 4, 2, .null, 0, 0, 0, [])), (49, (.aload_n 0, 1, .null, 0, 0, 0, [])), (50, (.getfield 19, 3, .null, 0, 1, 0, [])), (53, (.iconst 1, 1, .int 1, 0, 0, 0, [])), (54, (.isub, 1, .null, 0, 0, 0, [])), (55, (.aload_n 0, 1, .null, 0, 0, 0, [])), (56, (.getfield 23, 3, .null, 0, 2, 0, [])), (59, (.iconst 1, 1, .int 1, 0, 0, 0, [])), (60, (.isub, 1, .null, 0, 0, 0, [])), (61, (.invokestatic 39, 3, .null, 3, 80, 5, [])), (64, (.imul, 1, .null, 0, 0, 0, [])), (65, (.iconst 1, 1, .int 1, 0, 0, 0, [])), (66, (.iadd, 1, .null, 0, 0, 0, [])), (67, (.imul, 1, .null, 0, 0, 0, [])), (68, (.i2l, 1, .null, 0, 0, 0, [])), (69, (.ladd, 1, .null, 0, 0, 0, [])), (70, (.lstore_n 2, 1, .null, 0, 0, 0, [])), (71, (.iinc 5 1, 3, .int 1, 0, 0, 0, [])), (74, (.goto (-57), 3, .null, 17, 0, 0, [])), (77, (.iinc 4 1, 3, .int 1, 0, 0, 0, [])), (80, (.goto (-75), 3, .null, 5, 0, 0, [])), (83, (.lload_n 2, 1, .null, 0, 0, 0, [])), (84, (.lreturn, 1, .null, 0, 0, 0, []))]
def km_X0_weightAcross : dx_K := ((yX0_weightAcross, cX0_weightAcross, 7, some .long), kr_X0_weightAcross, kp_X0)
def kr_X0_weightUp : List (Nat × dx_I) := [(0, (.lconst 0, 1, .long 0, 0, 0, 0, [])), (1, (.lstore_n 2, 1, .null, 0, 0, 0, [])), (2, (.iconst 0, 1, .int 0, 0, 0, 0, [])), (3, (.istore 4, 2, .null, 0, 0, 0, [])), (5, (.iload 4, 2, .null, 0, 0, 0, [])), (7, (.aload_n 0, 1, .null, 0, 0, 0, [])), (8, (.getfield 23, 3, .null, 0, 2, 0, [])), (11, (.if_icmp .ge 72, 3, .null, 83, 0, 0, [])), (14, (.iconst 0, 1, .int 0, 0, 0, 0, [])), (15, (.istore 5, 2, .null, 0, 0, 0, [])), (17, (.iload 5, 2, .null, 0, 0, 0, [])), (19, (.aload_n 0, 1, .null, 0, 0, 0, [])), (20, (.getfield 19, 3, .null, 0, 1, 0, [])), (23, (.if_icmp .ge 54, 3, .null, 77, 0, 0, [])), (26, (.aload_n 0, 1, .null, 0, 0, 0, [])), (27, (.iload 5, 2, .null, 0, 0, 0, [])), (29, (.iload 4, 2, .null, 0, 0, 0, [])), (31, (.invokevirtual 30, 3, .ref 0, 1, 2, 2, [])), (34, (.iconst 0, 1, .int 0, 0, 0, 0, [])), (35, (.invokestatic 34, 3, .null, 7, 0, 0, [])), (38, (.istore 6, 2, .null, 0, 0, 0, [])), (40, (.lload_n 2, 1, .null, 0, 0, 0, [])), (41, (.iload 6, 2, .null, 0, 0, 0, [])), (43, (.iconst 2, 1, .int 2, 0, 0, 0, [])), (44, (.iload_n 1, 1, .null, 0, 0, 0, [])), (45, (.iload 5, 2, .null, 0, 0, 0, [])), (47, (.iload 4, 2, .null, 0, 0, 0, [])), (49, (.aload_n 0, 1, .null, 0, 0, 0, [])), (50, (.getfield 19, 3, .null, 0, 1, 0, [])), (53, (.iconst 1, 1, .int 1, 0, 0, 0, [])), (54, (.isub, 1, .null, 0, 0, 0, [])), (55, (.aload_n 0, 1, .null, 0, 0, 0, [])), (56, (.getfield 23, 3, .null, 0, 2, 0, [])), (59, (.iconst 1, 1, .int 1, 0, 0, 0, [])), (60, (.isub, 1, .null, 0, 0, 0, [])), (61, (.invokestatic 43, 3, .null, 3, 81, 5, [])), (64, (.imul, 1, .null, 0, 0, 0, [])), (65, (.iconst 1, 1, .int 1, 0, 0, 0, [])), (66, (.iadd, 1, .null, 0, 0, 0, [])), (67, (.imul, 1, .null, 0, 0, 0, [])), (68, (.i2l, 1, .null, 0, 0, 0, [])), (69, (.ladd, 1, .null, 0, 0, 0, [])), (70, (.lstore_n 2, 1, .null, 0, 0, 0, [])), (71, (.iinc 5 1, 3, .int 1, 0, 0, 0, [])), (74, (.goto (-57), 3, .null, 17, 0, 0, [])), (77, (.iinc 4 1, 3, .int 1, 0, 0, 0, [])), (80, (.goto (-75), 3, .null, 5, 0, 0, [])), (83, (.lload_n 2, 1, .null, 0, 0, 0, [])), (84, (.lreturn, 1, .null, 0, 0, 0, []))]
def km_X0_weightUp : dx_K := ((yX0_weightUp, cX0_weightUp, 7, some .long), kr_X0_weightUp, kp_X0)
def kr_X1_turnTo : List (Nat × dx_I) := [(0, (.aload_n 0, 1, .null, 0, 0, 0, [])), (1, (.aload_n 1, 1, .null, 0, 0, 0, [])), (2, (.iload_n 2, 1, .null, 0, 0, 0, [])), (3, (.invokevirtual 18, 3, .ref 0, 1, 4, 1, [])), (6, (.putfield 24, 3, .null, 1, 2, 0, [])), (9, (.aload_n 0, 1, .null, 0, 0, 0, [])), (10, (.aload_n 1, 1, .null, 0, 0, 0, [])), (11, (.iload_n 2, 1, .null, 0, 0, 0, [])), (12, (.invokevirtual 28, 3, .ref 0, 1, 5, 1, [])), (15, (.putfield 31, 3, .null, 1, 3, 0, [])), (18, (.aload_n 0, 1, .null, 0, 0, 0, [])), (19, (.iconst (-1), 1, .int (-1), 0, 0, 0, [])), (20, (.putfield 34, 3, .null, 1, 4, 0, [])), (23, (.iconst 0, 1, .int 0, 0, 0, 0, [])), (24, (.istore_n 3, 1, .null, 0, 0, 0, [])), (25, (.iload_n 3, 1, .null, 0, 0, 0, [])), (26, (.bipush 12, 2, .int 12, 0, 0, 0, [])), (28, (.if_icmp .ge 23, 3, .null, 51, 0, 0, [])), (31, (.aload_n 0, 1, .null, 0, 0, 0, [])), (32, (.getfield 9, 3, .null, 1, 0, 0, [])), (35, (.iload_n 3, 1, .null, 0, 0, 0, [])), (36, (.iconst 0, 1, .int 0, 0, 0, 0, [])), (37, (.iastore, 1, .null, 0, 0, 0, [])), (38, (.aload_n 0, 1, .null, 0, 0, 0, [])), (39, (.getfield 15, 3, .null, 1, 1, 0, [])), (42, (.iload_n 3, 1, .null, 0, 0, 0, [])), (43, (.iconst 0, 1, .int 0, 0, 0, 0, [])), (44, (.iastore, 1, .null, 0, 0, 0, [])), (45, (.iinc 3 1, 3, .int 1, 0, 0, 0, [])), (48, (.goto (-23), 3, .null, 25, 0, 0, [])), (51, (.iconst 0, 1, .int 0, 0, 0, 0, [])), (52, (.istore_n 3, 1, .null, 0, 0, 0, [])), (53, (.iload_n 3, 1, .null, 0, 0, 0, [])), (54, (.aload_n 1, 1, .null, 0, 0, 0, [])), (55, (.getfield 37, 3, .null, 0, 2, 0, [])), (58, (.if_icmp .ge 91, 3, .null, 149, 0, 0, [])), (61, (.iconst 0, 1, .int 0, 0, 0, 0, [])), (62, (.istore 4, 2, .null, 0, 0, 0, [])), (64, (.iload 4, 2, .null, 0, 0, 0, [])), (66, (.aload_n 1, 1, .null, 0, 0, 0, [])), (67, (.getfield 38, 3, .null, 0, 1, 0, [])), (70, (.if_icmp .ge 73, 3, .null, 143, 0, 0, [])), (73, (.aload_n 1, 1, .null, 0, 0, 0, [])), (74, (.iload 4, 2, .null, 0, 0, 0, [])), (76, (.iload_n 3, 1, .null, 0, 0, 0, [])), (77, (.invokevirtual 39, 3, .ref 0, 1, 2, 2, [])), (80, (.bipush (-9), 2, .int (-9), 0, 0, 0, [])), (82, (.if_icmp .ne 55, 3, .null, 137, 0, 0, [])), (85, (.iconst 1, 1, .int 1, 0, 0, 0, [])), (86, (.iload_n 2, 1, .null, 0, 0, 0, [])), (87, (.iload 4, 2, .null, 0, 0, 0, [])), (89, (.iload_n 3, 1, .null, 0, 0, 0, [])), (90, (.aload_n 1, 1, .null, 0, 0, 0, [])), (91, (.getfield 38, 3, .null, 0, 1, 0, [])), (94, (.iconst 1, 1, .int 1, 0, 0, 0, [])), (95, (.isub, 1, .null, 0, 0, 0, [])), (96, (.aload_n 1, 1, .null, 0, 0, 0, [])), (97, (.getfield 37, 3, .null, 0, 2, 0, [])), (100, (.iconst 1, 1, .int 1, 0, 0, 0, [])), (101, (.isub, 1, .null, 0, 0, 0, [])), (102, (.invokestatic 43, 3, .null, 3, 80, 5, [])), (105, (.ishl, 1, .null, 0, 0, 0, [])), (106, (.istore 5, 2, .null, 0, 0, 0, [])), (108, (.aload_n 0, 1, .null, 0, 0, 0, [])), (109, (.getfield 9, 3, .null, 1, 0, 0, [])), (112, (.iload_n 2, 1, .null, 0, 0, 0, [])), (113, (.iload 4, 2, .null, 0, 0, 0, [])), (115, (.iload_n 3, 1, .null, 0, 0, 0, [])), (116, (.aload_n 1, 1, .null, 0, 0, 0, [])), (117, (.getfield 38, 3, .null, 0, 1, 0, [])), (120, (.iconst 1, 1, .int 1, 0, 0, 0, [])), (121, (.isub, 1, .null, 0, 0, 0, [])), (122, (.aload_n 1, 1, .null, 0, 0, 0, [])), (123, (.getfield 37, 3, .null, 0, 2, 0, [])), (126, (.iconst 1, 1, .int 1, 0, 0, 0, [])), (127, (.isub, 1, .null, 0, 0, 0, [])), (128, (.invokestatic 47, 3, .null, 3, 81, 5, [])), (131, (.dup2, 1, .null, 0, 0, 0, [])), (132, (.iaload, 1, .null, 0, 0, 0, [])), (133, (.iload 5, 2, .null, 0, 0, 0, [])), (135, (.ior, 1, .null, 0, 0, 0, [])), (136, (.iastore, 1, .null, 0, 0, 0, [])), (137, (.iinc 4 1, 3, .int 1, 0, 0, 0, [])), (140, (.goto (-76), 3, .null, 64, 0, 0, [])), (143, (.iinc 3 1, 3, .int 1, 0, 0, 0, [])), (146, (.goto (-93), 3, .null, 53, 0, 0, [])), (149, (.return_, 1, .null, 0, 0, 0, []))]
def km_X1_turnTo : dx_K := ((yX1_turnTo, cX1_turnTo, 6, none), kr_X1_turnTo, kp_X1)
def kr_X1_riseTo : List (Nat × dx_I) := [(0, (.aload_n 0, 1, .null, 0, 0, 0, [])), (1, (.getfield 34, 3, .null, 1, 4, 0, [])), (4, (.iload_n 1, 1, .null, 0, 0, 0, [])), (5, (.if_icmp .ge 60, 3, .null, 65, 0, 0, [])), (8, (.aload_n 0, 1, .null, 0, 0, 0, [])), (9, (.getfield 34, 3, .null, 1, 4, 0, [])), (12, (.iconst 1, 1, .int 1, 0, 0, 0, [])), (13, (.iadd, 1, .null, 0, 0, 0, [])), (14, (.aload_n 0, 1, .null, 0, 0, 0, [])), (15, (.getfield 31, 3, .null, 1, 3, 0, [])), (18, (.if_icmp .ge 47, 3, .null, 65, 0, 0, [])), (21, (.aload_n 0, 1, .null, 0, 0, 0, [])), (22, (.dup, 1, .null, 0, 0, 0, [])), (23, (.getfield 34, 3, .null, 1, 4, 0, [])), (26, (.iconst 1, 1, .int 1, 0, 0, 0, [])), (27, (.iadd, 1, .null, 0, 0, 0, [])), (28, (.putfield 34, 3, .null, 1, 4, 0, [])), (31, (.aload_n 0, 1, .null, 0, 0, 0, [])), (32, (.getfield 15, 3, .null, 1, 1, 0, [])), (35, (.aload_n 0, 1, .null, 0, 0, 0, [])), (36, (.getfield 34, 3, .null, 1, 4, 0, [])), (39, (.aload_n 0, 1, .null, 0, 0, 0, [])), (40, (.getfield 9, 3, .null, 1, 0, 0, [])), (43, (.aload_n 0, 1, .null, 0, 0, 0, [])), (44, (.getfield 34, 3, .null, 1, 4, 0, [])), (47, (.iaload, 1, .null, 0, 0, 0, [])), (48, (.aload_n 0, 1, .null, 0, 0, 0, [])), (49, (.aload_n 0, 1, .null, 0, 0, 0, [])), (50, (.getfield 34, 3, .null, 1, 4, 0, [])), (53, (.invokevirtual 50, 3, .ref 1, 1, 12, 1, [])), (56, (.iand, 1, .null, 0, 0, 0, [])), (57, (.iastore, 1, .null, 0, 0, 0, [])), (58, (.aload_n 0, 1, .null, 0, 0, 0, [])), (59, (.invokevirtual 53, 3, .ref 1, 1, 13, 0, [])), (62, (.goto (-62), 3, .null, 0, 0, 0, [])), (65, (.aload_n 0, 1, .null, 0, 0, 0, [])), (66, (.invokevirtual 56, 3, .ref 1, 1, 15, 0, [])), (69, (.return_, 1, .null, 0, 0, 0, []))]
def km_X1_riseTo : dx_K := ((yX1_riseTo, cX1_riseTo, 2, none), kr_X1_riseTo, kp_X1)
def kr_X1_waysInto : List (Nat × dx_I) := [(0, (.iconst 1, 1, .int 1, 0, 0, 0, [])), (1, (.aload_n 0, 1, .null, 0, 0, 0, [])), (2, (.getfield 24, 3, .null, 1, 2, 0, [])), (5, (.ishl, 1, .null, 0, 0, 0, [])), (6, (.iconst 1, 1, .int 1, 0, 0, 0, [])), (7, (.isub, 1, .null, 0, 0, 0, [])), (8, (.istore_n 2, 1, .null, 0, 0, 0, [])), (9, (.iconst 1, 1, .int 1, 0, 0, 0, [])), (10, (.iconst 1, 1, .int 1, 0, 0, 0, [])), (11, (.aload_n 0, 1, .null, 0, 0, 0, [])), (12, (.getfield 24, 3, .null, 1, 2, 0, [])), (15, (.iconst 1, 1, .int 1, 0, 0, 0, [])), (16, (.isub, 1, .null, 0, 0, 0, [])), (17, (.ishl, 1, .null, 0, 0, 0, [])), (18, (.ior, 1, .null, 0, 0, 0, [])), (19, (.istore_n 3, 1, .null, 0, 0, 0, [])), (20, (.iload_n 1, 1, .null, 0, 0, 0, [])), (21, (.ifCond .ne 7, 3, .null, 28, 0, 0, [])), (24, (.iload_n 2, 1, .null, 0, 0, 0, [])), (25, (.goto 4, 3, .null, 29, 0, 0, [])), (28, (.iload_n 3, 1, .null, 0, 0, 0, [])), (29, (.ireturn, 1, .null, 0, 0, 0, []))]
def km_X1_waysInto : dx_K := ((yX1_waysInto, cX1_waysInto, 4, some .int), kr_X1_waysInto, kp_X1)
def kr_X1_spread : List (Nat × dx_I) := [(0, (.iconst 1, 1, .int 1, 0, 0, 0, [])), (1, (.istore_n 1, 1, .null, 0, 0, 0, [])), (2, (.iconst 0, 1, .int 0, 0, 0, 0, [])), (3, (.istore_n 2, 1, .null, 0, 0, 0, [])), (4, (.iload_n 1, 1, .null, 0, 0, 0, [])), (5, (.ifCond .eq 144, 3, .null, 149, 0, 0, [])), (8, (.iload_n 2, 1, .null, 0, 0, 0, [])), (9, (.sipush 144, 3, .int 144, 0, 0, 0, [])), (12, (.if_icmp .gt 137, 3, .null, 149, 0, 0, [])), (15, (.iconst 0, 1, .int 0, 0, 0, 0, [])), (16, (.istore_n 1, 1, .null, 0, 0, 0, [])), (17, (.iconst 0, 1, .int 0, 0, 0, 0, [])), (18, (.istore_n 3, 1, .null, 0, 0, 0, [])), (19, (.iload_n 3, 1, .null, 0, 0, 0, [])), (20, (.aload_n 0, 1, .null, 0, 0, 0, [])), (21, (.getfield 34, 3, .null, 1, 4, 0, [])), (24, (.if_icmp .gt 119, 3, .null, 143, 0, 0, [])), (27, (.aload_n 0, 1, .null, 0, 0, 0, [])), (28, (.getfield 15, 3, .null, 1, 1, 0, [])), (31, (.iload_n 3, 1, .null, 0, 0, 0, [])), (32, (.iaload, 1, .null, 0, 0, 0, [])), (33, (.aload_n 0, 1, .null, 0, 0, 0, [])), (34, (.getfield 15, 3, .null, 1, 1, 0, [])), (37, (.iload_n 3, 1, .null, 0, 0, 0, [])), (38, (.iaload, 1, .null, 0, 0, 0, [])), (39, (.iconst 1, 1, .int 1, 0, 0, 0, [])), (40, (.ishl, 1, .null, 0, 0, 0, [])), (41, (.ior, 1, .null, 0, 0, 0, [])), (42, (.aload_n 0, 1, .null, 0, 0, 0, [])), (43, (.getfield 15, 3, .null, 1, 1, 0, [])), (46, (.iload_n 3, 1, .null, 0, 0, 0, [])), (47, (.iaload, 1, .null, 0, 0, 0, [])), (48, (.iconst 1, 1, .int 1, 0, 0, 0, [])), (49, (.ishr, 1, .null, 0, 0, 0, [])), (50, (.ior, 1, .null, 0, 0, 0, [])), (51, (.istore 4, 2, .null, 0, 0, 0, [])), (53, (.iload 4, 2, .null, 0, 0, 0, [])), (55, (.iload_n 3, 1, .null, 0, 0, 0, [])), (56, (.ifCond .le 14, 3, .null, 70, 0, 0, [])), (59, (.aload_n 0, 1, .null, 0, 0, 0, [])), (60, (.getfield 15, 3, .null, 1, 1, 0, [])), (63, (.iload_n 3, 1, .null, 0, 0, 0, [])), (64, (.iconst 1, 1, .int 1, 0, 0, 0, [])), (65, (.isub, 1, .null, 0, 0, 0, [])), (66, (.iaload, 1, .null, 0, 0, 0, [])), (67, (.goto 4, 3, .null, 71, 0, 0, [])), (70, (.iconst 0, 1, .int 0, 0, 0, 0, [])), (71, (.ior, 1, .null, 0, 0, 0, [])), (72, (.istore 4, 2, .null, 0, 0, 0, [])), (74, (.iload 4, 2, .null, 0, 0, 0, [])), (76, (.iload_n 3, 1, .null, 0, 0, 0, [])), (77, (.aload_n 0, 1, .null, 0, 0, 0, [])), (78, (.getfield 34, 3, .null, 1, 4, 0, [])), (81, (.if_icmp .ge 14, 3, .null, 95, 0, 0, [])), (84, (.aload_n 0, 1, .null, 0, 0, 0, [])), (85, (.getfield 15, 3, .null, 1, 1, 0, [])), (88, (.iload_n 3, 1, .null, 0, 0, 0, [])), (89, (.iconst 1, 1, .int 1, 0, 0, 0, [])), (90, (.iadd, 1, .null, 0, 0, 0, [])), (91, (.iaload, 1, .null, 0, 0, 0, [])), (92, (.goto 4, 3, .null, 96, 0, 0, [])), (95, (.iconst 0, 1, .int 0, 0, 0, 0, [])), (96, (.ior, 1, .null, 0, 0, 0, [])), (97, (.istore 4, 2, .null, 0, 0, 0, [])), (99, (.iload 4, 2, .null, 0, 0, 0, [])), (101, (.aload_n 0, 1, .null, 0, 0, 0, [])), (102, (.getfield 9, 3, .null, 1, 0, 0, [])), (105, (.iload_n 3, 1, .null, 0, 0, 0, [])), (106, (.iaload, 1, .null, 0, 0, 0, [])), (107, (.iand, 1, .null, 0, 0, 0, [])), (108, (.istore 4, 2, .null, 0, 0, 0, [])), (110, (.iload_n 1, 1, .null, 0, 0, 0, [])), (111, (.iload 4, 2, .null, 0, 0, 0, [])), (113, (.aload_n 0, 1, .null, 0, 0, 0, [])), (114, (.getfield 15, 3, .null, 1, 1, 0, [])), (117, (.iload_n 3, 1, .null, 0, 0, 0, [])), (118, (.iaload, 1, .null, 0, 0, 0, [])), (119, (.if_icmp .eq 7, 3, .null, 126, 0, 0, [])), (122, (.iconst 1, 1, .int 1, 0, 0, 0, [])), (123, (.goto 4, 3, .null, 127, 0, 0, [])), (126, (.iconst 0, 1, .int 0, 0, 0, 0, [])), (127, (.ior, 1, .null, 0, 0, 0, [])), (128, (.istore_n 1, 1, .null, 0, 0, 0, [])), (129, (.aload_n 0, 1, .null, 0, 0, 0, [])), (130, (.getfield 15, 3, .null, 1, 1, 0, [])), (133, (.iload_n 3, 1, .null, 0, 0, 0, [])), (134, (.iload 4, 2, .null, 0, 0, 0, [])), (136, (.iastore, 1, .null, 0, 0, 0, [])), (137, (.iinc 3 1, 3, .int 1, 0, 0, 0, [])), (140, (.goto (-121), 3, .null, 19, 0, 0, [])), (143, (.iinc 2 1, 3, .int 1, 0, 0, 0, [])), (146, (.goto (-142), 3, .null, 4, 0, 0, [])), (149, (.return_, 1, .null, 0, 0, 0, []))]
def km_X1_spread : dx_K := ((yX1_spread, cX1_spread, 5, none), kr_X1_spread, kp_X1)
def kr_X1_firm : List (Nat × dx_I) := [(0, (.iconst 1, 1, .int 1, 0, 0, 0, [])), (1, (.aload_n 0, 1, .null, 0, 0, 0, [])), (2, (.getfield 24, 3, .null, 1, 2, 0, [])), (5, (.ishl, 1, .null, 0, 0, 0, [])), (6, (.iconst 1, 1, .int 1, 0, 0, 0, [])), (7, (.isub, 1, .null, 0, 0, 0, [])), (8, (.aload_n 0, 1, .null, 0, 0, 0, [])), (9, (.getfield 15, 3, .null, 1, 1, 0, [])), (12, (.iload_n 1, 1, .null, 0, 0, 0, [])), (13, (.iaload, 1, .null, 0, 0, 0, [])), (14, (.iconst (-1), 1, .int (-1), 0, 0, 0, [])), (15, (.ixor, 1, .null, 0, 0, 0, [])), (16, (.iand, 1, .null, 0, 0, 0, [])), (17, (.ireturn, 1, .null, 0, 0, 0, []))]
def km_X1_firm : dx_K := ((yX1_firm, cX1_firm, 2, some .int), kr_X1_firm, kp_X1)
def kr_X1_countFirm : List (Nat × dx_I) := [(0, (.aload_n 0, 1, .null, 0, 0, 0, [])), (1, (.iconst 0, 1, .int 0, 0, 0, 0, [])), (2, (.putfield 59, 3, .null, 1, 5, 0, [])), (5, (.iconst 0, 1, .int 0, 0, 0, 0, [])), (6, (.istore_n 1, 1, .null, 0, 0, 0, [])), (7, (.iload_n 1, 1, .null, 0, 0, 0, [])), (8, (.aload_n 0, 1, .null, 0, 0, 0, [])), (9, (.getfield 34, 3, .null, 1, 4, 0, [])), (12, (.if_icmp .ge 26, 3, .null, 38, 0, 0, [])), (15, (.aload_n 0, 1, .null, 0, 0, 0, [])), (16, (.dup, 1, .null, 0, 0, 0, [])), (17, (.getfield 59, 3, .null, 1, 5, 0, [])), (20, (.aload_n 0, 1, .null, 0, 0, 0, [])), (21, (.iload_n 1, 1, .null, 0, 0, 0, [])), (22, (.invokevirtual 62, 3, .ref 1, 1, 14, 1, [])), (25, (.invokestatic 65, 3, .null, 2, 143, 1, [])), (28, (.iadd, 1, .null, 0, 0, 0, [])), (29, (.putfield 59, 3, .null, 1, 5, 0, [])), (32, (.iinc 1 1, 3, .int 1, 0, 0, 0, [])), (35, (.goto (-28), 3, .null, 7, 0, 0, [])), (38, (.aload_n 0, 1, .null, 0, 0, 0, [])), (39, (.aload_n 0, 1, .null, 0, 0, 0, [])), (40, (.getfield 34, 3, .null, 1, 4, 0, [])), (43, (.ifCond .ge 7, 3, .null, 50, 0, 0, [])), (46, (.iconst 0, 1, .int 0, 0, 0, 0, [])), (47, (.goto 14, 3, .null, 61, 0, 0, [])), (50, (.aload_n 0, 1, .null, 0, 0, 0, [])), (51, (.aload_n 0, 1, .null, 0, 0, 0, [])), (52, (.getfield 34, 3, .null, 1, 4, 0, [])), (55, (.invokevirtual 62, 3, .ref 1, 1, 14, 1, [])), (58, (.invokestatic 65, 3, .null, 2, 143, 1, [])), (61, (.putfield 70, 3, .null, 1, 6, 0, [])), (64, (.return_, 1, .null, 0, 0, 0, []))]
def km_X1_countFirm : dx_K := ((yX1_countFirm, cX1_countFirm, 2, none), kr_X1_countFirm, kp_X1)
def kr_X1_bears : List (Nat × dx_I) := [(0, (.iconst 0, 1, .int 0, 0, 0, 0, [])), (1, (.istore_n 3, 1, .null, 0, 0, 0, [])), (2, (.iload_n 3, 1, .null, 0, 0, 0, [])), (3, (.aload_n 0, 1, .null, 0, 0, 0, [])), (4, (.getfield 31, 3, .null, 1, 3, 0, [])), (7, (.if_icmp .ge 55, 3, .null, 62, 0, 0, [])), (10, (.aload_n 0, 1, .null, 0, 0, 0, [])), (11, (.iload_n 3, 1, .null, 0, 0, 0, [])), (12, (.invokevirtual 73, 3, .ref 1, 1, 11, 1, [])), (15, (.iload_n 1, 1, .null, 0, 0, 0, [])), (16, (.aload_n 0, 1, .null, 0, 0, 0, [])), (17, (.getfield 59, 3, .null, 1, 5, 0, [])), (20, (.aload_n 0, 1, .null, 0, 0, 0, [])), (21, (.getfield 70, 3, .null, 1, 6, 0, [])), (24, (.iadd, 1, .null, 0, 0, 0, [])), (25, (.iload_n 2, 1, .null, 0, 0, 0, [])), (26, (.imul, 1, .null, 0, 0, 0, [])), (27, (.if_icmp .gt 29, 3, .null, 56, 0, 0, [])), (30, (.aload_n 0, 1, .null, 0, 0, 0, [])), (31, (.iload_n 1, 1, .null, 0, 0, 0, [])), (32, (.aload_n 0, 1, .null, 0, 0, 0, [])), (33, (.getfield 59, 3, .null, 1, 5, 0, [])), (36, (.iload_n 2, 1, .null, 0, 0, 0, [])), (37, (.imul, 1, .null, 0, 0, 0, [])), (38, (.isub, 1, .null, 0, 0, 0, [])), (39, (.i2l, 1, .null, 0, 0, 0, [])), (40, (.putfield 77, 3, .null, 1, 7, 0, [])), (43, (.aload_n 0, 1, .null, 0, 0, 0, [])), (44, (.aload_n 0, 1, .null, 0, 0, 0, [])), (45, (.getfield 70, 3, .null, 1, 6, 0, [])), (48, (.iload_n 2, 1, .null, 0, 0, 0, [])), (49, (.imul, 1, .null, 0, 0, 0, [])), (50, (.i2l, 1, .null, 0, 0, 0, [])), (51, (.putfield 81, 3, .null, 1, 8, 0, [])), (54, (.iconst 1, 1, .int 1, 0, 0, 0, [])), (55, (.ireturn, 1, .null, 0, 0, 0, [])), (56, (.iinc 3 1, 3, .int 1, 0, 0, 0, [])), (59, (.goto (-57), 3, .null, 2, 0, 0, [])), (62, (.iconst 0, 1, .int 0, 0, 0, 0, [])), (63, (.ireturn, 1, .null, 0, 0, 0, []))]
def km_X1_bears : dx_K := ((yX1_bears, cX1_bears, 4, some .boolean), kr_X1_bears, kp_X1)
def kr_X1_mostRoom : List (Nat × dx_I) := [(0, (.iconst 0, 1, .int 0, 0, 0, 0, [])), (1, (.istore_n 1, 1, .null, 0, 0, 0, [])), (2, (.iconst 0, 1, .int 0, 0, 0, 0, [])), (3, (.istore_n 2, 1, .null, 0, 0, 0, [])), (4, (.iload_n 2, 1, .null, 0, 0, 0, [])), (5, (.aload_n 0, 1, .null, 0, 0, 0, [])), (6, (.getfield 31, 3, .null, 1, 3, 0, [])), (9, (.if_icmp .ge 28, 3, .null, 37, 0, 0, [])), (12, (.aload_n 0, 1, .null, 0, 0, 0, [])), (13, (.iload_n 2, 1, .null, 0, 0, 0, [])), (14, (.invokevirtual 73, 3, .ref 1, 1, 11, 1, [])), (17, (.iload_n 1, 1, .null, 0, 0, 0, [])), (18, (.aload_n 0, 1, .null, 0, 0, 0, [])), (19, (.getfield 59, 3, .null, 1, 5, 0, [])), (22, (.aload_n 0, 1, .null, 0, 0, 0, [])), (23, (.getfield 70, 3, .null, 1, 6, 0, [])), (26, (.iadd, 1, .null, 0, 0, 0, [])), (27, (.invokestatic 84, 3, .null, 7, 0, 0, [])), (30, (.istore_n 1, 1, .null, 0, 0, 0, [])), (31, (.iinc 2 1, 3, .int 1, 0, 0, 0, [])), (34, (.goto (-30), 3, .null, 4, 0, 0, [])), (37, (.iload_n 1, 1, .null, 0, 0, 0, [])), (38, (.ireturn, 1, .null, 0, 0, 0, []))]
def km_X1_mostRoom : dx_K := ((yX1_mostRoom, cX1_mostRoom, 3, some .int), kr_X1_mostRoom, kp_X1)
def kr_X1_stateOf : List (Nat × dx_I) := [(0, (.iload_n 2, 1, .null, 0, 0, 0, [])), (1, (.aload_n 0, 1, .null, 0, 0, 0, [])), (2, (.getfield 34, 3, .null, 1, 4, 0, [])), (5, (.if_icmp .le 5, 3, .null, 10, 0, 0, [])), (8, (.iconst 0, 1, .int 0, 0, 0, 0, [])), (9, (.ireturn, 1, .null, 0, 0, 0, [])), (10, (.aload_n 0, 1, .null, 0, 0, 0, [])), (11, (.getfield 15, 3, .null, 1, 1, 0, [])), (14, (.iload_n 2, 1, .null, 0, 0, 0, [])), (15, (.iaload, 1, .null, 0, 0, 0, [])), (16, (.iload_n 1, 1, .null, 0, 0, 0, [])), (17, (.ishr, 1, .null, 0, 0, 0, [])), (18, (.iconst 1, 1, .int 1, 0, 0, 0, [])), (19, (.iand, 1, .null, 0, 0, 0, [])), (20, (.iconst 1, 1, .int 1, 0, 0, 0, [])), (21, (.if_icmp .ne 5, 3, .null, 26, 0, 0, [])), (24, (.iconst 1, 1, .int 1, 0, 0, 0, [])), (25, (.ireturn, 1, .null, 0, 0, 0, [])), (26, (.aload_n 0, 1, .null, 0, 0, 0, [])), (27, (.getfield 9, 3, .null, 1, 0, 0, [])), (30, (.iload_n 2, 1, .null, 0, 0, 0, [])), (31, (.iaload, 1, .null, 0, 0, 0, [])), (32, (.iload_n 1, 1, .null, 0, 0, 0, [])), (33, (.ishr, 1, .null, 0, 0, 0, [])), (34, (.iconst 1, 1, .int 1, 0, 0, 0, [])), (35, (.iand, 1, .null, 0, 0, 0, [])), (36, (.ifCond .ne 7, 3, .null, 43, 0, 0, [])), (39, (.iconst 2, 1, .int 2, 0, 0, 0, [])), (40, (.goto 4, 3, .null, 44, 0, 0, [])), (43, (.iconst 3, 1, .int 3, 0, 0, 0, [])), (44, (.ireturn, 1, .null, 0, 0, 0, []))]
def km_X1_stateOf : dx_K := ((yX1_stateOf, cX1_stateOf, 3, some .int), kr_X1_stateOf, kp_X1)
def kr_X1_halves : List (Nat × dx_I) := [(0, (.iconst 0, 1, .int 0, 0, 0, 0, [])), (1, (.istore_n 2, 1, .null, 0, 0, 0, [])), (2, (.iconst 0, 1, .int 0, 0, 0, 0, [])), (3, (.istore_n 3, 1, .null, 0, 0, 0, [])), (4, (.iload_n 3, 1, .null, 0, 0, 0, [])), (5, (.aload_n 0, 1, .null, 0, 0, 0, [])), (6, (.getfield 24, 3, .null, 1, 2, 0, [])), (9, (.if_icmp .ge 23, 3, .null, 32, 0, 0, [])), (12, (.iload_n 2, 1, .null, 0, 0, 0, [])), (13, (.iload_n 1, 1, .null, 0, 0, 0, [])), (14, (.iload_n 3, 1, .null, 0, 0, 0, [])), (15, (.ishr, 1, .null, 0, 0, 0, [])), (16, (.iconst 1, 1, .int 1, 0, 0, 0, [])), (17, (.iand, 1, .null, 0, 0, 0, [])), (18, (.iconst 2, 1, .int 2, 0, 0, 0, [])), (19, (.iload_n 3, 1, .null, 0, 0, 0, [])), (20, (.imul, 1, .null, 0, 0, 0, [])), (21, (.iconst 1, 1, .int 1, 0, 0, 0, [])), (22, (.iadd, 1, .null, 0, 0, 0, [])), (23, (.imul, 1, .null, 0, 0, 0, [])), (24, (.iadd, 1, .null, 0, 0, 0, [])), (25, (.istore_n 2, 1, .null, 0, 0, 0, [])), (26, (.iinc 3 1, 3, .int 1, 0, 0, 0, [])), (29, (.goto (-25), 3, .null, 4, 0, 0, [])), (32, (.iload_n 2, 1, .null, 0, 0, 0, [])), (33, (.ireturn, 1, .null, 0, 0, 0, []))]
def km_X1_halves : dx_K := ((yX1_halves, cX1_halves, 4, some .int), kr_X1_halves, kp_X1)
def kr_X1_momentAcross : List (Nat × dx_I) := [(0, (.lconst 0, 1, .long 0, 0, 0, 0, [])), (1, (.lstore_n 1, 1, .null, 0, 0, 0, [])), (2, (.iconst 0, 1, .int 0, 0, 0, 0, [])), (3, (.istore_n 3, 1, .null, 0, 0, 0, [])), (4, (.iload_n 3, 1, .null, 0, 0, 0, [])), (5, (.aload_n 0, 1, .null, 0, 0, 0, [])), (6, (.getfield 34, 3, .null, 1, 4, 0, [])), (9, (.if_icmp .ge 22, 3, .null, 31, 0, 0, [])), (12, (.lload_n 1, 1, .null, 0, 0, 0, [])), (13, (.aload_n 0, 1, .null, 0, 0, 0, [])), (14, (.aload_n 0, 1, .null, 0, 0, 0, [])), (15, (.iload_n 3, 1, .null, 0, 0, 0, [])), (16, (.invokevirtual 62, 3, .ref 1, 1, 14, 1, [])), (19, (.invokevirtual 89, 3, .ref 1, 1, 19, 1, [])), (22, (.i2l, 1, .null, 0, 0, 0, [])), (23, (.ladd, 1, .null, 0, 0, 0, [])), (24, (.lstore_n 1, 1, .null, 0, 0, 0, [])), (25, (.iinc 3 1, 3, .int 1, 0, 0, 0, [])), (28, (.goto (-24), 3, .null, 4, 0, 0, [])), (31, (.aload_n 0, 1, .null, 0, 0, 0, [])), (32, (.getfield 34, 3, .null, 1, 4, 0, [])), (35, (.ifCond .ge 7, 3, .null, 42, 0, 0, [])), (38, (.lconst 0, 1, .long 0, 0, 0, 0, [])), (39, (.goto 16, 3, .null, 55, 0, 0, [])), (42, (.aload_n 0, 1, .null, 0, 0, 0, [])), (43, (.aload_n 0, 1, .null, 0, 0, 0, [])), (44, (.aload_n 0, 1, .null, 0, 0, 0, [])), (45, (.getfield 34, 3, .null, 1, 4, 0, [])), (48, (.invokevirtual 62, 3, .ref 1, 1, 14, 1, [])), (51, (.invokevirtual 89, 3, .ref 1, 1, 19, 1, [])), (54, (.i2l, 1, .null, 0, 0, 0, [])), (55, (.lstore_n 3, 1, .null, 0, 0, 0, [])), (56, (.lload_n 1, 1, .null, 0, 0, 0, [])), (57, (.aload_n 0, 1, .null, 0, 0, 0, [])), (58, (.getfield 81, 3, .null, 1, 8, 0, [])), (61, (.lmul, 1, .null, 0, 0, 0, [])), (62, (.lload_n 3, 1, .null, 0, 0, 0, [])), (63, (.aload_n 0, 1, .null, 0, 0, 0, [])), (64, (.getfield 77, 3, .null, 1, 7, 0, [])), (67, (.lmul, 1, .null, 0, 0, 0, [])), (68, (.ladd, 1, .null, 0, 0, 0, [])), (69, (.lreturn, 1, .null, 0, 0, 0, []))]
def km_X1_momentAcross : dx_K := ((yX1_momentAcross, cX1_momentAcross, 5, some .long), kr_X1_momentAcross, kp_X1)
def kr_X1_momentUp : List (Nat × dx_I) := [(0, (.lconst 0, 1, .long 0, 0, 0, 0, [])), (1, (.lstore_n 1, 1, .null, 0, 0, 0, [])), (2, (.iconst 0, 1, .int 0, 0, 0, 0, [])), (3, (.istore_n 3, 1, .null, 0, 0, 0, [])), (4, (.iload_n 3, 1, .null, 0, 0, 0, [])), (5, (.aload_n 0, 1, .null, 0, 0, 0, [])), (6, (.getfield 34, 3, .null, 1, 4, 0, [])), (9, (.if_icmp .ge 27, 3, .null, 36, 0, 0, [])), (12, (.lload_n 1, 1, .null, 0, 0, 0, [])), (13, (.aload_n 0, 1, .null, 0, 0, 0, [])), (14, (.iload_n 3, 1, .null, 0, 0, 0, [])), (15, (.invokevirtual 62, 3, .ref 1, 1, 14, 1, [])), (18, (.invokestatic 65, 3, .null, 2, 143, 1, [])), (21, (.iconst 2, 1, .int 2, 0, 0, 0, [])), (22, (.iload_n 3, 1, .null, 0, 0, 0, [])), (23, (.imul, 1, .null, 0, 0, 0, [])), (24, (.iconst 1, 1, .int 1, 0, 0, 0, [])), (25, (.iadd, 1, .null, 0, 0, 0, [])), (26, (.imul, 1, .null, 0, 0, 0, [])), (27, (.i2l, 1, .null, 0, 0, 0, [])), (28, (.ladd, 1, .null, 0, 0, 0, [])), (29, (.lstore_n 1, 1, .null, 0, 0, 0, [])), (30, (.iinc 3 1, 3, .int 1, 0, 0, 0, [])), (33, (.goto (-29), 3, .null, 4, 0, 0, [])), (36, (.lload_n 1, 1, .null, 0, 0, 0, [])), (37, (.aload_n 0, 1, .null, 0, 0, 0, [])), (38, (.getfield 81, 3, .null, 1, 8, 0, [])), (41, (.lmul, 1, .null, 0, 0, 0, [])), (42, (.aload_n 0, 1, .null, 0, 0, 0, [])), (43, (.getfield 81, 3, .null, 1, 8, 0, [])), (46, (.lmul, 1, .null, 0, 0, 0, [])), (47, (.aload_n 0, 1, .null, 0, 0, 0, [])), (48, (.getfield 70, 3, .null, 1, 6, 0, [])), (51, (.i2l, 1, .null, 0, 0, 0, [])), (52, (.aload_n 0, 1, .null, 0, 0, 0, [])), (53, (.getfield 77, 3, .null, 1, 7, 0, [])), (56, (.lmul, 1, .null, 0, 0, 0, [])), (57, (.iconst 2, 1, .int 2, 0, 0, 0, [])), (58, (.aload_n 0, 1, .null, 0, 0, 0, [])), (59, (.getfield 34, 3, .null, 1, 4, 0, [])), (62, (.imul, 1, .null, 0, 0, 0, [])), (63, (.i2l, 1, .null, 0, 0, 0, [])), (64, (.aload_n 0, 1, .null, 0, 0, 0, [])), (65, (.getfield 81, 3, .null, 1, 8, 0, [])), (68, (.lmul, 1, .null, 0, 0, 0, [])), (69, (.aload_n 0, 1, .null, 0, 0, 0, [])), (70, (.getfield 77, 3, .null, 1, 7, 0, [])), (73, (.ladd, 1, .null, 0, 0, 0, [])), (74, (.lmul, 1, .null, 0, 0, 0, [])), (75, (.ladd, 1, .null, 0, 0, 0, [])), (76, (.lreturn, 1, .null, 0, 0, 0, []))]
def km_X1_momentUp : dx_K := ((yX1_momentUp, cX1_momentUp, 4, some .long), kr_X1_momentUp, kp_X1)
def kr_X1_measureLine : List (Nat × dx_I) := [(0, (.aload_n 0, 1, .null, 0, 0, 0, [])), (1, (.invokevirtual 92, 3, .ref 1, 1, 23, 0, [])), (4, (.aload_n 0, 1, .null, 0, 0, 0, [])), (5, (.getfield 77, 3, .null, 1, 7, 0, [])), (8, (.aload_n 0, 1, .null, 0, 0, 0, [])), (9, (.getfield 81, 3, .null, 1, 8, 0, [])), (12, (.lcmp, 1, .null, 0, 0, 0, [])), (13, (.ifCond .ne 16, 3, .null, 29, 0, 0, [])), (16, (.aload_n 0, 1, .null, 0, 0, 0, [])), (17, (.getfield 34, 3, .null, 1, 4, 0, [])), (20, (.iconst 1, 1, .int 1, 0, 0, 0, [])), (21, (.iadd, 1, .null, 0, 0, 0, [])), (22, (.aload_n 0, 1, .null, 0, 0, 0, [])), (23, (.getfield 31, 3, .null, 1, 3, 0, [])), (26, (.if_icmp .lt 4, 3, .null, 30, 0, 0, [])), (29, (.return_, 1, .null, 0, 0, 0, [])), (30, (.aload_n 0, 1, .null, 0, 0, 0, [])), (31, (.getfield 95, 3, .null, 1, 9, 0, [])), (34, (.lstore_n 1, 1, .null, 0, 0, 0, [])), (35, (.aload_n 0, 1, .null, 0, 0, 0, [])), (36, (.getfield 98, 3, .null, 1, 10, 0, [])), (39, (.lstore_n 3, 1, .null, 0, 0, 0, [])), (40, (.aload_n 0, 1, .null, 0, 0, 0, [])), (41, (.aload_n 0, 1, .null, 0, 0, 0, [])), (42, (.getfield 34, 3, .null, 1, 4, 0, [])), (45, (.iconst 1, 1, .int 1, 0, 0, 0, [])), (46, (.iadd, 1, .null, 0, 0, 0, [])), (47, (.invokevirtual 73, 3, .ref 1, 1, 11, 1, [])), (50, (.aload_n 0, 1, .null, 0, 0, 0, [])), (51, (.invokevirtual 92, 3, .ref 1, 1, 23, 0, [])), (54, (.lload_n 1, 1, .null, 0, 0, 0, [])), (55, (.aload_n 0, 1, .null, 0, 0, 0, [])), (56, (.getfield 98, 3, .null, 1, 10, 0, [])), (59, (.lmul, 1, .null, 0, 0, 0, [])), (60, (.aload_n 0, 1, .null, 0, 0, 0, [])), (61, (.getfield 95, 3, .null, 1, 9, 0, [])), (64, (.lload_n 3, 1, .null, 0, 0, 0, [])), (65, (.lmul, 1, .null, 0, 0, 0, [])), (66, (.lcmp, 1, .null, 0, 0, 0, [])), (67, (.ifCond .ge 13, 3, .null, 80, 0, 0, [])), (70, (.aload_n 0, 1, .null, 0, 0, 0, [])), (71, (.lload_n 1, 1, .null, 0, 0, 0, [])), (72, (.putfield 95, 3, .null, 1, 9, 0, [])), (75, (.aload_n 0, 1, .null, 0, 0, 0, [])), (76, (.lload_n 3, 1, .null, 0, 0, 0, [])), (77, (.putfield 98, 3, .null, 1, 10, 0, [])), (80, (.return_, 1, .null, 0, 0, 0, []))]
def km_X1_measureLine : dx_K := ((yX1_measureLine, cX1_measureLine, 5, none), kr_X1_measureLine, kp_X1)
def kr_X1_measureRow : List (Nat × dx_I) := [(0, (.aload_n 0, 1, .null, 0, 0, 0, [])), (1, (.getfield 34, 3, .null, 1, 4, 0, [])), (4, (.ifCond .ge 7, 3, .null, 11, 0, 0, [])), (7, (.iconst 0, 1, .int 0, 0, 0, 0, [])), (8, (.goto 11, 3, .null, 19, 0, 0, [])), (11, (.aload_n 0, 1, .null, 0, 0, 0, [])), (12, (.aload_n 0, 1, .null, 0, 0, 0, [])), (13, (.getfield 34, 3, .null, 1, 4, 0, [])), (16, (.invokevirtual 62, 3, .ref 1, 1, 14, 1, [])), (19, (.istore_n 1, 1, .null, 0, 0, 0, [])), (20, (.iload_n 1, 1, .null, 0, 0, 0, [])), (21, (.invokestatic 65, 3, .null, 2, 143, 1, [])), (24, (.i2l, 1, .null, 0, 0, 0, [])), (25, (.lstore_n 2, 1, .null, 0, 0, 0, [])), (26, (.lconst 0, 1, .long 0, 0, 0, 0, [])), (27, (.lstore 4, 2, .null, 0, 0, 0, [])), (29, (.iconst 0, 1, .int 0, 0, 0, 0, [])), (30, (.istore 6, 2, .null, 0, 0, 0, [])), (32, (.iload 6, 2, .null, 0, 0, 0, [])), (34, (.aload_n 0, 1, .null, 0, 0, 0, [])), (35, (.getfield 24, 3, .null, 1, 2, 0, [])), (38, (.if_icmp .ge 36, 3, .null, 74, 0, 0, [])), (41, (.lload 4, 2, .null, 0, 0, 0, [])), (43, (.iload_n 1, 1, .null, 0, 0, 0, [])), (44, (.iload 6, 2, .null, 0, 0, 0, [])), (46, (.ishr, 1, .null, 0, 0, 0, [])), (47, (.iconst 1, 1, .int 1, 0, 0, 0, [])), (48, (.iand, 1, .null, 0, 0, 0, [])), (49, (.iconst 3, 1, .int 3, 0, 0, 0, [])), (50, (.iload 6, 2, .null, 0, 0, 0, [])), (52, (.imul, 1, .null, 0, 0, 0, [])), (53, (.iload 6, 2, .null, 0, 0, 0, [])), (55, (.imul, 1, .null, 0, 0, 0, [])), (56, (.iconst 3, 1, .int 3, 0, 0, 0, [])), (57, (.iload 6, 2, .null, 0, 0, 0, [])), (59, (.imul, 1, .null, 0, 0, 0, [])), (60, (.iadd, 1, .null, 0, 0, 0, [])), (61, (.iconst 1, 1, .int 1, 0, 0, 0, [])), (62, (.iadd, 1, .null, 0, 0, 0, [])), (63, (.imul, 1, .null, 0, 0, 0, [])), (64, (.i2l, 1, .null, 0, 0, 0, [])), (65, (.ladd, 1, .null, 0, 0, 0, [])), (66, (.lstore 4, 2, .null, 0, 0, 0, [])), (68, (.iinc 6 1, 3, .int 1, 0, 0, 0, [])), (71, (.goto (-39), 3, .null, 32, 0, 0, [])), (74, (.aload_n 0, 1, .null, 0, 0, 0, [])), (75, (.iload_n 1, 1, .null, 0, 0, 0, [])), (76, (.invokevirtual 89, 3, .ref 1, 1, 19, 1, [])), (79, (.i2l, 1, .null, 0, 0, 0, [])), (80, (.lstore 6, 2, .null, 0, 0, 0, [])), (82, (.aload_n 0, 1, .null, 0, 0, 0, [])), (83, (.ldc2_w 101, 3, .long 4, 0, 0, 0, [])), (86, (.lload_n 2, 1, .null, 0, 0, 0, [])), (87, (.lmul, 1, .null, 0, 0, 0, [])), (88, (.lload 4, 2, .null, 0, 0, 0, [])), (90, (.lmul, 1, .null, 0, 0, 0, [])), (91, (.ldc2_w 103, 3, .long 3, 0, 0, 0, [])), (94, (.lload 6, 2, .null, 0, 0, 0, [])), (96, (.lmul, 1, .null, 0, 0, 0, [])), (97, (.lload 6, 2, .null, 0, 0, 0, [])), (99, (.lmul, 1, .null, 0, 0, 0, [])), (100, (.lsub, 1, .null, 0, 0, 0, [])), (101, (.putfield 95, 3, .null, 1, 9, 0, [])), (104, (.aload_n 0, 1, .null, 0, 0, 0, [])), (105, (.lload_n 2, 1, .null, 0, 0, 0, [])), (106, (.lconst 0, 1, .long 0, 0, 0, 0, [])), (107, (.lcmp, 1, .null, 0, 0, 0, [])), (108, (.ifCond .ne 7, 3, .null, 115, 0, 0, [])), (111, (.lconst 1, 1, .long 1, 0, 0, 0, [])), (112, (.goto 8, 3, .null, 120, 0, 0, [])), (115, (.ldc2_w 105, 3, .long 12, 0, 0, 0, [])), (118, (.lload_n 2, 1, .null, 0, 0, 0, [])), (119, (.lmul, 1, .null, 0, 0, 0, [])), (120, (.putfield 98, 3, .null, 1, 10, 0, [])), (123, (.return_, 1, .null, 0, 0, 0, []))]
def km_X1_measureRow : dx_K := ((yX1_measureRow, cX1_measureRow, 8, none), kr_X1_measureRow, kp_X1)
def kr_X2_begin : List (Nat × dx_I) := [(0, (.aload_n 0, 1, .null, 0, 0, 0, [])), (1, (.iconst 1, 1, .int 1, 0, 0, 0, [])), (2, (.putfield 9, 3, .null, 2, 0, 0, [])), (5, (.aload_n 0, 1, .null, 0, 0, 0, [])), (6, (.iload_n 1, 1, .null, 0, 0, 0, [])), (7, (.putfield 15, 3, .null, 2, 1, 0, [])), (10, (.aload_n 0, 1, .null, 0, 0, 0, [])), (11, (.iload_n 2, 1, .null, 0, 0, 0, [])), (12, (.putfield 19, 3, .null, 2, 2, 0, [])), (15, (.aload_n 0, 1, .null, 0, 0, 0, [])), (16, (.iload_n 3, 1, .null, 0, 0, 0, [])), (17, (.putfield 22, 3, .null, 2, 3, 0, [])), (20, (.aload_n 0, 1, .null, 0, 0, 0, [])), (21, (.iload 4, 2, .null, 0, 0, 0, [])), (23, (.putfield 25, 3, .null, 2, 4, 0, [])), (26, (.aload_n 0, 1, .null, 0, 0, 0, [])), (27, (.iconst 0, 1, .int 0, 0, 0, 0, [])), (28, (.putfield 28, 3, .null, 2, 5, 0, [])), (31, (.return_, 1, .null, 0, 0, 0, []))]
def km_X2_begin : dx_K := ((yX2_begin, cX2_begin, 5, none), kr_X2_begin, kp_X2)
def kr_X2_fact : List (Nat × dx_I) := [(0, (.iload_n 1, 1, .null, 0, 0, 0, [])), (1, (.tableswitch 51 0 3 #[31, 36, 41, 46], 31, .null, 52, 0, 0, [(0, 32), (1, 37), (2, 42), (3, 47)])), (32, (.aload_n 0, 1, .null, 0, 0, 0, [])), (33, (.getfield 15, 3, .null, 2, 1, 0, [])), (36, (.ireturn, 1, .null, 0, 0, 0, [])), (37, (.aload_n 0, 1, .null, 0, 0, 0, [])), (38, (.getfield 19, 3, .null, 2, 2, 0, [])), (41, (.ireturn, 1, .null, 0, 0, 0, [])), (42, (.aload_n 0, 1, .null, 0, 0, 0, [])), (43, (.getfield 22, 3, .null, 2, 3, 0, [])), (46, (.ireturn, 1, .null, 0, 0, 0, [])), (47, (.aload_n 0, 1, .null, 0, 0, 0, [])), (48, (.getfield 25, 3, .null, 2, 4, 0, [])), (51, (.ireturn, 1, .null, 0, 0, 0, [])), (52, (.aload_n 0, 1, .null, 0, 0, 0, [])), (53, (.getfield 15, 3, .null, 2, 1, 0, [])), (56, (.iconst 1, 1, .int 1, 0, 0, 0, [])), (57, (.if_icmp .ne 10, 3, .null, 67, 0, 0, [])), (60, (.aload_n 0, 1, .null, 0, 0, 0, [])), (61, (.getfield 28, 3, .null, 2, 5, 0, [])), (64, (.goto 5, 3, .null, 69, 0, 0, [])), (67, (.bipush (-9), 2, .int (-9), 0, 0, 0, [])), (69, (.ireturn, 1, .null, 0, 0, 0, []))]
def km_X2_fact : dx_K := ((yX2_fact, cX2_fact, 2, some .int), kr_X2_fact, kp_X2)
def kr_X3_log : List (Nat × dx_I) := [(0, (.iload_n 1, 1, .null, 0, 0, 0, [])), (1, (.iconst 1, 1, .int 1, 0, 0, 0, [])), (2, (.bipush 12, 2, .int 12, 0, 0, 0, [])), (4, (.invokestatic 50, 3, .null, 2, 64, 3, [])), (7, (.ifCond .eq 13, 3, .null, 20, 0, 0, [])), (10, (.iload_n 2, 1, .null, 0, 0, 0, [])), (11, (.iconst 1, 1, .int 1, 0, 0, 0, [])), (12, (.bipush 12, 2, .int 12, 0, 0, 0, [])), (14, (.invokestatic 50, 3, .null, 2, 64, 3, [])), (17, (.ifCond .ne 5, 3, .null, 22, 0, 0, [])), (20, (.iconst (-1), 1, .int (-1), 0, 0, 0, [])), (21, (.ireturn, 1, .null, 0, 0, 0, [])), (22, (.aload_n 0, 1, .null, 0, 0, 0, [])), (23, (.getfield 12, 3, .null, 3, 0, 0, [])), (26, (.iload_n 1, 1, .null, 0, 0, 0, [])), (27, (.iload_n 2, 1, .null, 0, 0, 0, [])), (28, (.invokevirtual 54, 3, .ref 0, 1, 0, 2, [])), (31, (.aload_n 0, 1, .null, 0, 0, 0, [])), (32, (.iconst 0, 1, .int 0, 0, 0, 0, [])), (33, (.putfield 58, 3, .null, 3, 7, 0, [])), (36, (.iload_n 1, 1, .null, 0, 0, 0, [])), (37, (.iload_n 2, 1, .null, 0, 0, 0, [])), (38, (.imul, 1, .null, 0, 0, 0, [])), (39, (.ireturn, 1, .null, 0, 0, 0, []))]
def km_X3_log : dx_K := ((yX3_log, cX3_log, 3, some .int), kr_X3_log, kp_X3)
def kr_X3_square : List (Nat × dx_I) := [(0, (.aload_n 0, 1, .null, 0, 0, 0, [])), (1, (.getfield 12, 3, .null, 3, 0, 0, [])), (4, (.iload_n 1, 1, .null, 0, 0, 0, [])), (5, (.iload_n 2, 1, .null, 0, 0, 0, [])), (6, (.invokevirtual 61, 3, .ref 0, 1, 1, 2, [])), (9, (.ifCond .eq 19, 3, .null, 28, 0, 0, [])), (12, (.iload_n 3, 1, .null, 0, 0, 0, [])), (13, (.bipush (-9), 2, .int (-9), 0, 0, 0, [])), (15, (.if_icmp .eq 15, 3, .null, 30, 0, 0, [])), (18, (.iload_n 3, 1, .null, 0, 0, 0, [])), (19, (.iconst 0, 1, .int 0, 0, 0, 0, [])), (20, (.bipush 20, 2, .int 20, 0, 0, 0, [])), (22, (.invokestatic 50, 3, .null, 2, 64, 3, [])), (25, (.ifCond .ne 5, 3, .null, 30, 0, 0, [])), (28, (.iconst (-1), 1, .int (-1), 0, 0, 0, [])), (29, (.ireturn, 1, .null, 0, 0, 0, [])), (30, (.aload_n 0, 1, .null, 0, 0, 0, [])), (31, (.getfield 12, 3, .null, 3, 0, 0, [])), (34, (.iload_n 1, 1, .null, 0, 0, 0, [])), (35, (.iload_n 2, 1, .null, 0, 0, 0, [])), (36, (.invokevirtual 65, 3, .ref 0, 1, 2, 2, [])), (39, (.istore 4, 2, .null, 0, 0, 0, [])), (41, (.aload_n 0, 1, .null, 0, 0, 0, [])), (42, (.getfield 12, 3, .null, 3, 0, 0, [])), (45, (.iload_n 1, 1, .null, 0, 0, 0, [])), (46, (.iload_n 2, 1, .null, 0, 0, 0, [])), (47, (.iload_n 3, 1, .null, 0, 0, 0, [])), (48, (.invokevirtual 69, 3, .ref 0, 1, 3, 3, [])), (51, (.iload 4, 2, .null, 0, 0, 0, [])), (53, (.ireturn, 1, .null, 0, 0, 0, []))]
def km_X3_square : dx_K := ((yX3_square, cX3_square, 5, some .int), kr_X3_square, kp_X3)
def kr_X3_at : List (Nat × dx_I) := [(0, (.aload_n 0, 1, .null, 0, 0, 0, [])), (1, (.getfield 12, 3, .null, 3, 0, 0, [])), (4, (.iload_n 1, 1, .null, 0, 0, 0, [])), (5, (.iload_n 2, 1, .null, 0, 0, 0, [])), (6, (.invokevirtual 61, 3, .ref 0, 1, 1, 2, [])), (9, (.ifCond .eq 15, 3, .null, 24, 0, 0, [])), (12, (.aload_n 0, 1, .null, 0, 0, 0, [])), (13, (.getfield 12, 3, .null, 3, 0, 0, [])), (16, (.iload_n 1, 1, .null, 0, 0, 0, [])), (17, (.iload_n 2, 1, .null, 0, 0, 0, [])), (18, (.invokevirtual 65, 3, .ref 0, 1, 2, 2, [])), (21, (.goto 4, 3, .null, 25, 0, 0, [])), (24, (.iconst (-1), 1, .int (-1), 0, 0, 0, [])), (25, (.ireturn, 1, .null, 0, 0, 0, []))]
def km_X3_at : dx_K := ((yX3_at, cX3_at, 3, some .int), kr_X3_at, kp_X3)
def kr_X3_water : List (Nat × dx_I) := [(0, (.iload_n 1, 1, .null, 0, 0, 0, [])), (1, (.iconst 1, 1, .int 1, 0, 0, 0, [])), (2, (.bipush 20, 2, .int 20, 0, 0, 0, [])), (4, (.invokestatic 50, 3, .null, 2, 64, 3, [])), (7, (.ifCond .ne 5, 3, .null, 12, 0, 0, [])), (10, (.iconst (-1), 1, .int (-1), 0, 0, 0, [])), (11, (.ireturn, 1, .null, 0, 0, 0, [])), (12, (.aload_n 0, 1, .null, 0, 0, 0, [])), (13, (.getfield 42, 3, .null, 3, 6, 0, [])), (16, (.istore_n 2, 1, .null, 0, 0, 0, [])), (17, (.aload_n 0, 1, .null, 0, 0, 0, [])), (18, (.iload_n 1, 1, .null, 0, 0, 0, [])), (19, (.putfield 42, 3, .null, 3, 6, 0, [])), (22, (.iload_n 2, 1, .null, 0, 0, 0, [])), (23, (.ireturn, 1, .null, 0, 0, 0, []))]
def km_X3_water : dx_K := ((yX3_water, cX3_water, 3, some .int), kr_X3_water, kp_X3)
def kr_X3_sheet : List (Nat × dx_I) := [(0, (.iload_n 1, 1, .null, 0, 0, 0, [])), (1, (.invokestatic 73, 3, .null, 2, 66, 1, [])), (4, (.ifCond .eq 9, 3, .null, 13, 0, 0, [])), (7, (.iload_n 2, 1, .null, 0, 0, 0, [])), (8, (.bipush 12, 2, .int 12, 0, 0, 0, [])), (10, (.if_icmp .le 5, 3, .null, 15, 0, 0, [])), (13, (.iconst (-1), 1, .int (-1), 0, 0, 0, [])), (14, (.ireturn, 1, .null, 0, 0, 0, [])), (15, (.iload_n 2, 1, .null, 0, 0, 0, [])), (16, (.ifCond .ge 9, 3, .null, 25, 0, 0, [])), (19, (.aload_n 0, 1, .null, 0, 0, 0, [])), (20, (.iconst 5, 1, .int 5, 0, 0, 0, [])), (21, (.invokevirtual 77, 3, .ref 3, 1, 70, 1, [])), (24, (.ireturn, 1, .null, 0, 0, 0, [])), (25, (.iconst 0, 1, .int 0, 0, 0, 0, [])), (26, (.istore_n 3, 1, .null, 0, 0, 0, [])), (27, (.iload_n 3, 1, .null, 0, 0, 0, [])), (28, (.iload_n 2, 1, .null, 0, 0, 0, [])), (29, (.if_icmp .ge 18, 3, .null, 47, 0, 0, [])), (32, (.aload_n 0, 1, .null, 0, 0, 0, [])), (33, (.getfield 32, 3, .null, 3, 3, 0, [])), (36, (.iload_n 1, 1, .null, 0, 0, 0, [])), (37, (.aaload, 1, .null, 0, 0, 0, [])), (38, (.iload_n 3, 1, .null, 0, 0, 0, [])), (39, (.iconst 0, 1, .int 0, 0, 0, 0, [])), (40, (.bastore, 1, .null, 0, 0, 0, [])), (41, (.iinc 3 1, 3, .int 1, 0, 0, 0, [])), (44, (.goto (-17), 3, .null, 27, 0, 0, [])), (47, (.aload_n 0, 1, .null, 0, 0, 0, [])), (48, (.getfield 35, 3, .null, 3, 4, 0, [])), (51, (.iload_n 1, 1, .null, 0, 0, 0, [])), (52, (.iload_n 2, 1, .null, 0, 0, 0, [])), (53, (.iastore, 1, .null, 0, 0, 0, [])), (54, (.iload_n 2, 1, .null, 0, 0, 0, [])), (55, (.ireturn, 1, .null, 0, 0, 0, []))]
def km_X3_sheet : dx_K := ((yX3_sheet, cX3_sheet, 4, some .int), kr_X3_sheet, kp_X3)
def kr_X3_lay : List (Nat × dx_I) := [(0, (.iload_n 1, 1, .null, 0, 0, 0, [])), (1, (.invokestatic 73, 3, .null, 2, 66, 1, [])), (4, (.ifCond .ne 5, 3, .null, 9, 0, 0, [])), (7, (.iconst (-1), 1, .int (-1), 0, 0, 0, [])), (8, (.ireturn, 1, .null, 0, 0, 0, [])), (9, (.aload_n 0, 1, .null, 0, 0, 0, [])), (10, (.getfield 35, 3, .null, 3, 4, 0, [])), (13, (.iload_n 1, 1, .null, 0, 0, 0, [])), (14, (.iaload, 1, .null, 0, 0, 0, [])), (15, (.iconst (-1), 1, .int (-1), 0, 0, 0, [])), (16, (.if_icmp .ne 9, 3, .null, 25, 0, 0, [])), (19, (.aload_n 0, 1, .null, 0, 0, 0, [])), (20, (.iconst 1, 1, .int 1, 0, 0, 0, [])), (21, (.invokevirtual 77, 3, .ref 3, 1, 70, 1, [])), (24, (.ireturn, 1, .null, 0, 0, 0, [])), (25, (.iload_n 2, 1, .null, 0, 0, 0, [])), (26, (.ifCond .lt 13, 3, .null, 39, 0, 0, [])), (29, (.iload_n 2, 1, .null, 0, 0, 0, [])), (30, (.aload_n 0, 1, .null, 0, 0, 0, [])), (31, (.getfield 35, 3, .null, 3, 4, 0, [])), (34, (.iload_n 1, 1, .null, 0, 0, 0, [])), (35, (.iaload, 1, .null, 0, 0, 0, [])), (36, (.if_icmp .lt 9, 3, .null, 45, 0, 0, [])), (39, (.aload_n 0, 1, .null, 0, 0, 0, [])), (40, (.iconst 2, 1, .int 2, 0, 0, 0, [])), (41, (.invokevirtual 77, 3, .ref 3, 1, 70, 1, [])), (44, (.ireturn, 1, .null, 0, 0, 0, [])), (45, (.aload_n 0, 1, .null, 0, 0, 0, [])), (46, (.getfield 32, 3, .null, 3, 3, 0, [])), (49, (.iload_n 1, 1, .null, 0, 0, 0, [])), (50, (.aaload, 1, .null, 0, 0, 0, [])), (51, (.iload_n 2, 1, .null, 0, 0, 0, [])), (52, (.baload, 1, .null, 0, 0, 0, [])), (53, (.istore 4, 2, .null, 0, 0, 0, [])), (55, (.aload_n 0, 1, .null, 0, 0, 0, [])), (56, (.getfield 32, 3, .null, 3, 3, 0, [])), (59, (.iload_n 1, 1, .null, 0, 0, 0, [])), (60, (.aaload, 1, .null, 0, 0, 0, [])), (61, (.iload_n 2, 1, .null, 0, 0, 0, [])), (62, (.iload_n 3, 1, .null, 0, 0, 0, [])), (63, (.i2b, 1, .null, 0, 0, 0, [])), (64, (.bastore, 1, .null, 0, 0, 0, [])), (65, (.iload 4, 2, .null, 0, 0, 0, [])), (67, (.sipush 1000, 3, .int 1000, 0, 0, 0, [])), (70, (.iadd, 1, .null, 0, 0, 0, [])), (71, (.ireturn, 1, .null, 0, 0, 0, []))]
def km_X3_lay : dx_K := ((yX3_lay, cX3_lay, 5, some .int), kr_X3_lay, kp_X3)
def kr_X3_tear : List (Nat × dx_I) := [(0, (.iload_n 1, 1, .null, 0, 0, 0, [])), (1, (.invokestatic 73, 3, .null, 2, 66, 1, [])), (4, (.ifCond .ne 5, 3, .null, 9, 0, 0, [])), (7, (.iconst (-1), 1, .int (-1), 0, 0, 0, [])), (8, (.ireturn, 1, .null, 0, 0, 0, [])), (9, (.aload_n 0, 1, .null, 0, 0, 0, [])), (10, (.getfield 35, 3, .null, 3, 4, 0, [])), (13, (.iload_n 1, 1, .null, 0, 0, 0, [])), (14, (.iaload, 1, .null, 0, 0, 0, [])), (15, (.iconst (-1), 1, .int (-1), 0, 0, 0, [])), (16, (.if_icmp .ne 9, 3, .null, 25, 0, 0, [])), (19, (.aload_n 0, 1, .null, 0, 0, 0, [])), (20, (.iconst 1, 1, .int 1, 0, 0, 0, [])), (21, (.invokevirtual 77, 3, .ref 3, 1, 70, 1, [])), (24, (.ireturn, 1, .null, 0, 0, 0, [])), (25, (.aload_n 0, 1, .null, 0, 0, 0, [])), (26, (.getfield 35, 3, .null, 3, 4, 0, [])), (29, (.iload_n 1, 1, .null, 0, 0, 0, [])), (30, (.iconst (-1), 1, .int (-1), 0, 0, 0, [])), (31, (.iastore, 1, .null, 0, 0, 0, [])), (32, (.iconst 1, 1, .int 1, 0, 0, 0, [])), (33, (.ireturn, 1, .null, 0, 0, 0, []))]
def km_X3_tear : dx_K := ((yX3_tear, cX3_tear, 2, some .int), kr_X3_tear, kp_X3)
def kr_X3_copy : List (Nat × dx_I) := [(0, (.iload_n 1, 1, .null, 0, 0, 0, [])), (1, (.invokestatic 73, 3, .null, 2, 66, 1, [])), (4, (.ifCond .eq 10, 3, .null, 14, 0, 0, [])), (7, (.iload_n 3, 1, .null, 0, 0, 0, [])), (8, (.invokestatic 73, 3, .null, 2, 66, 1, [])), (11, (.ifCond .ne 5, 3, .null, 16, 0, 0, [])), (14, (.iconst (-1), 1, .int (-1), 0, 0, 0, [])), (15, (.ireturn, 1, .null, 0, 0, 0, [])), (16, (.aload_n 0, 1, .null, 0, 0, 0, [])), (17, (.getfield 35, 3, .null, 3, 4, 0, [])), (20, (.iload_n 1, 1, .null, 0, 0, 0, [])), (21, (.iaload, 1, .null, 0, 0, 0, [])), (22, (.iconst (-1), 1, .int (-1), 0, 0, 0, [])), (23, (.if_icmp .eq 13, 3, .null, 36, 0, 0, [])), (26, (.aload_n 0, 1, .null, 0, 0, 0, [])), (27, (.getfield 35, 3, .null, 3, 4, 0, [])), (30, (.iload_n 3, 1, .null, 0, 0, 0, [])), (31, (.iaload, 1, .null, 0, 0, 0, [])), (32, (.iconst (-1), 1, .int (-1), 0, 0, 0, [])), (33, (.if_icmp .ne 9, 3, .null, 42, 0, 0, [])), (36, (.aload_n 0, 1, .null, 0, 0, 0, [])), (37, (.iconst 1, 1, .int 1, 0, 0, 0, [])), (38, (.invokevirtual 77, 3, .ref 3, 1, 70, 1, [])), (41, (.ireturn, 1, .null, 0, 0, 0, [])), (42, (.aload_n 0, 1, .null, 0, 0, 0, [])), (43, (.iload_n 1, 1, .null, 0, 0, 0, [])), (44, (.iload_n 2, 1, .null, 0, 0, 0, [])), (45, (.iload 5, 2, .null, 0, 0, 0, [])), (47, (.invokevirtual 81, 3, .ref 3, 1, 69, 3, [])), (50, (.ifCond .eq 15, 3, .null, 65, 0, 0, [])), (53, (.aload_n 0, 1, .null, 0, 0, 0, [])), (54, (.iload_n 3, 1, .null, 0, 0, 0, [])), (55, (.iload 4, 2, .null, 0, 0, 0, [])), (57, (.iload 5, 2, .null, 0, 0, 0, [])), (59, (.invokevirtual 81, 3, .ref 3, 1, 69, 3, [])), (62, (.ifCond .ne 9, 3, .null, 71, 0, 0, [])), (65, (.aload_n 0, 1, .null, 0, 0, 0, [])), (66, (.iconst 2, 1, .int 2, 0, 0, 0, [])), (67, (.invokevirtual 77, 3, .ref 3, 1, 70, 1, [])), (70, (.ireturn, 1, .null, 0, 0, 0, [])), (71, (.aload_n 0, 1, .null, 0, 0, 0, [])), (72, (.getfield 32, 3, .null, 3, 3, 0, [])), (75, (.iload_n 1, 1, .null, 0, 0, 0, [])), (76, (.aaload, 1, .null, 0, 0, 0, [])), (77, (.iload_n 2, 1, .null, 0, 0, 0, [])), (78, (.aload_n 0, 1, .null, 0, 0, 0, [])), (79, (.getfield 32, 3, .null, 3, 3, 0, [])), (82, (.iload_n 3, 1, .null, 0, 0, 0, [])), (83, (.aaload, 1, .null, 0, 0, 0, [])), (84, (.iload 4, 2, .null, 0, 0, 0, [])), (86, (.iload 5, 2, .null, 0, 0, 0, [])), (88, (.invokestatic 84, 3, .null, 4, 0, 0, [])), (91, (.iconst 1, 1, .int 1, 0, 0, 0, [])), (92, (.ireturn, 1, .null, 0, 0, 0, []))]
def km_X3_copy : dx_K := ((yX3_copy, cX3_copy, 6, some .int), kr_X3_copy, kp_X3)
def kr_X3_fill : List (Nat × dx_I) := [(0, (.aload_n 0, 1, .null, 0, 0, 0, [])), (1, (.getfield 12, 3, .null, 3, 0, 0, [])), (4, (.iconst 0, 1, .int 0, 0, 0, 0, [])), (5, (.iload_n 1, 1, .null, 0, 0, 0, [])), (6, (.invokevirtual 61, 3, .ref 0, 1, 1, 2, [])), (9, (.ifCond .eq 10, 3, .null, 19, 0, 0, [])), (12, (.iload_n 2, 1, .null, 0, 0, 0, [])), (13, (.invokestatic 73, 3, .null, 2, 66, 1, [])), (16, (.ifCond .ne 5, 3, .null, 21, 0, 0, [])), (19, (.iconst (-1), 1, .int (-1), 0, 0, 0, [])), (20, (.ireturn, 1, .null, 0, 0, 0, [])), (21, (.aload_n 0, 1, .null, 0, 0, 0, [])), (22, (.getfield 35, 3, .null, 3, 4, 0, [])), (25, (.iload_n 2, 1, .null, 0, 0, 0, [])), (26, (.iaload, 1, .null, 0, 0, 0, [])), (27, (.iconst (-1), 1, .int (-1), 0, 0, 0, [])), (28, (.if_icmp .ne 9, 3, .null, 37, 0, 0, [])), (31, (.aload_n 0, 1, .null, 0, 0, 0, [])), (32, (.iconst 1, 1, .int 1, 0, 0, 0, [])), (33, (.invokevirtual 77, 3, .ref 3, 1, 70, 1, [])), (36, (.ireturn, 1, .null, 0, 0, 0, [])), (37, (.aload_n 0, 1, .null, 0, 0, 0, [])), (38, (.getfield 35, 3, .null, 3, 4, 0, [])), (41, (.iload_n 2, 1, .null, 0, 0, 0, [])), (42, (.iaload, 1, .null, 0, 0, 0, [])), (43, (.aload_n 0, 1, .null, 0, 0, 0, [])), (44, (.getfield 12, 3, .null, 3, 0, 0, [])), (47, (.getfield 90, 3, .null, 0, 1, 0, [])), (50, (.if_icmp .ge 9, 3, .null, 59, 0, 0, [])), (53, (.aload_n 0, 1, .null, 0, 0, 0, [])), (54, (.iconst 2, 1, .int 2, 0, 0, 0, [])), (55, (.invokevirtual 77, 3, .ref 3, 1, 70, 1, [])), (58, (.ireturn, 1, .null, 0, 0, 0, [])), (59, (.iconst 0, 1, .int 0, 0, 0, 0, [])), (60, (.istore_n 3, 1, .null, 0, 0, 0, [])), (61, (.iconst 0, 1, .int 0, 0, 0, 0, [])), (62, (.istore 4, 2, .null, 0, 0, 0, [])), (64, (.iload 4, 2, .null, 0, 0, 0, [])), (66, (.aload_n 0, 1, .null, 0, 0, 0, [])), (67, (.getfield 12, 3, .null, 3, 0, 0, [])), (70, (.getfield 90, 3, .null, 0, 1, 0, [])), (73, (.if_icmp .ge 60, 3, .null, 133, 0, 0, [])), (76, (.aload_n 0, 1, .null, 0, 0, 0, [])), (77, (.getfield 32, 3, .null, 3, 3, 0, [])), (80, (.iload_n 2, 1, .null, 0, 0, 0, [])), (81, (.aaload, 1, .null, 0, 0, 0, [])), (82, (.iload 4, 2, .null, 0, 0, 0, [])), (84, (.baload, 1, .null, 0, 0, 0, [])), (85, (.istore 5, 2, .null, 0, 0, 0, [])), (87, (.aload_n 0, 1, .null, 0, 0, 0, [])), (88, (.getfield 12, 3, .null, 3, 0, 0, [])), (91, (.iload 4, 2, .null, 0, 0, 0, [])), (93, (.iload_n 1, 1, .null, 0, 0, 0, [])), (94, (.iload 5, 2, .null, 0, 0, 0, [])), (96, (.ifCond .ge 8, 3, .null, 104, 0, 0, [])), (99, (.bipush (-9), 2, .int (-9), 0, 0, 0, [])), (101, (.goto 10, 3, .null, 111, 0, 0, [])), (104, (.iload 5, 2, .null, 0, 0, 0, [])), (106, (.bipush 20, 2, .int 20, 0, 0, 0, [])), (108, (.invokestatic 93, 3, .null, 8, 0, 0, [])), (111, (.invokevirtual 69, 3, .ref 0, 1, 3, 3, [])), (114, (.iload_n 3, 1, .null, 0, 0, 0, [])), (115, (.iload 5, 2, .null, 0, 0, 0, [])), (117, (.ifCond .ge 7, 3, .null, 124, 0, 0, [])), (120, (.iconst 0, 1, .int 0, 0, 0, 0, [])), (121, (.goto 4, 3, .null, 125, 0, 0, [])), (124, (.iconst 1, 1, .int 1, 0, 0, 0, [])), (125, (.iadd, 1, .null, 0, 0, 0, [])), (126, (.istore_n 3, 1, .null, 0, 0, 0, [])), (127, (.iinc 4 1, 3, .int 1, 0, 0, 0, [])), (130, (.goto (-66), 3, .null, 64, 0, 0, [])), (133, (.iload_n 3, 1, .null, 0, 0, 0, [])), (134, (.ireturn, 1, .null, 0, 0, 0, []))]
def km_X3_fill : dx_K := ((yX3_fill, cX3_fill, 6, some .int), kr_X3_fill, kp_X3)
def kr_X3_load : List (Nat × dx_I) := [(0, (.iload_n 1, 1, .null, 0, 0, 0, [])), (1, (.iconst 0, 1, .int 0, 0, 0, 0, [])), (2, (.iconst 2, 1, .int 2, 0, 0, 0, [])), (3, (.invokestatic 50, 3, .null, 2, 64, 3, [])), (6, (.ifCond .eq 23, 3, .null, 29, 0, 0, [])), (9, (.iload_n 2, 1, .null, 0, 0, 0, [])), (10, (.iload_n 3, 1, .null, 0, 0, 0, [])), (11, (.invokestatic 98, 3, .null, 2, 67, 2, [])), (14, (.ifCond .eq 15, 3, .null, 29, 0, 0, [])), (17, (.iload 4, 2, .null, 0, 0, 0, [])), (19, (.iconst 0, 1, .int 0, 0, 0, 0, [])), (20, (.sipush 200, 3, .int 200, 0, 0, 0, [])), (23, (.invokestatic 50, 3, .null, 2, 64, 3, [])), (26, (.ifCond .ne 5, 3, .null, 31, 0, 0, [])), (29, (.iconst (-1), 1, .int (-1), 0, 0, 0, [])), (30, (.ireturn, 1, .null, 0, 0, 0, [])), (31, (.aload_n 0, 1, .null, 0, 0, 0, [])), (32, (.getfield 58, 3, .null, 3, 7, 0, [])), (35, (.bipush 10, 2, .int 10, 0, 0, 0, [])), (37, (.if_icmp .lt 6, 3, .null, 43, 0, 0, [])), (40, (.bipush (-2), 2, .int (-2), 0, 0, 0, [])), (42, (.ireturn, 1, .null, 0, 0, 0, [])), (43, (.aload_n 0, 1, .null, 0, 0, 0, [])), (44, (.getfield 25, 3, .null, 3, 2, 0, [])), (47, (.aload_n 0, 1, .null, 0, 0, 0, [])), (48, (.getfield 58, 3, .null, 3, 7, 0, [])), (51, (.aaload, 1, .null, 0, 0, 0, [])), (52, (.iload_n 1, 1, .null, 0, 0, 0, [])), (53, (.iload_n 2, 1, .null, 0, 0, 0, [])), (54, (.iload_n 3, 1, .null, 0, 0, 0, [])), (55, (.iload 4, 2, .null, 0, 0, 0, [])), (57, (.invokevirtual 101, 3, .ref 2, 1, 24, 4, [])), (60, (.aload_n 0, 1, .null, 0, 0, 0, [])), (61, (.dup, 1, .null, 0, 0, 0, [])), (62, (.getfield 58, 3, .null, 3, 7, 0, [])), (65, (.iconst 1, 1, .int 1, 0, 0, 0, [])), (66, (.iadd, 1, .null, 0, 0, 0, [])), (67, (.putfield 58, 3, .null, 3, 7, 0, [])), (70, (.aload_n 0, 1, .null, 0, 0, 0, [])), (71, (.getfield 58, 3, .null, 3, 7, 0, [])), (74, (.iconst 1, 1, .int 1, 0, 0, 0, [])), (75, (.isub, 1, .null, 0, 0, 0, [])), (76, (.ireturn, 1, .null, 0, 0, 0, []))]
def km_X3_load : dx_K := ((yX3_load, cX3_load, 5, some .int), kr_X3_load, kp_X3)
def kr_X3_move : List (Nat × dx_I) := [(0, (.aload_n 0, 1, .null, 0, 0, 0, [])), (1, (.iload_n 1, 1, .null, 0, 0, 0, [])), (2, (.invokevirtual 104, 3, .ref 3, 1, 68, 1, [])), (5, (.ifCond .eq 11, 3, .null, 16, 0, 0, [])), (8, (.iload_n 2, 1, .null, 0, 0, 0, [])), (9, (.iload_n 3, 1, .null, 0, 0, 0, [])), (10, (.invokestatic 98, 3, .null, 2, 67, 2, [])), (13, (.ifCond .ne 5, 3, .null, 18, 0, 0, [])), (16, (.iconst (-1), 1, .int (-1), 0, 0, 0, [])), (17, (.ireturn, 1, .null, 0, 0, 0, [])), (18, (.aload_n 0, 1, .null, 0, 0, 0, [])), (19, (.getfield 25, 3, .null, 3, 2, 0, [])), (22, (.iload_n 1, 1, .null, 0, 0, 0, [])), (23, (.aaload, 1, .null, 0, 0, 0, [])), (24, (.astore 4, 2, .null, 0, 0, 0, [])), (26, (.aload 4, 2, .null, 0, 0, 0, [])), (28, (.getfield 107, 3, .null, 2, 0, 0, [])), (31, (.ifCond .ne 9, 3, .null, 40, 0, 0, [])), (34, (.aload_n 0, 1, .null, 0, 0, 0, [])), (35, (.iconst 1, 1, .int 1, 0, 0, 0, [])), (36, (.invokevirtual 77, 3, .ref 3, 1, 70, 1, [])), (39, (.ireturn, 1, .null, 0, 0, 0, [])), (40, (.aload 4, 2, .null, 0, 0, 0, [])), (42, (.getfield 111, 3, .null, 2, 1, 0, [])), (45, (.iconst 2, 1, .int 2, 0, 0, 0, [])), (46, (.if_icmp .ne 9, 3, .null, 55, 0, 0, [])), (49, (.aload_n 0, 1, .null, 0, 0, 0, [])), (50, (.iconst 3, 1, .int 3, 0, 0, 0, [])), (51, (.invokevirtual 77, 3, .ref 3, 1, 70, 1, [])), (54, (.ireturn, 1, .null, 0, 0, 0, [])), (55, (.aload 4, 2, .null, 0, 0, 0, [])), (57, (.iload_n 2, 1, .null, 0, 0, 0, [])), (58, (.putfield 114, 3, .null, 2, 2, 0, [])), (61, (.aload 4, 2, .null, 0, 0, 0, [])), (63, (.iload_n 3, 1, .null, 0, 0, 0, [])), (64, (.putfield 117, 3, .null, 2, 3, 0, [])), (67, (.iconst 1, 1, .int 1, 0, 0, 0, [])), (68, (.ireturn, 1, .null, 0, 0, 0, []))]
def km_X3_move : dx_K := ((yX3_move, cX3_move, 5, some .int), kr_X3_move, kp_X3)
def kr_X3_rope : List (Nat × dx_I) := [(0, (.aload_n 0, 1, .null, 0, 0, 0, [])), (1, (.iload_n 1, 1, .null, 0, 0, 0, [])), (2, (.invokevirtual 104, 3, .ref 3, 1, 68, 1, [])), (5, (.ifCond .eq 13, 3, .null, 18, 0, 0, [])), (8, (.iload_n 2, 1, .null, 0, 0, 0, [])), (9, (.iconst 0, 1, .int 0, 0, 0, 0, [])), (10, (.bipush 20, 2, .int 20, 0, 0, 0, [])), (12, (.invokestatic 50, 3, .null, 2, 64, 3, [])), (15, (.ifCond .ne 5, 3, .null, 20, 0, 0, [])), (18, (.iconst (-1), 1, .int (-1), 0, 0, 0, [])), (19, (.ireturn, 1, .null, 0, 0, 0, [])), (20, (.aload_n 0, 1, .null, 0, 0, 0, [])), (21, (.getfield 25, 3, .null, 3, 2, 0, [])), (24, (.iload_n 1, 1, .null, 0, 0, 0, [])), (25, (.aaload, 1, .null, 0, 0, 0, [])), (26, (.astore_n 3, 1, .null, 0, 0, 0, [])), (27, (.aload_n 3, 1, .null, 0, 0, 0, [])), (28, (.getfield 107, 3, .null, 2, 0, 0, [])), (31, (.ifCond .ne 9, 3, .null, 40, 0, 0, [])), (34, (.aload_n 0, 1, .null, 0, 0, 0, [])), (35, (.iconst 1, 1, .int 1, 0, 0, 0, [])), (36, (.invokevirtual 77, 3, .ref 3, 1, 70, 1, [])), (39, (.ireturn, 1, .null, 0, 0, 0, [])), (40, (.aload_n 3, 1, .null, 0, 0, 0, [])), (41, (.getfield 111, 3, .null, 2, 1, 0, [])), (44, (.iconst 1, 1, .int 1, 0, 0, 0, [])), (45, (.if_icmp .eq 9, 3, .null, 54, 0, 0, [])), (48, (.aload_n 0, 1, .null, 0, 0, 0, [])), (49, (.iconst 3, 1, .int 3, 0, 0, 0, [])), (50, (.invokevirtual 77, 3, .ref 3, 1, 70, 1, [])), (53, (.ireturn, 1, .null, 0, 0, 0, [])), (54, (.aload_n 3, 1, .null, 0, 0, 0, [])), (55, (.getfield 120, 3, .null, 2, 5, 0, [])), (58, (.istore 4, 2, .null, 0, 0, 0, [])), (60, (.aload_n 3, 1, .null, 0, 0, 0, [])), (61, (.iload_n 2, 1, .null, 0, 0, 0, [])), (62, (.putfield 120, 3, .null, 2, 5, 0, [])), (65, (.iload 4, 2, .null, 0, 0, 0, [])), (67, (.ireturn, 1, .null, 0, 0, 0, []))]
def km_X3_rope : dx_K := ((yX3_rope, cX3_rope, 5, some .int), kr_X3_rope, kp_X3)
def kr_X3_drop : List (Nat × dx_I) := [(0, (.aload_n 0, 1, .null, 0, 0, 0, [])), (1, (.iload_n 1, 1, .null, 0, 0, 0, [])), (2, (.invokevirtual 104, 3, .ref 3, 1, 68, 1, [])), (5, (.ifCond .ne 5, 3, .null, 10, 0, 0, [])), (8, (.iconst (-1), 1, .int (-1), 0, 0, 0, [])), (9, (.ireturn, 1, .null, 0, 0, 0, [])), (10, (.aload_n 0, 1, .null, 0, 0, 0, [])), (11, (.getfield 25, 3, .null, 3, 2, 0, [])), (14, (.iload_n 1, 1, .null, 0, 0, 0, [])), (15, (.aaload, 1, .null, 0, 0, 0, [])), (16, (.getfield 107, 3, .null, 2, 0, 0, [])), (19, (.ifCond .ne 9, 3, .null, 28, 0, 0, [])), (22, (.aload_n 0, 1, .null, 0, 0, 0, [])), (23, (.iconst 1, 1, .int 1, 0, 0, 0, [])), (24, (.invokevirtual 77, 3, .ref 3, 1, 70, 1, [])), (27, (.ireturn, 1, .null, 0, 0, 0, [])), (28, (.aload_n 0, 1, .null, 0, 0, 0, [])), (29, (.getfield 25, 3, .null, 3, 2, 0, [])), (32, (.iload_n 1, 1, .null, 0, 0, 0, [])), (33, (.aaload, 1, .null, 0, 0, 0, [])), (34, (.iconst 0, 1, .int 0, 0, 0, 0, [])), (35, (.putfield 107, 3, .null, 2, 0, 0, [])), (38, (.iconst 1, 1, .int 1, 0, 0, 0, [])), (39, (.ireturn, 1, .null, 0, 0, 0, []))]
def km_X3_drop : dx_K := ((yX3_drop, cX3_drop, 2, some .int), kr_X3_drop, kp_X3)
def kr_X3_told : List (Nat × dx_I) := [(0, (.aload_n 0, 1, .null, 0, 0, 0, [])), (1, (.iload_n 1, 1, .null, 0, 0, 0, [])), (2, (.invokevirtual 104, 3, .ref 3, 1, 68, 1, [])), (5, (.ifCond .eq 12, 3, .null, 17, 0, 0, [])), (8, (.iload_n 2, 1, .null, 0, 0, 0, [])), (9, (.iconst 0, 1, .int 0, 0, 0, 0, [])), (10, (.iconst 4, 1, .int 4, 0, 0, 0, [])), (11, (.invokestatic 50, 3, .null, 2, 64, 3, [])), (14, (.ifCond .ne 5, 3, .null, 19, 0, 0, [])), (17, (.iconst (-1), 1, .int (-1), 0, 0, 0, [])), (18, (.ireturn, 1, .null, 0, 0, 0, [])), (19, (.aload_n 0, 1, .null, 0, 0, 0, [])), (20, (.getfield 25, 3, .null, 3, 2, 0, [])), (23, (.iload_n 1, 1, .null, 0, 0, 0, [])), (24, (.aaload, 1, .null, 0, 0, 0, [])), (25, (.getfield 107, 3, .null, 2, 0, 0, [])), (28, (.ifCond .eq 16, 3, .null, 44, 0, 0, [])), (31, (.aload_n 0, 1, .null, 0, 0, 0, [])), (32, (.getfield 25, 3, .null, 3, 2, 0, [])), (35, (.iload_n 1, 1, .null, 0, 0, 0, [])), (36, (.aaload, 1, .null, 0, 0, 0, [])), (37, (.iload_n 2, 1, .null, 0, 0, 0, [])), (38, (.invokevirtual 123, 3, .ref 2, 1, 25, 1, [])), (41, (.goto 8, 3, .null, 49, 0, 0, [])), (44, (.aload_n 0, 1, .null, 0, 0, 0, [])), (45, (.iconst 1, 1, .int 1, 0, 0, 0, [])), (46, (.invokevirtual 77, 3, .ref 3, 1, 70, 1, [])), (49, (.ireturn, 1, .null, 0, 0, 0, []))]
def km_X3_told : dx_K := ((yX3_told, cX3_told, 3, some .int), kr_X3_told, kp_X3)
def kr_X3_is : List (Nat × dx_I) := [(0, (.aload_n 0, 1, .null, 0, 0, 0, [])), (1, (.iload_n 1, 1, .null, 0, 0, 0, [])), (2, (.invokevirtual 104, 3, .ref 3, 1, 68, 1, [])), (5, (.ifCond .eq 12, 3, .null, 17, 0, 0, [])), (8, (.iload_n 2, 1, .null, 0, 0, 0, [])), (9, (.iconst 0, 1, .int 0, 0, 0, 0, [])), (10, (.iconst 2, 1, .int 2, 0, 0, 0, [])), (11, (.invokestatic 50, 3, .null, 2, 64, 3, [])), (14, (.ifCond .ne 5, 3, .null, 19, 0, 0, [])), (17, (.iconst (-1), 1, .int (-1), 0, 0, 0, [])), (18, (.ireturn, 1, .null, 0, 0, 0, [])), (19, (.aload_n 0, 1, .null, 0, 0, 0, [])), (20, (.getfield 25, 3, .null, 3, 2, 0, [])), (23, (.iload_n 1, 1, .null, 0, 0, 0, [])), (24, (.aaload, 1, .null, 0, 0, 0, [])), (25, (.getfield 107, 3, .null, 2, 0, 0, [])), (28, (.ifCond .ne 9, 3, .null, 37, 0, 0, [])), (31, (.aload_n 0, 1, .null, 0, 0, 0, [])), (32, (.iconst 1, 1, .int 1, 0, 0, 0, [])), (33, (.invokevirtual 77, 3, .ref 3, 1, 70, 1, [])), (36, (.ireturn, 1, .null, 0, 0, 0, [])), (37, (.iload_n 2, 1, .null, 0, 0, 0, [])), (38, (.ifCond .eq 16, 3, .null, 54, 0, 0, [])), (41, (.iload_n 2, 1, .null, 0, 0, 0, [])), (42, (.aload_n 0, 1, .null, 0, 0, 0, [])), (43, (.getfield 25, 3, .null, 3, 2, 0, [])), (46, (.iload_n 1, 1, .null, 0, 0, 0, [])), (47, (.aaload, 1, .null, 0, 0, 0, [])), (48, (.getfield 111, 3, .null, 2, 1, 0, [])), (51, (.if_icmp .ne 7, 3, .null, 58, 0, 0, [])), (54, (.iconst 1, 1, .int 1, 0, 0, 0, [])), (55, (.goto 4, 3, .null, 59, 0, 0, [])), (58, (.iconst 0, 1, .int 0, 0, 0, 0, [])), (59, (.ireturn, 1, .null, 0, 0, 0, []))]
def km_X3_is : dx_K := ((yX3_is, cX3_is, 3, some .int), kr_X3_is, kp_X3)
def kr_X3_all : List (Nat × dx_I) := [(0, (.aload_n 0, 1, .null, 0, 0, 0, [])), (1, (.invokevirtual 126, 3, .ref 3, 1, 74, 0, [])), (4, (.ireturn, 1, .null, 0, 0, 0, []))]
def km_X3_all : dx_K := ((yX3_all, cX3_all, 1, some .int), kr_X3_all, kp_X3)
def kr_X3_mean : List (Nat × dx_I) := [(0, (.aload_n 0, 1, .null, 0, 0, 0, [])), (1, (.getfield 12, 3, .null, 3, 0, 0, [])), (4, (.invokevirtual 130, 3, .ref 0, 1, 6, 0, [])), (7, (.istore_n 1, 1, .null, 0, 0, 0, [])), (8, (.iload_n 1, 1, .null, 0, 0, 0, [])), (9, (.ifCond .ne 11, 3, .null, 20, 0, 0, [])), (12, (.aload_n 0, 1, .null, 0, 0, 0, [])), (13, (.iconst 4, 1, .int 4, 0, 0, 0, [])), (14, (.invokevirtual 77, 3, .ref 3, 1, 70, 1, [])), (17, (.goto 12, 3, .null, 29, 0, 0, [])), (20, (.aload_n 0, 1, .null, 0, 0, 0, [])), (21, (.getfield 12, 3, .null, 3, 0, 0, [])), (24, (.invokevirtual 133, 3, .ref 0, 1, 7, 0, [])), (27, (.iload_n 1, 1, .null, 0, 0, 0, [])), (28, (.idiv, 1, .null, 0, 0, 0, [])), (29, (.ireturn, 1, .null, 0, 0, 0, []))]
def km_X3_mean : dx_K := ((yX3_mean, cX3_mean, 2, some .int), kr_X3_mean, kp_X3)
def kr_X3_floats : List (Nat × dx_I) := [(0, (.aload_n 0, 1, .null, 0, 0, 0, [])), (1, (.iload_n 1, 1, .null, 0, 0, 0, [])), (2, (.invokevirtual 136, 3, .ref 3, 1, 75, 1, [])), (5, (.ireturn, 1, .null, 0, 0, 0, []))]
def km_X3_floats : dx_K := ((yX3_floats, cX3_floats, 2, some .int), kr_X3_floats, kp_X3)
def kr_X3_draft : List (Nat × dx_I) := [(0, (.aload_n 0, 1, .null, 0, 0, 0, [])), (1, (.iload_n 1, 1, .null, 0, 0, 0, [])), (2, (.invokevirtual 136, 3, .ref 3, 1, 75, 1, [])), (5, (.istore_n 2, 1, .null, 0, 0, 0, [])), (6, (.iload_n 2, 1, .null, 0, 0, 0, [])), (7, (.iconst 1, 1, .int 1, 0, 0, 0, [])), (8, (.if_icmp .ne 41, 3, .null, 49, 0, 0, [])), (11, (.aload_n 0, 1, .null, 0, 0, 0, [])), (12, (.aload_n 0, 1, .null, 0, 0, 0, [])), (13, (.getfield 19, 3, .null, 3, 1, 0, [])), (16, (.getfield 139, 3, .null, 1, 4, 0, [])), (19, (.i2l, 1, .null, 0, 0, 0, [])), (20, (.aload_n 0, 1, .null, 0, 0, 0, [])), (21, (.getfield 19, 3, .null, 3, 1, 0, [])), (24, (.getfield 142, 3, .null, 1, 8, 0, [])), (27, (.lmul, 1, .null, 0, 0, 0, [])), (28, (.aload_n 0, 1, .null, 0, 0, 0, [])), (29, (.getfield 19, 3, .null, 3, 1, 0, [])), (32, (.getfield 145, 3, .null, 1, 7, 0, [])), (35, (.ladd, 1, .null, 0, 0, 0, [])), (36, (.aload_n 0, 1, .null, 0, 0, 0, [])), (37, (.getfield 19, 3, .null, 3, 1, 0, [])), (40, (.getfield 142, 3, .null, 1, 8, 0, [])), (43, (.invokevirtual 148, 3, .ref 3, 1, 71, 2, [])), (46, (.goto 4, 3, .null, 50, 0, 0, [])), (49, (.iload_n 2, 1, .null, 0, 0, 0, [])), (50, (.ireturn, 1, .null, 0, 0, 0, []))]
def km_X3_draft : dx_K := ((yX3_draft, cX3_draft, 3, some .int), kr_X3_draft, kp_X3)
def kr_X3_above : List (Nat × dx_I) := [(0, (.aload_n 0, 1, .null, 0, 0, 0, [])), (1, (.iload_n 1, 1, .null, 0, 0, 0, [])), (2, (.invokevirtual 136, 3, .ref 3, 1, 75, 1, [])), (5, (.istore_n 2, 1, .null, 0, 0, 0, [])), (6, (.iload_n 2, 1, .null, 0, 0, 0, [])), (7, (.iconst 1, 1, .int 1, 0, 0, 0, [])), (8, (.if_icmp .ne 49, 3, .null, 57, 0, 0, [])), (11, (.aload_n 0, 1, .null, 0, 0, 0, [])), (12, (.aload_n 0, 1, .null, 0, 0, 0, [])), (13, (.getfield 19, 3, .null, 3, 1, 0, [])), (16, (.getfield 152, 3, .null, 1, 3, 0, [])), (19, (.aload_n 0, 1, .null, 0, 0, 0, [])), (20, (.getfield 19, 3, .null, 3, 1, 0, [])), (23, (.getfield 139, 3, .null, 1, 4, 0, [])), (26, (.isub, 1, .null, 0, 0, 0, [])), (27, (.i2l, 1, .null, 0, 0, 0, [])), (28, (.aload_n 0, 1, .null, 0, 0, 0, [])), (29, (.getfield 19, 3, .null, 3, 1, 0, [])), (32, (.getfield 142, 3, .null, 1, 8, 0, [])), (35, (.lmul, 1, .null, 0, 0, 0, [])), (36, (.aload_n 0, 1, .null, 0, 0, 0, [])), (37, (.getfield 19, 3, .null, 3, 1, 0, [])), (40, (.getfield 145, 3, .null, 1, 7, 0, [])), (43, (.lsub, 1, .null, 0, 0, 0, [])), (44, (.aload_n 0, 1, .null, 0, 0, 0, [])), (45, (.getfield 19, 3, .null, 3, 1, 0, [])), (48, (.getfield 142, 3, .null, 1, 8, 0, [])), (51, (.invokevirtual 148, 3, .ref 3, 1, 71, 2, [])), (54, (.goto 4, 3, .null, 58, 0, 0, [])), (57, (.iload_n 2, 1, .null, 0, 0, 0, [])), (58, (.ireturn, 1, .null, 0, 0, 0, []))]
def km_X3_above : dx_K := ((yX3_above, cX3_above, 3, some .int), kr_X3_above, kp_X3)
def kr_X3_middle : List (Nat × dx_I) := [(0, (.iload_n 2, 1, .null, 0, 0, 0, [])), (1, (.iconst 0, 1, .int 0, 0, 0, 0, [])), (2, (.iconst 3, 1, .int 3, 0, 0, 0, [])), (3, (.invokestatic 50, 3, .null, 2, 64, 3, [])), (6, (.ifCond .ne 5, 3, .null, 11, 0, 0, [])), (9, (.iconst (-1), 1, .int (-1), 0, 0, 0, [])), (10, (.ireturn, 1, .null, 0, 0, 0, [])), (11, (.aload_n 0, 1, .null, 0, 0, 0, [])), (12, (.iload_n 1, 1, .null, 0, 0, 0, [])), (13, (.invokevirtual 136, 3, .ref 3, 1, 75, 1, [])), (16, (.istore_n 3, 1, .null, 0, 0, 0, [])), (17, (.iload_n 3, 1, .null, 0, 0, 0, [])), (18, (.iconst 1, 1, .int 1, 0, 0, 0, [])), (19, (.if_icmp .eq 5, 3, .null, 24, 0, 0, [])), (22, (.iload_n 3, 1, .null, 0, 0, 0, [])), (23, (.ireturn, 1, .null, 0, 0, 0, [])), (24, (.aload_n 0, 1, .null, 0, 0, 0, [])), (25, (.invokevirtual 126, 3, .ref 3, 1, 74, 0, [])), (28, (.i2l, 1, .null, 0, 0, 0, [])), (29, (.lstore 4, 2, .null, 0, 0, 0, [])), (31, (.iload_n 2, 1, .null, 0, 0, 0, [])), (32, (.tableswitch 116 0 2 #[28, 60, 100], 28, .null, 148, 0, 0, [(0, 60), (1, 92), (2, 132)])), (60, (.aload_n 0, 1, .null, 0, 0, 0, [])), (61, (.aload_n 0, 1, .null, 0, 0, 0, [])), (62, (.getfield 19, 3, .null, 3, 1, 0, [])), (65, (.invokevirtual 155, 3, .ref 1, 1, 20, 0, [])), (68, (.aload_n 0, 1, .null, 0, 0, 0, [])), (69, (.getfield 42, 3, .null, 3, 6, 0, [])), (72, (.i2l, 1, .null, 0, 0, 0, [])), (73, (.lmul, 1, .null, 0, 0, 0, [])), (74, (.ldc2_w 159, 3, .long 2, 0, 0, 0, [])), (77, (.aload_n 0, 1, .null, 0, 0, 0, [])), (78, (.getfield 19, 3, .null, 3, 1, 0, [])), (81, (.getfield 142, 3, .null, 1, 8, 0, [])), (84, (.lmul, 1, .null, 0, 0, 0, [])), (85, (.lload 4, 2, .null, 0, 0, 0, [])), (87, (.lmul, 1, .null, 0, 0, 0, [])), (88, (.invokevirtual 148, 3, .ref 3, 1, 71, 2, [])), (91, (.ireturn, 1, .null, 0, 0, 0, [])), (92, (.aload_n 0, 1, .null, 0, 0, 0, [])), (93, (.aload_n 0, 1, .null, 0, 0, 0, [])), (94, (.getfield 19, 3, .null, 3, 1, 0, [])), (97, (.invokevirtual 161, 3, .ref 1, 1, 21, 0, [])), (100, (.aload_n 0, 1, .null, 0, 0, 0, [])), (101, (.getfield 42, 3, .null, 3, 6, 0, [])), (104, (.i2l, 1, .null, 0, 0, 0, [])), (105, (.lmul, 1, .null, 0, 0, 0, [])), (106, (.ldc2_w 159, 3, .long 2, 0, 0, 0, [])), (109, (.aload_n 0, 1, .null, 0, 0, 0, [])), (110, (.getfield 19, 3, .null, 3, 1, 0, [])), (113, (.getfield 142, 3, .null, 1, 8, 0, [])), (116, (.lmul, 1, .null, 0, 0, 0, [])), (117, (.aload_n 0, 1, .null, 0, 0, 0, [])), (118, (.getfield 19, 3, .null, 3, 1, 0, [])), (121, (.getfield 142, 3, .null, 1, 8, 0, [])), (124, (.lmul, 1, .null, 0, 0, 0, [])), (125, (.lload 4, 2, .null, 0, 0, 0, [])), (127, (.lmul, 1, .null, 0, 0, 0, [])), (128, (.invokevirtual 148, 3, .ref 3, 1, 71, 2, [])), (131, (.ireturn, 1, .null, 0, 0, 0, [])), (132, (.aload_n 0, 1, .null, 0, 0, 0, [])), (133, (.aload_n 0, 1, .null, 0, 0, 0, [])), (134, (.iload_n 1, 1, .null, 0, 0, 0, [])), (135, (.invokevirtual 164, 3, .ref 3, 1, 76, 1, [])), (138, (.ldc2_w 159, 3, .long 2, 0, 0, 0, [])), (141, (.lload 4, 2, .null, 0, 0, 0, [])), (143, (.lmul, 1, .null, 0, 0, 0, [])), (144, (.invokevirtual 148, 3, .ref 3, 1, 71, 2, [])), (147, (.ireturn, 1, .null, 0, 0, 0, [])), (148, (.aload_n 0, 1, .null, 0, 0, 0, [])), (149, (.aload_n 0, 1, .null, 0, 0, 0, [])), (150, (.iload_n 1, 1, .null, 0, 0, 0, [])), (151, (.invokevirtual 168, 3, .ref 3, 1, 77, 1, [])), (154, (.ldc2_w 159, 3, .long 2, 0, 0, 0, [])), (157, (.lload 4, 2, .null, 0, 0, 0, [])), (159, (.lmul, 1, .null, 0, 0, 0, [])), (160, (.invokevirtual 148, 3, .ref 3, 1, 71, 2, [])), (163, (.ireturn, 1, .null, 0, 0, 0, []))]
def km_X3_middle : dx_K := ((yX3_middle, cX3_middle, 6, some .int), kr_X3_middle, kp_X3)
def kr_X3_place : List (Nat × dx_I) := [(0, (.iload_n 1, 1, .null, 0, 0, 0, [])), (1, (.invokestatic 171, 3, .null, 2, 65, 1, [])), (4, (.ifCond .eq 39, 3, .null, 43, 0, 0, [])), (7, (.iload_n 2, 1, .null, 0, 0, 0, [])), (8, (.iconst 0, 1, .int 0, 0, 0, 0, [])), (9, (.aload_n 0, 1, .null, 0, 0, 0, [])), (10, (.getfield 12, 3, .null, 3, 0, 0, [])), (13, (.iload_n 1, 1, .null, 0, 0, 0, [])), (14, (.invokevirtual 174, 3, .ref 0, 1, 4, 1, [])), (17, (.iconst 1, 1, .int 1, 0, 0, 0, [])), (18, (.isub, 1, .null, 0, 0, 0, [])), (19, (.invokestatic 50, 3, .null, 2, 64, 3, [])), (22, (.ifCond .eq 21, 3, .null, 43, 0, 0, [])), (25, (.iload_n 3, 1, .null, 0, 0, 0, [])), (26, (.iconst 0, 1, .int 0, 0, 0, 0, [])), (27, (.aload_n 0, 1, .null, 0, 0, 0, [])), (28, (.getfield 12, 3, .null, 3, 0, 0, [])), (31, (.iload_n 1, 1, .null, 0, 0, 0, [])), (32, (.invokevirtual 177, 3, .ref 0, 1, 5, 1, [])), (35, (.iconst 1, 1, .int 1, 0, 0, 0, [])), (36, (.isub, 1, .null, 0, 0, 0, [])), (37, (.invokestatic 50, 3, .null, 2, 64, 3, [])), (40, (.ifCond .ne 5, 3, .null, 45, 0, 0, [])), (43, (.iconst (-1), 1, .int (-1), 0, 0, 0, [])), (44, (.ireturn, 1, .null, 0, 0, 0, [])), (45, (.aload_n 0, 1, .null, 0, 0, 0, [])), (46, (.iload_n 1, 1, .null, 0, 0, 0, [])), (47, (.invokevirtual 136, 3, .ref 3, 1, 75, 1, [])), (50, (.istore 4, 2, .null, 0, 0, 0, [])), (52, (.iload 4, 2, .null, 0, 0, 0, [])), (54, (.iconst 1, 1, .int 1, 0, 0, 0, [])), (55, (.if_icmp .ne 15, 3, .null, 70, 0, 0, [])), (58, (.aload_n 0, 1, .null, 0, 0, 0, [])), (59, (.getfield 19, 3, .null, 3, 1, 0, [])), (62, (.iload_n 2, 1, .null, 0, 0, 0, [])), (63, (.iload_n 3, 1, .null, 0, 0, 0, [])), (64, (.invokevirtual 180, 3, .ref 1, 1, 18, 2, [])), (67, (.goto 5, 3, .null, 72, 0, 0, [])), (70, (.iload 4, 2, .null, 0, 0, 0, [])), (72, (.ireturn, 1, .null, 0, 0, 0, []))]
def km_X3_place : dx_K := ((yX3_place, cX3_place, 5, some .int), kr_X3_place, kp_X3)
def kr_X3_leans : List (Nat × dx_I) := [(0, (.aload_n 0, 1, .null, 0, 0, 0, [])), (1, (.iload_n 1, 1, .null, 0, 0, 0, [])), (2, (.invokevirtual 136, 3, .ref 3, 1, 75, 1, [])), (5, (.istore_n 2, 1, .null, 0, 0, 0, [])), (6, (.iload_n 2, 1, .null, 0, 0, 0, [])), (7, (.iconst 1, 1, .int 1, 0, 0, 0, [])), (8, (.if_icmp .ne 11, 3, .null, 19, 0, 0, [])), (11, (.aload_n 0, 1, .null, 0, 0, 0, [])), (12, (.iload_n 1, 1, .null, 0, 0, 0, [])), (13, (.invokevirtual 183, 3, .ref 3, 1, 78, 1, [])), (16, (.goto 4, 3, .null, 20, 0, 0, [])), (19, (.iload_n 2, 1, .null, 0, 0, 0, [])), (20, (.ireturn, 1, .null, 0, 0, 0, []))]
def km_X3_leans : dx_K := ((yX3_leans, cX3_leans, 3, some .int), kr_X3_leans, kp_X3)
def kr_X3_breadth : List (Nat × dx_I) := [(0, (.aload_n 0, 1, .null, 0, 0, 0, [])), (1, (.iload_n 1, 1, .null, 0, 0, 0, [])), (2, (.invokevirtual 136, 3, .ref 3, 1, 75, 1, [])), (5, (.istore_n 2, 1, .null, 0, 0, 0, [])), (6, (.iload_n 2, 1, .null, 0, 0, 0, [])), (7, (.iconst 1, 1, .int 1, 0, 0, 0, [])), (8, (.if_icmp .eq 5, 3, .null, 13, 0, 0, [])), (11, (.iload_n 2, 1, .null, 0, 0, 0, [])), (12, (.ireturn, 1, .null, 0, 0, 0, [])), (13, (.aload_n 0, 1, .null, 0, 0, 0, [])), (14, (.getfield 19, 3, .null, 3, 1, 0, [])), (17, (.invokevirtual 186, 3, .ref 1, 1, 22, 0, [])), (20, (.aload_n 0, 1, .null, 0, 0, 0, [])), (21, (.aload_n 0, 1, .null, 0, 0, 0, [])), (22, (.getfield 19, 3, .null, 3, 1, 0, [])), (25, (.getfield 189, 3, .null, 1, 9, 0, [])), (28, (.aload_n 0, 1, .null, 0, 0, 0, [])), (29, (.getfield 19, 3, .null, 3, 1, 0, [])), (32, (.getfield 192, 3, .null, 1, 10, 0, [])), (35, (.invokevirtual 148, 3, .ref 3, 1, 71, 2, [])), (38, (.ireturn, 1, .null, 0, 0, 0, []))]
def km_X3_breadth : dx_K := ((yX3_breadth, cX3_breadth, 3, some .int), kr_X3_breadth, kp_X3)
def kr_X3_holds : List (Nat × dx_I) := [(0, (.aload_n 0, 1, .null, 0, 0, 0, [])), (1, (.iload_n 1, 1, .null, 0, 0, 0, [])), (2, (.invokevirtual 136, 3, .ref 3, 1, 75, 1, [])), (5, (.istore_n 2, 1, .null, 0, 0, 0, [])), (6, (.iload_n 2, 1, .null, 0, 0, 0, [])), (7, (.iconst 1, 1, .int 1, 0, 0, 0, [])), (8, (.if_icmp .ne 11, 3, .null, 19, 0, 0, [])), (11, (.aload_n 0, 1, .null, 0, 0, 0, [])), (12, (.iload_n 1, 1, .null, 0, 0, 0, [])), (13, (.invokevirtual 195, 3, .ref 3, 1, 79, 1, [])), (16, (.goto 4, 3, .null, 20, 0, 0, [])), (19, (.iload_n 2, 1, .null, 0, 0, 0, [])), (20, (.ireturn, 1, .null, 0, 0, 0, []))]
def km_X3_holds : dx_K := ((yX3_holds, cX3_holds, 3, some .int), kr_X3_holds, kp_X3)
def kr_X3_rests : List (Nat × dx_I) := [(0, (.iconst 0, 1, .int 0, 0, 0, 0, [])), (1, (.istore_n 1, 1, .null, 0, 0, 0, [])), (2, (.iconst 0, 1, .int 0, 0, 0, 0, [])), (3, (.istore_n 2, 1, .null, 0, 0, 0, [])), (4, (.iload_n 2, 1, .null, 0, 0, 0, [])), (5, (.iconst 4, 1, .int 4, 0, 0, 0, [])), (6, (.if_icmp .ge 44, 3, .null, 50, 0, 0, [])), (9, (.aload_n 0, 1, .null, 0, 0, 0, [])), (10, (.iload_n 2, 1, .null, 0, 0, 0, [])), (11, (.invokevirtual 136, 3, .ref 3, 1, 75, 1, [])), (14, (.istore_n 3, 1, .null, 0, 0, 0, [])), (15, (.iload_n 3, 1, .null, 0, 0, 0, [])), (16, (.bipush (-4), 2, .int (-4), 0, 0, 0, [])), (18, (.if_icmp .ne 6, 3, .null, 24, 0, 0, [])), (21, (.bipush (-4), 2, .int (-4), 0, 0, 0, [])), (23, (.ireturn, 1, .null, 0, 0, 0, [])), (24, (.iload_n 3, 1, .null, 0, 0, 0, [])), (25, (.iconst 1, 1, .int 1, 0, 0, 0, [])), (26, (.if_icmp .ne 18, 3, .null, 44, 0, 0, [])), (29, (.aload_n 0, 1, .null, 0, 0, 0, [])), (30, (.iload_n 2, 1, .null, 0, 0, 0, [])), (31, (.invokevirtual 195, 3, .ref 3, 1, 79, 1, [])), (34, (.iconst 2, 1, .int 2, 0, 0, 0, [])), (35, (.if_icmp .ne 9, 3, .null, 44, 0, 0, [])), (38, (.iload_n 1, 1, .null, 0, 0, 0, [])), (39, (.iconst 1, 1, .int 1, 0, 0, 0, [])), (40, (.iload_n 2, 1, .null, 0, 0, 0, [])), (41, (.ishl, 1, .null, 0, 0, 0, [])), (42, (.ior, 1, .null, 0, 0, 0, [])), (43, (.istore_n 1, 1, .null, 0, 0, 0, [])), (44, (.iinc 2 1, 3, .int 1, 0, 0, 0, [])), (47, (.goto (-43), 3, .null, 4, 0, 0, [])), (50, (.iload_n 1, 1, .null, 0, 0, 0, [])), (51, (.ireturn, 1, .null, 0, 0, 0, []))]
def km_X3_rests : dx_K := ((yX3_rests, cX3_rests, 4, some .int), kr_X3_rests, kp_X3)
def kr_X3_carries : List (Nat × dx_I) := [(0, (.iload_n 1, 1, .null, 0, 0, 0, [])), (1, (.invokestatic 171, 3, .null, 2, 65, 1, [])), (4, (.ifCond .ne 5, 3, .null, 9, 0, 0, [])), (7, (.iconst (-1), 1, .int (-1), 0, 0, 0, [])), (8, (.ireturn, 1, .null, 0, 0, 0, [])), (9, (.aload_n 0, 1, .null, 0, 0, 0, [])), (10, (.getfield 12, 3, .null, 3, 0, 0, [])), (13, (.invokevirtual 130, 3, .ref 0, 1, 6, 0, [])), (16, (.ifCond .ne 6, 3, .null, 22, 0, 0, [])), (19, (.bipush (-4), 2, .int (-4), 0, 0, 0, [])), (21, (.ireturn, 1, .null, 0, 0, 0, [])), (22, (.aload_n 0, 1, .null, 0, 0, 0, [])), (23, (.getfield 19, 3, .null, 3, 1, 0, [])), (26, (.aload_n 0, 1, .null, 0, 0, 0, [])), (27, (.getfield 12, 3, .null, 3, 0, 0, [])), (30, (.iload_n 1, 1, .null, 0, 0, 0, [])), (31, (.invokevirtual 198, 3, .ref 1, 1, 10, 2, [])), (34, (.aload_n 0, 1, .null, 0, 0, 0, [])), (35, (.getfield 19, 3, .null, 3, 1, 0, [])), (38, (.invokevirtual 202, 3, .ref 1, 1, 17, 0, [])), (41, (.aload_n 0, 1, .null, 0, 0, 0, [])), (42, (.getfield 42, 3, .null, 3, 6, 0, [])), (45, (.imul, 1, .null, 0, 0, 0, [])), (46, (.aload_n 0, 1, .null, 0, 0, 0, [])), (47, (.invokevirtual 126, 3, .ref 3, 1, 74, 0, [])), (50, (.isub, 1, .null, 0, 0, 0, [])), (51, (.istore_n 2, 1, .null, 0, 0, 0, [])), (52, (.iload_n 2, 1, .null, 0, 0, 0, [])), (53, (.ifCond .ge 8, 3, .null, 61, 0, 0, [])), (56, (.bipush (-5), 2, .int (-5), 0, 0, 0, [])), (58, (.goto 4, 3, .null, 62, 0, 0, [])), (61, (.iload_n 2, 1, .null, 0, 0, 0, [])), (62, (.ireturn, 1, .null, 0, 0, 0, []))]
def km_X3_carries : dx_K := ((yX3_carries, cX3_carries, 3, some .int), kr_X3_carries, kp_X3)
def kr_X3_trim : List (Nat × dx_I) := [(0, (.iload_n 1, 1, .null, 0, 0, 0, [])), (1, (.invokestatic 171, 3, .null, 2, 65, 1, [])), (4, (.ifCond .eq 14, 3, .null, 18, 0, 0, [])), (7, (.iload_n 2, 1, .null, 0, 0, 0, [])), (8, (.iconst 1, 1, .int 1, 0, 0, 0, [])), (9, (.sipush 2000, 3, .int 2000, 0, 0, 0, [])), (12, (.invokestatic 50, 3, .null, 2, 64, 3, [])), (15, (.ifCond .ne 5, 3, .null, 20, 0, 0, [])), (18, (.iconst (-1), 1, .int (-1), 0, 0, 0, [])), (19, (.ireturn, 1, .null, 0, 0, 0, [])), (20, (.aload_n 0, 1, .null, 0, 0, 0, [])), (21, (.getfield 12, 3, .null, 3, 0, 0, [])), (24, (.invokevirtual 130, 3, .ref 0, 1, 6, 0, [])), (27, (.ifCond .ne 6, 3, .null, 33, 0, 0, [])), (30, (.bipush (-4), 2, .int (-4), 0, 0, 0, [])), (32, (.ireturn, 1, .null, 0, 0, 0, [])), (33, (.aload_n 0, 1, .null, 0, 0, 0, [])), (34, (.getfield 19, 3, .null, 3, 1, 0, [])), (37, (.aload_n 0, 1, .null, 0, 0, 0, [])), (38, (.getfield 12, 3, .null, 3, 0, 0, [])), (41, (.iload_n 1, 1, .null, 0, 0, 0, [])), (42, (.invokevirtual 198, 3, .ref 1, 1, 10, 2, [])), (45, (.aload_n 0, 1, .null, 0, 0, 0, [])), (46, (.getfield 19, 3, .null, 3, 1, 0, [])), (49, (.aload_n 0, 1, .null, 0, 0, 0, [])), (50, (.invokevirtual 126, 3, .ref 3, 1, 74, 0, [])), (53, (.iload_n 2, 1, .null, 0, 0, 0, [])), (54, (.iadd, 1, .null, 0, 0, 0, [])), (55, (.aload_n 0, 1, .null, 0, 0, 0, [])), (56, (.getfield 42, 3, .null, 3, 6, 0, [])), (59, (.invokevirtual 205, 3, .ref 1, 1, 16, 2, [])), (62, (.ifCond .ne 6, 3, .null, 68, 0, 0, [])), (65, (.bipush (-5), 2, .int (-5), 0, 0, 0, [])), (67, (.ireturn, 1, .null, 0, 0, 0, [])), (68, (.aload_n 0, 1, .null, 0, 0, 0, [])), (69, (.aload_n 0, 1, .null, 0, 0, 0, [])), (70, (.getfield 19, 3, .null, 3, 1, 0, [])), (73, (.invokevirtual 155, 3, .ref 1, 1, 20, 0, [])), (76, (.aload_n 0, 1, .null, 0, 0, 0, [])), (77, (.getfield 42, 3, .null, 3, 6, 0, [])), (80, (.i2l, 1, .null, 0, 0, 0, [])), (81, (.lmul, 1, .null, 0, 0, 0, [])), (82, (.aload_n 0, 1, .null, 0, 0, 0, [])), (83, (.iload_n 1, 1, .null, 0, 0, 0, [])), (84, (.invokevirtual 164, 3, .ref 3, 1, 76, 1, [])), (87, (.aload_n 0, 1, .null, 0, 0, 0, [])), (88, (.getfield 19, 3, .null, 3, 1, 0, [])), (91, (.getfield 142, 3, .null, 1, 8, 0, [])), (94, (.lmul, 1, .null, 0, 0, 0, [])), (95, (.lsub, 1, .null, 0, 0, 0, [])), (96, (.ldc2_w 159, 3, .long 2, 0, 0, 0, [])), (99, (.aload_n 0, 1, .null, 0, 0, 0, [])), (100, (.getfield 19, 3, .null, 3, 1, 0, [])), (103, (.getfield 142, 3, .null, 1, 8, 0, [])), (106, (.lmul, 1, .null, 0, 0, 0, [])), (107, (.iload_n 2, 1, .null, 0, 0, 0, [])), (108, (.i2l, 1, .null, 0, 0, 0, [])), (109, (.lmul, 1, .null, 0, 0, 0, [])), (110, (.invokevirtual 148, 3, .ref 3, 1, 71, 2, [])), (113, (.ireturn, 1, .null, 0, 0, 0, []))]
def km_X3_trim : dx_K := ((yX3_trim, cX3_trim, 3, some .int), kr_X3_trim, kp_X3)
def kr_X3_room : List (Nat × dx_I) := [(0, (.iload_n 1, 1, .null, 0, 0, 0, [])), (1, (.invokestatic 171, 3, .null, 2, 65, 1, [])), (4, (.ifCond .eq 37, 3, .null, 41, 0, 0, [])), (7, (.iload_n 2, 1, .null, 0, 0, 0, [])), (8, (.iconst 0, 1, .int 0, 0, 0, 0, [])), (9, (.bipush 24, 2, .int 24, 0, 0, 0, [])), (11, (.invokestatic 50, 3, .null, 2, 64, 3, [])), (14, (.ifCond .eq 27, 3, .null, 41, 0, 0, [])), (17, (.iload_n 3, 1, .null, 0, 0, 0, [])), (18, (.iconst 1, 1, .int 1, 0, 0, 0, [])), (19, (.bipush 12, 2, .int 12, 0, 0, 0, [])), (21, (.invokestatic 50, 3, .null, 2, 64, 3, [])), (24, (.ifCond .eq 17, 3, .null, 41, 0, 0, [])), (27, (.iload_n 2, 1, .null, 0, 0, 0, [])), (28, (.aload_n 0, 1, .null, 0, 0, 0, [])), (29, (.getfield 12, 3, .null, 3, 0, 0, [])), (32, (.iload_n 1, 1, .null, 0, 0, 0, [])), (33, (.invokevirtual 177, 3, .ref 0, 1, 5, 1, [])), (36, (.iload_n 3, 1, .null, 0, 0, 0, [])), (37, (.imul, 1, .null, 0, 0, 0, [])), (38, (.if_icmp .le 5, 3, .null, 43, 0, 0, [])), (41, (.iconst (-1), 1, .int (-1), 0, 0, 0, [])), (42, (.ireturn, 1, .null, 0, 0, 0, [])), (43, (.iload_n 2, 1, .null, 0, 0, 0, [])), (44, (.ifCond .ne 10, 3, .null, 54, 0, 0, [])), (47, (.aload_n 0, 1, .null, 0, 0, 0, [])), (48, (.lconst 0, 1, .long 0, 0, 0, 0, [])), (49, (.lconst 1, 1, .long 1, 0, 0, 0, [])), (50, (.invokevirtual 148, 3, .ref 3, 1, 71, 2, [])), (53, (.ireturn, 1, .null, 0, 0, 0, [])), (54, (.iload_n 2, 1, .null, 0, 0, 0, [])), (55, (.iconst 1, 1, .int 1, 0, 0, 0, [])), (56, (.isub, 1, .null, 0, 0, 0, [])), (57, (.iload_n 3, 1, .null, 0, 0, 0, [])), (58, (.idiv, 1, .null, 0, 0, 0, [])), (59, (.istore 4, 2, .null, 0, 0, 0, [])), (61, (.aload_n 0, 1, .null, 0, 0, 0, [])), (62, (.getfield 19, 3, .null, 3, 1, 0, [])), (65, (.aload_n 0, 1, .null, 0, 0, 0, [])), (66, (.getfield 12, 3, .null, 3, 0, 0, [])), (69, (.iload_n 1, 1, .null, 0, 0, 0, [])), (70, (.invokevirtual 198, 3, .ref 1, 1, 10, 2, [])), (73, (.aload_n 0, 1, .null, 0, 0, 0, [])), (74, (.getfield 19, 3, .null, 3, 1, 0, [])), (77, (.iload 4, 2, .null, 0, 0, 0, [])), (79, (.invokevirtual 208, 3, .ref 1, 1, 11, 1, [])), (82, (.aload_n 0, 1, .null, 0, 0, 0, [])), (83, (.aload_n 0, 1, .null, 0, 0, 0, [])), (84, (.getfield 19, 3, .null, 3, 1, 0, [])), (87, (.getfield 212, 3, .null, 1, 5, 0, [])), (90, (.iload_n 3, 1, .null, 0, 0, 0, [])), (91, (.imul, 1, .null, 0, 0, 0, [])), (92, (.aload_n 0, 1, .null, 0, 0, 0, [])), (93, (.getfield 19, 3, .null, 3, 1, 0, [])), (96, (.getfield 215, 3, .null, 1, 6, 0, [])), (99, (.iload_n 2, 1, .null, 0, 0, 0, [])), (100, (.iload 4, 2, .null, 0, 0, 0, [])), (102, (.iload_n 3, 1, .null, 0, 0, 0, [])), (103, (.imul, 1, .null, 0, 0, 0, [])), (104, (.isub, 1, .null, 0, 0, 0, [])), (105, (.imul, 1, .null, 0, 0, 0, [])), (106, (.iadd, 1, .null, 0, 0, 0, [])), (107, (.i2l, 1, .null, 0, 0, 0, [])), (108, (.iload_n 3, 1, .null, 0, 0, 0, [])), (109, (.i2l, 1, .null, 0, 0, 0, [])), (110, (.invokevirtual 148, 3, .ref 3, 1, 71, 2, [])), (113, (.ireturn, 1, .null, 0, 0, 0, []))]
def km_X3_room : dx_K := ((yX3_room, cX3_room, 5, some .int), kr_X3_room, kp_X3)
def kr_X3_upper : List (Nat × dx_I) := [(0, (.aload_n 0, 1, .null, 0, 0, 0, [])), (1, (.getfield 218, 3, .null, 3, 9, 0, [])), (4, (.lreturn, 1, .null, 0, 0, 0, []))]
def km_X3_upper : dx_K := ((yX3_upper, cX3_upper, 1, some .long), kr_X3_upper, kp_X3)
def kr_X3_lower : List (Nat × dx_I) := [(0, (.aload_n 0, 1, .null, 0, 0, 0, [])), (1, (.getfield 46, 3, .null, 3, 10, 0, [])), (4, (.lreturn, 1, .null, 0, 0, 0, []))]
def km_X3_lower : dx_K := ((yX3_lower, cX3_lower, 1, some .long), kr_X3_lower, kp_X3)
def kr_X3_count : List (Nat × dx_I) := [(0, (.iload_n 1, 1, .null, 0, 0, 0, [])), (1, (.tableswitch 69 0 4 #[35, 43, 51, 59, 64], 35, .null, 70, 0, 0, [(0, 36), (1, 44), (2, 52), (3, 60), (4, 65)])), (36, (.aload_n 0, 1, .null, 0, 0, 0, [])), (37, (.getfield 12, 3, .null, 3, 0, 0, [])), (40, (.getfield 90, 3, .null, 0, 1, 0, [])), (43, (.ireturn, 1, .null, 0, 0, 0, [])), (44, (.aload_n 0, 1, .null, 0, 0, 0, [])), (45, (.getfield 12, 3, .null, 3, 0, 0, [])), (48, (.getfield 221, 3, .null, 0, 2, 0, [])), (51, (.ireturn, 1, .null, 0, 0, 0, [])), (52, (.aload_n 0, 1, .null, 0, 0, 0, [])), (53, (.getfield 12, 3, .null, 3, 0, 0, [])), (56, (.invokevirtual 130, 3, .ref 0, 1, 6, 0, [])), (59, (.ireturn, 1, .null, 0, 0, 0, [])), (60, (.aload_n 0, 1, .null, 0, 0, 0, [])), (61, (.getfield 58, 3, .null, 3, 7, 0, [])), (64, (.ireturn, 1, .null, 0, 0, 0, [])), (65, (.aload_n 0, 1, .null, 0, 0, 0, [])), (66, (.invokevirtual 222, 3, .ref 3, 1, 73, 0, [])), (69, (.ireturn, 1, .null, 0, 0, 0, [])), (70, (.iconst (-1), 1, .int (-1), 0, 0, 0, [])), (71, (.ireturn, 1, .null, 0, 0, 0, []))]
def km_X3_count : dx_K := ((yX3_count, cX3_count, 2, some .int), kr_X3_count, kp_X3)
def kr_X3_finding : List (Nat × dx_I) := [(0, (.aload_n 0, 1, .null, 0, 0, 0, [])), (1, (.getfield 225, 3, .null, 3, 8, 0, [])), (4, (.ireturn, 1, .null, 0, 0, 0, []))]
def km_X3_finding : dx_K := ((yX3_finding, cX3_finding, 1, some .int), kr_X3_finding, kp_X3)
def kr_X3_findings : List (Nat × dx_I) := [(0, (.iload_n 1, 1, .null, 0, 0, 0, [])), (1, (.iconst 1, 1, .int 1, 0, 0, 0, [])), (2, (.iconst 5, 1, .int 5, 0, 0, 0, [])), (3, (.invokestatic 50, 3, .null, 2, 64, 3, [])), (6, (.ifCond .eq 12, 3, .null, 18, 0, 0, [])), (9, (.aload_n 0, 1, .null, 0, 0, 0, [])), (10, (.getfield 39, 3, .null, 3, 5, 0, [])), (13, (.iload_n 1, 1, .null, 0, 0, 0, [])), (14, (.iaload, 1, .null, 0, 0, 0, [])), (15, (.goto 4, 3, .null, 19, 0, 0, [])), (18, (.iconst (-1), 1, .int (-1), 0, 0, 0, [])), (19, (.ireturn, 1, .null, 0, 0, 0, []))]
def km_X3_findings : dx_K := ((yX3_findings, cX3_findings, 2, some .int), kr_X3_findings, kp_X3)
def kr_X3_digest : List (Nat × dx_I) := [(0, (.aload_n 0, 1, .null, 0, 0, 0, [])), (1, (.aload_n 0, 1, .null, 0, 0, 0, [])), (2, (.ldc2_w 228, 3, .long 31, 0, 0, 0, [])), (5, (.aload_n 0, 1, .null, 0, 0, 0, [])), (6, (.ldc2_w 230, 3, .long 17, 0, 0, 0, [])), (9, (.invokevirtual 232, 3, .ref 3, 1, 61, 1, [])), (12, (.lmul, 1, .null, 0, 0, 0, [])), (13, (.aload_n 0, 1, .null, 0, 0, 0, [])), (14, (.getfield 42, 3, .null, 3, 6, 0, [])), (17, (.i2l, 1, .null, 0, 0, 0, [])), (18, (.ladd, 1, .null, 0, 0, 0, [])), (19, (.invokevirtual 236, 3, .ref 3, 1, 62, 1, [])), (22, (.invokevirtual 239, 3, .ref 3, 1, 63, 1, [])), (25, (.lreturn, 1, .null, 0, 0, 0, []))]
def km_X3_digest : dx_K := ((yX3_digest, cX3_digest, 1, some .long), kr_X3_digest, kp_X3)
def kr_X3_digestPlaces : List (Nat × dx_I) := [(0, (.ldc2_w 228, 3, .long 31, 0, 0, 0, [])), (3, (.lload_n 1, 1, .null, 0, 0, 0, [])), (4, (.lmul, 1, .null, 0, 0, 0, [])), (5, (.aload_n 0, 1, .null, 0, 0, 0, [])), (6, (.getfield 12, 3, .null, 3, 0, 0, [])), (9, (.getfield 90, 3, .null, 0, 1, 0, [])), (12, (.i2l, 1, .null, 0, 0, 0, [])), (13, (.ladd, 1, .null, 0, 0, 0, [])), (14, (.lstore_n 3, 1, .null, 0, 0, 0, [])), (15, (.ldc2_w 228, 3, .long 31, 0, 0, 0, [])), (18, (.lload_n 3, 1, .null, 0, 0, 0, [])), (19, (.lmul, 1, .null, 0, 0, 0, [])), (20, (.aload_n 0, 1, .null, 0, 0, 0, [])), (21, (.getfield 12, 3, .null, 3, 0, 0, [])), (24, (.getfield 221, 3, .null, 0, 2, 0, [])), (27, (.i2l, 1, .null, 0, 0, 0, [])), (28, (.ladd, 1, .null, 0, 0, 0, [])), (29, (.lstore_n 3, 1, .null, 0, 0, 0, [])), (30, (.iconst 0, 1, .int 0, 0, 0, 0, [])), (31, (.istore 5, 2, .null, 0, 0, 0, [])), (33, (.iload 5, 2, .null, 0, 0, 0, [])), (35, (.aload_n 0, 1, .null, 0, 0, 0, [])), (36, (.getfield 12, 3, .null, 3, 0, 0, [])), (39, (.getfield 221, 3, .null, 0, 2, 0, [])), (42, (.if_icmp .ge 49, 3, .null, 91, 0, 0, [])), (45, (.iconst 0, 1, .int 0, 0, 0, 0, [])), (46, (.istore 6, 2, .null, 0, 0, 0, [])), (48, (.iload 6, 2, .null, 0, 0, 0, [])), (50, (.aload_n 0, 1, .null, 0, 0, 0, [])), (51, (.getfield 12, 3, .null, 3, 0, 0, [])), (54, (.getfield 90, 3, .null, 0, 1, 0, [])), (57, (.if_icmp .ge 28, 3, .null, 85, 0, 0, [])), (60, (.ldc2_w 228, 3, .long 31, 0, 0, 0, [])), (63, (.lload_n 3, 1, .null, 0, 0, 0, [])), (64, (.lmul, 1, .null, 0, 0, 0, [])), (65, (.aload_n 0, 1, .null, 0, 0, 0, [])), (66, (.getfield 12, 3, .null, 3, 0, 0, [])), (69, (.iload 6, 2, .null, 0, 0, 0, [])), (71, (.iload 5, 2, .null, 0, 0, 0, [])), (73, (.invokevirtual 65, 3, .ref 0, 1, 2, 2, [])), (76, (.i2l, 1, .null, 0, 0, 0, [])), (77, (.ladd, 1, .null, 0, 0, 0, [])), (78, (.lstore_n 3, 1, .null, 0, 0, 0, [])), (79, (.iinc 6 1, 3, .int 1, 0, 0, 0, [])), (82, (.goto (-34), 3, .null, 48, 0, 0, [])), (85, (.iinc 5 1, 3, .int 1, 0, 0, 0, [])), (88, (.goto (-55), 3, .null, 33, 0, 0, [])), (91, (.lload_n 3, 1, .null, 0, 0, 0, [])), (92, (.lreturn, 1, .null, 0, 0, 0, []))]
def km_X3_digestPlaces : dx_K := ((yX3_digestPlaces, cX3_digestPlaces, 7, some .long), kr_X3_digestPlaces, kp_X3)
def kr_X3_digestLoads : List (Nat × dx_I) := [(0, (.lload_n 1, 1, .null, 0, 0, 0, [])), (1, (.lstore_n 3, 1, .null, 0, 0, 0, [])), (2, (.iconst 0, 1, .int 0, 0, 0, 0, [])), (3, (.istore 5, 2, .null, 0, 0, 0, [])), (5, (.iload 5, 2, .null, 0, 0, 0, [])), (7, (.aload_n 0, 1, .null, 0, 0, 0, [])), (8, (.getfield 58, 3, .null, 3, 7, 0, [])), (11, (.if_icmp .ge 70, 3, .null, 81, 0, 0, [])), (14, (.aload_n 0, 1, .null, 0, 0, 0, [])), (15, (.getfield 25, 3, .null, 3, 2, 0, [])), (18, (.iload 5, 2, .null, 0, 0, 0, [])), (20, (.aaload, 1, .null, 0, 0, 0, [])), (21, (.getfield 107, 3, .null, 2, 0, 0, [])), (24, (.ifCond .ne 16, 3, .null, 40, 0, 0, [])), (27, (.ldc2_w 228, 3, .long 31, 0, 0, 0, [])), (30, (.lload_n 3, 1, .null, 0, 0, 0, [])), (31, (.lmul, 1, .null, 0, 0, 0, [])), (32, (.ldc2_w 242, 3, .long (-1), 0, 0, 0, [])), (35, (.ladd, 1, .null, 0, 0, 0, [])), (36, (.lstore_n 3, 1, .null, 0, 0, 0, [])), (37, (.goto 38, 3, .null, 75, 0, 0, [])), (40, (.iconst 0, 1, .int 0, 0, 0, 0, [])), (41, (.istore 6, 2, .null, 0, 0, 0, [])), (43, (.iload 6, 2, .null, 0, 0, 0, [])), (45, (.iconst 5, 1, .int 5, 0, 0, 0, [])), (46, (.if_icmp .ge 29, 3, .null, 75, 0, 0, [])), (49, (.ldc2_w 228, 3, .long 31, 0, 0, 0, [])), (52, (.lload_n 3, 1, .null, 0, 0, 0, [])), (53, (.lmul, 1, .null, 0, 0, 0, [])), (54, (.aload_n 0, 1, .null, 0, 0, 0, [])), (55, (.getfield 25, 3, .null, 3, 2, 0, [])), (58, (.iload 5, 2, .null, 0, 0, 0, [])), (60, (.aaload, 1, .null, 0, 0, 0, [])), (61, (.iload 6, 2, .null, 0, 0, 0, [])), (63, (.invokevirtual 123, 3, .ref 2, 1, 25, 1, [])), (66, (.i2l, 1, .null, 0, 0, 0, [])), (67, (.ladd, 1, .null, 0, 0, 0, [])), (68, (.lstore_n 3, 1, .null, 0, 0, 0, [])), (69, (.iinc 6 1, 3, .int 1, 0, 0, 0, [])), (72, (.goto (-29), 3, .null, 43, 0, 0, [])), (75, (.iinc 5 1, 3, .int 1, 0, 0, 0, [])), (78, (.goto (-73), 3, .null, 5, 0, 0, [])), (81, (.lload_n 3, 1, .null, 0, 0, 0, [])), (82, (.lreturn, 1, .null, 0, 0, 0, []))]
def km_X3_digestLoads : dx_K := ((yX3_digestLoads, cX3_digestLoads, 7, some .long), kr_X3_digestLoads, kp_X3)
def kr_X3_digestSheets : List (Nat × dx_I) := [(0, (.lload_n 1, 1, .null, 0, 0, 0, [])), (1, (.lstore_n 3, 1, .null, 0, 0, 0, [])), (2, (.iconst 0, 1, .int 0, 0, 0, 0, [])), (3, (.istore 5, 2, .null, 0, 0, 0, [])), (5, (.iload 5, 2, .null, 0, 0, 0, [])), (7, (.bipush 6, 2, .int 6, 0, 0, 0, [])), (9, (.if_icmp .ge 63, 3, .null, 72, 0, 0, [])), (12, (.ldc2_w 228, 3, .long 31, 0, 0, 0, [])), (15, (.lload_n 3, 1, .null, 0, 0, 0, [])), (16, (.lmul, 1, .null, 0, 0, 0, [])), (17, (.aload_n 0, 1, .null, 0, 0, 0, [])), (18, (.getfield 35, 3, .null, 3, 4, 0, [])), (21, (.iload 5, 2, .null, 0, 0, 0, [])), (23, (.iaload, 1, .null, 0, 0, 0, [])), (24, (.i2l, 1, .null, 0, 0, 0, [])), (25, (.ladd, 1, .null, 0, 0, 0, [])), (26, (.lstore_n 3, 1, .null, 0, 0, 0, [])), (27, (.iconst 0, 1, .int 0, 0, 0, 0, [])), (28, (.istore 6, 2, .null, 0, 0, 0, [])), (30, (.iload 6, 2, .null, 0, 0, 0, [])), (32, (.aload_n 0, 1, .null, 0, 0, 0, [])), (33, (.getfield 35, 3, .null, 3, 4, 0, [])), (36, (.iload 5, 2, .null, 0, 0, 0, [])), (38, (.iaload, 1, .null, 0, 0, 0, [])), (39, (.if_icmp .ge 27, 3, .null, 66, 0, 0, [])), (42, (.ldc2_w 228, 3, .long 31, 0, 0, 0, [])), (45, (.lload_n 3, 1, .null, 0, 0, 0, [])), (46, (.lmul, 1, .null, 0, 0, 0, [])), (47, (.aload_n 0, 1, .null, 0, 0, 0, [])), (48, (.getfield 32, 3, .null, 3, 3, 0, [])), (51, (.iload 5, 2, .null, 0, 0, 0, [])), (53, (.aaload, 1, .null, 0, 0, 0, [])), (54, (.iload 6, 2, .null, 0, 0, 0, [])), (56, (.baload, 1, .null, 0, 0, 0, [])), (57, (.i2l, 1, .null, 0, 0, 0, [])), (58, (.ladd, 1, .null, 0, 0, 0, [])), (59, (.lstore_n 3, 1, .null, 0, 0, 0, [])), (60, (.iinc 6 1, 3, .int 1, 0, 0, 0, [])), (63, (.goto (-33), 3, .null, 30, 0, 0, [])), (66, (.iinc 5 1, 3, .int 1, 0, 0, 0, [])), (69, (.goto (-64), 3, .null, 5, 0, 0, [])), (72, (.lload_n 3, 1, .null, 0, 0, 0, [])), (73, (.lreturn, 1, .null, 0, 0, 0, []))]
def km_X3_digestSheets : dx_K := ((yX3_digestSheets, cX3_digestSheets, 7, some .long), kr_X3_digestSheets, kp_X3)
def kr_X3_within : List (Nat × dx_I) := [(0, (.iload_n 0, 1, .null, 0, 0, 0, [])), (1, (.iload_n 1, 1, .null, 0, 0, 0, [])), (2, (.if_icmp .lt 12, 3, .null, 14, 0, 0, [])), (5, (.iload_n 0, 1, .null, 0, 0, 0, [])), (6, (.iload_n 2, 1, .null, 0, 0, 0, [])), (7, (.if_icmp .gt 7, 3, .null, 14, 0, 0, [])), (10, (.iconst 1, 1, .int 1, 0, 0, 0, [])), (11, (.goto 4, 3, .null, 15, 0, 0, [])), (14, (.iconst 0, 1, .int 0, 0, 0, 0, [])), (15, (.ireturn, 1, .null, 0, 0, 0, []))]
def km_X3_within : dx_K := ((yX3_within, cX3_within, 3, some .boolean), kr_X3_within, kp_X3)
def kr_X3_isTurn : List (Nat × dx_I) := [(0, (.iload_n 0, 1, .null, 0, 0, 0, [])), (1, (.iconst 0, 1, .int 0, 0, 0, 0, [])), (2, (.iconst 3, 1, .int 3, 0, 0, 0, [])), (3, (.invokestatic 50, 3, .null, 2, 64, 3, [])), (6, (.ireturn, 1, .null, 0, 0, 0, []))]
def km_X3_isTurn : dx_K := ((yX3_isTurn, cX3_isTurn, 1, some .boolean), kr_X3_isTurn, kp_X3)
def kr_X3_isSheet : List (Nat × dx_I) := [(0, (.iload_n 0, 1, .null, 0, 0, 0, [])), (1, (.iconst 0, 1, .int 0, 0, 0, 0, [])), (2, (.iconst 5, 1, .int 5, 0, 0, 0, [])), (3, (.invokestatic 50, 3, .null, 2, 64, 3, [])), (6, (.ireturn, 1, .null, 0, 0, 0, []))]
def km_X3_isSheet : dx_K := ((yX3_isSheet, cX3_isSheet, 1, some .boolean), kr_X3_isSheet, kp_X3)
def kr_X3_isPoint : List (Nat × dx_I) := [(0, (.iload_n 0, 1, .null, 0, 0, 0, [])), (1, (.iconst 0, 1, .int 0, 0, 0, 0, [])), (2, (.bipush 24, 2, .int 24, 0, 0, 0, [])), (4, (.invokestatic 50, 3, .null, 2, 64, 3, [])), (7, (.ifCond .eq 17, 3, .null, 24, 0, 0, [])), (10, (.iload_n 1, 1, .null, 0, 0, 0, [])), (11, (.iconst 0, 1, .int 0, 0, 0, 0, [])), (12, (.bipush 24, 2, .int 24, 0, 0, 0, [])), (14, (.invokestatic 50, 3, .null, 2, 64, 3, [])), (17, (.ifCond .eq 7, 3, .null, 24, 0, 0, [])), (20, (.iconst 1, 1, .int 1, 0, 0, 0, [])), (21, (.goto 4, 3, .null, 25, 0, 0, [])), (24, (.iconst 0, 1, .int 0, 0, 0, 0, [])), (25, (.ireturn, 1, .null, 0, 0, 0, []))]
def km_X3_isPoint : dx_K := ((yX3_isPoint, cX3_isPoint, 2, some .boolean), kr_X3_isPoint, kp_X3)
def kr_X3_isLoad : List (Nat × dx_I) := [(0, (.iload_n 1, 1, .null, 0, 0, 0, [])), (1, (.iconst 0, 1, .int 0, 0, 0, 0, [])), (2, (.aload_n 0, 1, .null, 0, 0, 0, [])), (3, (.getfield 58, 3, .null, 3, 7, 0, [])), (6, (.iconst 1, 1, .int 1, 0, 0, 0, [])), (7, (.isub, 1, .null, 0, 0, 0, [])), (8, (.invokestatic 50, 3, .null, 2, 64, 3, [])), (11, (.ireturn, 1, .null, 0, 0, 0, []))]
def km_X3_isLoad : dx_K := ((yX3_isLoad, cX3_isLoad, 2, some .boolean), kr_X3_isLoad, kp_X3)
def kr_X3_reaches : List (Nat × dx_I) := [(0, (.iload_n 2, 1, .null, 0, 0, 0, [])), (1, (.ifCond .lt 33, 3, .null, 34, 0, 0, [])), (4, (.iload_n 3, 1, .null, 0, 0, 0, [])), (5, (.ifCond .lt 29, 3, .null, 34, 0, 0, [])), (8, (.iload_n 2, 1, .null, 0, 0, 0, [])), (9, (.aload_n 0, 1, .null, 0, 0, 0, [])), (10, (.getfield 35, 3, .null, 3, 4, 0, [])), (13, (.iload_n 1, 1, .null, 0, 0, 0, [])), (14, (.iaload, 1, .null, 0, 0, 0, [])), (15, (.if_icmp .gt 19, 3, .null, 34, 0, 0, [])), (18, (.iload_n 3, 1, .null, 0, 0, 0, [])), (19, (.aload_n 0, 1, .null, 0, 0, 0, [])), (20, (.getfield 35, 3, .null, 3, 4, 0, [])), (23, (.iload_n 1, 1, .null, 0, 0, 0, [])), (24, (.iaload, 1, .null, 0, 0, 0, [])), (25, (.iload_n 2, 1, .null, 0, 0, 0, [])), (26, (.isub, 1, .null, 0, 0, 0, [])), (27, (.if_icmp .gt 7, 3, .null, 34, 0, 0, [])), (30, (.iconst 1, 1, .int 1, 0, 0, 0, [])), (31, (.goto 4, 3, .null, 35, 0, 0, [])), (34, (.iconst 0, 1, .int 0, 0, 0, 0, [])), (35, (.ireturn, 1, .null, 0, 0, 0, []))]
def km_X3_reaches : dx_K := ((yX3_reaches, cX3_reaches, 4, some .boolean), kr_X3_reaches, kp_X3)
def kr_X3_find : List (Nat × dx_I) := [(0, (.aload_n 0, 1, .null, 0, 0, 0, [])), (1, (.iload_n 1, 1, .null, 0, 0, 0, [])), (2, (.putfield 225, 3, .null, 3, 8, 0, [])), (5, (.aload_n 0, 1, .null, 0, 0, 0, [])), (6, (.getfield 39, 3, .null, 3, 5, 0, [])), (9, (.iload_n 1, 1, .null, 0, 0, 0, [])), (10, (.dup2, 1, .null, 0, 0, 0, [])), (11, (.iaload, 1, .null, 0, 0, 0, [])), (12, (.iconst 1, 1, .int 1, 0, 0, 0, [])), (13, (.iadd, 1, .null, 0, 0, 0, [])), (14, (.iastore, 1, .null, 0, 0, 0, [])), (15, (.bipush (-3), 2, .int (-3), 0, 0, 0, [])), (17, (.ireturn, 1, .null, 0, 0, 0, []))]
def km_X3_find : dx_K := ((yX3_find, cX3_find, 2, some .int), kr_X3_find, kp_X3)
def kr_X3_tell : List (Nat × dx_I) := [(0, (.lload_n 1, 1, .null, 0, 0, 0, [])), (1, (.invokestatic 244, 3, .null, 9, 0, 0, [])), (4, (.lload_n 3, 1, .null, 0, 0, 0, [])), (5, (.invokestatic 247, 3, .null, 2, 72, 2, [])), (8, (.lstore 5, 2, .null, 0, 0, 0, [])), (10, (.lload 5, 2, .null, 0, 0, 0, [])), (12, (.lconst 0, 1, .long 0, 0, 0, 0, [])), (13, (.lcmp, 1, .null, 0, 0, 0, [])), (14, (.ifCond .le 19, 3, .null, 33, 0, 0, [])), (17, (.aload_n 0, 1, .null, 0, 0, 0, [])), (18, (.lload_n 1, 1, .null, 0, 0, 0, [])), (19, (.lload 5, 2, .null, 0, 0, 0, [])), (21, (.ldiv, 1, .null, 0, 0, 0, [])), (22, (.putfield 218, 3, .null, 3, 9, 0, [])), (25, (.aload_n 0, 1, .null, 0, 0, 0, [])), (26, (.lload_n 3, 1, .null, 0, 0, 0, [])), (27, (.lload 5, 2, .null, 0, 0, 0, [])), (29, (.ldiv, 1, .null, 0, 0, 0, [])), (30, (.putfield 46, 3, .null, 3, 10, 0, [])), (33, (.iconst 1, 1, .int 1, 0, 0, 0, [])), (34, (.ireturn, 1, .null, 0, 0, 0, []))]
def km_X3_tell : dx_K := ((yX3_tell, cX3_tell, 7, some .int), kr_X3_tell, kp_X3)
def kr_X3_commonDivisor : List (Nat × dx_I) := [(0, (.lload_n 0, 1, .null, 0, 0, 0, [])), (1, (.lstore 4, 2, .null, 0, 0, 0, [])), (3, (.lload_n 2, 1, .null, 0, 0, 0, [])), (4, (.lstore 6, 2, .null, 0, 0, 0, [])), (6, (.iconst 0, 1, .int 0, 0, 0, 0, [])), (7, (.istore 8, 2, .null, 0, 0, 0, [])), (9, (.iload 8, 2, .null, 0, 0, 0, [])), (11, (.bipush 100, 2, .int 100, 0, 0, 0, [])), (13, (.if_icmp .ge 31, 3, .null, 44, 0, 0, [])), (16, (.lload 6, 2, .null, 0, 0, 0, [])), (18, (.lconst 0, 1, .long 0, 0, 0, 0, [])), (19, (.lcmp, 1, .null, 0, 0, 0, [])), (20, (.ifCond .eq 24, 3, .null, 44, 0, 0, [])), (23, (.lload 4, 2, .null, 0, 0, 0, [])), (25, (.lload 6, 2, .null, 0, 0, 0, [])), (27, (.lrem, 1, .null, 0, 0, 0, [])), (28, (.lstore 9, 2, .null, 0, 0, 0, [])), (30, (.lload 6, 2, .null, 0, 0, 0, [])), (32, (.lstore 4, 2, .null, 0, 0, 0, [])), (34, (.lload 9, 2, .null, 0, 0, 0, [])), (36, (.lstore 6, 2, .null, 0, 0, 0, [])), (38, (.iinc 8 1, 3, .int 1, 0, 0, 0, [])), (41, (.goto (-32), 3, .null, 9, 0, 0, [])), (44, (.lload 4, 2, .null, 0, 0, 0, [])), (46, (.lreturn, 1, .null, 0, 0, 0, []))]
def km_X3_commonDivisor : dx_K := ((yX3_commonDivisor, cX3_commonDivisor, 11, some .long), kr_X3_commonDivisor, kp_X3)
def kr_X3_loadsThere : List (Nat × dx_I) := [(0, (.iconst 0, 1, .int 0, 0, 0, 0, [])), (1, (.istore_n 1, 1, .null, 0, 0, 0, [])), (2, (.iconst 0, 1, .int 0, 0, 0, 0, [])), (3, (.istore_n 2, 1, .null, 0, 0, 0, [])), (4, (.iload_n 2, 1, .null, 0, 0, 0, [])), (5, (.aload_n 0, 1, .null, 0, 0, 0, [])), (6, (.getfield 58, 3, .null, 3, 7, 0, [])), (9, (.if_icmp .ge 29, 3, .null, 38, 0, 0, [])), (12, (.iload_n 1, 1, .null, 0, 0, 0, [])), (13, (.aload_n 0, 1, .null, 0, 0, 0, [])), (14, (.getfield 25, 3, .null, 3, 2, 0, [])), (17, (.iload_n 2, 1, .null, 0, 0, 0, [])), (18, (.aaload, 1, .null, 0, 0, 0, [])), (19, (.getfield 107, 3, .null, 2, 0, 0, [])), (22, (.ifCond .eq 7, 3, .null, 29, 0, 0, [])), (25, (.iconst 1, 1, .int 1, 0, 0, 0, [])), (26, (.goto 4, 3, .null, 30, 0, 0, [])), (29, (.iconst 0, 1, .int 0, 0, 0, 0, [])), (30, (.iadd, 1, .null, 0, 0, 0, [])), (31, (.istore_n 1, 1, .null, 0, 0, 0, [])), (32, (.iinc 2 1, 3, .int 1, 0, 0, 0, [])), (35, (.goto (-31), 3, .null, 4, 0, 0, [])), (38, (.iload_n 1, 1, .null, 0, 0, 0, [])), (39, (.ireturn, 1, .null, 0, 0, 0, []))]
def km_X3_loadsThere : dx_K := ((yX3_loadsThere, cX3_loadsThere, 3, some .int), kr_X3_loadsThere, kp_X3)
def kr_X3_wholeWeight : List (Nat × dx_I) := [(0, (.aload_n 0, 1, .null, 0, 0, 0, [])), (1, (.getfield 12, 3, .null, 3, 0, 0, [])), (4, (.invokevirtual 133, 3, .ref 0, 1, 7, 0, [])), (7, (.istore_n 1, 1, .null, 0, 0, 0, [])), (8, (.iconst 0, 1, .int 0, 0, 0, 0, [])), (9, (.istore_n 2, 1, .null, 0, 0, 0, [])), (10, (.iload_n 2, 1, .null, 0, 0, 0, [])), (11, (.aload_n 0, 1, .null, 0, 0, 0, [])), (12, (.getfield 58, 3, .null, 3, 7, 0, [])), (15, (.if_icmp .ge 37, 3, .null, 52, 0, 0, [])), (18, (.iload_n 1, 1, .null, 0, 0, 0, [])), (19, (.aload_n 0, 1, .null, 0, 0, 0, [])), (20, (.getfield 25, 3, .null, 3, 2, 0, [])), (23, (.iload_n 2, 1, .null, 0, 0, 0, [])), (24, (.aaload, 1, .null, 0, 0, 0, [])), (25, (.getfield 107, 3, .null, 2, 0, 0, [])), (28, (.ifCond .eq 15, 3, .null, 43, 0, 0, [])), (31, (.aload_n 0, 1, .null, 0, 0, 0, [])), (32, (.getfield 25, 3, .null, 3, 2, 0, [])), (35, (.iload_n 2, 1, .null, 0, 0, 0, [])), (36, (.aaload, 1, .null, 0, 0, 0, [])), (37, (.getfield 251, 3, .null, 2, 4, 0, [])), (40, (.goto 4, 3, .null, 44, 0, 0, [])), (43, (.iconst 0, 1, .int 0, 0, 0, 0, [])), (44, (.iadd, 1, .null, 0, 0, 0, [])), (45, (.istore_n 1, 1, .null, 0, 0, 0, [])), (46, (.iinc 2 1, 3, .int 1, 0, 0, 0, [])), (49, (.goto (-39), 3, .null, 10, 0, 0, [])), (52, (.iload_n 1, 1, .null, 0, 0, 0, [])), (53, (.ireturn, 1, .null, 0, 0, 0, []))]
def km_X3_wholeWeight : dx_K := ((yX3_wholeWeight, cX3_wholeWeight, 3, some .int), kr_X3_wholeWeight, kp_X3)
def kr_X3_settle : List (Nat × dx_I) := [(0, (.iload_n 1, 1, .null, 0, 0, 0, [])), (1, (.invokestatic 171, 3, .null, 2, 65, 1, [])), (4, (.ifCond .ne 5, 3, .null, 9, 0, 0, [])), (7, (.iconst (-1), 1, .int (-1), 0, 0, 0, [])), (8, (.ireturn, 1, .null, 0, 0, 0, [])), (9, (.aload_n 0, 1, .null, 0, 0, 0, [])), (10, (.invokevirtual 126, 3, .ref 3, 1, 74, 0, [])), (13, (.istore_n 2, 1, .null, 0, 0, 0, [])), (14, (.iload_n 2, 1, .null, 0, 0, 0, [])), (15, (.ifCond .eq 13, 3, .null, 28, 0, 0, [])), (18, (.aload_n 0, 1, .null, 0, 0, 0, [])), (19, (.getfield 12, 3, .null, 3, 0, 0, [])), (22, (.invokevirtual 130, 3, .ref 0, 1, 6, 0, [])), (25, (.ifCond .ne 6, 3, .null, 31, 0, 0, [])), (28, (.bipush (-4), 2, .int (-4), 0, 0, 0, [])), (30, (.ireturn, 1, .null, 0, 0, 0, [])), (31, (.aload_n 0, 1, .null, 0, 0, 0, [])), (32, (.getfield 19, 3, .null, 3, 1, 0, [])), (35, (.aload_n 0, 1, .null, 0, 0, 0, [])), (36, (.getfield 12, 3, .null, 3, 0, 0, [])), (39, (.iload_n 1, 1, .null, 0, 0, 0, [])), (40, (.invokevirtual 198, 3, .ref 1, 1, 10, 2, [])), (43, (.aload_n 0, 1, .null, 0, 0, 0, [])), (44, (.getfield 19, 3, .null, 3, 1, 0, [])), (47, (.iload_n 2, 1, .null, 0, 0, 0, [])), (48, (.aload_n 0, 1, .null, 0, 0, 0, [])), (49, (.getfield 42, 3, .null, 3, 6, 0, [])), (52, (.invokevirtual 205, 3, .ref 1, 1, 16, 2, [])), (55, (.ifCond .eq 7, 3, .null, 62, 0, 0, [])), (58, (.iconst 1, 1, .int 1, 0, 0, 0, [])), (59, (.goto 5, 3, .null, 64, 0, 0, [])), (62, (.bipush (-5), 2, .int (-5), 0, 0, 0, [])), (64, (.ireturn, 1, .null, 0, 0, 0, []))]
def km_X3_settle : dx_K := ((yX3_settle, cX3_settle, 3, some .int), kr_X3_settle, kp_X3)
def kr_X3_weightAcross : List (Nat × dx_I) := [(0, (.aload_n 0, 1, .null, 0, 0, 0, [])), (1, (.getfield 12, 3, .null, 3, 0, 0, [])), (4, (.iload_n 1, 1, .null, 0, 0, 0, [])), (5, (.invokevirtual 253, 3, .ref 0, 1, 8, 1, [])), (8, (.lstore_n 2, 1, .null, 0, 0, 0, [])), (9, (.iconst 0, 1, .int 0, 0, 0, 0, [])), (10, (.istore 4, 2, .null, 0, 0, 0, [])), (12, (.iload 4, 2, .null, 0, 0, 0, [])), (14, (.aload_n 0, 1, .null, 0, 0, 0, [])), (15, (.getfield 58, 3, .null, 3, 7, 0, [])), (18, (.if_icmp .ge 68, 3, .null, 86, 0, 0, [])), (21, (.aload_n 0, 1, .null, 0, 0, 0, [])), (22, (.getfield 25, 3, .null, 3, 2, 0, [])), (25, (.iload 4, 2, .null, 0, 0, 0, [])), (27, (.aaload, 1, .null, 0, 0, 0, [])), (28, (.astore 5, 2, .null, 0, 0, 0, [])), (30, (.aload 5, 2, .null, 0, 0, 0, [])), (32, (.getfield 107, 3, .null, 2, 0, 0, [])), (35, (.ifCond .eq 45, 3, .null, 80, 0, 0, [])), (38, (.lload_n 2, 1, .null, 0, 0, 0, [])), (39, (.aload 5, 2, .null, 0, 0, 0, [])), (41, (.getfield 251, 3, .null, 2, 4, 0, [])), (44, (.iload_n 1, 1, .null, 0, 0, 0, [])), (45, (.aload 5, 2, .null, 0, 0, 0, [])), (47, (.getfield 114, 3, .null, 2, 2, 0, [])), (50, (.aload 5, 2, .null, 0, 0, 0, [])), (52, (.getfield 117, 3, .null, 2, 3, 0, [])), (55, (.iconst 2, 1, .int 2, 0, 0, 0, [])), (56, (.aload_n 0, 1, .null, 0, 0, 0, [])), (57, (.getfield 12, 3, .null, 3, 0, 0, [])), (60, (.getfield 90, 3, .null, 0, 1, 0, [])), (63, (.imul, 1, .null, 0, 0, 0, [])), (64, (.iconst 2, 1, .int 2, 0, 0, 0, [])), (65, (.aload_n 0, 1, .null, 0, 0, 0, [])), (66, (.getfield 12, 3, .null, 3, 0, 0, [])), (69, (.getfield 221, 3, .null, 0, 2, 0, [])), (72, (.imul, 1, .null, 0, 0, 0, [])), (73, (.invokestatic 254, 3, .null, 2, 80, 5, [])), (76, (.imul, 1, .null, 0, 0, 0, [])), (77, (.i2l, 1, .null, 0, 0, 0, [])), (78, (.ladd, 1, .null, 0, 0, 0, [])), (79, (.lstore_n 2, 1, .null, 0, 0, 0, [])), (80, (.iinc 4 1, 3, .int 1, 0, 0, 0, [])), (83, (.goto (-71), 3, .null, 12, 0, 0, [])), (86, (.lload_n 2, 1, .null, 0, 0, 0, [])), (87, (.lreturn, 1, .null, 0, 0, 0, []))]
def km_X3_weightAcross : dx_K := ((yX3_weightAcross, cX3_weightAcross, 6, some .long), kr_X3_weightAcross, kp_X3)
def kr_X3_weightUp : List (Nat × dx_I) := [(0, (.aload_n 0, 1, .null, 0, 0, 0, [])), (1, (.getfield 12, 3, .null, 3, 0, 0, [])), (4, (.iload_n 1, 1, .null, 0, 0, 0, [])), (5, (.invokevirtual 258, 3, .ref 0, 1, 9, 1, [])), (8, (.lstore_n 2, 1, .null, 0, 0, 0, [])), (9, (.iconst 0, 1, .int 0, 0, 0, 0, [])), (10, (.istore 4, 2, .null, 0, 0, 0, [])), (12, (.iload 4, 2, .null, 0, 0, 0, [])), (14, (.aload_n 0, 1, .null, 0, 0, 0, [])), (15, (.getfield 58, 3, .null, 3, 7, 0, [])), (18, (.if_icmp .ge 74, 3, .null, 92, 0, 0, [])), (21, (.aload_n 0, 1, .null, 0, 0, 0, [])), (22, (.getfield 25, 3, .null, 3, 2, 0, [])), (25, (.iload 4, 2, .null, 0, 0, 0, [])), (27, (.aaload, 1, .null, 0, 0, 0, [])), (28, (.astore 5, 2, .null, 0, 0, 0, [])), (30, (.aload 5, 2, .null, 0, 0, 0, [])), (32, (.getfield 107, 3, .null, 2, 0, 0, [])), (35, (.ifCond .eq 51, 3, .null, 86, 0, 0, [])), (38, (.lload_n 2, 1, .null, 0, 0, 0, [])), (39, (.aload 5, 2, .null, 0, 0, 0, [])), (41, (.getfield 251, 3, .null, 2, 4, 0, [])), (44, (.iload_n 1, 1, .null, 0, 0, 0, [])), (45, (.aload 5, 2, .null, 0, 0, 0, [])), (47, (.getfield 114, 3, .null, 2, 2, 0, [])), (50, (.aload 5, 2, .null, 0, 0, 0, [])), (52, (.getfield 117, 3, .null, 2, 3, 0, [])), (55, (.iconst 2, 1, .int 2, 0, 0, 0, [])), (56, (.aload_n 0, 1, .null, 0, 0, 0, [])), (57, (.getfield 12, 3, .null, 3, 0, 0, [])), (60, (.getfield 90, 3, .null, 0, 1, 0, [])), (63, (.imul, 1, .null, 0, 0, 0, [])), (64, (.iconst 2, 1, .int 2, 0, 0, 0, [])), (65, (.aload_n 0, 1, .null, 0, 0, 0, [])), (66, (.getfield 12, 3, .null, 3, 0, 0, [])), (69, (.getfield 221, 3, .null, 0, 2, 0, [])), (72, (.imul, 1, .null, 0, 0, 0, [])), (73, (.invokestatic 259, 3, .null, 2, 81, 5, [])), (76, (.aload 5, 2, .null, 0, 0, 0, [])), (78, (.getfield 120, 3, .null, 2, 5, 0, [])), (81, (.iadd, 1, .null, 0, 0, 0, [])), (82, (.imul, 1, .null, 0, 0, 0, [])), (83, (.i2l, 1, .null, 0, 0, 0, [])), (84, (.ladd, 1, .null, 0, 0, 0, [])), (85, (.lstore_n 2, 1, .null, 0, 0, 0, [])), (86, (.iinc 4 1, 3, .int 1, 0, 0, 0, [])), (89, (.goto (-77), 3, .null, 12, 0, 0, [])), (92, (.lload_n 2, 1, .null, 0, 0, 0, [])), (93, (.lreturn, 1, .null, 0, 0, 0, []))]
def km_X3_weightUp : dx_K := ((yX3_weightUp, cX3_weightUp, 6, some .long), kr_X3_weightUp, kp_X3)
def kr_X3_leaning : List (Nat × dx_I) := [(0, (.aload_n 0, 1, .null, 0, 0, 0, [])), (1, (.getfield 19, 3, .null, 3, 1, 0, [])), (4, (.invokevirtual 155, 3, .ref 1, 1, 20, 0, [])), (7, (.aload_n 0, 1, .null, 0, 0, 0, [])), (8, (.getfield 42, 3, .null, 3, 6, 0, [])), (11, (.i2l, 1, .null, 0, 0, 0, [])), (12, (.lmul, 1, .null, 0, 0, 0, [])), (13, (.lstore_n 2, 1, .null, 0, 0, 0, [])), (14, (.aload_n 0, 1, .null, 0, 0, 0, [])), (15, (.iload_n 1, 1, .null, 0, 0, 0, [])), (16, (.invokevirtual 164, 3, .ref 3, 1, 76, 1, [])), (19, (.aload_n 0, 1, .null, 0, 0, 0, [])), (20, (.getfield 19, 3, .null, 3, 1, 0, [])), (23, (.getfield 142, 3, .null, 1, 8, 0, [])), (26, (.lmul, 1, .null, 0, 0, 0, [])), (27, (.lstore 4, 2, .null, 0, 0, 0, [])), (29, (.lload 4, 2, .null, 0, 0, 0, [])), (31, (.lload_n 2, 1, .null, 0, 0, 0, [])), (32, (.lcmp, 1, .null, 0, 0, 0, [])), (33, (.ifCond .ne 5, 3, .null, 38, 0, 0, [])), (36, (.iconst 0, 1, .int 0, 0, 0, 0, [])), (37, (.ireturn, 1, .null, 0, 0, 0, [])), (38, (.lload 4, 2, .null, 0, 0, 0, [])), (40, (.lload_n 2, 1, .null, 0, 0, 0, [])), (41, (.lcmp, 1, .null, 0, 0, 0, [])), (42, (.ifCond .ge 7, 3, .null, 49, 0, 0, [])), (45, (.iconst 1, 1, .int 1, 0, 0, 0, [])), (46, (.goto 4, 3, .null, 50, 0, 0, [])), (49, (.iconst 2, 1, .int 2, 0, 0, 0, [])), (50, (.ireturn, 1, .null, 0, 0, 0, []))]
def km_X3_leaning : dx_K := ((yX3_leaning, cX3_leaning, 6, some .int), kr_X3_leaning, kp_X3)
def kr_X3_holding : List (Nat × dx_I) := [(0, (.aload_n 0, 1, .null, 0, 0, 0, [])), (1, (.iload_n 1, 1, .null, 0, 0, 0, [])), (2, (.invokevirtual 183, 3, .ref 3, 1, 78, 1, [])), (5, (.ifCond .eq 5, 3, .null, 10, 0, 0, [])), (8, (.iconst 0, 1, .int 0, 0, 0, 0, [])), (9, (.ireturn, 1, .null, 0, 0, 0, [])), (10, (.aload_n 0, 1, .null, 0, 0, 0, [])), (11, (.getfield 19, 3, .null, 3, 1, 0, [])), (14, (.getfield 142, 3, .null, 1, 8, 0, [])), (17, (.aload_n 0, 1, .null, 0, 0, 0, [])), (18, (.getfield 19, 3, .null, 3, 1, 0, [])), (21, (.getfield 142, 3, .null, 1, 8, 0, [])), (24, (.lmul, 1, .null, 0, 0, 0, [])), (25, (.lstore_n 2, 1, .null, 0, 0, 0, [])), (26, (.aload_n 0, 1, .null, 0, 0, 0, [])), (27, (.iload_n 1, 1, .null, 0, 0, 0, [])), (28, (.invokevirtual 168, 3, .ref 3, 1, 77, 1, [])), (31, (.lload_n 2, 1, .null, 0, 0, 0, [])), (32, (.lmul, 1, .null, 0, 0, 0, [])), (33, (.aload_n 0, 1, .null, 0, 0, 0, [])), (34, (.getfield 19, 3, .null, 3, 1, 0, [])), (37, (.invokevirtual 161, 3, .ref 1, 1, 21, 0, [])), (40, (.aload_n 0, 1, .null, 0, 0, 0, [])), (41, (.getfield 42, 3, .null, 3, 6, 0, [])), (44, (.i2l, 1, .null, 0, 0, 0, [])), (45, (.lmul, 1, .null, 0, 0, 0, [])), (46, (.lsub, 1, .null, 0, 0, 0, [])), (47, (.lstore 4, 2, .null, 0, 0, 0, [])), (49, (.aload_n 0, 1, .null, 0, 0, 0, [])), (50, (.getfield 19, 3, .null, 3, 1, 0, [])), (53, (.invokevirtual 186, 3, .ref 1, 1, 22, 0, [])), (56, (.aload_n 0, 1, .null, 0, 0, 0, [])), (57, (.getfield 19, 3, .null, 3, 1, 0, [])), (60, (.getfield 189, 3, .null, 1, 9, 0, [])), (63, (.ldc2_w 159, 3, .long 2, 0, 0, 0, [])), (66, (.lmul, 1, .null, 0, 0, 0, [])), (67, (.aload_n 0, 1, .null, 0, 0, 0, [])), (68, (.getfield 42, 3, .null, 3, 6, 0, [])), (71, (.i2l, 1, .null, 0, 0, 0, [])), (72, (.lmul, 1, .null, 0, 0, 0, [])), (73, (.lload_n 2, 1, .null, 0, 0, 0, [])), (74, (.lmul, 1, .null, 0, 0, 0, [])), (75, (.lstore 6, 2, .null, 0, 0, 0, [])), (77, (.lload 6, 2, .null, 0, 0, 0, [])), (79, (.lload 4, 2, .null, 0, 0, 0, [])), (81, (.aload_n 0, 1, .null, 0, 0, 0, [])), (82, (.getfield 19, 3, .null, 3, 1, 0, [])), (85, (.getfield 192, 3, .null, 1, 10, 0, [])), (88, (.lmul, 1, .null, 0, 0, 0, [])), (89, (.invokestatic 262, 3, .null, 2, 144, 2, [])), (92, (.istore 8, 2, .null, 0, 0, 0, [])), (94, (.iload 8, 2, .null, 0, 0, 0, [])), (96, (.ifCond .le 7, 3, .null, 103, 0, 0, [])), (99, (.iconst 2, 1, .int 2, 0, 0, 0, [])), (100, (.goto 13, 3, .null, 113, 0, 0, [])), (103, (.iload 8, 2, .null, 0, 0, 0, [])), (105, (.ifCond .ne 7, 3, .null, 112, 0, 0, [])), (108, (.iconst 1, 1, .int 1, 0, 0, 0, [])), (109, (.goto 4, 3, .null, 113, 0, 0, [])), (112, (.iconst 0, 1, .int 0, 0, 0, 0, [])), (113, (.ireturn, 1, .null, 0, 0, 0, []))]
def km_X3_holding : dx_K := ((yX3_holding, cX3_holding, 9, some .int), kr_X3_holding, kp_X3)
def kr_X3_turnedAcross : List (Nat × dx_I) := [(0, (.iload_n 0, 1, .null, 0, 0, 0, [])), (1, (.tableswitch 38 1 3 #[27, 32, 36], 27, .null, 39, 0, 0, [(1, 28), (2, 33), (3, 37)])), (28, (.iload 4, 2, .null, 0, 0, 0, [])), (30, (.iload_n 2, 1, .null, 0, 0, 0, [])), (31, (.isub, 1, .null, 0, 0, 0, [])), (32, (.ireturn, 1, .null, 0, 0, 0, [])), (33, (.iload_n 3, 1, .null, 0, 0, 0, [])), (34, (.iload_n 1, 1, .null, 0, 0, 0, [])), (35, (.isub, 1, .null, 0, 0, 0, [])), (36, (.ireturn, 1, .null, 0, 0, 0, [])), (37, (.iload_n 2, 1, .null, 0, 0, 0, [])), (38, (.ireturn, 1, .null, 0, 0, 0, [])), (39, (.iload_n 1, 1, .null, 0, 0, 0, [])), (40, (.ireturn, 1, .null, 0, 0, 0, []))]
def km_X3_turnedAcross : dx_K := ((yX3_turnedAcross, cX3_turnedAcross, 5, some .int), kr_X3_turnedAcross, kp_X3)
def kr_X3_turnedUp : List (Nat × dx_I) := [(0, (.iload_n 0, 1, .null, 0, 0, 0, [])), (1, (.tableswitch 38 1 3 #[27, 29, 34], 27, .null, 39, 0, 0, [(1, 28), (2, 30), (3, 35)])), (28, (.iload_n 1, 1, .null, 0, 0, 0, [])), (29, (.ireturn, 1, .null, 0, 0, 0, [])), (30, (.iload 4, 2, .null, 0, 0, 0, [])), (32, (.iload_n 2, 1, .null, 0, 0, 0, [])), (33, (.isub, 1, .null, 0, 0, 0, [])), (34, (.ireturn, 1, .null, 0, 0, 0, [])), (35, (.iload_n 3, 1, .null, 0, 0, 0, [])), (36, (.iload_n 1, 1, .null, 0, 0, 0, [])), (37, (.isub, 1, .null, 0, 0, 0, [])), (38, (.ireturn, 1, .null, 0, 0, 0, [])), (39, (.iload_n 2, 1, .null, 0, 0, 0, [])), (40, (.ireturn, 1, .null, 0, 0, 0, []))]
def km_X3_turnedUp : dx_K := ((yX3_turnedUp, cX3_turnedUp, 5, some .int), kr_X3_turnedUp, kp_X3)
def kr_X4_in : List (Nat × dx_I) := [(0, (.iload_n 0, 1, .null, 0, 0, 0, [])), (1, (.iload_n 1, 1, .null, 0, 0, 0, [])), (2, (.if_icmp .lt 12, 3, .null, 14, 0, 0, [])), (5, (.iload_n 0, 1, .null, 0, 0, 0, [])), (6, (.iload_n 2, 1, .null, 0, 0, 0, [])), (7, (.if_icmp .gt 7, 3, .null, 14, 0, 0, [])), (10, (.iconst 1, 1, .int 1, 0, 0, 0, [])), (11, (.goto 4, 3, .null, 15, 0, 0, [])), (14, (.iconst 0, 1, .int 0, 0, 0, 0, [])), (15, (.ireturn, 1, .null, 0, 0, 0, []))]
def km_X4_in : dx_K := ((yX4_in, cX4_in, 3, some .boolean), kr_X4_in, kp_X4)
def kr_X4_meets : List (Nat × dx_I) := [(0, (.aload_n 0, 1, .null, 0, 0, 0, [])), (1, (.iload_n 1, 1, .null, 0, 0, 0, [])), (2, (.putfield 63, 3, .null, 4, 0, 0, [])), (5, (.aload_n 0, 1, .null, 0, 0, 0, [])), (6, (.getfield 7, 3, .null, 4, 1, 0, [])), (9, (.iload_n 1, 1, .null, 0, 0, 0, [])), (10, (.dup2, 1, .null, 0, 0, 0, [])), (11, (.iaload, 1, .null, 0, 0, 0, [])), (12, (.iconst 1, 1, .int 1, 0, 0, 0, [])), (13, (.iadd, 1, .null, 0, 0, 0, [])), (14, (.iastore, 1, .null, 0, 0, 0, [])), (15, (.bipush (-3), 2, .int (-3), 0, 0, 0, [])), (17, (.ireturn, 1, .null, 0, 0, 0, []))]
def km_X4_meets : dx_K := ((yX4_meets, cX4_meets, 2, some .int), kr_X4_meets, kp_X4)
def kr_X4_finding : List (Nat × dx_I) := [(0, (.aload_n 0, 1, .null, 0, 0, 0, [])), (1, (.getfield 63, 3, .null, 4, 0, 0, [])), (4, (.ireturn, 1, .null, 0, 0, 0, []))]
def km_X4_finding : dx_K := ((yX4_finding, cX4_finding, 1, some .int), kr_X4_finding, kp_X4)
def kr_X4_findings : List (Nat × dx_I) := [(0, (.iload_n 1, 1, .null, 0, 0, 0, [])), (1, (.iconst 1, 1, .int 1, 0, 0, 0, [])), (2, (.iconst 5, 1, .int 5, 0, 0, 0, [])), (3, (.invokestatic 66, 3, .null, 2, 82, 3, [])), (6, (.ifCond .eq 12, 3, .null, 18, 0, 0, [])), (9, (.aload_n 0, 1, .null, 0, 0, 0, [])), (10, (.getfield 7, 3, .null, 4, 1, 0, [])), (13, (.iload_n 1, 1, .null, 0, 0, 0, [])), (14, (.iaload, 1, .null, 0, 0, 0, [])), (15, (.goto 4, 3, .null, 19, 0, 0, [])), (18, (.iconst (-1), 1, .int (-1), 0, 0, 0, [])), (19, (.ireturn, 1, .null, 0, 0, 0, []))]
def km_X4_findings : dx_K := ((yX4_findings, cX4_findings, 2, some .int), kr_X4_findings, kp_X4)
def kr_X4_gcd : List (Nat × dx_I) := [(0, (.lload_n 0, 1, .null, 0, 0, 0, [])), (1, (.lconst 0, 1, .long 0, 0, 0, 0, [])), (2, (.lcmp, 1, .null, 0, 0, 0, [])), (3, (.ifCond .ge 8, 3, .null, 11, 0, 0, [])), (6, (.lload_n 0, 1, .null, 0, 0, 0, [])), (7, (.lneg, 1, .null, 0, 0, 0, [])), (8, (.goto 4, 3, .null, 12, 0, 0, [])), (11, (.lload_n 0, 1, .null, 0, 0, 0, [])), (12, (.lstore 4, 2, .null, 0, 0, 0, [])), (14, (.lload_n 2, 1, .null, 0, 0, 0, [])), (15, (.lstore 6, 2, .null, 0, 0, 0, [])), (17, (.lload 6, 2, .null, 0, 0, 0, [])), (19, (.lconst 0, 1, .long 0, 0, 0, 0, [])), (20, (.lcmp, 1, .null, 0, 0, 0, [])), (21, (.ifCond .eq 21, 3, .null, 42, 0, 0, [])), (24, (.lload 4, 2, .null, 0, 0, 0, [])), (26, (.lload 6, 2, .null, 0, 0, 0, [])), (28, (.lrem, 1, .null, 0, 0, 0, [])), (29, (.lstore 8, 2, .null, 0, 0, 0, [])), (31, (.lload 6, 2, .null, 0, 0, 0, [])), (33, (.lstore 4, 2, .null, 0, 0, 0, [])), (35, (.lload 8, 2, .null, 0, 0, 0, [])), (37, (.lstore 6, 2, .null, 0, 0, 0, [])), (39, (.goto (-22), 3, .null, 17, 0, 0, [])), (42, (.lload 4, 2, .null, 0, 0, 0, [])), (44, (.lreturn, 1, .null, 0, 0, 0, []))]
def km_X4_gcd : dx_K := ((yX4_gcd, cX4_gcd, 10, some .long), kr_X4_gcd, kp_X4)
def kr_X4_tells : List (Nat × dx_I) := [(0, (.lload_n 1, 1, .null, 0, 0, 0, [])), (1, (.lload_n 3, 1, .null, 0, 0, 0, [])), (2, (.invokestatic 70, 3, .null, 2, 86, 2, [])), (5, (.lstore 5, 2, .null, 0, 0, 0, [])), (7, (.aload_n 0, 1, .null, 0, 0, 0, [])), (8, (.lload_n 1, 1, .null, 0, 0, 0, [])), (9, (.lload 5, 2, .null, 0, 0, 0, [])), (11, (.ldiv, 1, .null, 0, 0, 0, [])), (12, (.putfield 74, 3, .null, 4, 2, 0, [])), (15, (.aload_n 0, 1, .null, 0, 0, 0, [])), (16, (.lload_n 3, 1, .null, 0, 0, 0, [])), (17, (.lload 5, 2, .null, 0, 0, 0, [])), (19, (.ldiv, 1, .null, 0, 0, 0, [])), (20, (.putfield 55, 3, .null, 4, 3, 0, [])), (23, (.iconst 1, 1, .int 1, 0, 0, 0, [])), (24, (.ireturn, 1, .null, 0, 0, 0, []))]
def km_X4_tells : dx_K := ((yX4_tells, cX4_tells, 7, some .int), kr_X4_tells, kp_X4)
def kr_X4_upper : List (Nat × dx_I) := [(0, (.aload_n 0, 1, .null, 0, 0, 0, [])), (1, (.getfield 74, 3, .null, 4, 2, 0, [])), (4, (.lreturn, 1, .null, 0, 0, 0, []))]
def km_X4_upper : dx_K := ((yX4_upper, cX4_upper, 1, some .long), kr_X4_upper, kp_X4)
def kr_X4_lower : List (Nat × dx_I) := [(0, (.aload_n 0, 1, .null, 0, 0, 0, [])), (1, (.getfield 55, 3, .null, 4, 3, 0, [])), (4, (.lreturn, 1, .null, 0, 0, 0, []))]
def km_X4_lower : dx_K := ((yX4_lower, cX4_lower, 1, some .long), kr_X4_lower, kp_X4)
def kr_X4_begin : List (Nat × dx_I) := [(0, (.aload_n 0, 1, .null, 0, 0, 0, [])), (1, (.iload_n 1, 1, .null, 0, 0, 0, [])), (2, (.putfield 77, 3, .null, 4, 4, 0, [])), (5, (.aload_n 0, 1, .null, 0, 0, 0, [])), (6, (.iload_n 2, 1, .null, 0, 0, 0, [])), (7, (.putfield 80, 3, .null, 4, 5, 0, [])), (10, (.aload_n 0, 1, .null, 0, 0, 0, [])), (11, (.iconst 0, 1, .int 0, 0, 0, 0, [])), (12, (.putfield 83, 3, .null, 4, 11, 0, [])), (15, (.iconst 0, 1, .int 0, 0, 0, 0, [])), (16, (.istore_n 3, 1, .null, 0, 0, 0, [])), (17, (.iload_n 3, 1, .null, 0, 0, 0, [])), (18, (.sipush 144, 3, .int 144, 0, 0, 0, [])), (21, (.if_icmp .ge 17, 3, .null, 38, 0, 0, [])), (24, (.aload_n 0, 1, .null, 0, 0, 0, [])), (25, (.getfield 13, 3, .null, 4, 7, 0, [])), (28, (.iload_n 3, 1, .null, 0, 0, 0, [])), (29, (.bipush (-9), 2, .int (-9), 0, 0, 0, [])), (31, (.iastore, 1, .null, 0, 0, 0, [])), (32, (.iinc 3 1, 3, .int 1, 0, 0, 0, [])), (35, (.goto (-18), 3, .null, 17, 0, 0, [])), (38, (.return_, 1, .null, 0, 0, 0, []))]
def km_X4_begin : dx_K := ((yX4_begin, cX4_begin, 4, none), kr_X4_begin, kp_X4)
def kr_X4_log : List (Nat × dx_I) := [(0, (.iload_n 1, 1, .null, 0, 0, 0, [])), (1, (.iconst 1, 1, .int 1, 0, 0, 0, [])), (2, (.bipush 12, 2, .int 12, 0, 0, 0, [])), (4, (.invokestatic 66, 3, .null, 2, 82, 3, [])), (7, (.ifCond .eq 13, 3, .null, 20, 0, 0, [])), (10, (.iload_n 2, 1, .null, 0, 0, 0, [])), (11, (.iconst 1, 1, .int 1, 0, 0, 0, [])), (12, (.bipush 12, 2, .int 12, 0, 0, 0, [])), (14, (.invokestatic 66, 3, .null, 2, 82, 3, [])), (17, (.ifCond .ne 5, 3, .null, 22, 0, 0, [])), (20, (.iconst (-1), 1, .int (-1), 0, 0, 0, [])), (21, (.ireturn, 1, .null, 0, 0, 0, [])), (22, (.aload_n 0, 1, .null, 0, 0, 0, [])), (23, (.iload_n 1, 1, .null, 0, 0, 0, [])), (24, (.iload_n 2, 1, .null, 0, 0, 0, [])), (25, (.invokevirtual 59, 3, .ref 4, 1, 90, 2, [])), (28, (.iload_n 1, 1, .null, 0, 0, 0, [])), (29, (.iload_n 2, 1, .null, 0, 0, 0, [])), (30, (.imul, 1, .null, 0, 0, 0, [])), (31, (.ireturn, 1, .null, 0, 0, 0, []))]
def km_X4_log : dx_K := ((yX4_log, cX4_log, 3, some .int), kr_X4_log, kp_X4)
def kr_X4_isPlace : List (Nat × dx_I) := [(0, (.iload_n 1, 1, .null, 0, 0, 0, [])), (1, (.iconst 0, 1, .int 0, 0, 0, 0, [])), (2, (.aload_n 0, 1, .null, 0, 0, 0, [])), (3, (.getfield 77, 3, .null, 4, 4, 0, [])), (6, (.iconst 1, 1, .int 1, 0, 0, 0, [])), (7, (.isub, 1, .null, 0, 0, 0, [])), (8, (.invokestatic 66, 3, .null, 2, 82, 3, [])), (11, (.ifCond .eq 21, 3, .null, 32, 0, 0, [])), (14, (.iload_n 2, 1, .null, 0, 0, 0, [])), (15, (.iconst 0, 1, .int 0, 0, 0, 0, [])), (16, (.aload_n 0, 1, .null, 0, 0, 0, [])), (17, (.getfield 80, 3, .null, 4, 5, 0, [])), (20, (.iconst 1, 1, .int 1, 0, 0, 0, [])), (21, (.isub, 1, .null, 0, 0, 0, [])), (22, (.invokestatic 66, 3, .null, 2, 82, 3, [])), (25, (.ifCond .eq 7, 3, .null, 32, 0, 0, [])), (28, (.iconst 1, 1, .int 1, 0, 0, 0, [])), (29, (.goto 4, 3, .null, 33, 0, 0, [])), (32, (.iconst 0, 1, .int 0, 0, 0, 0, [])), (33, (.ireturn, 1, .null, 0, 0, 0, []))]
def km_X4_isPlace : dx_K := ((yX4_isPlace, cX4_isPlace, 3, some .boolean), kr_X4_isPlace, kp_X4)
def kr_X4_square : List (Nat × dx_I) := [(0, (.aload_n 0, 1, .null, 0, 0, 0, [])), (1, (.iload_n 1, 1, .null, 0, 0, 0, [])), (2, (.iload_n 2, 1, .null, 0, 0, 0, [])), (3, (.invokevirtual 86, 3, .ref 4, 1, 92, 2, [])), (6, (.ifCond .eq 19, 3, .null, 25, 0, 0, [])), (9, (.iload_n 3, 1, .null, 0, 0, 0, [])), (10, (.bipush (-9), 2, .int (-9), 0, 0, 0, [])), (12, (.if_icmp .eq 15, 3, .null, 27, 0, 0, [])), (15, (.iload_n 3, 1, .null, 0, 0, 0, [])), (16, (.iconst 0, 1, .int 0, 0, 0, 0, [])), (17, (.bipush 20, 2, .int 20, 0, 0, 0, [])), (19, (.invokestatic 66, 3, .null, 2, 82, 3, [])), (22, (.ifCond .ne 5, 3, .null, 27, 0, 0, [])), (25, (.iconst (-1), 1, .int (-1), 0, 0, 0, [])), (26, (.ireturn, 1, .null, 0, 0, 0, [])), (27, (.aload_n 0, 1, .null, 0, 0, 0, [])), (28, (.getfield 13, 3, .null, 4, 7, 0, [])), (31, (.bipush 12, 2, .int 12, 0, 0, 0, [])), (33, (.iload_n 2, 1, .null, 0, 0, 0, [])), (34, (.imul, 1, .null, 0, 0, 0, [])), (35, (.iload_n 1, 1, .null, 0, 0, 0, [])), (36, (.iadd, 1, .null, 0, 0, 0, [])), (37, (.iaload, 1, .null, 0, 0, 0, [])), (38, (.istore 4, 2, .null, 0, 0, 0, [])), (40, (.aload_n 0, 1, .null, 0, 0, 0, [])), (41, (.getfield 13, 3, .null, 4, 7, 0, [])), (44, (.bipush 12, 2, .int 12, 0, 0, 0, [])), (46, (.iload_n 2, 1, .null, 0, 0, 0, [])), (47, (.imul, 1, .null, 0, 0, 0, [])), (48, (.iload_n 1, 1, .null, 0, 0, 0, [])), (49, (.iadd, 1, .null, 0, 0, 0, [])), (50, (.iload_n 3, 1, .null, 0, 0, 0, [])), (51, (.iastore, 1, .null, 0, 0, 0, [])), (52, (.iload 4, 2, .null, 0, 0, 0, [])), (54, (.ireturn, 1, .null, 0, 0, 0, []))]
def km_X4_square : dx_K := ((yX4_square, cX4_square, 5, some .int), kr_X4_square, kp_X4)
def kr_X4_at : List (Nat × dx_I) := [(0, (.aload_n 0, 1, .null, 0, 0, 0, [])), (1, (.iload_n 1, 1, .null, 0, 0, 0, [])), (2, (.iload_n 2, 1, .null, 0, 0, 0, [])), (3, (.invokevirtual 86, 3, .ref 4, 1, 92, 2, [])), (6, (.ifCond .eq 17, 3, .null, 23, 0, 0, [])), (9, (.aload_n 0, 1, .null, 0, 0, 0, [])), (10, (.getfield 13, 3, .null, 4, 7, 0, [])), (13, (.bipush 12, 2, .int 12, 0, 0, 0, [])), (15, (.iload_n 2, 1, .null, 0, 0, 0, [])), (16, (.imul, 1, .null, 0, 0, 0, [])), (17, (.iload_n 1, 1, .null, 0, 0, 0, [])), (18, (.iadd, 1, .null, 0, 0, 0, [])), (19, (.iaload, 1, .null, 0, 0, 0, [])), (20, (.goto 4, 3, .null, 24, 0, 0, [])), (23, (.iconst (-1), 1, .int (-1), 0, 0, 0, [])), (24, (.ireturn, 1, .null, 0, 0, 0, []))]
def km_X4_at : dx_K := ((yX4_at, cX4_at, 3, some .int), kr_X4_at, kp_X4)
def kr_X4_water : List (Nat × dx_I) := [(0, (.iload_n 1, 1, .null, 0, 0, 0, [])), (1, (.iconst 1, 1, .int 1, 0, 0, 0, [])), (2, (.bipush 20, 2, .int 20, 0, 0, 0, [])), (4, (.invokestatic 66, 3, .null, 2, 82, 3, [])), (7, (.ifCond .ne 5, 3, .null, 12, 0, 0, [])), (10, (.iconst (-1), 1, .int (-1), 0, 0, 0, [])), (11, (.ireturn, 1, .null, 0, 0, 0, [])), (12, (.aload_n 0, 1, .null, 0, 0, 0, [])), (13, (.getfield 51, 3, .null, 4, 6, 0, [])), (16, (.istore_n 2, 1, .null, 0, 0, 0, [])), (17, (.aload_n 0, 1, .null, 0, 0, 0, [])), (18, (.iload_n 1, 1, .null, 0, 0, 0, [])), (19, (.putfield 51, 3, .null, 4, 6, 0, [])), (22, (.iload_n 2, 1, .null, 0, 0, 0, [])), (23, (.ireturn, 1, .null, 0, 0, 0, []))]
def km_X4_water : dx_K := ((yX4_water, cX4_water, 3, some .int), kr_X4_water, kp_X4)
def kr_X4_isSheet : List (Nat × dx_I) := [(0, (.iload_n 0, 1, .null, 0, 0, 0, [])), (1, (.iconst 0, 1, .int 0, 0, 0, 0, [])), (2, (.iconst 5, 1, .int 5, 0, 0, 0, [])), (3, (.invokestatic 66, 3, .null, 2, 82, 3, [])), (6, (.ireturn, 1, .null, 0, 0, 0, []))]
def km_X4_isSheet : dx_K := ((yX4_isSheet, cX4_isSheet, 1, some .boolean), kr_X4_isSheet, kp_X4)
def kr_X4_sheet : List (Nat × dx_I) := [(0, (.iload_n 1, 1, .null, 0, 0, 0, [])), (1, (.invokestatic 90, 3, .null, 2, 96, 1, [])), (4, (.ifCond .eq 9, 3, .null, 13, 0, 0, [])), (7, (.iload_n 2, 1, .null, 0, 0, 0, [])), (8, (.bipush 12, 2, .int 12, 0, 0, 0, [])), (10, (.if_icmp .le 5, 3, .null, 15, 0, 0, [])), (13, (.iconst (-1), 1, .int (-1), 0, 0, 0, [])), (14, (.ireturn, 1, .null, 0, 0, 0, [])), (15, (.iload_n 2, 1, .null, 0, 0, 0, [])), (16, (.ifCond .ge 9, 3, .null, 25, 0, 0, [])), (19, (.aload_n 0, 1, .null, 0, 0, 0, [])), (20, (.iconst 5, 1, .int 5, 0, 0, 0, [])), (21, (.invokevirtual 94, 3, .ref 4, 1, 83, 1, [])), (24, (.ireturn, 1, .null, 0, 0, 0, [])), (25, (.aload_n 0, 1, .null, 0, 0, 0, [])), (26, (.getfield 16, 3, .null, 4, 8, 0, [])), (29, (.iload_n 1, 1, .null, 0, 0, 0, [])), (30, (.iload_n 2, 1, .null, 0, 0, 0, [])), (31, (.iastore, 1, .null, 0, 0, 0, [])), (32, (.iconst 0, 1, .int 0, 0, 0, 0, [])), (33, (.istore_n 3, 1, .null, 0, 0, 0, [])), (34, (.iload_n 3, 1, .null, 0, 0, 0, [])), (35, (.bipush 12, 2, .int 12, 0, 0, 0, [])), (37, (.if_icmp .ge 21, 3, .null, 58, 0, 0, [])), (40, (.aload_n 0, 1, .null, 0, 0, 0, [])), (41, (.getfield 19, 3, .null, 4, 9, 0, [])), (44, (.bipush 12, 2, .int 12, 0, 0, 0, [])), (46, (.iload_n 1, 1, .null, 0, 0, 0, [])), (47, (.imul, 1, .null, 0, 0, 0, [])), (48, (.iload_n 3, 1, .null, 0, 0, 0, [])), (49, (.iadd, 1, .null, 0, 0, 0, [])), (50, (.iconst 0, 1, .int 0, 0, 0, 0, [])), (51, (.bastore, 1, .null, 0, 0, 0, [])), (52, (.iinc 3 1, 3, .int 1, 0, 0, 0, [])), (55, (.goto (-21), 3, .null, 34, 0, 0, [])), (58, (.iload_n 2, 1, .null, 0, 0, 0, [])), (59, (.ireturn, 1, .null, 0, 0, 0, []))]
def km_X4_sheet : dx_K := ((yX4_sheet, cX4_sheet, 4, some .int), kr_X4_sheet, kp_X4)
def kr_X4_lay : List (Nat × dx_I) := [(0, (.iload_n 1, 1, .null, 0, 0, 0, [])), (1, (.invokestatic 90, 3, .null, 2, 96, 1, [])), (4, (.ifCond .ne 5, 3, .null, 9, 0, 0, [])), (7, (.iconst (-1), 1, .int (-1), 0, 0, 0, [])), (8, (.ireturn, 1, .null, 0, 0, 0, [])), (9, (.aload_n 0, 1, .null, 0, 0, 0, [])), (10, (.getfield 16, 3, .null, 4, 8, 0, [])), (13, (.iload_n 1, 1, .null, 0, 0, 0, [])), (14, (.iaload, 1, .null, 0, 0, 0, [])), (15, (.ifCond .ge 9, 3, .null, 24, 0, 0, [])), (18, (.aload_n 0, 1, .null, 0, 0, 0, [])), (19, (.iconst 1, 1, .int 1, 0, 0, 0, [])), (20, (.invokevirtual 94, 3, .ref 4, 1, 83, 1, [])), (23, (.ireturn, 1, .null, 0, 0, 0, [])), (24, (.iload_n 2, 1, .null, 0, 0, 0, [])), (25, (.iconst 0, 1, .int 0, 0, 0, 0, [])), (26, (.aload_n 0, 1, .null, 0, 0, 0, [])), (27, (.getfield 16, 3, .null, 4, 8, 0, [])), (30, (.iload_n 1, 1, .null, 0, 0, 0, [])), (31, (.iaload, 1, .null, 0, 0, 0, [])), (32, (.iconst 1, 1, .int 1, 0, 0, 0, [])), (33, (.isub, 1, .null, 0, 0, 0, [])), (34, (.invokestatic 66, 3, .null, 2, 82, 3, [])), (37, (.ifCond .ne 9, 3, .null, 46, 0, 0, [])), (40, (.aload_n 0, 1, .null, 0, 0, 0, [])), (41, (.iconst 2, 1, .int 2, 0, 0, 0, [])), (42, (.invokevirtual 94, 3, .ref 4, 1, 83, 1, [])), (45, (.ireturn, 1, .null, 0, 0, 0, [])), (46, (.aload_n 0, 1, .null, 0, 0, 0, [])), (47, (.getfield 19, 3, .null, 4, 9, 0, [])), (50, (.bipush 12, 2, .int 12, 0, 0, 0, [])), (52, (.iload_n 1, 1, .null, 0, 0, 0, [])), (53, (.imul, 1, .null, 0, 0, 0, [])), (54, (.iload_n 2, 1, .null, 0, 0, 0, [])), (55, (.iadd, 1, .null, 0, 0, 0, [])), (56, (.baload, 1, .null, 0, 0, 0, [])), (57, (.istore 4, 2, .null, 0, 0, 0, [])), (59, (.aload_n 0, 1, .null, 0, 0, 0, [])), (60, (.getfield 19, 3, .null, 4, 9, 0, [])), (63, (.bipush 12, 2, .int 12, 0, 0, 0, [])), (65, (.iload_n 1, 1, .null, 0, 0, 0, [])), (66, (.imul, 1, .null, 0, 0, 0, [])), (67, (.iload_n 2, 1, .null, 0, 0, 0, [])), (68, (.iadd, 1, .null, 0, 0, 0, [])), (69, (.iload_n 3, 1, .null, 0, 0, 0, [])), (70, (.i2b, 1, .null, 0, 0, 0, [])), (71, (.bastore, 1, .null, 0, 0, 0, [])), (72, (.sipush 1000, 3, .int 1000, 0, 0, 0, [])), (75, (.iload 4, 2, .null, 0, 0, 0, [])), (77, (.iadd, 1, .null, 0, 0, 0, [])), (78, (.ireturn, 1, .null, 0, 0, 0, []))]
def km_X4_lay : dx_K := ((yX4_lay, cX4_lay, 5, some .int), kr_X4_lay, kp_X4)
def kr_X4_tear : List (Nat × dx_I) := [(0, (.iload_n 1, 1, .null, 0, 0, 0, [])), (1, (.invokestatic 90, 3, .null, 2, 96, 1, [])), (4, (.ifCond .ne 5, 3, .null, 9, 0, 0, [])), (7, (.iconst (-1), 1, .int (-1), 0, 0, 0, [])), (8, (.ireturn, 1, .null, 0, 0, 0, [])), (9, (.aload_n 0, 1, .null, 0, 0, 0, [])), (10, (.getfield 16, 3, .null, 4, 8, 0, [])), (13, (.iload_n 1, 1, .null, 0, 0, 0, [])), (14, (.iaload, 1, .null, 0, 0, 0, [])), (15, (.ifCond .ge 9, 3, .null, 24, 0, 0, [])), (18, (.aload_n 0, 1, .null, 0, 0, 0, [])), (19, (.iconst 1, 1, .int 1, 0, 0, 0, [])), (20, (.invokevirtual 94, 3, .ref 4, 1, 83, 1, [])), (23, (.ireturn, 1, .null, 0, 0, 0, [])), (24, (.aload_n 0, 1, .null, 0, 0, 0, [])), (25, (.getfield 16, 3, .null, 4, 8, 0, [])), (28, (.iload_n 1, 1, .null, 0, 0, 0, [])), (29, (.iconst (-1), 1, .int (-1), 0, 0, 0, [])), (30, (.iastore, 1, .null, 0, 0, 0, [])), (31, (.iconst 1, 1, .int 1, 0, 0, 0, [])), (32, (.ireturn, 1, .null, 0, 0, 0, []))]
def km_X4_tear : dx_K := ((yX4_tear, cX4_tear, 2, some .int), kr_X4_tear, kp_X4)
def kr_X4_copy : List (Nat × dx_I) := [(0, (.iload_n 1, 1, .null, 0, 0, 0, [])), (1, (.invokestatic 90, 3, .null, 2, 96, 1, [])), (4, (.ifCond .eq 10, 3, .null, 14, 0, 0, [])), (7, (.iload_n 3, 1, .null, 0, 0, 0, [])), (8, (.invokestatic 90, 3, .null, 2, 96, 1, [])), (11, (.ifCond .ne 5, 3, .null, 16, 0, 0, [])), (14, (.iconst (-1), 1, .int (-1), 0, 0, 0, [])), (15, (.ireturn, 1, .null, 0, 0, 0, [])), (16, (.aload_n 0, 1, .null, 0, 0, 0, [])), (17, (.getfield 16, 3, .null, 4, 8, 0, [])), (20, (.iload_n 1, 1, .null, 0, 0, 0, [])), (21, (.iaload, 1, .null, 0, 0, 0, [])), (22, (.ifCond .lt 12, 3, .null, 34, 0, 0, [])), (25, (.aload_n 0, 1, .null, 0, 0, 0, [])), (26, (.getfield 16, 3, .null, 4, 8, 0, [])), (29, (.iload_n 3, 1, .null, 0, 0, 0, [])), (30, (.iaload, 1, .null, 0, 0, 0, [])), (31, (.ifCond .ge 9, 3, .null, 40, 0, 0, [])), (34, (.aload_n 0, 1, .null, 0, 0, 0, [])), (35, (.iconst 1, 1, .int 1, 0, 0, 0, [])), (36, (.invokevirtual 94, 3, .ref 4, 1, 83, 1, [])), (39, (.ireturn, 1, .null, 0, 0, 0, [])), (40, (.iload_n 2, 1, .null, 0, 0, 0, [])), (41, (.ifCond .lt 48, 3, .null, 89, 0, 0, [])), (44, (.iload 4, 2, .null, 0, 0, 0, [])), (46, (.ifCond .lt 43, 3, .null, 89, 0, 0, [])), (49, (.iload 5, 2, .null, 0, 0, 0, [])), (51, (.ifCond .lt 38, 3, .null, 89, 0, 0, [])), (54, (.iload_n 2, 1, .null, 0, 0, 0, [])), (55, (.i2l, 1, .null, 0, 0, 0, [])), (56, (.iload 5, 2, .null, 0, 0, 0, [])), (58, (.i2l, 1, .null, 0, 0, 0, [])), (59, (.ladd, 1, .null, 0, 0, 0, [])), (60, (.aload_n 0, 1, .null, 0, 0, 0, [])), (61, (.getfield 16, 3, .null, 4, 8, 0, [])), (64, (.iload_n 1, 1, .null, 0, 0, 0, [])), (65, (.iaload, 1, .null, 0, 0, 0, [])), (66, (.i2l, 1, .null, 0, 0, 0, [])), (67, (.lcmp, 1, .null, 0, 0, 0, [])), (68, (.ifCond .gt 21, 3, .null, 89, 0, 0, [])), (71, (.iload 4, 2, .null, 0, 0, 0, [])), (73, (.i2l, 1, .null, 0, 0, 0, [])), (74, (.iload 5, 2, .null, 0, 0, 0, [])), (76, (.i2l, 1, .null, 0, 0, 0, [])), (77, (.ladd, 1, .null, 0, 0, 0, [])), (78, (.aload_n 0, 1, .null, 0, 0, 0, [])), (79, (.getfield 16, 3, .null, 4, 8, 0, [])), (82, (.iload_n 3, 1, .null, 0, 0, 0, [])), (83, (.iaload, 1, .null, 0, 0, 0, [])), (84, (.i2l, 1, .null, 0, 0, 0, [])), (85, (.lcmp, 1, .null, 0, 0, 0, [])), (86, (.ifCond .le 9, 3, .null, 95, 0, 0, [])), (89, (.aload_n 0, 1, .null, 0, 0, 0, [])), (90, (.iconst 2, 1, .int 2, 0, 0, 0, [])), (91, (.invokevirtual 94, 3, .ref 4, 1, 83, 1, [])), (94, (.ireturn, 1, .null, 0, 0, 0, [])), (95, (.iconst 0, 1, .int 0, 0, 0, 0, [])), (96, (.istore 6, 2, .null, 0, 0, 0, [])), (98, (.iload 6, 2, .null, 0, 0, 0, [])), (100, (.iload 5, 2, .null, 0, 0, 0, [])), (102, (.if_icmp .ge 30, 3, .null, 132, 0, 0, [])), (105, (.aload_n 0, 1, .null, 0, 0, 0, [])), (106, (.getfield 23, 3, .null, 4, 10, 0, [])), (109, (.iload 6, 2, .null, 0, 0, 0, [])), (111, (.aload_n 0, 1, .null, 0, 0, 0, [])), (112, (.getfield 19, 3, .null, 4, 9, 0, [])), (115, (.bipush 12, 2, .int 12, 0, 0, 0, [])), (117, (.iload_n 1, 1, .null, 0, 0, 0, [])), (118, (.imul, 1, .null, 0, 0, 0, [])), (119, (.iload_n 2, 1, .null, 0, 0, 0, [])), (120, (.iadd, 1, .null, 0, 0, 0, [])), (121, (.iload 6, 2, .null, 0, 0, 0, [])), (123, (.iadd, 1, .null, 0, 0, 0, [])), (124, (.baload, 1, .null, 0, 0, 0, [])), (125, (.bastore, 1, .null, 0, 0, 0, [])), (126, (.iinc 6 1, 3, .int 1, 0, 0, 0, [])), (129, (.goto (-31), 3, .null, 98, 0, 0, [])), (132, (.iconst 0, 1, .int 0, 0, 0, 0, [])), (133, (.istore 6, 2, .null, 0, 0, 0, [])), (135, (.iload 6, 2, .null, 0, 0, 0, [])), (137, (.iload 5, 2, .null, 0, 0, 0, [])), (139, (.if_icmp .ge 31, 3, .null, 170, 0, 0, [])), (142, (.aload_n 0, 1, .null, 0, 0, 0, [])), (143, (.getfield 19, 3, .null, 4, 9, 0, [])), (146, (.bipush 12, 2, .int 12, 0, 0, 0, [])), (148, (.iload_n 3, 1, .null, 0, 0, 0, [])), (149, (.imul, 1, .null, 0, 0, 0, [])), (150, (.iload 4, 2, .null, 0, 0, 0, [])), (152, (.iadd, 1, .null, 0, 0, 0, [])), (153, (.iload 6, 2, .null, 0, 0, 0, [])), (155, (.iadd, 1, .null, 0, 0, 0, [])), (156, (.aload_n 0, 1, .null, 0, 0, 0, [])), (157, (.getfield 23, 3, .null, 4, 10, 0, [])), (160, (.iload 6, 2, .null, 0, 0, 0, [])), (162, (.baload, 1, .null, 0, 0, 0, [])), (163, (.bastore, 1, .null, 0, 0, 0, [])), (164, (.iinc 6 1, 3, .int 1, 0, 0, 0, [])), (167, (.goto (-32), 3, .null, 135, 0, 0, [])), (170, (.iconst 1, 1, .int 1, 0, 0, 0, [])), (171, (.ireturn, 1, .null, 0, 0, 0, []))]
def km_X4_copy : dx_K := ((yX4_copy, cX4_copy, 7, some .int), kr_X4_copy, kp_X4)
def kr_X4_fill : List (Nat × dx_I) := [(0, (.iload_n 1, 1, .null, 0, 0, 0, [])), (1, (.iconst 0, 1, .int 0, 0, 0, 0, [])), (2, (.aload_n 0, 1, .null, 0, 0, 0, [])), (3, (.getfield 80, 3, .null, 4, 5, 0, [])), (6, (.iconst 1, 1, .int 1, 0, 0, 0, [])), (7, (.isub, 1, .null, 0, 0, 0, [])), (8, (.invokestatic 66, 3, .null, 2, 82, 3, [])), (11, (.ifCond .eq 10, 3, .null, 21, 0, 0, [])), (14, (.iload_n 2, 1, .null, 0, 0, 0, [])), (15, (.invokestatic 90, 3, .null, 2, 96, 1, [])), (18, (.ifCond .ne 5, 3, .null, 23, 0, 0, [])), (21, (.iconst (-1), 1, .int (-1), 0, 0, 0, [])), (22, (.ireturn, 1, .null, 0, 0, 0, [])), (23, (.aload_n 0, 1, .null, 0, 0, 0, [])), (24, (.getfield 16, 3, .null, 4, 8, 0, [])), (27, (.iload_n 2, 1, .null, 0, 0, 0, [])), (28, (.iaload, 1, .null, 0, 0, 0, [])), (29, (.ifCond .ge 9, 3, .null, 38, 0, 0, [])), (32, (.aload_n 0, 1, .null, 0, 0, 0, [])), (33, (.iconst 1, 1, .int 1, 0, 0, 0, [])), (34, (.invokevirtual 94, 3, .ref 4, 1, 83, 1, [])), (37, (.ireturn, 1, .null, 0, 0, 0, [])), (38, (.aload_n 0, 1, .null, 0, 0, 0, [])), (39, (.getfield 16, 3, .null, 4, 8, 0, [])), (42, (.iload_n 2, 1, .null, 0, 0, 0, [])), (43, (.iaload, 1, .null, 0, 0, 0, [])), (44, (.aload_n 0, 1, .null, 0, 0, 0, [])), (45, (.getfield 77, 3, .null, 4, 4, 0, [])), (48, (.if_icmp .ge 9, 3, .null, 57, 0, 0, [])), (51, (.aload_n 0, 1, .null, 0, 0, 0, [])), (52, (.iconst 2, 1, .int 2, 0, 0, 0, [])), (53, (.invokevirtual 94, 3, .ref 4, 1, 83, 1, [])), (56, (.ireturn, 1, .null, 0, 0, 0, [])), (57, (.iconst 0, 1, .int 0, 0, 0, 0, [])), (58, (.istore_n 3, 1, .null, 0, 0, 0, [])), (59, (.iconst 0, 1, .int 0, 0, 0, 0, [])), (60, (.istore 4, 2, .null, 0, 0, 0, [])), (62, (.iload 4, 2, .null, 0, 0, 0, [])), (64, (.aload_n 0, 1, .null, 0, 0, 0, [])), (65, (.getfield 77, 3, .null, 4, 4, 0, [])), (68, (.if_icmp .ge 72, 3, .null, 140, 0, 0, [])), (71, (.aload_n 0, 1, .null, 0, 0, 0, [])), (72, (.getfield 19, 3, .null, 4, 9, 0, [])), (75, (.bipush 12, 2, .int 12, 0, 0, 0, [])), (77, (.iload_n 2, 1, .null, 0, 0, 0, [])), (78, (.imul, 1, .null, 0, 0, 0, [])), (79, (.iload 4, 2, .null, 0, 0, 0, [])), (81, (.iadd, 1, .null, 0, 0, 0, [])), (82, (.baload, 1, .null, 0, 0, 0, [])), (83, (.istore 5, 2, .null, 0, 0, 0, [])), (85, (.aload_n 0, 1, .null, 0, 0, 0, [])), (86, (.getfield 13, 3, .null, 4, 7, 0, [])), (89, (.bipush 12, 2, .int 12, 0, 0, 0, [])), (91, (.iload_n 1, 1, .null, 0, 0, 0, [])), (92, (.imul, 1, .null, 0, 0, 0, [])), (93, (.iload 4, 2, .null, 0, 0, 0, [])), (95, (.iadd, 1, .null, 0, 0, 0, [])), (96, (.iload 5, 2, .null, 0, 0, 0, [])), (98, (.ifCond .ge 8, 3, .null, 106, 0, 0, [])), (101, (.bipush (-9), 2, .int (-9), 0, 0, 0, [])), (103, (.goto 17, 3, .null, 120, 0, 0, [])), (106, (.iload 5, 2, .null, 0, 0, 0, [])), (108, (.bipush 20, 2, .int 20, 0, 0, 0, [])), (110, (.if_icmp .le 8, 3, .null, 118, 0, 0, [])), (113, (.bipush 20, 2, .int 20, 0, 0, 0, [])), (115, (.goto 5, 3, .null, 120, 0, 0, [])), (118, (.iload 5, 2, .null, 0, 0, 0, [])), (120, (.iastore, 1, .null, 0, 0, 0, [])), (121, (.iload_n 3, 1, .null, 0, 0, 0, [])), (122, (.iload 5, 2, .null, 0, 0, 0, [])), (124, (.ifCond .ge 7, 3, .null, 131, 0, 0, [])), (127, (.iconst 0, 1, .int 0, 0, 0, 0, [])), (128, (.goto 4, 3, .null, 132, 0, 0, [])), (131, (.iconst 1, 1, .int 1, 0, 0, 0, [])), (132, (.iadd, 1, .null, 0, 0, 0, [])), (133, (.istore_n 3, 1, .null, 0, 0, 0, [])), (134, (.iinc 4 1, 3, .int 1, 0, 0, 0, [])), (137, (.goto (-75), 3, .null, 62, 0, 0, [])), (140, (.iload_n 3, 1, .null, 0, 0, 0, [])), (141, (.ireturn, 1, .null, 0, 0, 0, []))]
def km_X4_fill : dx_K := ((yX4_fill, cX4_fill, 6, some .int), kr_X4_fill, kp_X4)
def kr_X4_isPoint : List (Nat × dx_I) := [(0, (.iload_n 0, 1, .null, 0, 0, 0, [])), (1, (.iconst 0, 1, .int 0, 0, 0, 0, [])), (2, (.bipush 24, 2, .int 24, 0, 0, 0, [])), (4, (.invokestatic 66, 3, .null, 2, 82, 3, [])), (7, (.ifCond .eq 17, 3, .null, 24, 0, 0, [])), (10, (.iload_n 1, 1, .null, 0, 0, 0, [])), (11, (.iconst 0, 1, .int 0, 0, 0, 0, [])), (12, (.bipush 24, 2, .int 24, 0, 0, 0, [])), (14, (.invokestatic 66, 3, .null, 2, 82, 3, [])), (17, (.ifCond .eq 7, 3, .null, 24, 0, 0, [])), (20, (.iconst 1, 1, .int 1, 0, 0, 0, [])), (21, (.goto 4, 3, .null, 25, 0, 0, [])), (24, (.iconst 0, 1, .int 0, 0, 0, 0, [])), (25, (.ireturn, 1, .null, 0, 0, 0, []))]
def km_X4_isPoint : dx_K := ((yX4_isPoint, cX4_isPoint, 2, some .boolean), kr_X4_isPoint, kp_X4)
def kr_X4_load : List (Nat × dx_I) := [(0, (.iload_n 1, 1, .null, 0, 0, 0, [])), (1, (.iconst 0, 1, .int 0, 0, 0, 0, [])), (2, (.iconst 2, 1, .int 2, 0, 0, 0, [])), (3, (.invokestatic 66, 3, .null, 2, 82, 3, [])), (6, (.ifCond .eq 23, 3, .null, 29, 0, 0, [])), (9, (.iload_n 2, 1, .null, 0, 0, 0, [])), (10, (.iload_n 3, 1, .null, 0, 0, 0, [])), (11, (.invokestatic 98, 3, .null, 2, 102, 2, [])), (14, (.ifCond .eq 15, 3, .null, 29, 0, 0, [])), (17, (.iload 4, 2, .null, 0, 0, 0, [])), (19, (.iconst 0, 1, .int 0, 0, 0, 0, [])), (20, (.sipush 200, 3, .int 200, 0, 0, 0, [])), (23, (.invokestatic 66, 3, .null, 2, 82, 3, [])), (26, (.ifCond .ne 5, 3, .null, 31, 0, 0, [])), (29, (.iconst (-1), 1, .int (-1), 0, 0, 0, [])), (30, (.ireturn, 1, .null, 0, 0, 0, [])), (31, (.aload_n 0, 1, .null, 0, 0, 0, [])), (32, (.getfield 83, 3, .null, 4, 11, 0, [])), (35, (.bipush 10, 2, .int 10, 0, 0, 0, [])), (37, (.if_icmp .ne 6, 3, .null, 43, 0, 0, [])), (40, (.bipush (-2), 2, .int (-2), 0, 0, 0, [])), (42, (.ireturn, 1, .null, 0, 0, 0, [])), (43, (.aload_n 0, 1, .null, 0, 0, 0, [])), (44, (.getfield 26, 3, .null, 4, 12, 0, [])), (47, (.aload_n 0, 1, .null, 0, 0, 0, [])), (48, (.getfield 83, 3, .null, 4, 11, 0, [])), (51, (.iload_n 1, 1, .null, 0, 0, 0, [])), (52, (.iastore, 1, .null, 0, 0, 0, [])), (53, (.aload_n 0, 1, .null, 0, 0, 0, [])), (54, (.getfield 29, 3, .null, 4, 13, 0, [])), (57, (.aload_n 0, 1, .null, 0, 0, 0, [])), (58, (.getfield 83, 3, .null, 4, 11, 0, [])), (61, (.iload_n 2, 1, .null, 0, 0, 0, [])), (62, (.iastore, 1, .null, 0, 0, 0, [])), (63, (.aload_n 0, 1, .null, 0, 0, 0, [])), (64, (.getfield 32, 3, .null, 4, 14, 0, [])), (67, (.aload_n 0, 1, .null, 0, 0, 0, [])), (68, (.getfield 83, 3, .null, 4, 11, 0, [])), (71, (.iload_n 3, 1, .null, 0, 0, 0, [])), (72, (.iastore, 1, .null, 0, 0, 0, [])), (73, (.aload_n 0, 1, .null, 0, 0, 0, [])), (74, (.getfield 35, 3, .null, 4, 15, 0, [])), (77, (.aload_n 0, 1, .null, 0, 0, 0, [])), (78, (.getfield 83, 3, .null, 4, 11, 0, [])), (81, (.iload 4, 2, .null, 0, 0, 0, [])), (83, (.iastore, 1, .null, 0, 0, 0, [])), (84, (.aload_n 0, 1, .null, 0, 0, 0, [])), (85, (.getfield 38, 3, .null, 4, 16, 0, [])), (88, (.aload_n 0, 1, .null, 0, 0, 0, [])), (89, (.getfield 83, 3, .null, 4, 11, 0, [])), (92, (.iconst 0, 1, .int 0, 0, 0, 0, [])), (93, (.iastore, 1, .null, 0, 0, 0, [])), (94, (.aload_n 0, 1, .null, 0, 0, 0, [])), (95, (.getfield 41, 3, .null, 4, 17, 0, [])), (98, (.aload_n 0, 1, .null, 0, 0, 0, [])), (99, (.getfield 83, 3, .null, 4, 11, 0, [])), (102, (.iconst 0, 1, .int 0, 0, 0, 0, [])), (103, (.bastore, 1, .null, 0, 0, 0, [])), (104, (.aload_n 0, 1, .null, 0, 0, 0, [])), (105, (.dup, 1, .null, 0, 0, 0, [])), (106, (.getfield 83, 3, .null, 4, 11, 0, [])), (109, (.iconst 1, 1, .int 1, 0, 0, 0, [])), (110, (.iadd, 1, .null, 0, 0, 0, [])), (111, (.putfield 83, 3, .null, 4, 11, 0, [])), (114, (.aload_n 0, 1, .null, 0, 0, 0, [])), (115, (.getfield 83, 3, .null, 4, 11, 0, [])), (118, (.iconst 1, 1, .int 1, 0, 0, 0, [])), (119, (.isub, 1, .null, 0, 0, 0, [])), (120, (.ireturn, 1, .null, 0, 0, 0, []))]
def km_X4_load : dx_K := ((yX4_load, cX4_load, 5, some .int), kr_X4_load, kp_X4)
def kr_X4_need : List (Nat × dx_I) := [(0, (.iload_n 2, 1, .null, 0, 0, 0, [])), (1, (.iconst 0, 1, .int 0, 0, 0, 0, [])), (2, (.aload_n 0, 1, .null, 0, 0, 0, [])), (3, (.getfield 83, 3, .null, 4, 11, 0, [])), (6, (.iconst 1, 1, .int 1, 0, 0, 0, [])), (7, (.isub, 1, .null, 0, 0, 0, [])), (8, (.invokestatic 66, 3, .null, 2, 82, 3, [])), (11, (.ifCond .eq 7, 3, .null, 18, 0, 0, [])), (14, (.iload_n 1, 1, .null, 0, 0, 0, [])), (15, (.ifCond .ne 7, 3, .null, 22, 0, 0, [])), (18, (.iconst (-1), 1, .int (-1), 0, 0, 0, [])), (19, (.goto 21, 3, .null, 40, 0, 0, [])), (22, (.aload_n 0, 1, .null, 0, 0, 0, [])), (23, (.getfield 41, 3, .null, 4, 17, 0, [])), (26, (.iload_n 2, 1, .null, 0, 0, 0, [])), (27, (.baload, 1, .null, 0, 0, 0, [])), (28, (.ifCond .eq 11, 3, .null, 39, 0, 0, [])), (31, (.aload_n 0, 1, .null, 0, 0, 0, [])), (32, (.iconst 1, 1, .int 1, 0, 0, 0, [])), (33, (.invokevirtual 94, 3, .ref 4, 1, 83, 1, [])), (36, (.goto 4, 3, .null, 40, 0, 0, [])), (39, (.iconst 0, 1, .int 0, 0, 0, 0, [])), (40, (.ireturn, 1, .null, 0, 0, 0, []))]
def km_X4_need : dx_K := ((yX4_need, cX4_need, 3, some .int), kr_X4_need, kp_X4)
def kr_X4_move : List (Nat × dx_I) := [(0, (.aload_n 0, 1, .null, 0, 0, 0, [])), (1, (.iload_n 2, 1, .null, 0, 0, 0, [])), (2, (.iload_n 3, 1, .null, 0, 0, 0, [])), (3, (.invokestatic 98, 3, .null, 2, 102, 2, [])), (6, (.iload_n 1, 1, .null, 0, 0, 0, [])), (7, (.invokevirtual 101, 3, .ref 4, 1, 104, 2, [])), (10, (.istore 4, 2, .null, 0, 0, 0, [])), (12, (.iload 4, 2, .null, 0, 0, 0, [])), (14, (.ifCond .ge 6, 3, .null, 20, 0, 0, [])), (17, (.iload 4, 2, .null, 0, 0, 0, [])), (19, (.ireturn, 1, .null, 0, 0, 0, [])), (20, (.aload_n 0, 1, .null, 0, 0, 0, [])), (21, (.getfield 26, 3, .null, 4, 12, 0, [])), (24, (.iload_n 1, 1, .null, 0, 0, 0, [])), (25, (.iaload, 1, .null, 0, 0, 0, [])), (26, (.iconst 2, 1, .int 2, 0, 0, 0, [])), (27, (.if_icmp .ne 9, 3, .null, 36, 0, 0, [])), (30, (.aload_n 0, 1, .null, 0, 0, 0, [])), (31, (.iconst 3, 1, .int 3, 0, 0, 0, [])), (32, (.invokevirtual 94, 3, .ref 4, 1, 83, 1, [])), (35, (.ireturn, 1, .null, 0, 0, 0, [])), (36, (.aload_n 0, 1, .null, 0, 0, 0, [])), (37, (.getfield 29, 3, .null, 4, 13, 0, [])), (40, (.iload_n 1, 1, .null, 0, 0, 0, [])), (41, (.iload_n 2, 1, .null, 0, 0, 0, [])), (42, (.iastore, 1, .null, 0, 0, 0, [])), (43, (.aload_n 0, 1, .null, 0, 0, 0, [])), (44, (.getfield 32, 3, .null, 4, 14, 0, [])), (47, (.iload_n 1, 1, .null, 0, 0, 0, [])), (48, (.iload_n 3, 1, .null, 0, 0, 0, [])), (49, (.iastore, 1, .null, 0, 0, 0, [])), (50, (.iconst 1, 1, .int 1, 0, 0, 0, [])), (51, (.ireturn, 1, .null, 0, 0, 0, []))]
def km_X4_move : dx_K := ((yX4_move, cX4_move, 5, some .int), kr_X4_move, kp_X4)
def kr_X4_rope : List (Nat × dx_I) := [(0, (.aload_n 0, 1, .null, 0, 0, 0, [])), (1, (.iload_n 2, 1, .null, 0, 0, 0, [])), (2, (.iconst 0, 1, .int 0, 0, 0, 0, [])), (3, (.bipush 20, 2, .int 20, 0, 0, 0, [])), (5, (.invokestatic 66, 3, .null, 2, 82, 3, [])), (8, (.iload_n 1, 1, .null, 0, 0, 0, [])), (9, (.invokevirtual 101, 3, .ref 4, 1, 104, 2, [])), (12, (.istore_n 3, 1, .null, 0, 0, 0, [])), (13, (.iload_n 3, 1, .null, 0, 0, 0, [])), (14, (.ifCond .ge 5, 3, .null, 19, 0, 0, [])), (17, (.iload_n 3, 1, .null, 0, 0, 0, [])), (18, (.ireturn, 1, .null, 0, 0, 0, [])), (19, (.aload_n 0, 1, .null, 0, 0, 0, [])), (20, (.getfield 26, 3, .null, 4, 12, 0, [])), (23, (.iload_n 1, 1, .null, 0, 0, 0, [])), (24, (.iaload, 1, .null, 0, 0, 0, [])), (25, (.iconst 1, 1, .int 1, 0, 0, 0, [])), (26, (.if_icmp .eq 9, 3, .null, 35, 0, 0, [])), (29, (.aload_n 0, 1, .null, 0, 0, 0, [])), (30, (.iconst 3, 1, .int 3, 0, 0, 0, [])), (31, (.invokevirtual 94, 3, .ref 4, 1, 83, 1, [])), (34, (.ireturn, 1, .null, 0, 0, 0, [])), (35, (.aload_n 0, 1, .null, 0, 0, 0, [])), (36, (.getfield 38, 3, .null, 4, 16, 0, [])), (39, (.iload_n 1, 1, .null, 0, 0, 0, [])), (40, (.iaload, 1, .null, 0, 0, 0, [])), (41, (.istore 4, 2, .null, 0, 0, 0, [])), (43, (.aload_n 0, 1, .null, 0, 0, 0, [])), (44, (.getfield 38, 3, .null, 4, 16, 0, [])), (47, (.iload_n 1, 1, .null, 0, 0, 0, [])), (48, (.iload_n 2, 1, .null, 0, 0, 0, [])), (49, (.iastore, 1, .null, 0, 0, 0, [])), (50, (.iload 4, 2, .null, 0, 0, 0, [])), (52, (.ireturn, 1, .null, 0, 0, 0, []))]
def km_X4_rope : dx_K := ((yX4_rope, cX4_rope, 5, some .int), kr_X4_rope, kp_X4)
def kr_X4_drop : List (Nat × dx_I) := [(0, (.aload_n 0, 1, .null, 0, 0, 0, [])), (1, (.iconst 1, 1, .int 1, 0, 0, 0, [])), (2, (.iload_n 1, 1, .null, 0, 0, 0, [])), (3, (.invokevirtual 101, 3, .ref 4, 1, 104, 2, [])), (6, (.istore_n 2, 1, .null, 0, 0, 0, [])), (7, (.iload_n 2, 1, .null, 0, 0, 0, [])), (8, (.ifCond .ge 5, 3, .null, 13, 0, 0, [])), (11, (.iload_n 2, 1, .null, 0, 0, 0, [])), (12, (.ireturn, 1, .null, 0, 0, 0, [])), (13, (.aload_n 0, 1, .null, 0, 0, 0, [])), (14, (.getfield 41, 3, .null, 4, 17, 0, [])), (17, (.iload_n 1, 1, .null, 0, 0, 0, [])), (18, (.iconst 1, 1, .int 1, 0, 0, 0, [])), (19, (.bastore, 1, .null, 0, 0, 0, [])), (20, (.iconst 1, 1, .int 1, 0, 0, 0, [])), (21, (.ireturn, 1, .null, 0, 0, 0, []))]
def km_X4_drop : dx_K := ((yX4_drop, cX4_drop, 3, some .int), kr_X4_drop, kp_X4)
def kr_X4_toldOf : List (Nat × dx_I) := [(0, (.iload_n 2, 1, .null, 0, 0, 0, [])), (1, (.tableswitch 59 0 3 #[31, 38, 45, 52], 31, .null, 60, 0, 0, [(0, 32), (1, 39), (2, 46), (3, 53)])), (32, (.aload_n 0, 1, .null, 0, 0, 0, [])), (33, (.getfield 26, 3, .null, 4, 12, 0, [])), (36, (.iload_n 1, 1, .null, 0, 0, 0, [])), (37, (.iaload, 1, .null, 0, 0, 0, [])), (38, (.ireturn, 1, .null, 0, 0, 0, [])), (39, (.aload_n 0, 1, .null, 0, 0, 0, [])), (40, (.getfield 29, 3, .null, 4, 13, 0, [])), (43, (.iload_n 1, 1, .null, 0, 0, 0, [])), (44, (.iaload, 1, .null, 0, 0, 0, [])), (45, (.ireturn, 1, .null, 0, 0, 0, [])), (46, (.aload_n 0, 1, .null, 0, 0, 0, [])), (47, (.getfield 32, 3, .null, 4, 14, 0, [])), (50, (.iload_n 1, 1, .null, 0, 0, 0, [])), (51, (.iaload, 1, .null, 0, 0, 0, [])), (52, (.ireturn, 1, .null, 0, 0, 0, [])), (53, (.aload_n 0, 1, .null, 0, 0, 0, [])), (54, (.getfield 35, 3, .null, 4, 15, 0, [])), (57, (.iload_n 1, 1, .null, 0, 0, 0, [])), (58, (.iaload, 1, .null, 0, 0, 0, [])), (59, (.ireturn, 1, .null, 0, 0, 0, [])), (60, (.aload_n 0, 1, .null, 0, 0, 0, [])), (61, (.getfield 26, 3, .null, 4, 12, 0, [])), (64, (.iload_n 1, 1, .null, 0, 0, 0, [])), (65, (.iaload, 1, .null, 0, 0, 0, [])), (66, (.iconst 1, 1, .int 1, 0, 0, 0, [])), (67, (.if_icmp .ne 12, 3, .null, 79, 0, 0, [])), (70, (.aload_n 0, 1, .null, 0, 0, 0, [])), (71, (.getfield 38, 3, .null, 4, 16, 0, [])), (74, (.iload_n 1, 1, .null, 0, 0, 0, [])), (75, (.iaload, 1, .null, 0, 0, 0, [])), (76, (.goto 5, 3, .null, 81, 0, 0, [])), (79, (.bipush (-9), 2, .int (-9), 0, 0, 0, [])), (81, (.ireturn, 1, .null, 0, 0, 0, []))]
def km_X4_toldOf : dx_K := ((yX4_toldOf, cX4_toldOf, 3, some .int), kr_X4_toldOf, kp_X4)
def kr_X4_told : List (Nat × dx_I) := [(0, (.aload_n 0, 1, .null, 0, 0, 0, [])), (1, (.iload_n 2, 1, .null, 0, 0, 0, [])), (2, (.iconst 0, 1, .int 0, 0, 0, 0, [])), (3, (.iconst 4, 1, .int 4, 0, 0, 0, [])), (4, (.invokestatic 66, 3, .null, 2, 82, 3, [])), (7, (.iload_n 1, 1, .null, 0, 0, 0, [])), (8, (.invokevirtual 101, 3, .ref 4, 1, 104, 2, [])), (11, (.istore_n 3, 1, .null, 0, 0, 0, [])), (12, (.iload_n 3, 1, .null, 0, 0, 0, [])), (13, (.ifCond .ge 7, 3, .null, 20, 0, 0, [])), (16, (.iload_n 3, 1, .null, 0, 0, 0, [])), (17, (.goto 9, 3, .null, 26, 0, 0, [])), (20, (.aload_n 0, 1, .null, 0, 0, 0, [])), (21, (.iload_n 1, 1, .null, 0, 0, 0, [])), (22, (.iload_n 2, 1, .null, 0, 0, 0, [])), (23, (.invokevirtual 105, 3, .ref 4, 1, 108, 2, [])), (26, (.ireturn, 1, .null, 0, 0, 0, []))]
def km_X4_told : dx_K := ((yX4_told, cX4_told, 4, some .int), kr_X4_told, kp_X4)
def kr_X4_is : List (Nat × dx_I) := [(0, (.aload_n 0, 1, .null, 0, 0, 0, [])), (1, (.iload_n 2, 1, .null, 0, 0, 0, [])), (2, (.iconst 0, 1, .int 0, 0, 0, 0, [])), (3, (.iconst 2, 1, .int 2, 0, 0, 0, [])), (4, (.invokestatic 66, 3, .null, 2, 82, 3, [])), (7, (.iload_n 1, 1, .null, 0, 0, 0, [])), (8, (.invokevirtual 101, 3, .ref 4, 1, 104, 2, [])), (11, (.istore_n 3, 1, .null, 0, 0, 0, [])), (12, (.iload_n 3, 1, .null, 0, 0, 0, [])), (13, (.ifCond .ge 7, 3, .null, 20, 0, 0, [])), (16, (.iload_n 3, 1, .null, 0, 0, 0, [])), (17, (.goto 22, 3, .null, 39, 0, 0, [])), (20, (.iload_n 2, 1, .null, 0, 0, 0, [])), (21, (.ifCond .eq 13, 3, .null, 34, 0, 0, [])), (24, (.aload_n 0, 1, .null, 0, 0, 0, [])), (25, (.getfield 26, 3, .null, 4, 12, 0, [])), (28, (.iload_n 1, 1, .null, 0, 0, 0, [])), (29, (.iaload, 1, .null, 0, 0, 0, [])), (30, (.iload_n 2, 1, .null, 0, 0, 0, [])), (31, (.if_icmp .ne 7, 3, .null, 38, 0, 0, [])), (34, (.iconst 1, 1, .int 1, 0, 0, 0, [])), (35, (.goto 4, 3, .null, 39, 0, 0, [])), (38, (.iconst 0, 1, .int 0, 0, 0, 0, [])), (39, (.ireturn, 1, .null, 0, 0, 0, []))]
def km_X4_is : dx_K := ((yX4_is, cX4_is, 4, some .int), kr_X4_is, kp_X4)
def kr_X4_squareMany : List (Nat × dx_I) := [(0, (.iconst 0, 1, .int 0, 0, 0, 0, [])), (1, (.istore_n 1, 1, .null, 0, 0, 0, [])), (2, (.iconst 0, 1, .int 0, 0, 0, 0, [])), (3, (.istore_n 2, 1, .null, 0, 0, 0, [])), (4, (.iload_n 2, 1, .null, 0, 0, 0, [])), (5, (.sipush 144, 3, .int 144, 0, 0, 0, [])), (8, (.if_icmp .ge 28, 3, .null, 36, 0, 0, [])), (11, (.iload_n 1, 1, .null, 0, 0, 0, [])), (12, (.aload_n 0, 1, .null, 0, 0, 0, [])), (13, (.getfield 13, 3, .null, 4, 7, 0, [])), (16, (.iload_n 2, 1, .null, 0, 0, 0, [])), (17, (.iaload, 1, .null, 0, 0, 0, [])), (18, (.bipush (-9), 2, .int (-9), 0, 0, 0, [])), (20, (.if_icmp .ne 7, 3, .null, 27, 0, 0, [])), (23, (.iconst 0, 1, .int 0, 0, 0, 0, [])), (24, (.goto 4, 3, .null, 28, 0, 0, [])), (27, (.iconst 1, 1, .int 1, 0, 0, 0, [])), (28, (.iadd, 1, .null, 0, 0, 0, [])), (29, (.istore_n 1, 1, .null, 0, 0, 0, [])), (30, (.iinc 2 1, 3, .int 1, 0, 0, 0, [])), (33, (.goto (-29), 3, .null, 4, 0, 0, [])), (36, (.iload_n 1, 1, .null, 0, 0, 0, [])), (37, (.ireturn, 1, .null, 0, 0, 0, []))]
def km_X4_squareMany : dx_K := ((yX4_squareMany, cX4_squareMany, 3, some .int), kr_X4_squareMany, kp_X4)
def kr_X4_squareWeights : List (Nat × dx_I) := [(0, (.iconst 0, 1, .int 0, 0, 0, 0, [])), (1, (.istore_n 1, 1, .null, 0, 0, 0, [])), (2, (.iconst 0, 1, .int 0, 0, 0, 0, [])), (3, (.istore_n 2, 1, .null, 0, 0, 0, [])), (4, (.iload_n 2, 1, .null, 0, 0, 0, [])), (5, (.sipush 144, 3, .int 144, 0, 0, 0, [])), (8, (.if_icmp .ge 33, 3, .null, 41, 0, 0, [])), (11, (.iload_n 1, 1, .null, 0, 0, 0, [])), (12, (.aload_n 0, 1, .null, 0, 0, 0, [])), (13, (.getfield 13, 3, .null, 4, 7, 0, [])), (16, (.iload_n 2, 1, .null, 0, 0, 0, [])), (17, (.iaload, 1, .null, 0, 0, 0, [])), (18, (.bipush (-9), 2, .int (-9), 0, 0, 0, [])), (20, (.if_icmp .ne 7, 3, .null, 27, 0, 0, [])), (23, (.iconst 0, 1, .int 0, 0, 0, 0, [])), (24, (.goto 9, 3, .null, 33, 0, 0, [])), (27, (.aload_n 0, 1, .null, 0, 0, 0, [])), (28, (.getfield 13, 3, .null, 4, 7, 0, [])), (31, (.iload_n 2, 1, .null, 0, 0, 0, [])), (32, (.iaload, 1, .null, 0, 0, 0, [])), (33, (.iadd, 1, .null, 0, 0, 0, [])), (34, (.istore_n 1, 1, .null, 0, 0, 0, [])), (35, (.iinc 2 1, 3, .int 1, 0, 0, 0, [])), (38, (.goto (-34), 3, .null, 4, 0, 0, [])), (41, (.iload_n 1, 1, .null, 0, 0, 0, [])), (42, (.ireturn, 1, .null, 0, 0, 0, []))]
def km_X4_squareWeights : dx_K := ((yX4_squareWeights, cX4_squareWeights, 3, some .int), kr_X4_squareWeights, kp_X4)
def kr_X4_all : List (Nat × dx_I) := [(0, (.aload_n 0, 1, .null, 0, 0, 0, [])), (1, (.invokevirtual 109, 3, .ref 4, 1, 112, 0, [])), (4, (.istore_n 1, 1, .null, 0, 0, 0, [])), (5, (.iconst 0, 1, .int 0, 0, 0, 0, [])), (6, (.istore_n 2, 1, .null, 0, 0, 0, [])), (7, (.iload_n 2, 1, .null, 0, 0, 0, [])), (8, (.aload_n 0, 1, .null, 0, 0, 0, [])), (9, (.getfield 83, 3, .null, 4, 11, 0, [])), (12, (.if_icmp .ge 31, 3, .null, 43, 0, 0, [])), (15, (.iload_n 1, 1, .null, 0, 0, 0, [])), (16, (.aload_n 0, 1, .null, 0, 0, 0, [])), (17, (.getfield 41, 3, .null, 4, 17, 0, [])), (20, (.iload_n 2, 1, .null, 0, 0, 0, [])), (21, (.baload, 1, .null, 0, 0, 0, [])), (22, (.ifCond .eq 7, 3, .null, 29, 0, 0, [])), (25, (.iconst 0, 1, .int 0, 0, 0, 0, [])), (26, (.goto 9, 3, .null, 35, 0, 0, [])), (29, (.aload_n 0, 1, .null, 0, 0, 0, [])), (30, (.getfield 35, 3, .null, 4, 15, 0, [])), (33, (.iload_n 2, 1, .null, 0, 0, 0, [])), (34, (.iaload, 1, .null, 0, 0, 0, [])), (35, (.iadd, 1, .null, 0, 0, 0, [])), (36, (.istore_n 1, 1, .null, 0, 0, 0, [])), (37, (.iinc 2 1, 3, .int 1, 0, 0, 0, [])), (40, (.goto (-33), 3, .null, 7, 0, 0, [])), (43, (.iload_n 1, 1, .null, 0, 0, 0, [])), (44, (.ireturn, 1, .null, 0, 0, 0, []))]
def km_X4_all : dx_K := ((yX4_all, cX4_all, 3, some .int), kr_X4_all, kp_X4)
def kr_X4_mean : List (Nat × dx_I) := [(0, (.aload_n 0, 1, .null, 0, 0, 0, [])), (1, (.invokevirtual 113, 3, .ref 4, 1, 111, 0, [])), (4, (.istore_n 1, 1, .null, 0, 0, 0, [])), (5, (.iload_n 1, 1, .null, 0, 0, 0, [])), (6, (.ifCond .ne 11, 3, .null, 17, 0, 0, [])), (9, (.aload_n 0, 1, .null, 0, 0, 0, [])), (10, (.iconst 4, 1, .int 4, 0, 0, 0, [])), (11, (.invokevirtual 94, 3, .ref 4, 1, 83, 1, [])), (14, (.goto 9, 3, .null, 23, 0, 0, [])), (17, (.aload_n 0, 1, .null, 0, 0, 0, [])), (18, (.invokevirtual 109, 3, .ref 4, 1, 112, 0, [])), (21, (.iload_n 1, 1, .null, 0, 0, 0, [])), (22, (.idiv, 1, .null, 0, 0, 0, [])), (23, (.ireturn, 1, .null, 0, 0, 0, []))]
def km_X4_mean : dx_K := ((yX4_mean, cX4_mean, 2, some .int), kr_X4_mean, kp_X4)
def kr_X4_lay_ : List (Nat × dx_I) := [(0, (.aload_n 0, 1, .null, 0, 0, 0, [])), (1, (.iload_n 1, 1, .null, 0, 0, 0, [])), (2, (.iconst 2, 1, .int 2, 0, 0, 0, [])), (3, (.irem, 1, .null, 0, 0, 0, [])), (4, (.ifCond .ne 10, 3, .null, 14, 0, 0, [])), (7, (.aload_n 0, 1, .null, 0, 0, 0, [])), (8, (.getfield 77, 3, .null, 4, 4, 0, [])), (11, (.goto 7, 3, .null, 18, 0, 0, [])), (14, (.aload_n 0, 1, .null, 0, 0, 0, [])), (15, (.getfield 80, 3, .null, 4, 5, 0, [])), (18, (.putfield 116, 3, .null, 4, 18, 0, [])), (21, (.aload_n 0, 1, .null, 0, 0, 0, [])), (22, (.iload_n 1, 1, .null, 0, 0, 0, [])), (23, (.iconst 2, 1, .int 2, 0, 0, 0, [])), (24, (.irem, 1, .null, 0, 0, 0, [])), (25, (.ifCond .ne 10, 3, .null, 35, 0, 0, [])), (28, (.aload_n 0, 1, .null, 0, 0, 0, [])), (29, (.getfield 80, 3, .null, 4, 5, 0, [])), (32, (.goto 7, 3, .null, 39, 0, 0, [])), (35, (.aload_n 0, 1, .null, 0, 0, 0, [])), (36, (.getfield 77, 3, .null, 4, 4, 0, [])), (39, (.putfield 119, 3, .null, 4, 19, 0, [])), (42, (.aload_n 0, 1, .null, 0, 0, 0, [])), (43, (.lconst 0, 1, .long 0, 0, 0, 0, [])), (44, (.putfield 122, 3, .null, 4, 21, 0, [])), (47, (.aload_n 0, 1, .null, 0, 0, 0, [])), (48, (.lconst 0, 1, .long 0, 0, 0, 0, [])), (49, (.putfield 125, 3, .null, 4, 22, 0, [])), (52, (.iconst 0, 1, .int 0, 0, 0, 0, [])), (53, (.istore_n 2, 1, .null, 0, 0, 0, [])), (54, (.iload_n 2, 1, .null, 0, 0, 0, [])), (55, (.aload_n 0, 1, .null, 0, 0, 0, [])), (56, (.getfield 80, 3, .null, 4, 5, 0, [])), (59, (.if_icmp .ge 199, 3, .null, 258, 0, 0, [])), (62, (.iconst 0, 1, .int 0, 0, 0, 0, [])), (63, (.istore_n 3, 1, .null, 0, 0, 0, [])), (64, (.iload_n 3, 1, .null, 0, 0, 0, [])), (65, (.aload_n 0, 1, .null, 0, 0, 0, [])), (66, (.getfield 77, 3, .null, 4, 4, 0, [])), (69, (.if_icmp .ge 183, 3, .null, 252, 0, 0, [])), (72, (.iload_n 1, 1, .null, 0, 0, 0, [])), (73, (.ifCond .ne 7, 3, .null, 80, 0, 0, [])), (76, (.iload_n 3, 1, .null, 0, 0, 0, [])), (77, (.goto 36, 3, .null, 113, 0, 0, [])), (80, (.iload_n 1, 1, .null, 0, 0, 0, [])), (81, (.iconst 1, 1, .int 1, 0, 0, 0, [])), (82, (.if_icmp .ne 14, 3, .null, 96, 0, 0, [])), (85, (.aload_n 0, 1, .null, 0, 0, 0, [])), (86, (.getfield 80, 3, .null, 4, 5, 0, [])), (89, (.iconst 1, 1, .int 1, 0, 0, 0, [])), (90, (.isub, 1, .null, 0, 0, 0, [])), (91, (.iload_n 2, 1, .null, 0, 0, 0, [])), (92, (.isub, 1, .null, 0, 0, 0, [])), (93, (.goto 20, 3, .null, 113, 0, 0, [])), (96, (.iload_n 1, 1, .null, 0, 0, 0, [])), (97, (.iconst 2, 1, .int 2, 0, 0, 0, [])), (98, (.if_icmp .ne 14, 3, .null, 112, 0, 0, [])), (101, (.aload_n 0, 1, .null, 0, 0, 0, [])), (102, (.getfield 77, 3, .null, 4, 4, 0, [])), (105, (.iconst 1, 1, .int 1, 0, 0, 0, [])), (106, (.isub, 1, .null, 0, 0, 0, [])), (107, (.iload_n 3, 1, .null, 0, 0, 0, [])), (108, (.isub, 1, .null, 0, 0, 0, [])), (109, (.goto 4, 3, .null, 113, 0, 0, [])), (112, (.iload_n 2, 1, .null, 0, 0, 0, [])), (113, (.istore 4, 2, .null, 0, 0, 0, [])), (115, (.iload_n 1, 1, .null, 0, 0, 0, [])), (116, (.ifCond .ne 7, 3, .null, 123, 0, 0, [])), (119, (.iload_n 2, 1, .null, 0, 0, 0, [])), (120, (.goto 36, 3, .null, 156, 0, 0, [])), (123, (.iload_n 1, 1, .null, 0, 0, 0, [])), (124, (.iconst 1, 1, .int 1, 0, 0, 0, [])), (125, (.if_icmp .ne 7, 3, .null, 132, 0, 0, [])), (128, (.iload_n 3, 1, .null, 0, 0, 0, [])), (129, (.goto 27, 3, .null, 156, 0, 0, [])), (132, (.iload_n 1, 1, .null, 0, 0, 0, [])), (133, (.iconst 2, 1, .int 2, 0, 0, 0, [])), (134, (.if_icmp .ne 14, 3, .null, 148, 0, 0, [])), (137, (.aload_n 0, 1, .null, 0, 0, 0, [])), (138, (.getfield 80, 3, .null, 4, 5, 0, [])), (141, (.iconst 1, 1, .int 1, 0, 0, 0, [])), (142, (.isub, 1, .null, 0, 0, 0, [])), (143, (.iload_n 2, 1, .null, 0, 0, 0, [])), (144, (.isub, 1, .null, 0, 0, 0, [])), (145, (.goto 11, 3, .null, 156, 0, 0, [])), (148, (.aload_n 0, 1, .null, 0, 0, 0, [])), (149, (.getfield 77, 3, .null, 4, 4, 0, [])), (152, (.iconst 1, 1, .int 1, 0, 0, 0, [])), (153, (.isub, 1, .null, 0, 0, 0, [])), (154, (.iload_n 3, 1, .null, 0, 0, 0, [])), (155, (.isub, 1, .null, 0, 0, 0, [])), (156, (.istore 5, 2, .null, 0, 0, 0, [])), (158, (.aload_n 0, 1, .null, 0, 0, 0, [])), (159, (.getfield 13, 3, .null, 4, 7, 0, [])), (162, (.bipush 12, 2, .int 12, 0, 0, 0, [])), (164, (.iload_n 2, 1, .null, 0, 0, 0, [])), (165, (.imul, 1, .null, 0, 0, 0, [])), (166, (.iload_n 3, 1, .null, 0, 0, 0, [])), (167, (.iadd, 1, .null, 0, 0, 0, [])), (168, (.iaload, 1, .null, 0, 0, 0, [])), (169, (.istore 6, 2, .null, 0, 0, 0, [])), (171, (.aload_n 0, 1, .null, 0, 0, 0, [])), (172, (.getfield 45, 3, .null, 4, 20, 0, [])), (175, (.bipush 12, 2, .int 12, 0, 0, 0, [])), (177, (.iload 5, 2, .null, 0, 0, 0, [])), (179, (.imul, 1, .null, 0, 0, 0, [])), (180, (.iload 4, 2, .null, 0, 0, 0, [])), (182, (.iadd, 1, .null, 0, 0, 0, [])), (183, (.iload 6, 2, .null, 0, 0, 0, [])), (185, (.iastore, 1, .null, 0, 0, 0, [])), (186, (.aload_n 0, 1, .null, 0, 0, 0, [])), (187, (.dup, 1, .null, 0, 0, 0, [])), (188, (.getfield 122, 3, .null, 4, 21, 0, [])), (191, (.iload 6, 2, .null, 0, 0, 0, [])), (193, (.bipush (-9), 2, .int (-9), 0, 0, 0, [])), (195, (.if_icmp .ne 7, 3, .null, 202, 0, 0, [])), (198, (.lconst 0, 1, .long 0, 0, 0, 0, [])), (199, (.goto 13, 3, .null, 212, 0, 0, [])), (202, (.iload 6, 2, .null, 0, 0, 0, [])), (204, (.iconst 2, 1, .int 2, 0, 0, 0, [])), (205, (.iload 4, 2, .null, 0, 0, 0, [])), (207, (.imul, 1, .null, 0, 0, 0, [])), (208, (.iconst 1, 1, .int 1, 0, 0, 0, [])), (209, (.iadd, 1, .null, 0, 0, 0, [])), (210, (.imul, 1, .null, 0, 0, 0, [])), (211, (.i2l, 1, .null, 0, 0, 0, [])), (212, (.ladd, 1, .null, 0, 0, 0, [])), (213, (.putfield 122, 3, .null, 4, 21, 0, [])), (216, (.aload_n 0, 1, .null, 0, 0, 0, [])), (217, (.dup, 1, .null, 0, 0, 0, [])), (218, (.getfield 125, 3, .null, 4, 22, 0, [])), (221, (.iload 6, 2, .null, 0, 0, 0, [])), (223, (.bipush (-9), 2, .int (-9), 0, 0, 0, [])), (225, (.if_icmp .ne 7, 3, .null, 232, 0, 0, [])), (228, (.lconst 0, 1, .long 0, 0, 0, 0, [])), (229, (.goto 13, 3, .null, 242, 0, 0, [])), (232, (.iload 6, 2, .null, 0, 0, 0, [])), (234, (.iconst 2, 1, .int 2, 0, 0, 0, [])), (235, (.iload 5, 2, .null, 0, 0, 0, [])), (237, (.imul, 1, .null, 0, 0, 0, [])), (238, (.iconst 1, 1, .int 1, 0, 0, 0, [])), (239, (.iadd, 1, .null, 0, 0, 0, [])), (240, (.imul, 1, .null, 0, 0, 0, [])), (241, (.i2l, 1, .null, 0, 0, 0, [])), (242, (.ladd, 1, .null, 0, 0, 0, [])), (243, (.putfield 125, 3, .null, 4, 22, 0, [])), (246, (.iinc 3 1, 3, .int 1, 0, 0, 0, [])), (249, (.goto (-185), 3, .null, 64, 0, 0, [])), (252, (.iinc 2 1, 3, .int 1, 0, 0, 0, [])), (255, (.goto (-201), 3, .null, 54, 0, 0, [])), (258, (.iconst 0, 1, .int 0, 0, 0, 0, [])), (259, (.istore_n 2, 1, .null, 0, 0, 0, [])), (260, (.iload_n 2, 1, .null, 0, 0, 0, [])), (261, (.aload_n 0, 1, .null, 0, 0, 0, [])), (262, (.getfield 83, 3, .null, 4, 11, 0, [])), (265, (.if_icmp .ge 160, 3, .null, 425, 0, 0, [])), (268, (.aload_n 0, 1, .null, 0, 0, 0, [])), (269, (.getfield 41, 3, .null, 4, 17, 0, [])), (272, (.iload_n 2, 1, .null, 0, 0, 0, [])), (273, (.baload, 1, .null, 0, 0, 0, [])), (274, (.ifCond .ne 145, 3, .null, 419, 0, 0, [])), (277, (.aload_n 0, 1, .null, 0, 0, 0, [])), (278, (.getfield 29, 3, .null, 4, 13, 0, [])), (281, (.iload_n 2, 1, .null, 0, 0, 0, [])), (282, (.iaload, 1, .null, 0, 0, 0, [])), (283, (.istore_n 3, 1, .null, 0, 0, 0, [])), (284, (.aload_n 0, 1, .null, 0, 0, 0, [])), (285, (.getfield 32, 3, .null, 4, 14, 0, [])), (288, (.iload_n 2, 1, .null, 0, 0, 0, [])), (289, (.iaload, 1, .null, 0, 0, 0, [])), (290, (.istore 4, 2, .null, 0, 0, 0, [])), (292, (.aload_n 0, 1, .null, 0, 0, 0, [])), (293, (.dup, 1, .null, 0, 0, 0, [])), (294, (.getfield 122, 3, .null, 4, 21, 0, [])), (297, (.aload_n 0, 1, .null, 0, 0, 0, [])), (298, (.getfield 35, 3, .null, 4, 15, 0, [])), (301, (.iload_n 2, 1, .null, 0, 0, 0, [])), (302, (.iaload, 1, .null, 0, 0, 0, [])), (303, (.iload_n 1, 1, .null, 0, 0, 0, [])), (304, (.ifCond .ne 7, 3, .null, 311, 0, 0, [])), (307, (.iload_n 3, 1, .null, 0, 0, 0, [])), (308, (.goto 38, 3, .null, 346, 0, 0, [])), (311, (.iload_n 1, 1, .null, 0, 0, 0, [])), (312, (.iconst 1, 1, .int 1, 0, 0, 0, [])), (313, (.if_icmp .ne 15, 3, .null, 328, 0, 0, [])), (316, (.iconst 2, 1, .int 2, 0, 0, 0, [])), (317, (.aload_n 0, 1, .null, 0, 0, 0, [])), (318, (.getfield 80, 3, .null, 4, 5, 0, [])), (321, (.imul, 1, .null, 0, 0, 0, [])), (322, (.iload 4, 2, .null, 0, 0, 0, [])), (324, (.isub, 1, .null, 0, 0, 0, [])), (325, (.goto 21, 3, .null, 346, 0, 0, [])), (328, (.iload_n 1, 1, .null, 0, 0, 0, [])), (329, (.iconst 2, 1, .int 2, 0, 0, 0, [])), (330, (.if_icmp .ne 14, 3, .null, 344, 0, 0, [])), (333, (.iconst 2, 1, .int 2, 0, 0, 0, [])), (334, (.aload_n 0, 1, .null, 0, 0, 0, [])), (335, (.getfield 77, 3, .null, 4, 4, 0, [])), (338, (.imul, 1, .null, 0, 0, 0, [])), (339, (.iload_n 3, 1, .null, 0, 0, 0, [])), (340, (.isub, 1, .null, 0, 0, 0, [])), (341, (.goto 5, 3, .null, 346, 0, 0, [])), (344, (.iload 4, 2, .null, 0, 0, 0, [])), (346, (.imul, 1, .null, 0, 0, 0, [])), (347, (.i2l, 1, .null, 0, 0, 0, [])), (348, (.ladd, 1, .null, 0, 0, 0, [])), (349, (.putfield 122, 3, .null, 4, 21, 0, [])), (352, (.aload_n 0, 1, .null, 0, 0, 0, [])), (353, (.dup, 1, .null, 0, 0, 0, [])), (354, (.getfield 125, 3, .null, 4, 22, 0, [])), (357, (.aload_n 0, 1, .null, 0, 0, 0, [])), (358, (.getfield 35, 3, .null, 4, 15, 0, [])), (361, (.iload_n 2, 1, .null, 0, 0, 0, [])), (362, (.iaload, 1, .null, 0, 0, 0, [])), (363, (.iload_n 1, 1, .null, 0, 0, 0, [])), (364, (.ifCond .ne 8, 3, .null, 372, 0, 0, [])), (367, (.iload 4, 2, .null, 0, 0, 0, [])), (369, (.goto 37, 3, .null, 406, 0, 0, [])), (372, (.iload_n 1, 1, .null, 0, 0, 0, [])), (373, (.iconst 1, 1, .int 1, 0, 0, 0, [])), (374, (.if_icmp .ne 7, 3, .null, 381, 0, 0, [])), (377, (.iload_n 3, 1, .null, 0, 0, 0, [])), (378, (.goto 28, 3, .null, 406, 0, 0, [])), (381, (.iload_n 1, 1, .null, 0, 0, 0, [])), (382, (.iconst 2, 1, .int 2, 0, 0, 0, [])), (383, (.if_icmp .ne 15, 3, .null, 398, 0, 0, [])), (386, (.iconst 2, 1, .int 2, 0, 0, 0, [])), (387, (.aload_n 0, 1, .null, 0, 0, 0, [])), (388, (.getfield 80, 3, .null, 4, 5, 0, [])), (391, (.imul, 1, .null, 0, 0, 0, [])), (392, (.iload 4, 2, .null, 0, 0, 0, [])), (394, (.isub, 1, .null, 0, 0, 0, [])), (395, (.goto 11, 3, .null, 406, 0, 0, [])), (398, (.iconst 2, 1, .int 2, 0, 0, 0, [])), (399, (.aload_n 0, 1, .null, 0, 0, 0, [])), (400, (.getfield 77, 3, .null, 4, 4, 0, [])), (403, (.imul, 1, .null, 0, 0, 0, [])), (404, (.iload_n 3, 1, .null, 0, 0, 0, [])), (405, (.isub, 1, .null, 0, 0, 0, [])), (406, (.aload_n 0, 1, .null, 0, 0, 0, [])), (407, (.getfield 38, 3, .null, 4, 16, 0, [])), (410, (.iload_n 2, 1, .null, 0, 0, 0, [])), (411, (.iaload, 1, .null, 0, 0, 0, [])), (412, (.iadd, 1, .null, 0, 0, 0, [])), (413, (.imul, 1, .null, 0, 0, 0, [])), (414, (.i2l, 1, .null, 0, 0, 0, [])), (415, (.ladd, 1, .null, 0, 0, 0, [])), (416, (.putfield 125, 3, .null, 4, 22, 0, [])), (419, (.iinc 2 1, 3, .int 1, 0, 0, 0, [])), (422, (.goto (-162), 3, .null, 260, 0, 0, [])), (425, (.return_, 1, .null, 0, 0, 0, []))]
def km_X4_lay_ : dx_K := ((yX4_lay_, cX4_lay_, 7, none), kr_X4_lay_, kp_X4)
def kr_X4_isWetAt : List (Nat × dx_I) := [(0, (.iload_n 1, 1, .null, 0, 0, 0, [])), (1, (.iconst 0, 1, .int 0, 0, 0, 0, [])), (2, (.aload_n 0, 1, .null, 0, 0, 0, [])), (3, (.getfield 116, 3, .null, 4, 18, 0, [])), (6, (.iconst 1, 1, .int 1, 0, 0, 0, [])), (7, (.isub, 1, .null, 0, 0, 0, [])), (8, (.invokestatic 66, 3, .null, 2, 82, 3, [])), (11, (.ifCond .eq 30, 3, .null, 41, 0, 0, [])), (14, (.iload_n 2, 1, .null, 0, 0, 0, [])), (15, (.iconst 0, 1, .int 0, 0, 0, 0, [])), (16, (.iload_n 3, 1, .null, 0, 0, 0, [])), (17, (.invokestatic 66, 3, .null, 2, 82, 3, [])), (20, (.ifCond .eq 21, 3, .null, 41, 0, 0, [])), (23, (.aload_n 0, 1, .null, 0, 0, 0, [])), (24, (.getfield 48, 3, .null, 4, 23, 0, [])), (27, (.bipush 12, 2, .int 12, 0, 0, 0, [])), (29, (.iload_n 2, 1, .null, 0, 0, 0, [])), (30, (.imul, 1, .null, 0, 0, 0, [])), (31, (.iload_n 1, 1, .null, 0, 0, 0, [])), (32, (.iadd, 1, .null, 0, 0, 0, [])), (33, (.baload, 1, .null, 0, 0, 0, [])), (34, (.ifCond .eq 7, 3, .null, 41, 0, 0, [])), (37, (.iconst 1, 1, .int 1, 0, 0, 0, [])), (38, (.goto 4, 3, .null, 42, 0, 0, [])), (41, (.iconst 0, 1, .int 0, 0, 0, 0, [])), (42, (.ireturn, 1, .null, 0, 0, 0, []))]
def km_X4_isWetAt : dx_K := ((yX4_isWetAt, cX4_isWetAt, 4, some .boolean), kr_X4_isWetAt, kp_X4)
def kr_X4_spread : List (Nat × dx_I) := [(0, (.iconst 0, 1, .int 0, 0, 0, 0, [])), (1, (.istore_n 2, 1, .null, 0, 0, 0, [])), (2, (.iload_n 2, 1, .null, 0, 0, 0, [])), (3, (.sipush 144, 3, .int 144, 0, 0, 0, [])), (6, (.if_icmp .ge 16, 3, .null, 22, 0, 0, [])), (9, (.aload_n 0, 1, .null, 0, 0, 0, [])), (10, (.getfield 48, 3, .null, 4, 23, 0, [])), (13, (.iload_n 2, 1, .null, 0, 0, 0, [])), (14, (.iconst 0, 1, .int 0, 0, 0, 0, [])), (15, (.bastore, 1, .null, 0, 0, 0, [])), (16, (.iinc 2 1, 3, .int 1, 0, 0, 0, [])), (19, (.goto (-17), 3, .null, 2, 0, 0, [])), (22, (.iconst 1, 1, .int 1, 0, 0, 0, [])), (23, (.istore_n 2, 1, .null, 0, 0, 0, [])), (24, (.iload_n 2, 1, .null, 0, 0, 0, [])), (25, (.ifCond .eq 182, 3, .null, 207, 0, 0, [])), (28, (.iconst 0, 1, .int 0, 0, 0, 0, [])), (29, (.istore_n 2, 1, .null, 0, 0, 0, [])), (30, (.iconst 0, 1, .int 0, 0, 0, 0, [])), (31, (.istore_n 3, 1, .null, 0, 0, 0, [])), (32, (.iload_n 3, 1, .null, 0, 0, 0, [])), (33, (.iload_n 1, 1, .null, 0, 0, 0, [])), (34, (.if_icmp .gt 170, 3, .null, 204, 0, 0, [])), (37, (.iconst 0, 1, .int 0, 0, 0, 0, [])), (38, (.istore 4, 2, .null, 0, 0, 0, [])), (40, (.iload 4, 2, .null, 0, 0, 0, [])), (42, (.aload_n 0, 1, .null, 0, 0, 0, [])), (43, (.getfield 116, 3, .null, 4, 18, 0, [])), (46, (.if_icmp .ge 152, 3, .null, 198, 0, 0, [])), (49, (.aload_n 0, 1, .null, 0, 0, 0, [])), (50, (.getfield 45, 3, .null, 4, 20, 0, [])), (53, (.bipush 12, 2, .int 12, 0, 0, 0, [])), (55, (.iload_n 3, 1, .null, 0, 0, 0, [])), (56, (.imul, 1, .null, 0, 0, 0, [])), (57, (.iload 4, 2, .null, 0, 0, 0, [])), (59, (.iadd, 1, .null, 0, 0, 0, [])), (60, (.iaload, 1, .null, 0, 0, 0, [])), (61, (.bipush (-9), 2, .int (-9), 0, 0, 0, [])), (63, (.if_icmp .ne 22, 3, .null, 85, 0, 0, [])), (66, (.aload_n 0, 1, .null, 0, 0, 0, [])), (67, (.getfield 48, 3, .null, 4, 23, 0, [])), (70, (.bipush 12, 2, .int 12, 0, 0, 0, [])), (72, (.iload_n 3, 1, .null, 0, 0, 0, [])), (73, (.imul, 1, .null, 0, 0, 0, [])), (74, (.iload 4, 2, .null, 0, 0, 0, [])), (76, (.iadd, 1, .null, 0, 0, 0, [])), (77, (.baload, 1, .null, 0, 0, 0, [])), (78, (.ifCond .ne 7, 3, .null, 85, 0, 0, [])), (81, (.iconst 1, 1, .int 1, 0, 0, 0, [])), (82, (.goto 4, 3, .null, 86, 0, 0, [])), (85, (.iconst 0, 1, .int 0, 0, 0, 0, [])), (86, (.istore 5, 2, .null, 0, 0, 0, [])), (88, (.iload 4, 2, .null, 0, 0, 0, [])), (90, (.ifCond .eq 18, 3, .null, 108, 0, 0, [])), (93, (.iload 4, 2, .null, 0, 0, 0, [])), (95, (.aload_n 0, 1, .null, 0, 0, 0, [])), (96, (.getfield 116, 3, .null, 4, 18, 0, [])), (99, (.iconst 1, 1, .int 1, 0, 0, 0, [])), (100, (.isub, 1, .null, 0, 0, 0, [])), (101, (.if_icmp .eq 7, 3, .null, 108, 0, 0, [])), (104, (.iload_n 3, 1, .null, 0, 0, 0, [])), (105, (.ifCond .ne 7, 3, .null, 112, 0, 0, [])), (108, (.iconst 1, 1, .int 1, 0, 0, 0, [])), (109, (.goto 4, 3, .null, 113, 0, 0, [])), (112, (.iconst 0, 1, .int 0, 0, 0, 0, [])), (113, (.istore 6, 2, .null, 0, 0, 0, [])), (115, (.iload 5, 2, .null, 0, 0, 0, [])), (117, (.ifCond .eq 75, 3, .null, 192, 0, 0, [])), (120, (.iload 6, 2, .null, 0, 0, 0, [])), (122, (.ifCond .ne 55, 3, .null, 177, 0, 0, [])), (125, (.aload_n 0, 1, .null, 0, 0, 0, [])), (126, (.iload 4, 2, .null, 0, 0, 0, [])), (128, (.iconst 1, 1, .int 1, 0, 0, 0, [])), (129, (.isub, 1, .null, 0, 0, 0, [])), (130, (.iload_n 3, 1, .null, 0, 0, 0, [])), (131, (.iload_n 1, 1, .null, 0, 0, 0, [])), (132, (.invokevirtual 128, 3, .ref 4, 1, 116, 3, [])), (135, (.ifCond .ne 42, 3, .null, 177, 0, 0, [])), (138, (.aload_n 0, 1, .null, 0, 0, 0, [])), (139, (.iload 4, 2, .null, 0, 0, 0, [])), (141, (.iconst 1, 1, .int 1, 0, 0, 0, [])), (142, (.iadd, 1, .null, 0, 0, 0, [])), (143, (.iload_n 3, 1, .null, 0, 0, 0, [])), (144, (.iload_n 1, 1, .null, 0, 0, 0, [])), (145, (.invokevirtual 128, 3, .ref 4, 1, 116, 3, [])), (148, (.ifCond .ne 29, 3, .null, 177, 0, 0, [])), (151, (.aload_n 0, 1, .null, 0, 0, 0, [])), (152, (.iload 4, 2, .null, 0, 0, 0, [])), (154, (.iload_n 3, 1, .null, 0, 0, 0, [])), (155, (.iconst 1, 1, .int 1, 0, 0, 0, [])), (156, (.isub, 1, .null, 0, 0, 0, [])), (157, (.iload_n 1, 1, .null, 0, 0, 0, [])), (158, (.invokevirtual 128, 3, .ref 4, 1, 116, 3, [])), (161, (.ifCond .ne 16, 3, .null, 177, 0, 0, [])), (164, (.aload_n 0, 1, .null, 0, 0, 0, [])), (165, (.iload 4, 2, .null, 0, 0, 0, [])), (167, (.iload_n 3, 1, .null, 0, 0, 0, [])), (168, (.iconst 1, 1, .int 1, 0, 0, 0, [])), (169, (.iadd, 1, .null, 0, 0, 0, [])), (170, (.iload_n 1, 1, .null, 0, 0, 0, [])), (171, (.invokevirtual 128, 3, .ref 4, 1, 116, 3, [])), (174, (.ifCond .eq 18, 3, .null, 192, 0, 0, [])), (177, (.aload_n 0, 1, .null, 0, 0, 0, [])), (178, (.getfield 48, 3, .null, 4, 23, 0, [])), (181, (.bipush 12, 2, .int 12, 0, 0, 0, [])), (183, (.iload_n 3, 1, .null, 0, 0, 0, [])), (184, (.imul, 1, .null, 0, 0, 0, [])), (185, (.iload 4, 2, .null, 0, 0, 0, [])), (187, (.iadd, 1, .null, 0, 0, 0, [])), (188, (.iconst 1, 1, .int 1, 0, 0, 0, [])), (189, (.bastore, 1, .null, 0, 0, 0, [])), (190, (.iconst 1, 1, .int 1, 0, 0, 0, [])), (191, (.istore_n 2, 1, .null, 0, 0, 0, [])), (192, (.iinc 4 1, 3, .int 1, 0, 0, 0, [])), (195, (.goto (-155), 3, .null, 40, 0, 0, [])), (198, (.iinc 3 1, 3, .int 1, 0, 0, 0, [])), (201, (.goto (-169), 3, .null, 32, 0, 0, [])), (204, (.goto (-180), 3, .null, 24, 0, 0, [])), (207, (.return_, 1, .null, 0, 0, 0, []))]
def km_X4_spread : dx_K := ((yX4_spread, cX4_spread, 7, none), kr_X4_spread, kp_X4)
def kr_X4_firmIn : List (Nat × dx_I) := [(0, (.iconst 0, 1, .int 0, 0, 0, 0, [])), (1, (.istore_n 2, 1, .null, 0, 0, 0, [])), (2, (.iconst 0, 1, .int 0, 0, 0, 0, [])), (3, (.istore_n 3, 1, .null, 0, 0, 0, [])), (4, (.iload_n 3, 1, .null, 0, 0, 0, [])), (5, (.aload_n 0, 1, .null, 0, 0, 0, [])), (6, (.getfield 116, 3, .null, 4, 18, 0, [])), (9, (.if_icmp .ge 31, 3, .null, 40, 0, 0, [])), (12, (.iload_n 2, 1, .null, 0, 0, 0, [])), (13, (.aload_n 0, 1, .null, 0, 0, 0, [])), (14, (.getfield 48, 3, .null, 4, 23, 0, [])), (17, (.bipush 12, 2, .int 12, 0, 0, 0, [])), (19, (.iload_n 1, 1, .null, 0, 0, 0, [])), (20, (.imul, 1, .null, 0, 0, 0, [])), (21, (.iload_n 3, 1, .null, 0, 0, 0, [])), (22, (.iadd, 1, .null, 0, 0, 0, [])), (23, (.baload, 1, .null, 0, 0, 0, [])), (24, (.ifCond .eq 7, 3, .null, 31, 0, 0, [])), (27, (.iconst 0, 1, .int 0, 0, 0, 0, [])), (28, (.goto 4, 3, .null, 32, 0, 0, [])), (31, (.iconst 1, 1, .int 1, 0, 0, 0, [])), (32, (.iadd, 1, .null, 0, 0, 0, [])), (33, (.istore_n 2, 1, .null, 0, 0, 0, [])), (34, (.iinc 3 1, 3, .int 1, 0, 0, 0, [])), (37, (.goto (-33), 3, .null, 4, 0, 0, [])), (40, (.iload_n 2, 1, .null, 0, 0, 0, [])), (41, (.ireturn, 1, .null, 0, 0, 0, []))]
def km_X4_firmIn : dx_K := ((yX4_firmIn, cX4_firmIn, 4, some .int), kr_X4_firmIn, kp_X4)
def kr_X4_firmBelow : List (Nat × dx_I) := [(0, (.iconst 0, 1, .int 0, 0, 0, 0, [])), (1, (.istore_n 2, 1, .null, 0, 0, 0, [])), (2, (.iconst 0, 1, .int 0, 0, 0, 0, [])), (3, (.istore_n 3, 1, .null, 0, 0, 0, [])), (4, (.iload_n 3, 1, .null, 0, 0, 0, [])), (5, (.iload_n 1, 1, .null, 0, 0, 0, [])), (6, (.if_icmp .ge 17, 3, .null, 23, 0, 0, [])), (9, (.iload_n 2, 1, .null, 0, 0, 0, [])), (10, (.aload_n 0, 1, .null, 0, 0, 0, [])), (11, (.iload_n 3, 1, .null, 0, 0, 0, [])), (12, (.invokevirtual 131, 3, .ref 4, 1, 118, 1, [])), (15, (.iadd, 1, .null, 0, 0, 0, [])), (16, (.istore_n 2, 1, .null, 0, 0, 0, [])), (17, (.iinc 3 1, 3, .int 1, 0, 0, 0, [])), (20, (.goto (-16), 3, .null, 4, 0, 0, [])), (23, (.iload_n 2, 1, .null, 0, 0, 0, [])), (24, (.ireturn, 1, .null, 0, 0, 0, []))]
def km_X4_firmBelow : dx_K := ((yX4_firmBelow, cX4_firmBelow, 4, some .int), kr_X4_firmBelow, kp_X4)
def kr_X4_finds : List (Nat × dx_I) := [(0, (.iconst 0, 1, .int 0, 0, 0, 0, [])), (1, (.istore_n 2, 1, .null, 0, 0, 0, [])), (2, (.iload_n 2, 1, .null, 0, 0, 0, [])), (3, (.aload_n 0, 1, .null, 0, 0, 0, [])), (4, (.getfield 119, 3, .null, 4, 19, 0, [])), (7, (.if_icmp .ge 94, 3, .null, 101, 0, 0, [])), (10, (.aload_n 0, 1, .null, 0, 0, 0, [])), (11, (.iload_n 2, 1, .null, 0, 0, 0, [])), (12, (.invokevirtual 134, 3, .ref 4, 1, 117, 1, [])), (15, (.aload_n 0, 1, .null, 0, 0, 0, [])), (16, (.iload_n 2, 1, .null, 0, 0, 0, [])), (17, (.invokevirtual 138, 3, .ref 4, 1, 119, 1, [])), (20, (.istore_n 3, 1, .null, 0, 0, 0, [])), (21, (.aload_n 0, 1, .null, 0, 0, 0, [])), (22, (.iload_n 2, 1, .null, 0, 0, 0, [])), (23, (.invokevirtual 131, 3, .ref 4, 1, 118, 1, [])), (26, (.istore 4, 2, .null, 0, 0, 0, [])), (28, (.iload_n 3, 1, .null, 0, 0, 0, [])), (29, (.aload_n 0, 1, .null, 0, 0, 0, [])), (30, (.getfield 51, 3, .null, 4, 6, 0, [])), (33, (.imul, 1, .null, 0, 0, 0, [])), (34, (.iload_n 1, 1, .null, 0, 0, 0, [])), (35, (.if_icmp .ge 60, 3, .null, 95, 0, 0, [])), (38, (.iload_n 1, 1, .null, 0, 0, 0, [])), (39, (.iload_n 3, 1, .null, 0, 0, 0, [])), (40, (.iload 4, 2, .null, 0, 0, 0, [])), (42, (.iadd, 1, .null, 0, 0, 0, [])), (43, (.aload_n 0, 1, .null, 0, 0, 0, [])), (44, (.getfield 51, 3, .null, 4, 6, 0, [])), (47, (.imul, 1, .null, 0, 0, 0, [])), (48, (.if_icmp .gt 47, 3, .null, 95, 0, 0, [])), (51, (.aload_n 0, 1, .null, 0, 0, 0, [])), (52, (.iload_n 2, 1, .null, 0, 0, 0, [])), (53, (.putfield 141, 3, .null, 4, 24, 0, [])), (56, (.aload_n 0, 1, .null, 0, 0, 0, [])), (57, (.iload_n 3, 1, .null, 0, 0, 0, [])), (58, (.putfield 144, 3, .null, 4, 27, 0, [])), (61, (.aload_n 0, 1, .null, 0, 0, 0, [])), (62, (.iload 4, 2, .null, 0, 0, 0, [])), (64, (.putfield 147, 3, .null, 4, 28, 0, [])), (67, (.aload_n 0, 1, .null, 0, 0, 0, [])), (68, (.iload_n 1, 1, .null, 0, 0, 0, [])), (69, (.iload_n 3, 1, .null, 0, 0, 0, [])), (70, (.aload_n 0, 1, .null, 0, 0, 0, [])), (71, (.getfield 51, 3, .null, 4, 6, 0, [])), (74, (.imul, 1, .null, 0, 0, 0, [])), (75, (.isub, 1, .null, 0, 0, 0, [])), (76, (.i2l, 1, .null, 0, 0, 0, [])), (77, (.putfield 150, 3, .null, 4, 25, 0, [])), (80, (.aload_n 0, 1, .null, 0, 0, 0, [])), (81, (.iload 4, 2, .null, 0, 0, 0, [])), (83, (.i2l, 1, .null, 0, 0, 0, [])), (84, (.aload_n 0, 1, .null, 0, 0, 0, [])), (85, (.getfield 51, 3, .null, 4, 6, 0, [])), (88, (.i2l, 1, .null, 0, 0, 0, [])), (89, (.lmul, 1, .null, 0, 0, 0, [])), (90, (.putfield 153, 3, .null, 4, 26, 0, [])), (93, (.iconst 1, 1, .int 1, 0, 0, 0, [])), (94, (.ireturn, 1, .null, 0, 0, 0, [])), (95, (.iinc 2 1, 3, .int 1, 0, 0, 0, [])), (98, (.goto (-96), 3, .null, 2, 0, 0, [])), (101, (.iconst 0, 1, .int 0, 0, 0, 0, [])), (102, (.ireturn, 1, .null, 0, 0, 0, []))]
def km_X4_finds : dx_K := ((yX4_finds, cX4_finds, 5, some .boolean), kr_X4_finds, kp_X4)
def kr_X4_afloat : List (Nat × dx_I) := [(0, (.iload_n 2, 1, .null, 0, 0, 0, [])), (1, (.iconst 0, 1, .int 0, 0, 0, 0, [])), (2, (.iconst 3, 1, .int 3, 0, 0, 0, [])), (3, (.invokestatic 66, 3, .null, 2, 82, 3, [])), (6, (.ifCond .eq 7, 3, .null, 13, 0, 0, [])), (9, (.iload_n 1, 1, .null, 0, 0, 0, [])), (10, (.ifCond .ne 5, 3, .null, 15, 0, 0, [])), (13, (.iconst (-1), 1, .int (-1), 0, 0, 0, [])), (14, (.ireturn, 1, .null, 0, 0, 0, [])), (15, (.aload_n 0, 1, .null, 0, 0, 0, [])), (16, (.invokevirtual 113, 3, .ref 4, 1, 111, 0, [])), (19, (.ifCond .eq 10, 3, .null, 29, 0, 0, [])), (22, (.aload_n 0, 1, .null, 0, 0, 0, [])), (23, (.invokevirtual 156, 3, .ref 4, 1, 113, 0, [])), (26, (.ifCond .ne 6, 3, .null, 32, 0, 0, [])), (29, (.bipush (-4), 2, .int (-4), 0, 0, 0, [])), (31, (.ireturn, 1, .null, 0, 0, 0, [])), (32, (.aload_n 0, 1, .null, 0, 0, 0, [])), (33, (.iload_n 2, 1, .null, 0, 0, 0, [])), (34, (.invokevirtual 159, 3, .ref 4, 1, 115, 1, [])), (37, (.aload_n 0, 1, .null, 0, 0, 0, [])), (38, (.aload_n 0, 1, .null, 0, 0, 0, [])), (39, (.invokevirtual 156, 3, .ref 4, 1, 113, 0, [])), (42, (.invokevirtual 162, 3, .ref 4, 1, 120, 1, [])), (45, (.ifCond .eq 7, 3, .null, 52, 0, 0, [])), (48, (.iconst 1, 1, .int 1, 0, 0, 0, [])), (49, (.goto 5, 3, .null, 54, 0, 0, [])), (52, (.bipush (-5), 2, .int (-5), 0, 0, 0, [])), (54, (.ireturn, 1, .null, 0, 0, 0, []))]
def km_X4_afloat : dx_K := ((yX4_afloat, cX4_afloat, 3, some .int), kr_X4_afloat, kp_X4)
def kr_X4_floats : List (Nat × dx_I) := [(0, (.aload_n 0, 1, .null, 0, 0, 0, [])), (1, (.iconst 1, 1, .int 1, 0, 0, 0, [])), (2, (.iload_n 1, 1, .null, 0, 0, 0, [])), (3, (.invokevirtual 165, 3, .ref 4, 1, 121, 2, [])), (6, (.ireturn, 1, .null, 0, 0, 0, []))]
def km_X4_floats : dx_K := ((yX4_floats, cX4_floats, 2, some .int), kr_X4_floats, kp_X4)
def kr_X4_draft : List (Nat × dx_I) := [(0, (.aload_n 0, 1, .null, 0, 0, 0, [])), (1, (.iconst 1, 1, .int 1, 0, 0, 0, [])), (2, (.iload_n 1, 1, .null, 0, 0, 0, [])), (3, (.invokevirtual 165, 3, .ref 4, 1, 121, 2, [])), (6, (.istore_n 2, 1, .null, 0, 0, 0, [])), (7, (.iload_n 2, 1, .null, 0, 0, 0, [])), (8, (.ifCond .ge 7, 3, .null, 15, 0, 0, [])), (11, (.iload_n 2, 1, .null, 0, 0, 0, [])), (12, (.goto 26, 3, .null, 38, 0, 0, [])), (15, (.aload_n 0, 1, .null, 0, 0, 0, [])), (16, (.aload_n 0, 1, .null, 0, 0, 0, [])), (17, (.getfield 141, 3, .null, 4, 24, 0, [])), (20, (.i2l, 1, .null, 0, 0, 0, [])), (21, (.aload_n 0, 1, .null, 0, 0, 0, [])), (22, (.getfield 153, 3, .null, 4, 26, 0, [])), (25, (.lmul, 1, .null, 0, 0, 0, [])), (26, (.aload_n 0, 1, .null, 0, 0, 0, [])), (27, (.getfield 150, 3, .null, 4, 25, 0, [])), (30, (.ladd, 1, .null, 0, 0, 0, [])), (31, (.aload_n 0, 1, .null, 0, 0, 0, [])), (32, (.getfield 153, 3, .null, 4, 26, 0, [])), (35, (.invokevirtual 168, 3, .ref 4, 1, 87, 2, [])), (38, (.ireturn, 1, .null, 0, 0, 0, []))]
def km_X4_draft : dx_K := ((yX4_draft, cX4_draft, 3, some .int), kr_X4_draft, kp_X4)
def kr_X4_above : List (Nat × dx_I) := [(0, (.aload_n 0, 1, .null, 0, 0, 0, [])), (1, (.iconst 1, 1, .int 1, 0, 0, 0, [])), (2, (.iload_n 1, 1, .null, 0, 0, 0, [])), (3, (.invokevirtual 165, 3, .ref 4, 1, 121, 2, [])), (6, (.istore_n 2, 1, .null, 0, 0, 0, [])), (7, (.iload_n 2, 1, .null, 0, 0, 0, [])), (8, (.ifCond .ge 7, 3, .null, 15, 0, 0, [])), (11, (.iload_n 2, 1, .null, 0, 0, 0, [])), (12, (.goto 31, 3, .null, 43, 0, 0, [])), (15, (.aload_n 0, 1, .null, 0, 0, 0, [])), (16, (.aload_n 0, 1, .null, 0, 0, 0, [])), (17, (.getfield 119, 3, .null, 4, 19, 0, [])), (20, (.aload_n 0, 1, .null, 0, 0, 0, [])), (21, (.getfield 141, 3, .null, 4, 24, 0, [])), (24, (.isub, 1, .null, 0, 0, 0, [])), (25, (.i2l, 1, .null, 0, 0, 0, [])), (26, (.aload_n 0, 1, .null, 0, 0, 0, [])), (27, (.getfield 153, 3, .null, 4, 26, 0, [])), (30, (.lmul, 1, .null, 0, 0, 0, [])), (31, (.aload_n 0, 1, .null, 0, 0, 0, [])), (32, (.getfield 150, 3, .null, 4, 25, 0, [])), (35, (.lsub, 1, .null, 0, 0, 0, [])), (36, (.aload_n 0, 1, .null, 0, 0, 0, [])), (37, (.getfield 153, 3, .null, 4, 26, 0, [])), (40, (.invokevirtual 168, 3, .ref 4, 1, 87, 2, [])), (43, (.ireturn, 1, .null, 0, 0, 0, []))]
def km_X4_above : dx_K := ((yX4_above, cX4_above, 3, some .int), kr_X4_above, kp_X4)
def kr_X4_laySums : List (Nat × dx_I) := [(0, (.aload_n 0, 1, .null, 0, 0, 0, [])), (1, (.lconst 0, 1, .long 0, 0, 0, 0, [])), (2, (.putfield 172, 3, .null, 4, 29, 0, [])), (5, (.aload_n 0, 1, .null, 0, 0, 0, [])), (6, (.lconst 0, 1, .long 0, 0, 0, 0, [])), (7, (.putfield 175, 3, .null, 4, 30, 0, [])), (10, (.aload_n 0, 1, .null, 0, 0, 0, [])), (11, (.lconst 0, 1, .long 0, 0, 0, 0, [])), (12, (.putfield 178, 3, .null, 4, 31, 0, [])), (15, (.iconst 0, 1, .int 0, 0, 0, 0, [])), (16, (.istore_n 1, 1, .null, 0, 0, 0, [])), (17, (.iload_n 1, 1, .null, 0, 0, 0, [])), (18, (.aload_n 0, 1, .null, 0, 0, 0, [])), (19, (.getfield 141, 3, .null, 4, 24, 0, [])), (22, (.if_icmp .gt 120, 3, .null, 142, 0, 0, [])), (25, (.iconst 0, 1, .int 0, 0, 0, 0, [])), (26, (.istore_n 2, 1, .null, 0, 0, 0, [])), (27, (.iload_n 2, 1, .null, 0, 0, 0, [])), (28, (.aload_n 0, 1, .null, 0, 0, 0, [])), (29, (.getfield 116, 3, .null, 4, 18, 0, [])), (32, (.if_icmp .ge 104, 3, .null, 136, 0, 0, [])), (35, (.aload_n 0, 1, .null, 0, 0, 0, [])), (36, (.getfield 48, 3, .null, 4, 23, 0, [])), (39, (.bipush 12, 2, .int 12, 0, 0, 0, [])), (41, (.iload_n 1, 1, .null, 0, 0, 0, [])), (42, (.imul, 1, .null, 0, 0, 0, [])), (43, (.iload_n 2, 1, .null, 0, 0, 0, [])), (44, (.iadd, 1, .null, 0, 0, 0, [])), (45, (.baload, 1, .null, 0, 0, 0, [])), (46, (.ifCond .ne 84, 3, .null, 130, 0, 0, [])), (49, (.aload_n 0, 1, .null, 0, 0, 0, [])), (50, (.dup, 1, .null, 0, 0, 0, [])), (51, (.getfield 172, 3, .null, 4, 29, 0, [])), (54, (.iload_n 1, 1, .null, 0, 0, 0, [])), (55, (.aload_n 0, 1, .null, 0, 0, 0, [])), (56, (.getfield 141, 3, .null, 4, 24, 0, [])), (59, (.if_icmp .ge 12, 3, .null, 71, 0, 0, [])), (62, (.iconst 2, 1, .int 2, 0, 0, 0, [])), (63, (.iload_n 2, 1, .null, 0, 0, 0, [])), (64, (.imul, 1, .null, 0, 0, 0, [])), (65, (.iconst 1, 1, .int 1, 0, 0, 0, [])), (66, (.iadd, 1, .null, 0, 0, 0, [])), (67, (.i2l, 1, .null, 0, 0, 0, [])), (68, (.goto 4, 3, .null, 72, 0, 0, [])), (71, (.lconst 0, 1, .long 0, 0, 0, 0, [])), (72, (.ladd, 1, .null, 0, 0, 0, [])), (73, (.putfield 172, 3, .null, 4, 29, 0, [])), (76, (.aload_n 0, 1, .null, 0, 0, 0, [])), (77, (.dup, 1, .null, 0, 0, 0, [])), (78, (.getfield 178, 3, .null, 4, 31, 0, [])), (81, (.iload_n 1, 1, .null, 0, 0, 0, [])), (82, (.aload_n 0, 1, .null, 0, 0, 0, [])), (83, (.getfield 141, 3, .null, 4, 24, 0, [])), (86, (.if_icmp .ge 12, 3, .null, 98, 0, 0, [])), (89, (.iconst 2, 1, .int 2, 0, 0, 0, [])), (90, (.iload_n 1, 1, .null, 0, 0, 0, [])), (91, (.imul, 1, .null, 0, 0, 0, [])), (92, (.iconst 1, 1, .int 1, 0, 0, 0, [])), (93, (.iadd, 1, .null, 0, 0, 0, [])), (94, (.i2l, 1, .null, 0, 0, 0, [])), (95, (.goto 4, 3, .null, 99, 0, 0, [])), (98, (.lconst 0, 1, .long 0, 0, 0, 0, [])), (99, (.ladd, 1, .null, 0, 0, 0, [])), (100, (.putfield 178, 3, .null, 4, 31, 0, [])), (103, (.aload_n 0, 1, .null, 0, 0, 0, [])), (104, (.dup, 1, .null, 0, 0, 0, [])), (105, (.getfield 175, 3, .null, 4, 30, 0, [])), (108, (.iload_n 1, 1, .null, 0, 0, 0, [])), (109, (.aload_n 0, 1, .null, 0, 0, 0, [])), (110, (.getfield 141, 3, .null, 4, 24, 0, [])), (113, (.if_icmp .ne 12, 3, .null, 125, 0, 0, [])), (116, (.iconst 2, 1, .int 2, 0, 0, 0, [])), (117, (.iload_n 2, 1, .null, 0, 0, 0, [])), (118, (.imul, 1, .null, 0, 0, 0, [])), (119, (.iconst 1, 1, .int 1, 0, 0, 0, [])), (120, (.iadd, 1, .null, 0, 0, 0, [])), (121, (.i2l, 1, .null, 0, 0, 0, [])), (122, (.goto 4, 3, .null, 126, 0, 0, [])), (125, (.lconst 0, 1, .long 0, 0, 0, 0, [])), (126, (.ladd, 1, .null, 0, 0, 0, [])), (127, (.putfield 175, 3, .null, 4, 30, 0, [])), (130, (.iinc 2 1, 3, .int 1, 0, 0, 0, [])), (133, (.goto (-106), 3, .null, 27, 0, 0, [])), (136, (.iinc 1 1, 3, .int 1, 0, 0, 0, [])), (139, (.goto (-122), 3, .null, 17, 0, 0, [])), (142, (.return_, 1, .null, 0, 0, 0, []))]
def km_X4_laySums : dx_K := ((yX4_laySums, cX4_laySums, 3, none), kr_X4_laySums, kp_X4)
def kr_X4_layPowers : List (Nat × dx_I) := [(0, (.aload_n 0, 1, .null, 0, 0, 0, [])), (1, (.invokevirtual 181, 3, .ref 4, 1, 125, 0, [])), (4, (.aload_n 0, 1, .null, 0, 0, 0, [])), (5, (.aload_n 0, 1, .null, 0, 0, 0, [])), (6, (.getfield 172, 3, .null, 4, 29, 0, [])), (9, (.aload_n 0, 1, .null, 0, 0, 0, [])), (10, (.getfield 153, 3, .null, 4, 26, 0, [])), (13, (.lmul, 1, .null, 0, 0, 0, [])), (14, (.aload_n 0, 1, .null, 0, 0, 0, [])), (15, (.getfield 175, 3, .null, 4, 30, 0, [])), (18, (.aload_n 0, 1, .null, 0, 0, 0, [])), (19, (.getfield 150, 3, .null, 4, 25, 0, [])), (22, (.lmul, 1, .null, 0, 0, 0, [])), (23, (.ladd, 1, .null, 0, 0, 0, [])), (24, (.putfield 184, 3, .null, 4, 32, 0, [])), (27, (.aload_n 0, 1, .null, 0, 0, 0, [])), (28, (.ldc2_w 187, 3, .long 2, 0, 0, 0, [])), (31, (.aload_n 0, 1, .null, 0, 0, 0, [])), (32, (.getfield 153, 3, .null, 4, 26, 0, [])), (35, (.lmul, 1, .null, 0, 0, 0, [])), (36, (.putfield 189, 3, .null, 4, 33, 0, [])), (39, (.aload_n 0, 1, .null, 0, 0, 0, [])), (40, (.aload_n 0, 1, .null, 0, 0, 0, [])), (41, (.getfield 178, 3, .null, 4, 31, 0, [])), (44, (.aload_n 0, 1, .null, 0, 0, 0, [])), (45, (.getfield 153, 3, .null, 4, 26, 0, [])), (48, (.lmul, 1, .null, 0, 0, 0, [])), (49, (.aload_n 0, 1, .null, 0, 0, 0, [])), (50, (.getfield 153, 3, .null, 4, 26, 0, [])), (53, (.lmul, 1, .null, 0, 0, 0, [])), (54, (.aload_n 0, 1, .null, 0, 0, 0, [])), (55, (.getfield 147, 3, .null, 4, 28, 0, [])), (58, (.i2l, 1, .null, 0, 0, 0, [])), (59, (.ldc2_w 187, 3, .long 2, 0, 0, 0, [])), (62, (.aload_n 0, 1, .null, 0, 0, 0, [])), (63, (.getfield 141, 3, .null, 4, 24, 0, [])), (66, (.i2l, 1, .null, 0, 0, 0, [])), (67, (.lmul, 1, .null, 0, 0, 0, [])), (68, (.aload_n 0, 1, .null, 0, 0, 0, [])), (69, (.getfield 150, 3, .null, 4, 25, 0, [])), (72, (.lmul, 1, .null, 0, 0, 0, [])), (73, (.aload_n 0, 1, .null, 0, 0, 0, [])), (74, (.getfield 153, 3, .null, 4, 26, 0, [])), (77, (.lmul, 1, .null, 0, 0, 0, [])), (78, (.aload_n 0, 1, .null, 0, 0, 0, [])), (79, (.getfield 150, 3, .null, 4, 25, 0, [])), (82, (.aload_n 0, 1, .null, 0, 0, 0, [])), (83, (.getfield 150, 3, .null, 4, 25, 0, [])), (86, (.lmul, 1, .null, 0, 0, 0, [])), (87, (.ladd, 1, .null, 0, 0, 0, [])), (88, (.lmul, 1, .null, 0, 0, 0, [])), (89, (.ladd, 1, .null, 0, 0, 0, [])), (90, (.putfield 192, 3, .null, 4, 34, 0, [])), (93, (.aload_n 0, 1, .null, 0, 0, 0, [])), (94, (.ldc2_w 187, 3, .long 2, 0, 0, 0, [])), (97, (.aload_n 0, 1, .null, 0, 0, 0, [])), (98, (.getfield 153, 3, .null, 4, 26, 0, [])), (101, (.lmul, 1, .null, 0, 0, 0, [])), (102, (.aload_n 0, 1, .null, 0, 0, 0, [])), (103, (.getfield 153, 3, .null, 4, 26, 0, [])), (106, (.lmul, 1, .null, 0, 0, 0, [])), (107, (.putfield 195, 3, .null, 4, 35, 0, [])), (110, (.return_, 1, .null, 0, 0, 0, []))]
def km_X4_layPowers : dx_K := ((yX4_layPowers, cX4_layPowers, 1, none), kr_X4_layPowers, kp_X4)
def kr_X4_middle : List (Nat × dx_I) := [(0, (.aload_n 0, 1, .null, 0, 0, 0, [])), (1, (.iload_n 2, 1, .null, 0, 0, 0, [])), (2, (.iconst 0, 1, .int 0, 0, 0, 0, [])), (3, (.iconst 3, 1, .int 3, 0, 0, 0, [])), (4, (.invokestatic 66, 3, .null, 2, 82, 3, [])), (7, (.iload_n 1, 1, .null, 0, 0, 0, [])), (8, (.invokevirtual 165, 3, .ref 4, 1, 121, 2, [])), (11, (.istore_n 3, 1, .null, 0, 0, 0, [])), (12, (.iload_n 3, 1, .null, 0, 0, 0, [])), (13, (.ifCond .ge 5, 3, .null, 18, 0, 0, [])), (16, (.iload_n 3, 1, .null, 0, 0, 0, [])), (17, (.ireturn, 1, .null, 0, 0, 0, [])), (18, (.aload_n 0, 1, .null, 0, 0, 0, [])), (19, (.invokevirtual 198, 3, .ref 4, 1, 126, 0, [])), (22, (.iload_n 2, 1, .null, 0, 0, 0, [])), (23, (.tableswitch 93 0 2 #[25, 50, 75], 25, .null, 116, 0, 0, [(0, 48), (1, 73), (2, 98)])), (48, (.aload_n 0, 1, .null, 0, 0, 0, [])), (49, (.aload_n 0, 1, .null, 0, 0, 0, [])), (50, (.getfield 184, 3, .null, 4, 32, 0, [])), (53, (.aload_n 0, 1, .null, 0, 0, 0, [])), (54, (.getfield 51, 3, .null, 4, 6, 0, [])), (57, (.i2l, 1, .null, 0, 0, 0, [])), (58, (.lmul, 1, .null, 0, 0, 0, [])), (59, (.aload_n 0, 1, .null, 0, 0, 0, [])), (60, (.getfield 189, 3, .null, 4, 33, 0, [])), (63, (.aload_n 0, 1, .null, 0, 0, 0, [])), (64, (.invokevirtual 156, 3, .ref 4, 1, 113, 0, [])), (67, (.i2l, 1, .null, 0, 0, 0, [])), (68, (.lmul, 1, .null, 0, 0, 0, [])), (69, (.invokevirtual 168, 3, .ref 4, 1, 87, 2, [])), (72, (.ireturn, 1, .null, 0, 0, 0, [])), (73, (.aload_n 0, 1, .null, 0, 0, 0, [])), (74, (.aload_n 0, 1, .null, 0, 0, 0, [])), (75, (.getfield 192, 3, .null, 4, 34, 0, [])), (78, (.aload_n 0, 1, .null, 0, 0, 0, [])), (79, (.getfield 51, 3, .null, 4, 6, 0, [])), (82, (.i2l, 1, .null, 0, 0, 0, [])), (83, (.lmul, 1, .null, 0, 0, 0, [])), (84, (.aload_n 0, 1, .null, 0, 0, 0, [])), (85, (.getfield 195, 3, .null, 4, 35, 0, [])), (88, (.aload_n 0, 1, .null, 0, 0, 0, [])), (89, (.invokevirtual 156, 3, .ref 4, 1, 113, 0, [])), (92, (.i2l, 1, .null, 0, 0, 0, [])), (93, (.lmul, 1, .null, 0, 0, 0, [])), (94, (.invokevirtual 168, 3, .ref 4, 1, 87, 2, [])), (97, (.ireturn, 1, .null, 0, 0, 0, [])), (98, (.aload_n 0, 1, .null, 0, 0, 0, [])), (99, (.aload_n 0, 1, .null, 0, 0, 0, [])), (100, (.getfield 122, 3, .null, 4, 21, 0, [])), (103, (.ldc2_w 187, 3, .long 2, 0, 0, 0, [])), (106, (.aload_n 0, 1, .null, 0, 0, 0, [])), (107, (.invokevirtual 156, 3, .ref 4, 1, 113, 0, [])), (110, (.i2l, 1, .null, 0, 0, 0, [])), (111, (.lmul, 1, .null, 0, 0, 0, [])), (112, (.invokevirtual 168, 3, .ref 4, 1, 87, 2, [])), (115, (.ireturn, 1, .null, 0, 0, 0, [])), (116, (.aload_n 0, 1, .null, 0, 0, 0, [])), (117, (.aload_n 0, 1, .null, 0, 0, 0, [])), (118, (.getfield 125, 3, .null, 4, 22, 0, [])), (121, (.ldc2_w 187, 3, .long 2, 0, 0, 0, [])), (124, (.aload_n 0, 1, .null, 0, 0, 0, [])), (125, (.invokevirtual 156, 3, .ref 4, 1, 113, 0, [])), (128, (.i2l, 1, .null, 0, 0, 0, [])), (129, (.lmul, 1, .null, 0, 0, 0, [])), (130, (.invokevirtual 168, 3, .ref 4, 1, 87, 2, [])), (133, (.ireturn, 1, .null, 0, 0, 0, []))]
def km_X4_middle : dx_K := ((yX4_middle, cX4_middle, 4, some .int), kr_X4_middle, kp_X4)
def kr_X4_place : List (Nat × dx_I) := [(0, (.iload_n 1, 1, .null, 0, 0, 0, [])), (1, (.iconst 0, 1, .int 0, 0, 0, 0, [])), (2, (.iconst 3, 1, .int 3, 0, 0, 0, [])), (3, (.invokestatic 66, 3, .null, 2, 82, 3, [])), (6, (.ifCond .eq 61, 3, .null, 67, 0, 0, [])), (9, (.iload_n 2, 1, .null, 0, 0, 0, [])), (10, (.iconst 0, 1, .int 0, 0, 0, 0, [])), (11, (.iload_n 1, 1, .null, 0, 0, 0, [])), (12, (.iconst 2, 1, .int 2, 0, 0, 0, [])), (13, (.irem, 1, .null, 0, 0, 0, [])), (14, (.ifCond .ne 10, 3, .null, 24, 0, 0, [])), (17, (.aload_n 0, 1, .null, 0, 0, 0, [])), (18, (.getfield 77, 3, .null, 4, 4, 0, [])), (21, (.goto 7, 3, .null, 28, 0, 0, [])), (24, (.aload_n 0, 1, .null, 0, 0, 0, [])), (25, (.getfield 80, 3, .null, 4, 5, 0, [])), (28, (.iconst 1, 1, .int 1, 0, 0, 0, [])), (29, (.isub, 1, .null, 0, 0, 0, [])), (30, (.invokestatic 66, 3, .null, 2, 82, 3, [])), (33, (.ifCond .eq 34, 3, .null, 67, 0, 0, [])), (36, (.iload_n 3, 1, .null, 0, 0, 0, [])), (37, (.iconst 0, 1, .int 0, 0, 0, 0, [])), (38, (.iload_n 1, 1, .null, 0, 0, 0, [])), (39, (.iconst 2, 1, .int 2, 0, 0, 0, [])), (40, (.irem, 1, .null, 0, 0, 0, [])), (41, (.ifCond .ne 10, 3, .null, 51, 0, 0, [])), (44, (.aload_n 0, 1, .null, 0, 0, 0, [])), (45, (.getfield 80, 3, .null, 4, 5, 0, [])), (48, (.goto 7, 3, .null, 55, 0, 0, [])), (51, (.aload_n 0, 1, .null, 0, 0, 0, [])), (52, (.getfield 77, 3, .null, 4, 4, 0, [])), (55, (.iconst 1, 1, .int 1, 0, 0, 0, [])), (56, (.isub, 1, .null, 0, 0, 0, [])), (57, (.invokestatic 66, 3, .null, 2, 82, 3, [])), (60, (.ifCond .eq 7, 3, .null, 67, 0, 0, [])), (63, (.iconst 1, 1, .int 1, 0, 0, 0, [])), (64, (.goto 4, 3, .null, 68, 0, 0, [])), (67, (.iconst 0, 1, .int 0, 0, 0, 0, [])), (68, (.istore 4, 2, .null, 0, 0, 0, [])), (70, (.aload_n 0, 1, .null, 0, 0, 0, [])), (71, (.iload 4, 2, .null, 0, 0, 0, [])), (73, (.iload_n 1, 1, .null, 0, 0, 0, [])), (74, (.invokevirtual 165, 3, .ref 4, 1, 121, 2, [])), (77, (.istore 5, 2, .null, 0, 0, 0, [])), (79, (.iload 5, 2, .null, 0, 0, 0, [])), (81, (.ifCond .ge 6, 3, .null, 87, 0, 0, [])), (84, (.iload 5, 2, .null, 0, 0, 0, [])), (86, (.ireturn, 1, .null, 0, 0, 0, [])), (87, (.iload_n 3, 1, .null, 0, 0, 0, [])), (88, (.aload_n 0, 1, .null, 0, 0, 0, [])), (89, (.getfield 141, 3, .null, 4, 24, 0, [])), (92, (.if_icmp .le 7, 3, .null, 99, 0, 0, [])), (95, (.iconst 0, 1, .int 0, 0, 0, 0, [])), (96, (.goto 42, 3, .null, 138, 0, 0, [])), (99, (.aload_n 0, 1, .null, 0, 0, 0, [])), (100, (.getfield 48, 3, .null, 4, 23, 0, [])), (103, (.bipush 12, 2, .int 12, 0, 0, 0, [])), (105, (.iload_n 3, 1, .null, 0, 0, 0, [])), (106, (.imul, 1, .null, 0, 0, 0, [])), (107, (.iload_n 2, 1, .null, 0, 0, 0, [])), (108, (.iadd, 1, .null, 0, 0, 0, [])), (109, (.baload, 1, .null, 0, 0, 0, [])), (110, (.ifCond .eq 7, 3, .null, 117, 0, 0, [])), (113, (.iconst 1, 1, .int 1, 0, 0, 0, [])), (114, (.goto 24, 3, .null, 138, 0, 0, [])), (117, (.aload_n 0, 1, .null, 0, 0, 0, [])), (118, (.getfield 45, 3, .null, 4, 20, 0, [])), (121, (.bipush 12, 2, .int 12, 0, 0, 0, [])), (123, (.iload_n 3, 1, .null, 0, 0, 0, [])), (124, (.imul, 1, .null, 0, 0, 0, [])), (125, (.iload_n 2, 1, .null, 0, 0, 0, [])), (126, (.iadd, 1, .null, 0, 0, 0, [])), (127, (.iaload, 1, .null, 0, 0, 0, [])), (128, (.bipush (-9), 2, .int (-9), 0, 0, 0, [])), (130, (.if_icmp .ne 7, 3, .null, 137, 0, 0, [])), (133, (.iconst 3, 1, .int 3, 0, 0, 0, [])), (134, (.goto 4, 3, .null, 138, 0, 0, [])), (137, (.iconst 2, 1, .int 2, 0, 0, 0, [])), (138, (.ireturn, 1, .null, 0, 0, 0, []))]
def km_X4_place : dx_K := ((yX4_place, cX4_place, 6, some .int), kr_X4_place, kp_X4)
def kr_X4_lean : List (Nat × dx_I) := [(0, (.aload_n 0, 1, .null, 0, 0, 0, [])), (1, (.getfield 122, 3, .null, 4, 21, 0, [])), (4, (.aload_n 0, 1, .null, 0, 0, 0, [])), (5, (.getfield 189, 3, .null, 4, 33, 0, [])), (8, (.lmul, 1, .null, 0, 0, 0, [])), (9, (.ldc2_w 187, 3, .long 2, 0, 0, 0, [])), (12, (.aload_n 0, 1, .null, 0, 0, 0, [])), (13, (.getfield 184, 3, .null, 4, 32, 0, [])), (16, (.lmul, 1, .null, 0, 0, 0, [])), (17, (.aload_n 0, 1, .null, 0, 0, 0, [])), (18, (.getfield 51, 3, .null, 4, 6, 0, [])), (21, (.i2l, 1, .null, 0, 0, 0, [])), (22, (.lmul, 1, .null, 0, 0, 0, [])), (23, (.lsub, 1, .null, 0, 0, 0, [])), (24, (.lreturn, 1, .null, 0, 0, 0, []))]
def km_X4_lean : dx_K := ((yX4_lean, cX4_lean, 1, some .long), kr_X4_lean, kp_X4)
def kr_X4_leans : List (Nat × dx_I) := [(0, (.aload_n 0, 1, .null, 0, 0, 0, [])), (1, (.iconst 1, 1, .int 1, 0, 0, 0, [])), (2, (.iload_n 1, 1, .null, 0, 0, 0, [])), (3, (.invokevirtual 165, 3, .ref 4, 1, 121, 2, [])), (6, (.istore_n 2, 1, .null, 0, 0, 0, [])), (7, (.iload_n 2, 1, .null, 0, 0, 0, [])), (8, (.ifCond .ge 5, 3, .null, 13, 0, 0, [])), (11, (.iload_n 2, 1, .null, 0, 0, 0, [])), (12, (.ireturn, 1, .null, 0, 0, 0, [])), (13, (.aload_n 0, 1, .null, 0, 0, 0, [])), (14, (.invokevirtual 198, 3, .ref 4, 1, 126, 0, [])), (17, (.aload_n 0, 1, .null, 0, 0, 0, [])), (18, (.invokevirtual 201, 3, .ref 4, 1, 129, 0, [])), (21, (.lconst 0, 1, .long 0, 0, 0, 0, [])), (22, (.lcmp, 1, .null, 0, 0, 0, [])), (23, (.ifCond .ne 7, 3, .null, 30, 0, 0, [])), (26, (.iconst 0, 1, .int 0, 0, 0, 0, [])), (27, (.goto 17, 3, .null, 44, 0, 0, [])), (30, (.aload_n 0, 1, .null, 0, 0, 0, [])), (31, (.invokevirtual 201, 3, .ref 4, 1, 129, 0, [])), (34, (.lconst 0, 1, .long 0, 0, 0, 0, [])), (35, (.lcmp, 1, .null, 0, 0, 0, [])), (36, (.ifCond .ge 7, 3, .null, 43, 0, 0, [])), (39, (.iconst 1, 1, .int 1, 0, 0, 0, [])), (40, (.goto 4, 3, .null, 44, 0, 0, [])), (43, (.iconst 2, 1, .int 2, 0, 0, 0, [])), (44, (.ireturn, 1, .null, 0, 0, 0, []))]
def km_X4_leans : dx_K := ((yX4_leans, cX4_leans, 3, some .int), kr_X4_leans, kp_X4)
def kr_X4_layBreadth : List (Nat × dx_I) := [(0, (.lconst 0, 1, .long 0, 0, 0, 0, [])), (1, (.lstore_n 2, 1, .null, 0, 0, 0, [])), (2, (.lconst 0, 1, .long 0, 0, 0, 0, [])), (3, (.lstore 4, 2, .null, 0, 0, 0, [])), (5, (.lconst 0, 1, .long 0, 0, 0, 0, [])), (6, (.lstore 6, 2, .null, 0, 0, 0, [])), (8, (.iconst 0, 1, .int 0, 0, 0, 0, [])), (9, (.istore 8, 2, .null, 0, 0, 0, [])), (11, (.iload 8, 2, .null, 0, 0, 0, [])), (13, (.aload_n 0, 1, .null, 0, 0, 0, [])), (14, (.getfield 116, 3, .null, 4, 18, 0, [])), (17, (.if_icmp .ge 68, 3, .null, 85, 0, 0, [])), (20, (.aload_n 0, 1, .null, 0, 0, 0, [])), (21, (.getfield 48, 3, .null, 4, 23, 0, [])), (24, (.bipush 12, 2, .int 12, 0, 0, 0, [])), (26, (.iload_n 1, 1, .null, 0, 0, 0, [])), (27, (.imul, 1, .null, 0, 0, 0, [])), (28, (.iload 8, 2, .null, 0, 0, 0, [])), (30, (.iadd, 1, .null, 0, 0, 0, [])), (31, (.baload, 1, .null, 0, 0, 0, [])), (32, (.ifCond .ne 47, 3, .null, 79, 0, 0, [])), (35, (.lload_n 2, 1, .null, 0, 0, 0, [])), (36, (.lconst 1, 1, .long 1, 0, 0, 0, [])), (37, (.ladd, 1, .null, 0, 0, 0, [])), (38, (.lstore_n 2, 1, .null, 0, 0, 0, [])), (39, (.lload 4, 2, .null, 0, 0, 0, [])), (41, (.ldc2_w 205, 3, .long 3, 0, 0, 0, [])), (44, (.iload 8, 2, .null, 0, 0, 0, [])), (46, (.i2l, 1, .null, 0, 0, 0, [])), (47, (.lmul, 1, .null, 0, 0, 0, [])), (48, (.iload 8, 2, .null, 0, 0, 0, [])), (50, (.i2l, 1, .null, 0, 0, 0, [])), (51, (.lmul, 1, .null, 0, 0, 0, [])), (52, (.ldc2_w 205, 3, .long 3, 0, 0, 0, [])), (55, (.iload 8, 2, .null, 0, 0, 0, [])), (57, (.i2l, 1, .null, 0, 0, 0, [])), (58, (.lmul, 1, .null, 0, 0, 0, [])), (59, (.ladd, 1, .null, 0, 0, 0, [])), (60, (.lconst 1, 1, .long 1, 0, 0, 0, [])), (61, (.ladd, 1, .null, 0, 0, 0, [])), (62, (.ladd, 1, .null, 0, 0, 0, [])), (63, (.lstore 4, 2, .null, 0, 0, 0, [])), (65, (.lload 6, 2, .null, 0, 0, 0, [])), (67, (.ldc2_w 187, 3, .long 2, 0, 0, 0, [])), (70, (.iload 8, 2, .null, 0, 0, 0, [])), (72, (.i2l, 1, .null, 0, 0, 0, [])), (73, (.lmul, 1, .null, 0, 0, 0, [])), (74, (.lconst 1, 1, .long 1, 0, 0, 0, [])), (75, (.ladd, 1, .null, 0, 0, 0, [])), (76, (.ladd, 1, .null, 0, 0, 0, [])), (77, (.lstore 6, 2, .null, 0, 0, 0, [])), (79, (.iinc 8 1, 3, .int 1, 0, 0, 0, [])), (82, (.goto (-71), 3, .null, 11, 0, 0, [])), (85, (.aload_n 0, 1, .null, 0, 0, 0, [])), (86, (.lload_n 2, 1, .null, 0, 0, 0, [])), (87, (.lconst 0, 1, .long 0, 0, 0, 0, [])), (88, (.lcmp, 1, .null, 0, 0, 0, [])), (89, (.ifCond .ne 7, 3, .null, 96, 0, 0, [])), (92, (.lconst 0, 1, .long 0, 0, 0, 0, [])), (93, (.goto 21, 3, .null, 114, 0, 0, [])), (96, (.ldc2_w 207, 3, .long 4, 0, 0, 0, [])), (99, (.lload_n 2, 1, .null, 0, 0, 0, [])), (100, (.lmul, 1, .null, 0, 0, 0, [])), (101, (.lload 4, 2, .null, 0, 0, 0, [])), (103, (.lmul, 1, .null, 0, 0, 0, [])), (104, (.ldc2_w 205, 3, .long 3, 0, 0, 0, [])), (107, (.lload 6, 2, .null, 0, 0, 0, [])), (109, (.lmul, 1, .null, 0, 0, 0, [])), (110, (.lload 6, 2, .null, 0, 0, 0, [])), (112, (.lmul, 1, .null, 0, 0, 0, [])), (113, (.lsub, 1, .null, 0, 0, 0, [])), (114, (.putfield 209, 3, .null, 4, 36, 0, [])), (117, (.aload_n 0, 1, .null, 0, 0, 0, [])), (118, (.lload_n 2, 1, .null, 0, 0, 0, [])), (119, (.lconst 0, 1, .long 0, 0, 0, 0, [])), (120, (.lcmp, 1, .null, 0, 0, 0, [])), (121, (.ifCond .ne 7, 3, .null, 128, 0, 0, [])), (124, (.lconst 1, 1, .long 1, 0, 0, 0, [])), (125, (.goto 8, 3, .null, 133, 0, 0, [])), (128, (.ldc2_w 212, 3, .long 12, 0, 0, 0, [])), (131, (.lload_n 2, 1, .null, 0, 0, 0, [])), (132, (.lmul, 1, .null, 0, 0, 0, [])), (133, (.putfield 214, 3, .null, 4, 37, 0, [])), (136, (.return_, 1, .null, 0, 0, 0, []))]
def km_X4_layBreadth : dx_K := ((yX4_layBreadth, cX4_layBreadth, 9, none), kr_X4_layBreadth, kp_X4)
def kr_X4_leastBreadth : List (Nat × dx_I) := [(0, (.aload_n 0, 1, .null, 0, 0, 0, [])), (1, (.aload_n 0, 1, .null, 0, 0, 0, [])), (2, (.getfield 141, 3, .null, 4, 24, 0, [])), (5, (.invokevirtual 217, 3, .ref 4, 1, 131, 1, [])), (8, (.aload_n 0, 1, .null, 0, 0, 0, [])), (9, (.getfield 150, 3, .null, 4, 25, 0, [])), (12, (.aload_n 0, 1, .null, 0, 0, 0, [])), (13, (.getfield 153, 3, .null, 4, 26, 0, [])), (16, (.lcmp, 1, .null, 0, 0, 0, [])), (17, (.ifCond .ne 80, 3, .null, 97, 0, 0, [])), (20, (.aload_n 0, 1, .null, 0, 0, 0, [])), (21, (.getfield 141, 3, .null, 4, 24, 0, [])), (24, (.iconst 1, 1, .int 1, 0, 0, 0, [])), (25, (.iadd, 1, .null, 0, 0, 0, [])), (26, (.aload_n 0, 1, .null, 0, 0, 0, [])), (27, (.getfield 119, 3, .null, 4, 19, 0, [])), (30, (.if_icmp .ge 67, 3, .null, 97, 0, 0, [])), (33, (.aload_n 0, 1, .null, 0, 0, 0, [])), (34, (.getfield 209, 3, .null, 4, 36, 0, [])), (37, (.lstore_n 1, 1, .null, 0, 0, 0, [])), (38, (.aload_n 0, 1, .null, 0, 0, 0, [])), (39, (.getfield 214, 3, .null, 4, 37, 0, [])), (42, (.lstore_n 3, 1, .null, 0, 0, 0, [])), (43, (.aload_n 0, 1, .null, 0, 0, 0, [])), (44, (.aload_n 0, 1, .null, 0, 0, 0, [])), (45, (.getfield 141, 3, .null, 4, 24, 0, [])), (48, (.iconst 1, 1, .int 1, 0, 0, 0, [])), (49, (.iadd, 1, .null, 0, 0, 0, [])), (50, (.invokevirtual 134, 3, .ref 4, 1, 117, 1, [])), (53, (.aload_n 0, 1, .null, 0, 0, 0, [])), (54, (.aload_n 0, 1, .null, 0, 0, 0, [])), (55, (.getfield 141, 3, .null, 4, 24, 0, [])), (58, (.iconst 1, 1, .int 1, 0, 0, 0, [])), (59, (.iadd, 1, .null, 0, 0, 0, [])), (60, (.invokevirtual 217, 3, .ref 4, 1, 131, 1, [])), (63, (.aload_n 0, 1, .null, 0, 0, 0, [])), (64, (.aload_n 0, 1, .null, 0, 0, 0, [])), (65, (.getfield 141, 3, .null, 4, 24, 0, [])), (68, (.invokevirtual 134, 3, .ref 4, 1, 117, 1, [])), (71, (.lload_n 1, 1, .null, 0, 0, 0, [])), (72, (.aload_n 0, 1, .null, 0, 0, 0, [])), (73, (.getfield 214, 3, .null, 4, 37, 0, [])), (76, (.lmul, 1, .null, 0, 0, 0, [])), (77, (.aload_n 0, 1, .null, 0, 0, 0, [])), (78, (.getfield 209, 3, .null, 4, 36, 0, [])), (81, (.lload_n 3, 1, .null, 0, 0, 0, [])), (82, (.lmul, 1, .null, 0, 0, 0, [])), (83, (.lcmp, 1, .null, 0, 0, 0, [])), (84, (.ifCond .ge 13, 3, .null, 97, 0, 0, [])), (87, (.aload_n 0, 1, .null, 0, 0, 0, [])), (88, (.lload_n 1, 1, .null, 0, 0, 0, [])), (89, (.putfield 209, 3, .null, 4, 36, 0, [])), (92, (.aload_n 0, 1, .null, 0, 0, 0, [])), (93, (.lload_n 3, 1, .null, 0, 0, 0, [])), (94, (.putfield 214, 3, .null, 4, 37, 0, [])), (97, (.return_, 1, .null, 0, 0, 0, []))]
def km_X4_leastBreadth : dx_K := ((yX4_leastBreadth, cX4_leastBreadth, 5, none), kr_X4_leastBreadth, kp_X4)
def kr_X4_breadth : List (Nat × dx_I) := [(0, (.aload_n 0, 1, .null, 0, 0, 0, [])), (1, (.iconst 1, 1, .int 1, 0, 0, 0, [])), (2, (.iload_n 1, 1, .null, 0, 0, 0, [])), (3, (.invokevirtual 165, 3, .ref 4, 1, 121, 2, [])), (6, (.istore_n 2, 1, .null, 0, 0, 0, [])), (7, (.iload_n 2, 1, .null, 0, 0, 0, [])), (8, (.ifCond .ge 5, 3, .null, 13, 0, 0, [])), (11, (.iload_n 2, 1, .null, 0, 0, 0, [])), (12, (.ireturn, 1, .null, 0, 0, 0, [])), (13, (.aload_n 0, 1, .null, 0, 0, 0, [])), (14, (.invokevirtual 220, 3, .ref 4, 1, 132, 0, [])), (17, (.aload_n 0, 1, .null, 0, 0, 0, [])), (18, (.aload_n 0, 1, .null, 0, 0, 0, [])), (19, (.getfield 209, 3, .null, 4, 36, 0, [])), (22, (.aload_n 0, 1, .null, 0, 0, 0, [])), (23, (.getfield 214, 3, .null, 4, 37, 0, [])), (26, (.invokevirtual 168, 3, .ref 4, 1, 87, 2, [])), (29, (.ireturn, 1, .null, 0, 0, 0, []))]
def km_X4_breadth : dx_K := ((yX4_breadth, cX4_breadth, 3, some .int), kr_X4_breadth, kp_X4)
def kr_X4_holdsNow : List (Nat × dx_I) := [(0, (.aload_n 0, 1, .null, 0, 0, 0, [])), (1, (.invokevirtual 198, 3, .ref 4, 1, 126, 0, [])), (4, (.aload_n 0, 1, .null, 0, 0, 0, [])), (5, (.invokevirtual 201, 3, .ref 4, 1, 129, 0, [])), (8, (.lconst 0, 1, .long 0, 0, 0, 0, [])), (9, (.lcmp, 1, .null, 0, 0, 0, [])), (10, (.ifCond .eq 5, 3, .null, 15, 0, 0, [])), (13, (.iconst 0, 1, .int 0, 0, 0, 0, [])), (14, (.ireturn, 1, .null, 0, 0, 0, [])), (15, (.aload_n 0, 1, .null, 0, 0, 0, [])), (16, (.invokevirtual 220, 3, .ref 4, 1, 132, 0, [])), (19, (.aload_n 0, 1, .null, 0, 0, 0, [])), (20, (.getfield 125, 3, .null, 4, 22, 0, [])), (23, (.aload_n 0, 1, .null, 0, 0, 0, [])), (24, (.getfield 195, 3, .null, 4, 35, 0, [])), (27, (.lmul, 1, .null, 0, 0, 0, [])), (28, (.ldc2_w 187, 3, .long 2, 0, 0, 0, [])), (31, (.aload_n 0, 1, .null, 0, 0, 0, [])), (32, (.getfield 51, 3, .null, 4, 6, 0, [])), (35, (.i2l, 1, .null, 0, 0, 0, [])), (36, (.lmul, 1, .null, 0, 0, 0, [])), (37, (.aload_n 0, 1, .null, 0, 0, 0, [])), (38, (.getfield 192, 3, .null, 4, 34, 0, [])), (41, (.lmul, 1, .null, 0, 0, 0, [])), (42, (.lsub, 1, .null, 0, 0, 0, [])), (43, (.lstore_n 1, 1, .null, 0, 0, 0, [])), (44, (.ldc2_w 187, 3, .long 2, 0, 0, 0, [])), (47, (.aload_n 0, 1, .null, 0, 0, 0, [])), (48, (.getfield 51, 3, .null, 4, 6, 0, [])), (51, (.i2l, 1, .null, 0, 0, 0, [])), (52, (.lmul, 1, .null, 0, 0, 0, [])), (53, (.aload_n 0, 1, .null, 0, 0, 0, [])), (54, (.getfield 195, 3, .null, 4, 35, 0, [])), (57, (.lmul, 1, .null, 0, 0, 0, [])), (58, (.lstore_n 3, 1, .null, 0, 0, 0, [])), (59, (.lload_n 1, 1, .null, 0, 0, 0, [])), (60, (.lload_n 3, 1, .null, 0, 0, 0, [])), (61, (.invokestatic 70, 3, .null, 2, 86, 2, [])), (64, (.lstore 5, 2, .null, 0, 0, 0, [])), (66, (.aload_n 0, 1, .null, 0, 0, 0, [])), (67, (.getfield 209, 3, .null, 4, 36, 0, [])), (70, (.lload_n 3, 1, .null, 0, 0, 0, [])), (71, (.lload 5, 2, .null, 0, 0, 0, [])), (73, (.ldiv, 1, .null, 0, 0, 0, [])), (74, (.lmul, 1, .null, 0, 0, 0, [])), (75, (.lstore 7, 2, .null, 0, 0, 0, [])), (77, (.lload_n 1, 1, .null, 0, 0, 0, [])), (78, (.lload 5, 2, .null, 0, 0, 0, [])), (80, (.ldiv, 1, .null, 0, 0, 0, [])), (81, (.aload_n 0, 1, .null, 0, 0, 0, [])), (82, (.getfield 214, 3, .null, 4, 37, 0, [])), (85, (.lmul, 1, .null, 0, 0, 0, [])), (86, (.lstore 9, 2, .null, 0, 0, 0, [])), (88, (.lload 7, 2, .null, 0, 0, 0, [])), (90, (.lload 9, 2, .null, 0, 0, 0, [])), (92, (.lcmp, 1, .null, 0, 0, 0, [])), (93, (.ifCond .le 7, 3, .null, 100, 0, 0, [])), (96, (.iconst 2, 1, .int 2, 0, 0, 0, [])), (97, (.goto 16, 3, .null, 113, 0, 0, [])), (100, (.lload 7, 2, .null, 0, 0, 0, [])), (102, (.lload 9, 2, .null, 0, 0, 0, [])), (104, (.lcmp, 1, .null, 0, 0, 0, [])), (105, (.ifCond .ne 7, 3, .null, 112, 0, 0, [])), (108, (.iconst 1, 1, .int 1, 0, 0, 0, [])), (109, (.goto 4, 3, .null, 113, 0, 0, [])), (112, (.iconst 0, 1, .int 0, 0, 0, 0, [])), (113, (.ireturn, 1, .null, 0, 0, 0, []))]
def km_X4_holdsNow : dx_K := ((yX4_holdsNow, cX4_holdsNow, 11, some .int), kr_X4_holdsNow, kp_X4)
def kr_X4_holds : List (Nat × dx_I) := [(0, (.aload_n 0, 1, .null, 0, 0, 0, [])), (1, (.iconst 1, 1, .int 1, 0, 0, 0, [])), (2, (.iload_n 1, 1, .null, 0, 0, 0, [])), (3, (.invokevirtual 165, 3, .ref 4, 1, 121, 2, [])), (6, (.istore_n 2, 1, .null, 0, 0, 0, [])), (7, (.iload_n 2, 1, .null, 0, 0, 0, [])), (8, (.ifCond .ge 7, 3, .null, 15, 0, 0, [])), (11, (.iload_n 2, 1, .null, 0, 0, 0, [])), (12, (.goto 7, 3, .null, 19, 0, 0, [])), (15, (.aload_n 0, 1, .null, 0, 0, 0, [])), (16, (.invokevirtual 223, 3, .ref 4, 1, 134, 0, [])), (19, (.ireturn, 1, .null, 0, 0, 0, []))]
def km_X4_holds : dx_K := ((yX4_holds, cX4_holds, 3, some .int), kr_X4_holds, kp_X4)
def kr_X4_rests : List (Nat × dx_I) := [(0, (.iconst 0, 1, .int 0, 0, 0, 0, [])), (1, (.istore_n 1, 1, .null, 0, 0, 0, [])), (2, (.iconst 0, 1, .int 0, 0, 0, 0, [])), (3, (.istore_n 2, 1, .null, 0, 0, 0, [])), (4, (.iload_n 2, 1, .null, 0, 0, 0, [])), (5, (.iconst 4, 1, .int 4, 0, 0, 0, [])), (6, (.if_icmp .ge 48, 3, .null, 54, 0, 0, [])), (9, (.aload_n 0, 1, .null, 0, 0, 0, [])), (10, (.iconst 1, 1, .int 1, 0, 0, 0, [])), (11, (.iload_n 2, 1, .null, 0, 0, 0, [])), (12, (.invokevirtual 165, 3, .ref 4, 1, 121, 2, [])), (15, (.istore_n 3, 1, .null, 0, 0, 0, [])), (16, (.iload_n 3, 1, .null, 0, 0, 0, [])), (17, (.bipush (-4), 2, .int (-4), 0, 0, 0, [])), (19, (.if_icmp .ne 6, 3, .null, 25, 0, 0, [])), (22, (.bipush (-4), 2, .int (-4), 0, 0, 0, [])), (24, (.ireturn, 1, .null, 0, 0, 0, [])), (25, (.iload_n 1, 1, .null, 0, 0, 0, [])), (26, (.iload_n 3, 1, .null, 0, 0, 0, [])), (27, (.iconst 1, 1, .int 1, 0, 0, 0, [])), (28, (.if_icmp .ne 17, 3, .null, 45, 0, 0, [])), (31, (.aload_n 0, 1, .null, 0, 0, 0, [])), (32, (.invokevirtual 223, 3, .ref 4, 1, 134, 0, [])), (35, (.iconst 2, 1, .int 2, 0, 0, 0, [])), (36, (.if_icmp .ne 9, 3, .null, 45, 0, 0, [])), (39, (.iconst 1, 1, .int 1, 0, 0, 0, [])), (40, (.iload_n 2, 1, .null, 0, 0, 0, [])), (41, (.ishl, 1, .null, 0, 0, 0, [])), (42, (.goto 4, 3, .null, 46, 0, 0, [])), (45, (.iconst 0, 1, .int 0, 0, 0, 0, [])), (46, (.ior, 1, .null, 0, 0, 0, [])), (47, (.istore_n 1, 1, .null, 0, 0, 0, [])), (48, (.iinc 2 1, 3, .int 1, 0, 0, 0, [])), (51, (.goto (-47), 3, .null, 4, 0, 0, [])), (54, (.iload_n 1, 1, .null, 0, 0, 0, [])), (55, (.ireturn, 1, .null, 0, 0, 0, []))]
def km_X4_rests : dx_K := ((yX4_rests, cX4_rests, 4, some .int), kr_X4_rests, kp_X4)
def kr_X4_mostRoom : List (Nat × dx_I) := [(0, (.iconst 0, 1, .int 0, 0, 0, 0, [])), (1, (.istore_n 1, 1, .null, 0, 0, 0, [])), (2, (.iconst 0, 1, .int 0, 0, 0, 0, [])), (3, (.istore_n 2, 1, .null, 0, 0, 0, [])), (4, (.iload_n 2, 1, .null, 0, 0, 0, [])), (5, (.aload_n 0, 1, .null, 0, 0, 0, [])), (6, (.getfield 119, 3, .null, 4, 19, 0, [])), (9, (.if_icmp .ge 33, 3, .null, 42, 0, 0, [])), (12, (.aload_n 0, 1, .null, 0, 0, 0, [])), (13, (.iload_n 2, 1, .null, 0, 0, 0, [])), (14, (.invokevirtual 134, 3, .ref 4, 1, 117, 1, [])), (17, (.aload_n 0, 1, .null, 0, 0, 0, [])), (18, (.iload_n 2, 1, .null, 0, 0, 0, [])), (19, (.iconst 1, 1, .int 1, 0, 0, 0, [])), (20, (.iadd, 1, .null, 0, 0, 0, [])), (21, (.invokevirtual 138, 3, .ref 4, 1, 119, 1, [])), (24, (.istore_n 3, 1, .null, 0, 0, 0, [])), (25, (.iload_n 3, 1, .null, 0, 0, 0, [])), (26, (.iload_n 1, 1, .null, 0, 0, 0, [])), (27, (.if_icmp .le 7, 3, .null, 34, 0, 0, [])), (30, (.iload_n 3, 1, .null, 0, 0, 0, [])), (31, (.goto 4, 3, .null, 35, 0, 0, [])), (34, (.iload_n 1, 1, .null, 0, 0, 0, [])), (35, (.istore_n 1, 1, .null, 0, 0, 0, [])), (36, (.iinc 2 1, 3, .int 1, 0, 0, 0, [])), (39, (.goto (-35), 3, .null, 4, 0, 0, [])), (42, (.iload_n 1, 1, .null, 0, 0, 0, [])), (43, (.ireturn, 1, .null, 0, 0, 0, []))]
def km_X4_mostRoom : dx_K := ((yX4_mostRoom, cX4_mostRoom, 4, some .int), kr_X4_mostRoom, kp_X4)
def kr_X4_carries : List (Nat × dx_I) := [(0, (.iload_n 1, 1, .null, 0, 0, 0, [])), (1, (.iconst 0, 1, .int 0, 0, 0, 0, [])), (2, (.iconst 3, 1, .int 3, 0, 0, 0, [])), (3, (.invokestatic 66, 3, .null, 2, 82, 3, [])), (6, (.ifCond .ne 5, 3, .null, 11, 0, 0, [])), (9, (.iconst (-1), 1, .int (-1), 0, 0, 0, [])), (10, (.ireturn, 1, .null, 0, 0, 0, [])), (11, (.aload_n 0, 1, .null, 0, 0, 0, [])), (12, (.invokevirtual 113, 3, .ref 4, 1, 111, 0, [])), (15, (.ifCond .ne 6, 3, .null, 21, 0, 0, [])), (18, (.bipush (-4), 2, .int (-4), 0, 0, 0, [])), (20, (.ireturn, 1, .null, 0, 0, 0, [])), (21, (.aload_n 0, 1, .null, 0, 0, 0, [])), (22, (.iload_n 1, 1, .null, 0, 0, 0, [])), (23, (.invokevirtual 159, 3, .ref 4, 1, 115, 1, [])), (26, (.aload_n 0, 1, .null, 0, 0, 0, [])), (27, (.invokevirtual 226, 3, .ref 4, 1, 137, 0, [])), (30, (.aload_n 0, 1, .null, 0, 0, 0, [])), (31, (.getfield 51, 3, .null, 4, 6, 0, [])), (34, (.imul, 1, .null, 0, 0, 0, [])), (35, (.aload_n 0, 1, .null, 0, 0, 0, [])), (36, (.invokevirtual 156, 3, .ref 4, 1, 113, 0, [])), (39, (.isub, 1, .null, 0, 0, 0, [])), (40, (.istore_n 2, 1, .null, 0, 0, 0, [])), (41, (.iload_n 2, 1, .null, 0, 0, 0, [])), (42, (.ifCond .ge 8, 3, .null, 50, 0, 0, [])), (45, (.bipush (-5), 2, .int (-5), 0, 0, 0, [])), (47, (.goto 4, 3, .null, 51, 0, 0, [])), (50, (.iload_n 2, 1, .null, 0, 0, 0, [])), (51, (.ireturn, 1, .null, 0, 0, 0, []))]
def km_X4_carries : dx_K := ((yX4_carries, cX4_carries, 3, some .int), kr_X4_carries, kp_X4)
def kr_X4_trim : List (Nat × dx_I) := [(0, (.iload_n 1, 1, .null, 0, 0, 0, [])), (1, (.iconst 0, 1, .int 0, 0, 0, 0, [])), (2, (.iconst 3, 1, .int 3, 0, 0, 0, [])), (3, (.invokestatic 66, 3, .null, 2, 82, 3, [])), (6, (.ifCond .eq 14, 3, .null, 20, 0, 0, [])), (9, (.iload_n 2, 1, .null, 0, 0, 0, [])), (10, (.iconst 1, 1, .int 1, 0, 0, 0, [])), (11, (.sipush 2000, 3, .int 2000, 0, 0, 0, [])), (14, (.invokestatic 66, 3, .null, 2, 82, 3, [])), (17, (.ifCond .ne 5, 3, .null, 22, 0, 0, [])), (20, (.iconst (-1), 1, .int (-1), 0, 0, 0, [])), (21, (.ireturn, 1, .null, 0, 0, 0, [])), (22, (.aload_n 0, 1, .null, 0, 0, 0, [])), (23, (.invokevirtual 113, 3, .ref 4, 1, 111, 0, [])), (26, (.ifCond .ne 6, 3, .null, 32, 0, 0, [])), (29, (.bipush (-4), 2, .int (-4), 0, 0, 0, [])), (31, (.ireturn, 1, .null, 0, 0, 0, [])), (32, (.aload_n 0, 1, .null, 0, 0, 0, [])), (33, (.iload_n 1, 1, .null, 0, 0, 0, [])), (34, (.invokevirtual 159, 3, .ref 4, 1, 115, 1, [])), (37, (.aload_n 0, 1, .null, 0, 0, 0, [])), (38, (.aload_n 0, 1, .null, 0, 0, 0, [])), (39, (.invokevirtual 156, 3, .ref 4, 1, 113, 0, [])), (42, (.iload_n 2, 1, .null, 0, 0, 0, [])), (43, (.iadd, 1, .null, 0, 0, 0, [])), (44, (.invokevirtual 162, 3, .ref 4, 1, 120, 1, [])), (47, (.ifCond .ne 6, 3, .null, 53, 0, 0, [])), (50, (.bipush (-5), 2, .int (-5), 0, 0, 0, [])), (52, (.ireturn, 1, .null, 0, 0, 0, [])), (53, (.aload_n 0, 1, .null, 0, 0, 0, [])), (54, (.invokevirtual 198, 3, .ref 4, 1, 126, 0, [])), (57, (.aload_n 0, 1, .null, 0, 0, 0, [])), (58, (.ldc2_w 187, 3, .long 2, 0, 0, 0, [])), (61, (.aload_n 0, 1, .null, 0, 0, 0, [])), (62, (.getfield 184, 3, .null, 4, 32, 0, [])), (65, (.lmul, 1, .null, 0, 0, 0, [])), (66, (.aload_n 0, 1, .null, 0, 0, 0, [])), (67, (.getfield 51, 3, .null, 4, 6, 0, [])), (70, (.i2l, 1, .null, 0, 0, 0, [])), (71, (.lmul, 1, .null, 0, 0, 0, [])), (72, (.aload_n 0, 1, .null, 0, 0, 0, [])), (73, (.getfield 122, 3, .null, 4, 21, 0, [])), (76, (.aload_n 0, 1, .null, 0, 0, 0, [])), (77, (.getfield 189, 3, .null, 4, 33, 0, [])), (80, (.lmul, 1, .null, 0, 0, 0, [])), (81, (.lsub, 1, .null, 0, 0, 0, [])), (82, (.ldc2_w 187, 3, .long 2, 0, 0, 0, [])), (85, (.aload_n 0, 1, .null, 0, 0, 0, [])), (86, (.getfield 189, 3, .null, 4, 33, 0, [])), (89, (.lmul, 1, .null, 0, 0, 0, [])), (90, (.iload_n 2, 1, .null, 0, 0, 0, [])), (91, (.i2l, 1, .null, 0, 0, 0, [])), (92, (.lmul, 1, .null, 0, 0, 0, [])), (93, (.invokevirtual 168, 3, .ref 4, 1, 87, 2, [])), (96, (.ireturn, 1, .null, 0, 0, 0, []))]
def km_X4_trim : dx_K := ((yX4_trim, cX4_trim, 3, some .int), kr_X4_trim, kp_X4)
def kr_X4_room : List (Nat × dx_I) := [(0, (.iload_n 1, 1, .null, 0, 0, 0, [])), (1, (.iconst 0, 1, .int 0, 0, 0, 0, [])), (2, (.iconst 3, 1, .int 3, 0, 0, 0, [])), (3, (.invokestatic 66, 3, .null, 2, 82, 3, [])), (6, (.ifCond .eq 46, 3, .null, 52, 0, 0, [])), (9, (.iload_n 2, 1, .null, 0, 0, 0, [])), (10, (.iconst 0, 1, .int 0, 0, 0, 0, [])), (11, (.bipush 24, 2, .int 24, 0, 0, 0, [])), (13, (.invokestatic 66, 3, .null, 2, 82, 3, [])), (16, (.ifCond .eq 36, 3, .null, 52, 0, 0, [])), (19, (.iload_n 3, 1, .null, 0, 0, 0, [])), (20, (.iconst 1, 1, .int 1, 0, 0, 0, [])), (21, (.bipush 12, 2, .int 12, 0, 0, 0, [])), (23, (.invokestatic 66, 3, .null, 2, 82, 3, [])), (26, (.ifCond .eq 26, 3, .null, 52, 0, 0, [])), (29, (.iload_n 2, 1, .null, 0, 0, 0, [])), (30, (.iload_n 3, 1, .null, 0, 0, 0, [])), (31, (.iload_n 1, 1, .null, 0, 0, 0, [])), (32, (.iconst 2, 1, .int 2, 0, 0, 0, [])), (33, (.irem, 1, .null, 0, 0, 0, [])), (34, (.ifCond .ne 10, 3, .null, 44, 0, 0, [])), (37, (.aload_n 0, 1, .null, 0, 0, 0, [])), (38, (.getfield 80, 3, .null, 4, 5, 0, [])), (41, (.goto 7, 3, .null, 48, 0, 0, [])), (44, (.aload_n 0, 1, .null, 0, 0, 0, [])), (45, (.getfield 77, 3, .null, 4, 4, 0, [])), (48, (.imul, 1, .null, 0, 0, 0, [])), (49, (.if_icmp .le 5, 3, .null, 54, 0, 0, [])), (52, (.iconst (-1), 1, .int (-1), 0, 0, 0, [])), (53, (.ireturn, 1, .null, 0, 0, 0, [])), (54, (.iload_n 2, 1, .null, 0, 0, 0, [])), (55, (.ifCond .ne 10, 3, .null, 65, 0, 0, [])), (58, (.aload_n 0, 1, .null, 0, 0, 0, [])), (59, (.lconst 0, 1, .long 0, 0, 0, 0, [])), (60, (.lconst 1, 1, .long 1, 0, 0, 0, [])), (61, (.invokevirtual 168, 3, .ref 4, 1, 87, 2, [])), (64, (.ireturn, 1, .null, 0, 0, 0, [])), (65, (.aload_n 0, 1, .null, 0, 0, 0, [])), (66, (.iload_n 1, 1, .null, 0, 0, 0, [])), (67, (.invokevirtual 159, 3, .ref 4, 1, 115, 1, [])), (70, (.iload_n 2, 1, .null, 0, 0, 0, [])), (71, (.iconst 1, 1, .int 1, 0, 0, 0, [])), (72, (.isub, 1, .null, 0, 0, 0, [])), (73, (.iload_n 3, 1, .null, 0, 0, 0, [])), (74, (.idiv, 1, .null, 0, 0, 0, [])), (75, (.istore 4, 2, .null, 0, 0, 0, [])), (77, (.aload_n 0, 1, .null, 0, 0, 0, [])), (78, (.iload 4, 2, .null, 0, 0, 0, [])), (80, (.invokevirtual 134, 3, .ref 4, 1, 117, 1, [])), (83, (.aload_n 0, 1, .null, 0, 0, 0, [])), (84, (.aload_n 0, 1, .null, 0, 0, 0, [])), (85, (.iload 4, 2, .null, 0, 0, 0, [])), (87, (.invokevirtual 138, 3, .ref 4, 1, 119, 1, [])), (90, (.i2l, 1, .null, 0, 0, 0, [])), (91, (.iload_n 3, 1, .null, 0, 0, 0, [])), (92, (.i2l, 1, .null, 0, 0, 0, [])), (93, (.lmul, 1, .null, 0, 0, 0, [])), (94, (.iload_n 2, 1, .null, 0, 0, 0, [])), (95, (.iload 4, 2, .null, 0, 0, 0, [])), (97, (.iload_n 3, 1, .null, 0, 0, 0, [])), (98, (.imul, 1, .null, 0, 0, 0, [])), (99, (.isub, 1, .null, 0, 0, 0, [])), (100, (.i2l, 1, .null, 0, 0, 0, [])), (101, (.aload_n 0, 1, .null, 0, 0, 0, [])), (102, (.iload 4, 2, .null, 0, 0, 0, [])), (104, (.invokevirtual 131, 3, .ref 4, 1, 118, 1, [])), (107, (.i2l, 1, .null, 0, 0, 0, [])), (108, (.lmul, 1, .null, 0, 0, 0, [])), (109, (.ladd, 1, .null, 0, 0, 0, [])), (110, (.iload_n 3, 1, .null, 0, 0, 0, [])), (111, (.i2l, 1, .null, 0, 0, 0, [])), (112, (.invokevirtual 168, 3, .ref 4, 1, 87, 2, [])), (115, (.ireturn, 1, .null, 0, 0, 0, []))]
def km_X4_room : dx_K := ((yX4_room, cX4_room, 5, some .int), kr_X4_room, kp_X4)
def kr_X4_count : List (Nat × dx_I) := [(0, (.iconst 0, 1, .int 0, 0, 0, 0, [])), (1, (.istore_n 2, 1, .null, 0, 0, 0, [])), (2, (.iconst 0, 1, .int 0, 0, 0, 0, [])), (3, (.istore_n 3, 1, .null, 0, 0, 0, [])), (4, (.iload_n 3, 1, .null, 0, 0, 0, [])), (5, (.aload_n 0, 1, .null, 0, 0, 0, [])), (6, (.getfield 83, 3, .null, 4, 11, 0, [])), (9, (.if_icmp .ge 26, 3, .null, 35, 0, 0, [])), (12, (.iload_n 2, 1, .null, 0, 0, 0, [])), (13, (.aload_n 0, 1, .null, 0, 0, 0, [])), (14, (.getfield 41, 3, .null, 4, 17, 0, [])), (17, (.iload_n 3, 1, .null, 0, 0, 0, [])), (18, (.baload, 1, .null, 0, 0, 0, [])), (19, (.ifCond .eq 7, 3, .null, 26, 0, 0, [])), (22, (.iconst 0, 1, .int 0, 0, 0, 0, [])), (23, (.goto 4, 3, .null, 27, 0, 0, [])), (26, (.iconst 1, 1, .int 1, 0, 0, 0, [])), (27, (.iadd, 1, .null, 0, 0, 0, [])), (28, (.istore_n 2, 1, .null, 0, 0, 0, [])), (29, (.iinc 3 1, 3, .int 1, 0, 0, 0, [])), (32, (.goto (-28), 3, .null, 4, 0, 0, [])), (35, (.iload_n 1, 1, .null, 0, 0, 0, [])), (36, (.ifCond .ne 10, 3, .null, 46, 0, 0, [])), (39, (.aload_n 0, 1, .null, 0, 0, 0, [])), (40, (.getfield 77, 3, .null, 4, 4, 0, [])), (43, (.goto 49, 3, .null, 92, 0, 0, [])), (46, (.iload_n 1, 1, .null, 0, 0, 0, [])), (47, (.iconst 1, 1, .int 1, 0, 0, 0, [])), (48, (.if_icmp .ne 10, 3, .null, 58, 0, 0, [])), (51, (.aload_n 0, 1, .null, 0, 0, 0, [])), (52, (.getfield 80, 3, .null, 4, 5, 0, [])), (55, (.goto 37, 3, .null, 92, 0, 0, [])), (58, (.iload_n 1, 1, .null, 0, 0, 0, [])), (59, (.iconst 2, 1, .int 2, 0, 0, 0, [])), (60, (.if_icmp .ne 10, 3, .null, 70, 0, 0, [])), (63, (.aload_n 0, 1, .null, 0, 0, 0, [])), (64, (.invokevirtual 113, 3, .ref 4, 1, 111, 0, [])), (67, (.goto 25, 3, .null, 92, 0, 0, [])), (70, (.iload_n 1, 1, .null, 0, 0, 0, [])), (71, (.iconst 3, 1, .int 3, 0, 0, 0, [])), (72, (.if_icmp .ne 10, 3, .null, 82, 0, 0, [])), (75, (.aload_n 0, 1, .null, 0, 0, 0, [])), (76, (.getfield 83, 3, .null, 4, 11, 0, [])), (79, (.goto 13, 3, .null, 92, 0, 0, [])), (82, (.iload_n 1, 1, .null, 0, 0, 0, [])), (83, (.iconst 4, 1, .int 4, 0, 0, 0, [])), (84, (.if_icmp .ne 7, 3, .null, 91, 0, 0, [])), (87, (.iload_n 2, 1, .null, 0, 0, 0, [])), (88, (.goto 4, 3, .null, 92, 0, 0, [])), (91, (.iconst (-1), 1, .int (-1), 0, 0, 0, [])), (92, (.ireturn, 1, .null, 0, 0, 0, []))]
def km_X4_count : dx_K := ((yX4_count, cX4_count, 4, some .int), kr_X4_count, kp_X4)
def kr_X4_digest : List (Nat × dx_I) := [(0, (.ldc2_w 229, 3, .long 31, 0, 0, 0, [])), (3, (.ldc2_w 231, 3, .long 527, 0, 0, 0, [])), (6, (.aload_n 0, 1, .null, 0, 0, 0, [])), (7, (.getfield 77, 3, .null, 4, 4, 0, [])), (10, (.i2l, 1, .null, 0, 0, 0, [])), (11, (.ladd, 1, .null, 0, 0, 0, [])), (12, (.lmul, 1, .null, 0, 0, 0, [])), (13, (.aload_n 0, 1, .null, 0, 0, 0, [])), (14, (.getfield 80, 3, .null, 4, 5, 0, [])), (17, (.i2l, 1, .null, 0, 0, 0, [])), (18, (.ladd, 1, .null, 0, 0, 0, [])), (19, (.lstore_n 1, 1, .null, 0, 0, 0, [])), (20, (.iconst 0, 1, .int 0, 0, 0, 0, [])), (21, (.istore_n 3, 1, .null, 0, 0, 0, [])), (22, (.iload_n 3, 1, .null, 0, 0, 0, [])), (23, (.aload_n 0, 1, .null, 0, 0, 0, [])), (24, (.getfield 80, 3, .null, 4, 5, 0, [])), (27, (.if_icmp .ge 47, 3, .null, 74, 0, 0, [])), (30, (.iconst 0, 1, .int 0, 0, 0, 0, [])), (31, (.istore 4, 2, .null, 0, 0, 0, [])), (33, (.iload 4, 2, .null, 0, 0, 0, [])), (35, (.aload_n 0, 1, .null, 0, 0, 0, [])), (36, (.getfield 77, 3, .null, 4, 4, 0, [])), (39, (.if_icmp .ge 29, 3, .null, 68, 0, 0, [])), (42, (.ldc2_w 229, 3, .long 31, 0, 0, 0, [])), (45, (.lload_n 1, 1, .null, 0, 0, 0, [])), (46, (.lmul, 1, .null, 0, 0, 0, [])), (47, (.aload_n 0, 1, .null, 0, 0, 0, [])), (48, (.getfield 13, 3, .null, 4, 7, 0, [])), (51, (.bipush 12, 2, .int 12, 0, 0, 0, [])), (53, (.iload_n 3, 1, .null, 0, 0, 0, [])), (54, (.imul, 1, .null, 0, 0, 0, [])), (55, (.iload 4, 2, .null, 0, 0, 0, [])), (57, (.iadd, 1, .null, 0, 0, 0, [])), (58, (.iaload, 1, .null, 0, 0, 0, [])), (59, (.i2l, 1, .null, 0, 0, 0, [])), (60, (.ladd, 1, .null, 0, 0, 0, [])), (61, (.lstore_n 1, 1, .null, 0, 0, 0, [])), (62, (.iinc 4 1, 3, .int 1, 0, 0, 0, [])), (65, (.goto (-32), 3, .null, 33, 0, 0, [])), (68, (.iinc 3 1, 3, .int 1, 0, 0, 0, [])), (71, (.goto (-49), 3, .null, 22, 0, 0, [])), (74, (.ldc2_w 229, 3, .long 31, 0, 0, 0, [])), (77, (.lload_n 1, 1, .null, 0, 0, 0, [])), (78, (.lmul, 1, .null, 0, 0, 0, [])), (79, (.aload_n 0, 1, .null, 0, 0, 0, [])), (80, (.getfield 51, 3, .null, 4, 6, 0, [])), (83, (.i2l, 1, .null, 0, 0, 0, [])), (84, (.ladd, 1, .null, 0, 0, 0, [])), (85, (.lstore_n 1, 1, .null, 0, 0, 0, [])), (86, (.iconst 0, 1, .int 0, 0, 0, 0, [])), (87, (.istore_n 3, 1, .null, 0, 0, 0, [])), (88, (.iload_n 3, 1, .null, 0, 0, 0, [])), (89, (.aload_n 0, 1, .null, 0, 0, 0, [])), (90, (.getfield 83, 3, .null, 4, 11, 0, [])), (93, (.if_icmp .ge 69, 3, .null, 162, 0, 0, [])), (96, (.iconst 0, 1, .int 0, 0, 0, 0, [])), (97, (.istore 4, 2, .null, 0, 0, 0, [])), (99, (.iload 4, 2, .null, 0, 0, 0, [])), (101, (.iconst 5, 1, .int 5, 0, 0, 0, [])), (102, (.if_icmp .ge 33, 3, .null, 135, 0, 0, [])), (105, (.aload_n 0, 1, .null, 0, 0, 0, [])), (106, (.getfield 41, 3, .null, 4, 17, 0, [])), (109, (.iload_n 3, 1, .null, 0, 0, 0, [])), (110, (.baload, 1, .null, 0, 0, 0, [])), (111, (.ifCond .ne 24, 3, .null, 135, 0, 0, [])), (114, (.ldc2_w 229, 3, .long 31, 0, 0, 0, [])), (117, (.lload_n 1, 1, .null, 0, 0, 0, [])), (118, (.lmul, 1, .null, 0, 0, 0, [])), (119, (.aload_n 0, 1, .null, 0, 0, 0, [])), (120, (.iload_n 3, 1, .null, 0, 0, 0, [])), (121, (.iload 4, 2, .null, 0, 0, 0, [])), (123, (.invokevirtual 105, 3, .ref 4, 1, 108, 2, [])), (126, (.i2l, 1, .null, 0, 0, 0, [])), (127, (.ladd, 1, .null, 0, 0, 0, [])), (128, (.lstore_n 1, 1, .null, 0, 0, 0, [])), (129, (.iinc 4 1, 3, .int 1, 0, 0, 0, [])), (132, (.goto (-33), 3, .null, 99, 0, 0, [])), (135, (.aload_n 0, 1, .null, 0, 0, 0, [])), (136, (.getfield 41, 3, .null, 4, 17, 0, [])), (139, (.iload_n 3, 1, .null, 0, 0, 0, [])), (140, (.baload, 1, .null, 0, 0, 0, [])), (141, (.ifCond .eq 13, 3, .null, 154, 0, 0, [])), (144, (.ldc2_w 229, 3, .long 31, 0, 0, 0, [])), (147, (.lload_n 1, 1, .null, 0, 0, 0, [])), (148, (.lmul, 1, .null, 0, 0, 0, [])), (149, (.lconst 1, 1, .long 1, 0, 0, 0, [])), (150, (.lsub, 1, .null, 0, 0, 0, [])), (151, (.goto 4, 3, .null, 155, 0, 0, [])), (154, (.lload_n 1, 1, .null, 0, 0, 0, [])), (155, (.lstore_n 1, 1, .null, 0, 0, 0, [])), (156, (.iinc 3 1, 3, .int 1, 0, 0, 0, [])), (159, (.goto (-71), 3, .null, 88, 0, 0, [])), (162, (.iconst 0, 1, .int 0, 0, 0, 0, [])), (163, (.istore_n 3, 1, .null, 0, 0, 0, [])), (164, (.iload_n 3, 1, .null, 0, 0, 0, [])), (165, (.bipush 6, 2, .int 6, 0, 0, 0, [])), (167, (.if_icmp .ge 63, 3, .null, 230, 0, 0, [])), (170, (.ldc2_w 229, 3, .long 31, 0, 0, 0, [])), (173, (.lload_n 1, 1, .null, 0, 0, 0, [])), (174, (.lmul, 1, .null, 0, 0, 0, [])), (175, (.aload_n 0, 1, .null, 0, 0, 0, [])), (176, (.getfield 16, 3, .null, 4, 8, 0, [])), (179, (.iload_n 3, 1, .null, 0, 0, 0, [])), (180, (.iaload, 1, .null, 0, 0, 0, [])), (181, (.i2l, 1, .null, 0, 0, 0, [])), (182, (.ladd, 1, .null, 0, 0, 0, [])), (183, (.lstore_n 1, 1, .null, 0, 0, 0, [])), (184, (.iconst 0, 1, .int 0, 0, 0, 0, [])), (185, (.istore 4, 2, .null, 0, 0, 0, [])), (187, (.iload 4, 2, .null, 0, 0, 0, [])), (189, (.aload_n 0, 1, .null, 0, 0, 0, [])), (190, (.getfield 16, 3, .null, 4, 8, 0, [])), (193, (.iload_n 3, 1, .null, 0, 0, 0, [])), (194, (.iaload, 1, .null, 0, 0, 0, [])), (195, (.if_icmp .ge 29, 3, .null, 224, 0, 0, [])), (198, (.ldc2_w 229, 3, .long 31, 0, 0, 0, [])), (201, (.lload_n 1, 1, .null, 0, 0, 0, [])), (202, (.lmul, 1, .null, 0, 0, 0, [])), (203, (.aload_n 0, 1, .null, 0, 0, 0, [])), (204, (.getfield 19, 3, .null, 4, 9, 0, [])), (207, (.bipush 12, 2, .int 12, 0, 0, 0, [])), (209, (.iload_n 3, 1, .null, 0, 0, 0, [])), (210, (.imul, 1, .null, 0, 0, 0, [])), (211, (.iload 4, 2, .null, 0, 0, 0, [])), (213, (.iadd, 1, .null, 0, 0, 0, [])), (214, (.baload, 1, .null, 0, 0, 0, [])), (215, (.i2l, 1, .null, 0, 0, 0, [])), (216, (.ladd, 1, .null, 0, 0, 0, [])), (217, (.lstore_n 1, 1, .null, 0, 0, 0, [])), (218, (.iinc 4 1, 3, .int 1, 0, 0, 0, [])), (221, (.goto (-34), 3, .null, 187, 0, 0, [])), (224, (.iinc 3 1, 3, .int 1, 0, 0, 0, [])), (227, (.goto (-63), 3, .null, 164, 0, 0, [])), (230, (.lload_n 1, 1, .null, 0, 0, 0, [])), (231, (.lreturn, 1, .null, 0, 0, 0, []))]
def km_X4_digest : dx_K := ((yX4_digest, cX4_digest, 5, some .long), kr_X4_digest, kp_X4)
def kr_J6_bitCount_0f7a4 : List (Nat × dx_I) := [(0, (.iload_n 0, 1, .null, 0, 0, 0, [])), (1, (.iload_n 0, 1, .null, 0, 0, 0, [])), (2, (.iconst 1, 1, .int 1, 0, 0, 0, [])), (3, (.iushr, 1, .null, 0, 0, 0, [])), (4, (.ldc_w 265, 3, .int 1431655765, 0, 0, 0, [])), (7, (.iand, 1, .null, 0, 0, 0, [])), (8, (.isub, 1, .null, 0, 0, 0, [])), (9, (.istore_n 0, 1, .null, 0, 0, 0, [])), (10, (.iload_n 0, 1, .null, 0, 0, 0, [])), (11, (.ldc_w 266, 3, .int 858993459, 0, 0, 0, [])), (14, (.iand, 1, .null, 0, 0, 0, [])), (15, (.iload_n 0, 1, .null, 0, 0, 0, [])), (16, (.iconst 2, 1, .int 2, 0, 0, 0, [])), (17, (.iushr, 1, .null, 0, 0, 0, [])), (18, (.ldc_w 266, 3, .int 858993459, 0, 0, 0, [])), (21, (.iand, 1, .null, 0, 0, 0, [])), (22, (.iadd, 1, .null, 0, 0, 0, [])), (23, (.istore_n 0, 1, .null, 0, 0, 0, [])), (24, (.iload_n 0, 1, .null, 0, 0, 0, [])), (25, (.iload_n 0, 1, .null, 0, 0, 0, [])), (26, (.iconst 4, 1, .int 4, 0, 0, 0, [])), (27, (.iushr, 1, .null, 0, 0, 0, [])), (28, (.iadd, 1, .null, 0, 0, 0, [])), (29, (.ldc_w 267, 3, .int 252645135, 0, 0, 0, [])), (32, (.iand, 1, .null, 0, 0, 0, [])), (33, (.istore_n 0, 1, .null, 0, 0, 0, [])), (34, (.iload_n 0, 1, .null, 0, 0, 0, [])), (35, (.iload_n 0, 1, .null, 0, 0, 0, [])), (36, (.bipush 8, 2, .int 8, 0, 0, 0, [])), (38, (.iushr, 1, .null, 0, 0, 0, [])), (39, (.iadd, 1, .null, 0, 0, 0, [])), (40, (.istore_n 0, 1, .null, 0, 0, 0, [])), (41, (.iload_n 0, 1, .null, 0, 0, 0, [])), (42, (.iload_n 0, 1, .null, 0, 0, 0, [])), (43, (.bipush 16, 2, .int 16, 0, 0, 0, [])), (45, (.iushr, 1, .null, 0, 0, 0, [])), (46, (.iadd, 1, .null, 0, 0, 0, [])), (47, (.istore_n 0, 1, .null, 0, 0, 0, [])), (48, (.iload_n 0, 1, .null, 0, 0, 0, [])), (49, (.bipush 63, 2, .int 63, 0, 0, 0, [])), (51, (.iand, 1, .null, 0, 0, 0, [])), (52, (.ireturn, 1, .null, 0, 0, 0, []))]
def km_J6_bitCount_0f7a4 : dx_K := ((yJ6_bitCount_0f7a4, cJ6_bitCount_0f7a4, 1, some .int), kr_J6_bitCount_0f7a4, kp_J6)
def kr_J13_compare_74951 : List (Nat × dx_I) := [(0, (.lload_n 0, 1, .null, 0, 0, 0, [])), (1, (.lload_n 2, 1, .null, 0, 0, 0, [])), (2, (.lcmp, 1, .null, 0, 0, 0, [])), (3, (.ifCond .ge 7, 3, .null, 10, 0, 0, [])), (6, (.iconst (-1), 1, .int (-1), 0, 0, 0, [])), (7, (.goto 14, 3, .null, 21, 0, 0, [])), (10, (.lload_n 0, 1, .null, 0, 0, 0, [])), (11, (.lload_n 2, 1, .null, 0, 0, 0, [])), (12, (.lcmp, 1, .null, 0, 0, 0, [])), (13, (.ifCond .ne 7, 3, .null, 20, 0, 0, [])), (16, (.iconst 0, 1, .int 0, 0, 0, 0, [])), (17, (.goto 4, 3, .null, 21, 0, 0, [])), (20, (.iconst 1, 1, .int 1, 0, 0, 0, [])), (21, (.ireturn, 1, .null, 0, 0, 0, []))]
def km_J13_compare_74951 : dx_K := ((yJ13_compare_74951, cJ13_compare_74951, 4, some .int), kr_J13_compare_74951, kp_J13)
def dx_P : List dx_K := [km_X0_begin, km_X0_has, km_X0_weightOf, km_X0_put, km_X0_across, km_X0_up, km_X0_squares, km_X0_weight, km_X0_weightAcross, km_X0_weightUp, km_X1_turnTo, km_X1_riseTo, km_X1_waysInto, km_X1_spread, km_X1_firm, km_X1_countFirm, km_X1_bears, km_X1_mostRoom, km_X1_stateOf, km_X1_halves, km_X1_momentAcross, km_X1_momentUp, km_X1_measureLine, km_X1_measureRow, km_X2_begin, km_X2_fact, km_X3_log, km_X3_square, km_X3_at, km_X3_water, km_X3_sheet, km_X3_lay, km_X3_tear, km_X3_copy, km_X3_fill, km_X3_load, km_X3_move, km_X3_rope, km_X3_drop, km_X3_told, km_X3_is, km_X3_all, km_X3_mean, km_X3_floats, km_X3_draft, km_X3_above, km_X3_middle, km_X3_place, km_X3_leans, km_X3_breadth, km_X3_holds, km_X3_rests, km_X3_carries, km_X3_trim, km_X3_room, km_X3_upper, km_X3_lower, km_X3_count, km_X3_finding, km_X3_findings, km_X3_digest, km_X3_digestPlaces, km_X3_digestLoads, km_X3_digestSheets, km_X3_within, km_X3_isTurn, km_X3_isSheet, km_X3_isPoint, km_X3_isLoad, km_X3_reaches, km_X3_find, km_X3_tell, km_X3_commonDivisor, km_X3_loadsThere, km_X3_wholeWeight, km_X3_settle, km_X3_weightAcross, km_X3_weightUp, km_X3_leaning, km_X3_holding, km_X3_turnedAcross, km_X3_turnedUp, km_X4_in, km_X4_meets, km_X4_finding, km_X4_findings, km_X4_gcd, km_X4_tells, km_X4_upper, km_X4_lower, km_X4_begin, km_X4_log, km_X4_isPlace, km_X4_square, km_X4_at, km_X4_water, km_X4_isSheet, km_X4_sheet, km_X4_lay, km_X4_tear, km_X4_copy, km_X4_fill, km_X4_isPoint, km_X4_load, km_X4_need, km_X4_move, km_X4_rope, km_X4_drop, km_X4_toldOf, km_X4_told, km_X4_is, km_X4_squareMany, km_X4_squareWeights, km_X4_all, km_X4_mean, km_X4_lay_, km_X4_isWetAt, km_X4_spread, km_X4_firmIn, km_X4_firmBelow, km_X4_finds, km_X4_afloat, km_X4_floats, km_X4_draft, km_X4_above, km_X4_laySums, km_X4_layPowers, km_X4_middle, km_X4_place, km_X4_lean, km_X4_leans, km_X4_layBreadth, km_X4_leastBreadth, km_X4_breadth, km_X4_holdsNow, km_X4_holds, km_X4_rests, km_X4_mostRoom, km_X4_carries, km_X4_trim, km_X4_room, km_X4_count, km_X4_digest, km_J6_bitCount_0f7a4, km_J13_compare_74951]
end
section
/-! THE LAYOUTS: lx_X the class with all it holds, lx_M the reference, lx_C a cut alone (printed by wip/whole/layout.py) -/
def lx_X : List dx_Cell := [.inl (3, [(3, 1), (3, 3), (3, 6), (3, 7), (3, 8), (3, 9), (0, 0), (0, 0), (0, 0), (2, 0), (2, 0)]), .inl (0, [(3, 2), (0, 0), (0, 0)]), .inr (0, 144, []), .inl (1, [(3, 4), (3, 5), (0, 0), (0, 0), (0, 0), (0, 0), (0, 0), (2, 0), (2, 0), (2, 0), (2, 0)]), .inr (0, 12, []), .inr (0, 12, []), .inr (3, 10, [10, 11, 12, 13, 14, 15, 16, 17, 18, 19]), .inr (4, 6, [20, 21, 22, 23, 24, 25]), .inr (0, 6, []), .inr (0, 6, []), .inl (2, [(1, 0), (0, 0), (0, 0), (0, 0), (0, 0), (0, 0)]), .inl (2, [(1, 0), (0, 0), (0, 0), (0, 0), (0, 0), (0, 0)]), .inl (2, [(1, 0), (0, 0), (0, 0), (0, 0), (0, 0), (0, 0)]), .inl (2, [(1, 0), (0, 0), (0, 0), (0, 0), (0, 0), (0, 0)]), .inl (2, [(1, 0), (0, 0), (0, 0), (0, 0), (0, 0), (0, 0)]), .inl (2, [(1, 0), (0, 0), (0, 0), (0, 0), (0, 0), (0, 0)]), .inl (2, [(1, 0), (0, 0), (0, 0), (0, 0), (0, 0), (0, 0)]), .inl (2, [(1, 0), (0, 0), (0, 0), (0, 0), (0, 0), (0, 0)]), .inl (2, [(1, 0), (0, 0), (0, 0), (0, 0), (0, 0), (0, 0)]), .inl (2, [(1, 0), (0, 0), (0, 0), (0, 0), (0, 0), (0, 0)]), .inr (1, 12, []), .inr (1, 12, []), .inr (1, 12, []), .inr (1, 12, []), .inr (1, 12, []), .inr (1, 12, [])]
def lx_M : List dx_Cell := [.inl (4, [(0, 0), (3, 1), (2, 0), (2, 0), (0, 0), (0, 0), (0, 0), (3, 2), (3, 3), (3, 4), (3, 5), (0, 0), (3, 6), (3, 7), (3, 8), (3, 9), (3, 10), (3, 11), (0, 0), (0, 0), (3, 12), (2, 0), (2, 0), (3, 13), (0, 0), (2, 0), (2, 0), (0, 0), (0, 0), (2, 0), (2, 0), (2, 0), (2, 0), (2, 0), (2, 0), (2, 0), (2, 0), (2, 0)]), .inr (0, 6, []), .inr (0, 144, []), .inr (0, 6, []), .inr (1, 72, []), .inr (1, 12, []), .inr (0, 10, []), .inr (0, 10, []), .inr (0, 10, []), .inr (0, 10, []), .inr (0, 10, []), .inr (2, 10, []), .inr (0, 144, []), .inr (2, 144, [])]
def lx_C : List dx_Cell := [.inl (0, [(3, 1), (0, 0), (0, 0)]), .inr (0, 144, [])]
end
section
set_option maxRecDepth 10000 in
theorem sm_within {lay : List dx_Cell} {d : Nat} (n a b : Int32) (m : dx_M) (Z : Option Value → dx_M → Prop) (h : Z (some (.int (if n < a then 0 else if b < n then 0 else 1))) m) : dx_Sem dx_P lay (d + 1) 64 [.int n, .int a, .int b] m Z := by
  refine dx_sem km_X3_within rfl rfl ?_
  refine dx_blk 2 (c' := (2, [.int n, .int a, .int b], [.int a, .int n], m)) rfl ?_
  refine dx_br (q := n < a) (a := 14) (b := 5) (L := [.int n, .int a, .int b]) (st := []) (m := m) rfl (fun h1 => ?_) (fun h1 => ?_)
  · rw [if_pos h1] at h
    refine dx_blk 1 (c' := (15, [.int n, .int a, .int b], [.int 0], m)) rfl ?_
    exact dx_ret (r := some (.int 0)) rfl h
  · rw [if_neg h1] at h
    refine dx_blk 2 (c' := (7, [.int n, .int a, .int b], [.int b, .int n], m)) rfl ?_
    refine dx_br (q := b < n) (a := 14) (b := 10) (L := [.int n, .int a, .int b]) (st := []) (m := m) rfl (fun h1 => ?_) (fun h1 => ?_)
    · rw [if_pos h1] at h
      refine dx_blk 1 (c' := (15, [.int n, .int a, .int b], [.int 0], m)) rfl ?_
      exact dx_ret (r := some (.int 0)) rfl h
    · rw [if_neg h1] at h
      refine dx_blk 2 (c' := (15, [.int n, .int a, .int b], [.int 1], m)) rfl ?_
      exact dx_ret (r := some (.int 1)) rfl h
end
section
/-! THE DEEP MACHINE IS THE MACHINE. A run of the deep machine is a walk of the machine over the cells that the layout tells. -/
def dx_T : List Cond := lw_tbl.filter goodWord
theorem dx_T_tbl {w : Cond} (h : w ∈ dx_T) : w ∈ lw_tbl := (List.mem_filter.mp h).1
theorem dx_T_of {w : Cond} (h : w ∈ lw_tbl) (g : goodWord w = true) : w ∈ dx_T := List.mem_filter.mpr ⟨h, g⟩
theorem dx_T_good {ws : List Cond} (h : ∀ w ∈ ws, w ∈ dx_T) : GoodIn dx_T ws := fun w hw => ⟨h w hw, good_of_word (List.mem_filter.mp (h w hw)).2⟩
def dx_nest : List (String × Nat × MethodName × String) := [("LogsAfloat$Cut", 26, yX3_within, "LogsAfloat"), ("LogsAfloat$Cut", 39, yX3_turnedAcross, "LogsAfloat"), ("LogsAfloat$Cut", 43, yX3_turnedUp, "LogsAfloat"), ("LogsAfloat$Lie", 43, yX3_turnedAcross, "LogsAfloat"), ("LogsAfloat$Lie", 47, yX3_turnedUp, "LogsAfloat")]
def dx_Ns (U : State) : Prop := ∀ q ∈ dx_nest, va_Nw (.methodLinkNest q.1 q.2.1 q.2.2.1 q.2.2.2) U
def dx_cv (ad : Nat → Nat) : Value → Value
  | .ref k => .ref (ad k)
  | v => v
theorem dx_cv_cat (ad : Nat → Nat) (v : Value) : (dx_cv ad v).category = v.category := by cases v <;> rfl
def dx_fv (ad : Nat → Nat) (x : Int32) (y : Int64) (q : Nat × Nat) : Value := match q.1 with
  | 0 => .int x
  | 1 => .int x
  | 2 => .long y
  | _ => .ref (ad q.2)
def dx_arr (ad : Nat → Nat) (f : Nat → Int32) (rs : List Nat) (t : Nat) : (Nat → Int32) ⊕ (Nat → Int64) ⊕ (Nat → UInt32) ⊕ (Nat → UInt64) ⊕ (Nat → Option Nat) := match t with
  | 0 => .inl f
  | 1 => .inl f
  | 2 => .inl f
  | _ => .inr (.inr (.inr (.inr (fun i => (rs[i]?).map ad))))
def dx_cell (ad : Nat → Nat) (cA : Nat → ClassId) (m : dx_M) (k : Nat) : dx_Cell → Nat × va_E
  | .inl (ci, fl) => (ad k, .inr (ci, fl.mapIdx (fun j q => dx_fv ad (m.1 k j) (m.2 k j) q)))
  | .inr (t, n, rs) => (ad k, .inl (cA t, n, dx_arr ad (m.1 k) rs t))
def dx_W (ad : Nat → Nat) (cA : Nat → ClassId) (lay : List dx_Cell) (m : dx_M) : va_W := lay.mapIdx (fun k q => dx_cell ad cA m k q)
theorem dx_W_get {ad : Nat → Nat} {cA : Nat → ClassId} {lay : List dx_Cell} {m : dx_M} {k : Nat} {q : dx_Cell} (h : lay[k]? = some q) : (dx_W ad cA lay m)[k]? = some (dx_cell ad cA m k q) := by
  unfold dx_W
  rw [List.getElem?_mapIdx, h]
  rfl
theorem dx_cell_cong {ad : Nat → Nat} {cA : Nat → ClassId} {m m' : dx_M} {k : Nat} (h1 : m'.1 k = m.1 k) (h2 : m'.2 k = m.2 k) (q : dx_Cell) : dx_cell ad cA m' k q = dx_cell ad cA m k q := by
  cases q with
  | inl q => obtain ⟨ci, fl⟩ := q; simp only [dx_cell, h1, h2]
  | inr q => obtain ⟨t, n, rs⟩ := q; simp only [dx_cell, h1]
theorem dx_W_set {ad : Nat → Nat} {cA : Nat → ClassId} {lay : List dx_Cell} {m m' : dx_M} {k : Nat} {q : dx_Cell} {x : Nat × va_E} (h : lay[k]? = some q) (hx : dx_cell ad cA m' k q = x) (h1 : ∀ i, i ≠ k → m'.1 i = m.1 i) (h2 : ∀ i, i ≠ k → m'.2 i = m.2 i) : (dx_W ad cA lay m).set k x = dx_W ad cA lay m' := by
  subst hx
  apply List.ext_getElem?
  intro i
  by_cases e : k = i
  · subst e
    have hl : k < (dx_W ad cA lay m).length := by
      unfold dx_W
      rw [List.length_mapIdx]
      exact (List.getElem?_eq_some_iff.mp h).1
    rw [List.getElem?_set_self hl]
    exact (dx_W_get h).symm
  · rw [List.getElem?_set_ne e]
    unfold dx_W
    rw [List.getElem?_mapIdx, List.getElem?_mapIdx]
    cases lay[i]? with
    | none => rfl
    | some q9 => exact congrArg some (dx_cell_cong (h1 i (fun z => e z.symm)) (h2 i (fun z => e z.symm)) q9).symm
theorem dx_pR_ne {m : dx_M} {k i : Nat} {f : Nat → Int32} (h : i ≠ k) : (dx_pR m k f).1 i = m.1 i := if_neg h
theorem dx_pR_eq {m : dx_M} {k : Nat} {f : Nat → Int32} : (dx_pR m k f).1 k = f := if_pos rfl
theorem dx_pL_ne {m : dx_M} {k i j : Nat} {v : Int64} (h : i ≠ k) : (dx_pL m k j v).2 i = m.2 i := if_neg h
theorem dx_pL_eq {m : dx_M} {k j : Nat} {v : Int64} : (dx_pL m k j v).2 k = vp_updL (m.2 k) j v := if_pos rfl
/-- an int array's row is set -/
theorem dx_W_row {ad : Nat → Nat} {cA : Nat → ClassId} {lay : List dx_Cell} {m : dx_M} {k t n : Nat} {rs : List Nat} {f : Nat → Int32} (h : lay[k]? = some (.inr (t, n, rs))) (ht : t < 3) : (dx_W ad cA lay m).set k (ad k, .inl (cA t, n, .inl f)) = dx_W ad cA lay (dx_pR m k f) := by
  refine dx_W_set h ?_ (fun i hi => dx_pR_ne hi) (fun i _ => rfl)
  match t, ht with
  | 0, _ => simp only [dx_cell, dx_pR_eq, dx_arr]
  | 1, _ => simp only [dx_cell, dx_pR_eq, dx_arr]
  | 2, _ => simp only [dx_cell, dx_pR_eq, dx_arr]
theorem dx_flI {ad : Nat → Nat} {m : dx_M} {k b : Nat} {fl : List (Nat × Nat)} {κ q : Nat} {x : Int32} (h : fl[b]? = some (κ, q)) (hκ : κ = 0 ∨ κ = 1) : fl.mapIdx (fun j q => dx_fv ad ((dx_pI m k b x).1 k j) ((dx_pI m k b x).2 k j) q) = (fl.mapIdx (fun j q => dx_fv ad (m.1 k j) (m.2 k j) q)).set b (.int x) := by
  apply List.ext_getElem?
  intro i
  by_cases e : b = i
  · subst e
    rw [List.getElem?_set_self (by rw [List.length_mapIdx]; exact (List.getElem?_eq_some_iff.mp h).1), List.getElem?_mapIdx, h]
    rcases hκ with rfl | rfl <;> simp [dx_fv, dx_pI, dx_pR, upd]
  · rw [List.getElem?_set_ne e, List.getElem?_mapIdx, List.getElem?_mapIdx]
    cases fl[i]? with
    | none => rfl
    | some q9 => simp [dx_pI, dx_pR, upd, Ne.symm e]
theorem dx_flL {ad : Nat → Nat} {m : dx_M} {k b : Nat} {fl : List (Nat × Nat)} {q : Nat} {x : Int64} (h : fl[b]? = some (2, q)) : fl.mapIdx (fun j q => dx_fv ad ((dx_pL m k b x).1 k j) ((dx_pL m k b x).2 k j) q) = (fl.mapIdx (fun j q => dx_fv ad (m.1 k j) (m.2 k j) q)).set b (.long x) := by
  apply List.ext_getElem?
  intro i
  by_cases e : b = i
  · subst e
    rw [List.getElem?_set_self (by rw [List.length_mapIdx]; exact (List.getElem?_eq_some_iff.mp h).1), List.getElem?_mapIdx, h]
    simp [dx_fv, dx_pL, vp_updL]
  · rw [List.getElem?_set_ne e, List.getElem?_mapIdx, List.getElem?_mapIdx]
    cases fl[i]? with
    | none => rfl
    | some q9 => simp [dx_pL, vp_updL, Ne.symm e]
theorem dx_W_int {ad : Nat → Nat} {cA : Nat → ClassId} {lay : List dx_Cell} {m : dx_M} {k b ci : Nat} {fl : List (Nat × Nat)} {κ q : Nat} {x : Int32} (h : lay[k]? = some (.inl (ci, fl))) (hb : fl[b]? = some (κ, q)) (hκ : κ = 0 ∨ κ = 1) : (dx_W ad cA lay m).set k (ad k, .inr (ci, (fl.mapIdx (fun j q => dx_fv ad (m.1 k j) (m.2 k j) q)).set b (.int x))) = dx_W ad cA lay (dx_pI m k b x) :=
  dx_W_set h (by simp only [dx_cell]; rw [dx_flI hb hκ]) (fun i hi => dx_pR_ne hi) (fun i _ => rfl)
theorem dx_W_long {ad : Nat → Nat} {cA : Nat → ClassId} {lay : List dx_Cell} {m : dx_M} {k b ci : Nat} {fl : List (Nat × Nat)} {q : Nat} {x : Int64} (h : lay[k]? = some (.inl (ci, fl))) (hb : fl[b]? = some (2, q)) : (dx_W ad cA lay m).set k (ad k, .inr (ci, (fl.mapIdx (fun j q => dx_fv ad (m.1 k j) (m.2 k j) q)).set b (.long x))) = dx_W ad cA lay (dx_pL m k b x) :=
  dx_W_set h (by simp only [dx_cell]; rw [dx_flL hb]) (fun i _ => rfl) (fun i hi => dx_pL_ne hi)
/-! locals -/
def dx_LO (ad : Nat → Nat) (ls : Array Slot) (L : List Value) : Prop := ls.size = L.length ∧ lv_wf ls ∧ ∀ (i : Nat) (v : Value), L[i]? = some v → v ≠ .null → ls[i]? = some (.val (dx_cv ad v))
def dx_al1 (ad : Nat → Nat) (i : Nat) : Option Value → Option (Nat × Value)
  | some .null => none
  | some v => some (i, dx_cv ad v)
  | none => none
def dx_al (ad : Nat → Nat) (L : List Value) : List (Nat × Value) := (List.range L.length).filterMap (fun i => dx_al1 ad i L[i]?)
theorem dx_al_mem {ad : Nat → Nat} {L : List Value} {q : Nat × Value} : q ∈ dx_al ad L ↔ ∃ v, L[q.1]? = some v ∧ v ≠ .null ∧ q.2 = dx_cv ad v := by
  unfold dx_al
  rw [List.mem_filterMap]
  constructor
  · rintro ⟨i, hi, h⟩
    cases hL : L[i]? with
    | none => rw [hL] at h; cases h
    | some v =>
      rw [hL] at h
      cases v <;> first | (cases h; done) | (cases h; exact ⟨_, hL, (fun z => by cases z), rfl⟩)
  · rintro ⟨v, h, hn, h2⟩
    refine ⟨q.1, List.mem_range.mpr (List.getElem?_eq_some_iff.mp h).1, ?_⟩
    rw [h]
    obtain ⟨q1, q2⟩ := q
    cases h2
    cases v <;> first | rfl | exact absurd rfl hn
theorem dx_LO.has {ad : Nat → Nat} {ls : Array Slot} {L : List Value} (h : dx_LO ad ls L) : lv_has ls L.length (dx_al ad L) := ⟨h.1, h.2.1, fun q hq => by
  obtain ⟨v, h1, h2, h3⟩ := dx_al_mem.mp hq
  rw [h3]
  exact h.2.2 q.1 v h1 h2⟩
theorem dx_LO.of {ad : Nat → Nat} {ls : Array Slot} {L : List Value} {n : Nat} {lv : List (Nat × Value)} (h : lv_has ls n lv) (hn : L.length = n) (hm : ∀ (i : Nat) (v : Value), L[i]? = some v → v ≠ .null → (i, dx_cv ad v) ∈ lv) : dx_LO ad ls L := ⟨h.1.trans hn.symm, h.2.1, fun i v h1 h2 => h.2.2 _ (hm i v h1 h2)⟩
theorem dx_ld_some {L : List Value} {i : Nat} {v : Value} (h : dx_ld L i = v) (hv : v ≠ .null) : L[i]? = some v := by
  induction L generalizing i with
  | nil => cases i <;> exact absurd h.symm hv
  | cons w t ih => cases i with
    | zero => exact congrArg some h
    | succ n => rw [List.getElem?_cons_succ]; exact ih h
theorem dx_st1_len : ∀ (L : List Value) (i : Nat) (v : Value), (dx_st1 L i v).length = L.length
  | [], _, _ => rfl
  | _ :: _, 0, _ => rfl
  | _ :: t, 1, v => by simp only [dx_st1, List.length_cons]; rw [dx_st1_len t 0 v]
  | _ :: t, n + 2, v => by simp only [dx_st1, List.length_cons]; rw [dx_st1_len t (n + 1) v]
theorem dx_tl0_len : ∀ L : List Value, (dx_tl0 L).length = L.length
  | [] => rfl
  | _ :: _ => rfl
theorem dx_st2_len : ∀ (L : List Value) (i : Nat) (v : Value), (dx_st2 L i v).length = L.length
  | [], _, _ => rfl
  | _ :: t, 0, _ => by simp only [dx_st2, List.length_cons, dx_tl0_len]
  | _ :: t, 1, v => by simp only [dx_st2, List.length_cons]; rw [dx_st2_len t 0 v]
  | _ :: t, n + 2, v => by simp only [dx_st2, List.length_cons]; rw [dx_st2_len t (n + 1) v]
theorem dx_kill_some {w v : Value} (h : dx_kill w = v) (hv : v ≠ .null) : w = v ∧ v.category ≠ 2 := by
  cases w <;> simp only [dx_kill] at h <;> subst h <;> first | exact absurd rfl hv | exact ⟨rfl, by decide⟩ | exact ⟨rfl, by simp [Value.category]⟩
theorem dx_st1_at : ∀ (L : List Value) (i : Nat) (v : Value) (j : Nat) (w : Value), (dx_st1 L i v)[j]? = some w → w ≠ .null → (j = i ∧ w = v) ∨ (j ≠ i ∧ L[j]? = some w ∧ ¬ (j + 1 = i ∧ w.category = 2))
  | [], _, _, _, _, h, _ => by simp [dx_st1] at h
  | a :: t, 0, v, j, w, h, hw => by
    cases j with
    | zero => simp [dx_st1] at h; exact Or.inl ⟨rfl, h.symm⟩
    | succ j => simp [dx_st1] at h; exact Or.inr ⟨by omega, by simpa using h, by omega⟩
  | a :: t, 1, v, j, w, h, hw => by
    cases j with
    | zero =>
      simp [dx_st1] at h
      obtain ⟨e1, e2⟩ := dx_kill_some h hw
      exact Or.inr ⟨by omega, by simp [e1], fun z => e2 z.2⟩
    | succ j =>
      simp only [dx_st1, List.getElem?_cons_succ] at h
      rcases dx_st1_at t 0 v j w h hw with ⟨e1, e2⟩ | ⟨e1, e2, e3⟩
      · exact Or.inl ⟨by omega, e2⟩
      · exact Or.inr ⟨by omega, by simpa using e2, by omega⟩
  | a :: t, n + 2, v, j, w, h, hw => by
    cases j with
    | zero => simp [dx_st1] at h; exact Or.inr ⟨by omega, by simp [h], by omega⟩
    | succ j =>
      simp only [dx_st1, List.getElem?_cons_succ] at h
      rcases dx_st1_at t (n + 1) v j w h hw with ⟨e1, e2⟩ | ⟨e1, e2, e3⟩
      · exact Or.inl ⟨by omega, e2⟩
      · exact Or.inr ⟨by omega, by simpa using e2, fun z => e3 ⟨by omega, z.2⟩⟩
theorem dx_tl0_at : ∀ (L : List Value) (j : Nat) (w : Value), (dx_tl0 L)[j]? = some w → w ≠ .null → j ≠ 0 ∧ L[j]? = some w
  | [], j, w, h, _ => by simp [dx_tl0] at h
  | a :: t, 0, w, h, hw => by simp [dx_tl0] at h; exact absurd h.symm hw
  | a :: t, j + 1, w, h, hw => by simp [dx_tl0] at h; exact ⟨by omega, by simpa using h⟩
theorem dx_st2_at : ∀ (L : List Value) (i : Nat) (v : Value) (j : Nat) (w : Value), (dx_st2 L i v)[j]? = some w → w ≠ .null → (j = i ∧ w = v) ∨ (j ≠ i ∧ j ≠ i + 1 ∧ L[j]? = some w ∧ ¬ (j + 1 = i ∧ w.category = 2))
  | [], _, _, _, _, h, _ => by simp [dx_st2] at h
  | a :: t, 0, v, j, w, h, hw => by
    cases j with
    | zero => simp [dx_st2] at h; exact Or.inl ⟨rfl, h.symm⟩
    | succ j =>
      simp only [dx_st2, List.getElem?_cons_succ] at h
      obtain ⟨e1, e2⟩ := dx_tl0_at t j w h hw
      exact Or.inr ⟨by omega, by omega, by simpa using e2, by omega⟩
  | a :: t, 1, v, j, w, h, hw => by
    cases j with
    | zero =>
      simp [dx_st2] at h
      obtain ⟨e1, e2⟩ := dx_kill_some h hw
      exact Or.inr ⟨by omega, by omega, by simp [e1], fun z => e2 z.2⟩
    | succ j =>
      simp only [dx_st2, List.getElem?_cons_succ] at h
      rcases dx_st2_at t 0 v j w h hw with ⟨e1, e2⟩ | ⟨e1, e4, e2, e3⟩
      · exact Or.inl ⟨by omega, e2⟩
      · exact Or.inr ⟨by omega, by omega, by simpa using e2, by omega⟩
  | a :: t, n + 2, v, j, w, h, hw => by
    cases j with
    | zero => simp [dx_st2] at h; exact Or.inr ⟨by omega, by omega, by simp [h], by omega⟩
    | succ j =>
      simp only [dx_st2, List.getElem?_cons_succ] at h
      rcases dx_st2_at t (n + 1) v j w h hw with ⟨e1, e2⟩ | ⟨e1, e4, e2, e3⟩
      · exact Or.inl ⟨by omega, e2⟩
      · exact Or.inr ⟨by omega, by omega, by simpa using e2, fun z => e3 ⟨by omega, z.2⟩⟩
theorem dx_LO.st1 {ad : Nat → Nat} {ls' : Array Slot} {L : List Value} {i : Nat} {v : Value} (h : lv_has ls' L.length ((i, dx_cv ad v) :: (dx_al ad L).filter (fun q => !(q.1 == i) && !(q.1 + 1 == i && q.2.category == 2)))) : dx_LO ad ls' (dx_st1 L i v) := by
  refine dx_LO.of h (dx_st1_len L i v) (fun j w hj hw => ?_)
  rcases dx_st1_at L i v j w hj hw with ⟨e1, e2⟩ | ⟨e1, e2, e3⟩
  · subst e1; subst e2; exact List.mem_cons_self
  · refine List.mem_cons_of_mem _ (List.mem_filter.mpr ⟨dx_al_mem.mpr ⟨w, e2, hw, rfl⟩, ?_⟩)
    simp only [Bool.and_eq_true, Bool.not_eq_true', beq_eq_false_iff_ne, Bool.and_eq_false_iff, dx_cv_cat]
    refine ⟨e1, ?_⟩
    by_cases q : j + 1 = i
    · exact Or.inr (fun z => e3 ⟨q, z⟩)
    · exact Or.inl q
theorem dx_LO.st2 {ad : Nat → Nat} {ls' : Array Slot} {L : List Value} {i : Nat} {v : Value} (h : lv_has ls' L.length ((i, dx_cv ad v) :: (dx_al ad L).filter (fun q => !(q.1 == i) && (!(q.1 == i + 1) && !(q.1 + 1 == i && q.2.category == 2))))) : dx_LO ad ls' (dx_st2 L i v) := by
  refine dx_LO.of h (dx_st2_len L i v) (fun j w hj hw => ?_)
  rcases dx_st2_at L i v j w hj hw with ⟨e1, e2⟩ | ⟨e1, e4, e2, e3⟩
  · subst e1; subst e2; exact List.mem_cons_self
  · refine List.mem_cons_of_mem _ (List.mem_filter.mpr ⟨dx_al_mem.mpr ⟨w, e2, hw, rfl⟩, ?_⟩)
    simp only [Bool.and_eq_true, Bool.not_eq_true', beq_eq_false_iff_ne, Bool.and_eq_false_iff, dx_cv_cat]
    refine ⟨e1, e4, ?_⟩
    by_cases q : j + 1 = i
    · exact Or.inr (fun z => e3 ⟨q, z⟩)
    · exact Or.inl q
theorem dx_LO.get {ad : Nat → Nat} {ls : Array Slot} {L : List Value} (h : dx_LO ad ls L) {i : Nat} {v : Value} (hv : dx_ld L i = v) (hn : v ≠ .null) : ls[i]? = some (.val (dx_cv ad v)) := h.2.2 i v (dx_ld_some hv hn) hn
/-! entry -/
def dx_ewd : List Value → Nat
  | [] => 0
  | v :: t => (if v.category = 2 then 2 else 1) + dx_ewd t
theorem dx_ent_len : ∀ (as : List Value) (n : Nat), (dx_ent n as).length = n → (lg_sl as).length ≤ n
  | [], n, _ => by simp [lg_sl]
  | .long x :: t, n, h => by
    simp only [dx_ent, List.length_cons] at h
    have h2 := dx_ent_len t (n - 2) (by omega)
    have e : (lg_sl (.long x :: t)).length = (lg_sl t).length + 2 := by simp [lg_sl, Value.category]
    omega
  | .double x :: t, n, h => by
    simp only [dx_ent, List.length_cons] at h
    have h2 := dx_ent_len t (n - 2) (by omega)
    have e : (lg_sl (.double x :: t)).length = (lg_sl t).length + 2 := by simp [lg_sl, Value.category]
    omega
  | .int x :: t, n, h => by
    simp only [dx_ent, List.length_cons] at h
    have h2 := dx_ent_len t (n - 1) (by omega)
    have e : (lg_sl (.int x :: t)).length = (lg_sl t).length + 1 := by simp [lg_sl, Value.category]
    omega
  | .float x :: t, n, h => by
    simp only [dx_ent, List.length_cons] at h
    have h2 := dx_ent_len t (n - 1) (by omega)
    have e : (lg_sl (.float x :: t)).length = (lg_sl t).length + 1 := by simp [lg_sl, Value.category]
    omega
  | .ref x :: t, n, h => by
    simp only [dx_ent, List.length_cons] at h
    have h2 := dx_ent_len t (n - 1) (by omega)
    have e : (lg_sl (.ref x :: t)).length = (lg_sl t).length + 1 := by simp [lg_sl, Value.category]
    omega
  | .null :: t, n, h => by
    simp only [dx_ent, List.length_cons] at h
    have h2 := dx_ent_len t (n - 1) (by omega)
    have e : (lg_sl (.null :: t)).length = (lg_sl t).length + 1 := by simp [lg_sl, Value.category]
    omega
  | .retAddr x :: t, n, h => by
    simp only [dx_ent, List.length_cons] at h
    have h2 := dx_ent_len t (n - 1) (by omega)
    have e : (lg_sl (.retAddr x :: t)).length = (lg_sl t).length + 1 := by simp [lg_sl, Value.category]
    omega
theorem dx_ent_at : ∀ (as : List Value) (n k i : Nat) (v : Value), (dx_ent n as)[i]? = some v → v ≠ .null → (k + i, v) ∈ lv_args k as
  | [], n, k, i, v, h, hv => by
    simp only [dx_ent, List.getElem?_replicate] at h
    split at h
    · exact absurd (Option.some.inj h).symm hv
    · cases h
  | w :: t, n, k, i, v, h, hv => by
    cases w with
    | long x =>
      simp only [dx_ent] at h
      match i, h with
      | 0, h => simp at h; subst h; exact List.mem_cons_self
      | 1, h => simp at h; exact absurd h.symm hv
      | i + 2, h =>
        simp only [List.getElem?_cons_succ] at h
        have q := dx_ent_at t (n - 2) (k + 2) i v h hv
        refine List.mem_cons_of_mem _ ?_
        rw [show k + (i + 2) = k + 2 + i by omega]
        simpa [Value.category] using q
    | double x =>
      simp only [dx_ent] at h
      match i, h with
      | 0, h => simp at h; subst h; exact List.mem_cons_self
      | 1, h => simp at h; exact absurd h.symm hv
      | i + 2, h =>
        simp only [List.getElem?_cons_succ] at h
        have q := dx_ent_at t (n - 2) (k + 2) i v h hv
        refine List.mem_cons_of_mem _ ?_
        rw [show k + (i + 2) = k + 2 + i by omega]
        simpa [Value.category] using q
    | _ =>
      simp only [dx_ent] at h
      match i, h with
      | 0, h => simp at h; subst h; exact List.mem_cons_self
      | i + 1, h =>
        simp only [List.getElem?_cons_succ] at h
        have q := dx_ent_at t (n - 1) (k + 1) i v h hv
        refine List.mem_cons_of_mem _ ?_
        rw [show k + (i + 1) = k + 1 + i by omega]
        simpa [Value.category] using q
theorem dx_args_map (ad : Nat → Nat) : ∀ (as : List Value) (k : Nat) (q : Nat × Value), q ∈ lv_args k as → (q.1, dx_cv ad q.2) ∈ lv_args k (as.map (dx_cv ad))
  | [], _, _, h => by cases h
  | v :: t, k, q, h => by
    simp only [lv_args, List.map_cons, dx_cv_cat] at h ⊢
    rcases List.mem_cons.mp h with rfl | h
    · exact List.mem_cons_self
    · exact List.mem_cons_of_mem _ (dx_args_map ad t _ q h)
theorem dx_sl_map (ad : Nat → Nat) : ∀ as : List Value, (lg_sl (as.map (dx_cv ad))).length = (lg_sl as).length
  | [] => rfl
  | v :: t => by
    have h := dx_sl_map ad t
    simp only [lg_sl, List.map_cons, List.flatMap_cons, List.length_append, dx_cv_cat] at h ⊢
    rw [h]
    split <;> rfl
/-- the locals at a method's entry -/
theorem dx_LO_entry {ad : Nat → Nat} {as : List Value} {n : Nat} (h : (dx_ent n as).length = n) : dx_LO ad ((lg_sl (as.map (dx_cv ad)) ++ List.replicate (n - (lg_sl (as.map (dx_cv ad))).length) Slot.unset).toArray) (dx_ent n as) := by
  have hl := lv_entry (as.map (dx_cv ad)) (n := n) (by rw [dx_sl_map]; exact dx_ent_len as n h)
  refine dx_LO.of hl h (fun i v h1 h2 => ?_)
  have q := dx_args_map ad as 0 (0 + i, v) (dx_ent_at as n 0 i v h1 h2)
  simpa using q
end
section
/-! inversions of the deep steps, and each as a row of the machine -/
def dx_ty : Nat → FieldType
  | 0 => .int
  | 1 => .byte
  | 2 => .boolean
  | 3 => .object "LogsAfloat$Load"
  | _ => .array .byte
def dx_len : Instr → Nat
  | .bipush _ => 2
  | .sipush _ => 3
  | .ldc_w _ => 3
  | .ldc2_w _ => 3
  | .iload _ => 2
  | .lload _ => 2
  | .aload _ => 2
  | .istore _ => 2
  | .lstore _ => 2
  | .astore _ => 2
  | .iinc _ _ => 3
  | .goto _ => 3
  | .ifCond _ _ => 3
  | .if_icmp _ _ => 3
  | .getfield _ => 3
  | .putfield _ => 3
  | .invokevirtual _ => 3
  | .invokestatic _ => 3
  | _ => 1
def dx_rc2 (K : dx_K) (pc : Nat) (r : dx_I) : Bool := match r.1 with
  | .iconst z => decide (r.2.2.1 = .int (Int32.ofInt z))
  | .bipush z => decide (r.2.2.1 = .int (Int8.ofInt z).toInt32)
  | .sipush z => decide (r.2.2.1 = .int (Int16.ofInt z).toInt32)
  | .lconst z => decide (r.2.2.1 = .long (Int64.ofNat z))
  | .ldc_w x => match dx_look K.2.2 x with
    | some (5, z, _) => decide (r.2.2.1 = .int (Int32.ofInt ((z : Int) - 1000)))
    | _ => false
  | .ldc2_w x => match dx_look K.2.2 x with
    | some (6, z, _) => decide (r.2.2.1 = .long (Int64.ofInt ((z : Int) - 1000)))
    | _ => false
  | .iinc _ z => decide (r.2.2.1 = .int (Int32.ofInt z))
  | .goto off => decide ((pc : Int) + off = (r.2.2.2.1 : Int))
  | .ifCond _ off => decide ((pc : Int) + off = (r.2.2.2.1 : Int))
  | .if_icmp _ off => decide ((pc : Int) + off = (r.2.2.2.1 : Int))
  | .tableswitch dflt lo hi offs => decide ((pc : Int) + dflt = (r.2.2.2.1 : Int)) && (r.2.2.2.2.2.2.all (fun q => decide (¬ q.1.toInt < lo) && decide (¬ hi < q.1.toInt) && (match offs[(q.1.toInt - lo).toNat]? with
    | some off => decide ((pc : Int) + off = (q.2 : Int))
    | none => false)) && (List.range (hi - lo + 1).toNat).all (fun (j : Nat) => r.2.2.2.2.2.2.any (fun q => decide (q.1.toInt = lo + (j : Int)))))
  | .getfield x => decide (dx_look K.2.2 x = some (0, r.2.2.2.1, r.2.2.2.2.1))
  | .putfield x => decide (dx_look K.2.2 x = some (0, r.2.2.2.1, r.2.2.2.2.1))
  | .invokevirtual x => match r.2.2.1 with
    | .ref ci => decide (dx_look K.2.2 x = some (r.2.2.2.1, r.2.2.2.2.1, r.2.2.2.2.2.1 + 16 * ci)) && decide (r.2.2.2.2.2.1 < 16)
    | _ => false
  | .invokestatic x => decide (dx_look K.2.2 x = some (r.2.2.2.1, r.2.2.2.2.1, r.2.2.2.2.2.1))
  | _ => true
def dx_rch (K : dx_K) (pc : Nat) (r : dx_I) : Bool := (match r.1 with
  | .tableswitch _ _ _ _ => true
  | i => decide (r.2.1 = dx_len i)) && dx_rc2 K pc r
def dx_pok (P : List dx_K) (own : String) (x : Nat) (e : Nat × Nat × Nat) : Prop := match e with
  | (0, a, b) => ∃ (C : String) (T : u_T) (N : Nat), vwCl[a]? = some (C, T, N) ∧ b < N ∧ Cond.fieldLink own x (T b).1 (T b).2.1 (T b).2.2.1 ∈ dx_T
  | (1, id, e) => ∃ (K : dx_K) (q : vw_C), P[id]? = some K ∧ vwCl[e / 16]? = some q ∧ q.1 = K.1.1.cls ∧ Cond.methodLink own x K.1.1 ∈ dx_T ∧ Cond.instanceMethod K.1.1 ∈ dx_T ∧ Cond.selects K.1.1.cls K.1.1 K.1.1 ∈ dx_T ∧ Cond.initialized K.1.1.cls ∈ dx_T ∧ Cond.code K.1.1 K.1.2.1 K.1.2.2.1 K.1.2.2.2 ∈ dx_T ∧ K.1.1.cls ≠ "java/lang/invoke/MethodHandle" ∧ K.1.1.cls ≠ "java/lang/invoke/VarHandle" ∧ (parseMethodDescriptor K.1.1.desc).map (fun d => d.parameters.length) = some (e % 16)
  | (2, id, n) => ∃ K : dx_K, P[id]? = some K ∧ Cond.methodLink own x K.1.1 ∈ dx_T ∧ Cond.static K.1.1 ∈ dx_T ∧ Cond.initialized K.1.1.cls ∈ dx_T ∧ Cond.code K.1.1 K.1.2.1 K.1.2.2.1 K.1.2.2.2 ∈ dx_T ∧ K.1.1.cls ≠ "java/lang/invoke/MethodHandle" ∧ K.1.1.cls ≠ "java/lang/invoke/VarHandle" ∧ (parseMethodDescriptor K.1.1.desc).map (fun d => d.parameters.length) = some n
  | (3, id, n) => ∃ (K : dx_K) (host : String), P[id]? = some K ∧ (own, x, K.1.1, host) ∈ dx_nest ∧ Cond.static K.1.1 ∈ dx_T ∧ Cond.initialized K.1.1.cls ∈ dx_T ∧ Cond.code K.1.1 K.1.2.1 K.1.2.2.1 K.1.2.2.2 ∈ dx_T ∧ K.1.1.cls ≠ "java/lang/invoke/MethodHandle" ∧ K.1.1.cls ≠ "java/lang/invoke/VarHandle" ∧ (parseMethodDescriptor K.1.1.desc).map (fun d => d.parameters.length) = some n
  | (4, _, _) => Cond.methodLink own x arraycopyName ∈ dx_T ∧ Cond.native arraycopyName ∈ dx_T ∧ Cond.static arraycopyName ∈ dx_T ∧ Cond.initialized "java/lang/System" ∈ dx_T
  | (7, _, _) => Cond.methodLink own x Lib.Math.max.name ∈ dx_T ∧ Cond.static Lib.Math.max.name ∈ dx_T ∧ Cond.initialized "java/lang/Math" ∈ dx_T ∧ Cond.code Lib.Math.max.name Lib.Math.max.code 2 (some .int) ∈ dx_T
  | (8, _, _) => Cond.methodLink own x Lib.Math.min.name ∈ dx_T ∧ Cond.static Lib.Math.min.name ∈ dx_T ∧ Cond.initialized "java/lang/Math" ∈ dx_T ∧ Cond.code Lib.Math.min.name Lib.Math.min.code 2 (some .int) ∈ dx_T
  | (9, _, _) => Cond.methodLink own x Lib.MathLoose.abs_long.x ∈ dx_T ∧ Cond.static Lib.MathLoose.abs_long.x ∈ dx_T ∧ Cond.initialized "java/lang/Math" ∈ dx_T ∧ Cond.code Lib.MathLoose.abs_long.x Lib.MathLoose.abs_long.code 2 (some .long) ∈ dx_T
  | (5, z, _) => Cond.constant own x (Int32.ofInt ((z : Int) - 1000)) ∈ dx_T
  | (6, z, _) => Cond.constantLong own x (Int64.ofInt ((z : Int) - 1000)) ∈ dx_T
  | _ => False
/-- a method's tables are right -/
def dx_Kok (P : List dx_K) (K : dx_K) : Prop := plainName K.1.1.cls = true ∧ K.1.2.2.1 ≤ 19 ∧ (∀ (pc : Nat) (r : dx_I), dx_look K.2.1 pc = some r → decode K.1.2.1 pc = .ok (r.1, r.2.1) ∧ dx_rch K pc r = true) ∧ ∀ (x : Nat) (e : Nat × Nat × Nat), dx_look K.2.2 x = some e → dx_pok P K.1.1.cls x e
def dx_clsok (C : String) (T : u_T) (N : Nat) : Prop := (∃ ty0 : Nat → FieldType, ∀ k, k < N → parseFieldDescriptor (T k).2.2.1 = some (ty0 k)) ∧ (∀ a, a < N → ∀ b, b < N → a ≠ b → (T a).2.1 ≠ (T b).2.1) ∧ ∀ w ∈ u_ws C T N, w ∈ dx_T
/-- a layout fits the classes -/
def dx_layok (lay : List dx_Cell) : Prop := ∀ (k ci : Nat) (fl : List (Nat × Nat)), lay[k]? = some (.inl (ci, fl)) → ∃ (C : String) (T : u_T) (N : Nat), vwCl[ci]? = some (C, T, N) ∧ dx_clsok C T N ∧ fl.length = N ∧ ∀ (b κ q : Nat), fl[b]? = some (κ, q) → (κ = 0 → (T b).2.2 = ("I", false)) ∧ (κ = 1 → (T b).2.2 = ("Z", false)) ∧ (κ = 2 → (T b).2.2 = ("J", false))
/-- what stands fast in a method's run -/
def dx_Cx (p : Program) (s : State) (m : MethodId) (args : Array Value) (c : Code) (K : dx_K) (D : va_G) (cA : Nat → ClassId) (tys : List (ClassId × FieldType)) (lay : List dx_Cell) : Prop :=
  p.tables.exec = Jvm.exec ∧ c.code = K.1.2.1 ∧ c.maxLocals = K.1.2.2.1 ∧ s.vm.findClass K.1.1.cls = some m.cls ∧ (∀ w ∈ dx_T, w.before args s = true) ∧ va_K D vwCl tys s ∧ ∀ (k t n : Nat) (rs : List Nat), lay[k]? = some (.inr (t, n, rs)) → ∃ t0 : Nat, tys[t0]? = some (cA t, dx_ty t)
/-- the heap as the memory tells it -/
def dx_Wd (D : va_G) (cA : Nat → ClassId) (ad : Nat → Nat) (lay : List dx_Cell) (A : Nat → Prop) (H0 : Heap) (mm : dx_M) (H : Heap) (locs : List Loc) : Prop := va_P D vwCl (dx_W ad cA lay mm) H ∧ va_D A (dx_W ad cA lay mm) ∧ va_S A H0 H locs
theorem dx_loI_inv {pc : Nat} {L st : List Value} {m : dx_M} {i : Nat} {c' : dx_F} (h : dx_loI pc L st m i = some c') : ∃ x, dx_ld L i = .int x ∧ c' = (pc, L, .int x :: st, m) := by
  unfold dx_loI at h
  split at h
  · next x e => exact ⟨x, e, (Option.some.inj h).symm⟩
  · cases h
theorem dx_loL_inv {pc : Nat} {L st : List Value} {m : dx_M} {i : Nat} {c' : dx_F} (h : dx_loL pc L st m i = some c') : ∃ x, dx_ld L i = .long x ∧ c' = (pc, L, .long x :: st, m) := by
  unfold dx_loL at h
  split at h
  · next x e => exact ⟨x, e, (Option.some.inj h).symm⟩
  · cases h
theorem dx_loA_inv {pc : Nat} {L st : List Value} {m : dx_M} {i : Nat} {c' : dx_F} (h : dx_loA pc L st m i = some c') : ∃ x, dx_ld L i = .ref x ∧ c' = (pc, L, .ref x :: st, m) := by
  unfold dx_loA at h
  split at h
  · next x e => exact ⟨x, e, (Option.some.inj h).symm⟩
  · cases h
theorem dx_if_some {α : Type} {q : Prop} [Decidable q] {x y : α} (h : (if q then some x else none) = some y) : q ∧ y = x := by
  by_cases hq : q
  · rw [if_pos hq] at h; exact ⟨hq, (Option.some.inj h).symm⟩
  · rw [if_neg hq] at h; cases h
theorem dx_stI_inv {pc : Nat} {L st : List Value} {m : dx_M} {i : Nat} {c' : dx_F} (h : dx_stI pc L st m i = some c') : ∃ x t, st = .int x :: t ∧ i < L.length ∧ c' = (pc, dx_st1 L i (.int x), t, m) := by
  unfold dx_stI at h
  split at h
  · next x t => exact ⟨x, t, rfl, (dx_if_some h).1, (dx_if_some h).2⟩
  · cases h
theorem dx_stL_inv {pc : Nat} {L st : List Value} {m : dx_M} {i : Nat} {c' : dx_F} (h : dx_stL pc L st m i = some c') : ∃ x t, st = .long x :: t ∧ i + 1 < L.length ∧ c' = (pc, dx_st2 L i (.long x), t, m) := by
  unfold dx_stL at h
  split at h
  · next x t => exact ⟨x, t, rfl, (dx_if_some h).1, (dx_if_some h).2⟩
  · cases h
theorem dx_stA_inv {pc : Nat} {L st : List Value} {m : dx_M} {i : Nat} {c' : dx_F} (h : dx_stA pc L st m i = some c') : ∃ x t, st = .ref x :: t ∧ i < L.length ∧ c' = (pc, dx_st1 L i (.ref x), t, m) := by
  unfold dx_stA at h
  split at h
  · next x t => exact ⟨x, t, rfl, (dx_if_some h).1, (dx_if_some h).2⟩
  · cases h
theorem dx_inc_inv {pc : Nat} {L st : List Value} {m : dx_M} {i : Nat} {v : Value} {c' : dx_F} (h : dx_inc pc L st m i v = some c') : ∃ x y, dx_ld L i = .int x ∧ v = .int y ∧ i < L.length ∧ c' = (pc, dx_st1 L i (.int (x + y)), st, m) := by
  unfold dx_inc at h
  split at h
  · next x y e => exact ⟨x, y, e, rfl, (dx_if_some h).1, (dx_if_some h).2⟩
  · cases h
theorem dx_bI_inv {f : Int32 → Int32 → Int32} {pc : Nat} {L st : List Value} {m : dx_M} {c' : dx_F} (h : dx_bI f pc L st m = some c') : ∃ x y t, st = .int y :: .int x :: t ∧ c' = (pc, L, .int (f x y) :: t, m) := by
  unfold dx_bI at h
  split at h
  · next y x t => exact ⟨x, y, t, rfl, (Option.some.inj h).symm⟩
  · cases h
theorem dx_bL_inv {f : Int64 → Int64 → Int64} {pc : Nat} {L st : List Value} {m : dx_M} {c' : dx_F} (h : dx_bL f pc L st m = some c') : ∃ x y t, st = .long y :: .long x :: t ∧ c' = (pc, L, .long (f x y) :: t, m) := by
  unfold dx_bL at h
  split at h
  · next y x t => exact ⟨x, y, t, rfl, (Option.some.inj h).symm⟩
  · cases h
theorem dx_dI_inv {f : Int32 → Int32 → Int32} {pc : Nat} {L st : List Value} {m : dx_M} {c' : dx_F} (h : dx_dI f pc L st m = some c') : ∃ x y t, st = .int y :: .int x :: t ∧ ¬ y = 0 ∧ c' = (pc, L, .int (f x y) :: t, m) := by
  unfold dx_dI at h
  split at h
  · next y x t => exact ⟨x, y, t, rfl, (dx_if_some h).1, (dx_if_some h).2⟩
  · cases h
theorem dx_dL_inv {f : Int64 → Int64 → Int64} {pc : Nat} {L st : List Value} {m : dx_M} {c' : dx_F} (h : dx_dL f pc L st m = some c') : ∃ x y t, st = .long y :: .long x :: t ∧ ¬ y = 0 ∧ c' = (pc, L, .long (f x y) :: t, m) := by
  unfold dx_dL at h
  split at h
  · next y x t => exact ⟨x, y, t, rfl, (dx_if_some h).1, (dx_if_some h).2⟩
  · cases h
theorem dx_if1_inv {f : Int32 → Nat} {L st : List Value} {m : dx_M} {c' : dx_F} (h : dx_if1 f L st m = some c') : ∃ x t, st = .int x :: t ∧ c' = (f x, L, t, m) := by
  unfold dx_if1 at h
  split at h
  · next x t => exact ⟨x, t, rfl, (Option.some.inj h).symm⟩
  · cases h
theorem dx_if2_inv {f : Int32 → Int32 → Nat} {L st : List Value} {m : dx_M} {c' : dx_F} (h : dx_if2 f L st m = some c') : ∃ x y t, st = .int y :: .int x :: t ∧ c' = (f x y, L, t, m) := by
  unfold dx_if2 at h
  split at h
  · next y x t => exact ⟨x, y, t, rfl, (Option.some.inj h).symm⟩
  · cases h
theorem dx_unI_inv {f : Int32 → Value} {pc : Nat} {L st : List Value} {m : dx_M} {c' : dx_F} (h : dx_unI f pc L st m = some c') : ∃ x t, st = .int x :: t ∧ c' = (pc, L, f x :: t, m) := by
  unfold dx_unI at h
  split at h
  · next x t => exact ⟨x, t, rfl, (Option.some.inj h).symm⟩
  · cases h
theorem dx_unL_inv {f : Int64 → Value} {pc : Nat} {L st : List Value} {m : dx_M} {c' : dx_F} (h : dx_unL f pc L st m = some c') : ∃ x t, st = .long x :: t ∧ c' = (pc, L, f x :: t, m) := by
  unfold dx_unL at h
  split at h
  · next x t => exact ⟨x, t, rfl, (Option.some.inj h).symm⟩
  · cases h
theorem dx_lcm_inv {pc : Nat} {L st : List Value} {m : dx_M} {c' : dx_F} (h : dx_lcm pc L st m = some c') : ∃ x y t, st = .long y :: .long x :: t ∧ c' = (pc, L, .int (lg_cmp x y) :: t, m) := by
  unfold dx_lcm at h
  split at h
  · next y x t => exact ⟨x, y, t, rfl, (Option.some.inj h).symm⟩
  · cases h
theorem dx_dup_inv {pc : Nat} {L st : List Value} {m : dx_M} {c' : dx_F} (h : dx_dup pc L st m = some c') : ∃ v t, st = v :: t ∧ v.category = 1 ∧ c' = (pc, L, v :: v :: t, m) := by
  unfold dx_dup at h
  split at h
  · next x t => exact ⟨_, t, rfl, rfl, (Option.some.inj h).symm⟩
  · next x t => exact ⟨_, t, rfl, rfl, (Option.some.inj h).symm⟩
  · cases h
theorem dx_dup2_inv {pc : Nat} {L st : List Value} {m : dx_M} {c' : dx_F} (h : dx_dup2 pc L st m = some c') : ∃ x y t, st = .int x :: .ref y :: t ∧ c' = (pc, L, .int x :: .ref y :: .int x :: .ref y :: t, m) := by
  unfold dx_dup2 at h
  split at h
  · next x y t => exact ⟨x, y, t, rfl, (Option.some.inj h).symm⟩
  · cases h
theorem dx_get_inv {lay : List dx_Cell} {a b pc : Nat} {L st : List Value} {m : dx_M} {c' : dx_F} (h : dx_get lay a b pc L st m = some c') : ∃ k t fl v, st = .ref k :: t ∧ lay[k]? = some (.inl (a, fl)) ∧ dx_fld m k b fl[b]? = some v ∧ c' = (pc, L, v :: t, m) := by
  unfold dx_get at h
  split at h
  · next k t =>
    split at h
    · next ci fl e =>
      split at h
      · next e2 =>
        have e3 : ci = a := Nat.eq_of_beq_eq_true e2
        subst e3
        split at h
        · next v e4 => exact ⟨k, t, fl, v, rfl, e, e4, (Option.some.inj h).symm⟩
        · cases h
      · cases h
    · cases h
  · cases h
theorem dx_fld_cv {ad : Nat → Nat} {m : dx_M} {k b : Nat} {fl : List (Nat × Nat)} {v : Value} (h : dx_fld m k b fl[b]? = some v) : (fl.mapIdx (fun j q => dx_fv ad (m.1 k j) (m.2 k j) q))[b]? = some (dx_cv ad v) := by
  rw [List.getElem?_mapIdx]
  cases e : fl[b]? with
  | none => rw [e] at h; cases h
  | some q =>
    rw [e] at h
    obtain ⟨κ, q⟩ := q
    match κ, h with
    | 0, h => cases h; rfl
    | 1, h => cases h; rfl
    | 2, h => cases h; rfl
    | 3, h => cases h; rfl
    | n + 4, h => cases h
theorem dx_put_inv {lay : List dx_Cell} {a b pc : Nat} {L st : List Value} {m : dx_M} {c' : dx_F} (h : dx_put lay a b pc L st m = some c') :
    (∃ x k t fl κ q, st = .int x :: .ref k :: t ∧ lay[k]? = some (.inl (a, fl)) ∧ fl[b]? = some (κ, q) ∧ (κ = 0 ∨ (κ = 1 ∧ (x = 0 ∨ x = 1))) ∧ c' = (pc, L, t, dx_pI m k b x)) ∨
    (∃ x k t fl q, st = .long x :: .ref k :: t ∧ lay[k]? = some (.inl (a, fl)) ∧ fl[b]? = some (2, q) ∧ c' = (pc, L, t, dx_pL m k b x)) := by
  unfold dx_put at h
  split at h
  · next x k t =>
    split at h
    · next ci fl e =>
      split at h
      · next e2 =>
        have e3 : ci = a := Nat.eq_of_beq_eq_true e2
        subst e3
        split at h
        · next q e4 => exact Or.inl ⟨x, k, t, fl, 0, q, rfl, e, e4, Or.inl rfl, (Option.some.inj h).symm⟩
        · next q e4 => exact Or.inl ⟨x, k, t, fl, 1, q, rfl, e, e4, Or.inr ⟨rfl, (dx_if_some h).1⟩, (dx_if_some h).2⟩
        · cases h
      · cases h
    · cases h
  · next x k t =>
    split at h
    · next ci fl e =>
      split at h
      · next e2 =>
        have e3 : ci = a := Nat.eq_of_beq_eq_true e2
        subst e3
        split at h
        · next q e4 => exact Or.inr ⟨x, k, t, fl, q, rfl, e, e4, (Option.some.inj h).symm⟩
        · cases h
      · cases h
    · cases h
  · cases h
theorem dx_ald_inv {lay : List dx_Cell} {pc : Nat} {L st : List Value} {m : dx_M} {c' : dx_F} (h : dx_ald lay pc L st m = some c') : ∃ i k t n rs, st = .int i :: .ref k :: t ∧ lay[k]? = some (.inr (0, n, rs)) ∧ vp_in i n ∧ c' = (pc, L, .int (m.1 k i.toNatClampNeg) :: t, m) := by
  unfold dx_ald at h
  split at h
  · next i k t =>
    split at h
    · next n rs e => exact ⟨i, k, t, n, rs, rfl, e, (dx_if_some h).1, (dx_if_some h).2⟩
    · cases h
  · cases h
theorem dx_bld_inv {lay : List dx_Cell} {pc : Nat} {L st : List Value} {m : dx_M} {c' : dx_F} (h : dx_bld lay pc L st m = some c') : ∃ i k t n rs, st = .int i :: .ref k :: t ∧ (lay[k]? = some (.inr (1, n, rs)) ∨ lay[k]? = some (.inr (2, n, rs))) ∧ vp_in i n ∧ c' = (pc, L, .int (m.1 k i.toNatClampNeg) :: t, m) := by
  unfold dx_bld at h
  split at h
  · next i k t =>
    split at h
    · next n rs e => exact ⟨i, k, t, n, rs, rfl, Or.inl e, (dx_if_some h).1, (dx_if_some h).2⟩
    · next n rs e => exact ⟨i, k, t, n, rs, rfl, Or.inr e, (dx_if_some h).1, (dx_if_some h).2⟩
    · cases h
  · cases h
theorem dx_rld_inv {pc : Nat} {L t : List Value} {m : dx_M} {n : Nat} {rs : List Nat} {i : Int32} {c' : dx_F} (h : dx_rld pc L t m n rs i = some c') : vp_in i n ∧ ∃ q, rs[i.toNatClampNeg]? = some q ∧ c' = (pc, L, .ref q :: t, m) := by
  unfold dx_rld at h
  by_cases hq : ¬ (i < 0 ∨ n ≤ i.toNatClampNeg)
  · rw [if_pos hq] at h
    split at h
    · next q e => exact ⟨hq, q, e, (Option.some.inj h).symm⟩
    · cases h
  · rw [if_neg hq] at h; cases h
theorem dx_aad_inv {lay : List dx_Cell} {pc : Nat} {L st : List Value} {m : dx_M} {c' : dx_F} (h : dx_aad lay pc L st m = some c') : ∃ i k t n rs q, st = .int i :: .ref k :: t ∧ (lay[k]? = some (.inr (3, n, rs)) ∨ lay[k]? = some (.inr (4, n, rs))) ∧ vp_in i n ∧ rs[i.toNatClampNeg]? = some q ∧ c' = (pc, L, .ref q :: t, m) := by
  unfold dx_aad at h
  split at h
  · next i k t =>
    split at h
    · next n rs e =>
      obtain ⟨h1, q, h2, h3⟩ := dx_rld_inv h
      exact ⟨i, k, t, n, rs, q, rfl, Or.inl e, h1, h2, h3⟩
    · next n rs e =>
      obtain ⟨h1, q, h2, h3⟩ := dx_rld_inv h
      exact ⟨i, k, t, n, rs, q, rfl, Or.inr e, h1, h2, h3⟩
    · cases h
  · cases h
theorem dx_ast_inv {lay : List dx_Cell} {pc : Nat} {L st : List Value} {m : dx_M} {c' : dx_F} (h : dx_ast lay pc L st m = some c') : ∃ x i k t n rs, st = .int x :: .int i :: .ref k :: t ∧ lay[k]? = some (.inr (0, n, rs)) ∧ vp_in i n ∧ c' = (pc, L, t, dx_pI m k i.toNatClampNeg x) := by
  unfold dx_ast at h
  split at h
  · next x i k t =>
    split at h
    · next n rs e => exact ⟨x, i, k, t, n, rs, rfl, e, (dx_if_some h).1, (dx_if_some h).2⟩
    · cases h
  · cases h
theorem dx_bst_inv {lay : List dx_Cell} {pc : Nat} {L st : List Value} {m : dx_M} {c' : dx_F} (h : dx_bst lay pc L st m = some c') : ∃ x i k t n rs, st = .int x :: .int i :: .ref k :: t ∧ vp_in i n ∧ ((lay[k]? = some (.inr (1, n, rs)) ∧ c' = (pc, L, t, dx_pI m k i.toNatClampNeg (vp_nar .byte x))) ∨ (lay[k]? = some (.inr (2, n, rs)) ∧ c' = (pc, L, t, dx_pI m k i.toNatClampNeg (vp_nar .boolean x)))) := by
  unfold dx_bst at h
  split at h
  · next x i k t =>
    split at h
    · next n rs e => exact ⟨x, i, k, t, n, rs, rfl, (dx_if_some h).1, Or.inl ⟨e, (dx_if_some h).2⟩⟩
    · next n rs e => exact ⟨x, i, k, t, n, rs, rfl, (dx_if_some h).1, Or.inr ⟨e, (dx_if_some h).2⟩⟩
    · cases h
  · cases h
end
section
section DXE
variable {p : Program} {l : Launch} {e : Env} {R : Room} {s : State} {m : MethodId} {args : Array Value} {below : List Frame} {meth : Method} {c : Code} {H : Heap} {locs : List Loc} {cells slots : Nat} {Q : State → Prop}
variable {K : dx_K} {D : va_G} {cA : Nat → ClassId} {tys : List (ClassId × FieldType)} {lay : List dx_Cell} {A : Nat → Prop} {H0 : Heap} {ad : Nat → Nat} {ls : Array Slot} {L st : List Value} {mm : dx_M} {pc : Nat} {P : List dx_K}
/-- what is to be shown of the machine at a frame of the deep machine -/
abbrev dx_at (p : Program) (l : Launch) (e : Env) (R : Room) (s : State) (m : MethodId) (args : Array Value) (below : List Frame) (meth : Method) (c : Code) (cells slots : Nat) (Q : State → Prop) (D : va_G) (cA : Nat → ClassId) (ad : Nat → Nat) (lay : List dx_Cell) (A : Nat → Prop) (H0 : Heap) (f : dx_F) : Prop :=
  ∀ (ls : Array Slot) (H : Heap) (locs : List Loc), dx_LO ad ls f.2.1 → dx_Wd D cA ad lay A H0 f.2.2.2 H locs → W p l e R s m args below meth c H locs cells slots Q (F0 m f.1 ls (f.2.2.1.map (dx_cv ad)))
theorem dx_ex_get (X : dx_Cx p s m args c K D cA tys lay) (hlay : dx_layok lay) (hpk : ∀ (x : Nat) (e : Nat × Nat × Nat), dx_look K.2.2 x = some e → dx_pok P K.1.1.cls x e) {x a b : Nat} {c' : dx_F} (hd : decode K.1.2.1 pc = .ok (.getfield x, 3)) (hk : dx_look K.2.2 x = some (0, a, b)) (h : dx_get lay a b (pc + 3) L st mm = some c') (hL : dx_LO ad ls L) (hW : dx_Wd D cA ad lay A H0 mm H locs) (kk : dx_at p l e R s m args below meth c cells slots Q D cA ad lay A H0 c') : W p l e R s m args below meth c H locs cells slots Q (F0 m pc ls (st.map (dx_cv ad))) := by
  obtain ⟨hx, hb, hml, hown, hts, hK, hty⟩ := X
  obtain ⟨k, t, fl, v, rfl, h1, h2, rfl⟩ := dx_get_inv h
  obtain ⟨C, T, N, g1, g2, g3⟩ := hpk x _ hk
  obtain ⟨C', T', N', g1', ⟨⟨ty0, q1⟩, q2, q3⟩, q4, q5⟩ := hlay k a fl h1
  have e1 := g1.symm.trans g1'
  cases e1
  exact va_get (D := D) (ci := a) (v := dx_cv ad v) (C := C) (T := T) (N := N) (Ts := dx_T) hx hb hts q3 hown hK hW.1 k (dx_W_get h1) g1 b g2 (hts _ g3) (fun _ h9 => h9) (dx_fld_cv h2) hd (kk ls H locs hL hW)
theorem dx_ex_put (X : dx_Cx p s m args c K D cA tys lay) (hlay : dx_layok lay) (hpk : ∀ (x : Nat) (e : Nat × Nat × Nat), dx_look K.2.2 x = some e → dx_pok P K.1.1.cls x e) {x a b : Nat} {c' : dx_F} (hd : decode K.1.2.1 pc = .ok (.putfield x, 3)) (hk : dx_look K.2.2 x = some (0, a, b)) (h : dx_put lay a b (pc + 3) L st mm = some c') (hL : dx_LO ad ls L) (hW : dx_Wd D cA ad lay A H0 mm H locs) (kk : dx_at p l e R s m args below meth c cells slots Q D cA ad lay A H0 c') : W p l e R s m args below meth c H locs cells slots Q (F0 m pc ls (st.map (dx_cv ad))) := by
  obtain ⟨hx, hb, hml, hown, hts, hK, hty⟩ := X
  obtain ⟨C, T, N, g1, g2, g3⟩ := hpk x _ hk
  rcases dx_put_inv h with ⟨z, k, t, fl, κ, q, rfl, h1, h2, h3, rfl⟩ | ⟨z, k, t, fl, q, rfl, h1, h2, rfl⟩
  · obtain ⟨C', T', N', g1', ⟨⟨ty0, q1⟩, q2, q3⟩, q4, q5⟩ := hlay k a fl h1
    have e1 := g1.symm.trans g1'
    cases e1
    have hbl : b < fl.length := (List.getElem?_eq_some_iff.mp h2).1
    rcases h3 with rfl | ⟨rfl, h3⟩
    · have q6 := (q5 b 0 q h2).1 rfl
      refine va_put (D := D) (ci := a) (v := .int z) (ty := .int) (C := C) (T := T) (N := N) (Ts := dx_T) hx hb hts q3 ty0 q1 q2 hown hK hW.1 hW.2.1 hW.2.2 k (dx_W_get h1) g1 b g2 (hts _ g3) (fun _ h9 => h9) (by rw [q6]) (by rw [q6]; decide +kernel) rfl rfl (by rw [List.length_mapIdx]; exact hbl) hd (fun H1 locs1 hP1 hD1 hS1 => ?_)
      rw [dx_W_int h1 h2 (Or.inl rfl)] at hP1 hD1
      exact kk ls H1 locs1 hL ⟨hP1, hD1, hS1⟩
    · have q6 := (q5 b 1 q h2).2.1 rfl
      refine va_put (D := D) (ci := a) (v := .int z) (ty := .boolean) (C := C) (T := T) (N := N) (Ts := dx_T) hx hb hts q3 ty0 q1 q2 hown hK hW.1 hW.2.1 hW.2.2 k (dx_W_get h1) g1 b g2 (hts _ g3) (fun _ h9 => h9) (by rw [q6]) (by rw [q6]; decide +kernel) (by rcases h3 with rfl | rfl <;> rfl) (by rcases h3 with rfl | rfl <;> rfl) (by rw [List.length_mapIdx]; exact hbl) hd (fun H1 locs1 hP1 hD1 hS1 => ?_)
      rw [dx_W_int h1 h2 (Or.inr rfl)] at hP1 hD1
      exact kk ls H1 locs1 hL ⟨hP1, hD1, hS1⟩
  · obtain ⟨C', T', N', g1', ⟨⟨ty0, q1⟩, q2, q3⟩, q4, q5⟩ := hlay k a fl h1
    have e1 := g1.symm.trans g1'
    cases e1
    have hbl : b < fl.length := (List.getElem?_eq_some_iff.mp h2).1
    have q6 := (q5 b 2 q h2).2.2 rfl
    refine va_put (D := D) (ci := a) (v := .long z) (ty := .long) (C := C) (T := T) (N := N) (Ts := dx_T) hx hb hts q3 ty0 q1 q2 hown hK hW.1 hW.2.1 hW.2.2 k (dx_W_get h1) g1 b g2 (hts _ g3) (fun _ h9 => h9) (by rw [q6]) (by rw [q6]; decide +kernel) rfl rfl (by rw [List.length_mapIdx]; exact hbl) hd (fun H1 locs1 hP1 hD1 hS1 => ?_)
    rw [dx_W_long h1 h2] at hP1 hD1
    exact kk ls H1 locs1 hL ⟨hP1, hD1, hS1⟩
theorem dx_ex_ald (X : dx_Cx p s m args c K D cA tys lay) {c' : dx_F} (hd : decode K.1.2.1 pc = .ok (.iaload, 1)) (h : dx_ald lay (pc + 1) L st mm = some c') (hL : dx_LO ad ls L) (hW : dx_Wd D cA ad lay A H0 mm H locs) (kk : dx_at p l e R s m args below meth c cells slots Q D cA ad lay A H0 c') : W p l e R s m args below meth c H locs cells slots Q (F0 m pc ls (st.map (dx_cv ad))) := by
  obtain ⟨hx, hb, hml, hown, hts, hK, hty⟩ := X
  obtain ⟨i, k, t, n, rs, rfl, h1, h2, rfl⟩ := dx_ald_inv h
  obtain ⟨t0, ht⟩ := hty k 0 n rs h1
  exact va_iald hx hb hK hW.1 k t0 (cA := cA 0) (n := n) (f := mm.1 k) (dx_W_get h1) ht h2 hd (kk ls H locs hL hW)
theorem dx_ex_bld (X : dx_Cx p s m args c K D cA tys lay) {c' : dx_F} (hd : decode K.1.2.1 pc = .ok (.baload, 1)) (h : dx_bld lay (pc + 1) L st mm = some c') (hL : dx_LO ad ls L) (hW : dx_Wd D cA ad lay A H0 mm H locs) (kk : dx_at p l e R s m args below meth c cells slots Q D cA ad lay A H0 c') : W p l e R s m args below meth c H locs cells slots Q (F0 m pc ls (st.map (dx_cv ad))) := by
  obtain ⟨hx, hb, hml, hown, hts, hK, hty⟩ := X
  obtain ⟨i, k, t, n, rs, rfl, h1, h2, rfl⟩ := dx_bld_inv h
  rcases h1 with h1 | h1
  · obtain ⟨t0, ht⟩ := hty k 1 n rs h1
    exact va_bald hx hb hK hW.1 k t0 (cA := cA 1) (n := n) (f := mm.1 k) (dx_W_get h1) ht h2 hd (kk ls H locs hL hW)
  · obtain ⟨t0, ht⟩ := hty k 2 n rs h1
    exact va_zald hx hb hK hW.1 k t0 (cA := cA 2) (n := n) (f := mm.1 k) (dx_W_get h1) ht h2 hd (kk ls H locs hL hW)
theorem dx_ex_aad (X : dx_Cx p s m args c K D cA tys lay) {c' : dx_F} (hd : decode K.1.2.1 pc = .ok (.aaload, 1)) (h : dx_aad lay (pc + 1) L st mm = some c') (hL : dx_LO ad ls L) (hW : dx_Wd D cA ad lay A H0 mm H locs) (kk : dx_at p l e R s m args below meth c cells slots Q D cA ad lay A H0 c') : W p l e R s m args below meth c H locs cells slots Q (F0 m pc ls (st.map (dx_cv ad))) := by
  obtain ⟨hx, hb, hml, hown, hts, hK, hty⟩ := X
  obtain ⟨i, k, t, n, rs, q, rfl, h1, h2, h3, rfl⟩ := dx_aad_inv h
  have hlt : i.toNatClampNeg < n := Nat.not_le.mp fun q => h2 (Or.inr q)
  rcases h1 with h1 | h1
  · obtain ⟨t0, ht⟩ := hty k 3 n rs h1
    have hc := hW.1 k _ (dx_W_get h1)
    refine W.aald (v := .ref (ad q)) (ty := .object "LogsAfloat$Load") hx hb (a := ad k) (cell := vp_cell (cA 3) (n, .inr (.inr (.inr (.inr (fun i => (rs[i]?).map ad)))))) hc ((hK.2 t0 _ ht).1 n (fun j => va_rf ((rs[j]?).map ad))) rfl (fun q => by cases q) (by show ¬ (i < 0 ∨ (arrV _ _ _).slots.size ≤ _); rw [arrV_size]; exact h2) (by show (arrV _ _ _).slots[_]? = _; rw [arrV_read _ _ hlt]; show some (va_rf ((rs[i.toNatClampNeg]?).map ad)) = _; rw [h3]; rfl) rfl rfl hd (kk ls H locs hL hW)
  · obtain ⟨t0, ht⟩ := hty k 4 n rs h1
    have hc := hW.1 k _ (dx_W_get h1)
    refine W.aald (v := .ref (ad q)) (ty := .array .byte) hx hb (a := ad k) (cell := vp_cell (cA 4) (n, .inr (.inr (.inr (.inr (fun i => (rs[i]?).map ad)))))) hc ((hK.2 t0 _ ht).1 n (fun j => va_rf ((rs[j]?).map ad))) rfl (fun q => by cases q) (by show ¬ (i < 0 ∨ (arrV _ _ _).slots.size ≤ _); rw [arrV_size]; exact h2) (by show (arrV _ _ _).slots[_]? = _; rw [arrV_read _ _ hlt]; show some (va_rf ((rs[i.toNatClampNeg]?).map ad)) = _; rw [h3]; rfl) rfl rfl hd (kk ls H locs hL hW)
theorem dx_ex_ast (X : dx_Cx p s m args c K D cA tys lay) {c' : dx_F} (hd : decode K.1.2.1 pc = .ok (.iastore, 1)) (h : dx_ast lay (pc + 1) L st mm = some c') (hL : dx_LO ad ls L) (hW : dx_Wd D cA ad lay A H0 mm H locs) (kk : dx_at p l e R s m args below meth c cells slots Q D cA ad lay A H0 c') : W p l e R s m args below meth c H locs cells slots Q (F0 m pc ls (st.map (dx_cv ad))) := by
  obtain ⟨hx, hb, hml, hown, hts, hK, hty⟩ := X
  obtain ⟨x, i, k, t, n, rs, rfl, h1, h2, rfl⟩ := dx_ast_inv h
  obtain ⟨t0, ht⟩ := hty k 0 n rs h1
  refine va_iast hx hb hK hW.1 hW.2.1 hW.2.2 k t0 (cA := cA 0) (n := n) (f := mm.1 k) (dx_W_get h1) ht h2 hd (fun H1 locs1 hP1 hD1 hS1 => ?_)
  rw [dx_W_row h1 (by omega)] at hP1 hD1
  exact kk ls H1 locs1 hL ⟨hP1, hD1, hS1⟩
theorem dx_ex_bst (X : dx_Cx p s m args c K D cA tys lay) {c' : dx_F} (hd : decode K.1.2.1 pc = .ok (.bastore, 1)) (h : dx_bst lay (pc + 1) L st mm = some c') (hL : dx_LO ad ls L) (hW : dx_Wd D cA ad lay A H0 mm H locs) (kk : dx_at p l e R s m args below meth c cells slots Q D cA ad lay A H0 c') : W p l e R s m args below meth c H locs cells slots Q (F0 m pc ls (st.map (dx_cv ad))) := by
  obtain ⟨hx, hb, hml, hown, hts, hK, hty⟩ := X
  obtain ⟨x, i, k, t, n, rs, rfl, h2, ⟨h1, rfl⟩ | ⟨h1, rfl⟩⟩ := dx_bst_inv h
  · obtain ⟨t0, ht⟩ := hty k 1 n rs h1
    refine va_bast hx hb hK hW.1 hW.2.1 hW.2.2 k t0 (cA := cA 1) (n := n) (f := mm.1 k) (dx_W_get h1) ht h2 hd (fun H1 locs1 hP1 hD1 hS1 => ?_)
    rw [dx_W_row h1 (by omega)] at hP1 hD1
    exact kk ls H1 locs1 hL ⟨hP1, hD1, hS1⟩
  · obtain ⟨t0, ht⟩ := hty k 2 n rs h1
    refine va_zast hx hb hK hW.1 hW.2.1 hW.2.2 k t0 (cA := cA 2) (n := n) (f := mm.1 k) (dx_W_get h1) ht h2 hd (fun H1 locs1 hP1 hD1 hS1 => ?_)
    rw [dx_W_row h1 (by omega)] at hP1 hD1
    exact kk ls H1 locs1 hL ⟨hP1, hD1, hS1⟩
theorem dx_ex_stI (X : dx_Cx p s m args c K D cA tys lay) {i n : Nat} {c' : dx_F} (hd : (decode K.1.2.1 pc = .ok (.istore i, 2) ∧ n = 2) ∨ (∃ k : Fin 4, k.val = i ∧ decode K.1.2.1 pc = .ok (.istore_n k, 1) ∧ n = 1)) (h : dx_stI (pc + n) L st mm i = some c') (hL : dx_LO ad ls L) (hW : dx_Wd D cA ad lay A H0 mm H locs) (kk : dx_at p l e R s m args below meth c cells slots Q D cA ad lay A H0 c') : W p l e R s m args below meth c H locs cells slots Q (F0 m pc ls (st.map (dx_cv ad))) := by
  obtain ⟨hx, hb, hml, hown, hts, hK, hty⟩ := X
  obtain ⟨x, t, rfl, h1, rfl⟩ := dx_stI_inv h
  rcases hd with ⟨hd, rfl⟩ | ⟨k, hk, hd, rfl⟩
  · exact lv_istore (x := x) hx hb hd hL.has h1 rfl (fun ls' hl => kk ls' H locs (dx_LO.st1 (v := .int x) hl) hW)
  · exact lv_istore_n (x := x) hx hb hd hk hL.has h1 rfl (fun ls' hl => kk ls' H locs (dx_LO.st1 (v := .int x) hl) hW)
theorem dx_ex_stL (X : dx_Cx p s m args c K D cA tys lay) {i n : Nat} {c' : dx_F} (hd : (decode K.1.2.1 pc = .ok (.lstore i, 2) ∧ n = 2) ∨ (∃ k : Fin 4, k.val = i ∧ decode K.1.2.1 pc = .ok (.lstore_n k, 1) ∧ n = 1)) (h : dx_stL (pc + n) L st mm i = some c') (hL : dx_LO ad ls L) (hW : dx_Wd D cA ad lay A H0 mm H locs) (kk : dx_at p l e R s m args below meth c cells slots Q D cA ad lay A H0 c') : W p l e R s m args below meth c H locs cells slots Q (F0 m pc ls (st.map (dx_cv ad))) := by
  obtain ⟨hx, hb, hml, hown, hts, hK, hty⟩ := X
  obtain ⟨x, t, rfl, h1, rfl⟩ := dx_stL_inv h
  rcases hd with ⟨hd, rfl⟩ | ⟨k, hk, hd, rfl⟩
  · exact lv_lstore (x := x) hx hb hd hL.has h1 rfl (fun ls' hl => kk ls' H locs (dx_LO.st2 (v := .long x) hl) hW)
  · exact lv_lstore_n (x := x) hx hb hd hk hL.has h1 rfl (fun ls' hl => kk ls' H locs (dx_LO.st2 (v := .long x) hl) hW)
theorem dx_ex_stA (X : dx_Cx p s m args c K D cA tys lay) {i n : Nat} {c' : dx_F} (hd : (decode K.1.2.1 pc = .ok (.astore i, 2) ∧ n = 2) ∨ (∃ k : Fin 4, k.val = i ∧ decode K.1.2.1 pc = .ok (.astore_n k, 1) ∧ n = 1)) (h : dx_stA (pc + n) L st mm i = some c') (hL : dx_LO ad ls L) (hW : dx_Wd D cA ad lay A H0 mm H locs) (kk : dx_at p l e R s m args below meth c cells slots Q D cA ad lay A H0 c') : W p l e R s m args below meth c H locs cells slots Q (F0 m pc ls (st.map (dx_cv ad))) := by
  obtain ⟨hx, hb, hml, hown, hts, hK, hty⟩ := X
  obtain ⟨x, t, rfl, h1, rfl⟩ := dx_stA_inv h
  rcases hd with ⟨hd, rfl⟩ | ⟨k, hk, hd, rfl⟩
  · exact lv_astore (x := ad x) hx hb hd hL.has h1 rfl (fun ls' hl => kk ls' H locs (dx_LO.st1 (v := .ref x) hl) hW)
  · exact lv_astore_n (x := ad x) hx hb hd hk hL.has h1 rfl (fun ls' hl => kk ls' H locs (dx_LO.st1 (v := .ref x) hl) hW)
theorem dx_ex_inc (X : dx_Cx p s m args c K D cA tys lay) {i : Nat} {z : Int} {v : Value} {c' : dx_F} (hd : decode K.1.2.1 pc = .ok (.iinc i z, 3)) (hv : v = .int (Int32.ofInt z)) (h : dx_inc (pc + 3) L st mm i v = some c') (hL : dx_LO ad ls L) (hW : dx_Wd D cA ad lay A H0 mm H locs) (kk : dx_at p l e R s m args below meth c cells slots Q D cA ad lay A H0 c') : W p l e R s m args below meth c H locs cells slots Q (F0 m pc ls (st.map (dx_cv ad))) := by
  obtain ⟨hx, hb, hml, hown, hts, hK, hty⟩ := X
  obtain ⟨x, y, h1, h2, h3, rfl⟩ := dx_inc_inv h
  subst hv
  cases h2
  have hm : (i, Value.int x) ∈ dx_al ad L := dx_al_mem.mpr ⟨.int x, dx_ld_some h1 (fun q => by cases q), (fun q => by cases q), rfl⟩
  obtain ⟨k, hk⟩ := List.getElem?_of_mem hm
  exact lv_iinc (x := x) hx hb hd hL.has hk rfl h3 rfl (fun ls' hl => kk ls' H locs (dx_LO.st1 (v := .int (x + Int32.ofInt z)) hl) hW)
theorem dx_ex_sw (X : dx_Cx p s m args c K D cA tys lay) {dflt lo hi : Int} {offs : Array Int} {len d : Nat} {ts : List (Int32 × Nat)} {c' : dx_F} (hd : decode K.1.2.1 pc = .ok (.tableswitch dflt lo hi offs, len)) (h0 : (pc : Int) + dflt = (d : Int)) (h1 : ∀ q ∈ ts, ¬ q.1.toInt < lo ∧ ¬ hi < q.1.toInt ∧ ∃ off, offs[(q.1.toInt - lo).toNat]? = some off ∧ (pc : Int) + off = (q.2 : Int)) (h2 : ∀ j : Nat, j < (hi - lo + 1).toNat → ∃ q ∈ ts, q.1.toInt = lo + (j : Int)) (h : dx_if1 (fun x => dx_sw ts x d) L st mm = some c') (hL : dx_LO ad ls L) (hW : dx_Wd D cA ad lay A H0 mm H locs) (kk : dx_at p l e R s m args below meth c cells slots Q D cA ad lay A H0 c') : W p l e R s m args below meth c H locs cells slots Q (F0 m pc ls (st.map (dx_cv ad))) := by
  obtain ⟨hx, hb, hml, hown, hts, hK, hty⟩ := X
  obtain ⟨x, t, rfl, rfl⟩ := dx_if1_inv h
  have key : ∀ ts : List (Int32 × Nat), (∃ q ∈ ts, x = q.1 ∧ dx_sw ts x d = q.2) ∨ ((∀ q ∈ ts, x ≠ q.1) ∧ dx_sw ts x d = d) := by
    intro ts
    induction ts with
    | nil => exact Or.inr ⟨fun q hq => (by cases hq), rfl⟩
    | cons a r ih =>
      obtain ⟨k, g⟩ := a
      by_cases e : x = k
      · exact Or.inl ⟨(k, g), List.mem_cons_self, e, by simp [dx_sw, e]⟩
      · rcases ih with ⟨q, hq, e1, e2⟩ | ⟨e1, e2⟩
        · exact Or.inl ⟨q, List.mem_cons_of_mem _ hq, e1, by simp only [dx_sw, if_neg e]; exact e2⟩
        · exact Or.inr ⟨fun q hq => (List.mem_cons.mp hq).elim (fun z => by rw [z]; exact e) (e1 q), by simp only [dx_sw, if_neg e]; exact e2⟩
  have kk2 := kk ls H locs hL hW
  rcases key ts with ⟨q, hq, e1, e2⟩ | ⟨e1, e2⟩
  · obtain ⟨a1, a2, off, a3, a4⟩ := h1 q hq
    refine lv_tableIn (x := x) (tgt := q.2) (off := off) hx hb hd (by rw [e1]; exact a1) (by rw [e1]; exact a2) (by rw [e1]; exact a3) a4 ?_
    have kk3 : W p l e R s m args below meth c H locs cells slots Q (F0 m (dx_sw ts x d) ls (t.map (dx_cv ad))) := kk2
    rw [e2] at kk3
    exact kk3
  · have hout : x.toInt < lo ∨ hi < x.toInt := by
      by_cases b1 : x.toInt < lo
      · exact Or.inl b1
      · by_cases b2 : hi < x.toInt
        · exact Or.inr b2
        · obtain ⟨q, hq, e3⟩ := h2 (x.toInt - lo).toNat (by omega)
          have e4 : q.1.toInt = x.toInt := by omega
          exact absurd (Int32.toInt_inj.mp e4).symm (e1 q hq)
    refine lv_tableOut (x := x) (tgt := d) hx hb hd hout h0 ?_
    have kk3 : W p l e R s m args below meth c H locs cells slots Q (F0 m (dx_sw ts x d) ls (t.map (dx_cv ad))) := kk2
    rw [e2] at kk3
    exact kk3
end DXE
end
section
section DXA
variable {p : Program} {l : Launch} {e : Env} {R : Room} {s : State} {m : MethodId} {args : Array Value} {below : List Frame} {meth : Method} {c : Code} {H : Heap} {locs : List Loc} {cells slots : Nat} {Q : State → Prop}
variable {K : dx_K} {D : va_G} {cA : Nat → ClassId} {tys : List (ClassId × FieldType)} {lay : List dx_Cell} {A : Nat → Prop} {H0 : Heap} {ad : Nat → Nat} {ls : Array Slot} {L st : List Value} {mm : dx_M} {pc : Nat} {P : List dx_K}
set_option maxHeartbeats 4000000 in
/-- one plain step of the deep machine is a step of the machine -/
theorem dx_ex_ok (X : dx_Cx p s m args c K D cA tys lay) (hlay : dx_layok lay) (hpk : ∀ (x : Nat) (e : Nat × Nat × Nat), dx_look K.2.2 x = some e → dx_pok P K.1.1.cls x e) {r : dx_I} {c' : dx_F} (hd : decode K.1.2.1 pc = .ok (r.1, r.2.1)) (hr : dx_rch K pc r = true) (h : dx_ex lay r pc L st mm = some c') (hL : dx_LO ad ls L) (hW : dx_Wd D cA ad lay A H0 mm H locs) (kk : dx_at p l e R s m args below meth c cells slots Q D cA ad lay A H0 c') : W p l e R s m args below meth c H locs cells slots Q (F0 m pc ls (st.map (dx_cv ad))) := by
  have X0 := X
  obtain ⟨hx, hb, hml, hown, hts, hK, hty⟩ := X
  obtain ⟨i, n, v, a, b, cc, ts⟩ := r
  unfold dx_rch at hr
  rw [Bool.and_eq_true] at hr
  obtain ⟨hn, hr⟩ := hr
  dsimp only at hd hn
  cases i
  case iconst z =>
    obtain rfl : n = 1 := of_decide_eq_true hn
    obtain rfl : v = .int (Int32.ofInt z) := of_decide_eq_true hr
    cases h
    exact lv_iconst hx hb hd rfl (kk ls H locs hL hW)
  case bipush z =>
    obtain rfl : n = 2 := of_decide_eq_true hn
    obtain rfl : v = .int (Int8.ofInt z).toInt32 := of_decide_eq_true hr
    cases h
    exact lv_bipush hx hb hd rfl (kk ls H locs hL hW)
  case sipush z =>
    obtain rfl : n = 3 := of_decide_eq_true hn
    obtain rfl : v = .int (Int16.ofInt z).toInt32 := of_decide_eq_true hr
    cases h
    exact lv_sipush hx hb hd rfl (kk ls H locs hL hW)
  case lconst z =>
    obtain rfl : n = 1 := of_decide_eq_true hn
    obtain rfl : v = .long (Int64.ofNat z) := of_decide_eq_true hr
    cases h
    exact lv_lconst hx hb hd rfl (kk ls H locs hL hW)
  case ldc_w x =>
    obtain rfl : n = 3 := of_decide_eq_true hn
    dsimp only [dx_rc2] at hr
    split at hr
    · next z w e1 =>
      obtain rfl : v = .int (Int32.ofInt ((z : Int) - 1000)) := of_decide_eq_true hr
      cases h
      exact lv_ldcw hx hb hown (hts _ (hpk x _ e1)) hd (kk ls H locs hL hW)
    · cases hr
  case ldc2_w x =>
    obtain rfl : n = 3 := of_decide_eq_true hn
    dsimp only [dx_rc2] at hr
    split at hr
    · next z w e1 =>
      obtain rfl : v = .long (Int64.ofInt ((z : Int) - 1000)) := of_decide_eq_true hr
      cases h
      exact lv_ldc2 hx hb hown (hts _ (hpk x _ e1)) hd (kk ls H locs hL hW)
    · cases hr
  case iload_n k =>
    obtain rfl : n = 1 := of_decide_eq_true hn
    obtain ⟨x, h1, rfl⟩ := dx_loI_inv h
    exact lv_iload_n hx hb hd rfl (hL.get h1 (fun q => by cases q)) (kk ls H locs hL hW)
  case iload k =>
    obtain rfl : n = 2 := of_decide_eq_true hn
    obtain ⟨x, h1, rfl⟩ := dx_loI_inv h
    exact lv_iload hx hb hd (hL.get h1 (fun q => by cases q)) (kk ls H locs hL hW)
  case lload_n k =>
    obtain rfl : n = 1 := of_decide_eq_true hn
    obtain ⟨x, h1, rfl⟩ := dx_loL_inv h
    exact lv_lload_n hx hb hd rfl (hL.get h1 (fun q => by cases q)) (kk ls H locs hL hW)
  case lload k =>
    obtain rfl : n = 2 := of_decide_eq_true hn
    obtain ⟨x, h1, rfl⟩ := dx_loL_inv h
    exact lv_lload hx hb hd (hL.get h1 (fun q => by cases q)) (kk ls H locs hL hW)
  case aload_n k =>
    obtain rfl : n = 1 := of_decide_eq_true hn
    obtain ⟨x, h1, rfl⟩ := dx_loA_inv h
    exact lv_aload_n hx hb hd rfl (hL.get h1 (fun q => by cases q)) (kk ls H locs hL hW)
  case aload k =>
    obtain rfl : n = 2 := of_decide_eq_true hn
    obtain ⟨x, h1, rfl⟩ := dx_loA_inv h
    exact lv_aload hx hb hd (hL.get h1 (fun q => by cases q)) (kk ls H locs hL hW)
  case istore_n k =>
    obtain rfl : n = 1 := of_decide_eq_true hn
    exact dx_ex_stI X0 (Or.inr ⟨k, rfl, hd, rfl⟩) h hL hW kk
  case istore k =>
    obtain rfl : n = 2 := of_decide_eq_true hn
    exact dx_ex_stI X0 (Or.inl ⟨hd, rfl⟩) h hL hW kk
  case lstore_n k =>
    obtain rfl : n = 1 := of_decide_eq_true hn
    exact dx_ex_stL X0 (Or.inr ⟨k, rfl, hd, rfl⟩) h hL hW kk
  case lstore k =>
    obtain rfl : n = 2 := of_decide_eq_true hn
    exact dx_ex_stL X0 (Or.inl ⟨hd, rfl⟩) h hL hW kk
  case astore_n k =>
    obtain rfl : n = 1 := of_decide_eq_true hn
    exact dx_ex_stA X0 (Or.inr ⟨k, rfl, hd, rfl⟩) h hL hW kk
  case astore k =>
    obtain rfl : n = 2 := of_decide_eq_true hn
    exact dx_ex_stA X0 (Or.inl ⟨hd, rfl⟩) h hL hW kk
  case iinc k z =>
    obtain rfl : n = 3 := of_decide_eq_true hn
    exact dx_ex_inc X0 hd (of_decide_eq_true hr) h hL hW kk
  case iadd =>
    obtain rfl : n = 1 := of_decide_eq_true hn
    obtain ⟨x, y, t, rfl, rfl⟩ := dx_bI_inv h
    exact lv_iadd hx hb hd (kk ls H locs hL hW)
  case isub =>
    obtain rfl : n = 1 := of_decide_eq_true hn
    obtain ⟨x, y, t, rfl, rfl⟩ := dx_bI_inv h
    exact lv_isub hx hb hd (kk ls H locs hL hW)
  case imul =>
    obtain rfl : n = 1 := of_decide_eq_true hn
    obtain ⟨x, y, t, rfl, rfl⟩ := dx_bI_inv h
    exact lv_imul hx hb hd (kk ls H locs hL hW)
  case iand =>
    obtain rfl : n = 1 := of_decide_eq_true hn
    obtain ⟨x, y, t, rfl, rfl⟩ := dx_bI_inv h
    exact lv_iand hx hb hd (kk ls H locs hL hW)
  case ior =>
    obtain rfl : n = 1 := of_decide_eq_true hn
    obtain ⟨x, y, t, rfl, rfl⟩ := dx_bI_inv h
    exact lv_ior hx hb hd (kk ls H locs hL hW)
  case ixor =>
    obtain rfl : n = 1 := of_decide_eq_true hn
    obtain ⟨x, y, t, rfl, rfl⟩ := dx_bI_inv h
    exact lv_ixor hx hb hd (kk ls H locs hL hW)
  case ishl =>
    obtain rfl : n = 1 := of_decide_eq_true hn
    obtain ⟨x, y, t, rfl, rfl⟩ := dx_bI_inv h
    exact lv_ishl hx hb hd (kk ls H locs hL hW)
  case ishr =>
    obtain rfl : n = 1 := of_decide_eq_true hn
    obtain ⟨x, y, t, rfl, rfl⟩ := dx_bI_inv h
    exact lv_ishr hx hb hd (kk ls H locs hL hW)
  case iushr =>
    obtain rfl : n = 1 := of_decide_eq_true hn
    obtain ⟨x, y, t, rfl, rfl⟩ := dx_bI_inv h
    exact lv_iushr hx hb hd rfl (kk ls H locs hL hW)
  case idiv =>
    obtain rfl : n = 1 := of_decide_eq_true hn
    obtain ⟨x, y, t, rfl, h0, rfl⟩ := dx_dI_inv h
    exact lv_idiv hx hb hd h0 (kk ls H locs hL hW)
  case irem =>
    obtain rfl : n = 1 := of_decide_eq_true hn
    obtain ⟨x, y, t, rfl, h0, rfl⟩ := dx_dI_inv h
    exact lv_irem hx hb hd h0 (kk ls H locs hL hW)
  case ladd =>
    obtain rfl : n = 1 := of_decide_eq_true hn
    obtain ⟨x, y, t, rfl, rfl⟩ := dx_bL_inv h
    exact lv_ladd hx hb hd (kk ls H locs hL hW)
  case lsub =>
    obtain rfl : n = 1 := of_decide_eq_true hn
    obtain ⟨x, y, t, rfl, rfl⟩ := dx_bL_inv h
    exact lv_lsub hx hb hd (kk ls H locs hL hW)
  case lmul =>
    obtain rfl : n = 1 := of_decide_eq_true hn
    obtain ⟨x, y, t, rfl, rfl⟩ := dx_bL_inv h
    exact lv_lmul hx hb hd (kk ls H locs hL hW)
  case ldiv =>
    obtain rfl : n = 1 := of_decide_eq_true hn
    obtain ⟨x, y, t, rfl, h0, rfl⟩ := dx_dL_inv h
    exact lv_ldiv hx hb hd h0 (kk ls H locs hL hW)
  case lrem =>
    obtain rfl : n = 1 := of_decide_eq_true hn
    obtain ⟨x, y, t, rfl, h0, rfl⟩ := dx_dL_inv h
    exact lv_lrem hx hb hd h0 (kk ls H locs hL hW)
  case lneg =>
    obtain rfl : n = 1 := of_decide_eq_true hn
    obtain ⟨x, t, rfl, rfl⟩ := dx_unL_inv h
    exact lv_lneg hx hb hd (kk ls H locs hL hW)
  case i2l =>
    obtain rfl : n = 1 := of_decide_eq_true hn
    obtain ⟨x, t, rfl, rfl⟩ := dx_unI_inv h
    exact lv_i2l hx hb hd rfl (kk ls H locs hL hW)
  case i2b =>
    obtain rfl : n = 1 := of_decide_eq_true hn
    obtain ⟨x, t, rfl, rfl⟩ := dx_unI_inv h
    exact lv_i2b hx hb hd rfl (kk ls H locs hL hW)
  case lcmp =>
    obtain rfl : n = 1 := of_decide_eq_true hn
    obtain ⟨x, y, t, rfl, rfl⟩ := dx_lcm_inv h
    exact W.lcmp hx hb hd (kk ls H locs hL hW)
  case dup =>
    obtain rfl : n = 1 := of_decide_eq_true hn
    obtain ⟨w, t, rfl, h1, rfl⟩ := dx_dup_inv h
    exact lv_dup hx hb hd (by rw [dx_cv_cat]; exact h1) (kk ls H locs hL hW)
  case dup2 =>
    obtain rfl : n = 1 := of_decide_eq_true hn
    obtain ⟨x, y, t, rfl, rfl⟩ := dx_dup2_inv h
    exact lv_dup2_11 hx hb hd rfl rfl (kk ls H locs hL hW)
  case goto off =>
    obtain rfl : n = 3 := of_decide_eq_true hn
    have ht : (pc : Int) + off = (a : Int) := of_decide_eq_true hr
    cases h
    exact lv_goto hx hb hd ht (kk ls H locs hL hW)
  case ifCond cd off =>
    obtain rfl : n = 3 := of_decide_eq_true hn
    have ht : (pc : Int) + off = (a : Int) := of_decide_eq_true hr
    cases cd
    · obtain ⟨x, t, rfl, rfl⟩ := dx_if1_inv h
      refine lv_if_eq hx hb hd ht (fun q => ?_) (fun q => ?_)
      · have k2 := kk ls H locs hL hW
        dsimp only at k2
        rw [if_pos q] at k2
        exact k2
      · have k2 := kk ls H locs hL hW
        dsimp only at k2
        rw [if_neg q] at k2
        exact k2
    · obtain ⟨x, t, rfl, rfl⟩ := dx_if1_inv h
      refine lv_if_ne hx hb hd ht (fun q => ?_) (fun q => ?_)
      · have k2 := kk ls H locs hL hW
        dsimp only at k2
        rw [if_neg q] at k2
        exact k2
      · have k2 := kk ls H locs hL hW
        dsimp only at k2
        rw [if_pos q] at k2
        exact k2
    · obtain ⟨x, t, rfl, rfl⟩ := dx_if1_inv h
      refine lv_if_lt hx hb hd ht (fun q => ?_) (fun q => ?_)
      · have k2 := kk ls H locs hL hW
        dsimp only at k2
        rw [if_pos q] at k2
        exact k2
      · have k2 := kk ls H locs hL hW
        dsimp only at k2
        rw [if_neg q] at k2
        exact k2
    · obtain ⟨x, t, rfl, rfl⟩ := dx_if1_inv h
      refine lv_if_ge hx hb hd ht (fun q => ?_) (fun q => ?_)
      · have k2 := kk ls H locs hL hW
        dsimp only at k2
        rw [if_pos q] at k2
        exact k2
      · have k2 := kk ls H locs hL hW
        dsimp only at k2
        rw [if_neg q] at k2
        exact k2
    · obtain ⟨x, t, rfl, rfl⟩ := dx_if1_inv h
      refine lv_if_gt hx hb hd ht (fun q => ?_) (fun q => ?_)
      · have k2 := kk ls H locs hL hW
        dsimp only at k2
        rw [if_pos q] at k2
        exact k2
      · have k2 := kk ls H locs hL hW
        dsimp only at k2
        rw [if_neg q] at k2
        exact k2
    · obtain ⟨x, t, rfl, rfl⟩ := dx_if1_inv h
      refine lv_if_le hx hb hd ht (fun q => ?_) (fun q => ?_)
      · have k2 := kk ls H locs hL hW
        dsimp only at k2
        rw [if_pos q] at k2
        exact k2
      · have k2 := kk ls H locs hL hW
        dsimp only at k2
        rw [if_neg q] at k2
        exact k2
  case if_icmp cd off =>
    obtain rfl : n = 3 := of_decide_eq_true hn
    have ht : (pc : Int) + off = (a : Int) := of_decide_eq_true hr
    cases cd
    · obtain ⟨x, y, t, rfl, rfl⟩ := dx_if2_inv h
      refine lv_icmp_eq hx hb hd ht (fun q => ?_) (fun q => ?_)
      · have k2 := kk ls H locs hL hW
        dsimp only at k2
        rw [if_pos q] at k2
        exact k2
      · have k2 := kk ls H locs hL hW
        dsimp only at k2
        rw [if_neg q] at k2
        exact k2
    · obtain ⟨x, y, t, rfl, rfl⟩ := dx_if2_inv h
      refine lv_icmp_ne hx hb hd ht (fun q => ?_) (fun q => ?_)
      · have k2 := kk ls H locs hL hW
        dsimp only at k2
        rw [if_neg q] at k2
        exact k2
      · have k2 := kk ls H locs hL hW
        dsimp only at k2
        rw [if_pos q] at k2
        exact k2
    · obtain ⟨x, y, t, rfl, rfl⟩ := dx_if2_inv h
      refine lv_icmp_lt hx hb hd ht (fun q => ?_) (fun q => ?_)
      · have k2 := kk ls H locs hL hW
        dsimp only at k2
        rw [if_pos q] at k2
        exact k2
      · have k2 := kk ls H locs hL hW
        dsimp only at k2
        rw [if_neg q] at k2
        exact k2
    · obtain ⟨x, y, t, rfl, rfl⟩ := dx_if2_inv h
      refine lv_icmp_ge hx hb hd ht (fun q => ?_) (fun q => ?_)
      · have k2 := kk ls H locs hL hW
        dsimp only at k2
        rw [if_pos q] at k2
        exact k2
      · have k2 := kk ls H locs hL hW
        dsimp only at k2
        rw [if_neg q] at k2
        exact k2
    · obtain ⟨x, y, t, rfl, rfl⟩ := dx_if2_inv h
      refine lv_icmp_gt hx hb hd ht (fun q => ?_) (fun q => ?_)
      · have k2 := kk ls H locs hL hW
        dsimp only at k2
        rw [if_pos q] at k2
        exact k2
      · have k2 := kk ls H locs hL hW
        dsimp only at k2
        rw [if_neg q] at k2
        exact k2
    · obtain ⟨x, y, t, rfl, rfl⟩ := dx_if2_inv h
      refine lv_icmp_le hx hb hd ht (fun q => ?_) (fun q => ?_)
      · have k2 := kk ls H locs hL hW
        dsimp only at k2
        rw [if_pos q] at k2
        exact k2
      · have k2 := kk ls H locs hL hW
        dsimp only at k2
        rw [if_neg q] at k2
        exact k2
  case tableswitch dflt lo hi offs =>
    dsimp only [dx_rc2] at hr
    simp only [Bool.and_eq_true, decide_eq_true_eq, List.all_eq_true, List.any_eq_true, List.mem_range] at hr
    obtain ⟨a1, a2, a3⟩ := hr
    refine dx_ex_sw X0 hd a1 (fun q hq => ?_) (fun j hj => ?_) h hL hW kk
    · obtain ⟨⟨b1, b2⟩, b3⟩ := a2 q hq
      split at b3
      · next off e1 => exact ⟨b1, b2, off, e1, of_decide_eq_true b3⟩
      · cases b3
    · obtain ⟨q, hq, e1⟩ := a3 j hj
      exact ⟨q, hq, e1⟩
  case getfield x =>
    obtain rfl : n = 3 := of_decide_eq_true hn
    exact dx_ex_get X0 hlay hpk hd (of_decide_eq_true hr) h hL hW kk
  case putfield x =>
    obtain rfl : n = 3 := of_decide_eq_true hn
    exact dx_ex_put X0 hlay hpk hd (of_decide_eq_true hr) h hL hW kk
  case iaload =>
    obtain rfl : n = 1 := of_decide_eq_true hn
    exact dx_ex_ald X0 hd h hL hW kk
  case baload =>
    obtain rfl : n = 1 := of_decide_eq_true hn
    exact dx_ex_bld X0 hd h hL hW kk
  case aaload =>
    obtain rfl : n = 1 := of_decide_eq_true hn
    exact dx_ex_aad X0 hd h hL hW kk
  case iastore =>
    obtain rfl : n = 1 := of_decide_eq_true hn
    exact dx_ex_ast X0 hd h hL hW kk
  case bastore =>
    obtain rfl : n = 1 := of_decide_eq_true hn
    exact dx_ex_bst X0 hd h hL hW kk
  all_goals exact absurd (show (none : Option dx_F) = some c' from h) (fun q => by cases q)
end DXA
end
section
/-! returns, calls, the copy; a run of the deep machine gives the method's contract -/
theorem dx_rx_inv {ret : Option FieldType} {i : Instr} {st : List Value} {r : Option Value} (h : dx_rx ret i st = some r) :
    (i = .return_ ∧ ret = none ∧ st = [] ∧ r = none) ∨ (∃ v, i = .ireturn ∧ ret = some .int ∧ st = [.int v] ∧ r = some (.int v)) ∨ (∃ v, i = .ireturn ∧ ret = some .boolean ∧ st = [.int v] ∧ (v = 0 ∨ v = 1) ∧ r = some (.int v)) ∨ (∃ v, i = .lreturn ∧ ret = some .long ∧ st = [.long v] ∧ r = some (.long v)) := by
  unfold dx_rx at h
  split at h
  · exact Or.inl ⟨rfl, rfl, rfl, (Option.some.inj h).symm⟩
  · next v => exact Or.inr (Or.inl ⟨v, rfl, rfl, rfl, (Option.some.inj h).symm⟩)
  · next v => exact Or.inr (Or.inr (Or.inl ⟨v, rfl, rfl, rfl, (dx_if_some h).1, (dx_if_some h).2⟩))
  · next v => exact Or.inr (Or.inr (Or.inr ⟨v, rfl, rfl, rfl, (Option.some.inj h).symm⟩))
  · cases h
theorem dx_cS_inv {r : dx_I} {st : List Value} {q : Nat × List Value × List Value} (h : dx_cS r st = some q) : q.1 = r.2.2.2.2.1 ∧ q.2.1.length = r.2.2.2.2.2.1 ∧ st = q.2.1.reverse ++ q.2.2 ∧ (q.2.2.map fun v => v.category).sum ≤ 8 := by
  unfold dx_cS at h
  obtain ⟨⟨h1, h2⟩, h3⟩ := dx_if_some h
  subst h3
  exact ⟨rfl, by rw [List.length_reverse]; exact h1, by simp, h2⟩
theorem dx_cV_inv {lay : List dx_Cell} {r : dx_I} {st : List Value} {q : Nat × List Value × List Value} (h : dx_cV lay r st = some q) : ∃ (k ci : Nat) (as : List Value) (fl : List (Nat × Nat)), r.2.2.1 = .ref ci ∧ lay[k]? = some (.inl (ci, fl)) ∧ q.1 = r.2.2.2.2.1 ∧ q.2.1 = .ref k :: as ∧ as.length = r.2.2.2.2.2.1 ∧ st = as.reverse ++ .ref k :: q.2.2 ∧ (q.2.2.map fun v => v.category).sum ≤ 8 := by
  unfold dx_cV at h
  split at h
  · next k t ci e1 e2 =>
    split at h
    · next cj fl e3 =>
      obtain ⟨⟨h0, h1, h2⟩, h3⟩ := dx_if_some h
      subst h3
      subst h0
      refine ⟨k, cj, (st.take r.2.2.2.2.2.1).reverse, fl, e2, e3, rfl, rfl, by rw [List.length_reverse]; exact h1, ?_, h2⟩
      rw [List.reverse_reverse, ← e1, List.take_append_drop]
    · cases h
  · cases h
def dx_rm (d : Nat) : Room := { frames := d, cells := 0, slots := 0, locals := 38 * d }
def dx_ws (K : dx_K) : List Cond := Cond.code K.1.1 K.1.2.1 K.1.2.2.1 K.1.2.2.2 :: dx_T
def dx_B (D : va_G) (cA : Nat → ClassId) (tys : List (ClassId × FieldType)) (ad : Nat → Nat) (lay : List dx_Cell) (mm : dx_M) (U : State) : Prop := va_P D vwCl (dx_W ad cA lay mm) U.heap ∧ va_K D vwCl tys U ∧ dx_Ns U ∧ va_D (fun _ => True) (dx_W ad cA lay mm)
def dx_Q (D : va_G) (cA : Nat → ClassId) (ad : Nat → Nat) (lay : List dx_Cell) (A : Nat → Prop) (Z : Option Value → dx_M → Prop) : Array Value → State → Outcome → State → Prop := fun _ st oc t => (∃ (r : Option Value) (mm : dx_M), oc = .returned (r.map (dx_cv ad)) ∧ Z r mm ∧ va_P D vwCl (dx_W ad cA lay mm) t.heap ∧ va_D A (dx_W ad cA lay mm)) ∧ va_F A st t
/-- the contract of a method that the deep machine runs -/
def dx_Met (l : Launch) (K : dx_K) (lay : List dx_Cell) (d : Nat) (as : List Value) (mm : dx_M) (Z : Option Value → dx_M → Prop) : Prop :=
  ∀ (D : va_G) (cA : Nat → ClassId) (tys : List (ClassId × FieldType)) (ad : Nat → Nat) (sz : Nat), (∀ (k t n : Nat) (rs : List Nat), lay[k]? = some (.inr (t, n, rs)) → ∃ t0 : Nat, tys[t0]? = some (cA t, dx_ty t)) →
  Met l K.1.1 (dx_ws K) (dx_rm d) (va_Pc (as.map (dx_cv ad)) (fun U => U.heap.size = sz ∧ dx_B D cA tys ad lay mm U)) (dx_Q D cA ad lay (va_A (dx_W ad cA lay mm) sz) Z) 0 0 (va_A (dx_W ad cA lay mm) sz)
section DXM
variable {p : Program} {l : Launch} {e : Env} {R : Room} {s : State} {m : MethodId} {args : Array Value} {below : List Frame} {meth : Method} {c : Code} {H : Heap} {locs : List Loc} {cells slots : Nat} {Q : State → Prop}
variable {K : dx_K} {D : va_G} {cA : Nat → ClassId} {tys : List (ClassId × FieldType)} {lay : List dx_Cell} {A0 A1 : Nat → Prop} {H0 : Heap} {ad : Nat → Nat} {ls : Array Slot} {L st : List Value} {mm : dx_M} {pc : Nat} {P : List dx_K}
theorem dx_callg {Z : Option Value → dx_M → Prop} {rest st0 : List Value} {a : Array Value} {free : Addr → Prop} (hr : va_Run p l e R s m args below meth c H locs cells slots 0 0 (F0 m pc ls st0) rest (dx_Q D cA ad lay A1 Z a) free) (hS : va_S A0 H0 H locs) (hA : ∀ q, q < H.size → A1 q → A0 q) (hf : ∀ q, free q → A0 q)
    (kk : ∀ (r : Option Value) (mm' : dx_M) (H1 : Heap) (locs1 : List Loc), Z r mm' → va_P D vwCl (dx_W ad cA lay mm') H1 → va_D A1 (dx_W ad cA lay mm') → H.size ≤ H1.size → (∀ q : Nat, q < H.size → ¬ A1 q → H1[q]? = H[q]?) → va_S A0 H0 H1 locs1 → W p l e R s m args below meth c H1 locs1 cells slots Q (F0 m (pc + 3) ls ((r.map (dx_cv ad)).toList ++ rest))) : W p l e R s m args below meth c H locs cells slots Q (F0 m pc ls st0) := by
  intro T hT X
  obtain ⟨v, st₀, t, T', L, h0, X', hL, e1, e2, ⟨⟨r, mm', hv, hz, hp, hd⟩, hzz, hk⟩, st⟩ := hr T hT X
  cases hv
  rw [h0] at hzz hk
  obtain ⟨t2, a1, b1⟩ := kk r mm' T'.heap (locs ++ L) hz (by rw [e1]; exact hp) hd (by rw [e1]; exact hzz) (fun q h1 h2 => by rw [e1]; exact hk q h1 h2)
    ⟨Nat.le_trans hS.1 (by rw [e1]; exact hzz), fun q h1 h2 => by rw [e1, hk q (Nat.lt_of_lt_of_le h1 hS.1) (fun z => h2 (hA q (Nat.lt_of_lt_of_le h1 hS.1) z))]; exact hS.2.1 q h1 h2, fun q hq => by
      rcases List.mem_append.mp hq with h | h
      · exact hS.2.2 q h
      · exact hf _ (hL q h)⟩ T' rfl X'
  exact ⟨t2, st t2 a1, b1⟩
theorem dx_blind {D : va_G} {cA : Nat → ClassId} {tys : List (ClassId × FieldType)} {ad : Nat → Nat} {lay : List dx_Cell} {mm : dx_M} {av : List Value} {sz : Nat} : FrameBlind (va_Pc av (fun U => U.heap.size = sz ∧ dx_B D cA tys ad lay mm U)) := by
  intro a U g mk q
  obtain ⟨q0, q1, qP, qK, qN, qD⟩ := q
  exact ⟨q0, q1, qP, va_K.moved (u := U) (U := U.calling g mk a) (Vm.Alike.refl U.vm) qK, fun w hw => va_Nw.same rfl rfl (qN w hw), qD⟩
theorem dx_Ns_warm {s U : State} (hW : s.WarmedH U.vm) (h : dx_Ns s) : dx_Ns U := fun q hq => va_Nw.warmM hW (h q hq)
theorem dx_free (hW : dx_Wd D cA ad lay A0 H0 mm H locs) (hA : ∀ q, H0.size ≤ q → A0 q) : ∀ q, va_A (dx_W ad cA lay mm) H.size q → A0 q := by
  intro q h
  rcases h with ⟨k, e, h⟩ | h
  · exact hW.2.1.2 k (q, e) h
  · exact hA q (Nat.le_trans hW.2.2.1 h)
theorem dx_toList (r : Option Value) (rest : List Value) : (r.map (dx_cv ad)).toList ++ rest.map (dx_cv ad) = (r.toList ++ rest).map (dx_cv ad) := by cases r <;> rfl
theorem dx_cat_map (rest : List Value) : ((rest.map (dx_cv ad)).map fun v => v.category) = rest.map fun v => v.category := by
  rw [List.map_map]
  exact List.map_congr_left (fun v _ => dx_cv_cat ad v)
/-- a call, as the deep machine sees it -/
theorem dx_ex_call (X : dx_Cx p s m args c K D cA tys lay) (hN : dx_Ns s) (hlay : dx_layok lay) (hpk : ∀ (x : Nat) (e : Nat × Nat × Nat), dx_look K.2.2 x = some e → dx_pok P K.1.1.cls x e) (hPk : ∀ (id : Nat) (K' : dx_K), P[id]? = some K' → K'.1.2.2.1 ≤ 19) {r : dx_I} {id d : Nat} {as rest : List Value} {Z1 : Option Value → dx_M → Prop} (hd : decode K.1.2.1 pc = .ok (r.1, r.2.1)) (hr : dx_rch K pc r = true) (h : dx_cx lay r st = some (id, as, rest))
    (hM : ∀ K', P[id]? = some K' → dx_Met l K' lay d as mm Z1) (hR : d + 1 ≤ R.frames ∧ 38 * (d + 1) ≤ R.locals) (hRc : cells ≤ R.cells ∧ slots ≤ R.slots) (hA : ∀ q, H0.size ≤ q → A0 q)
    (hL : dx_LO ad ls L) (hLl : L.length = K.1.2.2.1) (hW : dx_Wd D cA ad lay A0 H0 mm H locs) (kk : ∀ (r : Option Value) (mm' : dx_M), Z1 r mm' → dx_at p l e R s m args below meth c cells slots Q D cA ad lay A0 H0 (pc + 3, L, r.toList ++ rest, mm')) : W p l e R s m args below meth c H locs cells slots Q (F0 m pc ls (st.map (dx_cv ad))) := by
  have hF := dx_free hW hA
  obtain ⟨hx, hb, hml, hown, hts, hK, hty⟩ := X
  have hP0 : ∀ U : State, U.heap = H → s.WarmedH U.vm → U.heap.size = H.size ∧ dx_B D cA tys ad lay mm U := fun U hU hWm => ⟨by rw [hU], by rw [hU]; exact hW.1, va_K.moved hWm.alike hK, dx_Ns_warm hWm hN, hW.2.1.weaken (fun _ _ _ _ => trivial)⟩
  have hsz : ls.size = K.1.2.2.1 := hL.1.trans hLl
  have fin : ∀ (r : Option Value) (mm' : dx_M) (H1 : Heap) (locs1 : List Loc), Z1 r mm' → va_P D vwCl (dx_W ad cA lay mm') H1 → va_D (va_A (dx_W ad cA lay mm) H.size) (dx_W ad cA lay mm') → H.size ≤ H1.size → (∀ q : Nat, q < H.size → ¬ va_A (dx_W ad cA lay mm) H.size q → H1[q]? = H[q]?) → va_S A0 H0 H1 locs1 → W p l e R s m args below meth c H1 locs1 cells slots Q (F0 m (pc + 3) ls ((r.map (dx_cv ad)).toList ++ rest.map (dx_cv ad))) := by
    intro r mm' H1 locs1 hz hp hd9 _ _ hs
    rw [dx_toList]
    exact kk r mm' hz ls H1 locs1 hL ⟨hp, hd9.weaken (fun k q _ z => hF q.1 z), hs⟩
  obtain ⟨i, n, v, a, b, cn, ts⟩ := r
  unfold dx_rch at hr
  rw [Bool.and_eq_true] at hr
  obtain ⟨hn, hr⟩ := hr
  dsimp only at hd hn
  unfold dx_cx at h
  dsimp only at h
  split at h
  · next x =>
    obtain rfl : n = 3 := of_decide_eq_true hn
    obtain ⟨k, ci, as', fl, e0, e1, e2, e3, e4, e5, e6⟩ := dx_cV_inv h
    dsimp only at e0 e2 e3 e4 e5 e6
    subst e0; subst e2; subst e3; subst e5
    dsimp only [dx_rc2] at hr
    rw [Bool.and_eq_true] at hr
    obtain ⟨hr, hr2⟩ := hr
    have hr3 : cn < 16 := of_decide_eq_true hr2
    obtain ⟨K', q, g1, g2, g3, g4, g5, g6, g7, g8, g9, g10, g11⟩ := hpk x _ (of_decide_eq_true hr)
    have hcn : (cn + 16 * ci) / 16 = ci ∧ (cn + 16 * ci) % 16 = cn := by omega
    rw [hcn.1] at g2
    rw [hcn.2] at g11
    have hml' := hPk _ _ g1
    have hst : ((as'.reverse ++ Value.ref k :: rest).map (dx_cv ad)) = (as'.map (dx_cv ad)).reverse ++ .ref (ad k) :: rest.map (dx_cv ad) := by
      rw [List.map_append, List.map_reverse, List.map_cons]; rfl
    rw [hst]
    refine dx_callg (va_runV (As := as'.map (dx_cv ad)) (rest := rest.map (dx_cv ad)) (C := K'.1.1.cls) ⟨hx, hb, hml, hown, hts⟩ (hM K' g1 D cA tys ad H.size hty) (cwV (bytes := K'.1.2.1) (maxL := K'.1.2.2.1) (ret := K'.1.2.2.2) cn hts (dx_T_good ?_) rfl rfl rfl ⟨rfl, g9, g10, g11⟩ ⟨hR.1, ?_⟩) ⟨dx_blind, ?_, fun U hU hWm => ⟨rfl, hP0 U hU hWm⟩⟩ rfl (by rw [List.length_map]; exact e4) hsz rfl (lv_room (by rw [dx_cat_map]; exact e6)) hd hRc) hW.2.2 (fun q _ z => hF q z) hF fin
    · intro w hw
      simp only [wsV, dx_ws, List.mem_append, List.mem_cons, List.not_mem_nil, or_false] at hw
      rcases hw with (rfl | rfl | rfl | rfl) | rfl | hw <;> assumption
    · have := hR.2
      show 8 + (K'.1.2.2.1 + 11) + 38 * d ≤ R.locals
      omega
    · rw [← g3]
      exact va_recv hK hW.1 (ci := ci) (q0 := k) g2 (dx_W_get e1)
  · next x =>
    obtain rfl : n = 3 := of_decide_eq_true hn
    obtain ⟨e2, e4, e5, e6⟩ := dx_cS_inv h
    dsimp only at e2 e4 e5 e6
    subst e2; subst e5
    obtain ⟨K', g1, g4, g5, g7, g8, g9, g10, g11⟩ := hpk x _ (of_decide_eq_true hr)
    have hml' := hPk _ _ g1
    have hst : ((as.reverse ++ rest).map (dx_cv ad)) = (as.map (dx_cv ad)).reverse ++ rest.map (dx_cv ad) := by
      rw [List.map_append, List.map_reverse]
    rw [hst]
    refine dx_callg (va_runS (As := as.map (dx_cv ad)) (rest := rest.map (dx_cv ad)) ⟨hx, hb, hml, hown, hts⟩ (hM K' g1 D cA tys ad H.size hty) (va_cwS (bytes := K'.1.2.1) (maxL := K'.1.2.2.1) (ret := K'.1.2.2.2) cn hts (dx_T_good ?_) rfl rfl rfl ⟨g9, g10, g11⟩ ⟨hR.1, ?_⟩) ⟨dx_blind, fun U hU hWm => ⟨rfl, hP0 U hU hWm⟩⟩ rfl (by rw [List.length_map]; exact e4) hsz rfl (lv_room (by rw [dx_cat_map]; exact e6)) hd hRc) hW.2.2 (fun q _ z => hF q z) hF fin
    · intro w hw
      simp only [va_wsS, dx_ws, List.mem_append, List.mem_cons, List.not_mem_nil, or_false] at hw
      rcases hw with (rfl | rfl | rfl) | rfl | hw <;> assumption
    · have := hR.2
      show 8 + (K'.1.2.2.1 + 11) + 38 * d ≤ R.locals
      omega
  · next x =>
    obtain rfl : n = 3 := of_decide_eq_true hn
    obtain ⟨e2, e4, e5, e6⟩ := dx_cS_inv h
    dsimp only at e2 e4 e5 e6
    subst e2; subst e5
    obtain ⟨K', host, g1, g4, g5, g7, g8, g9, g10, g11⟩ := hpk x _ (of_decide_eq_true hr)
    have hml' := hPk _ _ g1
    have hst : ((as.reverse ++ rest).map (dx_cv ad)) = (as.map (dx_cv ad)).reverse ++ rest.map (dx_cv ad) := by
      rw [List.map_append, List.map_reverse]
    rw [hst]
    refine dx_callg (va_runSN (As := as.map (dx_cv ad)) (rest := rest.map (dx_cv ad)) ⟨hx, hb, hml, hown, hts⟩ (hM K' g1 D cA tys ad H.size hty) ⟨va_cnB (host := host) (bytes := K'.1.2.1) (maxL := K'.1.2.2.1) (ret := K'.1.2.2.2) cn hts (dx_T_good ?_) rfl rfl rfl (hN _ g4) (hts _ g7) ⟨g9, g10, g11⟩ ⟨hR.1, ?_⟩, hts _ g5, trivial⟩ ⟨dx_blind, fun U hU hWm => ⟨rfl, hP0 U hU hWm⟩⟩ rfl (by rw [List.length_map]; exact e4) hsz rfl (lv_room (by rw [dx_cat_map]; exact e6)) hd hRc) hW.2.2 (fun q _ z => hF q z) hF fin
    · intro w hw
      simp only [dx_ws, List.mem_cons] at hw
      rcases hw with rfl | hw <;> assumption
    · have := hR.2
      show 8 + (K'.1.2.2.1 + 11) + 38 * d ≤ R.locals
      omega
  · cases h
end DXM
end
section
section DXS
variable {p : Program} {l : Launch} {e : Env} {R : Room} {s : State} {m : MethodId} {args : Array Value} {below : List Frame} {meth : Method} {c : Code} {H : Heap} {locs : List Loc} {cells slots : Nat} {Q : State → Prop}
variable {K : dx_K} {D : va_G} {cA : Nat → ClassId} {tys : List (ClassId × FieldType)} {lay : List dx_Cell} {A : Nat → Prop} {H0 : Heap} {ad : Nat → Nat} {ls : Array Slot} {L st : List Value} {mm : dx_M} {pc : Nat} {P : List dx_K}
theorem dx_cpx_inv {r : dx_I} {c' : dx_F} (h : dx_cpx lay r pc L st mm = some c') : ∃ (x : Nat) (n j i : Int32) (k h9 n0 n1 : Nat) (r0 r1 : List Nat) (t : List Value), r.1 = .invokestatic x ∧ r.2.2.2.1 = 4 ∧ st = .int n :: .int j :: .ref k :: .int i :: .ref h9 :: t ∧ lay[h9]? = some (.inr (1, n0, r0)) ∧ lay[k]? = some (.inr (1, n1, r1)) ∧ (¬ i < 0 ∧ ¬ j < 0 ∧ ¬ n < 0 ∧ i.toNatClampNeg + n.toNatClampNeg ≤ n0 ∧ j.toNatClampNeg + n.toNatClampNeg ≤ n1 ∧ (∀ q, q < n.toNatClampNeg → fits .byte (.int (mm.1 h9 (i.toNatClampNeg + q))) = true) ∧ (t.map fun v => v.category).sum ≤ 8) ∧ c' = (pc + 3, L, t, dx_pR mm k (va_cpy (mm.1 h9) (mm.1 k) i.toNatClampNeg j.toNatClampNeg n.toNatClampNeg)) := by
  unfold dx_cpx at h
  split at h
  · next x n j k i h9 t e1 e2 =>
    split at h
    · next n0 r0 n1 r1 e3 e4 => exact ⟨x, n, j, i, k, h9, n0, n1, r0, r1, t, e1, e2, rfl, e3, e4, (dx_if_some h).1, (dx_if_some h).2⟩
    · cases h
  · cases h
theorem dx_ex_copy (X : dx_Cx p s m args c K D cA tys lay) (hpk : ∀ (x : Nat) (e : Nat × Nat × Nat), dx_look K.2.2 x = some e → dx_pok P K.1.1.cls x e) {r : dx_I} {c' : dx_F} (hd : decode K.1.2.1 pc = .ok (r.1, r.2.1)) (hr : dx_rch K pc r = true) (h : dx_cpx lay r pc L st mm = some c') (hR : 1 ≤ R.frames ∧ 38 ≤ R.locals) (hL : dx_LO ad ls L) (hLl : L.length = K.1.2.2.1) (hW : dx_Wd D cA ad lay A H0 mm H locs) (kk : dx_at p l e R s m args below meth c cells slots Q D cA ad lay A H0 c') : W p l e R s m args below meth c H locs cells slots Q (F0 m pc ls (st.map (dx_cv ad))) := by
  obtain ⟨hx, hb, hml, hown, hts, hK, hty⟩ := X
  obtain ⟨x, n, j, i, k, h9, n0, n1, r0, r1, t, e1, e2, rfl, e3, e4, ⟨f1, f2, f3, f4, f5, f6, f7⟩, rfl⟩ := dx_cpx_inv h
  obtain ⟨i0, n9, v, a, b, cn, ts⟩ := r
  dsimp only at e1 e2 hd
  subst e1; subst e2
  unfold dx_rch at hr
  rw [Bool.and_eq_true] at hr
  obtain ⟨hn, hr⟩ := hr
  obtain rfl : n9 = 3 := of_decide_eq_true hn
  obtain ⟨g1, g2, g3, g4⟩ := hpk x _ (of_decide_eq_true hr)
  obtain ⟨t0, ht0⟩ := hty h9 1 n0 r0 e3
  refine va_copyi (ty := .byte) hx hb (by rw [hml, ← hLl]; exact hL.1.symm) hown (hts _ g1) (hts _ g2) (hts _ g3) (hts _ g4) hK hW.1 hW.2.1 hW.2.2 h9 k t0 t0 (c0 := cA 1) (c1 := cA 1) (f := mm.1 h9) (g := mm.1 k) (dx_W_get e3) (dx_W_get e4) ht0 ht0 rfl f1 f2 f3 f4 f5 f6 hR.1 ?_ hd (fun H1 locs1 hP1 hD1 hS1 => ?_)
  · rw [dx_cat_map]
    have h3 : nativeFrameWords "java/lang/System" "arraycopy" 5 + 11 ≤ 30 := by decide +kernel
    have := hR.2
    omega
  · rw [dx_W_row e4 (by omega)] at hP1 hD1
    exact kk ls H1 locs1 hL ⟨hP1, hD1, hS1⟩
theorem dx_ex_mth (X : dx_Cx p s m args c K D cA tys lay) (hpk : ∀ (x : Nat) (e : Nat × Nat × Nat), dx_look K.2.2 x = some e → dx_pok P K.1.1.cls x e) {r : dx_I} {c' : dx_F} (hd : decode K.1.2.1 pc = .ok (r.1, r.2.1)) (hr : dx_rch K pc r = true) (h : dx_mth r pc L st mm = some c') (hR : 1 ≤ R.frames ∧ 38 ≤ R.locals) (hRc : cells ≤ R.cells ∧ slots ≤ R.slots) (hL : dx_LO ad ls L) (hLl : L.length = K.1.2.2.1) (hW : dx_Wd D cA ad lay A H0 mm H locs) (kk : dx_at p l e R s m args below meth c cells slots Q D cA ad lay A H0 c') : c'.2.1 = L ∧ W p l e R s m args below meth c H locs cells slots Q (F0 m pc ls (st.map (dx_cv ad))) := by
  obtain ⟨hx, hb, hml, hown, hts, hK, hty⟩ := X
  have hml2 : c.maxLocals = ls.size := by rw [hml, ← hLl]; exact hL.1.symm
  obtain ⟨i0, n9, v, a, b, cn, ts⟩ := r
  unfold dx_rch at hr
  rw [Bool.and_eq_true] at hr
  obtain ⟨hn, hr⟩ := hr
  unfold dx_mth at h
  dsimp only at hd hn h
  split at h
  · next x y z t =>
    obtain rfl : n9 = 3 := of_decide_eq_true hn
    obtain ⟨h1, rfl⟩ := dx_if_some h
    obtain ⟨g1, g2, g3, g4⟩ := hpk x _ (of_decide_eq_true hr)
    exact ⟨rfl, va_mmax hx hb hml2 hown (hts _ g1) (hts _ g2) (hts _ g3) (hts _ g4) hR.1 (by rw [dx_cat_map]; omega) hRc.1 hRc.2 hd (kk ls H locs hL hW)⟩
  · next x y z t =>
    obtain rfl : n9 = 3 := of_decide_eq_true hn
    obtain ⟨h1, rfl⟩ := dx_if_some h
    obtain ⟨g1, g2, g3, g4⟩ := hpk x _ (of_decide_eq_true hr)
    exact ⟨rfl, va_mmin hx hb hml2 hown (hts _ g1) (hts _ g2) (hts _ g3) (hts _ g4) hR.1 (by rw [dx_cat_map]; omega) hRc.1 hRc.2 hd (kk ls H locs hL hW)⟩
  · next x y t =>
    obtain rfl : n9 = 3 := of_decide_eq_true hn
    obtain ⟨h1, rfl⟩ := dx_if_some h
    obtain ⟨g1, g2, g3, g4⟩ := hpk x _ (of_decide_eq_true hr)
    exact ⟨rfl, va_mabs_long hx hb hml2 hown (hts _ g1) (hts _ g2) (hts _ g3) (hts _ g4) hR.1 (by rw [dx_cat_map]; omega) hRc.1 hRc.2 hd (kk ls H locs hL hW)⟩
  · cases h
theorem dx_mth_len {r : dx_I} {c' : dx_F} (h : dx_mth r pc L st mm = some c') : c'.2.1 = L := by
  unfold dx_mth at h
  split at h
  · rw [(dx_if_some h).2]
  · rw [(dx_if_some h).2]
  · rw [(dx_if_some h).2]
  · cases h
end DXS
theorem dx_ex_len {lay : List dx_Cell} {r : dx_I} {pc : Nat} {L st : List Value} {m : dx_M} {c' : dx_F} (h : dx_ex lay r pc L st m = some c') : c'.2.1.length = L.length := by
  obtain ⟨i, n, v, a, b, cc, ts⟩ := r
  cases i
  case ifCond cd off => cases cd <;> (obtain ⟨x, t, rfl, rfl⟩ := dx_if1_inv h; rfl)
  case if_icmp cd off => cases cd <;> (obtain ⟨x, y, t, rfl, rfl⟩ := dx_if2_inv h; rfl)
  all_goals first
    | exact absurd (show (none : Option dx_F) = some c' from h) (fun q => by cases q)
    | (obtain ⟨x, h1, rfl⟩ := dx_loI_inv h; rfl)
    | (obtain ⟨x, h1, rfl⟩ := dx_loL_inv h; rfl)
    | (obtain ⟨x, h1, rfl⟩ := dx_loA_inv h; rfl)
    | (obtain ⟨x, t, rfl, h1, rfl⟩ := dx_stI_inv h; exact dx_st1_len _ _ _)
    | (obtain ⟨x, t, rfl, h1, rfl⟩ := dx_stL_inv h; exact dx_st2_len _ _ _)
    | (obtain ⟨x, t, rfl, h1, rfl⟩ := dx_stA_inv h; exact dx_st1_len _ _ _)
    | (obtain ⟨x, y, h1, h2, h3, rfl⟩ := dx_inc_inv h; exact dx_st1_len _ _ _)
    | (obtain ⟨x, y, t, rfl, rfl⟩ := dx_bI_inv h; rfl)
    | (obtain ⟨x, y, t, rfl, rfl⟩ := dx_bL_inv h; rfl)
    | (obtain ⟨x, y, t, rfl, h1, rfl⟩ := dx_dI_inv h; rfl)
    | (obtain ⟨x, y, t, rfl, h1, rfl⟩ := dx_dL_inv h; rfl)
    | (obtain ⟨x, t, rfl, rfl⟩ := dx_if1_inv h; rfl)
    | (obtain ⟨x, t, rfl, rfl⟩ := dx_unI_inv h; rfl)
    | (obtain ⟨x, t, rfl, rfl⟩ := dx_unL_inv h; rfl)
    | (obtain ⟨x, y, t, rfl, rfl⟩ := dx_lcm_inv h; rfl)
    | (obtain ⟨v, t, rfl, h1, rfl⟩ := dx_dup_inv h; rfl)
    | (obtain ⟨x, y, t, rfl, rfl⟩ := dx_dup2_inv h; rfl)
    | (obtain ⟨k, t, fl, v, rfl, h1, h2, rfl⟩ := dx_get_inv h; rfl)
    | (rcases dx_put_inv h with ⟨z, k, t, fl, κ, q, rfl, h1, h2, h3, rfl⟩ | ⟨z, k, t, fl, q, rfl, h1, h2, rfl⟩ <;> rfl)
    | (obtain ⟨i, k, t, n, rs, rfl, h1, h2, rfl⟩ := dx_ald_inv h; rfl)
    | (obtain ⟨i, k, t, n, rs, rfl, h1, h2, rfl⟩ := dx_bld_inv h; rfl)
    | (obtain ⟨i, k, t, n, rs, q, rfl, h1, h2, h3, rfl⟩ := dx_aad_inv h; rfl)
    | (obtain ⟨x, i, k, t, n, rs, rfl, h1, h2, rfl⟩ := dx_ast_inv h; rfl)
    | (obtain ⟨x, i, k, t, n, rs, rfl, h2, ⟨h1, rfl⟩ | ⟨h1, rfl⟩⟩ := dx_bst_inv h <;> rfl)
    | (cases h; rfl)
theorem dx_body (l : Launch) {P : List dx_K} {lay : List dx_Cell} (hP : ∀ (id : Nat) (K : dx_K), P[id]? = some K → dx_Kok P K) (hlay : dx_layok lay) {d : Nat} {C : Nat → List Value → dx_M → (Option Value → dx_M → Prop) → Prop} (hC : ∀ (id : Nat) (as : List Value) (mm : dx_M) (Z1 : Option Value → dx_M → Prop), C id as mm Z1 → ∃ d', d = d' + 1 ∧ ∀ K', P[id]? = some K' → dx_Met l K' lay d' as mm Z1) {K : dx_K} (hK : dx_Kok P K) {as : List Value} {mm : dx_M} {Z : Option Value → dx_M → Prop} (hn : (dx_ent K.1.2.2.1 as).length = K.1.2.2.1) (g : dx_Go d C lay K Z (0, dx_ent K.1.2.2.1 as, [], mm)) : dx_Met l K lay d as mm Z := by
  intro D cA tys ad sz hty
  refine Met.ofW (cc := K.1.2.1) (maxL := K.1.2.2.1) (ret := K.1.2.2.2) hK.1 rfl ?_
  intro p e s m args below meth c s₁ B hml hv
  obtain ⟨rfl, hsz, hPw, hKw, hNs, hD0⟩ := hv
  subst hsz
  have hts0 := atoms_spec (ws := dx_ws K) B.pre
  have hts : ∀ w ∈ dx_T, w.before (as.map (dx_cv ad)).toArray s = true := fun w hw => hts0 w (List.mem_cons_of_mem _ hw)
  have hown : s.vm.findClass K.1.1.cls = some m.cls := findClass_of_methodNamed B.named
  have hlocks := B.notSynchronized
  have hret := B.returns
  have X : dx_Cx p s m (as.map (dx_cv ad)).toArray c K D cA tys lay := ⟨B.exec, B.bytes, hml, hown, hts, hKw, hty⟩
  have hD := hD0.self (sz := s.heap.size)
  generalize hAe : va_A (dx_W ad cA lay mm) s.heap.size = A at hD ⊢
  have hA : ∀ q : Nat, s.heap.size ≤ q → A q := fun q h => by rw [← hAe]; exact Or.inr h
  rw [lg_entry_eq]
  refine g (fun f => f.2.1.length = K.1.2.2.1 → dx_at p l e (headSpec (dx_ws K) (dx_rm d)).room s m (as.map (dx_cv ad)).toArray below meth c 0 0 (MQ below (dx_Q D cA ad lay A Z) (as.map (dx_cv ad)).toArray s 0 0 A) D cA ad lay A s.heap f) ?_ hn _ s.heap [] (dx_LO_entry hn) ⟨hPw, hD, va_S.rf⟩
  intro f hone hlen ls H locs hL hW
  obtain ⟨pc, L, st, mm1⟩ := f
  dsimp only at hlen hL hW ⊢
  rcases hone with ⟨c', h1, hx1⟩ | ⟨r, h1, hz⟩ | ⟨id, as1, rest, h1, hc⟩ | ⟨hd1, c', h1, hx1⟩
  · unfold dx_stp at h1
    split at h1
    · next r e1 =>
      obtain ⟨a1, a2⟩ := hK.2.2.1 pc r e1
      exact dx_ex_ok X hlay hK.2.2.2 a1 a2 h1 hL hW (hx1 (by rw [dx_ex_len h1]; exact hlen))
    · cases h1
  · unfold dx_rt at h1
    split at h1
    · next r9 e1 =>
      obtain ⟨a1, a2⟩ := hK.2.2.1 pc r9 e1
      obtain ⟨i, n, v, a, b, cn, ts⟩ := r9
      unfold dx_rch at a2
      rw [Bool.and_eq_true] at a2
      obtain ⟨hn1, -⟩ := a2
      dsimp only at a1 hn1 h1
      have hq : ∀ t : State, t.heap = H → s.WarmedH t.vm → dx_Q D cA ad lay A Z (as.map (dx_cv ad)).toArray s (.returned (r.map (dx_cv ad))) t := fun t ht _ => ⟨⟨r, mm1, rfl, hz, by rw [ht]; exact hW.1, hW.2.1⟩, hW.2.2.F ht⟩
      rcases dx_rx_inv h1 with ⟨rfl, b2, rfl, rfl⟩ | ⟨v9, rfl, b2, rfl, rfl⟩ | ⟨v9, rfl, b2, rfl, b3, rfl⟩ | ⟨v9, rfl, b2, rfl, rfl⟩
      · obtain rfl : n = 1 := of_decide_eq_true hn1
        exact W.vret B.exec B.bytes (hret.trans b2) hq hW.2.2.2.2 a1
      · obtain rfl : n = 1 := of_decide_eq_true hn1
        exact W.iret B.exec B.bytes (hret.trans b2) hq hW.2.2.2.2 a1
      · obtain rfl : n = 1 := of_decide_eq_true hn1
        exact W.zret B.exec B.bytes (hret.trans b2) (by rcases b3 with rfl | rfl <;> rfl) hq hW.2.2.2.2 a1
      · obtain rfl : n = 1 := of_decide_eq_true hn1
        exact W.lret B.exec B.bytes (hret.trans b2) hq hW.2.2.2.2 a1
    · cases h1
  · unfold dx_cl at h1
    split at h1
    · next r e1 =>
      obtain ⟨a1, a2⟩ := hK.2.2.1 pc r e1
      obtain ⟨d', rfl, hM⟩ := hC _ _ _ _ hc
      exact dx_ex_call X hNs hlay hK.2.2.2 (fun id K' h => (hP id K' h).2.1) a1 a2 h1 hM ⟨Nat.le_refl _, Nat.le_refl _⟩ ⟨Nat.le_refl _, Nat.le_refl _⟩ hA hL hlen hW (fun r mm' z => z hlen)
    · cases h1
  · unfold dx_cp at h1
    split at h1
    · next r e1 =>
      obtain ⟨a1, a2⟩ := hK.2.2.1 pc r e1
      have hR : 1 ≤ (headSpec (dx_ws K) (dx_rm d)).room.frames ∧ 38 ≤ (headSpec (dx_ws K) (dx_rm d)).room.locals := ⟨hd1, (by show 38 ≤ 38 * d; omega)⟩
      split at h1
      · next c9 e2 =>
        cases h1
        exact (dx_ex_mth X hK.2.2.2 a1 a2 e2 hR ⟨Nat.le_refl _, Nat.le_refl _⟩ hL hlen hW (hx1 (by rw [dx_mth_len e2]; exact hlen))).2
      · obtain ⟨x, n, j, i, k, h9, n0, n1, r0, r1, t, q1, q2, q3, q4, q5, q6, q7⟩ := dx_cpx_inv h1
        have hl2 : c'.2.1.length = K.1.2.2.1 := by rw [q7]; exact hlen
        exact dx_ex_copy X hK.2.2.2 a1 a2 h1 hR hL hlen hW (hx1 hl2)
    · cases h1
/-- WHAT THE DEEP MACHINE RUNS, THE MACHINE RUNS -/
theorem dx_sound (l : Launch) {P : List dx_K} {lay : List dx_Cell} (hP : ∀ (id : Nat) (K : dx_K), P[id]? = some K → dx_Kok P K) (hlay : dx_layok lay) : ∀ (d id : Nat) (as : List Value) (mm : dx_M) (Z : Option Value → dx_M → Prop) (K : dx_K), P[id]? = some K → dx_Sem P lay (d + 1) id as mm Z → dx_Met l K lay d as mm Z := by
  intro d
  induction d with
  | zero =>
    intro id as mm Z K hK ⟨K', h1, h2, h3⟩
    cases hK.symm.trans h1
    exact dx_body l hP hlay (fun _ _ _ _ h => h.elim) (hP id K hK) h2 h3
  | succ d ih =>
    intro id as mm Z K hK ⟨K', h1, h2, h3⟩
    cases hK.symm.trans h1
    exact dx_body l hP hlay (fun id1 as1 mm1 Z1 h => ⟨d, rfl, fun K1 hk1 => ih id1 as1 mm1 Z1 K1 hk1 h⟩) (hP id K hK) h2 h3
end
section
/-! the pools: each entry's words stand in the tables (printed by wip/whole/check.py) -/
theorem dx_look_all {α : Type} {F : Nat → α → Prop} : ∀ {l : List (Nat × α)} {x : Nat} {e : α}, (∀ q ∈ l, F q.1 q.2) → dx_look l x = some e → F x e
  | [], _, _, _, h => by cases h
  | (k, v) :: t, x, e, hl, h => by
    unfold dx_look at h
    split at h
    · next e1 =>
      cases h
      rw [← Nat.eq_of_beq_eq_true e1]
      exact hl (k, v) List.mem_cons_self
    · exact dx_look_all (fun q hq => hl q (List.mem_cons_of_mem _ hq)) h
theorem dx_pok0 {P : List dx_K} {own : String} {x a b : Nat} {C : String} {T : u_T} {N : Nat} (h1 : vwCl[a]? = some (C, T, N)) (h2 : b < N) (h3 : Cond.fieldLink own x (T b).1 (T b).2.1 (T b).2.2.1 ∈ dx_T) : dx_pok P own x (0, a, b) := by unfold dx_pok; exact ⟨C, T, N, h1, h2, h3⟩
/-- what a method needs to be called -/
def dx_Cok (K : dx_K) (n : Nat) : Prop := Cond.initialized K.1.1.cls ∈ dx_T ∧ Cond.code K.1.1 K.1.2.1 K.1.2.2.1 K.1.2.2.2 ∈ dx_T ∧ K.1.1.cls ≠ "java/lang/invoke/MethodHandle" ∧ K.1.1.cls ≠ "java/lang/invoke/VarHandle" ∧ (parseMethodDescriptor K.1.1.desc).map (fun d => d.parameters.length) = some n
theorem dx_pok1 {P : List dx_K} {own : String} {x id e n : Nat} {K : dx_K} {q : vw_C} (h0 : P[id]? = some K) (h1 : vwCl[e / 16]? = some q) (h2 : q.1 = K.1.1.cls) (h3 : Cond.methodLink own x K.1.1 ∈ dx_T) (h4 : Cond.instanceMethod K.1.1 ∈ dx_T) (h5 : Cond.selects K.1.1.cls K.1.1 K.1.1 ∈ dx_T) (h6 : dx_Cok K n) (h7 : e % 16 = n) : dx_pok P own x (1, id, e) := by
  unfold dx_pok
  exact ⟨K, q, h0, h1, h2, h3, h4, h5, h6.1, h6.2.1, h6.2.2.1, h6.2.2.2.1, by rw [h7]; exact h6.2.2.2.2⟩
theorem dx_pok2 {P : List dx_K} {own : String} {x id n : Nat} {K : dx_K} (h0 : P[id]? = some K) (h3 : Cond.methodLink own x K.1.1 ∈ dx_T) (h4 : Cond.static K.1.1 ∈ dx_T) (h6 : dx_Cok K n) : dx_pok P own x (2, id, n) := by
  unfold dx_pok
  exact ⟨K, h0, h3, h4, h6.1, h6.2.1, h6.2.2.1, h6.2.2.2.1, h6.2.2.2.2⟩
theorem dx_pok3 {P : List dx_K} {own : String} {x id n : Nat} {K : dx_K} {host : String} (h0 : P[id]? = some K) (h3 : (own, x, K.1.1, host) ∈ dx_nest) (h4 : Cond.static K.1.1 ∈ dx_T) (h6 : dx_Cok K n) : dx_pok P own x (3, id, n) := by
  unfold dx_pok
  exact ⟨K, host, h0, h3, h4, h6.1, h6.2.1, h6.2.2.1, h6.2.2.2.1, h6.2.2.2.2⟩
theorem dx_pok4 {P : List dx_K} {own : String} {x a b : Nat} (h1 : Cond.methodLink own x arraycopyName ∈ dx_T) (h2 : Cond.native arraycopyName ∈ dx_T) (h3 : Cond.static arraycopyName ∈ dx_T) (h4 : Cond.initialized "java/lang/System" ∈ dx_T) : dx_pok P own x (4, a, b) := by
  unfold dx_pok
  exact ⟨h1, h2, h3, h4⟩
theorem dx_pok7 {P : List dx_K} {own : String} {x a b : Nat} (h1 : Cond.methodLink own x Lib.Math.max.name ∈ dx_T) (h2 : Cond.static Lib.Math.max.name ∈ dx_T) (h3 : Cond.initialized "java/lang/Math" ∈ dx_T) (h4 : Cond.code Lib.Math.max.name Lib.Math.max.code 2 (some .int) ∈ dx_T) : dx_pok P own x (7, a, b) := by
  unfold dx_pok
  exact ⟨h1, h2, h3, h4⟩
theorem dx_pok8 {P : List dx_K} {own : String} {x a b : Nat} (h1 : Cond.methodLink own x Lib.Math.min.name ∈ dx_T) (h2 : Cond.static Lib.Math.min.name ∈ dx_T) (h3 : Cond.initialized "java/lang/Math" ∈ dx_T) (h4 : Cond.code Lib.Math.min.name Lib.Math.min.code 2 (some .int) ∈ dx_T) : dx_pok P own x (8, a, b) := by
  unfold dx_pok
  exact ⟨h1, h2, h3, h4⟩
theorem dx_pok9 {P : List dx_K} {own : String} {x a b : Nat} (h1 : Cond.methodLink own x Lib.MathLoose.abs_long.x ∈ dx_T) (h2 : Cond.static Lib.MathLoose.abs_long.x ∈ dx_T) (h3 : Cond.initialized "java/lang/Math" ∈ dx_T) (h4 : Cond.code Lib.MathLoose.abs_long.x Lib.MathLoose.abs_long.code 2 (some .long) ∈ dx_T) : dx_pok P own x (9, a, b) := by
  unfold dx_pok
  exact ⟨h1, h2, h3, h4⟩
theorem dx_pok5 {P : List dx_K} {own : String} {x z b : Nat} (h1 : Cond.constant own x (Int32.ofInt ((z : Int) - 1000)) ∈ dx_T) : dx_pok P own x (5, z, b) := by
  unfold dx_pok
  exact h1
theorem dx_pok6 {P : List dx_K} {own : String} {x z b : Nat} (h1 : Cond.constantLong own x (Int64.ofInt ((z : Int) - 1000)) ∈ dx_T) : dx_pok P own x (6, z, b) := by
  unfold dx_pok
  exact h1
set_option maxRecDepth 20000 in
theorem kc_X0_begin : dx_Cok km_X0_begin 2 := ⟨(dx_T_of (List.mem_of_getElem? (i := 38) (by decide +kernel)) (by decide +kernel)), (dx_T_of (List.mem_of_getElem? (i := 63) (by decide +kernel)) (by decide +kernel)), by decide +kernel, by decide +kernel, by decide +kernel⟩
set_option maxRecDepth 20000 in
theorem kc_X0_has : dx_Cok km_X0_has 2 := ⟨(dx_T_of (List.mem_of_getElem? (i := 38) (by decide +kernel)) (by decide +kernel)), (dx_T_of (List.mem_of_getElem? (i := 211) (by decide +kernel)) (by decide +kernel)), by decide +kernel, by decide +kernel, by decide +kernel⟩
set_option maxRecDepth 20000 in
theorem kc_X0_weightOf : dx_Cok km_X0_weightOf 2 := ⟨(dx_T_of (List.mem_of_getElem? (i := 38) (by decide +kernel)) (by decide +kernel)), (dx_T_of (List.mem_of_getElem? (i := 216) (by decide +kernel)) (by decide +kernel)), by decide +kernel, by decide +kernel, by decide +kernel⟩
set_option maxRecDepth 20000 in
theorem kc_X0_put : dx_Cok km_X0_put 3 := ⟨(dx_T_of (List.mem_of_getElem? (i := 38) (by decide +kernel)) (by decide +kernel)), (dx_T_of (List.mem_of_getElem? (i := 220) (by decide +kernel)) (by decide +kernel)), by decide +kernel, by decide +kernel, by decide +kernel⟩
set_option maxRecDepth 20000 in
theorem kc_X0_across : dx_Cok km_X0_across 1 := ⟨(dx_T_of (List.mem_of_getElem? (i := 38) (by decide +kernel)) (by decide +kernel)), (dx_T_of (List.mem_of_getElem? (i := 343) (by decide +kernel)) (by decide +kernel)), by decide +kernel, by decide +kernel, by decide +kernel⟩
set_option maxRecDepth 20000 in
theorem kc_X0_up : dx_Cok km_X0_up 1 := ⟨(dx_T_of (List.mem_of_getElem? (i := 38) (by decide +kernel)) (by decide +kernel)), (dx_T_of (List.mem_of_getElem? (i := 347) (by decide +kernel)) (by decide +kernel)), by decide +kernel, by decide +kernel, by decide +kernel⟩
set_option maxRecDepth 20000 in
theorem kc_X0_squares : dx_Cok km_X0_squares 0 := ⟨(dx_T_of (List.mem_of_getElem? (i := 38) (by decide +kernel)) (by decide +kernel)), (dx_T_of (List.mem_of_getElem? (i := 324) (by decide +kernel)) (by decide +kernel)), by decide +kernel, by decide +kernel, by decide +kernel⟩
set_option maxRecDepth 20000 in
theorem kc_X0_weight : dx_Cok km_X0_weight 0 := ⟨(dx_T_of (List.mem_of_getElem? (i := 38) (by decide +kernel)) (by decide +kernel)), (dx_T_of (List.mem_of_getElem? (i := 316) (by decide +kernel)) (by decide +kernel)), by decide +kernel, by decide +kernel, by decide +kernel⟩
set_option maxRecDepth 20000 in
theorem kc_X0_weightAcross : dx_Cok km_X0_weightAcross 1 := ⟨(dx_T_of (List.mem_of_getElem? (i := 38) (by decide +kernel)) (by decide +kernel)), (dx_T_of (List.mem_of_getElem? (i := 427) (by decide +kernel)) (by decide +kernel)), by decide +kernel, by decide +kernel, by decide +kernel⟩
set_option maxRecDepth 20000 in
theorem kc_X0_weightUp : dx_Cok km_X0_weightUp 1 := ⟨(dx_T_of (List.mem_of_getElem? (i := 38) (by decide +kernel)) (by decide +kernel)), (dx_T_of (List.mem_of_getElem? (i := 441) (by decide +kernel)) (by decide +kernel)), by decide +kernel, by decide +kernel, by decide +kernel⟩
set_option maxRecDepth 20000 in
theorem kc_X1_turnTo : dx_Cok km_X1_turnTo 2 := ⟨(dx_T_of (List.mem_of_getElem? (i := 39) (by decide +kernel)) (by decide +kernel)), (dx_T_of (List.mem_of_getElem? (i := 339) (by decide +kernel)) (by decide +kernel)), by decide +kernel, by decide +kernel, by decide +kernel⟩
set_option maxRecDepth 20000 in
theorem kc_X1_riseTo : dx_Cok km_X1_riseTo 1 := ⟨(dx_T_of (List.mem_of_getElem? (i := 39) (by decide +kernel)) (by decide +kernel)), (dx_T_of (List.mem_of_getElem? (i := 362) (by decide +kernel)) (by decide +kernel)), by decide +kernel, by decide +kernel, by decide +kernel⟩
set_option maxRecDepth 20000 in
theorem kc_X1_waysInto : dx_Cok km_X1_waysInto 1 := ⟨(dx_T_of (List.mem_of_getElem? (i := 39) (by decide +kernel)) (by decide +kernel)), (dx_T_of (List.mem_of_getElem? (i := 366) (by decide +kernel)) (by decide +kernel)), by decide +kernel, by decide +kernel, by decide +kernel⟩
set_option maxRecDepth 20000 in
theorem kc_X1_spread : dx_Cok km_X1_spread 0 := ⟨(dx_T_of (List.mem_of_getElem? (i := 39) (by decide +kernel)) (by decide +kernel)), (dx_T_of (List.mem_of_getElem? (i := 370) (by decide +kernel)) (by decide +kernel)), by decide +kernel, by decide +kernel, by decide +kernel⟩
set_option maxRecDepth 20000 in
theorem kc_X1_firm : dx_Cok km_X1_firm 1 := ⟨(dx_T_of (List.mem_of_getElem? (i := 39) (by decide +kernel)) (by decide +kernel)), (dx_T_of (List.mem_of_getElem? (i := 378) (by decide +kernel)) (by decide +kernel)), by decide +kernel, by decide +kernel, by decide +kernel⟩
set_option maxRecDepth 20000 in
theorem kc_X1_countFirm : dx_Cok km_X1_countFirm 0 := ⟨(dx_T_of (List.mem_of_getElem? (i := 39) (by decide +kernel)) (by decide +kernel)), (dx_T_of (List.mem_of_getElem? (i := 374) (by decide +kernel)) (by decide +kernel)), by decide +kernel, by decide +kernel, by decide +kernel⟩
set_option maxRecDepth 20000 in
theorem kc_X1_bears : dx_Cok km_X1_bears 2 := ⟨(dx_T_of (List.mem_of_getElem? (i := 39) (by decide +kernel)) (by decide +kernel)), (dx_T_of (List.mem_of_getElem? (i := 358) (by decide +kernel)) (by decide +kernel)), by decide +kernel, by decide +kernel, by decide +kernel⟩
set_option maxRecDepth 20000 in
theorem kc_X1_mostRoom : dx_Cok km_X1_mostRoom 0 := ⟨(dx_T_of (List.mem_of_getElem? (i := 39) (by decide +kernel)) (by decide +kernel)), (dx_T_of (List.mem_of_getElem? (i := 499) (by decide +kernel)) (by decide +kernel)), by decide +kernel, by decide +kernel, by decide +kernel⟩
set_option maxRecDepth 20000 in
theorem kc_X1_stateOf : dx_Cok km_X1_stateOf 2 := ⟨(dx_T_of (List.mem_of_getElem? (i := 39) (by decide +kernel)) (by decide +kernel)), (dx_T_of (List.mem_of_getElem? (i := 453) (by decide +kernel)) (by decide +kernel)), by decide +kernel, by decide +kernel, by decide +kernel⟩
set_option maxRecDepth 20000 in
theorem kc_X1_halves : dx_Cok km_X1_halves 1 := ⟨(dx_T_of (List.mem_of_getElem? (i := 39) (by decide +kernel)) (by decide +kernel)), (dx_T_of (List.mem_of_getElem? (i := 414) (by decide +kernel)) (by decide +kernel)), by decide +kernel, by decide +kernel, by decide +kernel⟩
set_option maxRecDepth 20000 in
theorem kc_X1_momentAcross : dx_Cok km_X1_momentAcross 0 := ⟨(dx_T_of (List.mem_of_getElem? (i := 39) (by decide +kernel)) (by decide +kernel)), (dx_T_of (List.mem_of_getElem? (i := 410) (by decide +kernel)) (by decide +kernel)), by decide +kernel, by decide +kernel, by decide +kernel⟩
set_option maxRecDepth 20000 in
theorem kc_X1_momentUp : dx_Cok km_X1_momentUp 0 := ⟨(dx_T_of (List.mem_of_getElem? (i := 39) (by decide +kernel)) (by decide +kernel)), (dx_T_of (List.mem_of_getElem? (i := 419) (by decide +kernel)) (by decide +kernel)), by decide +kernel, by decide +kernel, by decide +kernel⟩
set_option maxRecDepth 20000 in
theorem kc_X1_measureLine : dx_Cok km_X1_measureLine 0 := ⟨(dx_T_of (List.mem_of_getElem? (i := 39) (by decide +kernel)) (by decide +kernel)), (dx_T_of (List.mem_of_getElem? (i := 469) (by decide +kernel)) (by decide +kernel)), by decide +kernel, by decide +kernel, by decide +kernel⟩
set_option maxRecDepth 20000 in
theorem kc_X1_measureRow : dx_Cok km_X1_measureRow 0 := ⟨(dx_T_of (List.mem_of_getElem? (i := 39) (by decide +kernel)) (by decide +kernel)), (dx_T_of (List.mem_of_getElem? (i := 473) (by decide +kernel)) (by decide +kernel)), by decide +kernel, by decide +kernel, by decide +kernel⟩
set_option maxRecDepth 20000 in
theorem kc_X2_begin : dx_Cok km_X2_begin 4 := ⟨(dx_T_of (List.mem_of_getElem? (i := 40) (by decide +kernel)) (by decide +kernel)), (dx_T_of (List.mem_of_getElem? (i := 276) (by decide +kernel)) (by decide +kernel)), by decide +kernel, by decide +kernel, by decide +kernel⟩
set_option maxRecDepth 20000 in
theorem kc_X2_fact : dx_Cok km_X2_fact 1 := ⟨(dx_T_of (List.mem_of_getElem? (i := 40) (by decide +kernel)) (by decide +kernel)), (dx_T_of (List.mem_of_getElem? (i := 300) (by decide +kernel)) (by decide +kernel)), by decide +kernel, by decide +kernel, by decide +kernel⟩
set_option maxRecDepth 20000 in
theorem kc_X3_digestPlaces : dx_Cok km_X3_digestPlaces 1 := ⟨(dx_T_of (List.mem_of_getElem? (i := 37) (by decide +kernel)) (by decide +kernel)), (dx_T_of (List.mem_of_getElem? (i := 543) (by decide +kernel)) (by decide +kernel)), by decide +kernel, by decide +kernel, by decide +kernel⟩
set_option maxRecDepth 20000 in
theorem kc_X3_digestLoads : dx_Cok km_X3_digestLoads 1 := ⟨(dx_T_of (List.mem_of_getElem? (i := 37) (by decide +kernel)) (by decide +kernel)), (dx_T_of (List.mem_of_getElem? (i := 547) (by decide +kernel)) (by decide +kernel)), by decide +kernel, by decide +kernel, by decide +kernel⟩
set_option maxRecDepth 20000 in
theorem kc_X3_digestSheets : dx_Cok km_X3_digestSheets 1 := ⟨(dx_T_of (List.mem_of_getElem? (i := 37) (by decide +kernel)) (by decide +kernel)), (dx_T_of (List.mem_of_getElem? (i := 552) (by decide +kernel)) (by decide +kernel)), by decide +kernel, by decide +kernel, by decide +kernel⟩
set_option maxRecDepth 20000 in
theorem kc_X3_within : dx_Cok km_X3_within 3 := ⟨(dx_T_of (List.mem_of_getElem? (i := 37) (by decide +kernel)) (by decide +kernel)), (dx_T_of (List.mem_of_getElem? (i := 202) (by decide +kernel)) (by decide +kernel)), by decide +kernel, by decide +kernel, by decide +kernel⟩
set_option maxRecDepth 20000 in
theorem kc_X3_isTurn : dx_Cok km_X3_isTurn 1 := ⟨(dx_T_of (List.mem_of_getElem? (i := 37) (by decide +kernel)) (by decide +kernel)), (dx_T_of (List.mem_of_getElem? (i := 335) (by decide +kernel)) (by decide +kernel)), by decide +kernel, by decide +kernel, by decide +kernel⟩
set_option maxRecDepth 20000 in
theorem kc_X3_isSheet : dx_Cok km_X3_isSheet 1 := ⟨(dx_T_of (List.mem_of_getElem? (i := 37) (by decide +kernel)) (by decide +kernel)), (dx_T_of (List.mem_of_getElem? (i := 235) (by decide +kernel)) (by decide +kernel)), by decide +kernel, by decide +kernel, by decide +kernel⟩
set_option maxRecDepth 20000 in
theorem kc_X3_isPoint : dx_Cok km_X3_isPoint 2 := ⟨(dx_T_of (List.mem_of_getElem? (i := 37) (by decide +kernel)) (by decide +kernel)), (dx_T_of (List.mem_of_getElem? (i := 272) (by decide +kernel)) (by decide +kernel)), by decide +kernel, by decide +kernel, by decide +kernel⟩
set_option maxRecDepth 20000 in
theorem kc_X3_isLoad : dx_Cok km_X3_isLoad 1 := ⟨(dx_T_of (List.mem_of_getElem? (i := 37) (by decide +kernel)) (by decide +kernel)), (dx_T_of (List.mem_of_getElem? (i := 284) (by decide +kernel)) (by decide +kernel)), by decide +kernel, by decide +kernel, by decide +kernel⟩
set_option maxRecDepth 20000 in
theorem kc_X3_reaches : dx_Cok km_X3_reaches 3 := ⟨(dx_T_of (List.mem_of_getElem? (i := 37) (by decide +kernel)) (by decide +kernel)), (dx_T_of (List.mem_of_getElem? (i := 255) (by decide +kernel)) (by decide +kernel)), by decide +kernel, by decide +kernel, by decide +kernel⟩
set_option maxRecDepth 20000 in
theorem kc_X3_find : dx_Cok km_X3_find 1 := ⟨(dx_T_of (List.mem_of_getElem? (i := 37) (by decide +kernel)) (by decide +kernel)), (dx_T_of (List.mem_of_getElem? (i := 239) (by decide +kernel)) (by decide +kernel)), by decide +kernel, by decide +kernel, by decide +kernel⟩
set_option maxRecDepth 20000 in
theorem kc_X3_tell : dx_Cok km_X3_tell 2 := ⟨(dx_T_of (List.mem_of_getElem? (i := 37) (by decide +kernel)) (by decide +kernel)), (dx_T_of (List.mem_of_getElem? (i := 392) (by decide +kernel)) (by decide +kernel)), by decide +kernel, by decide +kernel, by decide +kernel⟩
set_option maxRecDepth 20000 in
theorem kc_X3_commonDivisor : dx_Cok km_X3_commonDivisor 2 := ⟨(dx_T_of (List.mem_of_getElem? (i := 37) (by decide +kernel)) (by decide +kernel)), (dx_T_of (List.mem_of_getElem? (i := 398) (by decide +kernel)) (by decide +kernel)), by decide +kernel, by decide +kernel, by decide +kernel⟩
set_option maxRecDepth 20000 in
theorem kc_X3_loadsThere : dx_Cok km_X3_loadsThere 0 := ⟨(dx_T_of (List.mem_of_getElem? (i := 37) (by decide +kernel)) (by decide +kernel)), (dx_T_of (List.mem_of_getElem? (i := 525) (by decide +kernel)) (by decide +kernel)), by decide +kernel, by decide +kernel, by decide +kernel⟩
set_option maxRecDepth 20000 in
theorem kc_X3_wholeWeight : dx_Cok km_X3_wholeWeight 0 := ⟨(dx_T_of (List.mem_of_getElem? (i := 37) (by decide +kernel)) (by decide +kernel)), (dx_T_of (List.mem_of_getElem? (i := 312) (by decide +kernel)) (by decide +kernel)), by decide +kernel, by decide +kernel, by decide +kernel⟩
set_option maxRecDepth 20000 in
theorem kc_X3_settle : dx_Cok km_X3_settle 1 := ⟨(dx_T_of (List.mem_of_getElem? (i := 37) (by decide +kernel)) (by decide +kernel)), (dx_T_of (List.mem_of_getElem? (i := 332) (by decide +kernel)) (by decide +kernel)), by decide +kernel, by decide +kernel, by decide +kernel⟩
set_option maxRecDepth 20000 in
theorem kc_X3_weightAcross : dx_Cok km_X3_weightAcross 1 := ⟨(dx_T_of (List.mem_of_getElem? (i := 37) (by decide +kernel)) (by decide +kernel)), (dx_T_of (List.mem_of_getElem? (i := 423) (by decide +kernel)) (by decide +kernel)), by decide +kernel, by decide +kernel, by decide +kernel⟩
set_option maxRecDepth 20000 in
theorem kc_X3_weightUp : dx_Cok km_X3_weightUp 1 := ⟨(dx_T_of (List.mem_of_getElem? (i := 37) (by decide +kernel)) (by decide +kernel)), (dx_T_of (List.mem_of_getElem? (i := 437) (by decide +kernel)) (by decide +kernel)), by decide +kernel, by decide +kernel, by decide +kernel⟩
set_option maxRecDepth 20000 in
theorem kc_X3_leaning : dx_Cok km_X3_leaning 1 := ⟨(dx_T_of (List.mem_of_getElem? (i := 37) (by decide +kernel)) (by decide +kernel)), (dx_T_of (List.mem_of_getElem? (i := 461) (by decide +kernel)) (by decide +kernel)), by decide +kernel, by decide +kernel, by decide +kernel⟩
set_option maxRecDepth 20000 in
theorem kc_X3_holding : dx_Cok km_X3_holding 1 := ⟨(dx_T_of (List.mem_of_getElem? (i := 37) (by decide +kernel)) (by decide +kernel)), (dx_T_of (List.mem_of_getElem? (i := 484) (by decide +kernel)) (by decide +kernel)), by decide +kernel, by decide +kernel, by decide +kernel⟩
set_option maxRecDepth 20000 in
theorem kc_X3_turnedAcross : dx_Cok km_X3_turnedAcross 5 := ⟨(dx_T_of (List.mem_of_getElem? (i := 37) (by decide +kernel)) (by decide +kernel)), (dx_T_of (List.mem_of_getElem? (i := 351) (by decide +kernel)) (by decide +kernel)), by decide +kernel, by decide +kernel, by decide +kernel⟩
set_option maxRecDepth 20000 in
theorem kc_X3_turnedUp : dx_Cok km_X3_turnedUp 5 := ⟨(dx_T_of (List.mem_of_getElem? (i := 37) (by decide +kernel)) (by decide +kernel)), (dx_T_of (List.mem_of_getElem? (i := 354) (by decide +kernel)) (by decide +kernel)), by decide +kernel, by decide +kernel, by decide +kernel⟩
set_option maxRecDepth 20000 in
theorem kc_X4_in : dx_Cok km_X4_in 3 := ⟨(dx_T_of (List.mem_of_getElem? (i := 41) (by decide +kernel)) (by decide +kernel)), (dx_T_of (List.mem_of_getElem? (i := 689) (by decide +kernel)) (by decide +kernel)), by decide +kernel, by decide +kernel, by decide +kernel⟩
set_option maxRecDepth 20000 in
theorem kc_X4_meets : dx_Cok km_X4_meets 1 := ⟨(dx_T_of (List.mem_of_getElem? (i := 41) (by decide +kernel)) (by decide +kernel)), (dx_T_of (List.mem_of_getElem? (i := 728) (by decide +kernel)) (by decide +kernel)), by decide +kernel, by decide +kernel, by decide +kernel⟩
set_option maxRecDepth 20000 in
theorem kc_X4_gcd : dx_Cok km_X4_gcd 2 := ⟨(dx_T_of (List.mem_of_getElem? (i := 41) (by decide +kernel)) (by decide +kernel)), (dx_T_of (List.mem_of_getElem? (i := 839) (by decide +kernel)) (by decide +kernel)), by decide +kernel, by decide +kernel, by decide +kernel⟩
set_option maxRecDepth 20000 in
theorem kc_X4_tells : dx_Cok km_X4_tells 2 := ⟨(dx_T_of (List.mem_of_getElem? (i := 41) (by decide +kernel)) (by decide +kernel)), (dx_T_of (List.mem_of_getElem? (i := 836) (by decide +kernel)) (by decide +kernel)), by decide +kernel, by decide +kernel, by decide +kernel⟩
set_option maxRecDepth 20000 in
theorem kc_X4_begin : dx_Cok km_X4_begin 2 := ⟨(dx_T_of (List.mem_of_getElem? (i := 41) (by decide +kernel)) (by decide +kernel)), (dx_T_of (List.mem_of_getElem? (i := 562) (by decide +kernel)) (by decide +kernel)), by decide +kernel, by decide +kernel, by decide +kernel⟩
set_option maxRecDepth 20000 in
theorem kc_X4_isPlace : dx_Cok km_X4_isPlace 2 := ⟨(dx_T_of (List.mem_of_getElem? (i := 41) (by decide +kernel)) (by decide +kernel)), (dx_T_of (List.mem_of_getElem? (i := 709) (by decide +kernel)) (by decide +kernel)), by decide +kernel, by decide +kernel, by decide +kernel⟩
set_option maxRecDepth 20000 in
theorem kc_X4_isSheet : dx_Cok km_X4_isSheet 1 := ⟨(dx_T_of (List.mem_of_getElem? (i := 41) (by decide +kernel)) (by decide +kernel)), (dx_T_of (List.mem_of_getElem? (i := 724) (by decide +kernel)) (by decide +kernel)), by decide +kernel, by decide +kernel, by decide +kernel⟩
set_option maxRecDepth 20000 in
theorem kc_X4_isPoint : dx_Cok km_X4_isPoint 2 := ⟨(dx_T_of (List.mem_of_getElem? (i := 41) (by decide +kernel)) (by decide +kernel)), (dx_T_of (List.mem_of_getElem? (i := 751) (by decide +kernel)) (by decide +kernel)), by decide +kernel, by decide +kernel, by decide +kernel⟩
set_option maxRecDepth 20000 in
theorem kc_X4_need : dx_Cok km_X4_need 2 := ⟨(dx_T_of (List.mem_of_getElem? (i := 41) (by decide +kernel)) (by decide +kernel)), (dx_T_of (List.mem_of_getElem? (i := 759) (by decide +kernel)) (by decide +kernel)), by decide +kernel, by decide +kernel, by decide +kernel⟩
set_option maxRecDepth 20000 in
theorem kc_X4_toldOf : dx_Cok km_X4_toldOf 2 := ⟨(dx_T_of (List.mem_of_getElem? (i := 41) (by decide +kernel)) (by decide +kernel)), (dx_T_of (List.mem_of_getElem? (i := 775) (by decide +kernel)) (by decide +kernel)), by decide +kernel, by decide +kernel, by decide +kernel⟩
set_option maxRecDepth 20000 in
theorem kc_X4_squareMany : dx_Cok km_X4_squareMany 0 := ⟨(dx_T_of (List.mem_of_getElem? (i := 41) (by decide +kernel)) (by decide +kernel)), (dx_T_of (List.mem_of_getElem? (i := 795) (by decide +kernel)) (by decide +kernel)), by decide +kernel, by decide +kernel, by decide +kernel⟩
set_option maxRecDepth 20000 in
theorem kc_X4_squareWeights : dx_Cok km_X4_squareWeights 0 := ⟨(dx_T_of (List.mem_of_getElem? (i := 41) (by decide +kernel)) (by decide +kernel)), (dx_T_of (List.mem_of_getElem? (i := 787) (by decide +kernel)) (by decide +kernel)), by decide +kernel, by decide +kernel, by decide +kernel⟩
set_option maxRecDepth 20000 in
theorem kc_X4_all : dx_Cok km_X4_all 0 := ⟨(dx_T_of (List.mem_of_getElem? (i := 41) (by decide +kernel)) (by decide +kernel)), (dx_T_of (List.mem_of_getElem? (i := 783) (by decide +kernel)) (by decide +kernel)), by decide +kernel, by decide +kernel, by decide +kernel⟩
set_option maxRecDepth 20000 in
theorem kc_X4_lay_ : dx_Cok km_X4_lay_ 1 := ⟨(dx_T_of (List.mem_of_getElem? (i := 41) (by decide +kernel)) (by decide +kernel)), (dx_T_of (List.mem_of_getElem? (i := 808) (by decide +kernel)) (by decide +kernel)), by decide +kernel, by decide +kernel, by decide +kernel⟩
set_option maxRecDepth 20000 in
theorem kc_X4_isWetAt : dx_Cok km_X4_isWetAt 3 := ⟨(dx_T_of (List.mem_of_getElem? (i := 41) (by decide +kernel)) (by decide +kernel)), (dx_T_of (List.mem_of_getElem? (i := 820) (by decide +kernel)) (by decide +kernel)), by decide +kernel, by decide +kernel, by decide +kernel⟩
set_option maxRecDepth 20000 in
theorem kc_X4_spread : dx_Cok km_X4_spread 1 := ⟨(dx_T_of (List.mem_of_getElem? (i := 41) (by decide +kernel)) (by decide +kernel)), (dx_T_of (List.mem_of_getElem? (i := 816) (by decide +kernel)) (by decide +kernel)), by decide +kernel, by decide +kernel, by decide +kernel⟩
set_option maxRecDepth 20000 in
theorem kc_X4_firmIn : dx_Cok km_X4_firmIn 1 := ⟨(dx_T_of (List.mem_of_getElem? (i := 41) (by decide +kernel)) (by decide +kernel)), (dx_T_of (List.mem_of_getElem? (i := 828) (by decide +kernel)) (by decide +kernel)), by decide +kernel, by decide +kernel, by decide +kernel⟩
set_option maxRecDepth 20000 in
theorem kc_X4_firmBelow : dx_Cok km_X4_firmBelow 1 := ⟨(dx_T_of (List.mem_of_getElem? (i := 41) (by decide +kernel)) (by decide +kernel)), (dx_T_of (List.mem_of_getElem? (i := 824) (by decide +kernel)) (by decide +kernel)), by decide +kernel, by decide +kernel, by decide +kernel⟩
set_option maxRecDepth 20000 in
theorem kc_X4_finds : dx_Cok km_X4_finds 1 := ⟨(dx_T_of (List.mem_of_getElem? (i := 41) (by decide +kernel)) (by decide +kernel)), (dx_T_of (List.mem_of_getElem? (i := 812) (by decide +kernel)) (by decide +kernel)), by decide +kernel, by decide +kernel, by decide +kernel⟩
set_option maxRecDepth 20000 in
theorem kc_X4_afloat : dx_Cok km_X4_afloat 2 := ⟨(dx_T_of (List.mem_of_getElem? (i := 41) (by decide +kernel)) (by decide +kernel)), (dx_T_of (List.mem_of_getElem? (i := 803) (by decide +kernel)) (by decide +kernel)), by decide +kernel, by decide +kernel, by decide +kernel⟩
set_option maxRecDepth 20000 in
theorem kc_X4_laySums : dx_Cok km_X4_laySums 0 := ⟨(dx_T_of (List.mem_of_getElem? (i := 41) (by decide +kernel)) (by decide +kernel)), (dx_T_of (List.mem_of_getElem? (i := 855) (by decide +kernel)) (by decide +kernel)), by decide +kernel, by decide +kernel, by decide +kernel⟩
set_option maxRecDepth 20000 in
theorem kc_X4_layPowers : dx_Cok km_X4_layPowers 0 := ⟨(dx_T_of (List.mem_of_getElem? (i := 41) (by decide +kernel)) (by decide +kernel)), (dx_T_of (List.mem_of_getElem? (i := 851) (by decide +kernel)) (by decide +kernel)), by decide +kernel, by decide +kernel, by decide +kernel⟩
set_option maxRecDepth 20000 in
theorem kc_X4_lean : dx_Cok km_X4_lean 0 := ⟨(dx_T_of (List.mem_of_getElem? (i := 41) (by decide +kernel)) (by decide +kernel)), (dx_T_of (List.mem_of_getElem? (i := 868) (by decide +kernel)) (by decide +kernel)), by decide +kernel, by decide +kernel, by decide +kernel⟩
set_option maxRecDepth 20000 in
theorem kc_X4_layBreadth : dx_Cok km_X4_layBreadth 1 := ⟨(dx_T_of (List.mem_of_getElem? (i := 41) (by decide +kernel)) (by decide +kernel)), (dx_T_of (List.mem_of_getElem? (i := 880) (by decide +kernel)) (by decide +kernel)), by decide +kernel, by decide +kernel, by decide +kernel⟩
set_option maxRecDepth 20000 in
theorem kc_X4_leastBreadth : dx_Cok km_X4_leastBreadth 0 := ⟨(dx_T_of (List.mem_of_getElem? (i := 41) (by decide +kernel)) (by decide +kernel)), (dx_T_of (List.mem_of_getElem? (i := 876) (by decide +kernel)) (by decide +kernel)), by decide +kernel, by decide +kernel, by decide +kernel⟩
set_option maxRecDepth 20000 in
theorem kc_X4_holdsNow : dx_Cok km_X4_holdsNow 0 := ⟨(dx_T_of (List.mem_of_getElem? (i := 41) (by decide +kernel)) (by decide +kernel)), (dx_T_of (List.mem_of_getElem? (i := 891) (by decide +kernel)) (by decide +kernel)), by decide +kernel, by decide +kernel, by decide +kernel⟩
set_option maxRecDepth 20000 in
theorem kc_X4_mostRoom : dx_Cok km_X4_mostRoom 0 := ⟨(dx_T_of (List.mem_of_getElem? (i := 41) (by decide +kernel)) (by decide +kernel)), (dx_T_of (List.mem_of_getElem? (i := 903) (by decide +kernel)) (by decide +kernel)), by decide +kernel, by decide +kernel, by decide +kernel⟩
set_option maxRecDepth 20000 in
theorem kc_J6_bitCount_0f7a4 : dx_Cok km_J6_bitCount_0f7a4 1 := ⟨(dx_T_of (List.mem_of_getElem? (i := 44) (by decide +kernel)) (by decide +kernel)), (dx_T_of (List.mem_of_getElem? (i := 381) (by decide +kernel)) (by decide +kernel)), by decide +kernel, by decide +kernel, by decide +kernel⟩
set_option maxRecDepth 20000 in
theorem kc_J13_compare_74951 : dx_Cok km_J13_compare_74951 2 := ⟨(dx_T_of (List.mem_of_getElem? (i := 45) (by decide +kernel)) (by decide +kernel)), (dx_T_of (List.mem_of_getElem? (i := 487) (by decide +kernel)) (by decide +kernel)), by decide +kernel, by decide +kernel, by decide +kernel⟩
theorem kw_J13 : ∀ (x : Nat) (e : Nat × Nat × Nat), dx_look kp_J13 x = some e → dx_pok dx_P RJ13 x e := fun x e h => dx_look_all (F := fun x e => dx_pok dx_P RJ13 x e) (show ∀ q ∈ kp_J13, dx_pok dx_P RJ13 q.1 q.2 from fun _ h => absurd h List.not_mem_nil) h
set_option maxRecDepth 20000 in
theorem kw_J6_265 : dx_pok dx_P RJ6 265 (5, 1431656765, 0) := dx_pok5 (dx_T_of (List.mem_of_getElem? (i := 382) (by decide +kernel)) (by decide +kernel))
set_option maxRecDepth 20000 in
theorem kw_J6_266 : dx_pok dx_P RJ6 266 (5, 858994459, 0) := dx_pok5 (dx_T_of (List.mem_of_getElem? (i := 383) (by decide +kernel)) (by decide +kernel))
set_option maxRecDepth 20000 in
theorem kw_J6_267 : dx_pok dx_P RJ6 267 (5, 252646135, 0) := dx_pok5 (dx_T_of (List.mem_of_getElem? (i := 384) (by decide +kernel)) (by decide +kernel))
theorem kw_J6 : ∀ (x : Nat) (e : Nat × Nat × Nat), dx_look kp_J6 x = some e → dx_pok dx_P RJ6 x e := fun x e h => dx_look_all (F := fun x e => dx_pok dx_P RJ6 x e) (show ∀ q ∈ kp_J6, dx_pok dx_P RJ6 q.1 q.2 from List.forall_mem_cons.mpr ⟨kw_J6_265, List.forall_mem_cons.mpr ⟨kw_J6_266, List.forall_mem_cons.mpr ⟨kw_J6_267, fun _ h => absurd h List.not_mem_nil⟩⟩⟩) h
set_option maxRecDepth 20000 in
theorem kw_X0_9 : dx_pok dx_P RX0 9 (0, 0, 0) := dx_pok0 (C := RX0) (T := TX0) (N := 3) rfl (by decide) (dx_T_of (List.mem_of_getElem? (i := 64) (by decide +kernel)) (by decide +kernel))
set_option maxRecDepth 20000 in
theorem kw_X0_19 : dx_pok dx_P RX0 19 (0, 0, 1) := dx_pok0 (C := RX0) (T := TX0) (N := 3) rfl (by decide) (dx_T_of (List.mem_of_getElem? (i := 65) (by decide +kernel)) (by decide +kernel))
set_option maxRecDepth 20000 in
theorem kw_X0_23 : dx_pok dx_P RX0 23 (0, 0, 2) := dx_pok0 (C := RX0) (T := TX0) (N := 3) rfl (by decide) (dx_T_of (List.mem_of_getElem? (i := 68) (by decide +kernel)) (by decide +kernel))
set_option maxRecDepth 20000 in
theorem kw_X0_26 : dx_pok dx_P RX0 26 (3, 64, 3) := dx_pok3 (K := km_X3_within) (host := "LogsAfloat") rfl (by decide +kernel) (dx_T_of (List.mem_of_getElem? (i := 201) (by decide +kernel)) (by decide +kernel)) kc_X3_within
set_option maxRecDepth 20000 in
theorem kw_X0_30 : dx_pok dx_P RX0 30 (1, 2, 2) := dx_pok1 (K := km_X0_weightOf) (q := (RX0, TX0, 3)) rfl rfl rfl (dx_T_of (List.mem_of_getElem? (i := 428) (by decide +kernel)) (by decide +kernel)) (dx_T_of (List.mem_of_getElem? (i := 214) (by decide +kernel)) (by decide +kernel)) (dx_T_of (List.mem_of_getElem? (i := 215) (by decide +kernel)) (by decide +kernel)) kc_X0_weightOf rfl
set_option maxRecDepth 20000 in
theorem kw_X0_34 : dx_pok dx_P RX0 34 (7, 0, 0) := dx_pok7 (dx_T_of (List.mem_of_getElem? (i := 429) (by decide +kernel)) (by decide +kernel)) (dx_T_of (List.mem_of_getElem? (i := 430) (by decide +kernel)) (by decide +kernel)) (dx_T_of (List.mem_of_getElem? (i := 43) (by decide +kernel)) (by decide +kernel)) (dx_T_of (List.mem_of_getElem? (i := 431) (by decide +kernel)) (by decide +kernel))
set_option maxRecDepth 20000 in
theorem kw_X0_39 : dx_pok dx_P RX0 39 (3, 80, 5) := dx_pok3 (K := km_X3_turnedAcross) (host := "LogsAfloat") rfl (by decide +kernel) (dx_T_of (List.mem_of_getElem? (i := 350) (by decide +kernel)) (by decide +kernel)) kc_X3_turnedAcross
set_option maxRecDepth 20000 in
theorem kw_X0_43 : dx_pok dx_P RX0 43 (3, 81, 5) := dx_pok3 (K := km_X3_turnedUp) (host := "LogsAfloat") rfl (by decide +kernel) (dx_T_of (List.mem_of_getElem? (i := 353) (by decide +kernel)) (by decide +kernel)) kc_X3_turnedUp
theorem kw_X0 : ∀ (x : Nat) (e : Nat × Nat × Nat), dx_look kp_X0 x = some e → dx_pok dx_P RX0 x e := fun x e h => dx_look_all (F := fun x e => dx_pok dx_P RX0 x e) (show ∀ q ∈ kp_X0, dx_pok dx_P RX0 q.1 q.2 from List.forall_mem_cons.mpr ⟨kw_X0_9, List.forall_mem_cons.mpr ⟨kw_X0_19, List.forall_mem_cons.mpr ⟨kw_X0_23, List.forall_mem_cons.mpr ⟨kw_X0_26, List.forall_mem_cons.mpr ⟨kw_X0_30, List.forall_mem_cons.mpr ⟨kw_X0_34, List.forall_mem_cons.mpr ⟨kw_X0_39, List.forall_mem_cons.mpr ⟨kw_X0_43, fun _ h => absurd h List.not_mem_nil⟩⟩⟩⟩⟩⟩⟩⟩) h
set_option maxRecDepth 20000 in
theorem kw_X1_9 : dx_pok dx_P RX1 9 (0, 1, 0) := dx_pok0 (C := RX1) (T := TX1) (N := 11) rfl (by decide) (dx_T_of (List.mem_of_getElem? (i := 85) (by decide +kernel)) (by decide +kernel))
set_option maxRecDepth 20000 in
theorem kw_X1_15 : dx_pok dx_P RX1 15 (0, 1, 1) := dx_pok0 (C := RX1) (T := TX1) (N := 11) rfl (by decide) (dx_T_of (List.mem_of_getElem? (i := 86) (by decide +kernel)) (by decide +kernel))
set_option maxRecDepth 20000 in
theorem kw_X1_18 : dx_pok dx_P RX1 18 (1, 4, 1) := dx_pok1 (K := km_X0_across) (q := (RX0, TX0, 3)) rfl rfl rfl (dx_T_of (List.mem_of_getElem? (i := 340) (by decide +kernel)) (by decide +kernel)) (dx_T_of (List.mem_of_getElem? (i := 341) (by decide +kernel)) (by decide +kernel)) (dx_T_of (List.mem_of_getElem? (i := 342) (by decide +kernel)) (by decide +kernel)) kc_X0_across rfl
set_option maxRecDepth 20000 in
theorem kw_X1_24 : dx_pok dx_P RX1 24 (0, 1, 2) := dx_pok0 (C := RX1) (T := TX1) (N := 11) rfl (by decide) (dx_T_of (List.mem_of_getElem? (i := 87) (by decide +kernel)) (by decide +kernel))
set_option maxRecDepth 20000 in
theorem kw_X1_28 : dx_pok dx_P RX1 28 (1, 5, 1) := dx_pok1 (K := km_X0_up) (q := (RX0, TX0, 3)) rfl rfl rfl (dx_T_of (List.mem_of_getElem? (i := 344) (by decide +kernel)) (by decide +kernel)) (dx_T_of (List.mem_of_getElem? (i := 345) (by decide +kernel)) (by decide +kernel)) (dx_T_of (List.mem_of_getElem? (i := 346) (by decide +kernel)) (by decide +kernel)) kc_X0_up rfl
set_option maxRecDepth 20000 in
theorem kw_X1_31 : dx_pok dx_P RX1 31 (0, 1, 3) := dx_pok0 (C := RX1) (T := TX1) (N := 11) rfl (by decide) (dx_T_of (List.mem_of_getElem? (i := 88) (by decide +kernel)) (by decide +kernel))
set_option maxRecDepth 20000 in
theorem kw_X1_34 : dx_pok dx_P RX1 34 (0, 1, 4) := dx_pok0 (C := RX1) (T := TX1) (N := 11) rfl (by decide) (dx_T_of (List.mem_of_getElem? (i := 90) (by decide +kernel)) (by decide +kernel))
set_option maxRecDepth 20000 in
theorem kw_X1_37 : dx_pok dx_P RX1 37 (0, 0, 2) := dx_pok0 (C := RX0) (T := TX0) (N := 3) rfl (by decide) (dx_T_of (List.mem_of_getElem? (i := 69) (by decide +kernel)) (by decide +kernel))
set_option maxRecDepth 20000 in
theorem kw_X1_38 : dx_pok dx_P RX1 38 (0, 0, 1) := dx_pok0 (C := RX0) (T := TX0) (N := 3) rfl (by decide) (dx_T_of (List.mem_of_getElem? (i := 66) (by decide +kernel)) (by decide +kernel))
set_option maxRecDepth 20000 in
theorem kw_X1_39 : dx_pok dx_P RX1 39 (1, 2, 2) := dx_pok1 (K := km_X0_weightOf) (q := (RX0, TX0, 3)) rfl rfl rfl (dx_T_of (List.mem_of_getElem? (i := 348) (by decide +kernel)) (by decide +kernel)) (dx_T_of (List.mem_of_getElem? (i := 214) (by decide +kernel)) (by decide +kernel)) (dx_T_of (List.mem_of_getElem? (i := 215) (by decide +kernel)) (by decide +kernel)) kc_X0_weightOf rfl
set_option maxRecDepth 20000 in
theorem kw_X1_43 : dx_pok dx_P RX1 43 (3, 80, 5) := dx_pok3 (K := km_X3_turnedAcross) (host := "LogsAfloat") rfl (by decide +kernel) (dx_T_of (List.mem_of_getElem? (i := 350) (by decide +kernel)) (by decide +kernel)) kc_X3_turnedAcross
set_option maxRecDepth 20000 in
theorem kw_X1_47 : dx_pok dx_P RX1 47 (3, 81, 5) := dx_pok3 (K := km_X3_turnedUp) (host := "LogsAfloat") rfl (by decide +kernel) (dx_T_of (List.mem_of_getElem? (i := 353) (by decide +kernel)) (by decide +kernel)) kc_X3_turnedUp
set_option maxRecDepth 20000 in
theorem kw_X1_50 : dx_pok dx_P RX1 50 (1, 12, 17) := dx_pok1 (K := km_X1_waysInto) (q := (RX1, TX1, 11)) rfl rfl rfl (dx_T_of (List.mem_of_getElem? (i := 363) (by decide +kernel)) (by decide +kernel)) (dx_T_of (List.mem_of_getElem? (i := 364) (by decide +kernel)) (by decide +kernel)) (dx_T_of (List.mem_of_getElem? (i := 365) (by decide +kernel)) (by decide +kernel)) kc_X1_waysInto rfl
set_option maxRecDepth 20000 in
theorem kw_X1_53 : dx_pok dx_P RX1 53 (1, 13, 16) := dx_pok1 (K := km_X1_spread) (q := (RX1, TX1, 11)) rfl rfl rfl (dx_T_of (List.mem_of_getElem? (i := 367) (by decide +kernel)) (by decide +kernel)) (dx_T_of (List.mem_of_getElem? (i := 368) (by decide +kernel)) (by decide +kernel)) (dx_T_of (List.mem_of_getElem? (i := 369) (by decide +kernel)) (by decide +kernel)) kc_X1_spread rfl
set_option maxRecDepth 20000 in
theorem kw_X1_56 : dx_pok dx_P RX1 56 (1, 15, 16) := dx_pok1 (K := km_X1_countFirm) (q := (RX1, TX1, 11)) rfl rfl rfl (dx_T_of (List.mem_of_getElem? (i := 371) (by decide +kernel)) (by decide +kernel)) (dx_T_of (List.mem_of_getElem? (i := 372) (by decide +kernel)) (by decide +kernel)) (dx_T_of (List.mem_of_getElem? (i := 373) (by decide +kernel)) (by decide +kernel)) kc_X1_countFirm rfl
set_option maxRecDepth 20000 in
theorem kw_X1_59 : dx_pok dx_P RX1 59 (0, 1, 5) := dx_pok0 (C := RX1) (T := TX1) (N := 11) rfl (by decide) (dx_T_of (List.mem_of_getElem? (i := 92) (by decide +kernel)) (by decide +kernel))
set_option maxRecDepth 20000 in
theorem kw_X1_62 : dx_pok dx_P RX1 62 (1, 14, 17) := dx_pok1 (K := km_X1_firm) (q := (RX1, TX1, 11)) rfl rfl rfl (dx_T_of (List.mem_of_getElem? (i := 375) (by decide +kernel)) (by decide +kernel)) (dx_T_of (List.mem_of_getElem? (i := 376) (by decide +kernel)) (by decide +kernel)) (dx_T_of (List.mem_of_getElem? (i := 377) (by decide +kernel)) (by decide +kernel)) kc_X1_firm rfl
set_option maxRecDepth 20000 in
theorem kw_X1_65 : dx_pok dx_P RX1 65 (2, 143, 1) := dx_pok2 (K := km_J6_bitCount_0f7a4) rfl (dx_T_of (List.mem_of_getElem? (i := 379) (by decide +kernel)) (by decide +kernel)) (dx_T_of (List.mem_of_getElem? (i := 380) (by decide +kernel)) (by decide +kernel)) kc_J6_bitCount_0f7a4
set_option maxRecDepth 20000 in
theorem kw_X1_70 : dx_pok dx_P RX1 70 (0, 1, 6) := dx_pok0 (C := RX1) (T := TX1) (N := 11) rfl (by decide) (dx_T_of (List.mem_of_getElem? (i := 94) (by decide +kernel)) (by decide +kernel))
set_option maxRecDepth 20000 in
theorem kw_X1_73 : dx_pok dx_P RX1 73 (1, 11, 17) := dx_pok1 (K := km_X1_riseTo) (q := (RX1, TX1, 11)) rfl rfl rfl (dx_T_of (List.mem_of_getElem? (i := 359) (by decide +kernel)) (by decide +kernel)) (dx_T_of (List.mem_of_getElem? (i := 360) (by decide +kernel)) (by decide +kernel)) (dx_T_of (List.mem_of_getElem? (i := 361) (by decide +kernel)) (by decide +kernel)) kc_X1_riseTo rfl
set_option maxRecDepth 20000 in
theorem kw_X1_77 : dx_pok dx_P RX1 77 (0, 1, 7) := dx_pok0 (C := RX1) (T := TX1) (N := 11) rfl (by decide) (dx_T_of (List.mem_of_getElem? (i := 96) (by decide +kernel)) (by decide +kernel))
set_option maxRecDepth 20000 in
theorem kw_X1_81 : dx_pok dx_P RX1 81 (0, 1, 8) := dx_pok0 (C := RX1) (T := TX1) (N := 11) rfl (by decide) (dx_T_of (List.mem_of_getElem? (i := 98) (by decide +kernel)) (by decide +kernel))
set_option maxRecDepth 20000 in
theorem kw_X1_84 : dx_pok dx_P RX1 84 (7, 0, 0) := dx_pok7 (dx_T_of (List.mem_of_getElem? (i := 500) (by decide +kernel)) (by decide +kernel)) (dx_T_of (List.mem_of_getElem? (i := 430) (by decide +kernel)) (by decide +kernel)) (dx_T_of (List.mem_of_getElem? (i := 43) (by decide +kernel)) (by decide +kernel)) (dx_T_of (List.mem_of_getElem? (i := 431) (by decide +kernel)) (by decide +kernel))
set_option maxRecDepth 20000 in
theorem kw_X1_89 : dx_pok dx_P RX1 89 (1, 19, 17) := dx_pok1 (K := km_X1_halves) (q := (RX1, TX1, 11)) rfl rfl rfl (dx_T_of (List.mem_of_getElem? (i := 411) (by decide +kernel)) (by decide +kernel)) (dx_T_of (List.mem_of_getElem? (i := 412) (by decide +kernel)) (by decide +kernel)) (dx_T_of (List.mem_of_getElem? (i := 413) (by decide +kernel)) (by decide +kernel)) kc_X1_halves rfl
set_option maxRecDepth 20000 in
theorem kw_X1_92 : dx_pok dx_P RX1 92 (1, 23, 16) := dx_pok1 (K := km_X1_measureRow) (q := (RX1, TX1, 11)) rfl rfl rfl (dx_T_of (List.mem_of_getElem? (i := 470) (by decide +kernel)) (by decide +kernel)) (dx_T_of (List.mem_of_getElem? (i := 471) (by decide +kernel)) (by decide +kernel)) (dx_T_of (List.mem_of_getElem? (i := 472) (by decide +kernel)) (by decide +kernel)) kc_X1_measureRow rfl
set_option maxRecDepth 20000 in
theorem kw_X1_95 : dx_pok dx_P RX1 95 (0, 1, 9) := dx_pok0 (C := RX1) (T := TX1) (N := 11) rfl (by decide) (dx_T_of (List.mem_of_getElem? (i := 100) (by decide +kernel)) (by decide +kernel))
set_option maxRecDepth 20000 in
theorem kw_X1_98 : dx_pok dx_P RX1 98 (0, 1, 10) := dx_pok0 (C := RX1) (T := TX1) (N := 11) rfl (by decide) (dx_T_of (List.mem_of_getElem? (i := 102) (by decide +kernel)) (by decide +kernel))
set_option maxRecDepth 20000 in
theorem kw_X1_101 : dx_pok dx_P RX1 101 (6, 1004, 0) := dx_pok6 (dx_T_of (List.mem_of_getElem? (i := 474) (by decide +kernel)) (by decide +kernel))
set_option maxRecDepth 20000 in
theorem kw_X1_103 : dx_pok dx_P RX1 103 (6, 1003, 0) := dx_pok6 (dx_T_of (List.mem_of_getElem? (i := 475) (by decide +kernel)) (by decide +kernel))
set_option maxRecDepth 20000 in
theorem kw_X1_105 : dx_pok dx_P RX1 105 (6, 1012, 0) := dx_pok6 (dx_T_of (List.mem_of_getElem? (i := 476) (by decide +kernel)) (by decide +kernel))
theorem kw_X1 : ∀ (x : Nat) (e : Nat × Nat × Nat), dx_look kp_X1 x = some e → dx_pok dx_P RX1 x e := fun x e h => dx_look_all (F := fun x e => dx_pok dx_P RX1 x e) (show ∀ q ∈ kp_X1, dx_pok dx_P RX1 q.1 q.2 from List.forall_mem_cons.mpr ⟨kw_X1_9, List.forall_mem_cons.mpr ⟨kw_X1_15, List.forall_mem_cons.mpr ⟨kw_X1_18, List.forall_mem_cons.mpr ⟨kw_X1_24, List.forall_mem_cons.mpr ⟨kw_X1_28, List.forall_mem_cons.mpr ⟨kw_X1_31, List.forall_mem_cons.mpr ⟨kw_X1_34, List.forall_mem_cons.mpr ⟨kw_X1_37, List.forall_mem_cons.mpr ⟨kw_X1_38, List.forall_mem_cons.mpr ⟨kw_X1_39, List.forall_mem_cons.mpr ⟨kw_X1_43, List.forall_mem_cons.mpr ⟨kw_X1_47, List.forall_mem_cons.mpr ⟨kw_X1_50, List.forall_mem_cons.mpr ⟨kw_X1_53, List.forall_mem_cons.mpr ⟨kw_X1_56, List.forall_mem_cons.mpr ⟨kw_X1_59, List.forall_mem_cons.mpr ⟨kw_X1_62, List.forall_mem_cons.mpr ⟨kw_X1_65, List.forall_mem_cons.mpr ⟨kw_X1_70, List.forall_mem_cons.mpr ⟨kw_X1_73, List.forall_mem_cons.mpr ⟨kw_X1_77, List.forall_mem_cons.mpr ⟨kw_X1_81, List.forall_mem_cons.mpr ⟨kw_X1_84, List.forall_mem_cons.mpr ⟨kw_X1_89, List.forall_mem_cons.mpr ⟨kw_X1_92, List.forall_mem_cons.mpr ⟨kw_X1_95, List.forall_mem_cons.mpr ⟨kw_X1_98, List.forall_mem_cons.mpr ⟨kw_X1_101, List.forall_mem_cons.mpr ⟨kw_X1_103, List.forall_mem_cons.mpr ⟨kw_X1_105, fun _ h => absurd h List.not_mem_nil⟩⟩⟩⟩⟩⟩⟩⟩⟩⟩⟩⟩⟩⟩⟩⟩⟩⟩⟩⟩⟩⟩⟩⟩⟩⟩⟩⟩⟩⟩) h
set_option maxRecDepth 20000 in
theorem kw_X2_9 : dx_pok dx_P RX2 9 (0, 2, 0) := dx_pok0 (C := RX2) (T := TX2) (N := 6) rfl (by decide) (dx_T_of (List.mem_of_getElem? (i := 134) (by decide +kernel)) (by decide +kernel))
set_option maxRecDepth 20000 in
theorem kw_X2_15 : dx_pok dx_P RX2 15 (0, 2, 1) := dx_pok0 (C := RX2) (T := TX2) (N := 6) rfl (by decide) (dx_T_of (List.mem_of_getElem? (i := 136) (by decide +kernel)) (by decide +kernel))
set_option maxRecDepth 20000 in
theorem kw_X2_19 : dx_pok dx_P RX2 19 (0, 2, 2) := dx_pok0 (C := RX2) (T := TX2) (N := 6) rfl (by decide) (dx_T_of (List.mem_of_getElem? (i := 138) (by decide +kernel)) (by decide +kernel))
set_option maxRecDepth 20000 in
theorem kw_X2_22 : dx_pok dx_P RX2 22 (0, 2, 3) := dx_pok0 (C := RX2) (T := TX2) (N := 6) rfl (by decide) (dx_T_of (List.mem_of_getElem? (i := 140) (by decide +kernel)) (by decide +kernel))
set_option maxRecDepth 20000 in
theorem kw_X2_25 : dx_pok dx_P RX2 25 (0, 2, 4) := dx_pok0 (C := RX2) (T := TX2) (N := 6) rfl (by decide) (dx_T_of (List.mem_of_getElem? (i := 142) (by decide +kernel)) (by decide +kernel))
set_option maxRecDepth 20000 in
theorem kw_X2_28 : dx_pok dx_P RX2 28 (0, 2, 5) := dx_pok0 (C := RX2) (T := TX2) (N := 6) rfl (by decide) (dx_T_of (List.mem_of_getElem? (i := 144) (by decide +kernel)) (by decide +kernel))
theorem kw_X2 : ∀ (x : Nat) (e : Nat × Nat × Nat), dx_look kp_X2 x = some e → dx_pok dx_P RX2 x e := fun x e h => dx_look_all (F := fun x e => dx_pok dx_P RX2 x e) (show ∀ q ∈ kp_X2, dx_pok dx_P RX2 q.1 q.2 from List.forall_mem_cons.mpr ⟨kw_X2_9, List.forall_mem_cons.mpr ⟨kw_X2_15, List.forall_mem_cons.mpr ⟨kw_X2_19, List.forall_mem_cons.mpr ⟨kw_X2_22, List.forall_mem_cons.mpr ⟨kw_X2_25, List.forall_mem_cons.mpr ⟨kw_X2_28, fun _ h => absurd h List.not_mem_nil⟩⟩⟩⟩⟩⟩) h
set_option maxRecDepth 20000 in
theorem kw_X3_12 : dx_pok dx_P RX3 12 (0, 3, 0) := dx_pok0 (C := RX3) (T := TX3) (N := 11) rfl (by decide) (dx_T_of (List.mem_of_getElem? (i := 161) (by decide +kernel)) (by decide +kernel))
set_option maxRecDepth 20000 in
theorem kw_X3_19 : dx_pok dx_P RX3 19 (0, 3, 1) := dx_pok0 (C := RX3) (T := TX3) (N := 11) rfl (by decide) (dx_T_of (List.mem_of_getElem? (i := 162) (by decide +kernel)) (by decide +kernel))
set_option maxRecDepth 20000 in
theorem kw_X3_25 : dx_pok dx_P RX3 25 (0, 3, 2) := dx_pok0 (C := RX3) (T := TX3) (N := 11) rfl (by decide) (dx_T_of (List.mem_of_getElem? (i := 163) (by decide +kernel)) (by decide +kernel))
set_option maxRecDepth 20000 in
theorem kw_X3_32 : dx_pok dx_P RX3 32 (0, 3, 3) := dx_pok0 (C := RX3) (T := TX3) (N := 11) rfl (by decide) (dx_T_of (List.mem_of_getElem? (i := 164) (by decide +kernel)) (by decide +kernel))
set_option maxRecDepth 20000 in
theorem kw_X3_35 : dx_pok dx_P RX3 35 (0, 3, 4) := dx_pok0 (C := RX3) (T := TX3) (N := 11) rfl (by decide) (dx_T_of (List.mem_of_getElem? (i := 165) (by decide +kernel)) (by decide +kernel))
set_option maxRecDepth 20000 in
theorem kw_X3_39 : dx_pok dx_P RX3 39 (0, 3, 5) := dx_pok0 (C := RX3) (T := TX3) (N := 11) rfl (by decide) (dx_T_of (List.mem_of_getElem? (i := 166) (by decide +kernel)) (by decide +kernel))
set_option maxRecDepth 20000 in
theorem kw_X3_42 : dx_pok dx_P RX3 42 (0, 3, 6) := dx_pok0 (C := RX3) (T := TX3) (N := 11) rfl (by decide) (dx_T_of (List.mem_of_getElem? (i := 167) (by decide +kernel)) (by decide +kernel))
set_option maxRecDepth 20000 in
theorem kw_X3_46 : dx_pok dx_P RX3 46 (0, 3, 10) := dx_pok0 (C := RX3) (T := TX3) (N := 11) rfl (by decide) (dx_T_of (List.mem_of_getElem? (i := 171) (by decide +kernel)) (by decide +kernel))
set_option maxRecDepth 20000 in
theorem kw_X3_50 : dx_pok dx_P RX3 50 (2, 64, 3) := dx_pok2 (K := km_X3_within) rfl (dx_T_of (List.mem_of_getElem? (i := 200) (by decide +kernel)) (by decide +kernel)) (dx_T_of (List.mem_of_getElem? (i := 201) (by decide +kernel)) (by decide +kernel)) kc_X3_within
set_option maxRecDepth 20000 in
theorem kw_X3_54 : dx_pok dx_P RX3 54 (1, 0, 2) := dx_pok1 (K := km_X0_begin) (q := (RX0, TX0, 3)) rfl rfl rfl (dx_T_of (List.mem_of_getElem? (i := 203) (by decide +kernel)) (by decide +kernel)) (dx_T_of (List.mem_of_getElem? (i := 61) (by decide +kernel)) (by decide +kernel)) (dx_T_of (List.mem_of_getElem? (i := 62) (by decide +kernel)) (by decide +kernel)) kc_X0_begin rfl
set_option maxRecDepth 20000 in
theorem kw_X3_58 : dx_pok dx_P RX3 58 (0, 3, 7) := dx_pok0 (C := RX3) (T := TX3) (N := 11) rfl (by decide) (dx_T_of (List.mem_of_getElem? (i := 168) (by decide +kernel)) (by decide +kernel))
set_option maxRecDepth 20000 in
theorem kw_X3_61 : dx_pok dx_P RX3 61 (1, 1, 2) := dx_pok1 (K := km_X0_has) (q := (RX0, TX0, 3)) rfl rfl rfl (dx_T_of (List.mem_of_getElem? (i := 208) (by decide +kernel)) (by decide +kernel)) (dx_T_of (List.mem_of_getElem? (i := 209) (by decide +kernel)) (by decide +kernel)) (dx_T_of (List.mem_of_getElem? (i := 210) (by decide +kernel)) (by decide +kernel)) kc_X0_has rfl
set_option maxRecDepth 20000 in
theorem kw_X3_65 : dx_pok dx_P RX3 65 (1, 2, 2) := dx_pok1 (K := km_X0_weightOf) (q := (RX0, TX0, 3)) rfl rfl rfl (dx_T_of (List.mem_of_getElem? (i := 213) (by decide +kernel)) (by decide +kernel)) (dx_T_of (List.mem_of_getElem? (i := 214) (by decide +kernel)) (by decide +kernel)) (dx_T_of (List.mem_of_getElem? (i := 215) (by decide +kernel)) (by decide +kernel)) kc_X0_weightOf rfl
set_option maxRecDepth 20000 in
theorem kw_X3_69 : dx_pok dx_P RX3 69 (1, 3, 3) := dx_pok1 (K := km_X0_put) (q := (RX0, TX0, 3)) rfl rfl rfl (dx_T_of (List.mem_of_getElem? (i := 217) (by decide +kernel)) (by decide +kernel)) (dx_T_of (List.mem_of_getElem? (i := 218) (by decide +kernel)) (by decide +kernel)) (dx_T_of (List.mem_of_getElem? (i := 219) (by decide +kernel)) (by decide +kernel)) kc_X0_put rfl
set_option maxRecDepth 20000 in
theorem kw_X3_73 : dx_pok dx_P RX3 73 (2, 66, 1) := dx_pok2 (K := km_X3_isSheet) rfl (dx_T_of (List.mem_of_getElem? (i := 233) (by decide +kernel)) (by decide +kernel)) (dx_T_of (List.mem_of_getElem? (i := 234) (by decide +kernel)) (by decide +kernel)) kc_X3_isSheet
set_option maxRecDepth 20000 in
theorem kw_X3_77 : dx_pok dx_P RX3 77 (1, 70, 49) := dx_pok1 (K := km_X3_find) (q := (RX3, TX3, 11)) rfl rfl rfl (dx_T_of (List.mem_of_getElem? (i := 236) (by decide +kernel)) (by decide +kernel)) (dx_T_of (List.mem_of_getElem? (i := 238) (by decide +kernel)) (by decide +kernel)) (dx_T_of (List.mem_of_getElem? (i := 0) (by decide +kernel)) (by decide +kernel)) kc_X3_find rfl
set_option maxRecDepth 20000 in
theorem kw_X3_81 : dx_pok dx_P RX3 81 (1, 69, 51) := dx_pok1 (K := km_X3_reaches) (q := (RX3, TX3, 11)) rfl rfl rfl (dx_T_of (List.mem_of_getElem? (i := 252) (by decide +kernel)) (by decide +kernel)) (dx_T_of (List.mem_of_getElem? (i := 254) (by decide +kernel)) (by decide +kernel)) (dx_T_of (List.mem_of_getElem? (i := 1) (by decide +kernel)) (by decide +kernel)) kc_X3_reaches rfl
set_option maxRecDepth 20000 in
theorem kw_X3_84 : dx_pok dx_P RX3 84 (4, 0, 0) := dx_pok4 (dx_T_of (List.mem_of_getElem? (i := 256) (by decide +kernel)) (by decide +kernel)) (dx_T_of (List.mem_of_getElem? (i := 258) (by decide +kernel)) (by decide +kernel)) (dx_T_of (List.mem_of_getElem? (i := 257) (by decide +kernel)) (by decide +kernel)) (dx_T_of (List.mem_of_getElem? (i := 42) (by decide +kernel)) (by decide +kernel))
set_option maxRecDepth 20000 in
theorem kw_X3_90 : dx_pok dx_P RX3 90 (0, 0, 1) := dx_pok0 (C := RX0) (T := TX0) (N := 3) rfl (by decide) (dx_T_of (List.mem_of_getElem? (i := 67) (by decide +kernel)) (by decide +kernel))
set_option maxRecDepth 20000 in
theorem kw_X3_93 : dx_pok dx_P RX3 93 (8, 0, 0) := dx_pok8 (dx_T_of (List.mem_of_getElem? (i := 263) (by decide +kernel)) (by decide +kernel)) (dx_T_of (List.mem_of_getElem? (i := 264) (by decide +kernel)) (by decide +kernel)) (dx_T_of (List.mem_of_getElem? (i := 43) (by decide +kernel)) (by decide +kernel)) (dx_T_of (List.mem_of_getElem? (i := 265) (by decide +kernel)) (by decide +kernel))
set_option maxRecDepth 20000 in
theorem kw_X3_98 : dx_pok dx_P RX3 98 (2, 67, 2) := dx_pok2 (K := km_X3_isPoint) rfl (dx_T_of (List.mem_of_getElem? (i := 270) (by decide +kernel)) (by decide +kernel)) (dx_T_of (List.mem_of_getElem? (i := 271) (by decide +kernel)) (by decide +kernel)) kc_X3_isPoint
set_option maxRecDepth 20000 in
theorem kw_X3_101 : dx_pok dx_P RX3 101 (1, 24, 36) := dx_pok1 (K := km_X2_begin) (q := (RX2, TX2, 6)) rfl rfl rfl (dx_T_of (List.mem_of_getElem? (i := 273) (by decide +kernel)) (by decide +kernel)) (dx_T_of (List.mem_of_getElem? (i := 274) (by decide +kernel)) (by decide +kernel)) (dx_T_of (List.mem_of_getElem? (i := 275) (by decide +kernel)) (by decide +kernel)) kc_X2_begin rfl
set_option maxRecDepth 20000 in
theorem kw_X3_104 : dx_pok dx_P RX3 104 (1, 68, 49) := dx_pok1 (K := km_X3_isLoad) (q := (RX3, TX3, 11)) rfl rfl rfl (dx_T_of (List.mem_of_getElem? (i := 281) (by decide +kernel)) (by decide +kernel)) (dx_T_of (List.mem_of_getElem? (i := 283) (by decide +kernel)) (by decide +kernel)) (dx_T_of (List.mem_of_getElem? (i := 2) (by decide +kernel)) (by decide +kernel)) kc_X3_isLoad rfl
set_option maxRecDepth 20000 in
theorem kw_X3_107 : dx_pok dx_P RX3 107 (0, 2, 0) := dx_pok0 (C := RX2) (T := TX2) (N := 6) rfl (by decide) (dx_T_of (List.mem_of_getElem? (i := 135) (by decide +kernel)) (by decide +kernel))
set_option maxRecDepth 20000 in
theorem kw_X3_111 : dx_pok dx_P RX3 111 (0, 2, 1) := dx_pok0 (C := RX2) (T := TX2) (N := 6) rfl (by decide) (dx_T_of (List.mem_of_getElem? (i := 137) (by decide +kernel)) (by decide +kernel))
set_option maxRecDepth 20000 in
theorem kw_X3_114 : dx_pok dx_P RX3 114 (0, 2, 2) := dx_pok0 (C := RX2) (T := TX2) (N := 6) rfl (by decide) (dx_T_of (List.mem_of_getElem? (i := 139) (by decide +kernel)) (by decide +kernel))
set_option maxRecDepth 20000 in
theorem kw_X3_117 : dx_pok dx_P RX3 117 (0, 2, 3) := dx_pok0 (C := RX2) (T := TX2) (N := 6) rfl (by decide) (dx_T_of (List.mem_of_getElem? (i := 141) (by decide +kernel)) (by decide +kernel))
set_option maxRecDepth 20000 in
theorem kw_X3_120 : dx_pok dx_P RX3 120 (0, 2, 5) := dx_pok0 (C := RX2) (T := TX2) (N := 6) rfl (by decide) (dx_T_of (List.mem_of_getElem? (i := 145) (by decide +kernel)) (by decide +kernel))
set_option maxRecDepth 20000 in
theorem kw_X3_123 : dx_pok dx_P RX3 123 (1, 25, 33) := dx_pok1 (K := km_X2_fact) (q := (RX2, TX2, 6)) rfl rfl rfl (dx_T_of (List.mem_of_getElem? (i := 297) (by decide +kernel)) (by decide +kernel)) (dx_T_of (List.mem_of_getElem? (i := 298) (by decide +kernel)) (by decide +kernel)) (dx_T_of (List.mem_of_getElem? (i := 299) (by decide +kernel)) (by decide +kernel)) kc_X2_fact rfl
set_option maxRecDepth 20000 in
theorem kw_X3_126 : dx_pok dx_P RX3 126 (1, 74, 48) := dx_pok1 (K := km_X3_wholeWeight) (q := (RX3, TX3, 11)) rfl rfl rfl (dx_T_of (List.mem_of_getElem? (i := 309) (by decide +kernel)) (by decide +kernel)) (dx_T_of (List.mem_of_getElem? (i := 311) (by decide +kernel)) (by decide +kernel)) (dx_T_of (List.mem_of_getElem? (i := 3) (by decide +kernel)) (by decide +kernel)) kc_X3_wholeWeight rfl
set_option maxRecDepth 20000 in
theorem kw_X3_130 : dx_pok dx_P RX3 130 (1, 6, 0) := dx_pok1 (K := km_X0_squares) (q := (RX0, TX0, 3)) rfl rfl rfl (dx_T_of (List.mem_of_getElem? (i := 321) (by decide +kernel)) (by decide +kernel)) (dx_T_of (List.mem_of_getElem? (i := 322) (by decide +kernel)) (by decide +kernel)) (dx_T_of (List.mem_of_getElem? (i := 323) (by decide +kernel)) (by decide +kernel)) kc_X0_squares rfl
set_option maxRecDepth 20000 in
theorem kw_X3_133 : dx_pok dx_P RX3 133 (1, 7, 0) := dx_pok1 (K := km_X0_weight) (q := (RX0, TX0, 3)) rfl rfl rfl (dx_T_of (List.mem_of_getElem? (i := 313) (by decide +kernel)) (by decide +kernel)) (dx_T_of (List.mem_of_getElem? (i := 314) (by decide +kernel)) (by decide +kernel)) (dx_T_of (List.mem_of_getElem? (i := 315) (by decide +kernel)) (by decide +kernel)) kc_X0_weight rfl
set_option maxRecDepth 20000 in
theorem kw_X3_136 : dx_pok dx_P RX3 136 (1, 75, 49) := dx_pok1 (K := km_X3_settle) (q := (RX3, TX3, 11)) rfl rfl rfl (dx_T_of (List.mem_of_getElem? (i := 329) (by decide +kernel)) (by decide +kernel)) (dx_T_of (List.mem_of_getElem? (i := 331) (by decide +kernel)) (by decide +kernel)) (dx_T_of (List.mem_of_getElem? (i := 4) (by decide +kernel)) (by decide +kernel)) kc_X3_settle rfl
set_option maxRecDepth 20000 in
theorem kw_X3_139 : dx_pok dx_P RX3 139 (0, 1, 4) := dx_pok0 (C := RX1) (T := TX1) (N := 11) rfl (by decide) (dx_T_of (List.mem_of_getElem? (i := 91) (by decide +kernel)) (by decide +kernel))
set_option maxRecDepth 20000 in
theorem kw_X3_142 : dx_pok dx_P RX3 142 (0, 1, 8) := dx_pok0 (C := RX1) (T := TX1) (N := 11) rfl (by decide) (dx_T_of (List.mem_of_getElem? (i := 99) (by decide +kernel)) (by decide +kernel))
set_option maxRecDepth 20000 in
theorem kw_X3_145 : dx_pok dx_P RX3 145 (0, 1, 7) := dx_pok0 (C := RX1) (T := TX1) (N := 11) rfl (by decide) (dx_T_of (List.mem_of_getElem? (i := 97) (by decide +kernel)) (by decide +kernel))
set_option maxRecDepth 20000 in
theorem kw_X3_148 : dx_pok dx_P RX3 148 (1, 71, 50) := dx_pok1 (K := km_X3_tell) (q := (RX3, TX3, 11)) rfl rfl rfl (dx_T_of (List.mem_of_getElem? (i := 389) (by decide +kernel)) (by decide +kernel)) (dx_T_of (List.mem_of_getElem? (i := 391) (by decide +kernel)) (by decide +kernel)) (dx_T_of (List.mem_of_getElem? (i := 5) (by decide +kernel)) (by decide +kernel)) kc_X3_tell rfl
set_option maxRecDepth 20000 in
theorem kw_X3_152 : dx_pok dx_P RX3 152 (0, 1, 3) := dx_pok0 (C := RX1) (T := TX1) (N := 11) rfl (by decide) (dx_T_of (List.mem_of_getElem? (i := 89) (by decide +kernel)) (by decide +kernel))
set_option maxRecDepth 20000 in
theorem kw_X3_155 : dx_pok dx_P RX3 155 (1, 20, 16) := dx_pok1 (K := km_X1_momentAcross) (q := (RX1, TX1, 11)) rfl rfl rfl (dx_T_of (List.mem_of_getElem? (i := 407) (by decide +kernel)) (by decide +kernel)) (dx_T_of (List.mem_of_getElem? (i := 408) (by decide +kernel)) (by decide +kernel)) (dx_T_of (List.mem_of_getElem? (i := 409) (by decide +kernel)) (by decide +kernel)) kc_X1_momentAcross rfl
set_option maxRecDepth 20000 in
theorem kw_X3_159 : dx_pok dx_P RX3 159 (6, 1002, 0) := dx_pok6 (dx_T_of (List.mem_of_getElem? (i := 415) (by decide +kernel)) (by decide +kernel))
set_option maxRecDepth 20000 in
theorem kw_X3_161 : dx_pok dx_P RX3 161 (1, 21, 16) := dx_pok1 (K := km_X1_momentUp) (q := (RX1, TX1, 11)) rfl rfl rfl (dx_T_of (List.mem_of_getElem? (i := 416) (by decide +kernel)) (by decide +kernel)) (dx_T_of (List.mem_of_getElem? (i := 417) (by decide +kernel)) (by decide +kernel)) (dx_T_of (List.mem_of_getElem? (i := 418) (by decide +kernel)) (by decide +kernel)) kc_X1_momentUp rfl
set_option maxRecDepth 20000 in
theorem kw_X3_164 : dx_pok dx_P RX3 164 (1, 76, 49) := dx_pok1 (K := km_X3_weightAcross) (q := (RX3, TX3, 11)) rfl rfl rfl (dx_T_of (List.mem_of_getElem? (i := 420) (by decide +kernel)) (by decide +kernel)) (dx_T_of (List.mem_of_getElem? (i := 422) (by decide +kernel)) (by decide +kernel)) (dx_T_of (List.mem_of_getElem? (i := 6) (by decide +kernel)) (by decide +kernel)) kc_X3_weightAcross rfl
set_option maxRecDepth 20000 in
theorem kw_X3_168 : dx_pok dx_P RX3 168 (1, 77, 49) := dx_pok1 (K := km_X3_weightUp) (q := (RX3, TX3, 11)) rfl rfl rfl (dx_T_of (List.mem_of_getElem? (i := 434) (by decide +kernel)) (by decide +kernel)) (dx_T_of (List.mem_of_getElem? (i := 436) (by decide +kernel)) (by decide +kernel)) (dx_T_of (List.mem_of_getElem? (i := 7) (by decide +kernel)) (by decide +kernel)) kc_X3_weightUp rfl
set_option maxRecDepth 20000 in
theorem kw_X3_171 : dx_pok dx_P RX3 171 (2, 65, 1) := dx_pok2 (K := km_X3_isTurn) rfl (dx_T_of (List.mem_of_getElem? (i := 333) (by decide +kernel)) (by decide +kernel)) (dx_T_of (List.mem_of_getElem? (i := 334) (by decide +kernel)) (by decide +kernel)) kc_X3_isTurn
set_option maxRecDepth 20000 in
theorem kw_X3_174 : dx_pok dx_P RX3 174 (1, 4, 1) := dx_pok1 (K := km_X0_across) (q := (RX0, TX0, 3)) rfl rfl rfl (dx_T_of (List.mem_of_getElem? (i := 448) (by decide +kernel)) (by decide +kernel)) (dx_T_of (List.mem_of_getElem? (i := 341) (by decide +kernel)) (by decide +kernel)) (dx_T_of (List.mem_of_getElem? (i := 342) (by decide +kernel)) (by decide +kernel)) kc_X0_across rfl
set_option maxRecDepth 20000 in
theorem kw_X3_177 : dx_pok dx_P RX3 177 (1, 5, 1) := dx_pok1 (K := km_X0_up) (q := (RX0, TX0, 3)) rfl rfl rfl (dx_T_of (List.mem_of_getElem? (i := 449) (by decide +kernel)) (by decide +kernel)) (dx_T_of (List.mem_of_getElem? (i := 345) (by decide +kernel)) (by decide +kernel)) (dx_T_of (List.mem_of_getElem? (i := 346) (by decide +kernel)) (by decide +kernel)) kc_X0_up rfl
set_option maxRecDepth 20000 in
theorem kw_X3_180 : dx_pok dx_P RX3 180 (1, 18, 18) := dx_pok1 (K := km_X1_stateOf) (q := (RX1, TX1, 11)) rfl rfl rfl (dx_T_of (List.mem_of_getElem? (i := 450) (by decide +kernel)) (by decide +kernel)) (dx_T_of (List.mem_of_getElem? (i := 451) (by decide +kernel)) (by decide +kernel)) (dx_T_of (List.mem_of_getElem? (i := 452) (by decide +kernel)) (by decide +kernel)) kc_X1_stateOf rfl
set_option maxRecDepth 20000 in
theorem kw_X3_183 : dx_pok dx_P RX3 183 (1, 78, 49) := dx_pok1 (K := km_X3_leaning) (q := (RX3, TX3, 11)) rfl rfl rfl (dx_T_of (List.mem_of_getElem? (i := 458) (by decide +kernel)) (by decide +kernel)) (dx_T_of (List.mem_of_getElem? (i := 460) (by decide +kernel)) (by decide +kernel)) (dx_T_of (List.mem_of_getElem? (i := 8) (by decide +kernel)) (by decide +kernel)) kc_X3_leaning rfl
set_option maxRecDepth 20000 in
theorem kw_X3_186 : dx_pok dx_P RX3 186 (1, 22, 16) := dx_pok1 (K := km_X1_measureLine) (q := (RX1, TX1, 11)) rfl rfl rfl (dx_T_of (List.mem_of_getElem? (i := 466) (by decide +kernel)) (by decide +kernel)) (dx_T_of (List.mem_of_getElem? (i := 467) (by decide +kernel)) (by decide +kernel)) (dx_T_of (List.mem_of_getElem? (i := 468) (by decide +kernel)) (by decide +kernel)) kc_X1_measureLine rfl
set_option maxRecDepth 20000 in
theorem kw_X3_189 : dx_pok dx_P RX3 189 (0, 1, 9) := dx_pok0 (C := RX1) (T := TX1) (N := 11) rfl (by decide) (dx_T_of (List.mem_of_getElem? (i := 101) (by decide +kernel)) (by decide +kernel))
set_option maxRecDepth 20000 in
theorem kw_X3_192 : dx_pok dx_P RX3 192 (0, 1, 10) := dx_pok0 (C := RX1) (T := TX1) (N := 11) rfl (by decide) (dx_T_of (List.mem_of_getElem? (i := 103) (by decide +kernel)) (by decide +kernel))
set_option maxRecDepth 20000 in
theorem kw_X3_195 : dx_pok dx_P RX3 195 (1, 79, 49) := dx_pok1 (K := km_X3_holding) (q := (RX3, TX3, 11)) rfl rfl rfl (dx_T_of (List.mem_of_getElem? (i := 481) (by decide +kernel)) (by decide +kernel)) (dx_T_of (List.mem_of_getElem? (i := 483) (by decide +kernel)) (by decide +kernel)) (dx_T_of (List.mem_of_getElem? (i := 9) (by decide +kernel)) (by decide +kernel)) kc_X3_holding rfl
set_option maxRecDepth 20000 in
theorem kw_X3_198 : dx_pok dx_P RX3 198 (1, 10, 18) := dx_pok1 (K := km_X1_turnTo) (q := (RX1, TX1, 11)) rfl rfl rfl (dx_T_of (List.mem_of_getElem? (i := 336) (by decide +kernel)) (by decide +kernel)) (dx_T_of (List.mem_of_getElem? (i := 337) (by decide +kernel)) (by decide +kernel)) (dx_T_of (List.mem_of_getElem? (i := 338) (by decide +kernel)) (by decide +kernel)) kc_X1_turnTo rfl
set_option maxRecDepth 20000 in
theorem kw_X3_202 : dx_pok dx_P RX3 202 (1, 17, 16) := dx_pok1 (K := km_X1_mostRoom) (q := (RX1, TX1, 11)) rfl rfl rfl (dx_T_of (List.mem_of_getElem? (i := 496) (by decide +kernel)) (by decide +kernel)) (dx_T_of (List.mem_of_getElem? (i := 497) (by decide +kernel)) (by decide +kernel)) (dx_T_of (List.mem_of_getElem? (i := 498) (by decide +kernel)) (by decide +kernel)) kc_X1_mostRoom rfl
set_option maxRecDepth 20000 in
theorem kw_X3_205 : dx_pok dx_P RX3 205 (1, 16, 18) := dx_pok1 (K := km_X1_bears) (q := (RX1, TX1, 11)) rfl rfl rfl (dx_T_of (List.mem_of_getElem? (i := 355) (by decide +kernel)) (by decide +kernel)) (dx_T_of (List.mem_of_getElem? (i := 356) (by decide +kernel)) (by decide +kernel)) (dx_T_of (List.mem_of_getElem? (i := 357) (by decide +kernel)) (by decide +kernel)) kc_X1_bears rfl
set_option maxRecDepth 20000 in
theorem kw_X3_208 : dx_pok dx_P RX3 208 (1, 11, 17) := dx_pok1 (K := km_X1_riseTo) (q := (RX1, TX1, 11)) rfl rfl rfl (dx_T_of (List.mem_of_getElem? (i := 509) (by decide +kernel)) (by decide +kernel)) (dx_T_of (List.mem_of_getElem? (i := 360) (by decide +kernel)) (by decide +kernel)) (dx_T_of (List.mem_of_getElem? (i := 361) (by decide +kernel)) (by decide +kernel)) kc_X1_riseTo rfl
set_option maxRecDepth 20000 in
theorem kw_X3_212 : dx_pok dx_P RX3 212 (0, 1, 5) := dx_pok0 (C := RX1) (T := TX1) (N := 11) rfl (by decide) (dx_T_of (List.mem_of_getElem? (i := 93) (by decide +kernel)) (by decide +kernel))
set_option maxRecDepth 20000 in
theorem kw_X3_215 : dx_pok dx_P RX3 215 (0, 1, 6) := dx_pok0 (C := RX1) (T := TX1) (N := 11) rfl (by decide) (dx_T_of (List.mem_of_getElem? (i := 95) (by decide +kernel)) (by decide +kernel))
set_option maxRecDepth 20000 in
theorem kw_X3_218 : dx_pok dx_P RX3 218 (0, 3, 9) := dx_pok0 (C := RX3) (T := TX3) (N := 11) rfl (by decide) (dx_T_of (List.mem_of_getElem? (i := 170) (by decide +kernel)) (by decide +kernel))
set_option maxRecDepth 20000 in
theorem kw_X3_221 : dx_pok dx_P RX3 221 (0, 0, 2) := dx_pok0 (C := RX0) (T := TX0) (N := 3) rfl (by decide) (dx_T_of (List.mem_of_getElem? (i := 70) (by decide +kernel)) (by decide +kernel))
set_option maxRecDepth 20000 in
theorem kw_X3_222 : dx_pok dx_P RX3 222 (1, 73, 48) := dx_pok1 (K := km_X3_loadsThere) (q := (RX3, TX3, 11)) rfl rfl rfl (dx_T_of (List.mem_of_getElem? (i := 522) (by decide +kernel)) (by decide +kernel)) (dx_T_of (List.mem_of_getElem? (i := 524) (by decide +kernel)) (by decide +kernel)) (dx_T_of (List.mem_of_getElem? (i := 10) (by decide +kernel)) (by decide +kernel)) kc_X3_loadsThere rfl
set_option maxRecDepth 20000 in
theorem kw_X3_225 : dx_pok dx_P RX3 225 (0, 3, 8) := dx_pok0 (C := RX3) (T := TX3) (N := 11) rfl (by decide) (dx_T_of (List.mem_of_getElem? (i := 169) (by decide +kernel)) (by decide +kernel))
set_option maxRecDepth 20000 in
theorem kw_X3_228 : dx_pok dx_P RX3 228 (6, 1031, 0) := dx_pok6 (dx_T_of (List.mem_of_getElem? (i := 538) (by decide +kernel)) (by decide +kernel))
set_option maxRecDepth 20000 in
theorem kw_X3_230 : dx_pok dx_P RX3 230 (6, 1017, 0) := dx_pok6 (dx_T_of (List.mem_of_getElem? (i := 539) (by decide +kernel)) (by decide +kernel))
set_option maxRecDepth 20000 in
theorem kw_X3_232 : dx_pok dx_P RX3 232 (1, 61, 49) := dx_pok1 (K := km_X3_digestPlaces) (q := (RX3, TX3, 11)) rfl rfl rfl (dx_T_of (List.mem_of_getElem? (i := 540) (by decide +kernel)) (by decide +kernel)) (dx_T_of (List.mem_of_getElem? (i := 542) (by decide +kernel)) (by decide +kernel)) (dx_T_of (List.mem_of_getElem? (i := 11) (by decide +kernel)) (by decide +kernel)) kc_X3_digestPlaces rfl
set_option maxRecDepth 20000 in
theorem kw_X3_236 : dx_pok dx_P RX3 236 (1, 62, 49) := dx_pok1 (K := km_X3_digestLoads) (q := (RX3, TX3, 11)) rfl rfl rfl (dx_T_of (List.mem_of_getElem? (i := 544) (by decide +kernel)) (by decide +kernel)) (dx_T_of (List.mem_of_getElem? (i := 546) (by decide +kernel)) (by decide +kernel)) (dx_T_of (List.mem_of_getElem? (i := 12) (by decide +kernel)) (by decide +kernel)) kc_X3_digestLoads rfl
set_option maxRecDepth 20000 in
theorem kw_X3_239 : dx_pok dx_P RX3 239 (1, 63, 49) := dx_pok1 (K := km_X3_digestSheets) (q := (RX3, TX3, 11)) rfl rfl rfl (dx_T_of (List.mem_of_getElem? (i := 549) (by decide +kernel)) (by decide +kernel)) (dx_T_of (List.mem_of_getElem? (i := 551) (by decide +kernel)) (by decide +kernel)) (dx_T_of (List.mem_of_getElem? (i := 13) (by decide +kernel)) (by decide +kernel)) kc_X3_digestSheets rfl
set_option maxRecDepth 20000 in
theorem kw_X3_242 : dx_pok dx_P RX3 242 (6, 999, 0) := dx_pok6 (dx_T_of (List.mem_of_getElem? (i := 548) (by decide +kernel)) (by decide +kernel))
set_option maxRecDepth 20000 in
theorem kw_X3_244 : dx_pok dx_P RX3 244 (9, 0, 0) := dx_pok9 (dx_T_of (List.mem_of_getElem? (i := 393) (by decide +kernel)) (by decide +kernel)) (dx_T_of (List.mem_of_getElem? (i := 394) (by decide +kernel)) (by decide +kernel)) (dx_T_of (List.mem_of_getElem? (i := 43) (by decide +kernel)) (by decide +kernel)) (dx_T_of (List.mem_of_getElem? (i := 395) (by decide +kernel)) (by decide +kernel))
set_option maxRecDepth 20000 in
theorem kw_X3_247 : dx_pok dx_P RX3 247 (2, 72, 2) := dx_pok2 (K := km_X3_commonDivisor) rfl (dx_T_of (List.mem_of_getElem? (i := 396) (by decide +kernel)) (by decide +kernel)) (dx_T_of (List.mem_of_getElem? (i := 397) (by decide +kernel)) (by decide +kernel)) kc_X3_commonDivisor
set_option maxRecDepth 20000 in
theorem kw_X3_251 : dx_pok dx_P RX3 251 (0, 2, 4) := dx_pok0 (C := RX2) (T := TX2) (N := 6) rfl (by decide) (dx_T_of (List.mem_of_getElem? (i := 143) (by decide +kernel)) (by decide +kernel))
set_option maxRecDepth 20000 in
theorem kw_X3_253 : dx_pok dx_P RX3 253 (1, 8, 1) := dx_pok1 (K := km_X0_weightAcross) (q := (RX0, TX0, 3)) rfl rfl rfl (dx_T_of (List.mem_of_getElem? (i := 424) (by decide +kernel)) (by decide +kernel)) (dx_T_of (List.mem_of_getElem? (i := 425) (by decide +kernel)) (by decide +kernel)) (dx_T_of (List.mem_of_getElem? (i := 426) (by decide +kernel)) (by decide +kernel)) kc_X0_weightAcross rfl
set_option maxRecDepth 20000 in
theorem kw_X3_254 : dx_pok dx_P RX3 254 (2, 80, 5) := dx_pok2 (K := km_X3_turnedAcross) rfl (dx_T_of (List.mem_of_getElem? (i := 433) (by decide +kernel)) (by decide +kernel)) (dx_T_of (List.mem_of_getElem? (i := 350) (by decide +kernel)) (by decide +kernel)) kc_X3_turnedAcross
set_option maxRecDepth 20000 in
theorem kw_X3_258 : dx_pok dx_P RX3 258 (1, 9, 1) := dx_pok1 (K := km_X0_weightUp) (q := (RX0, TX0, 3)) rfl rfl rfl (dx_T_of (List.mem_of_getElem? (i := 438) (by decide +kernel)) (by decide +kernel)) (dx_T_of (List.mem_of_getElem? (i := 439) (by decide +kernel)) (by decide +kernel)) (dx_T_of (List.mem_of_getElem? (i := 440) (by decide +kernel)) (by decide +kernel)) kc_X0_weightUp rfl
set_option maxRecDepth 20000 in
theorem kw_X3_259 : dx_pok dx_P RX3 259 (2, 81, 5) := dx_pok2 (K := km_X3_turnedUp) rfl (dx_T_of (List.mem_of_getElem? (i := 443) (by decide +kernel)) (by decide +kernel)) (dx_T_of (List.mem_of_getElem? (i := 353) (by decide +kernel)) (by decide +kernel)) kc_X3_turnedUp
set_option maxRecDepth 20000 in
theorem kw_X3_262 : dx_pok dx_P RX3 262 (2, 144, 2) := dx_pok2 (K := km_J13_compare_74951) rfl (dx_T_of (List.mem_of_getElem? (i := 485) (by decide +kernel)) (by decide +kernel)) (dx_T_of (List.mem_of_getElem? (i := 486) (by decide +kernel)) (by decide +kernel)) kc_J13_compare_74951
theorem kw_X3 : ∀ (x : Nat) (e : Nat × Nat × Nat), dx_look kp_X3 x = some e → dx_pok dx_P RX3 x e := fun x e h => dx_look_all (F := fun x e => dx_pok dx_P RX3 x e) (show ∀ q ∈ kp_X3, dx_pok dx_P RX3 q.1 q.2 from List.forall_mem_cons.mpr ⟨kw_X3_12, List.forall_mem_cons.mpr ⟨kw_X3_19, List.forall_mem_cons.mpr ⟨kw_X3_25, List.forall_mem_cons.mpr ⟨kw_X3_32, List.forall_mem_cons.mpr ⟨kw_X3_35, List.forall_mem_cons.mpr ⟨kw_X3_39, List.forall_mem_cons.mpr ⟨kw_X3_42, List.forall_mem_cons.mpr ⟨kw_X3_46, List.forall_mem_cons.mpr ⟨kw_X3_50, List.forall_mem_cons.mpr ⟨kw_X3_54, List.forall_mem_cons.mpr ⟨kw_X3_58, List.forall_mem_cons.mpr ⟨kw_X3_61, List.forall_mem_cons.mpr ⟨kw_X3_65, List.forall_mem_cons.mpr ⟨kw_X3_69, List.forall_mem_cons.mpr ⟨kw_X3_73, List.forall_mem_cons.mpr ⟨kw_X3_77, List.forall_mem_cons.mpr ⟨kw_X3_81, List.forall_mem_cons.mpr ⟨kw_X3_84, List.forall_mem_cons.mpr ⟨kw_X3_90, List.forall_mem_cons.mpr ⟨kw_X3_93, List.forall_mem_cons.mpr ⟨kw_X3_98, List.forall_mem_cons.mpr ⟨kw_X3_101, List.forall_mem_cons.mpr ⟨kw_X3_104, List.forall_mem_cons.mpr ⟨kw_X3_107, List.forall_mem_cons.mpr ⟨kw_X3_111, List.forall_mem_cons.mpr ⟨kw_X3_114, List.forall_mem_cons.mpr ⟨kw_X3_117, List.forall_mem_cons.mpr ⟨kw_X3_120, List.forall_mem_cons.mpr ⟨kw_X3_123, List.forall_mem_cons.mpr ⟨kw_X3_126, List.forall_mem_cons.mpr ⟨kw_X3_130, List.forall_mem_cons.mpr ⟨kw_X3_133, List.forall_mem_cons.mpr ⟨kw_X3_136, List.forall_mem_cons.mpr ⟨kw_X3_139, List.forall_mem_cons.mpr ⟨kw_X3_142, List.forall_mem_cons.mpr ⟨kw_X3_145, List.forall_mem_cons.mpr ⟨kw_X3_148, List.forall_mem_cons.mpr ⟨kw_X3_152, List.forall_mem_cons.mpr ⟨kw_X3_155, List.forall_mem_cons.mpr ⟨kw_X3_159, List.forall_mem_cons.mpr ⟨kw_X3_161, List.forall_mem_cons.mpr ⟨kw_X3_164, List.forall_mem_cons.mpr ⟨kw_X3_168, List.forall_mem_cons.mpr ⟨kw_X3_171, List.forall_mem_cons.mpr ⟨kw_X3_174, List.forall_mem_cons.mpr ⟨kw_X3_177, List.forall_mem_cons.mpr ⟨kw_X3_180, List.forall_mem_cons.mpr ⟨kw_X3_183, List.forall_mem_cons.mpr ⟨kw_X3_186, List.forall_mem_cons.mpr ⟨kw_X3_189, List.forall_mem_cons.mpr ⟨kw_X3_192, List.forall_mem_cons.mpr ⟨kw_X3_195, List.forall_mem_cons.mpr ⟨kw_X3_198, List.forall_mem_cons.mpr ⟨kw_X3_202, List.forall_mem_cons.mpr ⟨kw_X3_205, List.forall_mem_cons.mpr ⟨kw_X3_208, List.forall_mem_cons.mpr ⟨kw_X3_212, List.forall_mem_cons.mpr ⟨kw_X3_215, List.forall_mem_cons.mpr ⟨kw_X3_218, List.forall_mem_cons.mpr ⟨kw_X3_221, List.forall_mem_cons.mpr ⟨kw_X3_222, List.forall_mem_cons.mpr ⟨kw_X3_225, List.forall_mem_cons.mpr ⟨kw_X3_228, List.forall_mem_cons.mpr ⟨kw_X3_230, List.forall_mem_cons.mpr ⟨kw_X3_232, List.forall_mem_cons.mpr ⟨kw_X3_236, List.forall_mem_cons.mpr ⟨kw_X3_239, List.forall_mem_cons.mpr ⟨kw_X3_242, List.forall_mem_cons.mpr ⟨kw_X3_244, List.forall_mem_cons.mpr ⟨kw_X3_247, List.forall_mem_cons.mpr ⟨kw_X3_251, List.forall_mem_cons.mpr ⟨kw_X3_253, List.forall_mem_cons.mpr ⟨kw_X3_254, List.forall_mem_cons.mpr ⟨kw_X3_258, List.forall_mem_cons.mpr ⟨kw_X3_259, List.forall_mem_cons.mpr ⟨kw_X3_262, fun _ h => absurd h List.not_mem_nil⟩⟩⟩⟩⟩⟩⟩⟩⟩⟩⟩⟩⟩⟩⟩⟩⟩⟩⟩⟩⟩⟩⟩⟩⟩⟩⟩⟩⟩⟩⟩⟩⟩⟩⟩⟩⟩⟩⟩⟩⟩⟩⟩⟩⟩⟩⟩⟩⟩⟩⟩⟩⟩⟩⟩⟩⟩⟩⟩⟩⟩⟩⟩⟩⟩⟩⟩⟩⟩⟩⟩⟩⟩⟩⟩⟩) h
set_option maxRecDepth 20000 in
theorem kw_X4_7 : dx_pok dx_P RX4 7 (0, 4, 1) := dx_pok0 (C := RX4) (T := TX4) (N := 38) rfl (by decide) (dx_T_of (List.mem_of_getElem? (i := 564) (by decide +kernel)) (by decide +kernel))
set_option maxRecDepth 20000 in
theorem kw_X4_13 : dx_pok dx_P RX4 13 (0, 4, 7) := dx_pok0 (C := RX4) (T := TX4) (N := 38) rfl (by decide) (dx_T_of (List.mem_of_getElem? (i := 570) (by decide +kernel)) (by decide +kernel))
set_option maxRecDepth 20000 in
theorem kw_X4_16 : dx_pok dx_P RX4 16 (0, 4, 8) := dx_pok0 (C := RX4) (T := TX4) (N := 38) rfl (by decide) (dx_T_of (List.mem_of_getElem? (i := 571) (by decide +kernel)) (by decide +kernel))
set_option maxRecDepth 20000 in
theorem kw_X4_19 : dx_pok dx_P RX4 19 (0, 4, 9) := dx_pok0 (C := RX4) (T := TX4) (N := 38) rfl (by decide) (dx_T_of (List.mem_of_getElem? (i := 572) (by decide +kernel)) (by decide +kernel))
set_option maxRecDepth 20000 in
theorem kw_X4_23 : dx_pok dx_P RX4 23 (0, 4, 10) := dx_pok0 (C := RX4) (T := TX4) (N := 38) rfl (by decide) (dx_T_of (List.mem_of_getElem? (i := 573) (by decide +kernel)) (by decide +kernel))
set_option maxRecDepth 20000 in
theorem kw_X4_26 : dx_pok dx_P RX4 26 (0, 4, 12) := dx_pok0 (C := RX4) (T := TX4) (N := 38) rfl (by decide) (dx_T_of (List.mem_of_getElem? (i := 575) (by decide +kernel)) (by decide +kernel))
set_option maxRecDepth 20000 in
theorem kw_X4_29 : dx_pok dx_P RX4 29 (0, 4, 13) := dx_pok0 (C := RX4) (T := TX4) (N := 38) rfl (by decide) (dx_T_of (List.mem_of_getElem? (i := 576) (by decide +kernel)) (by decide +kernel))
set_option maxRecDepth 20000 in
theorem kw_X4_32 : dx_pok dx_P RX4 32 (0, 4, 14) := dx_pok0 (C := RX4) (T := TX4) (N := 38) rfl (by decide) (dx_T_of (List.mem_of_getElem? (i := 577) (by decide +kernel)) (by decide +kernel))
set_option maxRecDepth 20000 in
theorem kw_X4_35 : dx_pok dx_P RX4 35 (0, 4, 15) := dx_pok0 (C := RX4) (T := TX4) (N := 38) rfl (by decide) (dx_T_of (List.mem_of_getElem? (i := 578) (by decide +kernel)) (by decide +kernel))
set_option maxRecDepth 20000 in
theorem kw_X4_38 : dx_pok dx_P RX4 38 (0, 4, 16) := dx_pok0 (C := RX4) (T := TX4) (N := 38) rfl (by decide) (dx_T_of (List.mem_of_getElem? (i := 579) (by decide +kernel)) (by decide +kernel))
set_option maxRecDepth 20000 in
theorem kw_X4_41 : dx_pok dx_P RX4 41 (0, 4, 17) := dx_pok0 (C := RX4) (T := TX4) (N := 38) rfl (by decide) (dx_T_of (List.mem_of_getElem? (i := 580) (by decide +kernel)) (by decide +kernel))
set_option maxRecDepth 20000 in
theorem kw_X4_45 : dx_pok dx_P RX4 45 (0, 4, 20) := dx_pok0 (C := RX4) (T := TX4) (N := 38) rfl (by decide) (dx_T_of (List.mem_of_getElem? (i := 583) (by decide +kernel)) (by decide +kernel))
set_option maxRecDepth 20000 in
theorem kw_X4_48 : dx_pok dx_P RX4 48 (0, 4, 23) := dx_pok0 (C := RX4) (T := TX4) (N := 38) rfl (by decide) (dx_T_of (List.mem_of_getElem? (i := 586) (by decide +kernel)) (by decide +kernel))
set_option maxRecDepth 20000 in
theorem kw_X4_51 : dx_pok dx_P RX4 51 (0, 4, 6) := dx_pok0 (C := RX4) (T := TX4) (N := 38) rfl (by decide) (dx_T_of (List.mem_of_getElem? (i := 569) (by decide +kernel)) (by decide +kernel))
set_option maxRecDepth 20000 in
theorem kw_X4_55 : dx_pok dx_P RX4 55 (0, 4, 3) := dx_pok0 (C := RX4) (T := TX4) (N := 38) rfl (by decide) (dx_T_of (List.mem_of_getElem? (i := 566) (by decide +kernel)) (by decide +kernel))
set_option maxRecDepth 20000 in
theorem kw_X4_59 : dx_pok dx_P RX4 59 (1, 90, 66) := dx_pok1 (K := km_X4_begin) (q := (RX4, TX4, 38)) rfl rfl rfl (dx_T_of (List.mem_of_getElem? (i := 559) (by decide +kernel)) (by decide +kernel)) (dx_T_of (List.mem_of_getElem? (i := 561) (by decide +kernel)) (by decide +kernel)) (dx_T_of (List.mem_of_getElem? (i := 14) (by decide +kernel)) (by decide +kernel)) kc_X4_begin rfl
set_option maxRecDepth 20000 in
theorem kw_X4_63 : dx_pok dx_P RX4 63 (0, 4, 0) := dx_pok0 (C := RX4) (T := TX4) (N := 38) rfl (by decide) (dx_T_of (List.mem_of_getElem? (i := 563) (by decide +kernel)) (by decide +kernel))
set_option maxRecDepth 20000 in
theorem kw_X4_66 : dx_pok dx_P RX4 66 (2, 82, 3) := dx_pok2 (K := km_X4_in) rfl (dx_T_of (List.mem_of_getElem? (i := 687) (by decide +kernel)) (by decide +kernel)) (dx_T_of (List.mem_of_getElem? (i := 688) (by decide +kernel)) (by decide +kernel)) kc_X4_in
set_option maxRecDepth 20000 in
theorem kw_X4_70 : dx_pok dx_P RX4 70 (2, 86, 2) := dx_pok2 (K := km_X4_gcd) rfl (dx_T_of (List.mem_of_getElem? (i := 837) (by decide +kernel)) (by decide +kernel)) (dx_T_of (List.mem_of_getElem? (i := 838) (by decide +kernel)) (by decide +kernel)) kc_X4_gcd
set_option maxRecDepth 20000 in
theorem kw_X4_74 : dx_pok dx_P RX4 74 (0, 4, 2) := dx_pok0 (C := RX4) (T := TX4) (N := 38) rfl (by decide) (dx_T_of (List.mem_of_getElem? (i := 565) (by decide +kernel)) (by decide +kernel))
set_option maxRecDepth 20000 in
theorem kw_X4_77 : dx_pok dx_P RX4 77 (0, 4, 4) := dx_pok0 (C := RX4) (T := TX4) (N := 38) rfl (by decide) (dx_T_of (List.mem_of_getElem? (i := 567) (by decide +kernel)) (by decide +kernel))
set_option maxRecDepth 20000 in
theorem kw_X4_80 : dx_pok dx_P RX4 80 (0, 4, 5) := dx_pok0 (C := RX4) (T := TX4) (N := 38) rfl (by decide) (dx_T_of (List.mem_of_getElem? (i := 568) (by decide +kernel)) (by decide +kernel))
set_option maxRecDepth 20000 in
theorem kw_X4_83 : dx_pok dx_P RX4 83 (0, 4, 11) := dx_pok0 (C := RX4) (T := TX4) (N := 38) rfl (by decide) (dx_T_of (List.mem_of_getElem? (i := 574) (by decide +kernel)) (by decide +kernel))
set_option maxRecDepth 20000 in
theorem kw_X4_86 : dx_pok dx_P RX4 86 (1, 92, 66) := dx_pok1 (K := km_X4_isPlace) (q := (RX4, TX4, 38)) rfl rfl rfl (dx_T_of (List.mem_of_getElem? (i := 706) (by decide +kernel)) (by decide +kernel)) (dx_T_of (List.mem_of_getElem? (i := 708) (by decide +kernel)) (by decide +kernel)) (dx_T_of (List.mem_of_getElem? (i := 15) (by decide +kernel)) (by decide +kernel)) kc_X4_isPlace rfl
set_option maxRecDepth 20000 in
theorem kw_X4_90 : dx_pok dx_P RX4 90 (2, 96, 1) := dx_pok2 (K := km_X4_isSheet) rfl (dx_T_of (List.mem_of_getElem? (i := 722) (by decide +kernel)) (by decide +kernel)) (dx_T_of (List.mem_of_getElem? (i := 723) (by decide +kernel)) (by decide +kernel)) kc_X4_isSheet
set_option maxRecDepth 20000 in
theorem kw_X4_94 : dx_pok dx_P RX4 94 (1, 83, 65) := dx_pok1 (K := km_X4_meets) (q := (RX4, TX4, 38)) rfl rfl rfl (dx_T_of (List.mem_of_getElem? (i := 725) (by decide +kernel)) (by decide +kernel)) (dx_T_of (List.mem_of_getElem? (i := 727) (by decide +kernel)) (by decide +kernel)) (dx_T_of (List.mem_of_getElem? (i := 16) (by decide +kernel)) (by decide +kernel)) kc_X4_meets rfl
set_option maxRecDepth 20000 in
theorem kw_X4_98 : dx_pok dx_P RX4 98 (2, 102, 2) := dx_pok2 (K := km_X4_isPoint) rfl (dx_T_of (List.mem_of_getElem? (i := 749) (by decide +kernel)) (by decide +kernel)) (dx_T_of (List.mem_of_getElem? (i := 750) (by decide +kernel)) (by decide +kernel)) kc_X4_isPoint
set_option maxRecDepth 20000 in
theorem kw_X4_101 : dx_pok dx_P RX4 101 (1, 104, 66) := dx_pok1 (K := km_X4_need) (q := (RX4, TX4, 38)) rfl rfl rfl (dx_T_of (List.mem_of_getElem? (i := 756) (by decide +kernel)) (by decide +kernel)) (dx_T_of (List.mem_of_getElem? (i := 758) (by decide +kernel)) (by decide +kernel)) (dx_T_of (List.mem_of_getElem? (i := 17) (by decide +kernel)) (by decide +kernel)) kc_X4_need rfl
set_option maxRecDepth 20000 in
theorem kw_X4_105 : dx_pok dx_P RX4 105 (1, 108, 66) := dx_pok1 (K := km_X4_toldOf) (q := (RX4, TX4, 38)) rfl rfl rfl (dx_T_of (List.mem_of_getElem? (i := 772) (by decide +kernel)) (by decide +kernel)) (dx_T_of (List.mem_of_getElem? (i := 774) (by decide +kernel)) (by decide +kernel)) (dx_T_of (List.mem_of_getElem? (i := 18) (by decide +kernel)) (by decide +kernel)) kc_X4_toldOf rfl
set_option maxRecDepth 20000 in
theorem kw_X4_109 : dx_pok dx_P RX4 109 (1, 112, 64) := dx_pok1 (K := km_X4_squareWeights) (q := (RX4, TX4, 38)) rfl rfl rfl (dx_T_of (List.mem_of_getElem? (i := 784) (by decide +kernel)) (by decide +kernel)) (dx_T_of (List.mem_of_getElem? (i := 786) (by decide +kernel)) (by decide +kernel)) (dx_T_of (List.mem_of_getElem? (i := 19) (by decide +kernel)) (by decide +kernel)) kc_X4_squareWeights rfl
set_option maxRecDepth 20000 in
theorem kw_X4_113 : dx_pok dx_P RX4 113 (1, 111, 64) := dx_pok1 (K := km_X4_squareMany) (q := (RX4, TX4, 38)) rfl rfl rfl (dx_T_of (List.mem_of_getElem? (i := 792) (by decide +kernel)) (by decide +kernel)) (dx_T_of (List.mem_of_getElem? (i := 794) (by decide +kernel)) (by decide +kernel)) (dx_T_of (List.mem_of_getElem? (i := 20) (by decide +kernel)) (by decide +kernel)) kc_X4_squareMany rfl
set_option maxRecDepth 20000 in
theorem kw_X4_116 : dx_pok dx_P RX4 116 (0, 4, 18) := dx_pok0 (C := RX4) (T := TX4) (N := 38) rfl (by decide) (dx_T_of (List.mem_of_getElem? (i := 581) (by decide +kernel)) (by decide +kernel))
set_option maxRecDepth 20000 in
theorem kw_X4_119 : dx_pok dx_P RX4 119 (0, 4, 19) := dx_pok0 (C := RX4) (T := TX4) (N := 38) rfl (by decide) (dx_T_of (List.mem_of_getElem? (i := 582) (by decide +kernel)) (by decide +kernel))
set_option maxRecDepth 20000 in
theorem kw_X4_122 : dx_pok dx_P RX4 122 (0, 4, 21) := dx_pok0 (C := RX4) (T := TX4) (N := 38) rfl (by decide) (dx_T_of (List.mem_of_getElem? (i := 584) (by decide +kernel)) (by decide +kernel))
set_option maxRecDepth 20000 in
theorem kw_X4_125 : dx_pok dx_P RX4 125 (0, 4, 22) := dx_pok0 (C := RX4) (T := TX4) (N := 38) rfl (by decide) (dx_T_of (List.mem_of_getElem? (i := 585) (by decide +kernel)) (by decide +kernel))
set_option maxRecDepth 20000 in
theorem kw_X4_128 : dx_pok dx_P RX4 128 (1, 116, 67) := dx_pok1 (K := km_X4_isWetAt) (q := (RX4, TX4, 38)) rfl rfl rfl (dx_T_of (List.mem_of_getElem? (i := 817) (by decide +kernel)) (by decide +kernel)) (dx_T_of (List.mem_of_getElem? (i := 819) (by decide +kernel)) (by decide +kernel)) (dx_T_of (List.mem_of_getElem? (i := 25) (by decide +kernel)) (by decide +kernel)) kc_X4_isWetAt rfl
set_option maxRecDepth 20000 in
theorem kw_X4_131 : dx_pok dx_P RX4 131 (1, 118, 65) := dx_pok1 (K := km_X4_firmIn) (q := (RX4, TX4, 38)) rfl rfl rfl (dx_T_of (List.mem_of_getElem? (i := 825) (by decide +kernel)) (by decide +kernel)) (dx_T_of (List.mem_of_getElem? (i := 827) (by decide +kernel)) (by decide +kernel)) (dx_T_of (List.mem_of_getElem? (i := 27) (by decide +kernel)) (by decide +kernel)) kc_X4_firmIn rfl
set_option maxRecDepth 20000 in
theorem kw_X4_134 : dx_pok dx_P RX4 134 (1, 117, 65) := dx_pok1 (K := km_X4_spread) (q := (RX4, TX4, 38)) rfl rfl rfl (dx_T_of (List.mem_of_getElem? (i := 813) (by decide +kernel)) (by decide +kernel)) (dx_T_of (List.mem_of_getElem? (i := 815) (by decide +kernel)) (by decide +kernel)) (dx_T_of (List.mem_of_getElem? (i := 24) (by decide +kernel)) (by decide +kernel)) kc_X4_spread rfl
set_option maxRecDepth 20000 in
theorem kw_X4_138 : dx_pok dx_P RX4 138 (1, 119, 65) := dx_pok1 (K := km_X4_firmBelow) (q := (RX4, TX4, 38)) rfl rfl rfl (dx_T_of (List.mem_of_getElem? (i := 821) (by decide +kernel)) (by decide +kernel)) (dx_T_of (List.mem_of_getElem? (i := 823) (by decide +kernel)) (by decide +kernel)) (dx_T_of (List.mem_of_getElem? (i := 26) (by decide +kernel)) (by decide +kernel)) kc_X4_firmBelow rfl
set_option maxRecDepth 20000 in
theorem kw_X4_141 : dx_pok dx_P RX4 141 (0, 4, 24) := dx_pok0 (C := RX4) (T := TX4) (N := 38) rfl (by decide) (dx_T_of (List.mem_of_getElem? (i := 587) (by decide +kernel)) (by decide +kernel))
set_option maxRecDepth 20000 in
theorem kw_X4_144 : dx_pok dx_P RX4 144 (0, 4, 27) := dx_pok0 (C := RX4) (T := TX4) (N := 38) rfl (by decide) (dx_T_of (List.mem_of_getElem? (i := 590) (by decide +kernel)) (by decide +kernel))
set_option maxRecDepth 20000 in
theorem kw_X4_147 : dx_pok dx_P RX4 147 (0, 4, 28) := dx_pok0 (C := RX4) (T := TX4) (N := 38) rfl (by decide) (dx_T_of (List.mem_of_getElem? (i := 591) (by decide +kernel)) (by decide +kernel))
set_option maxRecDepth 20000 in
theorem kw_X4_150 : dx_pok dx_P RX4 150 (0, 4, 25) := dx_pok0 (C := RX4) (T := TX4) (N := 38) rfl (by decide) (dx_T_of (List.mem_of_getElem? (i := 588) (by decide +kernel)) (by decide +kernel))
set_option maxRecDepth 20000 in
theorem kw_X4_153 : dx_pok dx_P RX4 153 (0, 4, 26) := dx_pok0 (C := RX4) (T := TX4) (N := 38) rfl (by decide) (dx_T_of (List.mem_of_getElem? (i := 589) (by decide +kernel)) (by decide +kernel))
set_option maxRecDepth 20000 in
theorem kw_X4_156 : dx_pok dx_P RX4 156 (1, 113, 64) := dx_pok1 (K := km_X4_all) (q := (RX4, TX4, 38)) rfl rfl rfl (dx_T_of (List.mem_of_getElem? (i := 804) (by decide +kernel)) (by decide +kernel)) (dx_T_of (List.mem_of_getElem? (i := 781) (by decide +kernel)) (by decide +kernel)) (dx_T_of (List.mem_of_getElem? (i := 782) (by decide +kernel)) (by decide +kernel)) kc_X4_all rfl
set_option maxRecDepth 20000 in
theorem kw_X4_159 : dx_pok dx_P RX4 159 (1, 115, 65) := dx_pok1 (K := km_X4_lay_) (q := (RX4, TX4, 38)) rfl rfl rfl (dx_T_of (List.mem_of_getElem? (i := 805) (by decide +kernel)) (by decide +kernel)) (dx_T_of (List.mem_of_getElem? (i := 807) (by decide +kernel)) (by decide +kernel)) (dx_T_of (List.mem_of_getElem? (i := 22) (by decide +kernel)) (by decide +kernel)) kc_X4_lay_ rfl
set_option maxRecDepth 20000 in
theorem kw_X4_162 : dx_pok dx_P RX4 162 (1, 120, 65) := dx_pok1 (K := km_X4_finds) (q := (RX4, TX4, 38)) rfl rfl rfl (dx_T_of (List.mem_of_getElem? (i := 809) (by decide +kernel)) (by decide +kernel)) (dx_T_of (List.mem_of_getElem? (i := 811) (by decide +kernel)) (by decide +kernel)) (dx_T_of (List.mem_of_getElem? (i := 23) (by decide +kernel)) (by decide +kernel)) kc_X4_finds rfl
set_option maxRecDepth 20000 in
theorem kw_X4_165 : dx_pok dx_P RX4 165 (1, 121, 66) := dx_pok1 (K := km_X4_afloat) (q := (RX4, TX4, 38)) rfl rfl rfl (dx_T_of (List.mem_of_getElem? (i := 800) (by decide +kernel)) (by decide +kernel)) (dx_T_of (List.mem_of_getElem? (i := 802) (by decide +kernel)) (by decide +kernel)) (dx_T_of (List.mem_of_getElem? (i := 21) (by decide +kernel)) (by decide +kernel)) kc_X4_afloat rfl
set_option maxRecDepth 20000 in
theorem kw_X4_168 : dx_pok dx_P RX4 168 (1, 87, 66) := dx_pok1 (K := km_X4_tells) (q := (RX4, TX4, 38)) rfl rfl rfl (dx_T_of (List.mem_of_getElem? (i := 833) (by decide +kernel)) (by decide +kernel)) (dx_T_of (List.mem_of_getElem? (i := 835) (by decide +kernel)) (by decide +kernel)) (dx_T_of (List.mem_of_getElem? (i := 28) (by decide +kernel)) (by decide +kernel)) kc_X4_tells rfl
set_option maxRecDepth 20000 in
theorem kw_X4_172 : dx_pok dx_P RX4 172 (0, 4, 29) := dx_pok0 (C := RX4) (T := TX4) (N := 38) rfl (by decide) (dx_T_of (List.mem_of_getElem? (i := 592) (by decide +kernel)) (by decide +kernel))
set_option maxRecDepth 20000 in
theorem kw_X4_175 : dx_pok dx_P RX4 175 (0, 4, 30) := dx_pok0 (C := RX4) (T := TX4) (N := 38) rfl (by decide) (dx_T_of (List.mem_of_getElem? (i := 593) (by decide +kernel)) (by decide +kernel))
set_option maxRecDepth 20000 in
theorem kw_X4_178 : dx_pok dx_P RX4 178 (0, 4, 31) := dx_pok0 (C := RX4) (T := TX4) (N := 38) rfl (by decide) (dx_T_of (List.mem_of_getElem? (i := 594) (by decide +kernel)) (by decide +kernel))
set_option maxRecDepth 20000 in
theorem kw_X4_181 : dx_pok dx_P RX4 181 (1, 125, 64) := dx_pok1 (K := km_X4_laySums) (q := (RX4, TX4, 38)) rfl rfl rfl (dx_T_of (List.mem_of_getElem? (i := 852) (by decide +kernel)) (by decide +kernel)) (dx_T_of (List.mem_of_getElem? (i := 854) (by decide +kernel)) (by decide +kernel)) (dx_T_of (List.mem_of_getElem? (i := 30) (by decide +kernel)) (by decide +kernel)) kc_X4_laySums rfl
set_option maxRecDepth 20000 in
theorem kw_X4_184 : dx_pok dx_P RX4 184 (0, 4, 32) := dx_pok0 (C := RX4) (T := TX4) (N := 38) rfl (by decide) (dx_T_of (List.mem_of_getElem? (i := 595) (by decide +kernel)) (by decide +kernel))
set_option maxRecDepth 20000 in
theorem kw_X4_187 : dx_pok dx_P RX4 187 (6, 1002, 0) := dx_pok6 (dx_T_of (List.mem_of_getElem? (i := 856) (by decide +kernel)) (by decide +kernel))
set_option maxRecDepth 20000 in
theorem kw_X4_189 : dx_pok dx_P RX4 189 (0, 4, 33) := dx_pok0 (C := RX4) (T := TX4) (N := 38) rfl (by decide) (dx_T_of (List.mem_of_getElem? (i := 596) (by decide +kernel)) (by decide +kernel))
set_option maxRecDepth 20000 in
theorem kw_X4_192 : dx_pok dx_P RX4 192 (0, 4, 34) := dx_pok0 (C := RX4) (T := TX4) (N := 38) rfl (by decide) (dx_T_of (List.mem_of_getElem? (i := 597) (by decide +kernel)) (by decide +kernel))
set_option maxRecDepth 20000 in
theorem kw_X4_195 : dx_pok dx_P RX4 195 (0, 4, 35) := dx_pok0 (C := RX4) (T := TX4) (N := 38) rfl (by decide) (dx_T_of (List.mem_of_getElem? (i := 598) (by decide +kernel)) (by decide +kernel))
set_option maxRecDepth 20000 in
theorem kw_X4_198 : dx_pok dx_P RX4 198 (1, 126, 64) := dx_pok1 (K := km_X4_layPowers) (q := (RX4, TX4, 38)) rfl rfl rfl (dx_T_of (List.mem_of_getElem? (i := 848) (by decide +kernel)) (by decide +kernel)) (dx_T_of (List.mem_of_getElem? (i := 850) (by decide +kernel)) (by decide +kernel)) (dx_T_of (List.mem_of_getElem? (i := 29) (by decide +kernel)) (by decide +kernel)) kc_X4_layPowers rfl
set_option maxRecDepth 20000 in
theorem kw_X4_201 : dx_pok dx_P RX4 201 (1, 129, 64) := dx_pok1 (K := km_X4_lean) (q := (RX4, TX4, 38)) rfl rfl rfl (dx_T_of (List.mem_of_getElem? (i := 865) (by decide +kernel)) (by decide +kernel)) (dx_T_of (List.mem_of_getElem? (i := 867) (by decide +kernel)) (by decide +kernel)) (dx_T_of (List.mem_of_getElem? (i := 31) (by decide +kernel)) (by decide +kernel)) kc_X4_lean rfl
set_option maxRecDepth 20000 in
theorem kw_X4_205 : dx_pok dx_P RX4 205 (6, 1003, 0) := dx_pok6 (dx_T_of (List.mem_of_getElem? (i := 881) (by decide +kernel)) (by decide +kernel))
set_option maxRecDepth 20000 in
theorem kw_X4_207 : dx_pok dx_P RX4 207 (6, 1004, 0) := dx_pok6 (dx_T_of (List.mem_of_getElem? (i := 882) (by decide +kernel)) (by decide +kernel))
set_option maxRecDepth 20000 in
theorem kw_X4_209 : dx_pok dx_P RX4 209 (0, 4, 36) := dx_pok0 (C := RX4) (T := TX4) (N := 38) rfl (by decide) (dx_T_of (List.mem_of_getElem? (i := 599) (by decide +kernel)) (by decide +kernel))
set_option maxRecDepth 20000 in
theorem kw_X4_212 : dx_pok dx_P RX4 212 (6, 1012, 0) := dx_pok6 (dx_T_of (List.mem_of_getElem? (i := 883) (by decide +kernel)) (by decide +kernel))
set_option maxRecDepth 20000 in
theorem kw_X4_214 : dx_pok dx_P RX4 214 (0, 4, 37) := dx_pok0 (C := RX4) (T := TX4) (N := 38) rfl (by decide) (dx_T_of (List.mem_of_getElem? (i := 600) (by decide +kernel)) (by decide +kernel))
set_option maxRecDepth 20000 in
theorem kw_X4_217 : dx_pok dx_P RX4 217 (1, 131, 65) := dx_pok1 (K := km_X4_layBreadth) (q := (RX4, TX4, 38)) rfl rfl rfl (dx_T_of (List.mem_of_getElem? (i := 877) (by decide +kernel)) (by decide +kernel)) (dx_T_of (List.mem_of_getElem? (i := 879) (by decide +kernel)) (by decide +kernel)) (dx_T_of (List.mem_of_getElem? (i := 33) (by decide +kernel)) (by decide +kernel)) kc_X4_layBreadth rfl
set_option maxRecDepth 20000 in
theorem kw_X4_220 : dx_pok dx_P RX4 220 (1, 132, 64) := dx_pok1 (K := km_X4_leastBreadth) (q := (RX4, TX4, 38)) rfl rfl rfl (dx_T_of (List.mem_of_getElem? (i := 873) (by decide +kernel)) (by decide +kernel)) (dx_T_of (List.mem_of_getElem? (i := 875) (by decide +kernel)) (by decide +kernel)) (dx_T_of (List.mem_of_getElem? (i := 32) (by decide +kernel)) (by decide +kernel)) kc_X4_leastBreadth rfl
set_option maxRecDepth 20000 in
theorem kw_X4_223 : dx_pok dx_P RX4 223 (1, 134, 64) := dx_pok1 (K := km_X4_holdsNow) (q := (RX4, TX4, 38)) rfl rfl rfl (dx_T_of (List.mem_of_getElem? (i := 888) (by decide +kernel)) (by decide +kernel)) (dx_T_of (List.mem_of_getElem? (i := 890) (by decide +kernel)) (by decide +kernel)) (dx_T_of (List.mem_of_getElem? (i := 34) (by decide +kernel)) (by decide +kernel)) kc_X4_holdsNow rfl
set_option maxRecDepth 20000 in
theorem kw_X4_226 : dx_pok dx_P RX4 226 (1, 137, 64) := dx_pok1 (K := km_X4_mostRoom) (q := (RX4, TX4, 38)) rfl rfl rfl (dx_T_of (List.mem_of_getElem? (i := 900) (by decide +kernel)) (by decide +kernel)) (dx_T_of (List.mem_of_getElem? (i := 902) (by decide +kernel)) (by decide +kernel)) (dx_T_of (List.mem_of_getElem? (i := 35) (by decide +kernel)) (by decide +kernel)) kc_X4_mostRoom rfl
set_option maxRecDepth 20000 in
theorem kw_X4_229 : dx_pok dx_P RX4 229 (6, 1031, 0) := dx_pok6 (dx_T_of (List.mem_of_getElem? (i := 920) (by decide +kernel)) (by decide +kernel))
set_option maxRecDepth 20000 in
theorem kw_X4_231 : dx_pok dx_P RX4 231 (6, 1527, 0) := dx_pok6 (dx_T_of (List.mem_of_getElem? (i := 921) (by decide +kernel)) (by decide +kernel))
theorem kw_X4 : ∀ (x : Nat) (e : Nat × Nat × Nat), dx_look kp_X4 x = some e → dx_pok dx_P RX4 x e := fun x e h => dx_look_all (F := fun x e => dx_pok dx_P RX4 x e) (show ∀ q ∈ kp_X4, dx_pok dx_P RX4 q.1 q.2 from List.forall_mem_cons.mpr ⟨kw_X4_7, List.forall_mem_cons.mpr ⟨kw_X4_13, List.forall_mem_cons.mpr ⟨kw_X4_16, List.forall_mem_cons.mpr ⟨kw_X4_19, List.forall_mem_cons.mpr ⟨kw_X4_23, List.forall_mem_cons.mpr ⟨kw_X4_26, List.forall_mem_cons.mpr ⟨kw_X4_29, List.forall_mem_cons.mpr ⟨kw_X4_32, List.forall_mem_cons.mpr ⟨kw_X4_35, List.forall_mem_cons.mpr ⟨kw_X4_38, List.forall_mem_cons.mpr ⟨kw_X4_41, List.forall_mem_cons.mpr ⟨kw_X4_45, List.forall_mem_cons.mpr ⟨kw_X4_48, List.forall_mem_cons.mpr ⟨kw_X4_51, List.forall_mem_cons.mpr ⟨kw_X4_55, List.forall_mem_cons.mpr ⟨kw_X4_59, List.forall_mem_cons.mpr ⟨kw_X4_63, List.forall_mem_cons.mpr ⟨kw_X4_66, List.forall_mem_cons.mpr ⟨kw_X4_70, List.forall_mem_cons.mpr ⟨kw_X4_74, List.forall_mem_cons.mpr ⟨kw_X4_77, List.forall_mem_cons.mpr ⟨kw_X4_80, List.forall_mem_cons.mpr ⟨kw_X4_83, List.forall_mem_cons.mpr ⟨kw_X4_86, List.forall_mem_cons.mpr ⟨kw_X4_90, List.forall_mem_cons.mpr ⟨kw_X4_94, List.forall_mem_cons.mpr ⟨kw_X4_98, List.forall_mem_cons.mpr ⟨kw_X4_101, List.forall_mem_cons.mpr ⟨kw_X4_105, List.forall_mem_cons.mpr ⟨kw_X4_109, List.forall_mem_cons.mpr ⟨kw_X4_113, List.forall_mem_cons.mpr ⟨kw_X4_116, List.forall_mem_cons.mpr ⟨kw_X4_119, List.forall_mem_cons.mpr ⟨kw_X4_122, List.forall_mem_cons.mpr ⟨kw_X4_125, List.forall_mem_cons.mpr ⟨kw_X4_128, List.forall_mem_cons.mpr ⟨kw_X4_131, List.forall_mem_cons.mpr ⟨kw_X4_134, List.forall_mem_cons.mpr ⟨kw_X4_138, List.forall_mem_cons.mpr ⟨kw_X4_141, List.forall_mem_cons.mpr ⟨kw_X4_144, List.forall_mem_cons.mpr ⟨kw_X4_147, List.forall_mem_cons.mpr ⟨kw_X4_150, List.forall_mem_cons.mpr ⟨kw_X4_153, List.forall_mem_cons.mpr ⟨kw_X4_156, List.forall_mem_cons.mpr ⟨kw_X4_159, List.forall_mem_cons.mpr ⟨kw_X4_162, List.forall_mem_cons.mpr ⟨kw_X4_165, List.forall_mem_cons.mpr ⟨kw_X4_168, List.forall_mem_cons.mpr ⟨kw_X4_172, List.forall_mem_cons.mpr ⟨kw_X4_175, List.forall_mem_cons.mpr ⟨kw_X4_178, List.forall_mem_cons.mpr ⟨kw_X4_181, List.forall_mem_cons.mpr ⟨kw_X4_184, List.forall_mem_cons.mpr ⟨kw_X4_187, List.forall_mem_cons.mpr ⟨kw_X4_189, List.forall_mem_cons.mpr ⟨kw_X4_192, List.forall_mem_cons.mpr ⟨kw_X4_195, List.forall_mem_cons.mpr ⟨kw_X4_198, List.forall_mem_cons.mpr ⟨kw_X4_201, List.forall_mem_cons.mpr ⟨kw_X4_205, List.forall_mem_cons.mpr ⟨kw_X4_207, List.forall_mem_cons.mpr ⟨kw_X4_209, List.forall_mem_cons.mpr ⟨kw_X4_212, List.forall_mem_cons.mpr ⟨kw_X4_214, List.forall_mem_cons.mpr ⟨kw_X4_217, List.forall_mem_cons.mpr ⟨kw_X4_220, List.forall_mem_cons.mpr ⟨kw_X4_223, List.forall_mem_cons.mpr ⟨kw_X4_226, List.forall_mem_cons.mpr ⟨kw_X4_229, List.forall_mem_cons.mpr ⟨kw_X4_231, fun _ h => absurd h List.not_mem_nil⟩⟩⟩⟩⟩⟩⟩⟩⟩⟩⟩⟩⟩⟩⟩⟩⟩⟩⟩⟩⟩⟩⟩⟩⟩⟩⟩⟩⟩⟩⟩⟩⟩⟩⟩⟩⟩⟩⟩⟩⟩⟩⟩⟩⟩⟩⟩⟩⟩⟩⟩⟩⟩⟩⟩⟩⟩⟩⟩⟩⟩⟩⟩⟩⟩⟩⟩⟩⟩⟩⟩) h
end
section
/-! every row is what decode says (printed by wip/whole/check.py) -/
def dx_rowok (K : dx_K) (q : Nat × dx_I) : Bool := decide (decode K.1.2.1 q.1 = .ok (q.2.1, q.2.2.1)) && dx_rch K q.1 q.2
theorem dx_rows_ok {K : dx_K} (h : K.2.1.all (dx_rowok K) = true) : ∀ (pc : Nat) (r : dx_I), dx_look K.2.1 pc = some r → decode K.1.2.1 pc = .ok (r.1, r.2.1) ∧ dx_rch K pc r = true := fun pc r hr => by
  refine dx_look_all (F := fun pc r => decode K.1.2.1 pc = .ok (r.1, r.2.1) ∧ dx_rch K pc r = true) (fun q hq => ?_) hr
  have h1 := List.all_eq_true.mp h q hq
  unfold dx_rowok at h1
  rw [Bool.and_eq_true] at h1
  exact ⟨of_decide_eq_true h1.1, h1.2⟩
set_option maxRecDepth 100000 in
theorem ko_X0_begin : dx_Kok dx_P km_X0_begin := ⟨by decide +kernel, by decide, dx_rows_ok (by decide +kernel), kw_X0⟩
set_option maxRecDepth 100000 in
theorem ko_X0_has : dx_Kok dx_P km_X0_has := ⟨by decide +kernel, by decide, dx_rows_ok (by decide +kernel), kw_X0⟩
set_option maxRecDepth 100000 in
theorem ko_X0_weightOf : dx_Kok dx_P km_X0_weightOf := ⟨by decide +kernel, by decide, dx_rows_ok (by decide +kernel), kw_X0⟩
set_option maxRecDepth 100000 in
theorem ko_X0_put : dx_Kok dx_P km_X0_put := ⟨by decide +kernel, by decide, dx_rows_ok (by decide +kernel), kw_X0⟩
set_option maxRecDepth 100000 in
theorem ko_X0_across : dx_Kok dx_P km_X0_across := ⟨by decide +kernel, by decide, dx_rows_ok (by decide +kernel), kw_X0⟩
set_option maxRecDepth 100000 in
theorem ko_X0_up : dx_Kok dx_P km_X0_up := ⟨by decide +kernel, by decide, dx_rows_ok (by decide +kernel), kw_X0⟩
set_option maxRecDepth 100000 in
theorem ko_X0_squares : dx_Kok dx_P km_X0_squares := ⟨by decide +kernel, by decide, dx_rows_ok (by decide +kernel), kw_X0⟩
set_option maxRecDepth 100000 in
theorem ko_X0_weight : dx_Kok dx_P km_X0_weight := ⟨by decide +kernel, by decide, dx_rows_ok (by decide +kernel), kw_X0⟩
set_option maxRecDepth 100000 in
theorem ko_X0_weightAcross : dx_Kok dx_P km_X0_weightAcross := ⟨by decide +kernel, by decide, dx_rows_ok (by decide +kernel), kw_X0⟩
set_option maxRecDepth 100000 in
theorem ko_X0_weightUp : dx_Kok dx_P km_X0_weightUp := ⟨by decide +kernel, by decide, dx_rows_ok (by decide +kernel), kw_X0⟩
set_option maxRecDepth 100000 in
theorem ko_X1_turnTo : dx_Kok dx_P km_X1_turnTo := ⟨by decide +kernel, by decide, dx_rows_ok (by decide +kernel), kw_X1⟩
set_option maxRecDepth 100000 in
theorem ko_X1_riseTo : dx_Kok dx_P km_X1_riseTo := ⟨by decide +kernel, by decide, dx_rows_ok (by decide +kernel), kw_X1⟩
set_option maxRecDepth 100000 in
theorem ko_X1_waysInto : dx_Kok dx_P km_X1_waysInto := ⟨by decide +kernel, by decide, dx_rows_ok (by decide +kernel), kw_X1⟩
set_option maxRecDepth 100000 in
theorem ko_X1_spread : dx_Kok dx_P km_X1_spread := ⟨by decide +kernel, by decide, dx_rows_ok (by decide +kernel), kw_X1⟩
set_option maxRecDepth 100000 in
theorem ko_X1_firm : dx_Kok dx_P km_X1_firm := ⟨by decide +kernel, by decide, dx_rows_ok (by decide +kernel), kw_X1⟩
set_option maxRecDepth 100000 in
theorem ko_X1_countFirm : dx_Kok dx_P km_X1_countFirm := ⟨by decide +kernel, by decide, dx_rows_ok (by decide +kernel), kw_X1⟩
set_option maxRecDepth 100000 in
theorem ko_X1_bears : dx_Kok dx_P km_X1_bears := ⟨by decide +kernel, by decide, dx_rows_ok (by decide +kernel), kw_X1⟩
set_option maxRecDepth 100000 in
theorem ko_X1_mostRoom : dx_Kok dx_P km_X1_mostRoom := ⟨by decide +kernel, by decide, dx_rows_ok (by decide +kernel), kw_X1⟩
set_option maxRecDepth 100000 in
theorem ko_X1_stateOf : dx_Kok dx_P km_X1_stateOf := ⟨by decide +kernel, by decide, dx_rows_ok (by decide +kernel), kw_X1⟩
set_option maxRecDepth 100000 in
theorem ko_X1_halves : dx_Kok dx_P km_X1_halves := ⟨by decide +kernel, by decide, dx_rows_ok (by decide +kernel), kw_X1⟩
set_option maxRecDepth 100000 in
theorem ko_X1_momentAcross : dx_Kok dx_P km_X1_momentAcross := ⟨by decide +kernel, by decide, dx_rows_ok (by decide +kernel), kw_X1⟩
set_option maxRecDepth 100000 in
theorem ko_X1_momentUp : dx_Kok dx_P km_X1_momentUp := ⟨by decide +kernel, by decide, dx_rows_ok (by decide +kernel), kw_X1⟩
set_option maxRecDepth 100000 in
theorem ko_X1_measureLine : dx_Kok dx_P km_X1_measureLine := ⟨by decide +kernel, by decide, dx_rows_ok (by decide +kernel), kw_X1⟩
set_option maxRecDepth 100000 in
theorem ko_X1_measureRow : dx_Kok dx_P km_X1_measureRow := ⟨by decide +kernel, by decide, dx_rows_ok (by decide +kernel), kw_X1⟩
set_option maxRecDepth 100000 in
theorem ko_X2_begin : dx_Kok dx_P km_X2_begin := ⟨by decide +kernel, by decide, dx_rows_ok (by decide +kernel), kw_X2⟩
set_option maxRecDepth 100000 in
theorem ko_X2_fact : dx_Kok dx_P km_X2_fact := ⟨by decide +kernel, by decide, dx_rows_ok (by decide +kernel), kw_X2⟩
set_option maxRecDepth 100000 in
theorem ko_X3_log : dx_Kok dx_P km_X3_log := ⟨by decide +kernel, by decide, dx_rows_ok (by decide +kernel), kw_X3⟩
set_option maxRecDepth 100000 in
theorem ko_X3_square : dx_Kok dx_P km_X3_square := ⟨by decide +kernel, by decide, dx_rows_ok (by decide +kernel), kw_X3⟩
set_option maxRecDepth 100000 in
theorem ko_X3_at : dx_Kok dx_P km_X3_at := ⟨by decide +kernel, by decide, dx_rows_ok (by decide +kernel), kw_X3⟩
set_option maxRecDepth 100000 in
theorem ko_X3_water : dx_Kok dx_P km_X3_water := ⟨by decide +kernel, by decide, dx_rows_ok (by decide +kernel), kw_X3⟩
set_option maxRecDepth 100000 in
theorem ko_X3_sheet : dx_Kok dx_P km_X3_sheet := ⟨by decide +kernel, by decide, dx_rows_ok (by decide +kernel), kw_X3⟩
set_option maxRecDepth 100000 in
theorem ko_X3_lay : dx_Kok dx_P km_X3_lay := ⟨by decide +kernel, by decide, dx_rows_ok (by decide +kernel), kw_X3⟩
set_option maxRecDepth 100000 in
theorem ko_X3_tear : dx_Kok dx_P km_X3_tear := ⟨by decide +kernel, by decide, dx_rows_ok (by decide +kernel), kw_X3⟩
set_option maxRecDepth 100000 in
theorem ko_X3_copy : dx_Kok dx_P km_X3_copy := ⟨by decide +kernel, by decide, dx_rows_ok (by decide +kernel), kw_X3⟩
set_option maxRecDepth 100000 in
theorem ko_X3_fill : dx_Kok dx_P km_X3_fill := ⟨by decide +kernel, by decide, dx_rows_ok (by decide +kernel), kw_X3⟩
set_option maxRecDepth 100000 in
theorem ko_X3_load : dx_Kok dx_P km_X3_load := ⟨by decide +kernel, by decide, dx_rows_ok (by decide +kernel), kw_X3⟩
set_option maxRecDepth 100000 in
theorem ko_X3_move : dx_Kok dx_P km_X3_move := ⟨by decide +kernel, by decide, dx_rows_ok (by decide +kernel), kw_X3⟩
set_option maxRecDepth 100000 in
theorem ko_X3_rope : dx_Kok dx_P km_X3_rope := ⟨by decide +kernel, by decide, dx_rows_ok (by decide +kernel), kw_X3⟩
set_option maxRecDepth 100000 in
theorem ko_X3_drop : dx_Kok dx_P km_X3_drop := ⟨by decide +kernel, by decide, dx_rows_ok (by decide +kernel), kw_X3⟩
set_option maxRecDepth 100000 in
theorem ko_X3_told : dx_Kok dx_P km_X3_told := ⟨by decide +kernel, by decide, dx_rows_ok (by decide +kernel), kw_X3⟩
set_option maxRecDepth 100000 in
theorem ko_X3_is : dx_Kok dx_P km_X3_is := ⟨by decide +kernel, by decide, dx_rows_ok (by decide +kernel), kw_X3⟩
set_option maxRecDepth 100000 in
theorem ko_X3_all : dx_Kok dx_P km_X3_all := ⟨by decide +kernel, by decide, dx_rows_ok (by decide +kernel), kw_X3⟩
set_option maxRecDepth 100000 in
theorem ko_X3_mean : dx_Kok dx_P km_X3_mean := ⟨by decide +kernel, by decide, dx_rows_ok (by decide +kernel), kw_X3⟩
set_option maxRecDepth 100000 in
theorem ko_X3_floats : dx_Kok dx_P km_X3_floats := ⟨by decide +kernel, by decide, dx_rows_ok (by decide +kernel), kw_X3⟩
set_option maxRecDepth 100000 in
theorem ko_X3_draft : dx_Kok dx_P km_X3_draft := ⟨by decide +kernel, by decide, dx_rows_ok (by decide +kernel), kw_X3⟩
set_option maxRecDepth 100000 in
theorem ko_X3_above : dx_Kok dx_P km_X3_above := ⟨by decide +kernel, by decide, dx_rows_ok (by decide +kernel), kw_X3⟩
set_option maxRecDepth 100000 in
theorem ko_X3_middle : dx_Kok dx_P km_X3_middle := ⟨by decide +kernel, by decide, dx_rows_ok (by decide +kernel), kw_X3⟩
set_option maxRecDepth 100000 in
theorem ko_X3_place : dx_Kok dx_P km_X3_place := ⟨by decide +kernel, by decide, dx_rows_ok (by decide +kernel), kw_X3⟩
set_option maxRecDepth 100000 in
theorem ko_X3_leans : dx_Kok dx_P km_X3_leans := ⟨by decide +kernel, by decide, dx_rows_ok (by decide +kernel), kw_X3⟩
set_option maxRecDepth 100000 in
theorem ko_X3_breadth : dx_Kok dx_P km_X3_breadth := ⟨by decide +kernel, by decide, dx_rows_ok (by decide +kernel), kw_X3⟩
set_option maxRecDepth 100000 in
theorem ko_X3_holds : dx_Kok dx_P km_X3_holds := ⟨by decide +kernel, by decide, dx_rows_ok (by decide +kernel), kw_X3⟩
set_option maxRecDepth 100000 in
theorem ko_X3_rests : dx_Kok dx_P km_X3_rests := ⟨by decide +kernel, by decide, dx_rows_ok (by decide +kernel), kw_X3⟩
set_option maxRecDepth 100000 in
theorem ko_X3_carries : dx_Kok dx_P km_X3_carries := ⟨by decide +kernel, by decide, dx_rows_ok (by decide +kernel), kw_X3⟩
set_option maxRecDepth 100000 in
theorem ko_X3_trim : dx_Kok dx_P km_X3_trim := ⟨by decide +kernel, by decide, dx_rows_ok (by decide +kernel), kw_X3⟩
set_option maxRecDepth 100000 in
theorem ko_X3_room : dx_Kok dx_P km_X3_room := ⟨by decide +kernel, by decide, dx_rows_ok (by decide +kernel), kw_X3⟩
set_option maxRecDepth 100000 in
theorem ko_X3_upper : dx_Kok dx_P km_X3_upper := ⟨by decide +kernel, by decide, dx_rows_ok (by decide +kernel), kw_X3⟩
set_option maxRecDepth 100000 in
theorem ko_X3_lower : dx_Kok dx_P km_X3_lower := ⟨by decide +kernel, by decide, dx_rows_ok (by decide +kernel), kw_X3⟩
set_option maxRecDepth 100000 in
theorem ko_X3_count : dx_Kok dx_P km_X3_count := ⟨by decide +kernel, by decide, dx_rows_ok (by decide +kernel), kw_X3⟩
set_option maxRecDepth 100000 in
theorem ko_X3_finding : dx_Kok dx_P km_X3_finding := ⟨by decide +kernel, by decide, dx_rows_ok (by decide +kernel), kw_X3⟩
set_option maxRecDepth 100000 in
theorem ko_X3_findings : dx_Kok dx_P km_X3_findings := ⟨by decide +kernel, by decide, dx_rows_ok (by decide +kernel), kw_X3⟩
set_option maxRecDepth 100000 in
theorem ko_X3_digest : dx_Kok dx_P km_X3_digest := ⟨by decide +kernel, by decide, dx_rows_ok (by decide +kernel), kw_X3⟩
set_option maxRecDepth 100000 in
theorem ko_X3_digestPlaces : dx_Kok dx_P km_X3_digestPlaces := ⟨by decide +kernel, by decide, dx_rows_ok (by decide +kernel), kw_X3⟩
set_option maxRecDepth 100000 in
theorem ko_X3_digestLoads : dx_Kok dx_P km_X3_digestLoads := ⟨by decide +kernel, by decide, dx_rows_ok (by decide +kernel), kw_X3⟩
set_option maxRecDepth 100000 in
theorem ko_X3_digestSheets : dx_Kok dx_P km_X3_digestSheets := ⟨by decide +kernel, by decide, dx_rows_ok (by decide +kernel), kw_X3⟩
set_option maxRecDepth 100000 in
theorem ko_X3_within : dx_Kok dx_P km_X3_within := ⟨by decide +kernel, by decide, dx_rows_ok (by decide +kernel), kw_X3⟩
set_option maxRecDepth 100000 in
theorem ko_X3_isTurn : dx_Kok dx_P km_X3_isTurn := ⟨by decide +kernel, by decide, dx_rows_ok (by decide +kernel), kw_X3⟩
set_option maxRecDepth 100000 in
theorem ko_X3_isSheet : dx_Kok dx_P km_X3_isSheet := ⟨by decide +kernel, by decide, dx_rows_ok (by decide +kernel), kw_X3⟩
set_option maxRecDepth 100000 in
theorem ko_X3_isPoint : dx_Kok dx_P km_X3_isPoint := ⟨by decide +kernel, by decide, dx_rows_ok (by decide +kernel), kw_X3⟩
set_option maxRecDepth 100000 in
theorem ko_X3_isLoad : dx_Kok dx_P km_X3_isLoad := ⟨by decide +kernel, by decide, dx_rows_ok (by decide +kernel), kw_X3⟩
set_option maxRecDepth 100000 in
theorem ko_X3_reaches : dx_Kok dx_P km_X3_reaches := ⟨by decide +kernel, by decide, dx_rows_ok (by decide +kernel), kw_X3⟩
set_option maxRecDepth 100000 in
theorem ko_X3_find : dx_Kok dx_P km_X3_find := ⟨by decide +kernel, by decide, dx_rows_ok (by decide +kernel), kw_X3⟩
set_option maxRecDepth 100000 in
theorem ko_X3_tell : dx_Kok dx_P km_X3_tell := ⟨by decide +kernel, by decide, dx_rows_ok (by decide +kernel), kw_X3⟩
set_option maxRecDepth 100000 in
theorem ko_X3_commonDivisor : dx_Kok dx_P km_X3_commonDivisor := ⟨by decide +kernel, by decide, dx_rows_ok (by decide +kernel), kw_X3⟩
set_option maxRecDepth 100000 in
theorem ko_X3_loadsThere : dx_Kok dx_P km_X3_loadsThere := ⟨by decide +kernel, by decide, dx_rows_ok (by decide +kernel), kw_X3⟩
set_option maxRecDepth 100000 in
theorem ko_X3_wholeWeight : dx_Kok dx_P km_X3_wholeWeight := ⟨by decide +kernel, by decide, dx_rows_ok (by decide +kernel), kw_X3⟩
set_option maxRecDepth 100000 in
theorem ko_X3_settle : dx_Kok dx_P km_X3_settle := ⟨by decide +kernel, by decide, dx_rows_ok (by decide +kernel), kw_X3⟩
set_option maxRecDepth 100000 in
theorem ko_X3_weightAcross : dx_Kok dx_P km_X3_weightAcross := ⟨by decide +kernel, by decide, dx_rows_ok (by decide +kernel), kw_X3⟩
set_option maxRecDepth 100000 in
theorem ko_X3_weightUp : dx_Kok dx_P km_X3_weightUp := ⟨by decide +kernel, by decide, dx_rows_ok (by decide +kernel), kw_X3⟩
set_option maxRecDepth 100000 in
theorem ko_X3_leaning : dx_Kok dx_P km_X3_leaning := ⟨by decide +kernel, by decide, dx_rows_ok (by decide +kernel), kw_X3⟩
set_option maxRecDepth 100000 in
theorem ko_X3_holding : dx_Kok dx_P km_X3_holding := ⟨by decide +kernel, by decide, dx_rows_ok (by decide +kernel), kw_X3⟩
set_option maxRecDepth 100000 in
theorem ko_X3_turnedAcross : dx_Kok dx_P km_X3_turnedAcross := ⟨by decide +kernel, by decide, dx_rows_ok (by decide +kernel), kw_X3⟩
set_option maxRecDepth 100000 in
theorem ko_X3_turnedUp : dx_Kok dx_P km_X3_turnedUp := ⟨by decide +kernel, by decide, dx_rows_ok (by decide +kernel), kw_X3⟩
set_option maxRecDepth 100000 in
theorem ko_X4_in : dx_Kok dx_P km_X4_in := ⟨by decide +kernel, by decide, dx_rows_ok (by decide +kernel), kw_X4⟩
set_option maxRecDepth 100000 in
theorem ko_X4_meets : dx_Kok dx_P km_X4_meets := ⟨by decide +kernel, by decide, dx_rows_ok (by decide +kernel), kw_X4⟩
set_option maxRecDepth 100000 in
theorem ko_X4_finding : dx_Kok dx_P km_X4_finding := ⟨by decide +kernel, by decide, dx_rows_ok (by decide +kernel), kw_X4⟩
set_option maxRecDepth 100000 in
theorem ko_X4_findings : dx_Kok dx_P km_X4_findings := ⟨by decide +kernel, by decide, dx_rows_ok (by decide +kernel), kw_X4⟩
set_option maxRecDepth 100000 in
theorem ko_X4_gcd : dx_Kok dx_P km_X4_gcd := ⟨by decide +kernel, by decide, dx_rows_ok (by decide +kernel), kw_X4⟩
set_option maxRecDepth 100000 in
theorem ko_X4_tells : dx_Kok dx_P km_X4_tells := ⟨by decide +kernel, by decide, dx_rows_ok (by decide +kernel), kw_X4⟩
set_option maxRecDepth 100000 in
theorem ko_X4_upper : dx_Kok dx_P km_X4_upper := ⟨by decide +kernel, by decide, dx_rows_ok (by decide +kernel), kw_X4⟩
set_option maxRecDepth 100000 in
theorem ko_X4_lower : dx_Kok dx_P km_X4_lower := ⟨by decide +kernel, by decide, dx_rows_ok (by decide +kernel), kw_X4⟩
set_option maxRecDepth 100000 in
theorem ko_X4_begin : dx_Kok dx_P km_X4_begin := ⟨by decide +kernel, by decide, dx_rows_ok (by decide +kernel), kw_X4⟩
set_option maxRecDepth 100000 in
theorem ko_X4_log : dx_Kok dx_P km_X4_log := ⟨by decide +kernel, by decide, dx_rows_ok (by decide +kernel), kw_X4⟩
set_option maxRecDepth 100000 in
theorem ko_X4_isPlace : dx_Kok dx_P km_X4_isPlace := ⟨by decide +kernel, by decide, dx_rows_ok (by decide +kernel), kw_X4⟩
set_option maxRecDepth 100000 in
theorem ko_X4_square : dx_Kok dx_P km_X4_square := ⟨by decide +kernel, by decide, dx_rows_ok (by decide +kernel), kw_X4⟩
set_option maxRecDepth 100000 in
theorem ko_X4_at : dx_Kok dx_P km_X4_at := ⟨by decide +kernel, by decide, dx_rows_ok (by decide +kernel), kw_X4⟩
set_option maxRecDepth 100000 in
theorem ko_X4_water : dx_Kok dx_P km_X4_water := ⟨by decide +kernel, by decide, dx_rows_ok (by decide +kernel), kw_X4⟩
set_option maxRecDepth 100000 in
theorem ko_X4_isSheet : dx_Kok dx_P km_X4_isSheet := ⟨by decide +kernel, by decide, dx_rows_ok (by decide +kernel), kw_X4⟩
set_option maxRecDepth 100000 in
theorem ko_X4_sheet : dx_Kok dx_P km_X4_sheet := ⟨by decide +kernel, by decide, dx_rows_ok (by decide +kernel), kw_X4⟩
set_option maxRecDepth 100000 in
theorem ko_X4_lay : dx_Kok dx_P km_X4_lay := ⟨by decide +kernel, by decide, dx_rows_ok (by decide +kernel), kw_X4⟩
set_option maxRecDepth 100000 in
theorem ko_X4_tear : dx_Kok dx_P km_X4_tear := ⟨by decide +kernel, by decide, dx_rows_ok (by decide +kernel), kw_X4⟩
set_option maxRecDepth 100000 in
theorem ko_X4_copy : dx_Kok dx_P km_X4_copy := ⟨by decide +kernel, by decide, dx_rows_ok (by decide +kernel), kw_X4⟩
set_option maxRecDepth 100000 in
theorem ko_X4_fill : dx_Kok dx_P km_X4_fill := ⟨by decide +kernel, by decide, dx_rows_ok (by decide +kernel), kw_X4⟩
set_option maxRecDepth 100000 in
theorem ko_X4_isPoint : dx_Kok dx_P km_X4_isPoint := ⟨by decide +kernel, by decide, dx_rows_ok (by decide +kernel), kw_X4⟩
set_option maxRecDepth 100000 in
theorem ko_X4_load : dx_Kok dx_P km_X4_load := ⟨by decide +kernel, by decide, dx_rows_ok (by decide +kernel), kw_X4⟩
set_option maxRecDepth 100000 in
theorem ko_X4_need : dx_Kok dx_P km_X4_need := ⟨by decide +kernel, by decide, dx_rows_ok (by decide +kernel), kw_X4⟩
set_option maxRecDepth 100000 in
theorem ko_X4_move : dx_Kok dx_P km_X4_move := ⟨by decide +kernel, by decide, dx_rows_ok (by decide +kernel), kw_X4⟩
set_option maxRecDepth 100000 in
theorem ko_X4_rope : dx_Kok dx_P km_X4_rope := ⟨by decide +kernel, by decide, dx_rows_ok (by decide +kernel), kw_X4⟩
set_option maxRecDepth 100000 in
theorem ko_X4_drop : dx_Kok dx_P km_X4_drop := ⟨by decide +kernel, by decide, dx_rows_ok (by decide +kernel), kw_X4⟩
set_option maxRecDepth 100000 in
theorem ko_X4_toldOf : dx_Kok dx_P km_X4_toldOf := ⟨by decide +kernel, by decide, dx_rows_ok (by decide +kernel), kw_X4⟩
set_option maxRecDepth 100000 in
theorem ko_X4_told : dx_Kok dx_P km_X4_told := ⟨by decide +kernel, by decide, dx_rows_ok (by decide +kernel), kw_X4⟩
set_option maxRecDepth 100000 in
theorem ko_X4_is : dx_Kok dx_P km_X4_is := ⟨by decide +kernel, by decide, dx_rows_ok (by decide +kernel), kw_X4⟩
set_option maxRecDepth 100000 in
theorem ko_X4_squareMany : dx_Kok dx_P km_X4_squareMany := ⟨by decide +kernel, by decide, dx_rows_ok (by decide +kernel), kw_X4⟩
set_option maxRecDepth 100000 in
theorem ko_X4_squareWeights : dx_Kok dx_P km_X4_squareWeights := ⟨by decide +kernel, by decide, dx_rows_ok (by decide +kernel), kw_X4⟩
set_option maxRecDepth 100000 in
theorem ko_X4_all : dx_Kok dx_P km_X4_all := ⟨by decide +kernel, by decide, dx_rows_ok (by decide +kernel), kw_X4⟩
set_option maxRecDepth 100000 in
theorem ko_X4_mean : dx_Kok dx_P km_X4_mean := ⟨by decide +kernel, by decide, dx_rows_ok (by decide +kernel), kw_X4⟩
set_option maxRecDepth 100000 in
theorem ko_X4_lay_ : dx_Kok dx_P km_X4_lay_ := ⟨by decide +kernel, by decide, dx_rows_ok (by decide +kernel), kw_X4⟩
set_option maxRecDepth 100000 in
theorem ko_X4_isWetAt : dx_Kok dx_P km_X4_isWetAt := ⟨by decide +kernel, by decide, dx_rows_ok (by decide +kernel), kw_X4⟩
set_option maxRecDepth 100000 in
theorem ko_X4_spread : dx_Kok dx_P km_X4_spread := ⟨by decide +kernel, by decide, dx_rows_ok (by decide +kernel), kw_X4⟩
set_option maxRecDepth 100000 in
theorem ko_X4_firmIn : dx_Kok dx_P km_X4_firmIn := ⟨by decide +kernel, by decide, dx_rows_ok (by decide +kernel), kw_X4⟩
set_option maxRecDepth 100000 in
theorem ko_X4_firmBelow : dx_Kok dx_P km_X4_firmBelow := ⟨by decide +kernel, by decide, dx_rows_ok (by decide +kernel), kw_X4⟩
set_option maxRecDepth 100000 in
theorem ko_X4_finds : dx_Kok dx_P km_X4_finds := ⟨by decide +kernel, by decide, dx_rows_ok (by decide +kernel), kw_X4⟩
set_option maxRecDepth 100000 in
theorem ko_X4_afloat : dx_Kok dx_P km_X4_afloat := ⟨by decide +kernel, by decide, dx_rows_ok (by decide +kernel), kw_X4⟩
set_option maxRecDepth 100000 in
theorem ko_X4_floats : dx_Kok dx_P km_X4_floats := ⟨by decide +kernel, by decide, dx_rows_ok (by decide +kernel), kw_X4⟩
set_option maxRecDepth 100000 in
theorem ko_X4_draft : dx_Kok dx_P km_X4_draft := ⟨by decide +kernel, by decide, dx_rows_ok (by decide +kernel), kw_X4⟩
set_option maxRecDepth 100000 in
theorem ko_X4_above : dx_Kok dx_P km_X4_above := ⟨by decide +kernel, by decide, dx_rows_ok (by decide +kernel), kw_X4⟩
set_option maxRecDepth 100000 in
theorem ko_X4_laySums : dx_Kok dx_P km_X4_laySums := ⟨by decide +kernel, by decide, dx_rows_ok (by decide +kernel), kw_X4⟩
set_option maxRecDepth 100000 in
theorem ko_X4_layPowers : dx_Kok dx_P km_X4_layPowers := ⟨by decide +kernel, by decide, dx_rows_ok (by decide +kernel), kw_X4⟩
set_option maxRecDepth 100000 in
theorem ko_X4_middle : dx_Kok dx_P km_X4_middle := ⟨by decide +kernel, by decide, dx_rows_ok (by decide +kernel), kw_X4⟩
set_option maxRecDepth 100000 in
theorem ko_X4_place : dx_Kok dx_P km_X4_place := ⟨by decide +kernel, by decide, dx_rows_ok (by decide +kernel), kw_X4⟩
set_option maxRecDepth 100000 in
theorem ko_X4_lean : dx_Kok dx_P km_X4_lean := ⟨by decide +kernel, by decide, dx_rows_ok (by decide +kernel), kw_X4⟩
set_option maxRecDepth 100000 in
theorem ko_X4_leans : dx_Kok dx_P km_X4_leans := ⟨by decide +kernel, by decide, dx_rows_ok (by decide +kernel), kw_X4⟩
set_option maxRecDepth 100000 in
theorem ko_X4_layBreadth : dx_Kok dx_P km_X4_layBreadth := ⟨by decide +kernel, by decide, dx_rows_ok (by decide +kernel), kw_X4⟩
set_option maxRecDepth 100000 in
theorem ko_X4_leastBreadth : dx_Kok dx_P km_X4_leastBreadth := ⟨by decide +kernel, by decide, dx_rows_ok (by decide +kernel), kw_X4⟩
set_option maxRecDepth 100000 in
theorem ko_X4_breadth : dx_Kok dx_P km_X4_breadth := ⟨by decide +kernel, by decide, dx_rows_ok (by decide +kernel), kw_X4⟩
set_option maxRecDepth 100000 in
theorem ko_X4_holdsNow : dx_Kok dx_P km_X4_holdsNow := ⟨by decide +kernel, by decide, dx_rows_ok (by decide +kernel), kw_X4⟩
set_option maxRecDepth 100000 in
theorem ko_X4_holds : dx_Kok dx_P km_X4_holds := ⟨by decide +kernel, by decide, dx_rows_ok (by decide +kernel), kw_X4⟩
set_option maxRecDepth 100000 in
theorem ko_X4_rests : dx_Kok dx_P km_X4_rests := ⟨by decide +kernel, by decide, dx_rows_ok (by decide +kernel), kw_X4⟩
set_option maxRecDepth 100000 in
theorem ko_X4_mostRoom : dx_Kok dx_P km_X4_mostRoom := ⟨by decide +kernel, by decide, dx_rows_ok (by decide +kernel), kw_X4⟩
set_option maxRecDepth 100000 in
theorem ko_X4_carries : dx_Kok dx_P km_X4_carries := ⟨by decide +kernel, by decide, dx_rows_ok (by decide +kernel), kw_X4⟩
set_option maxRecDepth 100000 in
theorem ko_X4_trim : dx_Kok dx_P km_X4_trim := ⟨by decide +kernel, by decide, dx_rows_ok (by decide +kernel), kw_X4⟩
set_option maxRecDepth 100000 in
theorem ko_X4_room : dx_Kok dx_P km_X4_room := ⟨by decide +kernel, by decide, dx_rows_ok (by decide +kernel), kw_X4⟩
set_option maxRecDepth 100000 in
theorem ko_X4_count : dx_Kok dx_P km_X4_count := ⟨by decide +kernel, by decide, dx_rows_ok (by decide +kernel), kw_X4⟩
set_option maxRecDepth 100000 in
theorem ko_X4_digest : dx_Kok dx_P km_X4_digest := ⟨by decide +kernel, by decide, dx_rows_ok (by decide +kernel), kw_X4⟩
set_option maxRecDepth 100000 in
theorem ko_J6_bitCount_0f7a4 : dx_Kok dx_P km_J6_bitCount_0f7a4 := ⟨by decide +kernel, by decide, dx_rows_ok (by decide +kernel), kw_J6⟩
set_option maxRecDepth 100000 in
theorem ko_J13_compare_74951 : dx_Kok dx_P km_J13_compare_74951 := ⟨by decide +kernel, by decide, dx_rows_ok (by decide +kernel), kw_J13⟩
theorem dx_P_ok : ∀ (id : Nat) (K : dx_K), dx_P[id]? = some K → dx_Kok dx_P K := fun id K h => (show ∀ K ∈ dx_P, dx_Kok dx_P K from List.forall_mem_cons.mpr ⟨ko_X0_begin, List.forall_mem_cons.mpr ⟨ko_X0_has, List.forall_mem_cons.mpr ⟨ko_X0_weightOf, List.forall_mem_cons.mpr ⟨ko_X0_put, List.forall_mem_cons.mpr ⟨ko_X0_across, List.forall_mem_cons.mpr ⟨ko_X0_up, List.forall_mem_cons.mpr ⟨ko_X0_squares, List.forall_mem_cons.mpr ⟨ko_X0_weight, List.forall_mem_cons.mpr ⟨ko_X0_weightAcross, List.forall_mem_cons.mpr ⟨ko_X0_weightUp, List.forall_mem_cons.mpr ⟨ko_X1_turnTo, List.forall_mem_cons.mpr ⟨ko_X1_riseTo, List.forall_mem_cons.mpr ⟨ko_X1_waysInto, List.forall_mem_cons.mpr ⟨ko_X1_spread, List.forall_mem_cons.mpr ⟨ko_X1_firm, List.forall_mem_cons.mpr ⟨ko_X1_countFirm, List.forall_mem_cons.mpr ⟨ko_X1_bears, List.forall_mem_cons.mpr ⟨ko_X1_mostRoom, List.forall_mem_cons.mpr ⟨ko_X1_stateOf, List.forall_mem_cons.mpr ⟨ko_X1_halves, List.forall_mem_cons.mpr ⟨ko_X1_momentAcross, List.forall_mem_cons.mpr ⟨ko_X1_momentUp, List.forall_mem_cons.mpr ⟨ko_X1_measureLine, List.forall_mem_cons.mpr ⟨ko_X1_measureRow, List.forall_mem_cons.mpr ⟨ko_X2_begin, List.forall_mem_cons.mpr ⟨ko_X2_fact, List.forall_mem_cons.mpr ⟨ko_X3_log, List.forall_mem_cons.mpr ⟨ko_X3_square, List.forall_mem_cons.mpr ⟨ko_X3_at, List.forall_mem_cons.mpr ⟨ko_X3_water, List.forall_mem_cons.mpr ⟨ko_X3_sheet, List.forall_mem_cons.mpr ⟨ko_X3_lay, List.forall_mem_cons.mpr ⟨ko_X3_tear, List.forall_mem_cons.mpr ⟨ko_X3_copy, List.forall_mem_cons.mpr ⟨ko_X3_fill, List.forall_mem_cons.mpr ⟨ko_X3_load, List.forall_mem_cons.mpr ⟨ko_X3_move, List.forall_mem_cons.mpr ⟨ko_X3_rope, List.forall_mem_cons.mpr ⟨ko_X3_drop, List.forall_mem_cons.mpr ⟨ko_X3_told, List.forall_mem_cons.mpr ⟨ko_X3_is, List.forall_mem_cons.mpr ⟨ko_X3_all, List.forall_mem_cons.mpr ⟨ko_X3_mean, List.forall_mem_cons.mpr ⟨ko_X3_floats, List.forall_mem_cons.mpr ⟨ko_X3_draft, List.forall_mem_cons.mpr ⟨ko_X3_above, List.forall_mem_cons.mpr ⟨ko_X3_middle, List.forall_mem_cons.mpr ⟨ko_X3_place, List.forall_mem_cons.mpr ⟨ko_X3_leans, List.forall_mem_cons.mpr ⟨ko_X3_breadth, List.forall_mem_cons.mpr ⟨ko_X3_holds, List.forall_mem_cons.mpr ⟨ko_X3_rests, List.forall_mem_cons.mpr ⟨ko_X3_carries, List.forall_mem_cons.mpr ⟨ko_X3_trim, List.forall_mem_cons.mpr ⟨ko_X3_room, List.forall_mem_cons.mpr ⟨ko_X3_upper, List.forall_mem_cons.mpr ⟨ko_X3_lower, List.forall_mem_cons.mpr ⟨ko_X3_count, List.forall_mem_cons.mpr ⟨ko_X3_finding, List.forall_mem_cons.mpr ⟨ko_X3_findings, List.forall_mem_cons.mpr ⟨ko_X3_digest, List.forall_mem_cons.mpr ⟨ko_X3_digestPlaces, List.forall_mem_cons.mpr ⟨ko_X3_digestLoads, List.forall_mem_cons.mpr ⟨ko_X3_digestSheets, List.forall_mem_cons.mpr ⟨ko_X3_within, List.forall_mem_cons.mpr ⟨ko_X3_isTurn, List.forall_mem_cons.mpr ⟨ko_X3_isSheet, List.forall_mem_cons.mpr ⟨ko_X3_isPoint, List.forall_mem_cons.mpr ⟨ko_X3_isLoad, List.forall_mem_cons.mpr ⟨ko_X3_reaches, List.forall_mem_cons.mpr ⟨ko_X3_find, List.forall_mem_cons.mpr ⟨ko_X3_tell, List.forall_mem_cons.mpr ⟨ko_X3_commonDivisor, List.forall_mem_cons.mpr ⟨ko_X3_loadsThere, List.forall_mem_cons.mpr ⟨ko_X3_wholeWeight, List.forall_mem_cons.mpr ⟨ko_X3_settle, List.forall_mem_cons.mpr ⟨ko_X3_weightAcross, List.forall_mem_cons.mpr ⟨ko_X3_weightUp, List.forall_mem_cons.mpr ⟨ko_X3_leaning, List.forall_mem_cons.mpr ⟨ko_X3_holding, List.forall_mem_cons.mpr ⟨ko_X3_turnedAcross, List.forall_mem_cons.mpr ⟨ko_X3_turnedUp, List.forall_mem_cons.mpr ⟨ko_X4_in, List.forall_mem_cons.mpr ⟨ko_X4_meets, List.forall_mem_cons.mpr ⟨ko_X4_finding, List.forall_mem_cons.mpr ⟨ko_X4_findings, List.forall_mem_cons.mpr ⟨ko_X4_gcd, List.forall_mem_cons.mpr ⟨ko_X4_tells, List.forall_mem_cons.mpr ⟨ko_X4_upper, List.forall_mem_cons.mpr ⟨ko_X4_lower, List.forall_mem_cons.mpr ⟨ko_X4_begin, List.forall_mem_cons.mpr ⟨ko_X4_log, List.forall_mem_cons.mpr ⟨ko_X4_isPlace, List.forall_mem_cons.mpr ⟨ko_X4_square, List.forall_mem_cons.mpr ⟨ko_X4_at, List.forall_mem_cons.mpr ⟨ko_X4_water, List.forall_mem_cons.mpr ⟨ko_X4_isSheet, List.forall_mem_cons.mpr ⟨ko_X4_sheet, List.forall_mem_cons.mpr ⟨ko_X4_lay, List.forall_mem_cons.mpr ⟨ko_X4_tear, List.forall_mem_cons.mpr ⟨ko_X4_copy, List.forall_mem_cons.mpr ⟨ko_X4_fill, List.forall_mem_cons.mpr ⟨ko_X4_isPoint, List.forall_mem_cons.mpr ⟨ko_X4_load, List.forall_mem_cons.mpr ⟨ko_X4_need, List.forall_mem_cons.mpr ⟨ko_X4_move, List.forall_mem_cons.mpr ⟨ko_X4_rope, List.forall_mem_cons.mpr ⟨ko_X4_drop, List.forall_mem_cons.mpr ⟨ko_X4_toldOf, List.forall_mem_cons.mpr ⟨ko_X4_told, List.forall_mem_cons.mpr ⟨ko_X4_is, List.forall_mem_cons.mpr ⟨ko_X4_squareMany, List.forall_mem_cons.mpr ⟨ko_X4_squareWeights, List.forall_mem_cons.mpr ⟨ko_X4_all, List.forall_mem_cons.mpr ⟨ko_X4_mean, List.forall_mem_cons.mpr ⟨ko_X4_lay_, List.forall_mem_cons.mpr ⟨ko_X4_isWetAt, List.forall_mem_cons.mpr ⟨ko_X4_spread, List.forall_mem_cons.mpr ⟨ko_X4_firmIn, List.forall_mem_cons.mpr ⟨ko_X4_firmBelow, List.forall_mem_cons.mpr ⟨ko_X4_finds, List.forall_mem_cons.mpr ⟨ko_X4_afloat, List.forall_mem_cons.mpr ⟨ko_X4_floats, List.forall_mem_cons.mpr ⟨ko_X4_draft, List.forall_mem_cons.mpr ⟨ko_X4_above, List.forall_mem_cons.mpr ⟨ko_X4_laySums, List.forall_mem_cons.mpr ⟨ko_X4_layPowers, List.forall_mem_cons.mpr ⟨ko_X4_middle, List.forall_mem_cons.mpr ⟨ko_X4_place, List.forall_mem_cons.mpr ⟨ko_X4_lean, List.forall_mem_cons.mpr ⟨ko_X4_leans, List.forall_mem_cons.mpr ⟨ko_X4_layBreadth, List.forall_mem_cons.mpr ⟨ko_X4_leastBreadth, List.forall_mem_cons.mpr ⟨ko_X4_breadth, List.forall_mem_cons.mpr ⟨ko_X4_holdsNow, List.forall_mem_cons.mpr ⟨ko_X4_holds, List.forall_mem_cons.mpr ⟨ko_X4_rests, List.forall_mem_cons.mpr ⟨ko_X4_mostRoom, List.forall_mem_cons.mpr ⟨ko_X4_carries, List.forall_mem_cons.mpr ⟨ko_X4_trim, List.forall_mem_cons.mpr ⟨ko_X4_room, List.forall_mem_cons.mpr ⟨ko_X4_count, List.forall_mem_cons.mpr ⟨ko_X4_digest, List.forall_mem_cons.mpr ⟨ko_J6_bitCount_0f7a4, List.forall_mem_cons.mpr ⟨ko_J13_compare_74951, fun _ h => absurd h List.not_mem_nil⟩⟩⟩⟩⟩⟩⟩⟩⟩⟩⟩⟩⟩⟩⟩⟩⟩⟩⟩⟩⟩⟩⟩⟩⟩⟩⟩⟩⟩⟩⟩⟩⟩⟩⟩⟩⟩⟩⟩⟩⟩⟩⟩⟩⟩⟩⟩⟩⟩⟩⟩⟩⟩⟩⟩⟩⟩⟩⟩⟩⟩⟩⟩⟩⟩⟩⟩⟩⟩⟩⟩⟩⟩⟩⟩⟩⟩⟩⟩⟩⟩⟩⟩⟩⟩⟩⟩⟩⟩⟩⟩⟩⟩⟩⟩⟩⟩⟩⟩⟩⟩⟩⟩⟩⟩⟩⟩⟩⟩⟩⟩⟩⟩⟩⟩⟩⟩⟩⟩⟩⟩⟩⟩⟩⟩⟩⟩⟩⟩⟩⟩⟩⟩⟩⟩⟩⟩⟩⟩⟩⟩⟩⟩⟩⟩) K (List.mem_of_getElem? h)
end
section
/-! the layouts fit the classes -/
def dx_fok (T : u_T) (fl : List (Nat × Nat)) : Bool := (List.range fl.length).all (fun b => match fl[b]? with
  | some (0, _) => decide ((T b).2.2 = ("I", false))
  | some (1, _) => decide ((T b).2.2 = ("Z", false))
  | some (2, _) => decide ((T b).2.2 = ("J", false))
  | _ => true)
theorem dx_fok_of {T : u_T} {fl : List (Nat × Nat)} (h : dx_fok T fl = true) : ∀ (b κ q : Nat), fl[b]? = some (κ, q) → (κ = 0 → (T b).2.2 = ("I", false)) ∧ (κ = 1 → (T b).2.2 = ("Z", false)) ∧ (κ = 2 → (T b).2.2 = ("J", false)) := by
  intro b κ q hb
  have h1 := List.all_eq_true.mp h b (List.mem_range.mpr (List.getElem?_eq_some_iff.mp hb).1)
  rw [hb] at h1
  refine ⟨fun e => ?_, fun e => ?_, fun e => ?_⟩ <;> subst e <;> exact of_decide_eq_true h1
set_option maxRecDepth 20000 in
theorem kl_in_X0 : ∀ w ∈ u_ws RX0 TX0 3, w ∈ dx_T := by
  show ∀ w ∈ [u_lay RX0 TX0 0, u_lay RX0 TX0 1, u_lay RX0 TX0 2], w ∈ dx_T
  exact List.forall_mem_cons.mpr ⟨(dx_T_of (List.mem_of_getElem? (i := 71) (by decide +kernel)) (by decide +kernel)), List.forall_mem_cons.mpr ⟨(dx_T_of (List.mem_of_getElem? (i := 73) (by decide +kernel)) (by decide +kernel)), List.forall_mem_cons.mpr ⟨(dx_T_of (List.mem_of_getElem? (i := 75) (by decide +kernel)) (by decide +kernel)), fun _ h => absurd h List.not_mem_nil⟩⟩⟩
theorem kl_X0 : dx_clsok RX0 TX0 3 := ⟨⟨tyX0, tyX0_ok⟩, nmX0, kl_in_X0⟩
set_option maxRecDepth 20000 in
theorem kl_in_X1 : ∀ w ∈ u_ws RX1 TX1 11, w ∈ dx_T := by
  show ∀ w ∈ [u_lay RX1 TX1 0, u_lay RX1 TX1 1, u_lay RX1 TX1 2, u_lay RX1 TX1 3, u_lay RX1 TX1 4, u_lay RX1 TX1 5, u_lay RX1 TX1 6, u_lay RX1 TX1 7, u_lay RX1 TX1 8, u_lay RX1 TX1 9, u_lay RX1 TX1 10], w ∈ dx_T
  exact List.forall_mem_cons.mpr ⟨(dx_T_of (List.mem_of_getElem? (i := 104) (by decide +kernel)) (by decide +kernel)), List.forall_mem_cons.mpr ⟨(dx_T_of (List.mem_of_getElem? (i := 106) (by decide +kernel)) (by decide +kernel)), List.forall_mem_cons.mpr ⟨(dx_T_of (List.mem_of_getElem? (i := 108) (by decide +kernel)) (by decide +kernel)), List.forall_mem_cons.mpr ⟨(dx_T_of (List.mem_of_getElem? (i := 110) (by decide +kernel)) (by decide +kernel)), List.forall_mem_cons.mpr ⟨(dx_T_of (List.mem_of_getElem? (i := 112) (by decide +kernel)) (by decide +kernel)), List.forall_mem_cons.mpr ⟨(dx_T_of (List.mem_of_getElem? (i := 114) (by decide +kernel)) (by decide +kernel)), List.forall_mem_cons.mpr ⟨(dx_T_of (List.mem_of_getElem? (i := 116) (by decide +kernel)) (by decide +kernel)), List.forall_mem_cons.mpr ⟨(dx_T_of (List.mem_of_getElem? (i := 118) (by decide +kernel)) (by decide +kernel)), List.forall_mem_cons.mpr ⟨(dx_T_of (List.mem_of_getElem? (i := 120) (by decide +kernel)) (by decide +kernel)), List.forall_mem_cons.mpr ⟨(dx_T_of (List.mem_of_getElem? (i := 122) (by decide +kernel)) (by decide +kernel)), List.forall_mem_cons.mpr ⟨(dx_T_of (List.mem_of_getElem? (i := 124) (by decide +kernel)) (by decide +kernel)), fun _ h => absurd h List.not_mem_nil⟩⟩⟩⟩⟩⟩⟩⟩⟩⟩⟩
theorem kl_X1 : dx_clsok RX1 TX1 11 := ⟨⟨tyX1, tyX1_ok⟩, nmX1, kl_in_X1⟩
set_option maxRecDepth 20000 in
theorem kl_in_X2 : ∀ w ∈ u_ws RX2 TX2 6, w ∈ dx_T := by
  show ∀ w ∈ [u_lay RX2 TX2 0, u_lay RX2 TX2 1, u_lay RX2 TX2 2, u_lay RX2 TX2 3, u_lay RX2 TX2 4, u_lay RX2 TX2 5], w ∈ dx_T
  exact List.forall_mem_cons.mpr ⟨(dx_T_of (List.mem_of_getElem? (i := 146) (by decide +kernel)) (by decide +kernel)), List.forall_mem_cons.mpr ⟨(dx_T_of (List.mem_of_getElem? (i := 148) (by decide +kernel)) (by decide +kernel)), List.forall_mem_cons.mpr ⟨(dx_T_of (List.mem_of_getElem? (i := 150) (by decide +kernel)) (by decide +kernel)), List.forall_mem_cons.mpr ⟨(dx_T_of (List.mem_of_getElem? (i := 152) (by decide +kernel)) (by decide +kernel)), List.forall_mem_cons.mpr ⟨(dx_T_of (List.mem_of_getElem? (i := 154) (by decide +kernel)) (by decide +kernel)), List.forall_mem_cons.mpr ⟨(dx_T_of (List.mem_of_getElem? (i := 156) (by decide +kernel)) (by decide +kernel)), fun _ h => absurd h List.not_mem_nil⟩⟩⟩⟩⟩⟩
theorem kl_X2 : dx_clsok RX2 TX2 6 := ⟨⟨tyX2, tyX2_ok⟩, nmX2, kl_in_X2⟩
set_option maxRecDepth 20000 in
theorem kl_in_X3 : ∀ w ∈ u_ws RX3 TX3 11, w ∈ dx_T := by
  show ∀ w ∈ [u_lay RX3 TX3 0, u_lay RX3 TX3 1, u_lay RX3 TX3 2, u_lay RX3 TX3 3, u_lay RX3 TX3 4, u_lay RX3 TX3 5, u_lay RX3 TX3 6, u_lay RX3 TX3 7, u_lay RX3 TX3 8, u_lay RX3 TX3 9, u_lay RX3 TX3 10], w ∈ dx_T
  exact List.forall_mem_cons.mpr ⟨(dx_T_of (List.mem_of_getElem? (i := 172) (by decide +kernel)) (by decide +kernel)), List.forall_mem_cons.mpr ⟨(dx_T_of (List.mem_of_getElem? (i := 174) (by decide +kernel)) (by decide +kernel)), List.forall_mem_cons.mpr ⟨(dx_T_of (List.mem_of_getElem? (i := 176) (by decide +kernel)) (by decide +kernel)), List.forall_mem_cons.mpr ⟨(dx_T_of (List.mem_of_getElem? (i := 178) (by decide +kernel)) (by decide +kernel)), List.forall_mem_cons.mpr ⟨(dx_T_of (List.mem_of_getElem? (i := 180) (by decide +kernel)) (by decide +kernel)), List.forall_mem_cons.mpr ⟨(dx_T_of (List.mem_of_getElem? (i := 182) (by decide +kernel)) (by decide +kernel)), List.forall_mem_cons.mpr ⟨(dx_T_of (List.mem_of_getElem? (i := 184) (by decide +kernel)) (by decide +kernel)), List.forall_mem_cons.mpr ⟨(dx_T_of (List.mem_of_getElem? (i := 186) (by decide +kernel)) (by decide +kernel)), List.forall_mem_cons.mpr ⟨(dx_T_of (List.mem_of_getElem? (i := 188) (by decide +kernel)) (by decide +kernel)), List.forall_mem_cons.mpr ⟨(dx_T_of (List.mem_of_getElem? (i := 190) (by decide +kernel)) (by decide +kernel)), List.forall_mem_cons.mpr ⟨(dx_T_of (List.mem_of_getElem? (i := 192) (by decide +kernel)) (by decide +kernel)), fun _ h => absurd h List.not_mem_nil⟩⟩⟩⟩⟩⟩⟩⟩⟩⟩⟩
theorem kl_X3 : dx_clsok RX3 TX3 11 := ⟨⟨tyX3, tyX3_ok⟩, nmX3, kl_in_X3⟩
set_option maxRecDepth 20000 in
theorem kl_in_X4 : ∀ w ∈ u_ws RX4 TX4 38, w ∈ dx_T := by
  show ∀ w ∈ [u_lay RX4 TX4 0, u_lay RX4 TX4 1, u_lay RX4 TX4 2, u_lay RX4 TX4 3, u_lay RX4 TX4 4, u_lay RX4 TX4 5, u_lay RX4 TX4 6, u_lay RX4 TX4 7, u_lay RX4 TX4 8, u_lay RX4 TX4 9, u_lay RX4 TX4 10, u_lay RX4 TX4 11, u_lay RX4 TX4 12, u_lay RX4 TX4 13, u_lay RX4 TX4 14, u_lay RX4 TX4 15, u_lay RX4 TX4 16, u_lay RX4 TX4 17, u_lay RX4 TX4 18, u_lay RX4 TX4 19, u_lay RX4 TX4 20, u_lay RX4 TX4 21, u_lay RX4 TX4 22, u_lay RX4 TX4 23, u_lay RX4 TX4 24, u_lay RX4 TX4 25, u_lay RX4 TX4 26, u_lay RX4 TX4 27, u_lay RX4 TX4 28, u_lay RX4 TX4 29, u_lay RX4 TX4 30, u_lay RX4 TX4 31, u_lay RX4 TX4 32, u_lay RX4 TX4 33, u_lay RX4 TX4 34, u_lay RX4 TX4 35, u_lay RX4 TX4 36, u_lay RX4 TX4 37], w ∈ dx_T
  exact List.forall_mem_cons.mpr ⟨(dx_T_of (List.mem_of_getElem? (i := 601) (by decide +kernel)) (by decide +kernel)), List.forall_mem_cons.mpr ⟨(dx_T_of (List.mem_of_getElem? (i := 603) (by decide +kernel)) (by decide +kernel)), List.forall_mem_cons.mpr ⟨(dx_T_of (List.mem_of_getElem? (i := 605) (by decide +kernel)) (by decide +kernel)), List.forall_mem_cons.mpr ⟨(dx_T_of (List.mem_of_getElem? (i := 607) (by decide +kernel)) (by decide +kernel)), List.forall_mem_cons.mpr ⟨(dx_T_of (List.mem_of_getElem? (i := 609) (by decide +kernel)) (by decide +kernel)), List.forall_mem_cons.mpr ⟨(dx_T_of (List.mem_of_getElem? (i := 611) (by decide +kernel)) (by decide +kernel)), List.forall_mem_cons.mpr ⟨(dx_T_of (List.mem_of_getElem? (i := 613) (by decide +kernel)) (by decide +kernel)), List.forall_mem_cons.mpr ⟨(dx_T_of (List.mem_of_getElem? (i := 615) (by decide +kernel)) (by decide +kernel)), List.forall_mem_cons.mpr ⟨(dx_T_of (List.mem_of_getElem? (i := 617) (by decide +kernel)) (by decide +kernel)), List.forall_mem_cons.mpr ⟨(dx_T_of (List.mem_of_getElem? (i := 619) (by decide +kernel)) (by decide +kernel)), List.forall_mem_cons.mpr ⟨(dx_T_of (List.mem_of_getElem? (i := 621) (by decide +kernel)) (by decide +kernel)), List.forall_mem_cons.mpr ⟨(dx_T_of (List.mem_of_getElem? (i := 623) (by decide +kernel)) (by decide +kernel)), List.forall_mem_cons.mpr ⟨(dx_T_of (List.mem_of_getElem? (i := 625) (by decide +kernel)) (by decide +kernel)), List.forall_mem_cons.mpr ⟨(dx_T_of (List.mem_of_getElem? (i := 627) (by decide +kernel)) (by decide +kernel)), List.forall_mem_cons.mpr ⟨(dx_T_of (List.mem_of_getElem? (i := 629) (by decide +kernel)) (by decide +kernel)), List.forall_mem_cons.mpr ⟨(dx_T_of (List.mem_of_getElem? (i := 631) (by decide +kernel)) (by decide +kernel)), List.forall_mem_cons.mpr ⟨(dx_T_of (List.mem_of_getElem? (i := 633) (by decide +kernel)) (by decide +kernel)), List.forall_mem_cons.mpr ⟨(dx_T_of (List.mem_of_getElem? (i := 635) (by decide +kernel)) (by decide +kernel)), List.forall_mem_cons.mpr ⟨(dx_T_of (List.mem_of_getElem? (i := 637) (by decide +kernel)) (by decide +kernel)), List.forall_mem_cons.mpr ⟨(dx_T_of (List.mem_of_getElem? (i := 639) (by decide +kernel)) (by decide +kernel)), List.forall_mem_cons.mpr ⟨(dx_T_of (List.mem_of_getElem? (i := 641) (by decide +kernel)) (by decide +kernel)), List.forall_mem_cons.mpr ⟨(dx_T_of (List.mem_of_getElem? (i := 643) (by decide +kernel)) (by decide +kernel)), List.forall_mem_cons.mpr ⟨(dx_T_of (List.mem_of_getElem? (i := 645) (by decide +kernel)) (by decide +kernel)), List.forall_mem_cons.mpr ⟨(dx_T_of (List.mem_of_getElem? (i := 647) (by decide +kernel)) (by decide +kernel)), List.forall_mem_cons.mpr ⟨(dx_T_of (List.mem_of_getElem? (i := 649) (by decide +kernel)) (by decide +kernel)), List.forall_mem_cons.mpr ⟨(dx_T_of (List.mem_of_getElem? (i := 651) (by decide +kernel)) (by decide +kernel)), List.forall_mem_cons.mpr ⟨(dx_T_of (List.mem_of_getElem? (i := 653) (by decide +kernel)) (by decide +kernel)), List.forall_mem_cons.mpr ⟨(dx_T_of (List.mem_of_getElem? (i := 655) (by decide +kernel)) (by decide +kernel)), List.forall_mem_cons.mpr ⟨(dx_T_of (List.mem_of_getElem? (i := 657) (by decide +kernel)) (by decide +kernel)), List.forall_mem_cons.mpr ⟨(dx_T_of (List.mem_of_getElem? (i := 659) (by decide +kernel)) (by decide +kernel)), List.forall_mem_cons.mpr ⟨(dx_T_of (List.mem_of_getElem? (i := 661) (by decide +kernel)) (by decide +kernel)), List.forall_mem_cons.mpr ⟨(dx_T_of (List.mem_of_getElem? (i := 663) (by decide +kernel)) (by decide +kernel)), List.forall_mem_cons.mpr ⟨(dx_T_of (List.mem_of_getElem? (i := 665) (by decide +kernel)) (by decide +kernel)), List.forall_mem_cons.mpr ⟨(dx_T_of (List.mem_of_getElem? (i := 667) (by decide +kernel)) (by decide +kernel)), List.forall_mem_cons.mpr ⟨(dx_T_of (List.mem_of_getElem? (i := 669) (by decide +kernel)) (by decide +kernel)), List.forall_mem_cons.mpr ⟨(dx_T_of (List.mem_of_getElem? (i := 671) (by decide +kernel)) (by decide +kernel)), List.forall_mem_cons.mpr ⟨(dx_T_of (List.mem_of_getElem? (i := 673) (by decide +kernel)) (by decide +kernel)), List.forall_mem_cons.mpr ⟨(dx_T_of (List.mem_of_getElem? (i := 675) (by decide +kernel)) (by decide +kernel)), fun _ h => absurd h List.not_mem_nil⟩⟩⟩⟩⟩⟩⟩⟩⟩⟩⟩⟩⟩⟩⟩⟩⟩⟩⟩⟩⟩⟩⟩⟩⟩⟩⟩⟩⟩⟩⟩⟩⟩⟩⟩⟩⟩⟩
theorem kl_X4 : dx_clsok RX4 TX4 38 := ⟨⟨tyX4, tyX4_ok⟩, nmX4, kl_in_X4⟩
theorem lx_X_ok : dx_layok lx_X := by
  intro k ci fl h
  have hk := (List.getElem?_eq_some_iff.mp h).1
  have hk2 : k < 26 := hk
  match k, hk2, h with
  | 0, _, h => cases h; exact ⟨RX3, TX3, 11, rfl, kl_X3, rfl, dx_fok_of (by decide +kernel)⟩
  | 1, _, h => cases h; exact ⟨RX0, TX0, 3, rfl, kl_X0, rfl, dx_fok_of (by decide +kernel)⟩
  | 2, _, h => cases h
  | 3, _, h => cases h; exact ⟨RX1, TX1, 11, rfl, kl_X1, rfl, dx_fok_of (by decide +kernel)⟩
  | 4, _, h => cases h
  | 5, _, h => cases h
  | 6, _, h => cases h
  | 7, _, h => cases h
  | 8, _, h => cases h
  | 9, _, h => cases h
  | 10, _, h => cases h; exact ⟨RX2, TX2, 6, rfl, kl_X2, rfl, dx_fok_of (by decide +kernel)⟩
  | 11, _, h => cases h; exact ⟨RX2, TX2, 6, rfl, kl_X2, rfl, dx_fok_of (by decide +kernel)⟩
  | 12, _, h => cases h; exact ⟨RX2, TX2, 6, rfl, kl_X2, rfl, dx_fok_of (by decide +kernel)⟩
  | 13, _, h => cases h; exact ⟨RX2, TX2, 6, rfl, kl_X2, rfl, dx_fok_of (by decide +kernel)⟩
  | 14, _, h => cases h; exact ⟨RX2, TX2, 6, rfl, kl_X2, rfl, dx_fok_of (by decide +kernel)⟩
  | 15, _, h => cases h; exact ⟨RX2, TX2, 6, rfl, kl_X2, rfl, dx_fok_of (by decide +kernel)⟩
  | 16, _, h => cases h; exact ⟨RX2, TX2, 6, rfl, kl_X2, rfl, dx_fok_of (by decide +kernel)⟩
  | 17, _, h => cases h; exact ⟨RX2, TX2, 6, rfl, kl_X2, rfl, dx_fok_of (by decide +kernel)⟩
  | 18, _, h => cases h; exact ⟨RX2, TX2, 6, rfl, kl_X2, rfl, dx_fok_of (by decide +kernel)⟩
  | 19, _, h => cases h; exact ⟨RX2, TX2, 6, rfl, kl_X2, rfl, dx_fok_of (by decide +kernel)⟩
  | 20, _, h => cases h
  | 21, _, h => cases h
  | 22, _, h => cases h
  | 23, _, h => cases h
  | 24, _, h => cases h
  | 25, _, h => cases h
  | k + 26, hk2, h => omega
theorem lx_M_ok : dx_layok lx_M := by
  intro k ci fl h
  have hk := (List.getElem?_eq_some_iff.mp h).1
  have hk2 : k < 14 := hk
  match k, hk2, h with
  | 0, _, h => cases h; exact ⟨RX4, TX4, 38, rfl, kl_X4, rfl, dx_fok_of (by decide +kernel)⟩
  | 1, _, h => cases h
  | 2, _, h => cases h
  | 3, _, h => cases h
  | 4, _, h => cases h
  | 5, _, h => cases h
  | 6, _, h => cases h
  | 7, _, h => cases h
  | 8, _, h => cases h
  | 9, _, h => cases h
  | 10, _, h => cases h
  | 11, _, h => cases h
  | 12, _, h => cases h
  | 13, _, h => cases h
  | k + 14, hk2, h => omega
theorem lx_C_ok : dx_layok lx_C := by
  intro k ci fl h
  have hk := (List.getElem?_eq_some_iff.mp h).1
  have hk2 : k < 2 := hk
  match k, hk2, h with
  | 0, _, h => cases h; exact ⟨RX0, TX0, 3, rfl, kl_X0, rfl, dx_fok_of (by decide +kernel)⟩
  | 1, _, h => cases h
  | k + 2, hk2, h => omega
end
section
theorem zz_last : True := trivial
end
