section
-- ===== PART A: goes FIRST, ahead of the names: the tables' words, and 'selects' of the private methods out of them =====
/-- a private method of a class that the tables say can be made, by its rows of tables_1 -/
def lw_okq (q : MethodName × Nat) : Prop := (q.1.cls ≠ "java/lang/invoke/MethodHandle" ∧ q.1.cls ≠ "java/lang/invoke/VarHandle") ∧ Cond.instantiable q.1.cls q.2 ∈ tables_1 ∧ Cond.privateMethod q.1 ∈ tables_1 ∧ Cond.instanceMethod q.1 ∈ tables_1
theorem lw_p0 : lw_okq (⟨"CustomsYard", "refuse", "(I)I"⟩, 13) := ⟨⟨by decide +kernel, by decide +kernel⟩, List.mem_of_getElem? (i := 9) (by decide +kernel), List.mem_of_getElem? (i := 74) (by decide +kernel), List.mem_of_getElem? (i := 75) (by decide +kernel)⟩
theorem lw_p1 : lw_okq (⟨"CustomsYard", "numbersWith", "(II)LCustomsYard$Numbers;"⟩, 13) := ⟨⟨by decide +kernel, by decide +kernel⟩, List.mem_of_getElem? (i := 9) (by decide +kernel), List.mem_of_getElem? (i := 138) (by decide +kernel), List.mem_of_getElem? (i := 139) (by decide +kernel)⟩
theorem lw_p2 : lw_okq (⟨"CustomsYard", "find", "(I)LCustomsYard$Load;"⟩, 13) := ⟨⟨by decide +kernel, by decide +kernel⟩, List.mem_of_getElem? (i := 9) (by decide +kernel), List.mem_of_getElem? (i := 142) (by decide +kernel), List.mem_of_getElem? (i := 143) (by decide +kernel)⟩
theorem lw_p3 : lw_okq (⟨"CustomsYard", "takeAs", "(LCustomsYard$Load;I)I"⟩, 13) := ⟨⟨by decide +kernel, by decide +kernel⟩, List.mem_of_getElem? (i := 9) (by decide +kernel), List.mem_of_getElem? (i := 196) (by decide +kernel), List.mem_of_getElem? (i := 197) (by decide +kernel)⟩
theorem lw_p4 : lw_okq (⟨"CustomsYard$Piece", "declaration", "()I"⟩, 3) := ⟨⟨by decide +kernel, by decide +kernel⟩, List.mem_of_getElem? (i := 81) (by decide +kernel), List.mem_of_getElem? (i := 209) (by decide +kernel), List.mem_of_getElem? (i := 210) (by decide +kernel)⟩
theorem lw_p5 : lw_okq (⟨"CustomsYard", "lineFor", "(LCustomsYard$Load;)I"⟩, 13) := ⟨⟨by decide +kernel, by decide +kernel⟩, List.mem_of_getElem? (i := 9) (by decide +kernel), List.mem_of_getElem? (i := 290) (by decide +kernel), List.mem_of_getElem? (i := 291) (by decide +kernel)⟩
theorem lw_p6 : lw_okq (⟨"CustomsYardModel", "no", "(I)I"⟩, 19) := ⟨⟨by decide +kernel, by decide +kernel⟩, List.mem_of_getElem? (i := 306) (by decide +kernel), List.mem_of_getElem? (i := 380) (by decide +kernel), List.mem_of_getElem? (i := 381) (by decide +kernel)⟩
theorem lw_p7 : lw_okq (⟨"CustomsYardModel", "isLoad", "(I)Z"⟩, 19) := ⟨⟨by decide +kernel, by decide +kernel⟩, List.mem_of_getElem? (i := 306) (by decide +kernel), List.mem_of_getElem? (i := 388) (by decide +kernel), List.mem_of_getElem? (i := 389) (by decide +kernel)⟩
theorem lw_p8 : lw_okq (⟨"CustomsYardModel", "isPlace", "(II)Z"⟩, 19) := ⟨⟨by decide +kernel, by decide +kernel⟩, List.mem_of_getElem? (i := 306) (by decide +kernel), List.mem_of_getElem? (i := 395) (by decide +kernel), List.mem_of_getElem? (i := 396) (by decide +kernel)⟩
theorem lw_p9 : lw_okq (⟨"CustomsYardModel", "comes", "(II)I"⟩, 19) := ⟨⟨by decide +kernel, by decide +kernel⟩, List.mem_of_getElem? (i := 306) (by decide +kernel), List.mem_of_getElem? (i := 434) (by decide +kernel), List.mem_of_getElem? (i := 435) (by decide +kernel)⟩
theorem lw_p10 : lw_okq (⟨"CustomsYardModel", "weightOf", "(I)J"⟩, 19) := ⟨⟨by decide +kernel, by decide +kernel⟩, List.mem_of_getElem? (i := 306) (by decide +kernel), List.mem_of_getElem? (i := 446) (by decide +kernel), List.mem_of_getElem? (i := 447) (by decide +kernel)⟩
theorem lw_p11 : lw_okq (⟨"CustomsYardModel", "lay", "(I)V"⟩, 19) := ⟨⟨by decide +kernel, by decide +kernel⟩, List.mem_of_getElem? (i := 306) (by decide +kernel), List.mem_of_getElem? (i := 450) (by decide +kernel), List.mem_of_getElem? (i := 451) (by decide +kernel)⟩
theorem lw_p12 : lw_okq (⟨"CustomsYardModel", "next", "()I"⟩, 19) := ⟨⟨by decide +kernel, by decide +kernel⟩, List.mem_of_getElem? (i := 306) (by decide +kernel), List.mem_of_getElem? (i := 454) (by decide +kernel), List.mem_of_getElem? (i := 455) (by decide +kernel)⟩
theorem lw_p13 : lw_okq (⟨"CustomsYardModel", "lineOf", "(I)I"⟩, 19) := ⟨⟨by decide +kernel, by decide +kernel⟩, List.mem_of_getElem? (i := 306) (by decide +kernel), List.mem_of_getElem? (i := 493) (by decide +kernel), List.mem_of_getElem? (i := 494) (by decide +kernel)⟩
def lw_privs_1 : List (MethodName × Nat) := [(⟨"CustomsYard", "refuse", "(I)I"⟩, 13), (⟨"CustomsYard", "numbersWith", "(II)LCustomsYard$Numbers;"⟩, 13), (⟨"CustomsYard", "find", "(I)LCustomsYard$Load;"⟩, 13), (⟨"CustomsYard", "takeAs", "(LCustomsYard$Load;I)I"⟩, 13), (⟨"CustomsYard$Piece", "declaration", "()I"⟩, 3), (⟨"CustomsYard", "lineFor", "(LCustomsYard$Load;)I"⟩, 13), (⟨"CustomsYardModel", "no", "(I)I"⟩, 19), (⟨"CustomsYardModel", "isLoad", "(I)Z"⟩, 19), (⟨"CustomsYardModel", "isPlace", "(II)Z"⟩, 19), (⟨"CustomsYardModel", "comes", "(II)I"⟩, 19), (⟨"CustomsYardModel", "weightOf", "(I)J"⟩, 19), (⟨"CustomsYardModel", "lay", "(I)V"⟩, 19), (⟨"CustomsYardModel", "next", "()I"⟩, 19), (⟨"CustomsYardModel", "lineOf", "(I)I"⟩, 19)]
theorem lw_r1 : ∀ q ∈ lw_privs_1, lw_okq q := List.forall_mem_cons.mpr ⟨lw_p0, List.forall_mem_cons.mpr ⟨lw_p1, List.forall_mem_cons.mpr ⟨lw_p2, List.forall_mem_cons.mpr ⟨lw_p3, List.forall_mem_cons.mpr ⟨lw_p4, List.forall_mem_cons.mpr ⟨lw_p5, List.forall_mem_cons.mpr ⟨lw_p6, List.forall_mem_cons.mpr ⟨lw_p7, List.forall_mem_cons.mpr ⟨lw_p8, List.forall_mem_cons.mpr ⟨lw_p9, List.forall_mem_cons.mpr ⟨lw_p10, List.forall_mem_cons.mpr ⟨lw_p11, List.forall_mem_cons.mpr ⟨lw_p12, List.forall_mem_cons.mpr ⟨lw_p13, fun _ h => absurd h List.not_mem_nil⟩⟩⟩⟩⟩⟩⟩⟩⟩⟩⟩⟩⟩⟩
def lw_privs : List (MethodName × Nat) := lw_privs_1
def lw_tbl : List Cond := k2_sels lw_privs ++ tables_1
theorem lw_privs_ok : ∀ q ∈ lw_privs, lw_okq q := lw_r1
/-! ===== BEGIN words of one list among another's, by their places ===== -/
theorem goodIn_r {big : List Cond} (ws : List Cond) (ps : List Nat) (hp : ws = ps.filterMap (fun i => big[i]?)) (h : ws.all goodWord = true) : GoodIn big ws := by
  intro w hw
  have h1 := List.all_eq_true.mp h w hw
  rw [hp] at hw
  obtain ⟨i, -, hi⟩ := List.mem_filterMap.mp hw
  have hm : w ∈ big := by first | exact List.mem_of_getElem? hi | exact List.getElem?_mem hi
  exact ⟨hm, good_of_word h1⟩
theorem goodIn_app {big a b : List Cond} (ha : GoodIn big a) (hb : GoodIn big b) : GoodIn big (a ++ b) := fun w h => (List.mem_append.mp h).elim (ha w) (hb w)
theorem goodIn_ca {big a b : List Cond} {c : Cond} (ha : GoodIn big (c :: a)) (hb : GoodIn big b) : GoodIn big (c :: (a ++ b)) := fun w h => (List.mem_cons.mp h).elim (fun e => ha w (List.mem_cons.mpr (Or.inl e))) (fun h => (List.mem_append.mp h).elim (fun h => ha w (List.mem_cons.mpr (Or.inr h))) (hb w))
theorem goodIn_sub {big ws : List Cond} (hm : ∀ w ∈ ws, w ∈ big) (h : ws.all goodWord = true) : GoodIn big ws := fun w hw => ⟨hm w hw, good_of_word (List.all_eq_true.mp h w hw)⟩
/-! ===== END ===== -/

/-! ===== BEGIN printed: names, fields, word lists, decode rows ===== -/
def RX0 : String := "CustomsYard$Load"
def TX0 : u_T := fun k => match k with
  | _ => ("", "", "", false)
def tyX0 : Nat → FieldType := fun k => match k with
  | _ => .int
abbrev wsX00 : List Cond := u_ws RX0 TX0 0
theorem nmX0 : ∀ a, a < 0 → ∀ b, b < 0 → a ≠ b → (TX0 a).2.1 ≠ (TX0 b).2.1 := by decide +kernel
theorem tyX0_ok : ∀ k, k < 0 → parseFieldDescriptor (TX0 k).2.2.1 = some (tyX0 k) := by decide +kernel
abbrev cX0_init : ByteArray := prog_2_method_1_code
def yX0_init : MethodName := ⟨RX0, "<init>", "(II)V"⟩
abbrev cX0_goesAs : ByteArray := prog_2_method_2_code
def yX0_goesAs : MethodName := ⟨RX0, "goesAs", "(I)Z"⟩
abbrev cX0_tally : ByteArray := prog_2_method_5_code
def yX0_tally : MethodName := ⟨RX0, "tally", "(II)I"⟩
def RX1 : String := "CustomsYard$Numbers"
def TX1 : u_T := fun k => match k with
  | 0 => ("CustomsYard$Load", "number", "I", true)
  | 1 => ("CustomsYard$Load", "sort", "I", true)
  | _ => ("CustomsYard$Numbers", "places", "[J", true)
def tyX1 : Nat → FieldType := fun k => match k with
  | 0 => .int
  | 1 => .int
  | _ => .array .long
abbrev wsX10 : List Cond := u_ws RX1 TX1 3
theorem nmX1 : ∀ a, a < 3 → ∀ b, b < 3 → a ≠ b → (TX1 a).2.1 ≠ (TX1 b).2.1 := by decide +kernel
theorem tyX1_ok : ∀ k, k < 3 → parseFieldDescriptor (TX1 k).2.2.1 = some (tyX1 k) := by decide +kernel
abbrev cX1_init : ByteArray := prog_3_method_1_code
def yX1_init : MethodName := ⟨RX1, "<init>", "(II[J)V"⟩
abbrev cX1_hasPlace : ByteArray := prog_3_method_2_code
def yX1_hasPlace : MethodName := ⟨RX1, "hasPlace", "(I)Z"⟩
abbrev cX1_comesAs : ByteArray := prog_3_method_3_code
def yX1_comesAs : MethodName := ⟨RX1, "comesAs", "(I)I"⟩
abbrev cX1_weigh : ByteArray := prog_3_method_4_code
def yX1_weigh : MethodName := ⟨RX1, "weigh", "(I)J"⟩
def RX2 : String := "CustomsYard$Piece"
def TX2 : u_T := fun k => match k with
  | 0 => ("CustomsYard$Load", "number", "I", true)
  | 1 => ("CustomsYard$Load", "sort", "I", true)
  | _ => ("CustomsYard$Piece", "told", "I", true)
def tyX2 : Nat → FieldType := fun k => match k with
  | 0 => .int
  | 1 => .int
  | _ => .int
abbrev wsX20 : List Cond := u_ws RX2 TX2 3
theorem nmX2 : ∀ a, a < 3 → ∀ b, b < 3 → a ≠ b → (TX2 a).2.1 ≠ (TX2 b).2.1 := by decide +kernel
theorem tyX2_ok : ∀ k, k < 3 → parseFieldDescriptor (TX2 k).2.2.1 = some (tyX2 k) := by decide +kernel
abbrev cX2_init : ByteArray := prog_4_method_1_code
def yX2_init : MethodName := ⟨RX2, "<init>", "(III)V"⟩
abbrev cX2_comesAs : ByteArray := prog_4_method_2_code
def yX2_comesAs : MethodName := ⟨RX2, "comesAs", "(I)I"⟩
abbrev cX2_declaration : ByteArray := prog_4_method_3_code
def yX2_declaration : MethodName := ⟨RX2, "declaration", "()I"⟩
abbrev cX2_weigh : ByteArray := prog_4_method_4_code
def yX2_weigh : MethodName := ⟨RX2, "weigh", "(I)J"⟩
def RX3 : String := "CustomsYard$Things"
def TX3 : u_T := fun k => match k with
  | 0 => ("CustomsYard$Load", "number", "I", true)
  | 1 => ("CustomsYard$Load", "sort", "I", true)
  | _ => ("CustomsYard$Things", "places", "[LCustomsYard$Load;", true)
def tyX3 : Nat → FieldType := fun k => match k with
  | 0 => .int
  | 1 => .int
  | _ => .array (.object "CustomsYard$Load")
abbrev wsX30 : List Cond := u_ws RX3 TX3 3
theorem nmX3 : ∀ a, a < 3 → ∀ b, b < 3 → a ≠ b → (TX3 a).2.1 ≠ (TX3 b).2.1 := by decide +kernel
theorem tyX3_ok : ∀ k, k < 3 → parseFieldDescriptor (TX3 k).2.2.1 = some (tyX3 k) := by decide +kernel
abbrev cX3_init : ByteArray := prog_5_method_1_code
def yX3_init : MethodName := ⟨RX3, "<init>", "(II[LCustomsYard$Load;)V"⟩
abbrev cX3_hasPlace : ByteArray := prog_5_method_2_code
def yX3_hasPlace : MethodName := ⟨RX3, "hasPlace", "(I)Z"⟩
abbrev cX3_viewAsked : ByteArray := prog_5_method_3_code
def yX3_viewAsked : MethodName := ⟨RX3, "viewAsked", "()I"⟩
abbrev cX3_viewKept : ByteArray := prog_5_method_4_code
def yX3_viewKept : MethodName := ⟨RX3, "viewKept", "()I"⟩
abbrev cX3_comesAs : ByteArray := prog_5_method_5_code
def yX3_comesAs : MethodName := ⟨RX3, "comesAs", "(I)I"⟩
abbrev cX3_weigh : ByteArray := prog_5_method_6_code
def yX3_weigh : MethodName := ⟨RX3, "weigh", "(I)J"⟩
abbrev cX3_tally : ByteArray := prog_5_method_7_code
def yX3_tally : MethodName := ⟨RX3, "tally", "(II)I"⟩
def RX4 : String := "CustomsYard"
def TX4 : u_T := fun k => match k with
  | 0 => ("CustomsYard", "loads", "[LCustomsYard$Load;", true)
  | 1 => ("CustomsYard", "loadCount", "I", false)
  | 2 => ("CustomsYard", "bays", "[LCustomsYard$Load;", true)
  | 3 => ("CustomsYard", "gateViews", "[I", true)
  | 4 => ("CustomsYard", "gateWeights", "[J", true)
  | 5 => ("CustomsYard", "lineViews", "[I", true)
  | 6 => ("CustomsYard", "lineRates", "[I", true)
  | 7 => ("CustomsYard", "lineCount", "I", false)
  | 8 => ("CustomsYard", "refusal", "I", false)
  | 9 => ("CustomsYard", "casts", "I", false)
  | 10 => ("CustomsYard", "indexes", "I", false)
  | 11 => ("CustomsYard", "stores", "I", false)
  | _ => ("CustomsYard", "turnedAway", "I", false)
def tyX4 : Nat → FieldType := fun k => match k with
  | 0 => .array (.object "CustomsYard$Load")
  | 1 => .int
  | 2 => .array (.object "CustomsYard$Load")
  | 3 => .array .int
  | 4 => .array .long
  | 5 => .array .int
  | 6 => .array .int
  | 7 => .int
  | 8 => .int
  | 9 => .int
  | 10 => .int
  | 11 => .int
  | _ => .int
abbrev wsX40 : List Cond := u_ws RX4 TX4 13
theorem nmX4 : ∀ a, a < 13 → ∀ b, b < 13 → a ≠ b → (TX4 a).2.1 ≠ (TX4 b).2.1 := by decide +kernel
theorem tyX4_ok : ∀ k, k < 13 → parseFieldDescriptor (TX4 k).2.2.1 = some (tyX4 k) := by decide +kernel
abbrev cX4_init : ByteArray := prog_1_method_1_code
def yX4_init : MethodName := ⟨RX4, "<init>", "()V"⟩
abbrev cX4_load : ByteArray := prog_1_method_2_code
def yX4_load : MethodName := ⟨RX4, "load", "(II)I"⟩
abbrev cX4_set : ByteArray := prog_1_method_3_code
def yX4_set : MethodName := ⟨RX4, "set", "(III)I"⟩
abbrev cX4_number : ByteArray := prog_1_method_4_code
def yX4_number : MethodName := ⟨RX4, "number", "(II)J"⟩
abbrev cX4_put : ByteArray := prog_1_method_5_code
def yX4_put : MethodName := ⟨RX4, "put", "(III)I"⟩
abbrev cX4_at : ByteArray := prog_1_method_6_code
def yX4_at : MethodName := ⟨RX4, "at", "(II)I"⟩
abbrev cX4_is : ByteArray := prog_1_method_7_code
def yX4_is : MethodName := ⟨RX4, "is", "(II)I"⟩
abbrev cX4_take : ByteArray := prog_1_method_8_code
def yX4_take : MethodName := ⟨RX4, "take", "(II)I"⟩
abbrev cX4_sort : ByteArray := prog_1_method_9_code
def yX4_sort : MethodName := ⟨RX4, "sort", "(I)I"⟩
abbrev cX4_weight : ByteArray := prog_1_method_10_code
def yX4_weight : MethodName := ⟨RX4, "weight", "(I)J"⟩
abbrev cX4_inside : ByteArray := prog_1_method_11_code
def yX4_inside : MethodName := ⟨RX4, "inside", "(II)I"⟩
abbrev cX4_hold : ByteArray := prog_1_method_12_code
def yX4_hold : MethodName := ⟨RX4, "hold", "(II)I"⟩
abbrev cX4_bay : ByteArray := prog_1_method_13_code
def yX4_bay : MethodName := ⟨RX4, "bay", "(II)I"⟩
abbrev cX4_gate : ByteArray := prog_1_method_14_code
def yX4_gate : MethodName := ⟨RX4, "gate", "(II)I"⟩
abbrev cX4_pass : ByteArray := prog_1_method_15_code
def yX4_pass : MethodName := ⟨RX4, "pass", "(II)I"⟩
abbrev cX4_passed : ByteArray := prog_1_method_16_code
def yX4_passed : MethodName := ⟨RX4, "passed", "(I)J"⟩
abbrev cX4_tariff : ByteArray := prog_1_method_17_code
def yX4_tariff : MethodName := ⟨RX4, "tariff", "(II)I"⟩
abbrev cX4_duty : ByteArray := prog_1_method_18_code
def yX4_duty : MethodName := ⟨RX4, "duty", "(I)I"⟩
abbrev cX4_line : ByteArray := prog_1_method_19_code
def yX4_line : MethodName := ⟨RX4, "line", "(I)I"⟩
abbrev cX4_refused : ByteArray := prog_1_method_20_code
def yX4_refused : MethodName := ⟨RX4, "refused", "()I"⟩
abbrev cX4_count : ByteArray := prog_1_method_21_code
def yX4_count : MethodName := ⟨RX4, "count", "(I)I"⟩
abbrev cX4_refuse : ByteArray := prog_1_method_22_code
def yX4_refuse : MethodName := ⟨RX4, "refuse", "(I)I"⟩
abbrev cX4_find : ByteArray := prog_1_method_23_code
def yX4_find : MethodName := ⟨RX4, "find", "(I)LCustomsYard$Load;"⟩
abbrev cX4_numbersWith : ByteArray := prog_1_method_24_code
def yX4_numbersWith : MethodName := ⟨RX4, "numbersWith", "(II)LCustomsYard$Numbers;"⟩
abbrev cX4_takeAs : ByteArray := prog_1_method_25_code
def yX4_takeAs : MethodName := ⟨RX4, "takeAs", "(LCustomsYard$Load;I)I"⟩
abbrev cX4_lineFor : ByteArray := prog_1_method_26_code
def yX4_lineFor : MethodName := ⟨RX4, "lineFor", "(LCustomsYard$Load;)I"⟩
abbrev cX4_numberOf : ByteArray := prog_1_method_27_code
def yX4_numberOf : MethodName := ⟨RX4, "numberOf", "(LCustomsYard$Load;)I"⟩
abbrev cX4_isView : ByteArray := prog_1_method_28_code
def yX4_isView : MethodName := ⟨RX4, "isView", "(I)Z"⟩
abbrev cX4_isBay : ByteArray := prog_1_method_29_code
def yX4_isBay : MethodName := ⟨RX4, "isBay", "(I)Z"⟩
abbrev cX4_isGate : ByteArray := prog_1_method_30_code
def yX4_isGate : MethodName := ⟨RX4, "isGate", "(I)Z"⟩
abbrev cX4_hasWeightTold : ByteArray := prog_1_method_31_code
def yX4_hasWeightTold : MethodName := ⟨RX4, "hasWeightTold", "(I)Z"⟩
abbrev cX4_mostOf : ByteArray := prog_1_method_32_code
def yX4_mostOf : MethodName := ⟨RX4, "mostOf", "(I)I"⟩
abbrev cX4_makeLoad : ByteArray := prog_1_method_33_code
def yX4_makeLoad : MethodName := ⟨RX4, "makeLoad", "(III)LCustomsYard$Load;"⟩
def RX5 : String := "CustomsYardModel"
def TX5 : u_T := fun k => match k with
  | 0 => ("CustomsYardModel", "loads", "I", false)
  | 1 => ("CustomsYardModel", "sorts", "[I", true)
  | 2 => ("CustomsYardModel", "sizes", "[I", true)
  | 3 => ("CustomsYardModel", "weights", "[I", true)
  | 4 => ("CustomsYardModel", "numbers", "[J", true)
  | 5 => ("CustomsYardModel", "things", "[I", true)
  | 6 => ("CustomsYardModel", "bays", "[I", true)
  | 7 => ("CustomsYardModel", "gates", "[I", true)
  | 8 => ("CustomsYardModel", "sums", "[J", true)
  | 9 => ("CustomsYardModel", "lines", "I", false)
  | 10 => ("CustomsYardModel", "views", "[I", true)
  | 11 => ("CustomsYardModel", "rates", "[I", true)
  | 12 => ("CustomsYardModel", "refused", "I", false)
  | 13 => ("CustomsYardModel", "casts", "I", false)
  | 14 => ("CustomsYardModel", "indexes", "I", false)
  | 15 => ("CustomsYardModel", "stores", "I", false)
  | 16 => ("CustomsYardModel", "away", "I", false)
  | 17 => ("CustomsYardModel", "pile", "[I", true)
  | _ => ("CustomsYardModel", "high", "I", false)
def tyX5 : Nat → FieldType := fun k => match k with
  | 0 => .int
  | 1 => .array .int
  | 2 => .array .int
  | 3 => .array .int
  | 4 => .array .long
  | 5 => .array .int
  | 6 => .array .int
  | 7 => .array .int
  | 8 => .array .long
  | 9 => .int
  | 10 => .array .int
  | 11 => .array .int
  | 12 => .int
  | 13 => .int
  | 14 => .int
  | 15 => .int
  | 16 => .int
  | 17 => .array .int
  | _ => .int
abbrev wsX50 : List Cond := u_ws RX5 TX5 19
theorem nmX5 : ∀ a, a < 19 → ∀ b, b < 19 → a ≠ b → (TX5 a).2.1 ≠ (TX5 b).2.1 := by decide +kernel
theorem tyX5_ok : ∀ k, k < 19 → parseFieldDescriptor (TX5 k).2.2.1 = some (tyX5 k) := by decide +kernel
abbrev cX5_init : ByteArray := prog_7_method_1_code
def yX5_init : MethodName := ⟨RX5, "<init>", "()V"⟩
abbrev cX5_isIn : ByteArray := prog_7_method_2_code
def yX5_isIn : MethodName := ⟨RX5, "isIn", "(III)Z"⟩
abbrev cX5_isLoad : ByteArray := prog_7_method_3_code
def yX5_isLoad : MethodName := ⟨RX5, "isLoad", "(I)Z"⟩
abbrev cX5_isView : ByteArray := prog_7_method_4_code
def yX5_isView : MethodName := ⟨RX5, "isView", "(I)Z"⟩
abbrev cX5_no : ByteArray := prog_7_method_5_code
def yX5_no : MethodName := ⟨RX5, "no", "(I)I"⟩
abbrev cX5_goes : ByteArray := prog_7_method_6_code
def yX5_goes : MethodName := ⟨RX5, "goes", "(II)Z"⟩
abbrev cX5_isSingle : ByteArray := prog_7_method_7_code
def yX5_isSingle : MethodName := ⟨RX5, "isSingle", "(I)Z"⟩
abbrev cX5_isOfNumbers : ByteArray := prog_7_method_8_code
def yX5_isOfNumbers : MethodName := ⟨RX5, "isOfNumbers", "(I)Z"⟩
abbrev cX5_isOfThings : ByteArray := prog_7_method_9_code
def yX5_isOfThings : MethodName := ⟨RX5, "isOfThings", "(I)Z"⟩
abbrev cX5_load : ByteArray := prog_7_method_10_code
def yX5_load : MethodName := ⟨RX5, "load", "(II)I"⟩
abbrev cX5_isPlace : ByteArray := prog_7_method_11_code
def yX5_isPlace : MethodName := ⟨RX5, "isPlace", "(II)Z"⟩
abbrev cX5_set : ByteArray := prog_7_method_12_code
def yX5_set : MethodName := ⟨RX5, "set", "(III)I"⟩
abbrev cX5_number : ByteArray := prog_7_method_13_code
def yX5_number : MethodName := ⟨RX5, "number", "(II)J"⟩
abbrev cX5_wanted : ByteArray := prog_7_method_14_code
def yX5_wanted : MethodName := ⟨RX5, "wanted", "(I)I"⟩
abbrev cX5_had : ByteArray := prog_7_method_15_code
def yX5_had : MethodName := ⟨RX5, "had", "(I)I"⟩
abbrev cX5_put : ByteArray := prog_7_method_16_code
def yX5_put : MethodName := ⟨RX5, "put", "(III)I"⟩
abbrev cX5_at : ByteArray := prog_7_method_17_code
def yX5_at : MethodName := ⟨RX5, "at", "(II)I"⟩
abbrev cX5_is : ByteArray := prog_7_method_18_code
def yX5_is : MethodName := ⟨RX5, "is", "(II)I"⟩
abbrev cX5_comes : ByteArray := prog_7_method_19_code
def yX5_comes : MethodName := ⟨RX5, "comes", "(II)I"⟩
abbrev cX5_take : ByteArray := prog_7_method_20_code
def yX5_take : MethodName := ⟨RX5, "take", "(II)I"⟩
abbrev cX5_sort : ByteArray := prog_7_method_21_code
def yX5_sort : MethodName := ⟨RX5, "sort", "(I)I"⟩
abbrev cX5_lay : ByteArray := prog_7_method_22_code
def yX5_lay : MethodName := ⟨RX5, "lay", "(I)V"⟩
abbrev cX5_next : ByteArray := prog_7_method_23_code
def yX5_next : MethodName := ⟨RX5, "next", "()I"⟩
abbrev cX5_weightOf : ByteArray := prog_7_method_24_code
def yX5_weightOf : MethodName := ⟨RX5, "weightOf", "(I)J"⟩
abbrev cX5_weight : ByteArray := prog_7_method_25_code
def yX5_weight : MethodName := ⟨RX5, "weight", "(I)J"⟩
abbrev cX5_inside : ByteArray := prog_7_method_26_code
def yX5_inside : MethodName := ⟨RX5, "inside", "(II)I"⟩
abbrev cX5_hold : ByteArray := prog_7_method_27_code
def yX5_hold : MethodName := ⟨RX5, "hold", "(II)I"⟩
abbrev cX5_bay : ByteArray := prog_7_method_28_code
def yX5_bay : MethodName := ⟨RX5, "bay", "(II)I"⟩
abbrev cX5_isGate : ByteArray := prog_7_method_29_code
def yX5_isGate : MethodName := ⟨RX5, "isGate", "(I)Z"⟩
abbrev cX5_gate : ByteArray := prog_7_method_30_code
def yX5_gate : MethodName := ⟨RX5, "gate", "(II)I"⟩
abbrev cX5_pass : ByteArray := prog_7_method_31_code
def yX5_pass : MethodName := ⟨RX5, "pass", "(II)I"⟩
abbrev cX5_passed : ByteArray := prog_7_method_32_code
def yX5_passed : MethodName := ⟨RX5, "passed", "(I)J"⟩
abbrev cX5_tariff : ByteArray := prog_7_method_33_code
def yX5_tariff : MethodName := ⟨RX5, "tariff", "(II)I"⟩
abbrev cX5_lineOf : ByteArray := prog_7_method_34_code
def yX5_lineOf : MethodName := ⟨RX5, "lineOf", "(I)I"⟩
abbrev cX5_duty : ByteArray := prog_7_method_35_code
def yX5_duty : MethodName := ⟨RX5, "duty", "(I)I"⟩
abbrev cX5_line : ByteArray := prog_7_method_36_code
def yX5_line : MethodName := ⟨RX5, "line", "(I)I"⟩
abbrev cX5_refused : ByteArray := prog_7_method_37_code
def yX5_refused : MethodName := ⟨RX5, "refused", "()I"⟩
abbrev cX5_count : ByteArray := prog_7_method_38_code
def yX5_count : MethodName := ⟨RX5, "count", "(I)I"⟩
def RJ7 : String := "java/util/Arrays"
def TJ7 : u_T := fun k => match k with
  | _ => ("", "", "", false)
def tyJ7 : Nat → FieldType := fun k => match k with
  | _ => .int
abbrev wsJ70 : List Cond := u_ws RJ7 TJ7 0
theorem nmJ7 : ∀ a, a < 0 → ∀ b, b < 0 → a ≠ b → (TJ7 a).2.1 ≠ (TJ7 b).2.1 := by decide +kernel
theorem tyJ7_ok : ∀ k, k < 0 → parseFieldDescriptor (TJ7 k).2.2.1 = some (tyJ7 k) := by decide +kernel
abbrev cJ7_fill_53178 : ByteArray := prog_8_method_103_code
def yJ7_fill_53178 : MethodName := ⟨RJ7, "fill", "([II)V"⟩
def RL : String := "CustomsYardLaw"
abbrev cL_law : ByteArray := code
def yL_law : MethodName := ⟨RL, "law", "([I)Z"⟩
def wsX0_init : List Cond := .code yX0_init cX0_init 3 none :: ([.methodLink RX0 3 objectInit, .instanceMethod objectInit, .code objectInit ⟨#[0xb1]⟩ 1 none, .fieldLink RX0 9 "CustomsYard$Load" "number" "I", .fieldLink RX0 15 "CustomsYard$Load" "sort" "I"] ++ wsX10 ++ wsX20 ++ wsX30)
def wsX0_goesAs : List Cond := .code yX0_goesAs cX0_goesAs 2 (some .boolean) :: ([.fieldLink RX0 15 "CustomsYard$Load" "sort" "I"] ++ wsX10 ++ wsX20 ++ wsX30)
def wsX0_tally : List Cond := .code yX0_tally cX0_tally 3 (some .int) :: ([.methodLink RX0 18 ⟨"CustomsYard$Load", "goesAs", "(I)Z"⟩, .sameMethod "CustomsYard$Load" "CustomsYard$Load" "goesAs" "(I)Z", .selects RX1 ⟨"CustomsYard$Load", "goesAs", "(I)Z"⟩ yX0_goesAs, .instanceMethod yX0_goesAs, .initialized RX0, .code yX0_goesAs cX0_goesAs 2 (some .boolean), .fieldLink RX0 15 "CustomsYard$Load" "sort" "I", .selects RX2 ⟨"CustomsYard$Load", "goesAs", "(I)Z"⟩ yX0_goesAs, .selects RX3 ⟨"CustomsYard$Load", "goesAs", "(I)Z"⟩ yX0_goesAs] ++ wsX10 ++ wsX20 ++ wsX30)
def wsX1_init : List Cond := .code yX1_init cX1_init 4 none :: ([.fieldLink RX1 7 "CustomsYard$Numbers" "places" "[J", .methodLink RX1 1 yX0_init, .instanceMethod yX0_init, .initialized RX0, .code yX0_init cX0_init 3 none, .methodLink RX0 3 objectInit, .instanceMethod objectInit, .code objectInit ⟨#[0xb1]⟩ 1 none, .fieldLink RX0 9 "CustomsYard$Load" "number" "I", .fieldLink RX0 15 "CustomsYard$Load" "sort" "I"] ++ wsX10 ++ wsX20 ++ wsX30)
def wsX1_hasPlace : List Cond := .code yX1_hasPlace cX1_hasPlace 2 (some .boolean) :: ([.fieldLink RX1 7 "CustomsYard$Numbers" "places" "[J"] ++ wsX10)
def wsX1_comesAs : List Cond := .code yX1_comesAs cX1_comesAs 2 (some .int) :: ([.fieldLink RX1 7 "CustomsYard$Numbers" "places" "[J"] ++ wsX10)
def wsX1_weigh : List Cond := .code yX1_weigh cX1_weigh 9 (some .long) :: ([.fieldLink RX1 7 "CustomsYard$Numbers" "places" "[J"] ++ wsX10)
def wsX2_init : List Cond := .code yX2_init cX2_init 4 none :: ([.fieldLink RX2 9 "CustomsYard$Piece" "told" "I", .methodLink RX2 3 yX0_init, .instanceMethod yX0_init, .initialized RX0, .code yX0_init cX0_init 3 none, .methodLink RX0 3 objectInit, .instanceMethod objectInit, .code objectInit ⟨#[0xb1]⟩ 1 none, .fieldLink RX0 9 "CustomsYard$Load" "number" "I", .fieldLink RX0 15 "CustomsYard$Load" "sort" "I"] ++ wsX20 ++ wsX10 ++ wsX30)
def wsX2_declaration : List Cond := .code yX2_declaration cX2_declaration 1 (some .int) :: ([.fieldLink RX2 19 "CustomsYard$Piece" "sort" "I", .sameField "CustomsYard$Piece" "CustomsYard$Load" "sort" "I", .fieldLink RX2 9 "CustomsYard$Piece" "told" "I"] ++ wsX10 ++ wsX20 ++ wsX30)
def wsX2_comesAs : List Cond := .code yX2_comesAs cX2_comesAs 2 (some .int) :: ([.fieldLink RX2 9 "CustomsYard$Piece" "told" "I", .methodLink RX2 15 yX2_declaration, .instanceMethod yX2_declaration, .selects RX2 yX2_declaration yX2_declaration, .initialized RX2, .code yX2_declaration cX2_declaration 1 (some .int), .fieldLink RX2 19 "CustomsYard$Piece" "sort" "I", .sameField "CustomsYard$Piece" "CustomsYard$Load" "sort" "I"] ++ wsX20 ++ wsX10 ++ wsX30)
def wsX2_weigh : List Cond := .code yX2_weigh cX2_weigh 2 (some .long) :: ([.fieldLink RX2 9 "CustomsYard$Piece" "told" "I"] ++ wsX20)
def wsX3_init : List Cond := .code yX3_init cX3_init 4 none :: ([.fieldLink RX3 9 "CustomsYard$Things" "places" "[LCustomsYard$Load;", .methodLink RX3 3 yX0_init, .instanceMethod yX0_init, .initialized RX0, .code yX0_init cX0_init 3 none, .methodLink RX0 3 objectInit, .instanceMethod objectInit, .code objectInit ⟨#[0xb1]⟩ 1 none, .fieldLink RX0 9 "CustomsYard$Load" "number" "I", .fieldLink RX0 15 "CustomsYard$Load" "sort" "I"] ++ wsX30 ++ wsX10 ++ wsX20)
def wsX3_hasPlace : List Cond := .code yX3_hasPlace cX3_hasPlace 2 (some .boolean) :: ([.fieldLink RX3 9 "CustomsYard$Things" "places" "[LCustomsYard$Load;"] ++ wsX30)
def wsX3_viewAsked : List Cond := .code yX3_viewAsked cX3_viewAsked 1 (some .int) :: ([.fieldLink RX3 15 "CustomsYard$Things" "sort" "I", .sameField "CustomsYard$Things" "CustomsYard$Load" "sort" "I"] ++ wsX10 ++ wsX20 ++ wsX30)
def wsX3_viewKept : List Cond := .code yX3_viewKept cX3_viewKept 1 (some .int) :: ([.fieldLink RX3 15 "CustomsYard$Things" "sort" "I", .sameField "CustomsYard$Things" "CustomsYard$Load" "sort" "I", .methodLink RX3 19 yX3_viewAsked, .instanceMethod yX3_viewAsked, .selects RX3 yX3_viewAsked yX3_viewAsked, .initialized RX3, .code yX3_viewAsked cX3_viewAsked 1 (some .int)] ++ wsX10 ++ wsX20 ++ wsX30)
def wsX3_comesAs : List Cond := .code yX3_comesAs cX3_comesAs 2 (some .int) :: ([.fieldLink RX3 9 "CustomsYard$Things" "places" "[LCustomsYard$Load;"] ++ wsX30)
def wsX3_weigh : List Cond := .code yX3_weigh cX3_weigh 8 (some .long) :: ([.fieldLink RX3 9 "CustomsYard$Things" "places" "[LCustomsYard$Load;", .methodLink RX3 23 ⟨"CustomsYard$Load", "weigh", "(I)J"⟩, .sameMethod "CustomsYard$Load" "CustomsYard$Load" "weigh" "(I)J", .selects RX1 ⟨"CustomsYard$Load", "weigh", "(I)J"⟩ yX1_weigh, .instanceMethod yX1_weigh, .initialized RX1, .code yX1_weigh cX1_weigh 9 (some .long), .fieldLink RX1 7 "CustomsYard$Numbers" "places" "[J", .selects RX2 ⟨"CustomsYard$Load", "weigh", "(I)J"⟩ yX2_weigh, .instanceMethod yX2_weigh, .initialized RX2, .code yX2_weigh cX2_weigh 2 (some .long), .fieldLink RX2 9 "CustomsYard$Piece" "told" "I", .selects RX3 ⟨"CustomsYard$Load", "weigh", "(I)J"⟩ yX3_weigh, .instanceMethod yX3_weigh, .initialized RX3] ++ wsX30 ++ wsX10 ++ wsX20)
def wsX3_tally : List Cond := .code yX3_tally cX3_tally 8 (some .int) :: ([.fieldLink RX3 9 "CustomsYard$Things" "places" "[LCustomsYard$Load;", .methodLink RX3 27 ⟨"CustomsYard$Things", "goesAs", "(I)Z"⟩, .sameMethod "CustomsYard$Things" "CustomsYard$Load" "goesAs" "(I)Z", .selects RX3 ⟨"CustomsYard$Things", "goesAs", "(I)Z"⟩ yX0_goesAs, .instanceMethod yX0_goesAs, .initialized RX0, .code yX0_goesAs cX0_goesAs 2 (some .boolean), .fieldLink RX0 15 "CustomsYard$Load" "sort" "I", .methodLink RX3 31 ⟨"CustomsYard$Load", "tally", "(II)I"⟩, .sameMethod "CustomsYard$Load" "CustomsYard$Load" "tally" "(II)I", .selects RX1 ⟨"CustomsYard$Load", "tally", "(II)I"⟩ yX0_tally, .instanceMethod yX0_tally, .code yX0_tally cX0_tally 3 (some .int), .methodLink RX0 18 ⟨"CustomsYard$Load", "goesAs", "(I)Z"⟩, .sameMethod "CustomsYard$Load" "CustomsYard$Load" "goesAs" "(I)Z", .selects RX1 ⟨"CustomsYard$Load", "goesAs", "(I)Z"⟩ yX0_goesAs, .selects RX2 ⟨"CustomsYard$Load", "goesAs", "(I)Z"⟩ yX0_goesAs, .selects RX3 ⟨"CustomsYard$Load", "goesAs", "(I)Z"⟩ yX0_goesAs, .selects RX2 ⟨"CustomsYard$Load", "tally", "(II)I"⟩ yX0_tally, .instanceMethod ⟨"CustomsYard$Load", "tally", "(II)I"⟩, .selects RX3 ⟨"CustomsYard$Load", "tally", "(II)I"⟩ yX3_tally, .instanceMethod yX3_tally, .initialized RX3] ++ wsX30 ++ wsX10 ++ wsX20)
def wsJ7_fill_53178 : List Cond := .code yJ7_fill_53178 cJ7_fill_53178 4 none :: ([])
def wsX4_init : List Cond := .code yX4_init cX4_init 1 none :: ([.methodLink RX4 1 objectInit, .instanceMethod objectInit, .code objectInit ⟨#[0xb1]⟩ 1 none, .classLink RX4 9 RX0, .fieldLink RX4 11 "CustomsYard" "loads" "[LCustomsYard$Load;", .fieldLink RX4 15 "CustomsYard" "bays" "[LCustomsYard$Load;", .arrayClass .int, .fieldLink RX4 18 "CustomsYard" "gateViews" "[I", .arrayClass .long, .fieldLink RX4 22 "CustomsYard" "gateWeights" "[J", .fieldLink RX4 26 "CustomsYard" "lineViews" "[I", .fieldLink RX4 29 "CustomsYard" "lineRates" "[I", .methodLink RX4 32 yJ7_fill_53178, .static yJ7_fill_53178, .initialized RJ7, .code yJ7_fill_53178 cJ7_fill_53178 4 none] ++ wsX40)
def wsX4_hasWeightTold : List Cond := .code yX4_hasWeightTold cX4_hasWeightTold 1 (some .boolean) :: ([])
def wsX4_mostOf : List Cond := .code yX4_mostOf cX4_mostOf 1 (some .int) :: ([.methodLink RX4 141 yX4_hasWeightTold, .static yX4_hasWeightTold, .initialized RX4, .code yX4_hasWeightTold cX4_hasWeightTold 1 (some .boolean)])
def wsX4_refuse : List Cond := .code yX4_refuse cX4_refuse 2 (some .int) :: ([.fieldLink RX4 38 "CustomsYard" "refusal" "I", .fieldLink RX4 128 "CustomsYard" "casts" "I", .fieldLink RX4 131 "CustomsYard" "indexes" "I", .fieldLink RX4 134 "CustomsYard" "stores" "I"] ++ wsX40)
def wsX4_makeLoad_r1 : List Cond := [Cond.classLink RX4 144 RX2, Cond.instantiable RX2 3, Cond.initialized RX2, Cond.classLink RX4 61 RX1, Cond.instantiable RX1 3, Cond.initialized RX1, Cond.arrayClass .long, Cond.classLink RX4 72 RX3, Cond.instantiable RX3 3, Cond.initialized RX3, Cond.classLink RX4 9 RX0, Cond.methodLink RX4 141 yX4_hasWeightTold, Cond.static yX4_hasWeightTold, Cond.initialized RX4, Cond.code yX4_hasWeightTold cX4_hasWeightTold 1 (some .boolean), Cond.methodLink RX4 146 yX2_init, Cond.instanceMethod yX2_init, Cond.code yX2_init cX2_init 4 none, Cond.fieldLink RX2 9 "CustomsYard$Piece" "told" "I", Cond.methodLink RX2 3 yX0_init, Cond.instanceMethod yX0_init, Cond.initialized RX0, Cond.code yX0_init cX0_init 3 none, Cond.methodLink RX0 3 objectInit]
def wsX4_makeLoad_r2 : List Cond := [Cond.instanceMethod objectInit, Cond.code objectInit ⟨#[0xb1]⟩ 1 none, Cond.fieldLink RX0 9 "CustomsYard$Load" "number" "I", Cond.fieldLink RX0 15 "CustomsYard$Load" "sort" "I", Cond.methodLink RX4 149 yX1_init, Cond.instanceMethod yX1_init, Cond.code yX1_init cX1_init 4 none, Cond.fieldLink RX1 7 "CustomsYard$Numbers" "places" "[J", Cond.methodLink RX1 1 yX0_init, Cond.methodLink RX4 152 yX3_init, Cond.instanceMethod yX3_init, Cond.code yX3_init cX3_init 4 none, Cond.fieldLink RX3 9 "CustomsYard$Things" "places" "[LCustomsYard$Load;", Cond.methodLink RX3 3 yX0_init]
def wsX4_makeLoad : List Cond := .code yX4_makeLoad cX4_makeLoad 3 (some (.object "CustomsYard$Load")) :: ((wsX4_makeLoad_r1 ++ wsX4_makeLoad_r2) ++ wsX20 ++ wsX10 ++ wsX30)
def wsX4_load_r1 : List Cond := [Cond.fieldLink RX4 38 "CustomsYard" "refusal" "I", Cond.fieldLink RX4 49 "CustomsYard" "loadCount" "I", Cond.fieldLink RX4 11 "CustomsYard" "loads" "[LCustomsYard$Load;", Cond.methodLink RX4 42 yX4_mostOf, Cond.static yX4_mostOf, Cond.initialized RX4, Cond.code yX4_mostOf cX4_mostOf 1 (some .int), Cond.methodLink RX4 141 yX4_hasWeightTold, Cond.static yX4_hasWeightTold, Cond.code yX4_hasWeightTold cX4_hasWeightTold 1 (some .boolean), Cond.methodLink RX4 46 yX4_refuse, Cond.instanceMethod yX4_refuse, Cond.selects RX4 yX4_refuse yX4_refuse, Cond.code yX4_refuse cX4_refuse 2 (some .int), Cond.fieldLink RX4 128 "CustomsYard" "casts" "I", Cond.fieldLink RX4 131 "CustomsYard" "indexes" "I", Cond.fieldLink RX4 134 "CustomsYard" "stores" "I", Cond.methodLink RX4 52 yX4_makeLoad, Cond.static yX4_makeLoad, Cond.code yX4_makeLoad cX4_makeLoad 3 (some (.object "CustomsYard$Load")), Cond.classLink RX4 144 RX2, Cond.instantiable RX2 3, Cond.initialized RX2, Cond.classLink RX4 61 RX1]
def wsX4_load_r2 : List Cond := [Cond.instantiable RX1 3, Cond.initialized RX1, Cond.arrayClass .long, Cond.classLink RX4 72 RX3, Cond.instantiable RX3 3, Cond.initialized RX3, Cond.classLink RX4 9 RX0, Cond.methodLink RX4 146 yX2_init, Cond.instanceMethod yX2_init, Cond.code yX2_init cX2_init 4 none, Cond.fieldLink RX2 9 "CustomsYard$Piece" "told" "I", Cond.methodLink RX2 3 yX0_init, Cond.instanceMethod yX0_init, Cond.initialized RX0, Cond.code yX0_init cX0_init 3 none, Cond.methodLink RX0 3 objectInit, Cond.instanceMethod objectInit, Cond.code objectInit ⟨#[0xb1]⟩ 1 none, Cond.fieldLink RX0 9 "CustomsYard$Load" "number" "I", Cond.fieldLink RX0 15 "CustomsYard$Load" "sort" "I", Cond.methodLink RX4 149 yX1_init, Cond.instanceMethod yX1_init, Cond.code yX1_init cX1_init 4 none, Cond.fieldLink RX1 7 "CustomsYard$Numbers" "places" "[J"]
def wsX4_load_r3 : List Cond := [Cond.methodLink RX1 1 yX0_init, Cond.methodLink RX4 152 yX3_init, Cond.instanceMethod yX3_init, Cond.code yX3_init cX3_init 4 none, Cond.fieldLink RX3 9 "CustomsYard$Things" "places" "[LCustomsYard$Load;", Cond.methodLink RX3 3 yX0_init]
def wsX4_load : List Cond := .code yX4_load cX4_load 4 (some .int) :: ((wsX4_load_r1 ++ (wsX4_load_r2 ++ wsX4_load_r3)) ++ wsX40 ++ wsX20 ++ wsX10 ++ wsX30)
def wsX4_find : List Cond := .code yX4_find cX4_find 2 (some (.object "CustomsYard$Load")) :: ([.fieldLink RX4 11 "CustomsYard" "loads" "[LCustomsYard$Load;"] ++ wsX40)
def wsX4_numbersWith : List Cond := .code yX4_numbersWith cX4_numbersWith 5 (some (.object "CustomsYard$Numbers")) :: ([.classLink RX4 61 "CustomsYard$Numbers", .methodLink RX4 68 yX4_find, .instanceMethod yX4_find, .selects RX4 yX4_find yX4_find, .initialized RX4, .code yX4_find cX4_find 2 (some (.object "CustomsYard$Load")), .fieldLink RX4 11 "CustomsYard" "loads" "[LCustomsYard$Load;", .methodLink RX4 46 yX4_refuse, .instanceMethod yX4_refuse, .selects RX4 yX4_refuse yX4_refuse, .code yX4_refuse cX4_refuse 2 (some .int), .fieldLink RX4 38 "CustomsYard" "refusal" "I", .fieldLink RX4 128 "CustomsYard" "casts" "I", .fieldLink RX4 131 "CustomsYard" "indexes" "I", .fieldLink RX4 134 "CustomsYard" "stores" "I", .methodLink RX4 137 yX1_hasPlace, .instanceMethod yX1_hasPlace, .selects RX1 yX1_hasPlace yX1_hasPlace, .initialized RX1, .code yX1_hasPlace cX1_hasPlace 2 (some .boolean), .fieldLink RX1 7 "CustomsYard$Numbers" "places" "[J"] ++ wsX40 ++ wsX10)
def wsX4_set_r1 : List Cond := [Cond.fieldLink RX4 38 "CustomsYard" "refusal" "I", Cond.fieldLink RX4 60 "CustomsYard$Numbers" "places" "[J", Cond.fieldLink RX4 65 "CustomsYard$Numbers" "sort" "I", Cond.sameField "CustomsYard$Numbers" "CustomsYard$Load" "sort" "I", Cond.methodLink RX4 56 yX4_numbersWith, Cond.instanceMethod yX4_numbersWith, Cond.selects RX4 yX4_numbersWith yX4_numbersWith, Cond.initialized RX4, Cond.code yX4_numbersWith cX4_numbersWith 5 (some (.object "CustomsYard$Numbers")), Cond.classLink RX4 61 "CustomsYard$Numbers", Cond.methodLink RX4 68 yX4_find, Cond.instanceMethod yX4_find, Cond.selects RX4 yX4_find yX4_find, Cond.code yX4_find cX4_find 2 (some (.object "CustomsYard$Load")), Cond.fieldLink RX4 11 "CustomsYard" "loads" "[LCustomsYard$Load;", Cond.methodLink RX4 46 yX4_refuse, Cond.instanceMethod yX4_refuse, Cond.selects RX4 yX4_refuse yX4_refuse, Cond.code yX4_refuse cX4_refuse 2 (some .int), Cond.fieldLink RX4 128 "CustomsYard" "casts" "I", Cond.fieldLink RX4 131 "CustomsYard" "indexes" "I", Cond.fieldLink RX4 134 "CustomsYard" "stores" "I", Cond.methodLink RX4 137 yX1_hasPlace, Cond.instanceMethod yX1_hasPlace]
def wsX4_set_r2 : List Cond := [Cond.selects RX1 yX1_hasPlace yX1_hasPlace, Cond.initialized RX1, Cond.code yX1_hasPlace cX1_hasPlace 2 (some .boolean), Cond.fieldLink RX1 7 "CustomsYard$Numbers" "places" "[J"]
def wsX4_set : List Cond := .code yX4_set cX4_set 5 (some .int) :: ((wsX4_set_r1 ++ wsX4_set_r2) ++ wsX40 ++ wsX10 ++ wsX20 ++ wsX30)
def wsX4_number_r1 : List Cond := [Cond.fieldLink RX4 38 "CustomsYard" "refusal" "I", Cond.fieldLink RX4 60 "CustomsYard$Numbers" "places" "[J", Cond.methodLink RX4 56 yX4_numbersWith, Cond.instanceMethod yX4_numbersWith, Cond.selects RX4 yX4_numbersWith yX4_numbersWith, Cond.initialized RX4, Cond.code yX4_numbersWith cX4_numbersWith 5 (some (.object "CustomsYard$Numbers")), Cond.classLink RX4 61 "CustomsYard$Numbers", Cond.methodLink RX4 68 yX4_find, Cond.instanceMethod yX4_find, Cond.selects RX4 yX4_find yX4_find, Cond.code yX4_find cX4_find 2 (some (.object "CustomsYard$Load")), Cond.fieldLink RX4 11 "CustomsYard" "loads" "[LCustomsYard$Load;", Cond.methodLink RX4 46 yX4_refuse, Cond.instanceMethod yX4_refuse, Cond.selects RX4 yX4_refuse yX4_refuse, Cond.code yX4_refuse cX4_refuse 2 (some .int), Cond.fieldLink RX4 128 "CustomsYard" "casts" "I", Cond.fieldLink RX4 131 "CustomsYard" "indexes" "I", Cond.fieldLink RX4 134 "CustomsYard" "stores" "I", Cond.methodLink RX4 137 yX1_hasPlace, Cond.instanceMethod yX1_hasPlace, Cond.selects RX1 yX1_hasPlace yX1_hasPlace, Cond.initialized RX1]
def wsX4_number_r2 : List Cond := [Cond.code yX1_hasPlace cX1_hasPlace 2 (some .boolean), Cond.fieldLink RX1 7 "CustomsYard$Numbers" "places" "[J"]
def wsX4_number : List Cond := .code yX4_number cX4_number 4 (some .long) :: ((wsX4_number_r1 ++ wsX4_number_r2) ++ wsX40 ++ wsX10)
def wsX4_put_r1 : List Cond := [Cond.fieldLink RX4 38 "CustomsYard" "refusal" "I", Cond.classLink RX4 72 "CustomsYard$Things", Cond.fieldLink RX4 88 "CustomsYard$Things" "places" "[LCustomsYard$Load;", Cond.methodLink RX4 68 yX4_find, Cond.instanceMethod yX4_find, Cond.selects RX4 yX4_find yX4_find, Cond.initialized RX4, Cond.code yX4_find cX4_find 2 (some (.object "CustomsYard$Load")), Cond.fieldLink RX4 11 "CustomsYard" "loads" "[LCustomsYard$Load;", Cond.methodLink RX4 46 yX4_refuse, Cond.instanceMethod yX4_refuse, Cond.selects RX4 yX4_refuse yX4_refuse, Cond.code yX4_refuse cX4_refuse 2 (some .int), Cond.fieldLink RX4 128 "CustomsYard" "casts" "I", Cond.fieldLink RX4 131 "CustomsYard" "indexes" "I", Cond.fieldLink RX4 134 "CustomsYard" "stores" "I", Cond.methodLink RX4 74 yX3_viewAsked, Cond.instanceMethod yX3_viewAsked, Cond.selects RX3 yX3_viewAsked yX3_viewAsked, Cond.initialized RX3, Cond.code yX3_viewAsked cX3_viewAsked 1 (some .int), Cond.fieldLink RX3 15 "CustomsYard$Things" "sort" "I", Cond.sameField "CustomsYard$Things" "CustomsYard$Load" "sort" "I", Cond.methodLink RX4 78 ⟨"CustomsYard$Load", "goesAs", "(I)Z"⟩]
def wsX4_put_r2 : List Cond := [Cond.sameMethod "CustomsYard$Load" "CustomsYard$Load" "goesAs" "(I)Z", Cond.selects RX1 ⟨"CustomsYard$Load", "goesAs", "(I)Z"⟩ yX0_goesAs, Cond.instanceMethod yX0_goesAs, Cond.initialized RX0, Cond.code yX0_goesAs cX0_goesAs 2 (some .boolean), Cond.fieldLink RX0 15 "CustomsYard$Load" "sort" "I", Cond.selects RX2 ⟨"CustomsYard$Load", "goesAs", "(I)Z"⟩ yX0_goesAs, Cond.selects RX3 ⟨"CustomsYard$Load", "goesAs", "(I)Z"⟩ yX0_goesAs, Cond.methodLink RX4 82 yX3_hasPlace, Cond.instanceMethod yX3_hasPlace, Cond.selects RX3 yX3_hasPlace yX3_hasPlace, Cond.code yX3_hasPlace cX3_hasPlace 2 (some .boolean), Cond.fieldLink RX3 9 "CustomsYard$Things" "places" "[LCustomsYard$Load;", Cond.methodLink RX4 85 yX3_viewKept, Cond.instanceMethod yX3_viewKept, Cond.selects RX3 yX3_viewKept yX3_viewKept, Cond.code yX3_viewKept cX3_viewKept 1 (some .int), Cond.methodLink RX3 19 yX3_viewAsked]
def wsX4_put : List Cond := .code yX4_put cX4_put 7 (some .int) :: ((wsX4_put_r1 ++ wsX4_put_r2) ++ wsX40 ++ wsX30 ++ wsX10 ++ wsX20)
def wsX4_numberOf : List Cond := .code yX4_numberOf cX4_numberOf 1 (some .int) :: ([.fieldLink RX4 138 "CustomsYard$Load" "number" "I"] ++ wsX10 ++ wsX20 ++ wsX30)
def wsX4_at_r1 : List Cond := [Cond.fieldLink RX4 38 "CustomsYard" "refusal" "I", Cond.classLink RX4 72 "CustomsYard$Things", Cond.fieldLink RX4 88 "CustomsYard$Things" "places" "[LCustomsYard$Load;", Cond.methodLink RX4 68 yX4_find, Cond.instanceMethod yX4_find, Cond.selects RX4 yX4_find yX4_find, Cond.initialized RX4, Cond.code yX4_find cX4_find 2 (some (.object "CustomsYard$Load")), Cond.fieldLink RX4 11 "CustomsYard" "loads" "[LCustomsYard$Load;", Cond.methodLink RX4 46 yX4_refuse, Cond.instanceMethod yX4_refuse, Cond.selects RX4 yX4_refuse yX4_refuse, Cond.code yX4_refuse cX4_refuse 2 (some .int), Cond.fieldLink RX4 128 "CustomsYard" "casts" "I", Cond.fieldLink RX4 131 "CustomsYard" "indexes" "I", Cond.fieldLink RX4 134 "CustomsYard" "stores" "I", Cond.methodLink RX4 82 yX3_hasPlace, Cond.instanceMethod yX3_hasPlace, Cond.selects RX3 yX3_hasPlace yX3_hasPlace, Cond.initialized RX3, Cond.code yX3_hasPlace cX3_hasPlace 2 (some .boolean), Cond.fieldLink RX3 9 "CustomsYard$Things" "places" "[LCustomsYard$Load;", Cond.methodLink RX4 90 yX4_numberOf, Cond.static yX4_numberOf]
def wsX4_at_r2 : List Cond := [Cond.code yX4_numberOf cX4_numberOf 1 (some .int), Cond.fieldLink RX4 138 "CustomsYard$Load" "number" "I"]
def wsX4_at : List Cond := .code yX4_at cX4_at 5 (some .int) :: ((wsX4_at_r1 ++ wsX4_at_r2) ++ wsX40 ++ wsX30 ++ wsX10 ++ wsX20)
def wsX4_isView : List Cond := .code yX4_isView cX4_isView 1 (some .boolean) :: ([])
def wsX4_is_r1 : List Cond := [Cond.fieldLink RX4 38 "CustomsYard" "refusal" "I", Cond.methodLink RX4 68 yX4_find, Cond.instanceMethod yX4_find, Cond.selects RX4 yX4_find yX4_find, Cond.initialized RX4, Cond.code yX4_find cX4_find 2 (some (.object "CustomsYard$Load")), Cond.fieldLink RX4 11 "CustomsYard" "loads" "[LCustomsYard$Load;", Cond.methodLink RX4 94 yX4_isView, Cond.static yX4_isView, Cond.code yX4_isView cX4_isView 1 (some .boolean), Cond.methodLink RX4 46 yX4_refuse, Cond.instanceMethod yX4_refuse, Cond.selects RX4 yX4_refuse yX4_refuse, Cond.code yX4_refuse cX4_refuse 2 (some .int), Cond.fieldLink RX4 128 "CustomsYard" "casts" "I", Cond.fieldLink RX4 131 "CustomsYard" "indexes" "I", Cond.fieldLink RX4 134 "CustomsYard" "stores" "I", Cond.methodLink RX4 78 ⟨"CustomsYard$Load", "goesAs", "(I)Z"⟩, Cond.sameMethod "CustomsYard$Load" "CustomsYard$Load" "goesAs" "(I)Z", Cond.selects RX1 ⟨"CustomsYard$Load", "goesAs", "(I)Z"⟩ yX0_goesAs, Cond.instanceMethod yX0_goesAs, Cond.initialized RX0, Cond.code yX0_goesAs cX0_goesAs 2 (some .boolean), Cond.fieldLink RX0 15 "CustomsYard$Load" "sort" "I"]
def wsX4_is_r2 : List Cond := [Cond.selects RX2 ⟨"CustomsYard$Load", "goesAs", "(I)Z"⟩ yX0_goesAs, Cond.selects RX3 ⟨"CustomsYard$Load", "goesAs", "(I)Z"⟩ yX0_goesAs]
def wsX4_is : List Cond := .code yX4_is cX4_is 4 (some .int) :: ((wsX4_is_r1 ++ wsX4_is_r2) ++ wsX40 ++ wsX10 ++ wsX20 ++ wsX30)
def wsX4_takeAs_r1 : List Cond := [Cond.methodLink RX4 78 ⟨"CustomsYard$Load", "goesAs", "(I)Z"⟩, Cond.sameMethod "CustomsYard$Load" "CustomsYard$Load" "goesAs" "(I)Z", Cond.selects RX1 ⟨"CustomsYard$Load", "goesAs", "(I)Z"⟩ yX0_goesAs, Cond.instanceMethod yX0_goesAs, Cond.initialized RX0, Cond.code yX0_goesAs cX0_goesAs 2 (some .boolean), Cond.fieldLink RX0 15 "CustomsYard$Load" "sort" "I", Cond.selects RX2 ⟨"CustomsYard$Load", "goesAs", "(I)Z"⟩ yX0_goesAs, Cond.selects RX3 ⟨"CustomsYard$Load", "goesAs", "(I)Z"⟩ yX0_goesAs, Cond.methodLink RX4 125 ⟨"CustomsYard$Load", "comesAs", "(I)I"⟩, Cond.sameMethod "CustomsYard$Load" "CustomsYard$Load" "comesAs" "(I)I", Cond.selects RX1 ⟨"CustomsYard$Load", "comesAs", "(I)I"⟩ yX1_comesAs, Cond.instanceMethod yX1_comesAs, Cond.initialized RX1, Cond.code yX1_comesAs cX1_comesAs 2 (some .int), Cond.fieldLink RX1 7 "CustomsYard$Numbers" "places" "[J", Cond.selects RX2 ⟨"CustomsYard$Load", "comesAs", "(I)I"⟩ yX2_comesAs, Cond.instanceMethod yX2_comesAs, Cond.initialized RX2, Cond.code yX2_comesAs cX2_comesAs 2 (some .int), Cond.fieldLink RX2 9 "CustomsYard$Piece" "told" "I", Cond.methodLink RX2 15 yX2_declaration, Cond.instanceMethod yX2_declaration, Cond.selects RX2 yX2_declaration yX2_declaration]
def wsX4_takeAs_r2 : List Cond := [Cond.code yX2_declaration cX2_declaration 1 (some .int), Cond.fieldLink RX2 19 "CustomsYard$Piece" "sort" "I", Cond.sameField "CustomsYard$Piece" "CustomsYard$Load" "sort" "I", Cond.selects RX3 ⟨"CustomsYard$Load", "comesAs", "(I)I"⟩ yX3_comesAs, Cond.instanceMethod yX3_comesAs, Cond.initialized RX3, Cond.code yX3_comesAs cX3_comesAs 2 (some .int), Cond.fieldLink RX3 9 "CustomsYard$Things" "places" "[LCustomsYard$Load;", Cond.methodLink RX4 46 yX4_refuse, Cond.instanceMethod yX4_refuse, Cond.selects RX4 yX4_refuse yX4_refuse, Cond.initialized RX4, Cond.code yX4_refuse cX4_refuse 2 (some .int), Cond.fieldLink RX4 38 "CustomsYard" "refusal" "I", Cond.fieldLink RX4 128 "CustomsYard" "casts" "I", Cond.fieldLink RX4 131 "CustomsYard" "indexes" "I", Cond.fieldLink RX4 134 "CustomsYard" "stores" "I"]
def wsX4_takeAs : List Cond := .code yX4_takeAs cX4_takeAs 3 (some .int) :: ((wsX4_takeAs_r1 ++ wsX4_takeAs_r2) ++ wsX10 ++ wsX20 ++ wsX30 ++ wsX40)
def wsX4_take_r1 : List Cond := [Cond.fieldLink RX4 38 "CustomsYard" "refusal" "I", Cond.methodLink RX4 68 yX4_find, Cond.instanceMethod yX4_find, Cond.selects RX4 yX4_find yX4_find, Cond.initialized RX4, Cond.code yX4_find cX4_find 2 (some (.object "CustomsYard$Load")), Cond.fieldLink RX4 11 "CustomsYard" "loads" "[LCustomsYard$Load;", Cond.methodLink RX4 94 yX4_isView, Cond.static yX4_isView, Cond.code yX4_isView cX4_isView 1 (some .boolean), Cond.methodLink RX4 46 yX4_refuse, Cond.instanceMethod yX4_refuse, Cond.selects RX4 yX4_refuse yX4_refuse, Cond.code yX4_refuse cX4_refuse 2 (some .int), Cond.fieldLink RX4 128 "CustomsYard" "casts" "I", Cond.fieldLink RX4 131 "CustomsYard" "indexes" "I", Cond.fieldLink RX4 134 "CustomsYard" "stores" "I", Cond.methodLink RX4 97 yX4_takeAs, Cond.instanceMethod yX4_takeAs, Cond.selects RX4 yX4_takeAs yX4_takeAs, Cond.code yX4_takeAs cX4_takeAs 3 (some .int), Cond.methodLink RX4 78 ⟨"CustomsYard$Load", "goesAs", "(I)Z"⟩, Cond.sameMethod "CustomsYard$Load" "CustomsYard$Load" "goesAs" "(I)Z", Cond.selects RX1 ⟨"CustomsYard$Load", "goesAs", "(I)Z"⟩ yX0_goesAs]
def wsX4_take_r2 : List Cond := [Cond.instanceMethod yX0_goesAs, Cond.initialized RX0, Cond.code yX0_goesAs cX0_goesAs 2 (some .boolean), Cond.fieldLink RX0 15 "CustomsYard$Load" "sort" "I", Cond.selects RX2 ⟨"CustomsYard$Load", "goesAs", "(I)Z"⟩ yX0_goesAs, Cond.selects RX3 ⟨"CustomsYard$Load", "goesAs", "(I)Z"⟩ yX0_goesAs, Cond.methodLink RX4 125 ⟨"CustomsYard$Load", "comesAs", "(I)I"⟩, Cond.sameMethod "CustomsYard$Load" "CustomsYard$Load" "comesAs" "(I)I", Cond.selects RX1 ⟨"CustomsYard$Load", "comesAs", "(I)I"⟩ yX1_comesAs, Cond.instanceMethod yX1_comesAs, Cond.initialized RX1, Cond.code yX1_comesAs cX1_comesAs 2 (some .int), Cond.fieldLink RX1 7 "CustomsYard$Numbers" "places" "[J", Cond.selects RX2 ⟨"CustomsYard$Load", "comesAs", "(I)I"⟩ yX2_comesAs, Cond.instanceMethod yX2_comesAs, Cond.initialized RX2, Cond.code yX2_comesAs cX2_comesAs 2 (some .int), Cond.fieldLink RX2 9 "CustomsYard$Piece" "told" "I", Cond.methodLink RX2 15 yX2_declaration, Cond.instanceMethod yX2_declaration, Cond.selects RX2 yX2_declaration yX2_declaration, Cond.code yX2_declaration cX2_declaration 1 (some .int), Cond.fieldLink RX2 19 "CustomsYard$Piece" "sort" "I", Cond.sameField "CustomsYard$Piece" "CustomsYard$Load" "sort" "I"]
def wsX4_take_r3 : List Cond := [Cond.selects RX3 ⟨"CustomsYard$Load", "comesAs", "(I)I"⟩ yX3_comesAs, Cond.instanceMethod yX3_comesAs, Cond.initialized RX3, Cond.code yX3_comesAs cX3_comesAs 2 (some .int), Cond.fieldLink RX3 9 "CustomsYard$Things" "places" "[LCustomsYard$Load;"]
def wsX4_take : List Cond := .code yX4_take cX4_take 4 (some .int) :: ((wsX4_take_r1 ++ (wsX4_take_r2 ++ wsX4_take_r3)) ++ wsX40 ++ wsX10 ++ wsX20 ++ wsX30)
def wsX4_sort : List Cond := .code yX4_sort cX4_sort 3 (some .int) :: ([.fieldLink RX4 38 "CustomsYard" "refusal" "I", .fieldLink RX4 101 "CustomsYard$Load" "sort" "I", .methodLink RX4 68 yX4_find, .instanceMethod yX4_find, .selects RX4 yX4_find yX4_find, .initialized RX4, .code yX4_find cX4_find 2 (some (.object "CustomsYard$Load")), .fieldLink RX4 11 "CustomsYard" "loads" "[LCustomsYard$Load;", .methodLink RX4 46 yX4_refuse, .instanceMethod yX4_refuse, .selects RX4 yX4_refuse yX4_refuse, .code yX4_refuse cX4_refuse 2 (some .int), .fieldLink RX4 128 "CustomsYard" "casts" "I", .fieldLink RX4 131 "CustomsYard" "indexes" "I", .fieldLink RX4 134 "CustomsYard" "stores" "I"] ++ wsX40 ++ wsX10 ++ wsX20 ++ wsX30)
def wsX4_weight_r1 : List Cond := [Cond.fieldLink RX4 38 "CustomsYard" "refusal" "I", Cond.methodLink RX4 68 yX4_find, Cond.instanceMethod yX4_find, Cond.selects RX4 yX4_find yX4_find, Cond.initialized RX4, Cond.code yX4_find cX4_find 2 (some (.object "CustomsYard$Load")), Cond.fieldLink RX4 11 "CustomsYard" "loads" "[LCustomsYard$Load;", Cond.methodLink RX4 46 yX4_refuse, Cond.instanceMethod yX4_refuse, Cond.selects RX4 yX4_refuse yX4_refuse, Cond.code yX4_refuse cX4_refuse 2 (some .int), Cond.fieldLink RX4 128 "CustomsYard" "casts" "I", Cond.fieldLink RX4 131 "CustomsYard" "indexes" "I", Cond.fieldLink RX4 134 "CustomsYard" "stores" "I", Cond.methodLink RX4 102 ⟨"CustomsYard$Load", "weigh", "(I)J"⟩, Cond.sameMethod "CustomsYard$Load" "CustomsYard$Load" "weigh" "(I)J", Cond.selects RX1 ⟨"CustomsYard$Load", "weigh", "(I)J"⟩ yX1_weigh, Cond.instanceMethod yX1_weigh, Cond.initialized RX1, Cond.code yX1_weigh cX1_weigh 9 (some .long), Cond.fieldLink RX1 7 "CustomsYard$Numbers" "places" "[J", Cond.selects RX2 ⟨"CustomsYard$Load", "weigh", "(I)J"⟩ yX2_weigh, Cond.instanceMethod yX2_weigh, Cond.initialized RX2]
def wsX4_weight_r2 : List Cond := [Cond.code yX2_weigh cX2_weigh 2 (some .long), Cond.fieldLink RX2 9 "CustomsYard$Piece" "told" "I", Cond.selects RX3 ⟨"CustomsYard$Load", "weigh", "(I)J"⟩ yX3_weigh, Cond.instanceMethod yX3_weigh, Cond.initialized RX3, Cond.code yX3_weigh cX3_weigh 8 (some .long), Cond.fieldLink RX3 9 "CustomsYard$Things" "places" "[LCustomsYard$Load;", Cond.methodLink RX3 23 ⟨"CustomsYard$Load", "weigh", "(I)J"⟩]
def wsX4_weight : List Cond := .code yX4_weight cX4_weight 3 (some .long) :: ((wsX4_weight_r1 ++ wsX4_weight_r2) ++ wsX40 ++ wsX10 ++ wsX20 ++ wsX30)
def wsX4_inside_r1 : List Cond := [Cond.fieldLink RX4 38 "CustomsYard" "refusal" "I", Cond.methodLink RX4 68 yX4_find, Cond.instanceMethod yX4_find, Cond.selects RX4 yX4_find yX4_find, Cond.initialized RX4, Cond.code yX4_find cX4_find 2 (some (.object "CustomsYard$Load")), Cond.fieldLink RX4 11 "CustomsYard" "loads" "[LCustomsYard$Load;", Cond.methodLink RX4 94 yX4_isView, Cond.static yX4_isView, Cond.code yX4_isView cX4_isView 1 (some .boolean), Cond.methodLink RX4 46 yX4_refuse, Cond.instanceMethod yX4_refuse, Cond.selects RX4 yX4_refuse yX4_refuse, Cond.code yX4_refuse cX4_refuse 2 (some .int), Cond.fieldLink RX4 128 "CustomsYard" "casts" "I", Cond.fieldLink RX4 131 "CustomsYard" "indexes" "I", Cond.fieldLink RX4 134 "CustomsYard" "stores" "I", Cond.methodLink RX4 106 ⟨"CustomsYard$Load", "tally", "(II)I"⟩, Cond.sameMethod "CustomsYard$Load" "CustomsYard$Load" "tally" "(II)I", Cond.selects RX1 ⟨"CustomsYard$Load", "tally", "(II)I"⟩ yX0_tally, Cond.instanceMethod yX0_tally, Cond.initialized RX0, Cond.code yX0_tally cX0_tally 3 (some .int), Cond.methodLink RX0 18 ⟨"CustomsYard$Load", "goesAs", "(I)Z"⟩]
def wsX4_inside_r2 : List Cond := [Cond.sameMethod "CustomsYard$Load" "CustomsYard$Load" "goesAs" "(I)Z", Cond.selects RX1 ⟨"CustomsYard$Load", "goesAs", "(I)Z"⟩ yX0_goesAs, Cond.instanceMethod yX0_goesAs, Cond.code yX0_goesAs cX0_goesAs 2 (some .boolean), Cond.fieldLink RX0 15 "CustomsYard$Load" "sort" "I", Cond.selects RX2 ⟨"CustomsYard$Load", "goesAs", "(I)Z"⟩ yX0_goesAs, Cond.selects RX3 ⟨"CustomsYard$Load", "goesAs", "(I)Z"⟩ yX0_goesAs, Cond.selects RX2 ⟨"CustomsYard$Load", "tally", "(II)I"⟩ yX0_tally, Cond.instanceMethod ⟨"CustomsYard$Load", "tally", "(II)I"⟩, Cond.selects RX3 ⟨"CustomsYard$Load", "tally", "(II)I"⟩ yX3_tally, Cond.instanceMethod yX3_tally, Cond.initialized RX3, Cond.code yX3_tally cX3_tally 8 (some .int), Cond.fieldLink RX3 9 "CustomsYard$Things" "places" "[LCustomsYard$Load;", Cond.methodLink RX3 27 ⟨"CustomsYard$Things", "goesAs", "(I)Z"⟩, Cond.sameMethod "CustomsYard$Things" "CustomsYard$Load" "goesAs" "(I)Z", Cond.selects RX3 ⟨"CustomsYard$Things", "goesAs", "(I)Z"⟩ yX0_goesAs, Cond.methodLink RX3 31 ⟨"CustomsYard$Load", "tally", "(II)I"⟩]
def wsX4_inside : List Cond := .code yX4_inside cX4_inside 4 (some .int) :: ((wsX4_inside_r1 ++ wsX4_inside_r2) ++ wsX40 ++ wsX10 ++ wsX20 ++ wsX30)
def wsX4_isBay : List Cond := .code yX4_isBay cX4_isBay 1 (some .boolean) :: ([])
def wsX4_hold : List Cond := .code yX4_hold cX4_hold 5 (some .int) :: ([.fieldLink RX4 38 "CustomsYard" "refusal" "I", .fieldLink RX4 15 "CustomsYard" "bays" "[LCustomsYard$Load;", .methodLink RX4 68 yX4_find, .instanceMethod yX4_find, .selects RX4 yX4_find yX4_find, .initialized RX4, .code yX4_find cX4_find 2 (some (.object "CustomsYard$Load")), .fieldLink RX4 11 "CustomsYard" "loads" "[LCustomsYard$Load;", .methodLink RX4 110 yX4_isBay, .static yX4_isBay, .code yX4_isBay cX4_isBay 1 (some .boolean), .methodLink RX4 46 yX4_refuse, .instanceMethod yX4_refuse, .selects RX4 yX4_refuse yX4_refuse, .code yX4_refuse cX4_refuse 2 (some .int), .fieldLink RX4 128 "CustomsYard" "casts" "I", .fieldLink RX4 131 "CustomsYard" "indexes" "I", .fieldLink RX4 134 "CustomsYard" "stores" "I", .methodLink RX4 90 yX4_numberOf, .static yX4_numberOf, .code yX4_numberOf cX4_numberOf 1 (some .int), .fieldLink RX4 138 "CustomsYard$Load" "number" "I"] ++ wsX40 ++ wsX10 ++ wsX20 ++ wsX30)
def wsX4_bay_r1 : List Cond := [Cond.fieldLink RX4 38 "CustomsYard" "refusal" "I", Cond.fieldLink RX4 15 "CustomsYard" "bays" "[LCustomsYard$Load;", Cond.methodLink RX4 110 yX4_isBay, Cond.static yX4_isBay, Cond.initialized RX4, Cond.code yX4_isBay cX4_isBay 1 (some .boolean), Cond.methodLink RX4 94 yX4_isView, Cond.static yX4_isView, Cond.code yX4_isView cX4_isView 1 (some .boolean), Cond.methodLink RX4 46 yX4_refuse, Cond.instanceMethod yX4_refuse, Cond.selects RX4 yX4_refuse yX4_refuse, Cond.code yX4_refuse cX4_refuse 2 (some .int), Cond.fieldLink RX4 128 "CustomsYard" "casts" "I", Cond.fieldLink RX4 131 "CustomsYard" "indexes" "I", Cond.fieldLink RX4 134 "CustomsYard" "stores" "I", Cond.methodLink RX4 97 yX4_takeAs, Cond.instanceMethod yX4_takeAs, Cond.selects RX4 yX4_takeAs yX4_takeAs, Cond.code yX4_takeAs cX4_takeAs 3 (some .int), Cond.methodLink RX4 78 ⟨"CustomsYard$Load", "goesAs", "(I)Z"⟩, Cond.sameMethod "CustomsYard$Load" "CustomsYard$Load" "goesAs" "(I)Z", Cond.selects RX1 ⟨"CustomsYard$Load", "goesAs", "(I)Z"⟩ yX0_goesAs, Cond.instanceMethod yX0_goesAs]
def wsX4_bay_r2 : List Cond := [Cond.initialized RX0, Cond.code yX0_goesAs cX0_goesAs 2 (some .boolean), Cond.fieldLink RX0 15 "CustomsYard$Load" "sort" "I", Cond.selects RX2 ⟨"CustomsYard$Load", "goesAs", "(I)Z"⟩ yX0_goesAs, Cond.selects RX3 ⟨"CustomsYard$Load", "goesAs", "(I)Z"⟩ yX0_goesAs, Cond.methodLink RX4 125 ⟨"CustomsYard$Load", "comesAs", "(I)I"⟩, Cond.sameMethod "CustomsYard$Load" "CustomsYard$Load" "comesAs" "(I)I", Cond.selects RX1 ⟨"CustomsYard$Load", "comesAs", "(I)I"⟩ yX1_comesAs, Cond.instanceMethod yX1_comesAs, Cond.initialized RX1, Cond.code yX1_comesAs cX1_comesAs 2 (some .int), Cond.fieldLink RX1 7 "CustomsYard$Numbers" "places" "[J", Cond.selects RX2 ⟨"CustomsYard$Load", "comesAs", "(I)I"⟩ yX2_comesAs, Cond.instanceMethod yX2_comesAs, Cond.initialized RX2, Cond.code yX2_comesAs cX2_comesAs 2 (some .int), Cond.fieldLink RX2 9 "CustomsYard$Piece" "told" "I", Cond.methodLink RX2 15 yX2_declaration, Cond.instanceMethod yX2_declaration, Cond.selects RX2 yX2_declaration yX2_declaration, Cond.code yX2_declaration cX2_declaration 1 (some .int), Cond.fieldLink RX2 19 "CustomsYard$Piece" "sort" "I", Cond.sameField "CustomsYard$Piece" "CustomsYard$Load" "sort" "I", Cond.selects RX3 ⟨"CustomsYard$Load", "comesAs", "(I)I"⟩ yX3_comesAs]
def wsX4_bay_r3 : List Cond := [Cond.instanceMethod yX3_comesAs, Cond.initialized RX3, Cond.code yX3_comesAs cX3_comesAs 2 (some .int), Cond.fieldLink RX3 9 "CustomsYard$Things" "places" "[LCustomsYard$Load;"]
def wsX4_bay : List Cond := .code yX4_bay cX4_bay 4 (some .int) :: ((wsX4_bay_r1 ++ (wsX4_bay_r2 ++ wsX4_bay_r3)) ++ wsX40 ++ wsX10 ++ wsX20 ++ wsX30)
def wsX4_isGate : List Cond := .code yX4_isGate cX4_isGate 1 (some .boolean) :: ([])
def wsX4_gate : List Cond := .code yX4_gate cX4_gate 4 (some .int) :: ([.fieldLink RX4 38 "CustomsYard" "refusal" "I", .fieldLink RX4 18 "CustomsYard" "gateViews" "[I", .fieldLink RX4 22 "CustomsYard" "gateWeights" "[J", .methodLink RX4 113 yX4_isGate, .static yX4_isGate, .initialized RX4, .code yX4_isGate cX4_isGate 1 (some .boolean), .methodLink RX4 94 yX4_isView, .static yX4_isView, .code yX4_isView cX4_isView 1 (some .boolean), .methodLink RX4 46 yX4_refuse, .instanceMethod yX4_refuse, .selects RX4 yX4_refuse yX4_refuse, .code yX4_refuse cX4_refuse 2 (some .int), .fieldLink RX4 128 "CustomsYard" "casts" "I", .fieldLink RX4 131 "CustomsYard" "indexes" "I", .fieldLink RX4 134 "CustomsYard" "stores" "I"] ++ wsX40)
def wsX4_pass_r1 : List Cond := [Cond.fieldLink RX4 38 "CustomsYard" "refusal" "I", Cond.fieldLink RX4 18 "CustomsYard" "gateViews" "[I", Cond.fieldLink RX4 116 "CustomsYard" "turnedAway" "I", Cond.fieldLink RX4 22 "CustomsYard" "gateWeights" "[J", Cond.methodLink RX4 68 yX4_find, Cond.instanceMethod yX4_find, Cond.selects RX4 yX4_find yX4_find, Cond.initialized RX4, Cond.code yX4_find cX4_find 2 (some (.object "CustomsYard$Load")), Cond.fieldLink RX4 11 "CustomsYard" "loads" "[LCustomsYard$Load;", Cond.methodLink RX4 113 yX4_isGate, Cond.static yX4_isGate, Cond.code yX4_isGate cX4_isGate 1 (some .boolean), Cond.methodLink RX4 46 yX4_refuse, Cond.instanceMethod yX4_refuse, Cond.selects RX4 yX4_refuse yX4_refuse, Cond.code yX4_refuse cX4_refuse 2 (some .int), Cond.fieldLink RX4 128 "CustomsYard" "casts" "I", Cond.fieldLink RX4 131 "CustomsYard" "indexes" "I", Cond.fieldLink RX4 134 "CustomsYard" "stores" "I", Cond.methodLink RX4 78 ⟨"CustomsYard$Load", "goesAs", "(I)Z"⟩, Cond.sameMethod "CustomsYard$Load" "CustomsYard$Load" "goesAs" "(I)Z", Cond.selects RX1 ⟨"CustomsYard$Load", "goesAs", "(I)Z"⟩ yX0_goesAs, Cond.instanceMethod yX0_goesAs]
def wsX4_pass_r2 : List Cond := [Cond.initialized RX0, Cond.code yX0_goesAs cX0_goesAs 2 (some .boolean), Cond.fieldLink RX0 15 "CustomsYard$Load" "sort" "I", Cond.selects RX2 ⟨"CustomsYard$Load", "goesAs", "(I)Z"⟩ yX0_goesAs, Cond.selects RX3 ⟨"CustomsYard$Load", "goesAs", "(I)Z"⟩ yX0_goesAs, Cond.methodLink RX4 102 ⟨"CustomsYard$Load", "weigh", "(I)J"⟩, Cond.sameMethod "CustomsYard$Load" "CustomsYard$Load" "weigh" "(I)J", Cond.selects RX1 ⟨"CustomsYard$Load", "weigh", "(I)J"⟩ yX1_weigh, Cond.instanceMethod yX1_weigh, Cond.initialized RX1, Cond.code yX1_weigh cX1_weigh 9 (some .long), Cond.fieldLink RX1 7 "CustomsYard$Numbers" "places" "[J", Cond.selects RX2 ⟨"CustomsYard$Load", "weigh", "(I)J"⟩ yX2_weigh, Cond.instanceMethod yX2_weigh, Cond.initialized RX2, Cond.code yX2_weigh cX2_weigh 2 (some .long), Cond.fieldLink RX2 9 "CustomsYard$Piece" "told" "I", Cond.selects RX3 ⟨"CustomsYard$Load", "weigh", "(I)J"⟩ yX3_weigh, Cond.instanceMethod yX3_weigh, Cond.initialized RX3, Cond.code yX3_weigh cX3_weigh 8 (some .long), Cond.fieldLink RX3 9 "CustomsYard$Things" "places" "[LCustomsYard$Load;", Cond.methodLink RX3 23 ⟨"CustomsYard$Load", "weigh", "(I)J"⟩]
def wsX4_pass : List Cond := .code yX4_pass cX4_pass 4 (some .int) :: ((wsX4_pass_r1 ++ wsX4_pass_r2) ++ wsX40 ++ wsX10 ++ wsX20 ++ wsX30)
def wsX4_passed : List Cond := .code yX4_passed cX4_passed 2 (some .long) :: ([.fieldLink RX4 38 "CustomsYard" "refusal" "I", .fieldLink RX4 22 "CustomsYard" "gateWeights" "[J", .methodLink RX4 113 yX4_isGate, .static yX4_isGate, .initialized RX4, .code yX4_isGate cX4_isGate 1 (some .boolean), .methodLink RX4 46 yX4_refuse, .instanceMethod yX4_refuse, .selects RX4 yX4_refuse yX4_refuse, .code yX4_refuse cX4_refuse 2 (some .int), .fieldLink RX4 128 "CustomsYard" "casts" "I", .fieldLink RX4 131 "CustomsYard" "indexes" "I", .fieldLink RX4 134 "CustomsYard" "stores" "I"] ++ wsX40)
def wsX4_tariff : List Cond := .code yX4_tariff cX4_tariff 3 (some .int) :: ([.fieldLink RX4 38 "CustomsYard" "refusal" "I", .fieldLink RX4 119 "CustomsYard" "lineCount" "I", .fieldLink RX4 26 "CustomsYard" "lineViews" "[I", .fieldLink RX4 29 "CustomsYard" "lineRates" "[I", .methodLink RX4 94 yX4_isView, .static yX4_isView, .initialized RX4, .code yX4_isView cX4_isView 1 (some .boolean), .methodLink RX4 46 yX4_refuse, .instanceMethod yX4_refuse, .selects RX4 yX4_refuse yX4_refuse, .code yX4_refuse cX4_refuse 2 (some .int), .fieldLink RX4 128 "CustomsYard" "casts" "I", .fieldLink RX4 131 "CustomsYard" "indexes" "I", .fieldLink RX4 134 "CustomsYard" "stores" "I"] ++ wsX40)
def wsX4_lineFor : List Cond := .code yX4_lineFor cX4_lineFor 3 (some .int) :: ([.fieldLink RX4 119 "CustomsYard" "lineCount" "I", .fieldLink RX4 26 "CustomsYard" "lineViews" "[I", .methodLink RX4 78 ⟨"CustomsYard$Load", "goesAs", "(I)Z"⟩, .sameMethod "CustomsYard$Load" "CustomsYard$Load" "goesAs" "(I)Z", .selects RX1 ⟨"CustomsYard$Load", "goesAs", "(I)Z"⟩ yX0_goesAs, .instanceMethod yX0_goesAs, .initialized RX0, .code yX0_goesAs cX0_goesAs 2 (some .boolean), .fieldLink RX0 15 "CustomsYard$Load" "sort" "I", .selects RX2 ⟨"CustomsYard$Load", "goesAs", "(I)Z"⟩ yX0_goesAs, .selects RX3 ⟨"CustomsYard$Load", "goesAs", "(I)Z"⟩ yX0_goesAs] ++ wsX40 ++ wsX10 ++ wsX20 ++ wsX30)
def wsX4_duty_r1 : List Cond := [Cond.fieldLink RX4 38 "CustomsYard" "refusal" "I", Cond.fieldLink RX4 29 "CustomsYard" "lineRates" "[I", Cond.fieldLink RX4 26 "CustomsYard" "lineViews" "[I", Cond.methodLink RX4 68 yX4_find, Cond.instanceMethod yX4_find, Cond.selects RX4 yX4_find yX4_find, Cond.initialized RX4, Cond.code yX4_find cX4_find 2 (some (.object "CustomsYard$Load")), Cond.fieldLink RX4 11 "CustomsYard" "loads" "[LCustomsYard$Load;", Cond.methodLink RX4 46 yX4_refuse, Cond.instanceMethod yX4_refuse, Cond.selects RX4 yX4_refuse yX4_refuse, Cond.code yX4_refuse cX4_refuse 2 (some .int), Cond.fieldLink RX4 128 "CustomsYard" "casts" "I", Cond.fieldLink RX4 131 "CustomsYard" "indexes" "I", Cond.fieldLink RX4 134 "CustomsYard" "stores" "I", Cond.methodLink RX4 122 yX4_lineFor, Cond.instanceMethod yX4_lineFor, Cond.selects RX4 yX4_lineFor yX4_lineFor, Cond.code yX4_lineFor cX4_lineFor 3 (some .int), Cond.fieldLink RX4 119 "CustomsYard" "lineCount" "I", Cond.methodLink RX4 78 ⟨"CustomsYard$Load", "goesAs", "(I)Z"⟩, Cond.sameMethod "CustomsYard$Load" "CustomsYard$Load" "goesAs" "(I)Z", Cond.selects RX1 ⟨"CustomsYard$Load", "goesAs", "(I)Z"⟩ yX0_goesAs]
def wsX4_duty_r2 : List Cond := [Cond.instanceMethod yX0_goesAs, Cond.initialized RX0, Cond.code yX0_goesAs cX0_goesAs 2 (some .boolean), Cond.fieldLink RX0 15 "CustomsYard$Load" "sort" "I", Cond.selects RX2 ⟨"CustomsYard$Load", "goesAs", "(I)Z"⟩ yX0_goesAs, Cond.selects RX3 ⟨"CustomsYard$Load", "goesAs", "(I)Z"⟩ yX0_goesAs, Cond.methodLink RX4 125 ⟨"CustomsYard$Load", "comesAs", "(I)I"⟩, Cond.sameMethod "CustomsYard$Load" "CustomsYard$Load" "comesAs" "(I)I", Cond.selects RX1 ⟨"CustomsYard$Load", "comesAs", "(I)I"⟩ yX1_comesAs, Cond.instanceMethod yX1_comesAs, Cond.initialized RX1, Cond.code yX1_comesAs cX1_comesAs 2 (some .int), Cond.fieldLink RX1 7 "CustomsYard$Numbers" "places" "[J", Cond.selects RX2 ⟨"CustomsYard$Load", "comesAs", "(I)I"⟩ yX2_comesAs, Cond.instanceMethod yX2_comesAs, Cond.initialized RX2, Cond.code yX2_comesAs cX2_comesAs 2 (some .int), Cond.fieldLink RX2 9 "CustomsYard$Piece" "told" "I", Cond.methodLink RX2 15 yX2_declaration, Cond.instanceMethod yX2_declaration, Cond.selects RX2 yX2_declaration yX2_declaration, Cond.code yX2_declaration cX2_declaration 1 (some .int), Cond.fieldLink RX2 19 "CustomsYard$Piece" "sort" "I", Cond.sameField "CustomsYard$Piece" "CustomsYard$Load" "sort" "I"]
def wsX4_duty_r3 : List Cond := [Cond.selects RX3 ⟨"CustomsYard$Load", "comesAs", "(I)I"⟩ yX3_comesAs, Cond.instanceMethod yX3_comesAs, Cond.initialized RX3, Cond.code yX3_comesAs cX3_comesAs 2 (some .int), Cond.fieldLink RX3 9 "CustomsYard$Things" "places" "[LCustomsYard$Load;"]
def wsX4_duty : List Cond := .code yX4_duty cX4_duty 4 (some .int) :: ((wsX4_duty_r1 ++ (wsX4_duty_r2 ++ wsX4_duty_r3)) ++ wsX40 ++ wsX10 ++ wsX20 ++ wsX30)
def wsX4_line_r1 : List Cond := [Cond.fieldLink RX4 38 "CustomsYard" "refusal" "I", Cond.methodLink RX4 68 yX4_find, Cond.instanceMethod yX4_find, Cond.selects RX4 yX4_find yX4_find, Cond.initialized RX4, Cond.code yX4_find cX4_find 2 (some (.object "CustomsYard$Load")), Cond.fieldLink RX4 11 "CustomsYard" "loads" "[LCustomsYard$Load;", Cond.methodLink RX4 46 yX4_refuse, Cond.instanceMethod yX4_refuse, Cond.selects RX4 yX4_refuse yX4_refuse, Cond.code yX4_refuse cX4_refuse 2 (some .int), Cond.fieldLink RX4 128 "CustomsYard" "casts" "I", Cond.fieldLink RX4 131 "CustomsYard" "indexes" "I", Cond.fieldLink RX4 134 "CustomsYard" "stores" "I", Cond.methodLink RX4 122 yX4_lineFor, Cond.instanceMethod yX4_lineFor, Cond.selects RX4 yX4_lineFor yX4_lineFor, Cond.code yX4_lineFor cX4_lineFor 3 (some .int), Cond.fieldLink RX4 119 "CustomsYard" "lineCount" "I", Cond.fieldLink RX4 26 "CustomsYard" "lineViews" "[I", Cond.methodLink RX4 78 ⟨"CustomsYard$Load", "goesAs", "(I)Z"⟩, Cond.sameMethod "CustomsYard$Load" "CustomsYard$Load" "goesAs" "(I)Z", Cond.selects RX1 ⟨"CustomsYard$Load", "goesAs", "(I)Z"⟩ yX0_goesAs, Cond.instanceMethod yX0_goesAs]
def wsX4_line_r2 : List Cond := [Cond.initialized RX0, Cond.code yX0_goesAs cX0_goesAs 2 (some .boolean), Cond.fieldLink RX0 15 "CustomsYard$Load" "sort" "I", Cond.selects RX2 ⟨"CustomsYard$Load", "goesAs", "(I)Z"⟩ yX0_goesAs, Cond.selects RX3 ⟨"CustomsYard$Load", "goesAs", "(I)Z"⟩ yX0_goesAs]
def wsX4_line : List Cond := .code yX4_line cX4_line 3 (some .int) :: ((wsX4_line_r1 ++ wsX4_line_r2) ++ wsX40 ++ wsX10 ++ wsX20 ++ wsX30)
def wsX4_refused : List Cond := .code yX4_refused cX4_refused 1 (some .int) :: ([.fieldLink RX4 38 "CustomsYard" "refusal" "I"] ++ wsX40)
def wsX4_count : List Cond := .code yX4_count cX4_count 2 (some .int) :: ([.fieldLink RX4 49 "CustomsYard" "loadCount" "I", .fieldLink RX4 128 "CustomsYard" "casts" "I", .fieldLink RX4 131 "CustomsYard" "indexes" "I", .fieldLink RX4 134 "CustomsYard" "stores" "I", .fieldLink RX4 116 "CustomsYard" "turnedAway" "I", .fieldLink RX4 119 "CustomsYard" "lineCount" "I"] ++ wsX40)
def wsX5_init : List Cond := .code yX5_init cX5_init 2 none :: ([.methodLink RX5 1 objectInit, .instanceMethod objectInit, .code objectInit ⟨#[0xb1]⟩ 1 none, .arrayClass .int, .fieldLink RX5 7 "CustomsYardModel" "sorts" "[I", .fieldLink RX5 13 "CustomsYardModel" "sizes" "[I", .fieldLink RX5 16 "CustomsYardModel" "weights" "[I", .arrayClass .long, .fieldLink RX5 19 "CustomsYardModel" "numbers" "[J", .fieldLink RX5 23 "CustomsYardModel" "things" "[I", .fieldLink RX5 26 "CustomsYardModel" "bays" "[I", .fieldLink RX5 29 "CustomsYardModel" "gates" "[I", .fieldLink RX5 32 "CustomsYardModel" "sums" "[J", .fieldLink RX5 35 "CustomsYardModel" "views" "[I", .fieldLink RX5 38 "CustomsYardModel" "rates" "[I", .fieldLink RX5 41 "CustomsYardModel" "pile" "[I"] ++ wsX50)
def wsX5_isIn : List Cond := .code yX5_isIn cX5_isIn 3 (some .boolean) :: ([])
def wsX5_isLoad : List Cond := .code yX5_isLoad cX5_isLoad 2 (some .boolean) :: ([.fieldLink RX5 44 "CustomsYardModel" "loads" "I", .methodLink RX5 48 yX5_isIn, .static yX5_isIn, .initialized RX5, .code yX5_isIn cX5_isIn 3 (some .boolean)] ++ wsX50)
def wsX5_isView : List Cond := .code yX5_isView cX5_isView 1 (some .boolean) :: ([.methodLink RX5 48 yX5_isIn, .static yX5_isIn, .initialized RX5, .code yX5_isIn cX5_isIn 3 (some .boolean)])
def wsX5_no : List Cond := .code yX5_no cX5_no 2 (some .int) :: ([.fieldLink RX5 52 "CustomsYardModel" "refused" "I", .fieldLink RX5 55 "CustomsYardModel" "casts" "I", .fieldLink RX5 58 "CustomsYardModel" "indexes" "I", .fieldLink RX5 61 "CustomsYardModel" "stores" "I"] ++ wsX50)
def wsX5_goes : List Cond := .code yX5_goes cX5_goes 2 (some .boolean) :: ([])
def wsX5_isSingle : List Cond := .code yX5_isSingle cX5_isSingle 1 (some .boolean) :: ([.methodLink RX5 48 yX5_isIn, .static yX5_isIn, .initialized RX5, .code yX5_isIn cX5_isIn 3 (some .boolean)])
def wsX5_isOfNumbers : List Cond := .code yX5_isOfNumbers cX5_isOfNumbers 1 (some .boolean) :: ([.methodLink RX5 48 yX5_isIn, .static yX5_isIn, .initialized RX5, .code yX5_isIn cX5_isIn 3 (some .boolean)])
def wsX5_isOfThings : List Cond := .code yX5_isOfThings cX5_isOfThings 1 (some .boolean) :: ([.methodLink RX5 48 yX5_isIn, .static yX5_isIn, .initialized RX5, .code yX5_isIn cX5_isIn 3 (some .boolean)])
def wsX5_load : List Cond := .code yX5_load cX5_load 4 (some .int) :: ([.fieldLink RX5 52 "CustomsYardModel" "refused" "I", .fieldLink RX5 44 "CustomsYardModel" "loads" "I", .fieldLink RX5 7 "CustomsYardModel" "sorts" "[I", .fieldLink RX5 13 "CustomsYardModel" "sizes" "[I", .fieldLink RX5 16 "CustomsYardModel" "weights" "[I", .fieldLink RX5 19 "CustomsYardModel" "numbers" "[J", .fieldLink RX5 23 "CustomsYardModel" "things" "[I", .methodLink RX5 48 yX5_isIn, .static yX5_isIn, .initialized RX5, .code yX5_isIn cX5_isIn 3 (some .boolean), .methodLink RX5 64 yX5_isSingle, .static yX5_isSingle, .code yX5_isSingle cX5_isSingle 1 (some .boolean), .methodLink RX5 68 yX5_no, .instanceMethod yX5_no, .selects RX5 yX5_no yX5_no, .code yX5_no cX5_no 2 (some .int), .fieldLink RX5 55 "CustomsYardModel" "casts" "I", .fieldLink RX5 58 "CustomsYardModel" "indexes" "I", .fieldLink RX5 61 "CustomsYardModel" "stores" "I"] ++ wsX50)
def wsX5_isPlace : List Cond := .code yX5_isPlace cX5_isPlace 3 (some .boolean) :: ([.fieldLink RX5 13 "CustomsYardModel" "sizes" "[I", .methodLink RX5 48 yX5_isIn, .static yX5_isIn, .initialized RX5, .code yX5_isIn cX5_isIn 3 (some .boolean)] ++ wsX50)
def wsX5_set_r1 : List Cond := [Cond.fieldLink RX5 52 "CustomsYardModel" "refused" "I", Cond.fieldLink RX5 7 "CustomsYardModel" "sorts" "[I", Cond.fieldLink RX5 19 "CustomsYardModel" "numbers" "[J", Cond.methodLink RX5 72 yX5_isLoad, Cond.instanceMethod yX5_isLoad, Cond.selects RX5 yX5_isLoad yX5_isLoad, Cond.initialized RX5, Cond.code yX5_isLoad cX5_isLoad 2 (some .boolean), Cond.fieldLink RX5 44 "CustomsYardModel" "loads" "I", Cond.methodLink RX5 48 yX5_isIn, Cond.static yX5_isIn, Cond.code yX5_isIn cX5_isIn 3 (some .boolean), Cond.methodLink RX5 68 yX5_no, Cond.instanceMethod yX5_no, Cond.selects RX5 yX5_no yX5_no, Cond.code yX5_no cX5_no 2 (some .int), Cond.fieldLink RX5 55 "CustomsYardModel" "casts" "I", Cond.fieldLink RX5 58 "CustomsYardModel" "indexes" "I", Cond.fieldLink RX5 61 "CustomsYardModel" "stores" "I", Cond.methodLink RX5 75 yX5_isOfNumbers, Cond.static yX5_isOfNumbers, Cond.code yX5_isOfNumbers cX5_isOfNumbers 1 (some .boolean), Cond.methodLink RX5 78 yX5_isPlace, Cond.instanceMethod yX5_isPlace]
def wsX5_set_r2 : List Cond := [Cond.selects RX5 yX5_isPlace yX5_isPlace, Cond.code yX5_isPlace cX5_isPlace 3 (some .boolean), Cond.fieldLink RX5 13 "CustomsYardModel" "sizes" "[I"]
def wsX5_set : List Cond := .code yX5_set cX5_set 4 (some .int) :: ((wsX5_set_r1 ++ wsX5_set_r2) ++ wsX50)
def wsX5_number_r1 : List Cond := [Cond.fieldLink RX5 52 "CustomsYardModel" "refused" "I", Cond.fieldLink RX5 7 "CustomsYardModel" "sorts" "[I", Cond.fieldLink RX5 19 "CustomsYardModel" "numbers" "[J", Cond.methodLink RX5 72 yX5_isLoad, Cond.instanceMethod yX5_isLoad, Cond.selects RX5 yX5_isLoad yX5_isLoad, Cond.initialized RX5, Cond.code yX5_isLoad cX5_isLoad 2 (some .boolean), Cond.fieldLink RX5 44 "CustomsYardModel" "loads" "I", Cond.methodLink RX5 48 yX5_isIn, Cond.static yX5_isIn, Cond.code yX5_isIn cX5_isIn 3 (some .boolean), Cond.methodLink RX5 75 yX5_isOfNumbers, Cond.static yX5_isOfNumbers, Cond.code yX5_isOfNumbers cX5_isOfNumbers 1 (some .boolean), Cond.methodLink RX5 78 yX5_isPlace, Cond.instanceMethod yX5_isPlace, Cond.selects RX5 yX5_isPlace yX5_isPlace, Cond.code yX5_isPlace cX5_isPlace 3 (some .boolean), Cond.fieldLink RX5 13 "CustomsYardModel" "sizes" "[I", Cond.methodLink RX5 68 yX5_no, Cond.instanceMethod yX5_no, Cond.selects RX5 yX5_no yX5_no, Cond.code yX5_no cX5_no 2 (some .int)]
def wsX5_number_r2 : List Cond := [Cond.fieldLink RX5 55 "CustomsYardModel" "casts" "I", Cond.fieldLink RX5 58 "CustomsYardModel" "indexes" "I", Cond.fieldLink RX5 61 "CustomsYardModel" "stores" "I"]
def wsX5_number : List Cond := .code yX5_number cX5_number 4 (some .long) :: ((wsX5_number_r1 ++ wsX5_number_r2) ++ wsX50)
def wsX5_wanted : List Cond := .code yX5_wanted cX5_wanted 1 (some .int) :: ([])
def wsX5_had : List Cond := .code yX5_had cX5_had 1 (some .int) :: ([.methodLink RX5 82 yX5_wanted, .static yX5_wanted, .initialized RX5, .code yX5_wanted cX5_wanted 1 (some .int)])
def wsX5_put_r1 : List Cond := [Cond.fieldLink RX5 52 "CustomsYardModel" "refused" "I", Cond.fieldLink RX5 7 "CustomsYardModel" "sorts" "[I", Cond.fieldLink RX5 23 "CustomsYardModel" "things" "[I", Cond.methodLink RX5 72 yX5_isLoad, Cond.instanceMethod yX5_isLoad, Cond.selects RX5 yX5_isLoad yX5_isLoad, Cond.initialized RX5, Cond.code yX5_isLoad cX5_isLoad 2 (some .boolean), Cond.fieldLink RX5 44 "CustomsYardModel" "loads" "I", Cond.methodLink RX5 48 yX5_isIn, Cond.static yX5_isIn, Cond.code yX5_isIn cX5_isIn 3 (some .boolean), Cond.methodLink RX5 68 yX5_no, Cond.instanceMethod yX5_no, Cond.selects RX5 yX5_no yX5_no, Cond.code yX5_no cX5_no 2 (some .int), Cond.fieldLink RX5 55 "CustomsYardModel" "casts" "I", Cond.fieldLink RX5 58 "CustomsYardModel" "indexes" "I", Cond.fieldLink RX5 61 "CustomsYardModel" "stores" "I", Cond.methodLink RX5 85 yX5_isOfThings, Cond.static yX5_isOfThings, Cond.code yX5_isOfThings cX5_isOfThings 1 (some .boolean), Cond.methodLink RX5 82 yX5_wanted, Cond.static yX5_wanted]
def wsX5_put_r2 : List Cond := [Cond.code yX5_wanted cX5_wanted 1 (some .int), Cond.methodLink RX5 88 yX5_goes, Cond.static yX5_goes, Cond.code yX5_goes cX5_goes 2 (some .boolean), Cond.methodLink RX5 78 yX5_isPlace, Cond.instanceMethod yX5_isPlace, Cond.selects RX5 yX5_isPlace yX5_isPlace, Cond.code yX5_isPlace cX5_isPlace 3 (some .boolean), Cond.fieldLink RX5 13 "CustomsYardModel" "sizes" "[I", Cond.methodLink RX5 91 yX5_had, Cond.static yX5_had, Cond.code yX5_had cX5_had 1 (some .int)]
def wsX5_put : List Cond := .code yX5_put cX5_put 5 (some .int) :: ((wsX5_put_r1 ++ wsX5_put_r2) ++ wsX50)
def wsX5_at_r1 : List Cond := [Cond.fieldLink RX5 52 "CustomsYardModel" "refused" "I", Cond.fieldLink RX5 7 "CustomsYardModel" "sorts" "[I", Cond.fieldLink RX5 23 "CustomsYardModel" "things" "[I", Cond.methodLink RX5 72 yX5_isLoad, Cond.instanceMethod yX5_isLoad, Cond.selects RX5 yX5_isLoad yX5_isLoad, Cond.initialized RX5, Cond.code yX5_isLoad cX5_isLoad 2 (some .boolean), Cond.fieldLink RX5 44 "CustomsYardModel" "loads" "I", Cond.methodLink RX5 48 yX5_isIn, Cond.static yX5_isIn, Cond.code yX5_isIn cX5_isIn 3 (some .boolean), Cond.methodLink RX5 68 yX5_no, Cond.instanceMethod yX5_no, Cond.selects RX5 yX5_no yX5_no, Cond.code yX5_no cX5_no 2 (some .int), Cond.fieldLink RX5 55 "CustomsYardModel" "casts" "I", Cond.fieldLink RX5 58 "CustomsYardModel" "indexes" "I", Cond.fieldLink RX5 61 "CustomsYardModel" "stores" "I", Cond.methodLink RX5 85 yX5_isOfThings, Cond.static yX5_isOfThings, Cond.code yX5_isOfThings cX5_isOfThings 1 (some .boolean), Cond.methodLink RX5 78 yX5_isPlace, Cond.instanceMethod yX5_isPlace]
def wsX5_at_r2 : List Cond := [Cond.selects RX5 yX5_isPlace yX5_isPlace, Cond.code yX5_isPlace cX5_isPlace 3 (some .boolean), Cond.fieldLink RX5 13 "CustomsYardModel" "sizes" "[I"]
def wsX5_at : List Cond := .code yX5_at cX5_at 3 (some .int) :: ((wsX5_at_r1 ++ wsX5_at_r2) ++ wsX50)
def wsX5_is : List Cond := .code yX5_is cX5_is 3 (some .int) :: ([.fieldLink RX5 52 "CustomsYardModel" "refused" "I", .fieldLink RX5 7 "CustomsYardModel" "sorts" "[I", .methodLink RX5 72 yX5_isLoad, .instanceMethod yX5_isLoad, .selects RX5 yX5_isLoad yX5_isLoad, .initialized RX5, .code yX5_isLoad cX5_isLoad 2 (some .boolean), .fieldLink RX5 44 "CustomsYardModel" "loads" "I", .methodLink RX5 48 yX5_isIn, .static yX5_isIn, .code yX5_isIn cX5_isIn 3 (some .boolean), .methodLink RX5 94 yX5_isView, .static yX5_isView, .code yX5_isView cX5_isView 1 (some .boolean), .methodLink RX5 68 yX5_no, .instanceMethod yX5_no, .selects RX5 yX5_no yX5_no, .code yX5_no cX5_no 2 (some .int), .fieldLink RX5 55 "CustomsYardModel" "casts" "I", .fieldLink RX5 58 "CustomsYardModel" "indexes" "I", .fieldLink RX5 61 "CustomsYardModel" "stores" "I", .methodLink RX5 88 yX5_goes, .static yX5_goes, .code yX5_goes cX5_goes 2 (some .boolean)] ++ wsX50)
def wsX5_comes : List Cond := .code yX5_comes cX5_comes 3 (some .int) :: ([.fieldLink RX5 7 "CustomsYardModel" "sorts" "[I", .fieldLink RX5 13 "CustomsYardModel" "sizes" "[I", .fieldLink RX5 16 "CustomsYardModel" "weights" "[I", .methodLink RX5 64 yX5_isSingle, .static yX5_isSingle, .initialized RX5, .code yX5_isSingle cX5_isSingle 1 (some .boolean), .methodLink RX5 48 yX5_isIn, .static yX5_isIn, .code yX5_isIn cX5_isIn 3 (some .boolean)] ++ wsX50)
def wsX5_take_r1 : List Cond := [Cond.fieldLink RX5 52 "CustomsYardModel" "refused" "I", Cond.fieldLink RX5 7 "CustomsYardModel" "sorts" "[I", Cond.methodLink RX5 72 yX5_isLoad, Cond.instanceMethod yX5_isLoad, Cond.selects RX5 yX5_isLoad yX5_isLoad, Cond.initialized RX5, Cond.code yX5_isLoad cX5_isLoad 2 (some .boolean), Cond.fieldLink RX5 44 "CustomsYardModel" "loads" "I", Cond.methodLink RX5 48 yX5_isIn, Cond.static yX5_isIn, Cond.code yX5_isIn cX5_isIn 3 (some .boolean), Cond.methodLink RX5 94 yX5_isView, Cond.static yX5_isView, Cond.code yX5_isView cX5_isView 1 (some .boolean), Cond.methodLink RX5 68 yX5_no, Cond.instanceMethod yX5_no, Cond.selects RX5 yX5_no yX5_no, Cond.code yX5_no cX5_no 2 (some .int), Cond.fieldLink RX5 55 "CustomsYardModel" "casts" "I", Cond.fieldLink RX5 58 "CustomsYardModel" "indexes" "I", Cond.fieldLink RX5 61 "CustomsYardModel" "stores" "I", Cond.methodLink RX5 88 yX5_goes, Cond.static yX5_goes, Cond.code yX5_goes cX5_goes 2 (some .boolean)]
def wsX5_take_r2 : List Cond := [Cond.methodLink RX5 97 yX5_comes, Cond.instanceMethod yX5_comes, Cond.selects RX5 yX5_comes yX5_comes, Cond.code yX5_comes cX5_comes 3 (some .int), Cond.fieldLink RX5 13 "CustomsYardModel" "sizes" "[I", Cond.fieldLink RX5 16 "CustomsYardModel" "weights" "[I", Cond.methodLink RX5 64 yX5_isSingle, Cond.static yX5_isSingle, Cond.code yX5_isSingle cX5_isSingle 1 (some .boolean)]
def wsX5_take : List Cond := .code yX5_take cX5_take 3 (some .int) :: ((wsX5_take_r1 ++ wsX5_take_r2) ++ wsX50)
def wsX5_sort : List Cond := .code yX5_sort cX5_sort 2 (some .int) :: ([.fieldLink RX5 52 "CustomsYardModel" "refused" "I", .fieldLink RX5 7 "CustomsYardModel" "sorts" "[I", .methodLink RX5 72 yX5_isLoad, .instanceMethod yX5_isLoad, .selects RX5 yX5_isLoad yX5_isLoad, .initialized RX5, .code yX5_isLoad cX5_isLoad 2 (some .boolean), .fieldLink RX5 44 "CustomsYardModel" "loads" "I", .methodLink RX5 48 yX5_isIn, .static yX5_isIn, .code yX5_isIn cX5_isIn 3 (some .boolean), .methodLink RX5 68 yX5_no, .instanceMethod yX5_no, .selects RX5 yX5_no yX5_no, .code yX5_no cX5_no 2 (some .int), .fieldLink RX5 55 "CustomsYardModel" "casts" "I", .fieldLink RX5 58 "CustomsYardModel" "indexes" "I", .fieldLink RX5 61 "CustomsYardModel" "stores" "I"] ++ wsX50)
def wsX5_lay : List Cond := .code yX5_lay cX5_lay 2 none :: ([.fieldLink RX5 41 "CustomsYardModel" "pile" "[I", .fieldLink RX5 101 "CustomsYardModel" "high" "I"] ++ wsX50)
def wsX5_next : List Cond := .code yX5_next cX5_next 3 (some .int) :: ([.fieldLink RX5 101 "CustomsYardModel" "high" "I", .fieldLink RX5 41 "CustomsYardModel" "pile" "[I", .fieldLink RX5 13 "CustomsYardModel" "sizes" "[I", .fieldLink RX5 7 "CustomsYardModel" "sorts" "[I", .fieldLink RX5 23 "CustomsYardModel" "things" "[I", .methodLink RX5 85 yX5_isOfThings, .static yX5_isOfThings, .initialized RX5, .code yX5_isOfThings cX5_isOfThings 1 (some .boolean), .methodLink RX5 48 yX5_isIn, .static yX5_isIn, .code yX5_isIn cX5_isIn 3 (some .boolean), .methodLink RX5 104 yX5_lay, .instanceMethod yX5_lay, .selects RX5 yX5_lay yX5_lay, .code yX5_lay cX5_lay 2 none] ++ wsX50)
def wsX5_weightOf : List Cond := .code yX5_weightOf cX5_weightOf 6 (some .long) :: ([.fieldLink RX5 101 "CustomsYardModel" "high" "I", .fieldLink RX5 16 "CustomsYardModel" "weights" "[I", .fieldLink RX5 13 "CustomsYardModel" "sizes" "[I", .fieldLink RX5 19 "CustomsYardModel" "numbers" "[J", .methodLink RX5 104 yX5_lay, .instanceMethod yX5_lay, .selects RX5 yX5_lay yX5_lay, .initialized RX5, .code yX5_lay cX5_lay 2 none, .fieldLink RX5 41 "CustomsYardModel" "pile" "[I", .methodLink RX5 108 yX5_next, .instanceMethod yX5_next, .selects RX5 yX5_next yX5_next, .code yX5_next cX5_next 3 (some .int), .fieldLink RX5 7 "CustomsYardModel" "sorts" "[I", .fieldLink RX5 23 "CustomsYardModel" "things" "[I", .methodLink RX5 85 yX5_isOfThings, .static yX5_isOfThings, .code yX5_isOfThings cX5_isOfThings 1 (some .boolean), .methodLink RX5 48 yX5_isIn, .static yX5_isIn, .code yX5_isIn cX5_isIn 3 (some .boolean)] ++ wsX50)
def wsX5_weight_r1 : List Cond := [Cond.fieldLink RX5 52 "CustomsYardModel" "refused" "I", Cond.methodLink RX5 72 yX5_isLoad, Cond.instanceMethod yX5_isLoad, Cond.selects RX5 yX5_isLoad yX5_isLoad, Cond.initialized RX5, Cond.code yX5_isLoad cX5_isLoad 2 (some .boolean), Cond.fieldLink RX5 44 "CustomsYardModel" "loads" "I", Cond.methodLink RX5 48 yX5_isIn, Cond.static yX5_isIn, Cond.code yX5_isIn cX5_isIn 3 (some .boolean), Cond.methodLink RX5 112 yX5_weightOf, Cond.instanceMethod yX5_weightOf, Cond.selects RX5 yX5_weightOf yX5_weightOf, Cond.code yX5_weightOf cX5_weightOf 6 (some .long), Cond.fieldLink RX5 101 "CustomsYardModel" "high" "I", Cond.fieldLink RX5 16 "CustomsYardModel" "weights" "[I", Cond.fieldLink RX5 13 "CustomsYardModel" "sizes" "[I", Cond.fieldLink RX5 19 "CustomsYardModel" "numbers" "[J", Cond.methodLink RX5 104 yX5_lay, Cond.instanceMethod yX5_lay, Cond.selects RX5 yX5_lay yX5_lay, Cond.code yX5_lay cX5_lay 2 none, Cond.fieldLink RX5 41 "CustomsYardModel" "pile" "[I", Cond.methodLink RX5 108 yX5_next]
def wsX5_weight_r2 : List Cond := [Cond.instanceMethod yX5_next, Cond.selects RX5 yX5_next yX5_next, Cond.code yX5_next cX5_next 3 (some .int), Cond.fieldLink RX5 7 "CustomsYardModel" "sorts" "[I", Cond.fieldLink RX5 23 "CustomsYardModel" "things" "[I", Cond.methodLink RX5 85 yX5_isOfThings, Cond.static yX5_isOfThings, Cond.code yX5_isOfThings cX5_isOfThings 1 (some .boolean)]
def wsX5_weight : List Cond := .code yX5_weight cX5_weight 2 (some .long) :: ((wsX5_weight_r1 ++ wsX5_weight_r2) ++ wsX50)
def wsX5_inside_r1 : List Cond := [Cond.fieldLink RX5 52 "CustomsYardModel" "refused" "I", Cond.fieldLink RX5 101 "CustomsYardModel" "high" "I", Cond.fieldLink RX5 7 "CustomsYardModel" "sorts" "[I", Cond.methodLink RX5 72 yX5_isLoad, Cond.instanceMethod yX5_isLoad, Cond.selects RX5 yX5_isLoad yX5_isLoad, Cond.initialized RX5, Cond.code yX5_isLoad cX5_isLoad 2 (some .boolean), Cond.fieldLink RX5 44 "CustomsYardModel" "loads" "I", Cond.methodLink RX5 48 yX5_isIn, Cond.static yX5_isIn, Cond.code yX5_isIn cX5_isIn 3 (some .boolean), Cond.methodLink RX5 94 yX5_isView, Cond.static yX5_isView, Cond.code yX5_isView cX5_isView 1 (some .boolean), Cond.methodLink RX5 68 yX5_no, Cond.instanceMethod yX5_no, Cond.selects RX5 yX5_no yX5_no, Cond.code yX5_no cX5_no 2 (some .int), Cond.fieldLink RX5 55 "CustomsYardModel" "casts" "I", Cond.fieldLink RX5 58 "CustomsYardModel" "indexes" "I", Cond.fieldLink RX5 61 "CustomsYardModel" "stores" "I", Cond.methodLink RX5 104 yX5_lay, Cond.instanceMethod yX5_lay]
def wsX5_inside_r2 : List Cond := [Cond.selects RX5 yX5_lay yX5_lay, Cond.code yX5_lay cX5_lay 2 none, Cond.fieldLink RX5 41 "CustomsYardModel" "pile" "[I", Cond.methodLink RX5 108 yX5_next, Cond.instanceMethod yX5_next, Cond.selects RX5 yX5_next yX5_next, Cond.code yX5_next cX5_next 3 (some .int), Cond.fieldLink RX5 13 "CustomsYardModel" "sizes" "[I", Cond.fieldLink RX5 23 "CustomsYardModel" "things" "[I", Cond.methodLink RX5 85 yX5_isOfThings, Cond.static yX5_isOfThings, Cond.code yX5_isOfThings cX5_isOfThings 1 (some .boolean), Cond.methodLink RX5 88 yX5_goes, Cond.static yX5_goes, Cond.code yX5_goes cX5_goes 2 (some .boolean)]
def wsX5_inside : List Cond := .code yX5_inside cX5_inside 5 (some .int) :: ((wsX5_inside_r1 ++ wsX5_inside_r2) ++ wsX50)
def wsX5_hold : List Cond := .code yX5_hold cX5_hold 4 (some .int) :: ([.fieldLink RX5 52 "CustomsYardModel" "refused" "I", .fieldLink RX5 26 "CustomsYardModel" "bays" "[I", .methodLink RX5 48 yX5_isIn, .static yX5_isIn, .initialized RX5, .code yX5_isIn cX5_isIn 3 (some .boolean), .methodLink RX5 72 yX5_isLoad, .instanceMethod yX5_isLoad, .selects RX5 yX5_isLoad yX5_isLoad, .code yX5_isLoad cX5_isLoad 2 (some .boolean), .fieldLink RX5 44 "CustomsYardModel" "loads" "I", .methodLink RX5 68 yX5_no, .instanceMethod yX5_no, .selects RX5 yX5_no yX5_no, .code yX5_no cX5_no 2 (some .int), .fieldLink RX5 55 "CustomsYardModel" "casts" "I", .fieldLink RX5 58 "CustomsYardModel" "indexes" "I", .fieldLink RX5 61 "CustomsYardModel" "stores" "I"] ++ wsX50)
def wsX5_bay_r1 : List Cond := [Cond.fieldLink RX5 52 "CustomsYardModel" "refused" "I", Cond.fieldLink RX5 26 "CustomsYardModel" "bays" "[I", Cond.fieldLink RX5 7 "CustomsYardModel" "sorts" "[I", Cond.methodLink RX5 48 yX5_isIn, Cond.static yX5_isIn, Cond.initialized RX5, Cond.code yX5_isIn cX5_isIn 3 (some .boolean), Cond.methodLink RX5 94 yX5_isView, Cond.static yX5_isView, Cond.code yX5_isView cX5_isView 1 (some .boolean), Cond.methodLink RX5 68 yX5_no, Cond.instanceMethod yX5_no, Cond.selects RX5 yX5_no yX5_no, Cond.code yX5_no cX5_no 2 (some .int), Cond.fieldLink RX5 55 "CustomsYardModel" "casts" "I", Cond.fieldLink RX5 58 "CustomsYardModel" "indexes" "I", Cond.fieldLink RX5 61 "CustomsYardModel" "stores" "I", Cond.methodLink RX5 88 yX5_goes, Cond.static yX5_goes, Cond.code yX5_goes cX5_goes 2 (some .boolean), Cond.methodLink RX5 97 yX5_comes, Cond.instanceMethod yX5_comes, Cond.selects RX5 yX5_comes yX5_comes, Cond.code yX5_comes cX5_comes 3 (some .int)]
def wsX5_bay_r2 : List Cond := [Cond.fieldLink RX5 13 "CustomsYardModel" "sizes" "[I", Cond.fieldLink RX5 16 "CustomsYardModel" "weights" "[I", Cond.methodLink RX5 64 yX5_isSingle, Cond.static yX5_isSingle, Cond.code yX5_isSingle cX5_isSingle 1 (some .boolean)]
def wsX5_bay : List Cond := .code yX5_bay cX5_bay 4 (some .int) :: ((wsX5_bay_r1 ++ wsX5_bay_r2) ++ wsX50)
def wsX5_isGate : List Cond := .code yX5_isGate cX5_isGate 1 (some .boolean) :: ([.methodLink RX5 48 yX5_isIn, .static yX5_isIn, .initialized RX5, .code yX5_isIn cX5_isIn 3 (some .boolean)])
def wsX5_gate : List Cond := .code yX5_gate cX5_gate 4 (some .int) :: ([.fieldLink RX5 52 "CustomsYardModel" "refused" "I", .fieldLink RX5 29 "CustomsYardModel" "gates" "[I", .fieldLink RX5 32 "CustomsYardModel" "sums" "[J", .methodLink RX5 116 yX5_isGate, .static yX5_isGate, .initialized RX5, .code yX5_isGate cX5_isGate 1 (some .boolean), .methodLink RX5 48 yX5_isIn, .static yX5_isIn, .code yX5_isIn cX5_isIn 3 (some .boolean), .methodLink RX5 94 yX5_isView, .static yX5_isView, .code yX5_isView cX5_isView 1 (some .boolean), .methodLink RX5 68 yX5_no, .instanceMethod yX5_no, .selects RX5 yX5_no yX5_no, .code yX5_no cX5_no 2 (some .int), .fieldLink RX5 55 "CustomsYardModel" "casts" "I", .fieldLink RX5 58 "CustomsYardModel" "indexes" "I", .fieldLink RX5 61 "CustomsYardModel" "stores" "I"] ++ wsX50)
def wsX5_pass_r1 : List Cond := [Cond.fieldLink RX5 52 "CustomsYardModel" "refused" "I", Cond.fieldLink RX5 29 "CustomsYardModel" "gates" "[I", Cond.fieldLink RX5 7 "CustomsYardModel" "sorts" "[I", Cond.fieldLink RX5 119 "CustomsYardModel" "away" "I", Cond.fieldLink RX5 32 "CustomsYardModel" "sums" "[J", Cond.methodLink RX5 72 yX5_isLoad, Cond.instanceMethod yX5_isLoad, Cond.selects RX5 yX5_isLoad yX5_isLoad, Cond.initialized RX5, Cond.code yX5_isLoad cX5_isLoad 2 (some .boolean), Cond.fieldLink RX5 44 "CustomsYardModel" "loads" "I", Cond.methodLink RX5 48 yX5_isIn, Cond.static yX5_isIn, Cond.code yX5_isIn cX5_isIn 3 (some .boolean), Cond.methodLink RX5 116 yX5_isGate, Cond.static yX5_isGate, Cond.code yX5_isGate cX5_isGate 1 (some .boolean), Cond.methodLink RX5 68 yX5_no, Cond.instanceMethod yX5_no, Cond.selects RX5 yX5_no yX5_no, Cond.code yX5_no cX5_no 2 (some .int), Cond.fieldLink RX5 55 "CustomsYardModel" "casts" "I", Cond.fieldLink RX5 58 "CustomsYardModel" "indexes" "I", Cond.fieldLink RX5 61 "CustomsYardModel" "stores" "I"]
def wsX5_pass_r2 : List Cond := [Cond.methodLink RX5 88 yX5_goes, Cond.static yX5_goes, Cond.code yX5_goes cX5_goes 2 (some .boolean), Cond.methodLink RX5 112 yX5_weightOf, Cond.instanceMethod yX5_weightOf, Cond.selects RX5 yX5_weightOf yX5_weightOf, Cond.code yX5_weightOf cX5_weightOf 6 (some .long), Cond.fieldLink RX5 101 "CustomsYardModel" "high" "I", Cond.fieldLink RX5 16 "CustomsYardModel" "weights" "[I", Cond.fieldLink RX5 13 "CustomsYardModel" "sizes" "[I", Cond.fieldLink RX5 19 "CustomsYardModel" "numbers" "[J", Cond.methodLink RX5 104 yX5_lay, Cond.instanceMethod yX5_lay, Cond.selects RX5 yX5_lay yX5_lay, Cond.code yX5_lay cX5_lay 2 none, Cond.fieldLink RX5 41 "CustomsYardModel" "pile" "[I", Cond.methodLink RX5 108 yX5_next, Cond.instanceMethod yX5_next, Cond.selects RX5 yX5_next yX5_next, Cond.code yX5_next cX5_next 3 (some .int), Cond.fieldLink RX5 23 "CustomsYardModel" "things" "[I", Cond.methodLink RX5 85 yX5_isOfThings, Cond.static yX5_isOfThings, Cond.code yX5_isOfThings cX5_isOfThings 1 (some .boolean)]
def wsX5_pass : List Cond := .code yX5_pass cX5_pass 3 (some .int) :: ((wsX5_pass_r1 ++ wsX5_pass_r2) ++ wsX50)
def wsX5_passed : List Cond := .code yX5_passed cX5_passed 2 (some .long) :: ([.fieldLink RX5 52 "CustomsYardModel" "refused" "I", .fieldLink RX5 32 "CustomsYardModel" "sums" "[J", .methodLink RX5 116 yX5_isGate, .static yX5_isGate, .initialized RX5, .code yX5_isGate cX5_isGate 1 (some .boolean), .methodLink RX5 48 yX5_isIn, .static yX5_isIn, .code yX5_isIn cX5_isIn 3 (some .boolean)] ++ wsX50)
def wsX5_tariff : List Cond := .code yX5_tariff cX5_tariff 3 (some .int) :: ([.fieldLink RX5 52 "CustomsYardModel" "refused" "I", .fieldLink RX5 122 "CustomsYardModel" "lines" "I", .fieldLink RX5 35 "CustomsYardModel" "views" "[I", .fieldLink RX5 38 "CustomsYardModel" "rates" "[I", .methodLink RX5 94 yX5_isView, .static yX5_isView, .initialized RX5, .code yX5_isView cX5_isView 1 (some .boolean), .methodLink RX5 48 yX5_isIn, .static yX5_isIn, .code yX5_isIn cX5_isIn 3 (some .boolean), .methodLink RX5 68 yX5_no, .instanceMethod yX5_no, .selects RX5 yX5_no yX5_no, .code yX5_no cX5_no 2 (some .int), .fieldLink RX5 55 "CustomsYardModel" "casts" "I", .fieldLink RX5 58 "CustomsYardModel" "indexes" "I", .fieldLink RX5 61 "CustomsYardModel" "stores" "I"] ++ wsX50)
def wsX5_lineOf : List Cond := .code yX5_lineOf cX5_lineOf 3 (some .int) :: ([.fieldLink RX5 122 "CustomsYardModel" "lines" "I", .fieldLink RX5 7 "CustomsYardModel" "sorts" "[I", .fieldLink RX5 35 "CustomsYardModel" "views" "[I", .methodLink RX5 88 yX5_goes, .static yX5_goes, .initialized RX5, .code yX5_goes cX5_goes 2 (some .boolean)] ++ wsX50)
def wsX5_duty_r1 : List Cond := [Cond.fieldLink RX5 52 "CustomsYardModel" "refused" "I", Cond.fieldLink RX5 38 "CustomsYardModel" "rates" "[I", Cond.fieldLink RX5 35 "CustomsYardModel" "views" "[I", Cond.methodLink RX5 72 yX5_isLoad, Cond.instanceMethod yX5_isLoad, Cond.selects RX5 yX5_isLoad yX5_isLoad, Cond.initialized RX5, Cond.code yX5_isLoad cX5_isLoad 2 (some .boolean), Cond.fieldLink RX5 44 "CustomsYardModel" "loads" "I", Cond.methodLink RX5 48 yX5_isIn, Cond.static yX5_isIn, Cond.code yX5_isIn cX5_isIn 3 (some .boolean), Cond.methodLink RX5 125 yX5_lineOf, Cond.instanceMethod yX5_lineOf, Cond.selects RX5 yX5_lineOf yX5_lineOf, Cond.code yX5_lineOf cX5_lineOf 3 (some .int), Cond.fieldLink RX5 122 "CustomsYardModel" "lines" "I", Cond.fieldLink RX5 7 "CustomsYardModel" "sorts" "[I", Cond.methodLink RX5 88 yX5_goes, Cond.static yX5_goes, Cond.code yX5_goes cX5_goes 2 (some .boolean), Cond.methodLink RX5 97 yX5_comes, Cond.instanceMethod yX5_comes, Cond.selects RX5 yX5_comes yX5_comes]
def wsX5_duty_r2 : List Cond := [Cond.code yX5_comes cX5_comes 3 (some .int), Cond.fieldLink RX5 13 "CustomsYardModel" "sizes" "[I", Cond.fieldLink RX5 16 "CustomsYardModel" "weights" "[I", Cond.methodLink RX5 64 yX5_isSingle, Cond.static yX5_isSingle, Cond.code yX5_isSingle cX5_isSingle 1 (some .boolean)]
def wsX5_duty : List Cond := .code yX5_duty cX5_duty 3 (some .int) :: ((wsX5_duty_r1 ++ wsX5_duty_r2) ++ wsX50)
def wsX5_line_r1 : List Cond := [Cond.fieldLink RX5 52 "CustomsYardModel" "refused" "I", Cond.methodLink RX5 72 yX5_isLoad, Cond.instanceMethod yX5_isLoad, Cond.selects RX5 yX5_isLoad yX5_isLoad, Cond.initialized RX5, Cond.code yX5_isLoad cX5_isLoad 2 (some .boolean), Cond.fieldLink RX5 44 "CustomsYardModel" "loads" "I", Cond.methodLink RX5 48 yX5_isIn, Cond.static yX5_isIn, Cond.code yX5_isIn cX5_isIn 3 (some .boolean), Cond.methodLink RX5 125 yX5_lineOf, Cond.instanceMethod yX5_lineOf, Cond.selects RX5 yX5_lineOf yX5_lineOf, Cond.code yX5_lineOf cX5_lineOf 3 (some .int), Cond.fieldLink RX5 122 "CustomsYardModel" "lines" "I", Cond.fieldLink RX5 7 "CustomsYardModel" "sorts" "[I", Cond.fieldLink RX5 35 "CustomsYardModel" "views" "[I", Cond.methodLink RX5 88 yX5_goes, Cond.static yX5_goes, Cond.code yX5_goes cX5_goes 2 (some .boolean), Cond.methodLink RX5 68 yX5_no, Cond.instanceMethod yX5_no, Cond.selects RX5 yX5_no yX5_no, Cond.code yX5_no cX5_no 2 (some .int)]
def wsX5_line_r2 : List Cond := [Cond.fieldLink RX5 55 "CustomsYardModel" "casts" "I", Cond.fieldLink RX5 58 "CustomsYardModel" "indexes" "I", Cond.fieldLink RX5 61 "CustomsYardModel" "stores" "I"]
def wsX5_line : List Cond := .code yX5_line cX5_line 2 (some .int) :: ((wsX5_line_r1 ++ wsX5_line_r2) ++ wsX50)
def wsX5_refused : List Cond := .code yX5_refused cX5_refused 1 (some .int) :: ([.fieldLink RX5 52 "CustomsYardModel" "refused" "I"] ++ wsX50)
def wsX5_count : List Cond := .code yX5_count cX5_count 2 (some .int) :: ([.fieldLink RX5 44 "CustomsYardModel" "loads" "I", .fieldLink RX5 55 "CustomsYardModel" "casts" "I", .fieldLink RX5 58 "CustomsYardModel" "indexes" "I", .fieldLink RX5 61 "CustomsYardModel" "stores" "I", .fieldLink RX5 119 "CustomsYardModel" "away" "I", .fieldLink RX5 122 "CustomsYardModel" "lines" "I"] ++ wsX50)
def wsL_law_r1 : List Cond := [Cond.classLink RL 7 RX4, Cond.instantiable RX4 13, Cond.initialized RX4, Cond.classLink RL 10 RX5, Cond.instantiable RX5 19, Cond.initialized RX5, Cond.methodLink RL 9 yX4_init, Cond.instanceMethod yX4_init, Cond.code yX4_init cX4_init 1 none, Cond.methodLink RX4 1 objectInit, Cond.instanceMethod objectInit, Cond.code objectInit ⟨#[0xb1]⟩ 1 none, Cond.classLink RX4 9 RX0, Cond.fieldLink RX4 11 "CustomsYard" "loads" "[LCustomsYard$Load;", Cond.fieldLink RX4 15 "CustomsYard" "bays" "[LCustomsYard$Load;", Cond.arrayClass .int, Cond.fieldLink RX4 18 "CustomsYard" "gateViews" "[I", Cond.arrayClass .long, Cond.fieldLink RX4 22 "CustomsYard" "gateWeights" "[J", Cond.fieldLink RX4 26 "CustomsYard" "lineViews" "[I", Cond.fieldLink RX4 29 "CustomsYard" "lineRates" "[I", Cond.methodLink RX4 32 yJ7_fill_53178, Cond.static yJ7_fill_53178, Cond.initialized RJ7]
def wsL_law_r2 : List Cond := [Cond.code yJ7_fill_53178 cJ7_fill_53178 4 none, Cond.methodLink RL 12 yX5_init, Cond.instanceMethod yX5_init, Cond.code yX5_init cX5_init 2 none, Cond.methodLink RX5 1 objectInit, Cond.fieldLink RX5 7 "CustomsYardModel" "sorts" "[I", Cond.fieldLink RX5 13 "CustomsYardModel" "sizes" "[I", Cond.fieldLink RX5 16 "CustomsYardModel" "weights" "[I", Cond.fieldLink RX5 19 "CustomsYardModel" "numbers" "[J", Cond.fieldLink RX5 23 "CustomsYardModel" "things" "[I", Cond.fieldLink RX5 26 "CustomsYardModel" "bays" "[I", Cond.fieldLink RX5 29 "CustomsYardModel" "gates" "[I", Cond.fieldLink RX5 32 "CustomsYardModel" "sums" "[J", Cond.fieldLink RX5 35 "CustomsYardModel" "views" "[I", Cond.fieldLink RX5 38 "CustomsYardModel" "rates" "[I", Cond.fieldLink RX5 41 "CustomsYardModel" "pile" "[I", Cond.methodLink RL 13 yX4_load, Cond.instanceMethod yX4_load, Cond.selects RX4 yX4_load yX4_load, Cond.code yX4_load cX4_load 4 (some .int), Cond.fieldLink RX4 38 "CustomsYard" "refusal" "I", Cond.fieldLink RX4 49 "CustomsYard" "loadCount" "I", Cond.methodLink RX4 42 yX4_mostOf, Cond.static yX4_mostOf]
def wsL_law_r3 : List Cond := [Cond.code yX4_mostOf cX4_mostOf 1 (some .int), Cond.methodLink RX4 141 yX4_hasWeightTold, Cond.static yX4_hasWeightTold, Cond.code yX4_hasWeightTold cX4_hasWeightTold 1 (some .boolean), Cond.methodLink RX4 46 yX4_refuse, Cond.instanceMethod yX4_refuse, Cond.selects RX4 yX4_refuse yX4_refuse, Cond.code yX4_refuse cX4_refuse 2 (some .int), Cond.fieldLink RX4 128 "CustomsYard" "casts" "I", Cond.fieldLink RX4 131 "CustomsYard" "indexes" "I", Cond.fieldLink RX4 134 "CustomsYard" "stores" "I", Cond.methodLink RX4 52 yX4_makeLoad, Cond.static yX4_makeLoad, Cond.code yX4_makeLoad cX4_makeLoad 3 (some (.object "CustomsYard$Load")), Cond.classLink RX4 144 RX2, Cond.instantiable RX2 3, Cond.initialized RX2, Cond.classLink RX4 61 RX1, Cond.instantiable RX1 3, Cond.initialized RX1, Cond.classLink RX4 72 RX3, Cond.instantiable RX3 3, Cond.initialized RX3, Cond.methodLink RX4 146 yX2_init]
def wsL_law_r4 : List Cond := [Cond.instanceMethod yX2_init, Cond.code yX2_init cX2_init 4 none, Cond.fieldLink RX2 9 "CustomsYard$Piece" "told" "I", Cond.methodLink RX2 3 yX0_init, Cond.instanceMethod yX0_init, Cond.initialized RX0, Cond.code yX0_init cX0_init 3 none, Cond.methodLink RX0 3 objectInit, Cond.fieldLink RX0 9 "CustomsYard$Load" "number" "I", Cond.fieldLink RX0 15 "CustomsYard$Load" "sort" "I", Cond.methodLink RX4 149 yX1_init, Cond.instanceMethod yX1_init, Cond.code yX1_init cX1_init 4 none, Cond.fieldLink RX1 7 "CustomsYard$Numbers" "places" "[J", Cond.methodLink RX1 1 yX0_init, Cond.methodLink RX4 152 yX3_init, Cond.instanceMethod yX3_init, Cond.code yX3_init cX3_init 4 none, Cond.fieldLink RX3 9 "CustomsYard$Things" "places" "[LCustomsYard$Load;", Cond.methodLink RX3 3 yX0_init, Cond.methodLink RL 17 yX5_load, Cond.instanceMethod yX5_load, Cond.selects RX5 yX5_load yX5_load, Cond.code yX5_load cX5_load 4 (some .int)]
def wsL_law_r5 : List Cond := [Cond.fieldLink RX5 52 "CustomsYardModel" "refused" "I", Cond.fieldLink RX5 44 "CustomsYardModel" "loads" "I", Cond.methodLink RX5 48 yX5_isIn, Cond.static yX5_isIn, Cond.code yX5_isIn cX5_isIn 3 (some .boolean), Cond.methodLink RX5 64 yX5_isSingle, Cond.static yX5_isSingle, Cond.code yX5_isSingle cX5_isSingle 1 (some .boolean), Cond.methodLink RX5 68 yX5_no, Cond.instanceMethod yX5_no, Cond.selects RX5 yX5_no yX5_no, Cond.code yX5_no cX5_no 2 (some .int), Cond.fieldLink RX5 55 "CustomsYardModel" "casts" "I", Cond.fieldLink RX5 58 "CustomsYardModel" "indexes" "I", Cond.fieldLink RX5 61 "CustomsYardModel" "stores" "I", Cond.methodLink RL 18 yX4_set, Cond.instanceMethod yX4_set, Cond.selects RX4 yX4_set yX4_set, Cond.code yX4_set cX4_set 5 (some .int), Cond.fieldLink RX4 60 "CustomsYard$Numbers" "places" "[J", Cond.fieldLink RX4 65 "CustomsYard$Numbers" "sort" "I", Cond.sameField "CustomsYard$Numbers" "CustomsYard$Load" "sort" "I", Cond.methodLink RX4 56 yX4_numbersWith, Cond.instanceMethod yX4_numbersWith]
def wsL_law_r6 : List Cond := [Cond.selects RX4 yX4_numbersWith yX4_numbersWith, Cond.code yX4_numbersWith cX4_numbersWith 5 (some (.object "CustomsYard$Numbers")), Cond.classLink RX4 61 "CustomsYard$Numbers", Cond.methodLink RX4 68 yX4_find, Cond.instanceMethod yX4_find, Cond.selects RX4 yX4_find yX4_find, Cond.code yX4_find cX4_find 2 (some (.object "CustomsYard$Load")), Cond.methodLink RX4 137 yX1_hasPlace, Cond.instanceMethod yX1_hasPlace, Cond.selects RX1 yX1_hasPlace yX1_hasPlace, Cond.code yX1_hasPlace cX1_hasPlace 2 (some .boolean), Cond.methodLink RL 22 yX5_set, Cond.instanceMethod yX5_set, Cond.selects RX5 yX5_set yX5_set, Cond.code yX5_set cX5_set 4 (some .int), Cond.methodLink RX5 72 yX5_isLoad, Cond.instanceMethod yX5_isLoad, Cond.selects RX5 yX5_isLoad yX5_isLoad, Cond.code yX5_isLoad cX5_isLoad 2 (some .boolean), Cond.methodLink RX5 75 yX5_isOfNumbers, Cond.static yX5_isOfNumbers, Cond.code yX5_isOfNumbers cX5_isOfNumbers 1 (some .boolean), Cond.methodLink RX5 78 yX5_isPlace, Cond.instanceMethod yX5_isPlace]
def wsL_law_r7 : List Cond := [Cond.selects RX5 yX5_isPlace yX5_isPlace, Cond.code yX5_isPlace cX5_isPlace 3 (some .boolean), Cond.methodLink RL 23 yX4_number, Cond.instanceMethod yX4_number, Cond.selects RX4 yX4_number yX4_number, Cond.code yX4_number cX4_number 4 (some .long), Cond.methodLink RL 27 yX5_number, Cond.instanceMethod yX5_number, Cond.selects RX5 yX5_number yX5_number, Cond.code yX5_number cX5_number 4 (some .long), Cond.methodLink RL 28 yX4_put, Cond.instanceMethod yX4_put, Cond.selects RX4 yX4_put yX4_put, Cond.code yX4_put cX4_put 7 (some .int), Cond.classLink RX4 72 "CustomsYard$Things", Cond.fieldLink RX4 88 "CustomsYard$Things" "places" "[LCustomsYard$Load;", Cond.methodLink RX4 74 yX3_viewAsked, Cond.instanceMethod yX3_viewAsked, Cond.selects RX3 yX3_viewAsked yX3_viewAsked, Cond.code yX3_viewAsked cX3_viewAsked 1 (some .int), Cond.fieldLink RX3 15 "CustomsYard$Things" "sort" "I", Cond.sameField "CustomsYard$Things" "CustomsYard$Load" "sort" "I", Cond.methodLink RX4 78 ⟨"CustomsYard$Load", "goesAs", "(I)Z"⟩, Cond.sameMethod "CustomsYard$Load" "CustomsYard$Load" "goesAs" "(I)Z"]
def wsL_law_r8 : List Cond := [Cond.selects RX1 ⟨"CustomsYard$Load", "goesAs", "(I)Z"⟩ yX0_goesAs, Cond.instanceMethod yX0_goesAs, Cond.code yX0_goesAs cX0_goesAs 2 (some .boolean), Cond.selects RX2 ⟨"CustomsYard$Load", "goesAs", "(I)Z"⟩ yX0_goesAs, Cond.selects RX3 ⟨"CustomsYard$Load", "goesAs", "(I)Z"⟩ yX0_goesAs, Cond.methodLink RX4 82 yX3_hasPlace, Cond.instanceMethod yX3_hasPlace, Cond.selects RX3 yX3_hasPlace yX3_hasPlace, Cond.code yX3_hasPlace cX3_hasPlace 2 (some .boolean), Cond.methodLink RX4 85 yX3_viewKept, Cond.instanceMethod yX3_viewKept, Cond.selects RX3 yX3_viewKept yX3_viewKept, Cond.code yX3_viewKept cX3_viewKept 1 (some .int), Cond.methodLink RX3 19 yX3_viewAsked, Cond.methodLink RL 31 yX5_put, Cond.instanceMethod yX5_put, Cond.selects RX5 yX5_put yX5_put, Cond.code yX5_put cX5_put 5 (some .int), Cond.methodLink RX5 85 yX5_isOfThings, Cond.static yX5_isOfThings, Cond.code yX5_isOfThings cX5_isOfThings 1 (some .boolean), Cond.methodLink RX5 82 yX5_wanted, Cond.static yX5_wanted, Cond.code yX5_wanted cX5_wanted 1 (some .int)]
def wsL_law_r9 : List Cond := [Cond.methodLink RX5 88 yX5_goes, Cond.static yX5_goes, Cond.code yX5_goes cX5_goes 2 (some .boolean), Cond.methodLink RX5 91 yX5_had, Cond.static yX5_had, Cond.code yX5_had cX5_had 1 (some .int), Cond.methodLink RL 32 yX4_at, Cond.instanceMethod yX4_at, Cond.selects RX4 yX4_at yX4_at, Cond.code yX4_at cX4_at 5 (some .int), Cond.methodLink RX4 90 yX4_numberOf, Cond.static yX4_numberOf, Cond.code yX4_numberOf cX4_numberOf 1 (some .int), Cond.fieldLink RX4 138 "CustomsYard$Load" "number" "I", Cond.methodLink RL 35 yX5_at, Cond.instanceMethod yX5_at, Cond.selects RX5 yX5_at yX5_at, Cond.code yX5_at cX5_at 3 (some .int), Cond.methodLink RL 36 yX4_is, Cond.instanceMethod yX4_is, Cond.selects RX4 yX4_is yX4_is, Cond.code yX4_is cX4_is 4 (some .int), Cond.methodLink RX4 94 yX4_isView, Cond.static yX4_isView]
def wsL_law_r10 : List Cond := [Cond.code yX4_isView cX4_isView 1 (some .boolean), Cond.methodLink RL 39 yX5_is, Cond.instanceMethod yX5_is, Cond.selects RX5 yX5_is yX5_is, Cond.code yX5_is cX5_is 3 (some .int), Cond.methodLink RX5 94 yX5_isView, Cond.static yX5_isView, Cond.code yX5_isView cX5_isView 1 (some .boolean), Cond.methodLink RL 40 yX4_take, Cond.instanceMethod yX4_take, Cond.selects RX4 yX4_take yX4_take, Cond.code yX4_take cX4_take 4 (some .int), Cond.methodLink RX4 97 yX4_takeAs, Cond.instanceMethod yX4_takeAs, Cond.selects RX4 yX4_takeAs yX4_takeAs, Cond.code yX4_takeAs cX4_takeAs 3 (some .int), Cond.methodLink RX4 125 ⟨"CustomsYard$Load", "comesAs", "(I)I"⟩, Cond.sameMethod "CustomsYard$Load" "CustomsYard$Load" "comesAs" "(I)I", Cond.selects RX1 ⟨"CustomsYard$Load", "comesAs", "(I)I"⟩ yX1_comesAs, Cond.instanceMethod yX1_comesAs, Cond.code yX1_comesAs cX1_comesAs 2 (some .int), Cond.selects RX2 ⟨"CustomsYard$Load", "comesAs", "(I)I"⟩ yX2_comesAs, Cond.instanceMethod yX2_comesAs, Cond.code yX2_comesAs cX2_comesAs 2 (some .int)]
def wsL_law_r11 : List Cond := [Cond.methodLink RX2 15 yX2_declaration, Cond.instanceMethod yX2_declaration, Cond.selects RX2 yX2_declaration yX2_declaration, Cond.code yX2_declaration cX2_declaration 1 (some .int), Cond.fieldLink RX2 19 "CustomsYard$Piece" "sort" "I", Cond.sameField "CustomsYard$Piece" "CustomsYard$Load" "sort" "I", Cond.selects RX3 ⟨"CustomsYard$Load", "comesAs", "(I)I"⟩ yX3_comesAs, Cond.instanceMethod yX3_comesAs, Cond.code yX3_comesAs cX3_comesAs 2 (some .int), Cond.methodLink RL 43 yX5_take, Cond.instanceMethod yX5_take, Cond.selects RX5 yX5_take yX5_take, Cond.code yX5_take cX5_take 3 (some .int), Cond.methodLink RX5 97 yX5_comes, Cond.instanceMethod yX5_comes, Cond.selects RX5 yX5_comes yX5_comes, Cond.code yX5_comes cX5_comes 3 (some .int), Cond.methodLink RL 44 yX4_sort, Cond.instanceMethod yX4_sort, Cond.selects RX4 yX4_sort yX4_sort, Cond.code yX4_sort cX4_sort 3 (some .int), Cond.fieldLink RX4 101 "CustomsYard$Load" "sort" "I", Cond.methodLink RL 48 yX5_sort, Cond.instanceMethod yX5_sort]
def wsL_law_r12 : List Cond := [Cond.selects RX5 yX5_sort yX5_sort, Cond.code yX5_sort cX5_sort 2 (some .int), Cond.methodLink RL 49 yX4_weight, Cond.instanceMethod yX4_weight, Cond.selects RX4 yX4_weight yX4_weight, Cond.code yX4_weight cX4_weight 3 (some .long), Cond.methodLink RX4 102 ⟨"CustomsYard$Load", "weigh", "(I)J"⟩, Cond.sameMethod "CustomsYard$Load" "CustomsYard$Load" "weigh" "(I)J", Cond.selects RX1 ⟨"CustomsYard$Load", "weigh", "(I)J"⟩ yX1_weigh, Cond.instanceMethod yX1_weigh, Cond.code yX1_weigh cX1_weigh 9 (some .long), Cond.selects RX2 ⟨"CustomsYard$Load", "weigh", "(I)J"⟩ yX2_weigh, Cond.instanceMethod yX2_weigh, Cond.code yX2_weigh cX2_weigh 2 (some .long), Cond.selects RX3 ⟨"CustomsYard$Load", "weigh", "(I)J"⟩ yX3_weigh, Cond.instanceMethod yX3_weigh, Cond.code yX3_weigh cX3_weigh 8 (some .long), Cond.methodLink RX3 23 ⟨"CustomsYard$Load", "weigh", "(I)J"⟩, Cond.methodLink RL 53 yX5_weight, Cond.instanceMethod yX5_weight, Cond.selects RX5 yX5_weight yX5_weight, Cond.code yX5_weight cX5_weight 2 (some .long), Cond.methodLink RX5 112 yX5_weightOf, Cond.instanceMethod yX5_weightOf]
def wsL_law_r13 : List Cond := [Cond.selects RX5 yX5_weightOf yX5_weightOf, Cond.code yX5_weightOf cX5_weightOf 6 (some .long), Cond.fieldLink RX5 101 "CustomsYardModel" "high" "I", Cond.methodLink RX5 104 yX5_lay, Cond.instanceMethod yX5_lay, Cond.selects RX5 yX5_lay yX5_lay, Cond.code yX5_lay cX5_lay 2 none, Cond.methodLink RX5 108 yX5_next, Cond.instanceMethod yX5_next, Cond.selects RX5 yX5_next yX5_next, Cond.code yX5_next cX5_next 3 (some .int), Cond.methodLink RL 54 yX4_inside, Cond.instanceMethod yX4_inside, Cond.selects RX4 yX4_inside yX4_inside, Cond.code yX4_inside cX4_inside 4 (some .int), Cond.methodLink RX4 106 ⟨"CustomsYard$Load", "tally", "(II)I"⟩, Cond.sameMethod "CustomsYard$Load" "CustomsYard$Load" "tally" "(II)I", Cond.selects RX1 ⟨"CustomsYard$Load", "tally", "(II)I"⟩ yX0_tally, Cond.instanceMethod yX0_tally, Cond.code yX0_tally cX0_tally 3 (some .int), Cond.methodLink RX0 18 ⟨"CustomsYard$Load", "goesAs", "(I)Z"⟩, Cond.selects RX2 ⟨"CustomsYard$Load", "tally", "(II)I"⟩ yX0_tally, Cond.instanceMethod ⟨"CustomsYard$Load", "tally", "(II)I"⟩, Cond.selects RX3 ⟨"CustomsYard$Load", "tally", "(II)I"⟩ yX3_tally]
def wsL_law_r14 : List Cond := [Cond.instanceMethod yX3_tally, Cond.code yX3_tally cX3_tally 8 (some .int), Cond.methodLink RX3 27 ⟨"CustomsYard$Things", "goesAs", "(I)Z"⟩, Cond.sameMethod "CustomsYard$Things" "CustomsYard$Load" "goesAs" "(I)Z", Cond.selects RX3 ⟨"CustomsYard$Things", "goesAs", "(I)Z"⟩ yX0_goesAs, Cond.methodLink RX3 31 ⟨"CustomsYard$Load", "tally", "(II)I"⟩, Cond.methodLink RL 57 yX5_inside, Cond.instanceMethod yX5_inside, Cond.selects RX5 yX5_inside yX5_inside, Cond.code yX5_inside cX5_inside 5 (some .int), Cond.methodLink RL 58 yX4_hold, Cond.instanceMethod yX4_hold, Cond.selects RX4 yX4_hold yX4_hold, Cond.code yX4_hold cX4_hold 5 (some .int), Cond.methodLink RX4 110 yX4_isBay, Cond.static yX4_isBay, Cond.code yX4_isBay cX4_isBay 1 (some .boolean), Cond.methodLink RL 61 yX5_hold, Cond.instanceMethod yX5_hold, Cond.selects RX5 yX5_hold yX5_hold, Cond.code yX5_hold cX5_hold 4 (some .int), Cond.methodLink RL 62 yX4_bay, Cond.instanceMethod yX4_bay, Cond.selects RX4 yX4_bay yX4_bay]
def wsL_law_r15 : List Cond := [Cond.code yX4_bay cX4_bay 4 (some .int), Cond.methodLink RL 65 yX5_bay, Cond.instanceMethod yX5_bay, Cond.selects RX5 yX5_bay yX5_bay, Cond.code yX5_bay cX5_bay 4 (some .int), Cond.methodLink RL 66 yX4_gate, Cond.instanceMethod yX4_gate, Cond.selects RX4 yX4_gate yX4_gate, Cond.code yX4_gate cX4_gate 4 (some .int), Cond.methodLink RX4 113 yX4_isGate, Cond.static yX4_isGate, Cond.code yX4_isGate cX4_isGate 1 (some .boolean), Cond.methodLink RL 69 yX5_gate, Cond.instanceMethod yX5_gate, Cond.selects RX5 yX5_gate yX5_gate, Cond.code yX5_gate cX5_gate 4 (some .int), Cond.methodLink RX5 116 yX5_isGate, Cond.static yX5_isGate, Cond.code yX5_isGate cX5_isGate 1 (some .boolean), Cond.methodLink RL 70 yX4_pass, Cond.instanceMethod yX4_pass, Cond.selects RX4 yX4_pass yX4_pass, Cond.code yX4_pass cX4_pass 4 (some .int), Cond.fieldLink RX4 116 "CustomsYard" "turnedAway" "I"]
def wsL_law_r16 : List Cond := [Cond.methodLink RL 73 yX5_pass, Cond.instanceMethod yX5_pass, Cond.selects RX5 yX5_pass yX5_pass, Cond.code yX5_pass cX5_pass 3 (some .int), Cond.fieldLink RX5 119 "CustomsYardModel" "away" "I", Cond.methodLink RL 74 yX4_passed, Cond.instanceMethod yX4_passed, Cond.selects RX4 yX4_passed yX4_passed, Cond.code yX4_passed cX4_passed 2 (some .long), Cond.methodLink RL 77 yX5_passed, Cond.instanceMethod yX5_passed, Cond.selects RX5 yX5_passed yX5_passed, Cond.code yX5_passed cX5_passed 2 (some .long), Cond.methodLink RL 78 yX4_tariff, Cond.instanceMethod yX4_tariff, Cond.selects RX4 yX4_tariff yX4_tariff, Cond.code yX4_tariff cX4_tariff 3 (some .int), Cond.fieldLink RX4 119 "CustomsYard" "lineCount" "I", Cond.methodLink RL 81 yX5_tariff, Cond.instanceMethod yX5_tariff, Cond.selects RX5 yX5_tariff yX5_tariff, Cond.code yX5_tariff cX5_tariff 3 (some .int), Cond.fieldLink RX5 122 "CustomsYardModel" "lines" "I", Cond.methodLink RL 82 yX4_duty]
def wsL_law_r17 : List Cond := [Cond.instanceMethod yX4_duty, Cond.selects RX4 yX4_duty yX4_duty, Cond.code yX4_duty cX4_duty 4 (some .int), Cond.methodLink RX4 122 yX4_lineFor, Cond.instanceMethod yX4_lineFor, Cond.selects RX4 yX4_lineFor yX4_lineFor, Cond.code yX4_lineFor cX4_lineFor 3 (some .int), Cond.methodLink RL 85 yX5_duty, Cond.instanceMethod yX5_duty, Cond.selects RX5 yX5_duty yX5_duty, Cond.code yX5_duty cX5_duty 3 (some .int), Cond.methodLink RX5 125 yX5_lineOf, Cond.instanceMethod yX5_lineOf, Cond.selects RX5 yX5_lineOf yX5_lineOf, Cond.code yX5_lineOf cX5_lineOf 3 (some .int), Cond.methodLink RL 86 yX4_line, Cond.instanceMethod yX4_line, Cond.selects RX4 yX4_line yX4_line, Cond.code yX4_line cX4_line 3 (some .int), Cond.methodLink RL 89 yX5_line, Cond.instanceMethod yX5_line, Cond.selects RX5 yX5_line yX5_line, Cond.code yX5_line cX5_line 2 (some .int), Cond.methodLink RL 90 yX4_refused]
def wsL_law_r18 : List Cond := [Cond.instanceMethod yX4_refused, Cond.selects RX4 yX4_refused yX4_refused, Cond.code yX4_refused cX4_refused 1 (some .int), Cond.methodLink RL 94 yX5_refused, Cond.instanceMethod yX5_refused, Cond.selects RX5 yX5_refused yX5_refused, Cond.code yX5_refused cX5_refused 1 (some .int), Cond.methodLink RL 95 yX4_count, Cond.instanceMethod yX4_count, Cond.selects RX4 yX4_count yX4_count, Cond.code yX4_count cX4_count 2 (some .int), Cond.methodLink RL 98 yX5_count, Cond.instanceMethod yX5_count, Cond.selects RX5 yX5_count yX5_count, Cond.code yX5_count cX5_count 2 (some .int)]
def wsL_law : List Cond := (wsL_law_r1 ++ (wsL_law_r2 ++ (wsL_law_r3 ++ (wsL_law_r4 ++ (wsL_law_r5 ++ (wsL_law_r6 ++ (wsL_law_r7 ++ (wsL_law_r8 ++ (wsL_law_r9 ++ (wsL_law_r10 ++ (wsL_law_r11 ++ (wsL_law_r12 ++ (wsL_law_r13 ++ (wsL_law_r14 ++ (wsL_law_r15 ++ (wsL_law_r16 ++ (wsL_law_r17 ++ wsL_law_r18))))))))))))))))) ++ wsX40 ++ wsX50 ++ wsX20 ++ wsX10 ++ wsX30 ++ ([] : List Cond)
set_option maxRecDepth 20000 in
theorem wsL_law_in : ∀ w ∈ wsL_law, w ∈ lw_tbl := fun w h => (goodIn_p wsL_law [26, 29, 34, 323, 80, 83, 86, 90, 93, 98, 101, 125, 138, 386, 389, 392, 396, 150, 154, 158, 162, 400, 404, 407, 411, 166, 415, 170, 174, 181, 185, 189, 419, 422, 425, 428, 431, 194, 197, 435, 201, 204, 439, 442, 208, 212, 218, 221, 225, 228, 446, 450, 232, 454, 236, 242, 245, 248, 458, 462, 466, 470, 253, 267, 261, 474, 272, 275, 478, 279, 482, 283, 286, 486, 489, 290, 493, 294, 497, 298, 501, 302, 306, 505, 509, 310, 513, 314, 517, 318, 521] (by decide +kernel) (by decide +kernel) w h).1
theorem inX0 : ∀ w ∈ wsX00, w ∈ lw_tbl := by decide +kernel
theorem inlX1 : ∀ w ∈ wsX10, w ∈ wsL_law := fun _ h => List.mem_append_left _ (List.mem_append_left _ (List.mem_append_right _ h))
theorem inX1 : ∀ w ∈ wsX10, w ∈ lw_tbl := fun w h => wsL_law_in w (inlX1 w h)
theorem inlX2 : ∀ w ∈ wsX20, w ∈ wsL_law := fun _ h => List.mem_append_left _ (List.mem_append_left _ (List.mem_append_left _ (List.mem_append_right _ h)))
theorem inX2 : ∀ w ∈ wsX20, w ∈ lw_tbl := fun w h => wsL_law_in w (inlX2 w h)
theorem inlX3 : ∀ w ∈ wsX30, w ∈ wsL_law := fun _ h => List.mem_append_left _ (List.mem_append_right _ h)
theorem inX3 : ∀ w ∈ wsX30, w ∈ lw_tbl := fun w h => wsL_law_in w (inlX3 w h)
theorem inlX4 : ∀ w ∈ wsX40, w ∈ wsL_law := fun _ h => List.mem_append_left _ (List.mem_append_left _ (List.mem_append_left _ (List.mem_append_left _ (List.mem_append_left _ (List.mem_append_right _ h)))))
theorem inX4 : ∀ w ∈ wsX40, w ∈ lw_tbl := fun w h => wsL_law_in w (inlX4 w h)
theorem inlX5 : ∀ w ∈ wsX50, w ∈ wsL_law := fun _ h => List.mem_append_left _ (List.mem_append_left _ (List.mem_append_left _ (List.mem_append_left _ (List.mem_append_right _ h))))
theorem inX5 : ∀ w ∈ wsX50, w ∈ lw_tbl := fun w h => wsL_law_in w (inlX5 w h)
theorem inJ7 : ∀ w ∈ wsJ70, w ∈ lw_tbl := by decide +kernel
abbrev vwCl : List vw_C := [(RX1, TX1, 3), (RX2, TX2, 3), (RX3, TX3, 3), (RX4, TX4, 13), (RX5, TX5, 19)]
end
section
theorem dX0_init_0 : decode cX0_init 0 = .ok (.aload_n 0, 1) := by decide +kernel
theorem dX0_init_1 : decode cX0_init 1 = .ok (.invokespecial 3, 3) := by decide +kernel
theorem dX0_init_4 : decode cX0_init 4 = .ok (.aload_n 0, 1) := by decide +kernel
theorem dX0_init_5 : decode cX0_init 5 = .ok (.iload_n 1, 1) := by decide +kernel
theorem dX0_init_6 : decode cX0_init 6 = .ok (.putfield 9, 3) := by decide +kernel
theorem dX0_init_9 : decode cX0_init 9 = .ok (.aload_n 0, 1) := by decide +kernel
theorem dX0_init_10 : decode cX0_init 10 = .ok (.iload_n 2, 1) := by decide +kernel
theorem dX0_init_11 : decode cX0_init 11 = .ok (.putfield 15, 3) := by decide +kernel
theorem dX0_init_14 : decode cX0_init 14 = .ok (.return_, 1) := by decide +kernel
theorem dX0_goesAs_0 : decode cX0_goesAs 0 = .ok (.aload_n 0, 1) := by decide +kernel
theorem dX0_goesAs_1 : decode cX0_goesAs 1 = .ok (.getfield 15, 3) := by decide +kernel
theorem dX0_goesAs_4 : decode cX0_goesAs 4 = .ok (.tableswitch 132 5 11 #[44, 66, 132, 84, 132, 132, 108], 44) := by decide +kernel
theorem dX0_goesAs_48 : decode cX0_goesAs 48 = .ok (.iload_n 1, 1) := by decide +kernel
theorem dX0_goesAs_49 : decode cX0_goesAs 49 = .ok (.iconst 5, 1) := by decide +kernel
theorem dX0_goesAs_50 : decode cX0_goesAs 50 = .ok (.if_icmp .eq 14, 3) := by decide +kernel
theorem dX0_goesAs_53 : decode cX0_goesAs 53 = .ok (.iload_n 1, 1) := by decide +kernel
theorem dX0_goesAs_54 : decode cX0_goesAs 54 = .ok (.iconst 4, 1) := by decide +kernel
theorem dX0_goesAs_55 : decode cX0_goesAs 55 = .ok (.if_icmp .eq 9, 3) := by decide +kernel
theorem dX0_goesAs_58 : decode cX0_goesAs 58 = .ok (.iload_n 1, 1) := by decide +kernel
theorem dX0_goesAs_59 : decode cX0_goesAs 59 = .ok (.bipush 13, 2) := by decide +kernel
theorem dX0_goesAs_61 : decode cX0_goesAs 61 = .ok (.if_icmp .ne 7, 3) := by decide +kernel
theorem dX0_goesAs_64 : decode cX0_goesAs 64 = .ok (.iconst 1, 1) := by decide +kernel
theorem dX0_goesAs_65 : decode cX0_goesAs 65 = .ok (.goto 4, 3) := by decide +kernel
theorem dX0_goesAs_68 : decode cX0_goesAs 68 = .ok (.iconst 0, 1) := by decide +kernel
theorem dX0_goesAs_69 : decode cX0_goesAs 69 = .ok (.ireturn, 1) := by decide +kernel
theorem dX0_goesAs_70 : decode cX0_goesAs 70 = .ok (.iload_n 1, 1) := by decide +kernel
theorem dX0_goesAs_71 : decode cX0_goesAs 71 = .ok (.bipush 6, 2) := by decide +kernel
theorem dX0_goesAs_73 : decode cX0_goesAs 73 = .ok (.if_icmp .eq 9, 3) := by decide +kernel
theorem dX0_goesAs_76 : decode cX0_goesAs 76 = .ok (.iload_n 1, 1) := by decide +kernel
theorem dX0_goesAs_77 : decode cX0_goesAs 77 = .ok (.bipush 13, 2) := by decide +kernel
theorem dX0_goesAs_79 : decode cX0_goesAs 79 = .ok (.if_icmp .ne 7, 3) := by decide +kernel
theorem dX0_goesAs_82 : decode cX0_goesAs 82 = .ok (.iconst 1, 1) := by decide +kernel
theorem dX0_goesAs_83 : decode cX0_goesAs 83 = .ok (.goto 4, 3) := by decide +kernel
theorem dX0_goesAs_86 : decode cX0_goesAs 86 = .ok (.iconst 0, 1) := by decide +kernel
theorem dX0_goesAs_87 : decode cX0_goesAs 87 = .ok (.ireturn, 1) := by decide +kernel
theorem dX0_goesAs_88 : decode cX0_goesAs 88 = .ok (.iload_n 1, 1) := by decide +kernel
theorem dX0_goesAs_89 : decode cX0_goesAs 89 = .ok (.bipush 8, 2) := by decide +kernel
theorem dX0_goesAs_91 : decode cX0_goesAs 91 = .ok (.if_icmp .eq 15, 3) := by decide +kernel
theorem dX0_goesAs_94 : decode cX0_goesAs 94 = .ok (.iload_n 1, 1) := by decide +kernel
theorem dX0_goesAs_95 : decode cX0_goesAs 95 = .ok (.bipush 7, 2) := by decide +kernel
theorem dX0_goesAs_97 : decode cX0_goesAs 97 = .ok (.if_icmp .eq 9, 3) := by decide +kernel
theorem dX0_goesAs_100 : decode cX0_goesAs 100 = .ok (.iload_n 1, 1) := by decide +kernel
theorem dX0_goesAs_101 : decode cX0_goesAs 101 = .ok (.bipush 9, 2) := by decide +kernel
theorem dX0_goesAs_103 : decode cX0_goesAs 103 = .ok (.if_icmp .ne 7, 3) := by decide +kernel
theorem dX0_goesAs_106 : decode cX0_goesAs 106 = .ok (.iconst 1, 1) := by decide +kernel
theorem dX0_goesAs_107 : decode cX0_goesAs 107 = .ok (.goto 4, 3) := by decide +kernel
theorem dX0_goesAs_110 : decode cX0_goesAs 110 = .ok (.iconst 0, 1) := by decide +kernel
theorem dX0_goesAs_111 : decode cX0_goesAs 111 = .ok (.ireturn, 1) := by decide +kernel
theorem dX0_goesAs_112 : decode cX0_goesAs 112 = .ok (.iload_n 1, 1) := by decide +kernel
theorem dX0_goesAs_113 : decode cX0_goesAs 113 = .ok (.bipush 11, 2) := by decide +kernel
theorem dX0_goesAs_115 : decode cX0_goesAs 115 = .ok (.if_icmp .eq 15, 3) := by decide +kernel
theorem dX0_goesAs_118 : decode cX0_goesAs 118 = .ok (.iload_n 1, 1) := by decide +kernel
theorem dX0_goesAs_119 : decode cX0_goesAs 119 = .ok (.bipush 10, 2) := by decide +kernel
theorem dX0_goesAs_121 : decode cX0_goesAs 121 = .ok (.if_icmp .eq 9, 3) := by decide +kernel
theorem dX0_goesAs_124 : decode cX0_goesAs 124 = .ok (.iload_n 1, 1) := by decide +kernel
theorem dX0_goesAs_125 : decode cX0_goesAs 125 = .ok (.bipush 12, 2) := by decide +kernel
theorem dX0_goesAs_127 : decode cX0_goesAs 127 = .ok (.if_icmp .ne 7, 3) := by decide +kernel
theorem dX0_goesAs_130 : decode cX0_goesAs 130 = .ok (.iconst 1, 1) := by decide +kernel
theorem dX0_goesAs_131 : decode cX0_goesAs 131 = .ok (.goto 4, 3) := by decide +kernel
theorem dX0_goesAs_134 : decode cX0_goesAs 134 = .ok (.iconst 0, 1) := by decide +kernel
theorem dX0_goesAs_135 : decode cX0_goesAs 135 = .ok (.ireturn, 1) := by decide +kernel
theorem dX0_goesAs_136 : decode cX0_goesAs 136 = .ok (.iload_n 1, 1) := by decide +kernel
theorem dX0_goesAs_137 : decode cX0_goesAs 137 = .ok (.aload_n 0, 1) := by decide +kernel
theorem dX0_goesAs_138 : decode cX0_goesAs 138 = .ok (.getfield 15, 3) := by decide +kernel
theorem dX0_goesAs_141 : decode cX0_goesAs 141 = .ok (.if_icmp .ne 7, 3) := by decide +kernel
theorem dX0_goesAs_144 : decode cX0_goesAs 144 = .ok (.iconst 1, 1) := by decide +kernel
theorem dX0_goesAs_145 : decode cX0_goesAs 145 = .ok (.goto 4, 3) := by decide +kernel
theorem dX0_goesAs_148 : decode cX0_goesAs 148 = .ok (.iconst 0, 1) := by decide +kernel
theorem dX0_goesAs_149 : decode cX0_goesAs 149 = .ok (.ireturn, 1) := by decide +kernel
theorem dX0_tally_0 : decode cX0_tally 0 = .ok (.aload_n 0, 1) := by decide +kernel
theorem dX0_tally_1 : decode cX0_tally 1 = .ok (.iload_n 1, 1) := by decide +kernel
theorem dX0_tally_2 : decode cX0_tally 2 = .ok (.invokevirtual 18, 3) := by decide +kernel
theorem dX0_tally_5 : decode cX0_tally 5 = .ok (.ifCond .eq 7, 3) := by decide +kernel
theorem dX0_tally_8 : decode cX0_tally 8 = .ok (.iconst 1, 1) := by decide +kernel
theorem dX0_tally_9 : decode cX0_tally 9 = .ok (.goto 4, 3) := by decide +kernel
theorem dX0_tally_12 : decode cX0_tally 12 = .ok (.iconst 0, 1) := by decide +kernel
theorem dX0_tally_13 : decode cX0_tally 13 = .ok (.ireturn, 1) := by decide +kernel
theorem dX1_init_0 : decode cX1_init 0 = .ok (.aload_n 0, 1) := by decide +kernel
theorem dX1_init_1 : decode cX1_init 1 = .ok (.iload_n 1, 1) := by decide +kernel
theorem dX1_init_2 : decode cX1_init 2 = .ok (.iload_n 2, 1) := by decide +kernel
theorem dX1_init_3 : decode cX1_init 3 = .ok (.invokespecial 1, 3) := by decide +kernel
theorem dX1_init_6 : decode cX1_init 6 = .ok (.aload_n 0, 1) := by decide +kernel
theorem dX1_init_7 : decode cX1_init 7 = .ok (.aload_n 3, 1) := by decide +kernel
theorem dX1_init_8 : decode cX1_init 8 = .ok (.putfield 7, 3) := by decide +kernel
theorem dX1_init_11 : decode cX1_init 11 = .ok (.return_, 1) := by decide +kernel
theorem dX1_hasPlace_0 : decode cX1_hasPlace 0 = .ok (.iload_n 1, 1) := by decide +kernel
theorem dX1_hasPlace_1 : decode cX1_hasPlace 1 = .ok (.ifCond .lt 16, 3) := by decide +kernel
theorem dX1_hasPlace_4 : decode cX1_hasPlace 4 = .ok (.iload_n 1, 1) := by decide +kernel
theorem dX1_hasPlace_5 : decode cX1_hasPlace 5 = .ok (.aload_n 0, 1) := by decide +kernel
theorem dX1_hasPlace_6 : decode cX1_hasPlace 6 = .ok (.getfield 7, 3) := by decide +kernel
theorem dX1_hasPlace_9 : decode cX1_hasPlace 9 = .ok (.arraylength, 1) := by decide +kernel
theorem dX1_hasPlace_10 : decode cX1_hasPlace 10 = .ok (.if_icmp .ge 7, 3) := by decide +kernel
theorem dX1_hasPlace_13 : decode cX1_hasPlace 13 = .ok (.iconst 1, 1) := by decide +kernel
theorem dX1_hasPlace_14 : decode cX1_hasPlace 14 = .ok (.goto 4, 3) := by decide +kernel
theorem dX1_hasPlace_17 : decode cX1_hasPlace 17 = .ok (.iconst 0, 1) := by decide +kernel
theorem dX1_hasPlace_18 : decode cX1_hasPlace 18 = .ok (.ireturn, 1) := by decide +kernel
theorem dX1_comesAs_0 : decode cX1_comesAs 0 = .ok (.aload_n 0, 1) := by decide +kernel
theorem dX1_comesAs_1 : decode cX1_comesAs 1 = .ok (.getfield 7, 3) := by decide +kernel
theorem dX1_comesAs_4 : decode cX1_comesAs 4 = .ok (.arraylength, 1) := by decide +kernel
theorem dX1_comesAs_5 : decode cX1_comesAs 5 = .ok (.ireturn, 1) := by decide +kernel
theorem dX1_weigh_0 : decode cX1_weigh 0 = .ok (.lconst 0, 1) := by decide +kernel
theorem dX1_weigh_1 : decode cX1_weigh 1 = .ok (.lstore_n 2, 1) := by decide +kernel
theorem dX1_weigh_2 : decode cX1_weigh 2 = .ok (.aload_n 0, 1) := by decide +kernel
theorem dX1_weigh_3 : decode cX1_weigh 3 = .ok (.getfield 7, 3) := by decide +kernel
theorem dX1_weigh_6 : decode cX1_weigh 6 = .ok (.astore 4, 2) := by decide +kernel
theorem dX1_weigh_8 : decode cX1_weigh 8 = .ok (.aload 4, 2) := by decide +kernel
theorem dX1_weigh_10 : decode cX1_weigh 10 = .ok (.arraylength, 1) := by decide +kernel
theorem dX1_weigh_11 : decode cX1_weigh 11 = .ok (.istore 5, 2) := by decide +kernel
theorem dX1_weigh_13 : decode cX1_weigh 13 = .ok (.iconst 0, 1) := by decide +kernel
theorem dX1_weigh_14 : decode cX1_weigh 14 = .ok (.istore 6, 2) := by decide +kernel
theorem dX1_weigh_16 : decode cX1_weigh 16 = .ok (.iload 6, 2) := by decide +kernel
theorem dX1_weigh_18 : decode cX1_weigh 18 = .ok (.iload 5, 2) := by decide +kernel
theorem dX1_weigh_20 : decode cX1_weigh 20 = .ok (.if_icmp .ge 21, 3) := by decide +kernel
theorem dX1_weigh_23 : decode cX1_weigh 23 = .ok (.aload 4, 2) := by decide +kernel
theorem dX1_weigh_25 : decode cX1_weigh 25 = .ok (.iload 6, 2) := by decide +kernel
theorem dX1_weigh_27 : decode cX1_weigh 27 = .ok (.laload, 1) := by decide +kernel
theorem dX1_weigh_28 : decode cX1_weigh 28 = .ok (.lstore 7, 2) := by decide +kernel
theorem dX1_weigh_30 : decode cX1_weigh 30 = .ok (.lload_n 2, 1) := by decide +kernel
theorem dX1_weigh_31 : decode cX1_weigh 31 = .ok (.lload 7, 2) := by decide +kernel
theorem dX1_weigh_33 : decode cX1_weigh 33 = .ok (.ladd, 1) := by decide +kernel
theorem dX1_weigh_34 : decode cX1_weigh 34 = .ok (.lstore_n 2, 1) := by decide +kernel
theorem dX1_weigh_35 : decode cX1_weigh 35 = .ok (.iinc 6 1, 3) := by decide +kernel
theorem dX1_weigh_38 : decode cX1_weigh 38 = .ok (.goto (-22), 3) := by decide +kernel
theorem dX1_weigh_41 : decode cX1_weigh 41 = .ok (.lload_n 2, 1) := by decide +kernel
theorem dX1_weigh_42 : decode cX1_weigh 42 = .ok (.lreturn, 1) := by decide +kernel
theorem dX2_init_0 : decode cX2_init 0 = .ok (.aload_n 0, 1) := by decide +kernel
theorem dX2_init_1 : decode cX2_init 1 = .ok (.iload_n 1, 1) := by decide +kernel
theorem dX2_init_2 : decode cX2_init 2 = .ok (.iload_n 2, 1) := by decide +kernel
theorem dX2_init_3 : decode cX2_init 3 = .ok (.invokespecial 3, 3) := by decide +kernel
theorem dX2_init_6 : decode cX2_init 6 = .ok (.aload_n 0, 1) := by decide +kernel
theorem dX2_init_7 : decode cX2_init 7 = .ok (.iload_n 3, 1) := by decide +kernel
theorem dX2_init_8 : decode cX2_init 8 = .ok (.putfield 9, 3) := by decide +kernel
theorem dX2_init_11 : decode cX2_init 11 = .ok (.return_, 1) := by decide +kernel
theorem dX2_comesAs_0 : decode cX2_comesAs 0 = .ok (.iload_n 1, 1) := by decide +kernel
theorem dX2_comesAs_1 : decode cX2_comesAs 1 = .ok (.bipush 13, 2) := by decide +kernel
theorem dX2_comesAs_3 : decode cX2_comesAs 3 = .ok (.if_icmp .ne 10, 3) := by decide +kernel
theorem dX2_comesAs_6 : decode cX2_comesAs 6 = .ok (.aload_n 0, 1) := by decide +kernel
theorem dX2_comesAs_7 : decode cX2_comesAs 7 = .ok (.invokevirtual 15, 3) := by decide +kernel
theorem dX2_comesAs_10 : decode cX2_comesAs 10 = .ok (.goto 7, 3) := by decide +kernel
theorem dX2_comesAs_13 : decode cX2_comesAs 13 = .ok (.aload_n 0, 1) := by decide +kernel
theorem dX2_comesAs_14 : decode cX2_comesAs 14 = .ok (.getfield 9, 3) := by decide +kernel
theorem dX2_comesAs_17 : decode cX2_comesAs 17 = .ok (.ireturn, 1) := by decide +kernel
theorem dX2_declaration_0 : decode cX2_declaration 0 = .ok (.aload_n 0, 1) := by decide +kernel
theorem dX2_declaration_1 : decode cX2_declaration 1 = .ok (.getfield 19, 3) := by decide +kernel
theorem dX2_declaration_4 : decode cX2_declaration 4 = .ok (.iconst 5, 1) := by decide +kernel
theorem dX2_declaration_5 : decode cX2_declaration 5 = .ok (.if_icmp .ne 14, 3) := by decide +kernel
theorem dX2_declaration_8 : decode cX2_declaration 8 = .ok (.aload_n 0, 1) := by decide +kernel
theorem dX2_declaration_9 : decode cX2_declaration 9 = .ok (.getfield 9, 3) := by decide +kernel
theorem dX2_declaration_12 : decode cX2_declaration 12 = .ok (.sipush 1000, 3) := by decide +kernel
theorem dX2_declaration_15 : decode cX2_declaration 15 = .ok (.iadd, 1) := by decide +kernel
theorem dX2_declaration_16 : decode cX2_declaration 16 = .ok (.goto 9, 3) := by decide +kernel
theorem dX2_declaration_19 : decode cX2_declaration 19 = .ok (.iconst 2, 1) := by decide +kernel
theorem dX2_declaration_20 : decode cX2_declaration 20 = .ok (.aload_n 0, 1) := by decide +kernel
theorem dX2_declaration_21 : decode cX2_declaration 21 = .ok (.getfield 9, 3) := by decide +kernel
theorem dX2_declaration_24 : decode cX2_declaration 24 = .ok (.imul, 1) := by decide +kernel
theorem dX2_declaration_25 : decode cX2_declaration 25 = .ok (.ireturn, 1) := by decide +kernel
theorem dX2_weigh_0 : decode cX2_weigh 0 = .ok (.aload_n 0, 1) := by decide +kernel
theorem dX2_weigh_1 : decode cX2_weigh 1 = .ok (.getfield 9, 3) := by decide +kernel
theorem dX2_weigh_4 : decode cX2_weigh 4 = .ok (.i2l, 1) := by decide +kernel
theorem dX2_weigh_5 : decode cX2_weigh 5 = .ok (.lreturn, 1) := by decide +kernel
theorem dX3_init_0 : decode cX3_init 0 = .ok (.aload_n 0, 1) := by decide +kernel
theorem dX3_init_1 : decode cX3_init 1 = .ok (.iload_n 1, 1) := by decide +kernel
theorem dX3_init_2 : decode cX3_init 2 = .ok (.iload_n 2, 1) := by decide +kernel
theorem dX3_init_3 : decode cX3_init 3 = .ok (.invokespecial 3, 3) := by decide +kernel
theorem dX3_init_6 : decode cX3_init 6 = .ok (.aload_n 0, 1) := by decide +kernel
theorem dX3_init_7 : decode cX3_init 7 = .ok (.aload_n 3, 1) := by decide +kernel
theorem dX3_init_8 : decode cX3_init 8 = .ok (.putfield 9, 3) := by decide +kernel
theorem dX3_init_11 : decode cX3_init 11 = .ok (.return_, 1) := by decide +kernel
theorem dX3_hasPlace_0 : decode cX3_hasPlace 0 = .ok (.iload_n 1, 1) := by decide +kernel
theorem dX3_hasPlace_1 : decode cX3_hasPlace 1 = .ok (.ifCond .lt 16, 3) := by decide +kernel
theorem dX3_hasPlace_4 : decode cX3_hasPlace 4 = .ok (.iload_n 1, 1) := by decide +kernel
theorem dX3_hasPlace_5 : decode cX3_hasPlace 5 = .ok (.aload_n 0, 1) := by decide +kernel
theorem dX3_hasPlace_6 : decode cX3_hasPlace 6 = .ok (.getfield 9, 3) := by decide +kernel
theorem dX3_hasPlace_9 : decode cX3_hasPlace 9 = .ok (.arraylength, 1) := by decide +kernel
theorem dX3_hasPlace_10 : decode cX3_hasPlace 10 = .ok (.if_icmp .ge 7, 3) := by decide +kernel
theorem dX3_hasPlace_13 : decode cX3_hasPlace 13 = .ok (.iconst 1, 1) := by decide +kernel
theorem dX3_hasPlace_14 : decode cX3_hasPlace 14 = .ok (.goto 4, 3) := by decide +kernel
theorem dX3_hasPlace_17 : decode cX3_hasPlace 17 = .ok (.iconst 0, 1) := by decide +kernel
theorem dX3_hasPlace_18 : decode cX3_hasPlace 18 = .ok (.ireturn, 1) := by decide +kernel
theorem dX3_viewAsked_0 : decode cX3_viewAsked 0 = .ok (.aload_n 0, 1) := by decide +kernel
theorem dX3_viewAsked_1 : decode cX3_viewAsked 1 = .ok (.getfield 15, 3) := by decide +kernel
theorem dX3_viewAsked_4 : decode cX3_viewAsked 4 = .ok (.tableswitch 62 3 11 #[52, 62, 62, 62, 54, 54, 56, 59, 59], 52) := by decide +kernel
theorem dX3_viewAsked_56 : decode cX3_viewAsked 56 = .ok (.iconst 0, 1) := by decide +kernel
theorem dX3_viewAsked_57 : decode cX3_viewAsked 57 = .ok (.ireturn, 1) := by decide +kernel
theorem dX3_viewAsked_58 : decode cX3_viewAsked 58 = .ok (.iconst 4, 1) := by decide +kernel
theorem dX3_viewAsked_59 : decode cX3_viewAsked 59 = .ok (.ireturn, 1) := by decide +kernel
theorem dX3_viewAsked_60 : decode cX3_viewAsked 60 = .ok (.bipush 13, 2) := by decide +kernel
theorem dX3_viewAsked_62 : decode cX3_viewAsked 62 = .ok (.ireturn, 1) := by decide +kernel
theorem dX3_viewAsked_63 : decode cX3_viewAsked 63 = .ok (.bipush 7, 2) := by decide +kernel
theorem dX3_viewAsked_65 : decode cX3_viewAsked 65 = .ok (.ireturn, 1) := by decide +kernel
theorem dX3_viewAsked_66 : decode cX3_viewAsked 66 = .ok (.bipush 9, 2) := by decide +kernel
theorem dX3_viewAsked_68 : decode cX3_viewAsked 68 = .ok (.ireturn, 1) := by decide +kernel
theorem dX3_viewKept_0 : decode cX3_viewKept 0 = .ok (.aload_n 0, 1) := by decide +kernel
theorem dX3_viewKept_1 : decode cX3_viewKept 1 = .ok (.getfield 15, 3) := by decide +kernel
theorem dX3_viewKept_4 : decode cX3_viewKept 4 = .ok (.lookupswitch 33 #[(8, 28), (11, 30)], 28) := by decide +kernel
theorem dX3_viewKept_32 : decode cX3_viewKept 32 = .ok (.iconst 5, 1) := by decide +kernel
theorem dX3_viewKept_33 : decode cX3_viewKept 33 = .ok (.ireturn, 1) := by decide +kernel
theorem dX3_viewKept_34 : decode cX3_viewKept 34 = .ok (.bipush 8, 2) := by decide +kernel
theorem dX3_viewKept_36 : decode cX3_viewKept 36 = .ok (.ireturn, 1) := by decide +kernel
theorem dX3_viewKept_37 : decode cX3_viewKept 37 = .ok (.aload_n 0, 1) := by decide +kernel
theorem dX3_viewKept_38 : decode cX3_viewKept 38 = .ok (.invokevirtual 19, 3) := by decide +kernel
theorem dX3_viewKept_41 : decode cX3_viewKept 41 = .ok (.ireturn, 1) := by decide +kernel
theorem dX3_comesAs_0 : decode cX3_comesAs 0 = .ok (.aload_n 0, 1) := by decide +kernel
theorem dX3_comesAs_1 : decode cX3_comesAs 1 = .ok (.getfield 9, 3) := by decide +kernel
theorem dX3_comesAs_4 : decode cX3_comesAs 4 = .ok (.arraylength, 1) := by decide +kernel
theorem dX3_comesAs_5 : decode cX3_comesAs 5 = .ok (.ireturn, 1) := by decide +kernel
theorem dX3_weigh_0 : decode cX3_weigh 0 = .ok (.lconst 0, 1) := by decide +kernel
theorem dX3_weigh_1 : decode cX3_weigh 1 = .ok (.lstore_n 2, 1) := by decide +kernel
theorem dX3_weigh_2 : decode cX3_weigh 2 = .ok (.iload_n 1, 1) := by decide +kernel
theorem dX3_weigh_3 : decode cX3_weigh 3 = .ok (.iconst 1, 1) := by decide +kernel
theorem dX3_weigh_4 : decode cX3_weigh 4 = .ok (.if_icmp .gt 5, 3) := by decide +kernel
theorem dX3_weigh_7 : decode cX3_weigh 7 = .ok (.lload_n 2, 1) := by decide +kernel
theorem dX3_weigh_8 : decode cX3_weigh 8 = .ok (.lreturn, 1) := by decide +kernel
theorem dX3_weigh_9 : decode cX3_weigh 9 = .ok (.aload_n 0, 1) := by decide +kernel
theorem dX3_weigh_10 : decode cX3_weigh 10 = .ok (.getfield 9, 3) := by decide +kernel
theorem dX3_weigh_13 : decode cX3_weigh 13 = .ok (.astore 4, 2) := by decide +kernel
theorem dX3_weigh_15 : decode cX3_weigh 15 = .ok (.aload 4, 2) := by decide +kernel
theorem dX3_weigh_17 : decode cX3_weigh 17 = .ok (.arraylength, 1) := by decide +kernel
theorem dX3_weigh_18 : decode cX3_weigh 18 = .ok (.istore 5, 2) := by decide +kernel
theorem dX3_weigh_20 : decode cX3_weigh 20 = .ok (.iconst 0, 1) := by decide +kernel
theorem dX3_weigh_21 : decode cX3_weigh 21 = .ok (.istore 6, 2) := by decide +kernel
theorem dX3_weigh_23 : decode cX3_weigh 23 = .ok (.iload 6, 2) := by decide +kernel
theorem dX3_weigh_25 : decode cX3_weigh 25 = .ok (.iload 5, 2) := by decide +kernel
theorem dX3_weigh_27 : decode cX3_weigh 27 = .ok (.if_icmp .ge 32, 3) := by decide +kernel
theorem dX3_weigh_30 : decode cX3_weigh 30 = .ok (.aload 4, 2) := by decide +kernel
theorem dX3_weigh_32 : decode cX3_weigh 32 = .ok (.iload 6, 2) := by decide +kernel
theorem dX3_weigh_34 : decode cX3_weigh 34 = .ok (.aaload, 1) := by decide +kernel
theorem dX3_weigh_35 : decode cX3_weigh 35 = .ok (.astore 7, 2) := by decide +kernel
theorem dX3_weigh_37 : decode cX3_weigh 37 = .ok (.aload 7, 2) := by decide +kernel
theorem dX3_weigh_39 : decode cX3_weigh 39 = .ok (.ifnull 14, 3) := by decide +kernel
theorem dX3_weigh_42 : decode cX3_weigh 42 = .ok (.lload_n 2, 1) := by decide +kernel
theorem dX3_weigh_43 : decode cX3_weigh 43 = .ok (.aload 7, 2) := by decide +kernel
theorem dX3_weigh_45 : decode cX3_weigh 45 = .ok (.iload_n 1, 1) := by decide +kernel
theorem dX3_weigh_46 : decode cX3_weigh 46 = .ok (.iconst 1, 1) := by decide +kernel
theorem dX3_weigh_47 : decode cX3_weigh 47 = .ok (.isub, 1) := by decide +kernel
theorem dX3_weigh_48 : decode cX3_weigh 48 = .ok (.invokevirtual 23, 3) := by decide +kernel
theorem dX3_weigh_51 : decode cX3_weigh 51 = .ok (.ladd, 1) := by decide +kernel
theorem dX3_weigh_52 : decode cX3_weigh 52 = .ok (.lstore_n 2, 1) := by decide +kernel
theorem dX3_weigh_53 : decode cX3_weigh 53 = .ok (.iinc 6 1, 3) := by decide +kernel
theorem dX3_weigh_56 : decode cX3_weigh 56 = .ok (.goto (-33), 3) := by decide +kernel
theorem dX3_weigh_59 : decode cX3_weigh 59 = .ok (.lload_n 2, 1) := by decide +kernel
theorem dX3_weigh_60 : decode cX3_weigh 60 = .ok (.lreturn, 1) := by decide +kernel
theorem dX3_tally_0 : decode cX3_tally 0 = .ok (.aload_n 0, 1) := by decide +kernel
theorem dX3_tally_1 : decode cX3_tally 1 = .ok (.iload_n 1, 1) := by decide +kernel
theorem dX3_tally_2 : decode cX3_tally 2 = .ok (.invokevirtual 27, 3) := by decide +kernel
theorem dX3_tally_5 : decode cX3_tally 5 = .ok (.ifCond .eq 7, 3) := by decide +kernel
theorem dX3_tally_8 : decode cX3_tally 8 = .ok (.iconst 1, 1) := by decide +kernel
theorem dX3_tally_9 : decode cX3_tally 9 = .ok (.goto 4, 3) := by decide +kernel
theorem dX3_tally_12 : decode cX3_tally 12 = .ok (.iconst 0, 1) := by decide +kernel
theorem dX3_tally_13 : decode cX3_tally 13 = .ok (.istore_n 3, 1) := by decide +kernel
theorem dX3_tally_14 : decode cX3_tally 14 = .ok (.iload_n 2, 1) := by decide +kernel
theorem dX3_tally_15 : decode cX3_tally 15 = .ok (.iconst 1, 1) := by decide +kernel
theorem dX3_tally_16 : decode cX3_tally 16 = .ok (.if_icmp .gt 5, 3) := by decide +kernel
theorem dX3_tally_19 : decode cX3_tally 19 = .ok (.iload_n 3, 1) := by decide +kernel
theorem dX3_tally_20 : decode cX3_tally 20 = .ok (.ireturn, 1) := by decide +kernel
theorem dX3_tally_21 : decode cX3_tally 21 = .ok (.aload_n 0, 1) := by decide +kernel
theorem dX3_tally_22 : decode cX3_tally 22 = .ok (.getfield 9, 3) := by decide +kernel
theorem dX3_tally_25 : decode cX3_tally 25 = .ok (.astore 4, 2) := by decide +kernel
theorem dX3_tally_27 : decode cX3_tally 27 = .ok (.aload 4, 2) := by decide +kernel
theorem dX3_tally_29 : decode cX3_tally 29 = .ok (.arraylength, 1) := by decide +kernel
theorem dX3_tally_30 : decode cX3_tally 30 = .ok (.istore 5, 2) := by decide +kernel
theorem dX3_tally_32 : decode cX3_tally 32 = .ok (.iconst 0, 1) := by decide +kernel
theorem dX3_tally_33 : decode cX3_tally 33 = .ok (.istore 6, 2) := by decide +kernel
theorem dX3_tally_35 : decode cX3_tally 35 = .ok (.iload 6, 2) := by decide +kernel
theorem dX3_tally_37 : decode cX3_tally 37 = .ok (.iload 5, 2) := by decide +kernel
theorem dX3_tally_39 : decode cX3_tally 39 = .ok (.if_icmp .ge 33, 3) := by decide +kernel
theorem dX3_tally_42 : decode cX3_tally 42 = .ok (.aload 4, 2) := by decide +kernel
theorem dX3_tally_44 : decode cX3_tally 44 = .ok (.iload 6, 2) := by decide +kernel
theorem dX3_tally_46 : decode cX3_tally 46 = .ok (.aaload, 1) := by decide +kernel
theorem dX3_tally_47 : decode cX3_tally 47 = .ok (.astore 7, 2) := by decide +kernel
theorem dX3_tally_49 : decode cX3_tally 49 = .ok (.aload 7, 2) := by decide +kernel
theorem dX3_tally_51 : decode cX3_tally 51 = .ok (.ifnull 15, 3) := by decide +kernel
theorem dX3_tally_54 : decode cX3_tally 54 = .ok (.iload_n 3, 1) := by decide +kernel
theorem dX3_tally_55 : decode cX3_tally 55 = .ok (.aload 7, 2) := by decide +kernel
theorem dX3_tally_57 : decode cX3_tally 57 = .ok (.iload_n 1, 1) := by decide +kernel
theorem dX3_tally_58 : decode cX3_tally 58 = .ok (.iload_n 2, 1) := by decide +kernel
theorem dX3_tally_59 : decode cX3_tally 59 = .ok (.iconst 1, 1) := by decide +kernel
theorem dX3_tally_60 : decode cX3_tally 60 = .ok (.isub, 1) := by decide +kernel
theorem dX3_tally_61 : decode cX3_tally 61 = .ok (.invokevirtual 31, 3) := by decide +kernel
theorem dX3_tally_64 : decode cX3_tally 64 = .ok (.iadd, 1) := by decide +kernel
theorem dX3_tally_65 : decode cX3_tally 65 = .ok (.istore_n 3, 1) := by decide +kernel
theorem dX3_tally_66 : decode cX3_tally 66 = .ok (.iinc 6 1, 3) := by decide +kernel
theorem dX3_tally_69 : decode cX3_tally 69 = .ok (.goto (-34), 3) := by decide +kernel
theorem dX3_tally_72 : decode cX3_tally 72 = .ok (.iload_n 3, 1) := by decide +kernel
theorem dX3_tally_73 : decode cX3_tally 73 = .ok (.ireturn, 1) := by decide +kernel
theorem dX4_init_0 : decode cX4_init 0 = .ok (.aload_n 0, 1) := by decide +kernel
theorem dX4_init_1 : decode cX4_init 1 = .ok (.invokespecial 1, 3) := by decide +kernel
theorem dX4_init_4 : decode cX4_init 4 = .ok (.aload_n 0, 1) := by decide +kernel
theorem dX4_init_5 : decode cX4_init 5 = .ok (.bipush 80, 2) := by decide +kernel
theorem dX4_init_7 : decode cX4_init 7 = .ok (.anewarray 9, 3) := by decide +kernel
theorem dX4_init_10 : decode cX4_init 10 = .ok (.putfield 11, 3) := by decide +kernel
theorem dX4_init_13 : decode cX4_init 13 = .ok (.aload_n 0, 1) := by decide +kernel
theorem dX4_init_14 : decode cX4_init 14 = .ok (.bipush 12, 2) := by decide +kernel
theorem dX4_init_16 : decode cX4_init 16 = .ok (.anewarray 9, 3) := by decide +kernel
theorem dX4_init_19 : decode cX4_init 19 = .ok (.putfield 15, 3) := by decide +kernel
theorem dX4_init_22 : decode cX4_init 22 = .ok (.aload_n 0, 1) := by decide +kernel
theorem dX4_init_23 : decode cX4_init 23 = .ok (.bipush 6, 2) := by decide +kernel
theorem dX4_init_25 : decode cX4_init 25 = .ok (.newarray .int, 2) := by decide +kernel
theorem dX4_init_27 : decode cX4_init 27 = .ok (.putfield 18, 3) := by decide +kernel
theorem dX4_init_30 : decode cX4_init 30 = .ok (.aload_n 0, 1) := by decide +kernel
theorem dX4_init_31 : decode cX4_init 31 = .ok (.bipush 6, 2) := by decide +kernel
theorem dX4_init_33 : decode cX4_init 33 = .ok (.newarray .long, 2) := by decide +kernel
theorem dX4_init_35 : decode cX4_init 35 = .ok (.putfield 22, 3) := by decide +kernel
theorem dX4_init_38 : decode cX4_init 38 = .ok (.aload_n 0, 1) := by decide +kernel
theorem dX4_init_39 : decode cX4_init 39 = .ok (.bipush 10, 2) := by decide +kernel
theorem dX4_init_41 : decode cX4_init 41 = .ok (.newarray .int, 2) := by decide +kernel
theorem dX4_init_43 : decode cX4_init 43 = .ok (.putfield 26, 3) := by decide +kernel
theorem dX4_init_46 : decode cX4_init 46 = .ok (.aload_n 0, 1) := by decide +kernel
theorem dX4_init_47 : decode cX4_init 47 = .ok (.bipush 10, 2) := by decide +kernel
theorem dX4_init_49 : decode cX4_init 49 = .ok (.newarray .int, 2) := by decide +kernel
theorem dX4_init_51 : decode cX4_init 51 = .ok (.putfield 29, 3) := by decide +kernel
theorem dX4_init_54 : decode cX4_init 54 = .ok (.aload_n 0, 1) := by decide +kernel
theorem dX4_init_55 : decode cX4_init 55 = .ok (.getfield 18, 3) := by decide +kernel
theorem dX4_init_58 : decode cX4_init 58 = .ok (.iconst (-1), 1) := by decide +kernel
theorem dX4_init_59 : decode cX4_init 59 = .ok (.invokestatic 32, 3) := by decide +kernel
theorem dX4_init_62 : decode cX4_init 62 = .ok (.return_, 1) := by decide +kernel
theorem dX4_load_0 : decode cX4_load 0 = .ok (.aload_n 0, 1) := by decide +kernel
theorem dX4_load_1 : decode cX4_load 1 = .ok (.iconst 0, 1) := by decide +kernel
theorem dX4_load_2 : decode cX4_load 2 = .ok (.putfield 38, 3) := by decide +kernel
theorem dX4_load_5 : decode cX4_load 5 = .ok (.iload_n 1, 1) := by decide +kernel
theorem dX4_load_6 : decode cX4_load 6 = .ok (.ifCond .lt 21, 3) := by decide +kernel
theorem dX4_load_9 : decode cX4_load 9 = .ok (.iload_n 1, 1) := by decide +kernel
theorem dX4_load_10 : decode cX4_load 10 = .ok (.bipush 12, 2) := by decide +kernel
theorem dX4_load_12 : decode cX4_load 12 = .ok (.if_icmp .gt 15, 3) := by decide +kernel
theorem dX4_load_15 : decode cX4_load 15 = .ok (.iload_n 2, 1) := by decide +kernel
theorem dX4_load_16 : decode cX4_load 16 = .ok (.ifCond .lt 11, 3) := by decide +kernel
theorem dX4_load_19 : decode cX4_load 19 = .ok (.iload_n 2, 1) := by decide +kernel
theorem dX4_load_20 : decode cX4_load 20 = .ok (.iload_n 1, 1) := by decide +kernel
theorem dX4_load_21 : decode cX4_load 21 = .ok (.invokestatic 42, 3) := by decide +kernel
theorem dX4_load_24 : decode cX4_load 24 = .ok (.if_icmp .le 10, 3) := by decide +kernel
theorem dX4_load_27 : decode cX4_load 27 = .ok (.aload_n 0, 1) := by decide +kernel
theorem dX4_load_28 : decode cX4_load 28 = .ok (.bipush (-2), 2) := by decide +kernel
theorem dX4_load_30 : decode cX4_load 30 = .ok (.invokevirtual 46, 3) := by decide +kernel
theorem dX4_load_33 : decode cX4_load 33 = .ok (.ireturn, 1) := by decide +kernel
theorem dX4_load_34 : decode cX4_load 34 = .ok (.aload_n 0, 1) := by decide +kernel
theorem dX4_load_35 : decode cX4_load 35 = .ok (.getfield 49, 3) := by decide +kernel
theorem dX4_load_38 : decode cX4_load 38 = .ok (.bipush 80, 2) := by decide +kernel
theorem dX4_load_40 : decode cX4_load 40 = .ok (.if_icmp .lt 10, 3) := by decide +kernel
theorem dX4_load_43 : decode cX4_load 43 = .ok (.aload_n 0, 1) := by decide +kernel
theorem dX4_load_44 : decode cX4_load 44 = .ok (.bipush (-3), 2) := by decide +kernel
theorem dX4_load_46 : decode cX4_load 46 = .ok (.invokevirtual 46, 3) := by decide +kernel
theorem dX4_load_49 : decode cX4_load 49 = .ok (.ireturn, 1) := by decide +kernel
theorem dX4_load_50 : decode cX4_load 50 = .ok (.aload_n 0, 1) := by decide +kernel
theorem dX4_load_51 : decode cX4_load 51 = .ok (.getfield 49, 3) := by decide +kernel
theorem dX4_load_54 : decode cX4_load 54 = .ok (.istore_n 3, 1) := by decide +kernel
theorem dX4_load_55 : decode cX4_load 55 = .ok (.aload_n 0, 1) := by decide +kernel
theorem dX4_load_56 : decode cX4_load 56 = .ok (.getfield 11, 3) := by decide +kernel
theorem dX4_load_59 : decode cX4_load 59 = .ok (.iload_n 3, 1) := by decide +kernel
theorem dX4_load_60 : decode cX4_load 60 = .ok (.iload_n 3, 1) := by decide +kernel
theorem dX4_load_61 : decode cX4_load 61 = .ok (.iload_n 1, 1) := by decide +kernel
theorem dX4_load_62 : decode cX4_load 62 = .ok (.iload_n 2, 1) := by decide +kernel
theorem dX4_load_63 : decode cX4_load 63 = .ok (.invokestatic 52, 3) := by decide +kernel
theorem dX4_load_66 : decode cX4_load 66 = .ok (.aastore, 1) := by decide +kernel
theorem dX4_load_67 : decode cX4_load 67 = .ok (.aload_n 0, 1) := by decide +kernel
theorem dX4_load_68 : decode cX4_load 68 = .ok (.dup, 1) := by decide +kernel
theorem dX4_load_69 : decode cX4_load 69 = .ok (.getfield 49, 3) := by decide +kernel
theorem dX4_load_72 : decode cX4_load 72 = .ok (.iconst 1, 1) := by decide +kernel
theorem dX4_load_73 : decode cX4_load 73 = .ok (.iadd, 1) := by decide +kernel
theorem dX4_load_74 : decode cX4_load 74 = .ok (.putfield 49, 3) := by decide +kernel
theorem dX4_load_77 : decode cX4_load 77 = .ok (.iload_n 3, 1) := by decide +kernel
theorem dX4_load_78 : decode cX4_load 78 = .ok (.ireturn, 1) := by decide +kernel
theorem dX4_set_0 : decode cX4_set 0 = .ok (.aload_n 0, 1) := by decide +kernel
theorem dX4_set_1 : decode cX4_set 1 = .ok (.iconst 0, 1) := by decide +kernel
theorem dX4_set_2 : decode cX4_set 2 = .ok (.putfield 38, 3) := by decide +kernel
theorem dX4_set_5 : decode cX4_set 5 = .ok (.aload_n 0, 1) := by decide +kernel
theorem dX4_set_6 : decode cX4_set 6 = .ok (.iload_n 1, 1) := by decide +kernel
theorem dX4_set_7 : decode cX4_set 7 = .ok (.iload_n 2, 1) := by decide +kernel
theorem dX4_set_8 : decode cX4_set 8 = .ok (.invokevirtual 56, 3) := by decide +kernel
theorem dX4_set_11 : decode cX4_set 11 = .ok (.astore 4, 2) := by decide +kernel
theorem dX4_set_13 : decode cX4_set 13 = .ok (.aload 4, 2) := by decide +kernel
theorem dX4_set_15 : decode cX4_set 15 = .ok (.ifnonnull 8, 3) := by decide +kernel
theorem dX4_set_18 : decode cX4_set 18 = .ok (.aload_n 0, 1) := by decide +kernel
theorem dX4_set_19 : decode cX4_set 19 = .ok (.getfield 38, 3) := by decide +kernel
theorem dX4_set_22 : decode cX4_set 22 = .ok (.ireturn, 1) := by decide +kernel
theorem dX4_set_23 : decode cX4_set 23 = .ok (.aload 4, 2) := by decide +kernel
theorem dX4_set_25 : decode cX4_set 25 = .ok (.getfield 60, 3) := by decide +kernel
theorem dX4_set_28 : decode cX4_set 28 = .ok (.iload_n 2, 1) := by decide +kernel
theorem dX4_set_29 : decode cX4_set 29 = .ok (.aload 4, 2) := by decide +kernel
theorem dX4_set_31 : decode cX4_set 31 = .ok (.getfield 65, 3) := by decide +kernel
theorem dX4_set_34 : decode cX4_set 34 = .ok (.iconst 1, 1) := by decide +kernel
theorem dX4_set_35 : decode cX4_set 35 = .ok (.if_icmp .ne 9, 3) := by decide +kernel
theorem dX4_set_38 : decode cX4_set 38 = .ok (.iload_n 3, 1) := by decide +kernel
theorem dX4_set_39 : decode cX4_set 39 = .ok (.i2b, 1) := by decide +kernel
theorem dX4_set_40 : decode cX4_set 40 = .ok (.i2l, 1) := by decide +kernel
theorem dX4_set_41 : decode cX4_set 41 = .ok (.goto 5, 3) := by decide +kernel
theorem dX4_set_44 : decode cX4_set 44 = .ok (.iload_n 3, 1) := by decide +kernel
theorem dX4_set_45 : decode cX4_set 45 = .ok (.i2l, 1) := by decide +kernel
theorem dX4_set_46 : decode cX4_set 46 = .ok (.lastore, 1) := by decide +kernel
theorem dX4_set_47 : decode cX4_set 47 = .ok (.iconst 1, 1) := by decide +kernel
theorem dX4_set_48 : decode cX4_set 48 = .ok (.ireturn, 1) := by decide +kernel
theorem dX4_number_0 : decode cX4_number 0 = .ok (.aload_n 0, 1) := by decide +kernel
theorem dX4_number_1 : decode cX4_number 1 = .ok (.iconst 0, 1) := by decide +kernel
theorem dX4_number_2 : decode cX4_number 2 = .ok (.putfield 38, 3) := by decide +kernel
theorem dX4_number_5 : decode cX4_number 5 = .ok (.aload_n 0, 1) := by decide +kernel
theorem dX4_number_6 : decode cX4_number 6 = .ok (.iload_n 1, 1) := by decide +kernel
theorem dX4_number_7 : decode cX4_number 7 = .ok (.iload_n 2, 1) := by decide +kernel
theorem dX4_number_8 : decode cX4_number 8 = .ok (.invokevirtual 56, 3) := by decide +kernel
theorem dX4_number_11 : decode cX4_number 11 = .ok (.astore_n 3, 1) := by decide +kernel
theorem dX4_number_12 : decode cX4_number 12 = .ok (.aload_n 3, 1) := by decide +kernel
theorem dX4_number_13 : decode cX4_number 13 = .ok (.ifnonnull 7, 3) := by decide +kernel
theorem dX4_number_16 : decode cX4_number 16 = .ok (.lconst 0, 1) := by decide +kernel
theorem dX4_number_17 : decode cX4_number 17 = .ok (.goto 9, 3) := by decide +kernel
theorem dX4_number_20 : decode cX4_number 20 = .ok (.aload_n 3, 1) := by decide +kernel
theorem dX4_number_21 : decode cX4_number 21 = .ok (.getfield 60, 3) := by decide +kernel
theorem dX4_number_24 : decode cX4_number 24 = .ok (.iload_n 2, 1) := by decide +kernel
theorem dX4_number_25 : decode cX4_number 25 = .ok (.laload, 1) := by decide +kernel
theorem dX4_number_26 : decode cX4_number 26 = .ok (.lreturn, 1) := by decide +kernel
theorem dX4_put_0 : decode cX4_put 0 = .ok (.aload_n 0, 1) := by decide +kernel
theorem dX4_put_1 : decode cX4_put 1 = .ok (.iconst 0, 1) := by decide +kernel
theorem dX4_put_2 : decode cX4_put 2 = .ok (.putfield 38, 3) := by decide +kernel
theorem dX4_put_5 : decode cX4_put 5 = .ok (.aload_n 0, 1) := by decide +kernel
theorem dX4_put_6 : decode cX4_put 6 = .ok (.iload_n 1, 1) := by decide +kernel
theorem dX4_put_7 : decode cX4_put 7 = .ok (.invokevirtual 68, 3) := by decide +kernel
theorem dX4_put_10 : decode cX4_put 10 = .ok (.astore 4, 2) := by decide +kernel
theorem dX4_put_12 : decode cX4_put 12 = .ok (.aload_n 0, 1) := by decide +kernel
theorem dX4_put_13 : decode cX4_put 13 = .ok (.iload_n 3, 1) := by decide +kernel
theorem dX4_put_14 : decode cX4_put 14 = .ok (.invokevirtual 68, 3) := by decide +kernel
theorem dX4_put_17 : decode cX4_put 17 = .ok (.astore 5, 2) := by decide +kernel
theorem dX4_put_19 : decode cX4_put 19 = .ok (.aload 4, 2) := by decide +kernel
theorem dX4_put_21 : decode cX4_put 21 = .ok (.ifnull 13, 3) := by decide +kernel
theorem dX4_put_24 : decode cX4_put 24 = .ok (.aload 5, 2) := by decide +kernel
theorem dX4_put_26 : decode cX4_put 26 = .ok (.ifnonnull 15, 3) := by decide +kernel
theorem dX4_put_29 : decode cX4_put 29 = .ok (.iload_n 3, 1) := by decide +kernel
theorem dX4_put_30 : decode cX4_put 30 = .ok (.iconst (-1), 1) := by decide +kernel
theorem dX4_put_31 : decode cX4_put 31 = .ok (.if_icmp .eq 10, 3) := by decide +kernel
theorem dX4_put_34 : decode cX4_put 34 = .ok (.aload_n 0, 1) := by decide +kernel
theorem dX4_put_35 : decode cX4_put 35 = .ok (.bipush (-2), 2) := by decide +kernel
theorem dX4_put_37 : decode cX4_put 37 = .ok (.invokevirtual 46, 3) := by decide +kernel
theorem dX4_put_40 : decode cX4_put 40 = .ok (.ireturn, 1) := by decide +kernel
theorem dX4_put_41 : decode cX4_put 41 = .ok (.aload 4, 2) := by decide +kernel
theorem dX4_put_43 : decode cX4_put 43 = .ok (.instanceof 72, 3) := by decide +kernel
theorem dX4_put_46 : decode cX4_put 46 = .ok (.ifCond .eq 13, 3) := by decide +kernel
theorem dX4_put_49 : decode cX4_put 49 = .ok (.aload 4, 2) := by decide +kernel
theorem dX4_put_51 : decode cX4_put 51 = .ok (.checkcast 72, 3) := by decide +kernel
theorem dX4_put_54 : decode cX4_put 54 = .ok (.astore 6, 2) := by decide +kernel
theorem dX4_put_56 : decode cX4_put 56 = .ok (.goto 10, 3) := by decide +kernel
theorem dX4_put_59 : decode cX4_put 59 = .ok (.aload_n 0, 1) := by decide +kernel
theorem dX4_put_60 : decode cX4_put 60 = .ok (.bipush (-4), 2) := by decide +kernel
theorem dX4_put_62 : decode cX4_put 62 = .ok (.invokevirtual 46, 3) := by decide +kernel
theorem dX4_put_65 : decode cX4_put 65 = .ok (.ireturn, 1) := by decide +kernel
theorem dX4_put_66 : decode cX4_put 66 = .ok (.aload 5, 2) := by decide +kernel
theorem dX4_put_68 : decode cX4_put 68 = .ok (.ifnull 23, 3) := by decide +kernel
theorem dX4_put_71 : decode cX4_put 71 = .ok (.aload 5, 2) := by decide +kernel
theorem dX4_put_73 : decode cX4_put 73 = .ok (.aload 6, 2) := by decide +kernel
theorem dX4_put_75 : decode cX4_put 75 = .ok (.invokevirtual 74, 3) := by decide +kernel
theorem dX4_put_78 : decode cX4_put 78 = .ok (.invokevirtual 78, 3) := by decide +kernel
theorem dX4_put_81 : decode cX4_put 81 = .ok (.ifCond .ne 10, 3) := by decide +kernel
theorem dX4_put_84 : decode cX4_put 84 = .ok (.aload_n 0, 1) := by decide +kernel
theorem dX4_put_85 : decode cX4_put 85 = .ok (.bipush (-4), 2) := by decide +kernel
theorem dX4_put_87 : decode cX4_put 87 = .ok (.invokevirtual 46, 3) := by decide +kernel
theorem dX4_put_90 : decode cX4_put 90 = .ok (.ireturn, 1) := by decide +kernel
theorem dX4_put_91 : decode cX4_put 91 = .ok (.aload 6, 2) := by decide +kernel
theorem dX4_put_93 : decode cX4_put 93 = .ok (.iload_n 2, 1) := by decide +kernel
theorem dX4_put_94 : decode cX4_put 94 = .ok (.invokevirtual 82, 3) := by decide +kernel
theorem dX4_put_97 : decode cX4_put 97 = .ok (.ifCond .ne 10, 3) := by decide +kernel
theorem dX4_put_100 : decode cX4_put 100 = .ok (.aload_n 0, 1) := by decide +kernel
theorem dX4_put_101 : decode cX4_put 101 = .ok (.bipush (-5), 2) := by decide +kernel
theorem dX4_put_103 : decode cX4_put 103 = .ok (.invokevirtual 46, 3) := by decide +kernel
theorem dX4_put_106 : decode cX4_put 106 = .ok (.ireturn, 1) := by decide +kernel
theorem dX4_put_107 : decode cX4_put 107 = .ok (.aload 5, 2) := by decide +kernel
theorem dX4_put_109 : decode cX4_put 109 = .ok (.ifnull 23, 3) := by decide +kernel
theorem dX4_put_112 : decode cX4_put 112 = .ok (.aload 5, 2) := by decide +kernel
theorem dX4_put_114 : decode cX4_put 114 = .ok (.aload 6, 2) := by decide +kernel
theorem dX4_put_116 : decode cX4_put 116 = .ok (.invokevirtual 85, 3) := by decide +kernel
theorem dX4_put_119 : decode cX4_put 119 = .ok (.invokevirtual 78, 3) := by decide +kernel
theorem dX4_put_122 : decode cX4_put 122 = .ok (.ifCond .ne 10, 3) := by decide +kernel
theorem dX4_put_125 : decode cX4_put 125 = .ok (.aload_n 0, 1) := by decide +kernel
theorem dX4_put_126 : decode cX4_put 126 = .ok (.bipush (-6), 2) := by decide +kernel
theorem dX4_put_128 : decode cX4_put 128 = .ok (.invokevirtual 46, 3) := by decide +kernel
theorem dX4_put_131 : decode cX4_put 131 = .ok (.ireturn, 1) := by decide +kernel
theorem dX4_put_132 : decode cX4_put 132 = .ok (.aload 6, 2) := by decide +kernel
theorem dX4_put_134 : decode cX4_put 134 = .ok (.getfield 88, 3) := by decide +kernel
theorem dX4_put_137 : decode cX4_put 137 = .ok (.iload_n 2, 1) := by decide +kernel
theorem dX4_put_138 : decode cX4_put 138 = .ok (.aload 5, 2) := by decide +kernel
theorem dX4_put_140 : decode cX4_put 140 = .ok (.aastore, 1) := by decide +kernel
theorem dX4_put_141 : decode cX4_put 141 = .ok (.iconst 1, 1) := by decide +kernel
theorem dX4_put_142 : decode cX4_put 142 = .ok (.ireturn, 1) := by decide +kernel
theorem dX4_at_0 : decode cX4_at 0 = .ok (.aload_n 0, 1) := by decide +kernel
theorem dX4_at_1 : decode cX4_at 1 = .ok (.iconst 0, 1) := by decide +kernel
theorem dX4_at_2 : decode cX4_at 2 = .ok (.putfield 38, 3) := by decide +kernel
theorem dX4_at_5 : decode cX4_at 5 = .ok (.aload_n 0, 1) := by decide +kernel
theorem dX4_at_6 : decode cX4_at 6 = .ok (.iload_n 1, 1) := by decide +kernel
theorem dX4_at_7 : decode cX4_at 7 = .ok (.invokevirtual 68, 3) := by decide +kernel
theorem dX4_at_10 : decode cX4_at 10 = .ok (.astore_n 3, 1) := by decide +kernel
theorem dX4_at_11 : decode cX4_at 11 = .ok (.aload_n 3, 1) := by decide +kernel
theorem dX4_at_12 : decode cX4_at 12 = .ok (.ifnonnull 10, 3) := by decide +kernel
theorem dX4_at_15 : decode cX4_at 15 = .ok (.aload_n 0, 1) := by decide +kernel
theorem dX4_at_16 : decode cX4_at 16 = .ok (.bipush (-2), 2) := by decide +kernel
theorem dX4_at_18 : decode cX4_at 18 = .ok (.invokevirtual 46, 3) := by decide +kernel
theorem dX4_at_21 : decode cX4_at 21 = .ok (.ireturn, 1) := by decide +kernel
theorem dX4_at_22 : decode cX4_at 22 = .ok (.aload_n 3, 1) := by decide +kernel
theorem dX4_at_23 : decode cX4_at 23 = .ok (.instanceof 72, 3) := by decide +kernel
theorem dX4_at_26 : decode cX4_at 26 = .ok (.ifCond .eq 12, 3) := by decide +kernel
theorem dX4_at_29 : decode cX4_at 29 = .ok (.aload_n 3, 1) := by decide +kernel
theorem dX4_at_30 : decode cX4_at 30 = .ok (.checkcast 72, 3) := by decide +kernel
theorem dX4_at_33 : decode cX4_at 33 = .ok (.astore 4, 2) := by decide +kernel
theorem dX4_at_35 : decode cX4_at 35 = .ok (.goto 10, 3) := by decide +kernel
theorem dX4_at_38 : decode cX4_at 38 = .ok (.aload_n 0, 1) := by decide +kernel
theorem dX4_at_39 : decode cX4_at 39 = .ok (.bipush (-4), 2) := by decide +kernel
theorem dX4_at_41 : decode cX4_at 41 = .ok (.invokevirtual 46, 3) := by decide +kernel
theorem dX4_at_44 : decode cX4_at 44 = .ok (.ireturn, 1) := by decide +kernel
theorem dX4_at_45 : decode cX4_at 45 = .ok (.aload 4, 2) := by decide +kernel
theorem dX4_at_47 : decode cX4_at 47 = .ok (.iload_n 2, 1) := by decide +kernel
theorem dX4_at_48 : decode cX4_at 48 = .ok (.invokevirtual 82, 3) := by decide +kernel
theorem dX4_at_51 : decode cX4_at 51 = .ok (.ifCond .ne 10, 3) := by decide +kernel
theorem dX4_at_54 : decode cX4_at 54 = .ok (.aload_n 0, 1) := by decide +kernel
theorem dX4_at_55 : decode cX4_at 55 = .ok (.bipush (-5), 2) := by decide +kernel
theorem dX4_at_57 : decode cX4_at 57 = .ok (.invokevirtual 46, 3) := by decide +kernel
theorem dX4_at_60 : decode cX4_at 60 = .ok (.ireturn, 1) := by decide +kernel
theorem dX4_at_61 : decode cX4_at 61 = .ok (.aload 4, 2) := by decide +kernel
theorem dX4_at_63 : decode cX4_at 63 = .ok (.getfield 88, 3) := by decide +kernel
theorem dX4_at_66 : decode cX4_at 66 = .ok (.iload_n 2, 1) := by decide +kernel
theorem dX4_at_67 : decode cX4_at 67 = .ok (.aaload, 1) := by decide +kernel
theorem dX4_at_68 : decode cX4_at 68 = .ok (.invokestatic 90, 3) := by decide +kernel
theorem dX4_at_71 : decode cX4_at 71 = .ok (.ireturn, 1) := by decide +kernel
theorem dX4_is_0 : decode cX4_is 0 = .ok (.aload_n 0, 1) := by decide +kernel
theorem dX4_is_1 : decode cX4_is 1 = .ok (.iconst 0, 1) := by decide +kernel
theorem dX4_is_2 : decode cX4_is 2 = .ok (.putfield 38, 3) := by decide +kernel
theorem dX4_is_5 : decode cX4_is 5 = .ok (.aload_n 0, 1) := by decide +kernel
theorem dX4_is_6 : decode cX4_is 6 = .ok (.iload_n 1, 1) := by decide +kernel
theorem dX4_is_7 : decode cX4_is 7 = .ok (.invokevirtual 68, 3) := by decide +kernel
theorem dX4_is_10 : decode cX4_is 10 = .ok (.astore_n 3, 1) := by decide +kernel
theorem dX4_is_11 : decode cX4_is 11 = .ok (.aload_n 3, 1) := by decide +kernel
theorem dX4_is_12 : decode cX4_is 12 = .ok (.ifnull 10, 3) := by decide +kernel
theorem dX4_is_15 : decode cX4_is 15 = .ok (.iload_n 2, 1) := by decide +kernel
theorem dX4_is_16 : decode cX4_is 16 = .ok (.invokestatic 94, 3) := by decide +kernel
theorem dX4_is_19 : decode cX4_is 19 = .ok (.ifCond .ne 10, 3) := by decide +kernel
theorem dX4_is_22 : decode cX4_is 22 = .ok (.aload_n 0, 1) := by decide +kernel
theorem dX4_is_23 : decode cX4_is 23 = .ok (.bipush (-2), 2) := by decide +kernel
theorem dX4_is_25 : decode cX4_is 25 = .ok (.invokevirtual 46, 3) := by decide +kernel
theorem dX4_is_28 : decode cX4_is 28 = .ok (.ireturn, 1) := by decide +kernel
theorem dX4_is_29 : decode cX4_is 29 = .ok (.aload_n 3, 1) := by decide +kernel
theorem dX4_is_30 : decode cX4_is 30 = .ok (.iload_n 2, 1) := by decide +kernel
theorem dX4_is_31 : decode cX4_is 31 = .ok (.invokevirtual 78, 3) := by decide +kernel
theorem dX4_is_34 : decode cX4_is 34 = .ok (.ifCond .eq 7, 3) := by decide +kernel
theorem dX4_is_37 : decode cX4_is 37 = .ok (.iconst 1, 1) := by decide +kernel
theorem dX4_is_38 : decode cX4_is 38 = .ok (.goto 4, 3) := by decide +kernel
theorem dX4_is_41 : decode cX4_is 41 = .ok (.iconst 0, 1) := by decide +kernel
theorem dX4_is_42 : decode cX4_is 42 = .ok (.ireturn, 1) := by decide +kernel
theorem dX4_take_0 : decode cX4_take 0 = .ok (.aload_n 0, 1) := by decide +kernel
theorem dX4_take_1 : decode cX4_take 1 = .ok (.iconst 0, 1) := by decide +kernel
theorem dX4_take_2 : decode cX4_take 2 = .ok (.putfield 38, 3) := by decide +kernel
theorem dX4_take_5 : decode cX4_take 5 = .ok (.aload_n 0, 1) := by decide +kernel
theorem dX4_take_6 : decode cX4_take 6 = .ok (.iload_n 1, 1) := by decide +kernel
theorem dX4_take_7 : decode cX4_take 7 = .ok (.invokevirtual 68, 3) := by decide +kernel
theorem dX4_take_10 : decode cX4_take 10 = .ok (.astore_n 3, 1) := by decide +kernel
theorem dX4_take_11 : decode cX4_take 11 = .ok (.aload_n 3, 1) := by decide +kernel
theorem dX4_take_12 : decode cX4_take 12 = .ok (.ifnull 10, 3) := by decide +kernel
theorem dX4_take_15 : decode cX4_take 15 = .ok (.iload_n 2, 1) := by decide +kernel
theorem dX4_take_16 : decode cX4_take 16 = .ok (.invokestatic 94, 3) := by decide +kernel
theorem dX4_take_19 : decode cX4_take 19 = .ok (.ifCond .ne 10, 3) := by decide +kernel
theorem dX4_take_22 : decode cX4_take 22 = .ok (.aload_n 0, 1) := by decide +kernel
theorem dX4_take_23 : decode cX4_take 23 = .ok (.bipush (-2), 2) := by decide +kernel
theorem dX4_take_25 : decode cX4_take 25 = .ok (.invokevirtual 46, 3) := by decide +kernel
theorem dX4_take_28 : decode cX4_take 28 = .ok (.ireturn, 1) := by decide +kernel
theorem dX4_take_29 : decode cX4_take 29 = .ok (.aload_n 0, 1) := by decide +kernel
theorem dX4_take_30 : decode cX4_take 30 = .ok (.aload_n 3, 1) := by decide +kernel
theorem dX4_take_31 : decode cX4_take 31 = .ok (.iload_n 2, 1) := by decide +kernel
theorem dX4_take_32 : decode cX4_take 32 = .ok (.invokevirtual 97, 3) := by decide +kernel
theorem dX4_take_35 : decode cX4_take 35 = .ok (.ireturn, 1) := by decide +kernel
theorem dX4_sort_0 : decode cX4_sort 0 = .ok (.aload_n 0, 1) := by decide +kernel
theorem dX4_sort_1 : decode cX4_sort 1 = .ok (.iconst 0, 1) := by decide +kernel
theorem dX4_sort_2 : decode cX4_sort 2 = .ok (.putfield 38, 3) := by decide +kernel
theorem dX4_sort_5 : decode cX4_sort 5 = .ok (.aload_n 0, 1) := by decide +kernel
theorem dX4_sort_6 : decode cX4_sort 6 = .ok (.iload_n 1, 1) := by decide +kernel
theorem dX4_sort_7 : decode cX4_sort 7 = .ok (.invokevirtual 68, 3) := by decide +kernel
theorem dX4_sort_10 : decode cX4_sort 10 = .ok (.astore_n 2, 1) := by decide +kernel
theorem dX4_sort_11 : decode cX4_sort 11 = .ok (.aload_n 2, 1) := by decide +kernel
theorem dX4_sort_12 : decode cX4_sort 12 = .ok (.ifnonnull 10, 3) := by decide +kernel
theorem dX4_sort_15 : decode cX4_sort 15 = .ok (.aload_n 0, 1) := by decide +kernel
theorem dX4_sort_16 : decode cX4_sort 16 = .ok (.bipush (-2), 2) := by decide +kernel
theorem dX4_sort_18 : decode cX4_sort 18 = .ok (.invokevirtual 46, 3) := by decide +kernel
theorem dX4_sort_21 : decode cX4_sort 21 = .ok (.ireturn, 1) := by decide +kernel
theorem dX4_sort_22 : decode cX4_sort 22 = .ok (.aload_n 2, 1) := by decide +kernel
theorem dX4_sort_23 : decode cX4_sort 23 = .ok (.getfield 101, 3) := by decide +kernel
theorem dX4_sort_26 : decode cX4_sort 26 = .ok (.ireturn, 1) := by decide +kernel
theorem dX4_weight_0 : decode cX4_weight 0 = .ok (.aload_n 0, 1) := by decide +kernel
theorem dX4_weight_1 : decode cX4_weight 1 = .ok (.iconst 0, 1) := by decide +kernel
theorem dX4_weight_2 : decode cX4_weight 2 = .ok (.putfield 38, 3) := by decide +kernel
theorem dX4_weight_5 : decode cX4_weight 5 = .ok (.aload_n 0, 1) := by decide +kernel
theorem dX4_weight_6 : decode cX4_weight 6 = .ok (.iload_n 1, 1) := by decide +kernel
theorem dX4_weight_7 : decode cX4_weight 7 = .ok (.invokevirtual 68, 3) := by decide +kernel
theorem dX4_weight_10 : decode cX4_weight 10 = .ok (.astore_n 2, 1) := by decide +kernel
theorem dX4_weight_11 : decode cX4_weight 11 = .ok (.aload_n 2, 1) := by decide +kernel
theorem dX4_weight_12 : decode cX4_weight 12 = .ok (.ifnonnull 12, 3) := by decide +kernel
theorem dX4_weight_15 : decode cX4_weight 15 = .ok (.aload_n 0, 1) := by decide +kernel
theorem dX4_weight_16 : decode cX4_weight 16 = .ok (.bipush (-2), 2) := by decide +kernel
theorem dX4_weight_18 : decode cX4_weight 18 = .ok (.invokevirtual 46, 3) := by decide +kernel
theorem dX4_weight_21 : decode cX4_weight 21 = .ok (.pop, 1) := by decide +kernel
theorem dX4_weight_22 : decode cX4_weight 22 = .ok (.lconst 0, 1) := by decide +kernel
theorem dX4_weight_23 : decode cX4_weight 23 = .ok (.lreturn, 1) := by decide +kernel
theorem dX4_weight_24 : decode cX4_weight 24 = .ok (.aload_n 2, 1) := by decide +kernel
theorem dX4_weight_25 : decode cX4_weight 25 = .ok (.iconst 3, 1) := by decide +kernel
theorem dX4_weight_26 : decode cX4_weight 26 = .ok (.invokevirtual 102, 3) := by decide +kernel
theorem dX4_weight_29 : decode cX4_weight 29 = .ok (.lreturn, 1) := by decide +kernel
theorem dX4_inside_0 : decode cX4_inside 0 = .ok (.aload_n 0, 1) := by decide +kernel
theorem dX4_inside_1 : decode cX4_inside 1 = .ok (.iconst 0, 1) := by decide +kernel
theorem dX4_inside_2 : decode cX4_inside 2 = .ok (.putfield 38, 3) := by decide +kernel
theorem dX4_inside_5 : decode cX4_inside 5 = .ok (.aload_n 0, 1) := by decide +kernel
theorem dX4_inside_6 : decode cX4_inside 6 = .ok (.iload_n 1, 1) := by decide +kernel
theorem dX4_inside_7 : decode cX4_inside 7 = .ok (.invokevirtual 68, 3) := by decide +kernel
theorem dX4_inside_10 : decode cX4_inside 10 = .ok (.astore_n 3, 1) := by decide +kernel
theorem dX4_inside_11 : decode cX4_inside 11 = .ok (.aload_n 3, 1) := by decide +kernel
theorem dX4_inside_12 : decode cX4_inside 12 = .ok (.ifnull 10, 3) := by decide +kernel
theorem dX4_inside_15 : decode cX4_inside 15 = .ok (.iload_n 2, 1) := by decide +kernel
theorem dX4_inside_16 : decode cX4_inside 16 = .ok (.invokestatic 94, 3) := by decide +kernel
theorem dX4_inside_19 : decode cX4_inside 19 = .ok (.ifCond .ne 10, 3) := by decide +kernel
theorem dX4_inside_22 : decode cX4_inside 22 = .ok (.aload_n 0, 1) := by decide +kernel
theorem dX4_inside_23 : decode cX4_inside 23 = .ok (.bipush (-2), 2) := by decide +kernel
theorem dX4_inside_25 : decode cX4_inside 25 = .ok (.invokevirtual 46, 3) := by decide +kernel
theorem dX4_inside_28 : decode cX4_inside 28 = .ok (.ireturn, 1) := by decide +kernel
theorem dX4_inside_29 : decode cX4_inside 29 = .ok (.aload_n 3, 1) := by decide +kernel
theorem dX4_inside_30 : decode cX4_inside 30 = .ok (.iload_n 2, 1) := by decide +kernel
theorem dX4_inside_31 : decode cX4_inside 31 = .ok (.iconst 3, 1) := by decide +kernel
theorem dX4_inside_32 : decode cX4_inside 32 = .ok (.invokevirtual 106, 3) := by decide +kernel
theorem dX4_inside_35 : decode cX4_inside 35 = .ok (.ireturn, 1) := by decide +kernel
theorem dX4_hold_0 : decode cX4_hold 0 = .ok (.aload_n 0, 1) := by decide +kernel
theorem dX4_hold_1 : decode cX4_hold 1 = .ok (.iconst 0, 1) := by decide +kernel
theorem dX4_hold_2 : decode cX4_hold 2 = .ok (.putfield 38, 3) := by decide +kernel
theorem dX4_hold_5 : decode cX4_hold 5 = .ok (.aload_n 0, 1) := by decide +kernel
theorem dX4_hold_6 : decode cX4_hold 6 = .ok (.iload_n 2, 1) := by decide +kernel
theorem dX4_hold_7 : decode cX4_hold 7 = .ok (.invokevirtual 68, 3) := by decide +kernel
theorem dX4_hold_10 : decode cX4_hold 10 = .ok (.astore_n 3, 1) := by decide +kernel
theorem dX4_hold_11 : decode cX4_hold 11 = .ok (.iload_n 1, 1) := by decide +kernel
theorem dX4_hold_12 : decode cX4_hold 12 = .ok (.invokestatic 110, 3) := by decide +kernel
theorem dX4_hold_15 : decode cX4_hold 15 = .ok (.ifCond .eq 12, 3) := by decide +kernel
theorem dX4_hold_18 : decode cX4_hold 18 = .ok (.aload_n 3, 1) := by decide +kernel
theorem dX4_hold_19 : decode cX4_hold 19 = .ok (.ifnonnull 15, 3) := by decide +kernel
theorem dX4_hold_22 : decode cX4_hold 22 = .ok (.iload_n 2, 1) := by decide +kernel
theorem dX4_hold_23 : decode cX4_hold 23 = .ok (.iconst (-1), 1) := by decide +kernel
theorem dX4_hold_24 : decode cX4_hold 24 = .ok (.if_icmp .eq 10, 3) := by decide +kernel
theorem dX4_hold_27 : decode cX4_hold 27 = .ok (.aload_n 0, 1) := by decide +kernel
theorem dX4_hold_28 : decode cX4_hold 28 = .ok (.bipush (-2), 2) := by decide +kernel
theorem dX4_hold_30 : decode cX4_hold 30 = .ok (.invokevirtual 46, 3) := by decide +kernel
theorem dX4_hold_33 : decode cX4_hold 33 = .ok (.ireturn, 1) := by decide +kernel
theorem dX4_hold_34 : decode cX4_hold 34 = .ok (.aload_n 0, 1) := by decide +kernel
theorem dX4_hold_35 : decode cX4_hold 35 = .ok (.getfield 15, 3) := by decide +kernel
theorem dX4_hold_38 : decode cX4_hold 38 = .ok (.iload_n 1, 1) := by decide +kernel
theorem dX4_hold_39 : decode cX4_hold 39 = .ok (.aaload, 1) := by decide +kernel
theorem dX4_hold_40 : decode cX4_hold 40 = .ok (.invokestatic 90, 3) := by decide +kernel
theorem dX4_hold_43 : decode cX4_hold 43 = .ok (.istore 4, 2) := by decide +kernel
theorem dX4_hold_45 : decode cX4_hold 45 = .ok (.aload_n 0, 1) := by decide +kernel
theorem dX4_hold_46 : decode cX4_hold 46 = .ok (.getfield 15, 3) := by decide +kernel
theorem dX4_hold_49 : decode cX4_hold 49 = .ok (.iload_n 1, 1) := by decide +kernel
theorem dX4_hold_50 : decode cX4_hold 50 = .ok (.aload_n 3, 1) := by decide +kernel
theorem dX4_hold_51 : decode cX4_hold 51 = .ok (.aastore, 1) := by decide +kernel
theorem dX4_hold_52 : decode cX4_hold 52 = .ok (.iload 4, 2) := by decide +kernel
theorem dX4_hold_54 : decode cX4_hold 54 = .ok (.ireturn, 1) := by decide +kernel
theorem dX4_bay_0 : decode cX4_bay 0 = .ok (.aload_n 0, 1) := by decide +kernel
theorem dX4_bay_1 : decode cX4_bay 1 = .ok (.iconst 0, 1) := by decide +kernel
theorem dX4_bay_2 : decode cX4_bay 2 = .ok (.putfield 38, 3) := by decide +kernel
theorem dX4_bay_5 : decode cX4_bay 5 = .ok (.iload_n 1, 1) := by decide +kernel
theorem dX4_bay_6 : decode cX4_bay 6 = .ok (.invokestatic 110, 3) := by decide +kernel
theorem dX4_bay_9 : decode cX4_bay 9 = .ok (.ifCond .eq 10, 3) := by decide +kernel
theorem dX4_bay_12 : decode cX4_bay 12 = .ok (.iload_n 2, 1) := by decide +kernel
theorem dX4_bay_13 : decode cX4_bay 13 = .ok (.invokestatic 94, 3) := by decide +kernel
theorem dX4_bay_16 : decode cX4_bay 16 = .ok (.ifCond .ne 10, 3) := by decide +kernel
theorem dX4_bay_19 : decode cX4_bay 19 = .ok (.aload_n 0, 1) := by decide +kernel
theorem dX4_bay_20 : decode cX4_bay 20 = .ok (.bipush (-2), 2) := by decide +kernel
theorem dX4_bay_22 : decode cX4_bay 22 = .ok (.invokevirtual 46, 3) := by decide +kernel
theorem dX4_bay_25 : decode cX4_bay 25 = .ok (.ireturn, 1) := by decide +kernel
theorem dX4_bay_26 : decode cX4_bay 26 = .ok (.aload_n 0, 1) := by decide +kernel
theorem dX4_bay_27 : decode cX4_bay 27 = .ok (.getfield 15, 3) := by decide +kernel
theorem dX4_bay_30 : decode cX4_bay 30 = .ok (.iload_n 1, 1) := by decide +kernel
theorem dX4_bay_31 : decode cX4_bay 31 = .ok (.aaload, 1) := by decide +kernel
theorem dX4_bay_32 : decode cX4_bay 32 = .ok (.astore_n 3, 1) := by decide +kernel
theorem dX4_bay_33 : decode cX4_bay 33 = .ok (.aload_n 3, 1) := by decide +kernel
theorem dX4_bay_34 : decode cX4_bay 34 = .ok (.ifnonnull 5, 3) := by decide +kernel
theorem dX4_bay_37 : decode cX4_bay 37 = .ok (.iconst (-1), 1) := by decide +kernel
theorem dX4_bay_38 : decode cX4_bay 38 = .ok (.ireturn, 1) := by decide +kernel
theorem dX4_bay_39 : decode cX4_bay 39 = .ok (.aload_n 0, 1) := by decide +kernel
theorem dX4_bay_40 : decode cX4_bay 40 = .ok (.aload_n 3, 1) := by decide +kernel
theorem dX4_bay_41 : decode cX4_bay 41 = .ok (.iload_n 2, 1) := by decide +kernel
theorem dX4_bay_42 : decode cX4_bay 42 = .ok (.invokevirtual 97, 3) := by decide +kernel
theorem dX4_bay_45 : decode cX4_bay 45 = .ok (.ireturn, 1) := by decide +kernel
theorem dX4_gate_0 : decode cX4_gate 0 = .ok (.aload_n 0, 1) := by decide +kernel
theorem dX4_gate_1 : decode cX4_gate 1 = .ok (.iconst 0, 1) := by decide +kernel
theorem dX4_gate_2 : decode cX4_gate 2 = .ok (.putfield 38, 3) := by decide +kernel
theorem dX4_gate_5 : decode cX4_gate 5 = .ok (.iload_n 1, 1) := by decide +kernel
theorem dX4_gate_6 : decode cX4_gate 6 = .ok (.invokestatic 113, 3) := by decide +kernel
theorem dX4_gate_9 : decode cX4_gate 9 = .ok (.ifCond .eq 15, 3) := by decide +kernel
theorem dX4_gate_12 : decode cX4_gate 12 = .ok (.iload_n 2, 1) := by decide +kernel
theorem dX4_gate_13 : decode cX4_gate 13 = .ok (.invokestatic 94, 3) := by decide +kernel
theorem dX4_gate_16 : decode cX4_gate 16 = .ok (.ifCond .ne 15, 3) := by decide +kernel
theorem dX4_gate_19 : decode cX4_gate 19 = .ok (.iload_n 2, 1) := by decide +kernel
theorem dX4_gate_20 : decode cX4_gate 20 = .ok (.iconst (-1), 1) := by decide +kernel
theorem dX4_gate_21 : decode cX4_gate 21 = .ok (.if_icmp .eq 10, 3) := by decide +kernel
theorem dX4_gate_24 : decode cX4_gate 24 = .ok (.aload_n 0, 1) := by decide +kernel
theorem dX4_gate_25 : decode cX4_gate 25 = .ok (.bipush (-2), 2) := by decide +kernel
theorem dX4_gate_27 : decode cX4_gate 27 = .ok (.invokevirtual 46, 3) := by decide +kernel
theorem dX4_gate_30 : decode cX4_gate 30 = .ok (.ireturn, 1) := by decide +kernel
theorem dX4_gate_31 : decode cX4_gate 31 = .ok (.aload_n 0, 1) := by decide +kernel
theorem dX4_gate_32 : decode cX4_gate 32 = .ok (.getfield 18, 3) := by decide +kernel
theorem dX4_gate_35 : decode cX4_gate 35 = .ok (.iload_n 1, 1) := by decide +kernel
theorem dX4_gate_36 : decode cX4_gate 36 = .ok (.iaload, 1) := by decide +kernel
theorem dX4_gate_37 : decode cX4_gate 37 = .ok (.istore_n 3, 1) := by decide +kernel
theorem dX4_gate_38 : decode cX4_gate 38 = .ok (.aload_n 0, 1) := by decide +kernel
theorem dX4_gate_39 : decode cX4_gate 39 = .ok (.getfield 18, 3) := by decide +kernel
theorem dX4_gate_42 : decode cX4_gate 42 = .ok (.iload_n 1, 1) := by decide +kernel
theorem dX4_gate_43 : decode cX4_gate 43 = .ok (.iload_n 2, 1) := by decide +kernel
theorem dX4_gate_44 : decode cX4_gate 44 = .ok (.iastore, 1) := by decide +kernel
theorem dX4_gate_45 : decode cX4_gate 45 = .ok (.aload_n 0, 1) := by decide +kernel
theorem dX4_gate_46 : decode cX4_gate 46 = .ok (.getfield 22, 3) := by decide +kernel
theorem dX4_gate_49 : decode cX4_gate 49 = .ok (.iload_n 1, 1) := by decide +kernel
theorem dX4_gate_50 : decode cX4_gate 50 = .ok (.lconst 0, 1) := by decide +kernel
theorem dX4_gate_51 : decode cX4_gate 51 = .ok (.lastore, 1) := by decide +kernel
theorem dX4_gate_52 : decode cX4_gate 52 = .ok (.iload_n 3, 1) := by decide +kernel
theorem dX4_gate_53 : decode cX4_gate 53 = .ok (.ireturn, 1) := by decide +kernel
theorem dX4_pass_0 : decode cX4_pass 0 = .ok (.aload_n 0, 1) := by decide +kernel
theorem dX4_pass_1 : decode cX4_pass 1 = .ok (.iconst 0, 1) := by decide +kernel
theorem dX4_pass_2 : decode cX4_pass 2 = .ok (.putfield 38, 3) := by decide +kernel
theorem dX4_pass_5 : decode cX4_pass 5 = .ok (.aload_n 0, 1) := by decide +kernel
theorem dX4_pass_6 : decode cX4_pass 6 = .ok (.iload_n 1, 1) := by decide +kernel
theorem dX4_pass_7 : decode cX4_pass 7 = .ok (.invokevirtual 68, 3) := by decide +kernel
theorem dX4_pass_10 : decode cX4_pass 10 = .ok (.astore_n 3, 1) := by decide +kernel
theorem dX4_pass_11 : decode cX4_pass 11 = .ok (.aload_n 3, 1) := by decide +kernel
theorem dX4_pass_12 : decode cX4_pass 12 = .ok (.ifnull 20, 3) := by decide +kernel
theorem dX4_pass_15 : decode cX4_pass 15 = .ok (.iload_n 2, 1) := by decide +kernel
theorem dX4_pass_16 : decode cX4_pass 16 = .ok (.invokestatic 113, 3) := by decide +kernel
theorem dX4_pass_19 : decode cX4_pass 19 = .ok (.ifCond .eq 13, 3) := by decide +kernel
theorem dX4_pass_22 : decode cX4_pass 22 = .ok (.aload_n 0, 1) := by decide +kernel
theorem dX4_pass_23 : decode cX4_pass 23 = .ok (.getfield 18, 3) := by decide +kernel
theorem dX4_pass_26 : decode cX4_pass 26 = .ok (.iload_n 2, 1) := by decide +kernel
theorem dX4_pass_27 : decode cX4_pass 27 = .ok (.iaload, 1) := by decide +kernel
theorem dX4_pass_28 : decode cX4_pass 28 = .ok (.iconst (-1), 1) := by decide +kernel
theorem dX4_pass_29 : decode cX4_pass 29 = .ok (.if_icmp .ne 10, 3) := by decide +kernel
theorem dX4_pass_32 : decode cX4_pass 32 = .ok (.aload_n 0, 1) := by decide +kernel
theorem dX4_pass_33 : decode cX4_pass 33 = .ok (.bipush (-2), 2) := by decide +kernel
theorem dX4_pass_35 : decode cX4_pass 35 = .ok (.invokevirtual 46, 3) := by decide +kernel
theorem dX4_pass_38 : decode cX4_pass 38 = .ok (.ireturn, 1) := by decide +kernel
theorem dX4_pass_39 : decode cX4_pass 39 = .ok (.aload_n 3, 1) := by decide +kernel
theorem dX4_pass_40 : decode cX4_pass 40 = .ok (.aload_n 0, 1) := by decide +kernel
theorem dX4_pass_41 : decode cX4_pass 41 = .ok (.getfield 18, 3) := by decide +kernel
theorem dX4_pass_44 : decode cX4_pass 44 = .ok (.iload_n 2, 1) := by decide +kernel
theorem dX4_pass_45 : decode cX4_pass 45 = .ok (.iaload, 1) := by decide +kernel
theorem dX4_pass_46 : decode cX4_pass 46 = .ok (.invokevirtual 78, 3) := by decide +kernel
theorem dX4_pass_49 : decode cX4_pass 49 = .ok (.ifCond .ne 15, 3) := by decide +kernel
theorem dX4_pass_52 : decode cX4_pass 52 = .ok (.aload_n 0, 1) := by decide +kernel
theorem dX4_pass_53 : decode cX4_pass 53 = .ok (.dup, 1) := by decide +kernel
theorem dX4_pass_54 : decode cX4_pass 54 = .ok (.getfield 116, 3) := by decide +kernel
theorem dX4_pass_57 : decode cX4_pass 57 = .ok (.iconst 1, 1) := by decide +kernel
theorem dX4_pass_58 : decode cX4_pass 58 = .ok (.iadd, 1) := by decide +kernel
theorem dX4_pass_59 : decode cX4_pass 59 = .ok (.putfield 116, 3) := by decide +kernel
theorem dX4_pass_62 : decode cX4_pass 62 = .ok (.iconst 0, 1) := by decide +kernel
theorem dX4_pass_63 : decode cX4_pass 63 = .ok (.ireturn, 1) := by decide +kernel
theorem dX4_pass_64 : decode cX4_pass 64 = .ok (.aload_n 0, 1) := by decide +kernel
theorem dX4_pass_65 : decode cX4_pass 65 = .ok (.getfield 22, 3) := by decide +kernel
theorem dX4_pass_68 : decode cX4_pass 68 = .ok (.iload_n 2, 1) := by decide +kernel
theorem dX4_pass_69 : decode cX4_pass 69 = .ok (.dup2, 1) := by decide +kernel
theorem dX4_pass_70 : decode cX4_pass 70 = .ok (.laload, 1) := by decide +kernel
theorem dX4_pass_71 : decode cX4_pass 71 = .ok (.aload_n 3, 1) := by decide +kernel
theorem dX4_pass_72 : decode cX4_pass 72 = .ok (.iconst 3, 1) := by decide +kernel
theorem dX4_pass_73 : decode cX4_pass 73 = .ok (.invokevirtual 102, 3) := by decide +kernel
theorem dX4_pass_76 : decode cX4_pass 76 = .ok (.ladd, 1) := by decide +kernel
theorem dX4_pass_77 : decode cX4_pass 77 = .ok (.lastore, 1) := by decide +kernel
theorem dX4_pass_78 : decode cX4_pass 78 = .ok (.iconst 1, 1) := by decide +kernel
theorem dX4_pass_79 : decode cX4_pass 79 = .ok (.ireturn, 1) := by decide +kernel
theorem dX4_passed_0 : decode cX4_passed 0 = .ok (.aload_n 0, 1) := by decide +kernel
theorem dX4_passed_1 : decode cX4_passed 1 = .ok (.iconst 0, 1) := by decide +kernel
theorem dX4_passed_2 : decode cX4_passed 2 = .ok (.putfield 38, 3) := by decide +kernel
theorem dX4_passed_5 : decode cX4_passed 5 = .ok (.iload_n 1, 1) := by decide +kernel
theorem dX4_passed_6 : decode cX4_passed 6 = .ok (.invokestatic 113, 3) := by decide +kernel
theorem dX4_passed_9 : decode cX4_passed 9 = .ok (.ifCond .ne 12, 3) := by decide +kernel
theorem dX4_passed_12 : decode cX4_passed 12 = .ok (.aload_n 0, 1) := by decide +kernel
theorem dX4_passed_13 : decode cX4_passed 13 = .ok (.bipush (-2), 2) := by decide +kernel
theorem dX4_passed_15 : decode cX4_passed 15 = .ok (.invokevirtual 46, 3) := by decide +kernel
theorem dX4_passed_18 : decode cX4_passed 18 = .ok (.pop, 1) := by decide +kernel
theorem dX4_passed_19 : decode cX4_passed 19 = .ok (.lconst 0, 1) := by decide +kernel
theorem dX4_passed_20 : decode cX4_passed 20 = .ok (.lreturn, 1) := by decide +kernel
theorem dX4_passed_21 : decode cX4_passed 21 = .ok (.aload_n 0, 1) := by decide +kernel
theorem dX4_passed_22 : decode cX4_passed 22 = .ok (.getfield 22, 3) := by decide +kernel
theorem dX4_passed_25 : decode cX4_passed 25 = .ok (.iload_n 1, 1) := by decide +kernel
theorem dX4_passed_26 : decode cX4_passed 26 = .ok (.laload, 1) := by decide +kernel
theorem dX4_passed_27 : decode cX4_passed 27 = .ok (.lreturn, 1) := by decide +kernel
theorem dX4_tariff_0 : decode cX4_tariff 0 = .ok (.aload_n 0, 1) := by decide +kernel
theorem dX4_tariff_1 : decode cX4_tariff 1 = .ok (.iconst 0, 1) := by decide +kernel
theorem dX4_tariff_2 : decode cX4_tariff 2 = .ok (.putfield 38, 3) := by decide +kernel
theorem dX4_tariff_5 : decode cX4_tariff 5 = .ok (.iload_n 1, 1) := by decide +kernel
theorem dX4_tariff_6 : decode cX4_tariff 6 = .ok (.invokestatic 94, 3) := by decide +kernel
theorem dX4_tariff_9 : decode cX4_tariff 9 = .ok (.ifCond .eq 15, 3) := by decide +kernel
theorem dX4_tariff_12 : decode cX4_tariff 12 = .ok (.iload_n 2, 1) := by decide +kernel
theorem dX4_tariff_13 : decode cX4_tariff 13 = .ok (.bipush (-100), 2) := by decide +kernel
theorem dX4_tariff_15 : decode cX4_tariff 15 = .ok (.if_icmp .lt 9, 3) := by decide +kernel
theorem dX4_tariff_18 : decode cX4_tariff 18 = .ok (.iload_n 2, 1) := by decide +kernel
theorem dX4_tariff_19 : decode cX4_tariff 19 = .ok (.bipush 100, 2) := by decide +kernel
theorem dX4_tariff_21 : decode cX4_tariff 21 = .ok (.if_icmp .le 10, 3) := by decide +kernel
theorem dX4_tariff_24 : decode cX4_tariff 24 = .ok (.aload_n 0, 1) := by decide +kernel
theorem dX4_tariff_25 : decode cX4_tariff 25 = .ok (.bipush (-2), 2) := by decide +kernel
theorem dX4_tariff_27 : decode cX4_tariff 27 = .ok (.invokevirtual 46, 3) := by decide +kernel
theorem dX4_tariff_30 : decode cX4_tariff 30 = .ok (.ireturn, 1) := by decide +kernel
theorem dX4_tariff_31 : decode cX4_tariff 31 = .ok (.aload_n 0, 1) := by decide +kernel
theorem dX4_tariff_32 : decode cX4_tariff 32 = .ok (.getfield 119, 3) := by decide +kernel
theorem dX4_tariff_35 : decode cX4_tariff 35 = .ok (.bipush 10, 2) := by decide +kernel
theorem dX4_tariff_37 : decode cX4_tariff 37 = .ok (.if_icmp .lt 10, 3) := by decide +kernel
theorem dX4_tariff_40 : decode cX4_tariff 40 = .ok (.aload_n 0, 1) := by decide +kernel
theorem dX4_tariff_41 : decode cX4_tariff 41 = .ok (.bipush (-3), 2) := by decide +kernel
theorem dX4_tariff_43 : decode cX4_tariff 43 = .ok (.invokevirtual 46, 3) := by decide +kernel
theorem dX4_tariff_46 : decode cX4_tariff 46 = .ok (.ireturn, 1) := by decide +kernel
theorem dX4_tariff_47 : decode cX4_tariff 47 = .ok (.aload_n 0, 1) := by decide +kernel
theorem dX4_tariff_48 : decode cX4_tariff 48 = .ok (.getfield 26, 3) := by decide +kernel
theorem dX4_tariff_51 : decode cX4_tariff 51 = .ok (.aload_n 0, 1) := by decide +kernel
theorem dX4_tariff_52 : decode cX4_tariff 52 = .ok (.getfield 119, 3) := by decide +kernel
theorem dX4_tariff_55 : decode cX4_tariff 55 = .ok (.iload_n 1, 1) := by decide +kernel
theorem dX4_tariff_56 : decode cX4_tariff 56 = .ok (.iastore, 1) := by decide +kernel
theorem dX4_tariff_57 : decode cX4_tariff 57 = .ok (.aload_n 0, 1) := by decide +kernel
theorem dX4_tariff_58 : decode cX4_tariff 58 = .ok (.getfield 29, 3) := by decide +kernel
theorem dX4_tariff_61 : decode cX4_tariff 61 = .ok (.aload_n 0, 1) := by decide +kernel
theorem dX4_tariff_62 : decode cX4_tariff 62 = .ok (.getfield 119, 3) := by decide +kernel
theorem dX4_tariff_65 : decode cX4_tariff 65 = .ok (.iload_n 2, 1) := by decide +kernel
theorem dX4_tariff_66 : decode cX4_tariff 66 = .ok (.iastore, 1) := by decide +kernel
theorem dX4_tariff_67 : decode cX4_tariff 67 = .ok (.aload_n 0, 1) := by decide +kernel
theorem dX4_tariff_68 : decode cX4_tariff 68 = .ok (.dup, 1) := by decide +kernel
theorem dX4_tariff_69 : decode cX4_tariff 69 = .ok (.getfield 119, 3) := by decide +kernel
theorem dX4_tariff_72 : decode cX4_tariff 72 = .ok (.iconst 1, 1) := by decide +kernel
theorem dX4_tariff_73 : decode cX4_tariff 73 = .ok (.iadd, 1) := by decide +kernel
theorem dX4_tariff_74 : decode cX4_tariff 74 = .ok (.putfield 119, 3) := by decide +kernel
theorem dX4_tariff_77 : decode cX4_tariff 77 = .ok (.aload_n 0, 1) := by decide +kernel
theorem dX4_tariff_78 : decode cX4_tariff 78 = .ok (.getfield 119, 3) := by decide +kernel
theorem dX4_tariff_81 : decode cX4_tariff 81 = .ok (.ireturn, 1) := by decide +kernel
theorem dX4_duty_0 : decode cX4_duty 0 = .ok (.aload_n 0, 1) := by decide +kernel
theorem dX4_duty_1 : decode cX4_duty 1 = .ok (.iconst 0, 1) := by decide +kernel
theorem dX4_duty_2 : decode cX4_duty 2 = .ok (.putfield 38, 3) := by decide +kernel
theorem dX4_duty_5 : decode cX4_duty 5 = .ok (.aload_n 0, 1) := by decide +kernel
theorem dX4_duty_6 : decode cX4_duty 6 = .ok (.iload_n 1, 1) := by decide +kernel
theorem dX4_duty_7 : decode cX4_duty 7 = .ok (.invokevirtual 68, 3) := by decide +kernel
theorem dX4_duty_10 : decode cX4_duty 10 = .ok (.astore_n 2, 1) := by decide +kernel
theorem dX4_duty_11 : decode cX4_duty 11 = .ok (.aload_n 2, 1) := by decide +kernel
theorem dX4_duty_12 : decode cX4_duty 12 = .ok (.ifnonnull 12, 3) := by decide +kernel
theorem dX4_duty_15 : decode cX4_duty 15 = .ok (.aload_n 0, 1) := by decide +kernel
theorem dX4_duty_16 : decode cX4_duty 16 = .ok (.bipush (-2), 2) := by decide +kernel
theorem dX4_duty_18 : decode cX4_duty 18 = .ok (.invokevirtual 46, 3) := by decide +kernel
theorem dX4_duty_21 : decode cX4_duty 21 = .ok (.pop, 1) := by decide +kernel
theorem dX4_duty_22 : decode cX4_duty 22 = .ok (.iconst 0, 1) := by decide +kernel
theorem dX4_duty_23 : decode cX4_duty 23 = .ok (.ireturn, 1) := by decide +kernel
theorem dX4_duty_24 : decode cX4_duty 24 = .ok (.aload_n 0, 1) := by decide +kernel
theorem dX4_duty_25 : decode cX4_duty 25 = .ok (.aload_n 2, 1) := by decide +kernel
theorem dX4_duty_26 : decode cX4_duty 26 = .ok (.invokevirtual 122, 3) := by decide +kernel
theorem dX4_duty_29 : decode cX4_duty 29 = .ok (.istore_n 3, 1) := by decide +kernel
theorem dX4_duty_30 : decode cX4_duty 30 = .ok (.iload_n 3, 1) := by decide +kernel
theorem dX4_duty_31 : decode cX4_duty 31 = .ok (.iconst (-1), 1) := by decide +kernel
theorem dX4_duty_32 : decode cX4_duty 32 = .ok (.if_icmp .ne 5, 3) := by decide +kernel
theorem dX4_duty_35 : decode cX4_duty 35 = .ok (.iconst 0, 1) := by decide +kernel
theorem dX4_duty_36 : decode cX4_duty 36 = .ok (.ireturn, 1) := by decide +kernel
theorem dX4_duty_37 : decode cX4_duty 37 = .ok (.aload_n 0, 1) := by decide +kernel
theorem dX4_duty_38 : decode cX4_duty 38 = .ok (.getfield 29, 3) := by decide +kernel
theorem dX4_duty_41 : decode cX4_duty 41 = .ok (.iload_n 3, 1) := by decide +kernel
theorem dX4_duty_42 : decode cX4_duty 42 = .ok (.iaload, 1) := by decide +kernel
theorem dX4_duty_43 : decode cX4_duty 43 = .ok (.aload_n 2, 1) := by decide +kernel
theorem dX4_duty_44 : decode cX4_duty 44 = .ok (.aload_n 0, 1) := by decide +kernel
theorem dX4_duty_45 : decode cX4_duty 45 = .ok (.getfield 26, 3) := by decide +kernel
theorem dX4_duty_48 : decode cX4_duty 48 = .ok (.iload_n 3, 1) := by decide +kernel
theorem dX4_duty_49 : decode cX4_duty 49 = .ok (.iaload, 1) := by decide +kernel
theorem dX4_duty_50 : decode cX4_duty 50 = .ok (.invokevirtual 125, 3) := by decide +kernel
theorem dX4_duty_53 : decode cX4_duty 53 = .ok (.imul, 1) := by decide +kernel
theorem dX4_duty_54 : decode cX4_duty 54 = .ok (.ireturn, 1) := by decide +kernel
theorem dX4_line_0 : decode cX4_line 0 = .ok (.aload_n 0, 1) := by decide +kernel
theorem dX4_line_1 : decode cX4_line 1 = .ok (.iconst 0, 1) := by decide +kernel
theorem dX4_line_2 : decode cX4_line 2 = .ok (.putfield 38, 3) := by decide +kernel
theorem dX4_line_5 : decode cX4_line 5 = .ok (.aload_n 0, 1) := by decide +kernel
theorem dX4_line_6 : decode cX4_line 6 = .ok (.iload_n 1, 1) := by decide +kernel
theorem dX4_line_7 : decode cX4_line 7 = .ok (.invokevirtual 68, 3) := by decide +kernel
theorem dX4_line_10 : decode cX4_line 10 = .ok (.astore_n 2, 1) := by decide +kernel
theorem dX4_line_11 : decode cX4_line 11 = .ok (.aload_n 2, 1) := by decide +kernel
theorem dX4_line_12 : decode cX4_line 12 = .ok (.ifnonnull 10, 3) := by decide +kernel
theorem dX4_line_15 : decode cX4_line 15 = .ok (.aload_n 0, 1) := by decide +kernel
theorem dX4_line_16 : decode cX4_line 16 = .ok (.bipush (-2), 2) := by decide +kernel
theorem dX4_line_18 : decode cX4_line 18 = .ok (.invokevirtual 46, 3) := by decide +kernel
theorem dX4_line_21 : decode cX4_line 21 = .ok (.ireturn, 1) := by decide +kernel
theorem dX4_line_22 : decode cX4_line 22 = .ok (.aload_n 0, 1) := by decide +kernel
theorem dX4_line_23 : decode cX4_line 23 = .ok (.aload_n 2, 1) := by decide +kernel
theorem dX4_line_24 : decode cX4_line 24 = .ok (.invokevirtual 122, 3) := by decide +kernel
theorem dX4_line_27 : decode cX4_line 27 = .ok (.ireturn, 1) := by decide +kernel
theorem dX4_refused_0 : decode cX4_refused 0 = .ok (.aload_n 0, 1) := by decide +kernel
theorem dX4_refused_1 : decode cX4_refused 1 = .ok (.getfield 38, 3) := by decide +kernel
theorem dX4_refused_4 : decode cX4_refused 4 = .ok (.ireturn, 1) := by decide +kernel
theorem dX4_count_0 : decode cX4_count 0 = .ok (.iload_n 1, 1) := by decide +kernel
theorem dX4_count_1 : decode cX4_count 1 = .ok (.tableswitch 69 0 5 #[39, 44, 49, 54, 59, 64], 39) := by decide +kernel
theorem dX4_count_40 : decode cX4_count 40 = .ok (.aload_n 0, 1) := by decide +kernel
theorem dX4_count_41 : decode cX4_count 41 = .ok (.getfield 49, 3) := by decide +kernel
theorem dX4_count_44 : decode cX4_count 44 = .ok (.ireturn, 1) := by decide +kernel
theorem dX4_count_45 : decode cX4_count 45 = .ok (.aload_n 0, 1) := by decide +kernel
theorem dX4_count_46 : decode cX4_count 46 = .ok (.getfield 128, 3) := by decide +kernel
theorem dX4_count_49 : decode cX4_count 49 = .ok (.ireturn, 1) := by decide +kernel
theorem dX4_count_50 : decode cX4_count 50 = .ok (.aload_n 0, 1) := by decide +kernel
theorem dX4_count_51 : decode cX4_count 51 = .ok (.getfield 131, 3) := by decide +kernel
theorem dX4_count_54 : decode cX4_count 54 = .ok (.ireturn, 1) := by decide +kernel
theorem dX4_count_55 : decode cX4_count 55 = .ok (.aload_n 0, 1) := by decide +kernel
theorem dX4_count_56 : decode cX4_count 56 = .ok (.getfield 134, 3) := by decide +kernel
theorem dX4_count_59 : decode cX4_count 59 = .ok (.ireturn, 1) := by decide +kernel
theorem dX4_count_60 : decode cX4_count 60 = .ok (.aload_n 0, 1) := by decide +kernel
theorem dX4_count_61 : decode cX4_count 61 = .ok (.getfield 116, 3) := by decide +kernel
theorem dX4_count_64 : decode cX4_count 64 = .ok (.ireturn, 1) := by decide +kernel
theorem dX4_count_65 : decode cX4_count 65 = .ok (.aload_n 0, 1) := by decide +kernel
theorem dX4_count_66 : decode cX4_count 66 = .ok (.getfield 119, 3) := by decide +kernel
theorem dX4_count_69 : decode cX4_count 69 = .ok (.ireturn, 1) := by decide +kernel
theorem dX4_count_70 : decode cX4_count 70 = .ok (.bipush (-2), 2) := by decide +kernel
theorem dX4_count_72 : decode cX4_count 72 = .ok (.ireturn, 1) := by decide +kernel
theorem dX4_refuse_0 : decode cX4_refuse 0 = .ok (.aload_n 0, 1) := by decide +kernel
theorem dX4_refuse_1 : decode cX4_refuse 1 = .ok (.iload_n 1, 1) := by decide +kernel
theorem dX4_refuse_2 : decode cX4_refuse 2 = .ok (.putfield 38, 3) := by decide +kernel
theorem dX4_refuse_5 : decode cX4_refuse 5 = .ok (.iload_n 1, 1) := by decide +kernel
theorem dX4_refuse_6 : decode cX4_refuse 6 = .ok (.bipush (-4), 2) := by decide +kernel
theorem dX4_refuse_8 : decode cX4_refuse 8 = .ok (.if_icmp .ne 16, 3) := by decide +kernel
theorem dX4_refuse_11 : decode cX4_refuse 11 = .ok (.aload_n 0, 1) := by decide +kernel
theorem dX4_refuse_12 : decode cX4_refuse 12 = .ok (.dup, 1) := by decide +kernel
theorem dX4_refuse_13 : decode cX4_refuse 13 = .ok (.getfield 128, 3) := by decide +kernel
theorem dX4_refuse_16 : decode cX4_refuse 16 = .ok (.iconst 1, 1) := by decide +kernel
theorem dX4_refuse_17 : decode cX4_refuse 17 = .ok (.iadd, 1) := by decide +kernel
theorem dX4_refuse_18 : decode cX4_refuse 18 = .ok (.putfield 128, 3) := by decide +kernel
theorem dX4_refuse_21 : decode cX4_refuse 21 = .ok (.goto 38, 3) := by decide +kernel
theorem dX4_refuse_24 : decode cX4_refuse 24 = .ok (.iload_n 1, 1) := by decide +kernel
theorem dX4_refuse_25 : decode cX4_refuse 25 = .ok (.bipush (-5), 2) := by decide +kernel
theorem dX4_refuse_27 : decode cX4_refuse 27 = .ok (.if_icmp .ne 16, 3) := by decide +kernel
theorem dX4_refuse_30 : decode cX4_refuse 30 = .ok (.aload_n 0, 1) := by decide +kernel
theorem dX4_refuse_31 : decode cX4_refuse 31 = .ok (.dup, 1) := by decide +kernel
theorem dX4_refuse_32 : decode cX4_refuse 32 = .ok (.getfield 131, 3) := by decide +kernel
theorem dX4_refuse_35 : decode cX4_refuse 35 = .ok (.iconst 1, 1) := by decide +kernel
theorem dX4_refuse_36 : decode cX4_refuse 36 = .ok (.iadd, 1) := by decide +kernel
theorem dX4_refuse_37 : decode cX4_refuse 37 = .ok (.putfield 131, 3) := by decide +kernel
theorem dX4_refuse_40 : decode cX4_refuse 40 = .ok (.goto 19, 3) := by decide +kernel
theorem dX4_refuse_43 : decode cX4_refuse 43 = .ok (.iload_n 1, 1) := by decide +kernel
theorem dX4_refuse_44 : decode cX4_refuse 44 = .ok (.bipush (-6), 2) := by decide +kernel
theorem dX4_refuse_46 : decode cX4_refuse 46 = .ok (.if_icmp .ne 13, 3) := by decide +kernel
theorem dX4_refuse_49 : decode cX4_refuse 49 = .ok (.aload_n 0, 1) := by decide +kernel
theorem dX4_refuse_50 : decode cX4_refuse 50 = .ok (.dup, 1) := by decide +kernel
theorem dX4_refuse_51 : decode cX4_refuse 51 = .ok (.getfield 134, 3) := by decide +kernel
theorem dX4_refuse_54 : decode cX4_refuse 54 = .ok (.iconst 1, 1) := by decide +kernel
theorem dX4_refuse_55 : decode cX4_refuse 55 = .ok (.iadd, 1) := by decide +kernel
theorem dX4_refuse_56 : decode cX4_refuse 56 = .ok (.putfield 134, 3) := by decide +kernel
theorem dX4_refuse_59 : decode cX4_refuse 59 = .ok (.iload_n 1, 1) := by decide +kernel
theorem dX4_refuse_60 : decode cX4_refuse 60 = .ok (.ireturn, 1) := by decide +kernel
theorem dX4_find_0 : decode cX4_find 0 = .ok (.iload_n 1, 1) := by decide +kernel
theorem dX4_find_1 : decode cX4_find 1 = .ok (.ifCond .lt 21, 3) := by decide +kernel
theorem dX4_find_4 : decode cX4_find 4 = .ok (.iload_n 1, 1) := by decide +kernel
theorem dX4_find_5 : decode cX4_find 5 = .ok (.aload_n 0, 1) := by decide +kernel
theorem dX4_find_6 : decode cX4_find 6 = .ok (.getfield 11, 3) := by decide +kernel
theorem dX4_find_9 : decode cX4_find 9 = .ok (.arraylength, 1) := by decide +kernel
theorem dX4_find_10 : decode cX4_find 10 = .ok (.if_icmp .ge 12, 3) := by decide +kernel
theorem dX4_find_13 : decode cX4_find 13 = .ok (.aload_n 0, 1) := by decide +kernel
theorem dX4_find_14 : decode cX4_find 14 = .ok (.getfield 11, 3) := by decide +kernel
theorem dX4_find_17 : decode cX4_find 17 = .ok (.iload_n 1, 1) := by decide +kernel
theorem dX4_find_18 : decode cX4_find 18 = .ok (.aaload, 1) := by decide +kernel
theorem dX4_find_19 : decode cX4_find 19 = .ok (.goto 4, 3) := by decide +kernel
theorem dX4_find_22 : decode cX4_find 22 = .ok (.aconst_null, 1) := by decide +kernel
theorem dX4_find_23 : decode cX4_find 23 = .ok (.areturn, 1) := by decide +kernel
theorem dX4_numbersWith_0 : decode cX4_numbersWith 0 = .ok (.aload_n 0, 1) := by decide +kernel
theorem dX4_numbersWith_1 : decode cX4_numbersWith 1 = .ok (.iload_n 1, 1) := by decide +kernel
theorem dX4_numbersWith_2 : decode cX4_numbersWith 2 = .ok (.invokevirtual 68, 3) := by decide +kernel
theorem dX4_numbersWith_5 : decode cX4_numbersWith 5 = .ok (.astore_n 3, 1) := by decide +kernel
theorem dX4_numbersWith_6 : decode cX4_numbersWith 6 = .ok (.aload_n 3, 1) := by decide +kernel
theorem dX4_numbersWith_7 : decode cX4_numbersWith 7 = .ok (.ifnonnull 12, 3) := by decide +kernel
theorem dX4_numbersWith_10 : decode cX4_numbersWith 10 = .ok (.aload_n 0, 1) := by decide +kernel
theorem dX4_numbersWith_11 : decode cX4_numbersWith 11 = .ok (.bipush (-2), 2) := by decide +kernel
theorem dX4_numbersWith_13 : decode cX4_numbersWith 13 = .ok (.invokevirtual 46, 3) := by decide +kernel
theorem dX4_numbersWith_16 : decode cX4_numbersWith 16 = .ok (.pop, 1) := by decide +kernel
theorem dX4_numbersWith_17 : decode cX4_numbersWith 17 = .ok (.aconst_null, 1) := by decide +kernel
theorem dX4_numbersWith_18 : decode cX4_numbersWith 18 = .ok (.areturn, 1) := by decide +kernel
theorem dX4_numbersWith_19 : decode cX4_numbersWith 19 = .ok (.aload_n 3, 1) := by decide +kernel
theorem dX4_numbersWith_20 : decode cX4_numbersWith 20 = .ok (.instanceof 61, 3) := by decide +kernel
theorem dX4_numbersWith_23 : decode cX4_numbersWith 23 = .ok (.ifCond .eq 12, 3) := by decide +kernel
theorem dX4_numbersWith_26 : decode cX4_numbersWith 26 = .ok (.aload_n 3, 1) := by decide +kernel
theorem dX4_numbersWith_27 : decode cX4_numbersWith 27 = .ok (.checkcast 61, 3) := by decide +kernel
theorem dX4_numbersWith_30 : decode cX4_numbersWith 30 = .ok (.astore 4, 2) := by decide +kernel
theorem dX4_numbersWith_32 : decode cX4_numbersWith 32 = .ok (.goto 12, 3) := by decide +kernel
theorem dX4_numbersWith_35 : decode cX4_numbersWith 35 = .ok (.aload_n 0, 1) := by decide +kernel
theorem dX4_numbersWith_36 : decode cX4_numbersWith 36 = .ok (.bipush (-4), 2) := by decide +kernel
theorem dX4_numbersWith_38 : decode cX4_numbersWith 38 = .ok (.invokevirtual 46, 3) := by decide +kernel
theorem dX4_numbersWith_41 : decode cX4_numbersWith 41 = .ok (.pop, 1) := by decide +kernel
theorem dX4_numbersWith_42 : decode cX4_numbersWith 42 = .ok (.aconst_null, 1) := by decide +kernel
theorem dX4_numbersWith_43 : decode cX4_numbersWith 43 = .ok (.areturn, 1) := by decide +kernel
theorem dX4_numbersWith_44 : decode cX4_numbersWith 44 = .ok (.aload 4, 2) := by decide +kernel
theorem dX4_numbersWith_46 : decode cX4_numbersWith 46 = .ok (.iload_n 2, 1) := by decide +kernel
theorem dX4_numbersWith_47 : decode cX4_numbersWith 47 = .ok (.invokevirtual 137, 3) := by decide +kernel
theorem dX4_numbersWith_50 : decode cX4_numbersWith 50 = .ok (.ifCond .ne 12, 3) := by decide +kernel
theorem dX4_numbersWith_53 : decode cX4_numbersWith 53 = .ok (.aload_n 0, 1) := by decide +kernel
theorem dX4_numbersWith_54 : decode cX4_numbersWith 54 = .ok (.bipush (-5), 2) := by decide +kernel
theorem dX4_numbersWith_56 : decode cX4_numbersWith 56 = .ok (.invokevirtual 46, 3) := by decide +kernel
theorem dX4_numbersWith_59 : decode cX4_numbersWith 59 = .ok (.pop, 1) := by decide +kernel
theorem dX4_numbersWith_60 : decode cX4_numbersWith 60 = .ok (.aconst_null, 1) := by decide +kernel
theorem dX4_numbersWith_61 : decode cX4_numbersWith 61 = .ok (.areturn, 1) := by decide +kernel
theorem dX4_numbersWith_62 : decode cX4_numbersWith 62 = .ok (.aload 4, 2) := by decide +kernel
theorem dX4_numbersWith_64 : decode cX4_numbersWith 64 = .ok (.areturn, 1) := by decide +kernel
theorem dX4_takeAs_0 : decode cX4_takeAs 0 = .ok (.aload_n 1, 1) := by decide +kernel
theorem dX4_takeAs_1 : decode cX4_takeAs 1 = .ok (.iload_n 2, 1) := by decide +kernel
theorem dX4_takeAs_2 : decode cX4_takeAs 2 = .ok (.invokevirtual 78, 3) := by decide +kernel
theorem dX4_takeAs_5 : decode cX4_takeAs 5 = .ok (.ifCond .eq 11, 3) := by decide +kernel
theorem dX4_takeAs_8 : decode cX4_takeAs 8 = .ok (.aload_n 1, 1) := by decide +kernel
theorem dX4_takeAs_9 : decode cX4_takeAs 9 = .ok (.iload_n 2, 1) := by decide +kernel
theorem dX4_takeAs_10 : decode cX4_takeAs 10 = .ok (.invokevirtual 125, 3) := by decide +kernel
theorem dX4_takeAs_13 : decode cX4_takeAs 13 = .ok (.goto 9, 3) := by decide +kernel
theorem dX4_takeAs_16 : decode cX4_takeAs 16 = .ok (.aload_n 0, 1) := by decide +kernel
theorem dX4_takeAs_17 : decode cX4_takeAs 17 = .ok (.bipush (-4), 2) := by decide +kernel
theorem dX4_takeAs_19 : decode cX4_takeAs 19 = .ok (.invokevirtual 46, 3) := by decide +kernel
theorem dX4_takeAs_22 : decode cX4_takeAs 22 = .ok (.ireturn, 1) := by decide +kernel
theorem dX4_lineFor_0 : decode cX4_lineFor 0 = .ok (.iconst 0, 1) := by decide +kernel
theorem dX4_lineFor_1 : decode cX4_lineFor 1 = .ok (.istore_n 2, 1) := by decide +kernel
theorem dX4_lineFor_2 : decode cX4_lineFor 2 = .ok (.iload_n 2, 1) := by decide +kernel
theorem dX4_lineFor_3 : decode cX4_lineFor 3 = .ok (.aload_n 0, 1) := by decide +kernel
theorem dX4_lineFor_4 : decode cX4_lineFor 4 = .ok (.getfield 119, 3) := by decide +kernel
theorem dX4_lineFor_7 : decode cX4_lineFor 7 = .ok (.if_icmp .ge 24, 3) := by decide +kernel
theorem dX4_lineFor_10 : decode cX4_lineFor 10 = .ok (.aload_n 1, 1) := by decide +kernel
theorem dX4_lineFor_11 : decode cX4_lineFor 11 = .ok (.aload_n 0, 1) := by decide +kernel
theorem dX4_lineFor_12 : decode cX4_lineFor 12 = .ok (.getfield 26, 3) := by decide +kernel
theorem dX4_lineFor_15 : decode cX4_lineFor 15 = .ok (.iload_n 2, 1) := by decide +kernel
theorem dX4_lineFor_16 : decode cX4_lineFor 16 = .ok (.iaload, 1) := by decide +kernel
theorem dX4_lineFor_17 : decode cX4_lineFor 17 = .ok (.invokevirtual 78, 3) := by decide +kernel
theorem dX4_lineFor_20 : decode cX4_lineFor 20 = .ok (.ifCond .eq 5, 3) := by decide +kernel
theorem dX4_lineFor_23 : decode cX4_lineFor 23 = .ok (.iload_n 2, 1) := by decide +kernel
theorem dX4_lineFor_24 : decode cX4_lineFor 24 = .ok (.ireturn, 1) := by decide +kernel
theorem dX4_lineFor_25 : decode cX4_lineFor 25 = .ok (.iinc 2 1, 3) := by decide +kernel
theorem dX4_lineFor_28 : decode cX4_lineFor 28 = .ok (.goto (-26), 3) := by decide +kernel
theorem dX4_lineFor_31 : decode cX4_lineFor 31 = .ok (.iconst (-1), 1) := by decide +kernel
theorem dX4_lineFor_32 : decode cX4_lineFor 32 = .ok (.ireturn, 1) := by decide +kernel
theorem dX4_numberOf_0 : decode cX4_numberOf 0 = .ok (.aload_n 0, 1) := by decide +kernel
theorem dX4_numberOf_1 : decode cX4_numberOf 1 = .ok (.ifnonnull 7, 3) := by decide +kernel
theorem dX4_numberOf_4 : decode cX4_numberOf 4 = .ok (.iconst (-1), 1) := by decide +kernel
theorem dX4_numberOf_5 : decode cX4_numberOf 5 = .ok (.goto 7, 3) := by decide +kernel
theorem dX4_numberOf_8 : decode cX4_numberOf 8 = .ok (.aload_n 0, 1) := by decide +kernel
theorem dX4_numberOf_9 : decode cX4_numberOf 9 = .ok (.getfield 138, 3) := by decide +kernel
theorem dX4_numberOf_12 : decode cX4_numberOf 12 = .ok (.ireturn, 1) := by decide +kernel
theorem dX4_isView_0 : decode cX4_isView 0 = .ok (.iload_n 0, 1) := by decide +kernel
theorem dX4_isView_1 : decode cX4_isView 1 = .ok (.ifCond .lt 13, 3) := by decide +kernel
theorem dX4_isView_4 : decode cX4_isView 4 = .ok (.iload_n 0, 1) := by decide +kernel
theorem dX4_isView_5 : decode cX4_isView 5 = .ok (.bipush 13, 2) := by decide +kernel
theorem dX4_isView_7 : decode cX4_isView 7 = .ok (.if_icmp .gt 7, 3) := by decide +kernel
theorem dX4_isView_10 : decode cX4_isView 10 = .ok (.iconst 1, 1) := by decide +kernel
theorem dX4_isView_11 : decode cX4_isView 11 = .ok (.goto 4, 3) := by decide +kernel
theorem dX4_isView_14 : decode cX4_isView 14 = .ok (.iconst 0, 1) := by decide +kernel
theorem dX4_isView_15 : decode cX4_isView 15 = .ok (.ireturn, 1) := by decide +kernel
theorem dX4_isBay_0 : decode cX4_isBay 0 = .ok (.iload_n 0, 1) := by decide +kernel
theorem dX4_isBay_1 : decode cX4_isBay 1 = .ok (.ifCond .lt 13, 3) := by decide +kernel
theorem dX4_isBay_4 : decode cX4_isBay 4 = .ok (.iload_n 0, 1) := by decide +kernel
theorem dX4_isBay_5 : decode cX4_isBay 5 = .ok (.bipush 12, 2) := by decide +kernel
theorem dX4_isBay_7 : decode cX4_isBay 7 = .ok (.if_icmp .ge 7, 3) := by decide +kernel
theorem dX4_isBay_10 : decode cX4_isBay 10 = .ok (.iconst 1, 1) := by decide +kernel
theorem dX4_isBay_11 : decode cX4_isBay 11 = .ok (.goto 4, 3) := by decide +kernel
theorem dX4_isBay_14 : decode cX4_isBay 14 = .ok (.iconst 0, 1) := by decide +kernel
theorem dX4_isBay_15 : decode cX4_isBay 15 = .ok (.ireturn, 1) := by decide +kernel
theorem dX4_isGate_0 : decode cX4_isGate 0 = .ok (.iload_n 0, 1) := by decide +kernel
theorem dX4_isGate_1 : decode cX4_isGate 1 = .ok (.ifCond .lt 13, 3) := by decide +kernel
theorem dX4_isGate_4 : decode cX4_isGate 4 = .ok (.iload_n 0, 1) := by decide +kernel
theorem dX4_isGate_5 : decode cX4_isGate 5 = .ok (.bipush 6, 2) := by decide +kernel
theorem dX4_isGate_7 : decode cX4_isGate 7 = .ok (.if_icmp .ge 7, 3) := by decide +kernel
theorem dX4_isGate_10 : decode cX4_isGate 10 = .ok (.iconst 1, 1) := by decide +kernel
theorem dX4_isGate_11 : decode cX4_isGate 11 = .ok (.goto 4, 3) := by decide +kernel
theorem dX4_isGate_14 : decode cX4_isGate 14 = .ok (.iconst 0, 1) := by decide +kernel
theorem dX4_isGate_15 : decode cX4_isGate 15 = .ok (.ireturn, 1) := by decide +kernel
theorem dX4_hasWeightTold_0 : decode cX4_hasWeightTold 0 = .ok (.iload_n 0, 1) := by decide +kernel
theorem dX4_hasWeightTold_1 : decode cX4_hasWeightTold 1 = .ok (.iconst 4, 1) := by decide +kernel
theorem dX4_hasWeightTold_2 : decode cX4_hasWeightTold 2 = .ok (.if_icmp .eq 14, 3) := by decide +kernel
theorem dX4_hasWeightTold_5 : decode cX4_hasWeightTold 5 = .ok (.iload_n 0, 1) := by decide +kernel
theorem dX4_hasWeightTold_6 : decode cX4_hasWeightTold 6 = .ok (.iconst 5, 1) := by decide +kernel
theorem dX4_hasWeightTold_7 : decode cX4_hasWeightTold 7 = .ok (.if_icmp .eq 9, 3) := by decide +kernel
theorem dX4_hasWeightTold_10 : decode cX4_hasWeightTold 10 = .ok (.iload_n 0, 1) := by decide +kernel
theorem dX4_hasWeightTold_11 : decode cX4_hasWeightTold 11 = .ok (.bipush 6, 2) := by decide +kernel
theorem dX4_hasWeightTold_13 : decode cX4_hasWeightTold 13 = .ok (.if_icmp .ne 7, 3) := by decide +kernel
theorem dX4_hasWeightTold_16 : decode cX4_hasWeightTold 16 = .ok (.iconst 1, 1) := by decide +kernel
theorem dX4_hasWeightTold_17 : decode cX4_hasWeightTold 17 = .ok (.goto 4, 3) := by decide +kernel
theorem dX4_hasWeightTold_20 : decode cX4_hasWeightTold 20 = .ok (.iconst 0, 1) := by decide +kernel
theorem dX4_hasWeightTold_21 : decode cX4_hasWeightTold 21 = .ok (.ireturn, 1) := by decide +kernel
theorem dX4_mostOf_0 : decode cX4_mostOf 0 = .ok (.iload_n 0, 1) := by decide +kernel
theorem dX4_mostOf_1 : decode cX4_mostOf 1 = .ok (.invokestatic 141, 3) := by decide +kernel
theorem dX4_mostOf_4 : decode cX4_mostOf 4 = .ok (.ifCond .eq 9, 3) := by decide +kernel
theorem dX4_mostOf_7 : decode cX4_mostOf 7 = .ok (.sipush 1000, 3) := by decide +kernel
theorem dX4_mostOf_10 : decode cX4_mostOf 10 = .ok (.goto 5, 3) := by decide +kernel
theorem dX4_mostOf_13 : decode cX4_mostOf 13 = .ok (.bipush 6, 2) := by decide +kernel
theorem dX4_mostOf_15 : decode cX4_mostOf 15 = .ok (.ireturn, 1) := by decide +kernel
theorem dX4_makeLoad_0 : decode cX4_makeLoad 0 = .ok (.iload_n 1, 1) := by decide +kernel
theorem dX4_makeLoad_1 : decode cX4_makeLoad 1 = .ok (.invokestatic 141, 3) := by decide +kernel
theorem dX4_makeLoad_4 : decode cX4_makeLoad 4 = .ok (.ifCond .eq 14, 3) := by decide +kernel
theorem dX4_makeLoad_7 : decode cX4_makeLoad 7 = .ok (.new 144, 3) := by decide +kernel
theorem dX4_makeLoad_10 : decode cX4_makeLoad 10 = .ok (.dup, 1) := by decide +kernel
theorem dX4_makeLoad_11 : decode cX4_makeLoad 11 = .ok (.iload_n 0, 1) := by decide +kernel
theorem dX4_makeLoad_12 : decode cX4_makeLoad 12 = .ok (.iload_n 1, 1) := by decide +kernel
theorem dX4_makeLoad_13 : decode cX4_makeLoad 13 = .ok (.iload_n 2, 1) := by decide +kernel
theorem dX4_makeLoad_14 : decode cX4_makeLoad 14 = .ok (.invokespecial 146, 3) := by decide +kernel
theorem dX4_makeLoad_17 : decode cX4_makeLoad 17 = .ok (.areturn, 1) := by decide +kernel
theorem dX4_makeLoad_18 : decode cX4_makeLoad 18 = .ok (.iload_n 1, 1) := by decide +kernel
theorem dX4_makeLoad_19 : decode cX4_makeLoad 19 = .ok (.ifCond .eq 13, 3) := by decide +kernel
theorem dX4_makeLoad_22 : decode cX4_makeLoad 22 = .ok (.iload_n 1, 1) := by decide +kernel
theorem dX4_makeLoad_23 : decode cX4_makeLoad 23 = .ok (.iconst 1, 1) := by decide +kernel
theorem dX4_makeLoad_24 : decode cX4_makeLoad 24 = .ok (.if_icmp .eq 8, 3) := by decide +kernel
theorem dX4_makeLoad_27 : decode cX4_makeLoad 27 = .ok (.iload_n 1, 1) := by decide +kernel
theorem dX4_makeLoad_28 : decode cX4_makeLoad 28 = .ok (.iconst 2, 1) := by decide +kernel
theorem dX4_makeLoad_29 : decode cX4_makeLoad 29 = .ok (.if_icmp .ne 16, 3) := by decide +kernel
theorem dX4_makeLoad_32 : decode cX4_makeLoad 32 = .ok (.new 61, 3) := by decide +kernel
theorem dX4_makeLoad_35 : decode cX4_makeLoad 35 = .ok (.dup, 1) := by decide +kernel
theorem dX4_makeLoad_36 : decode cX4_makeLoad 36 = .ok (.iload_n 0, 1) := by decide +kernel
theorem dX4_makeLoad_37 : decode cX4_makeLoad 37 = .ok (.iload_n 1, 1) := by decide +kernel
theorem dX4_makeLoad_38 : decode cX4_makeLoad 38 = .ok (.iload_n 2, 1) := by decide +kernel
theorem dX4_makeLoad_39 : decode cX4_makeLoad 39 = .ok (.newarray .long, 2) := by decide +kernel
theorem dX4_makeLoad_41 : decode cX4_makeLoad 41 = .ok (.invokespecial 149, 3) := by decide +kernel
theorem dX4_makeLoad_44 : decode cX4_makeLoad 44 = .ok (.areturn, 1) := by decide +kernel
theorem dX4_makeLoad_45 : decode cX4_makeLoad 45 = .ok (.new 72, 3) := by decide +kernel
theorem dX4_makeLoad_48 : decode cX4_makeLoad 48 = .ok (.dup, 1) := by decide +kernel
theorem dX4_makeLoad_49 : decode cX4_makeLoad 49 = .ok (.iload_n 0, 1) := by decide +kernel
theorem dX4_makeLoad_50 : decode cX4_makeLoad 50 = .ok (.iload_n 1, 1) := by decide +kernel
theorem dX4_makeLoad_51 : decode cX4_makeLoad 51 = .ok (.iload_n 2, 1) := by decide +kernel
theorem dX4_makeLoad_52 : decode cX4_makeLoad 52 = .ok (.anewarray 9, 3) := by decide +kernel
theorem dX4_makeLoad_55 : decode cX4_makeLoad 55 = .ok (.invokespecial 152, 3) := by decide +kernel
theorem dX4_makeLoad_58 : decode cX4_makeLoad 58 = .ok (.areturn, 1) := by decide +kernel
theorem dX5_init_0 : decode cX5_init 0 = .ok (.aload_n 0, 1) := by decide +kernel
theorem dX5_init_1 : decode cX5_init 1 = .ok (.invokespecial 1, 3) := by decide +kernel
theorem dX5_init_4 : decode cX5_init 4 = .ok (.aload_n 0, 1) := by decide +kernel
theorem dX5_init_5 : decode cX5_init 5 = .ok (.bipush 80, 2) := by decide +kernel
theorem dX5_init_7 : decode cX5_init 7 = .ok (.newarray .int, 2) := by decide +kernel
theorem dX5_init_9 : decode cX5_init 9 = .ok (.putfield 7, 3) := by decide +kernel
theorem dX5_init_12 : decode cX5_init 12 = .ok (.aload_n 0, 1) := by decide +kernel
theorem dX5_init_13 : decode cX5_init 13 = .ok (.bipush 80, 2) := by decide +kernel
theorem dX5_init_15 : decode cX5_init 15 = .ok (.newarray .int, 2) := by decide +kernel
theorem dX5_init_17 : decode cX5_init 17 = .ok (.putfield 13, 3) := by decide +kernel
theorem dX5_init_20 : decode cX5_init 20 = .ok (.aload_n 0, 1) := by decide +kernel
theorem dX5_init_21 : decode cX5_init 21 = .ok (.bipush 80, 2) := by decide +kernel
theorem dX5_init_23 : decode cX5_init 23 = .ok (.newarray .int, 2) := by decide +kernel
theorem dX5_init_25 : decode cX5_init 25 = .ok (.putfield 16, 3) := by decide +kernel
theorem dX5_init_28 : decode cX5_init 28 = .ok (.aload_n 0, 1) := by decide +kernel
theorem dX5_init_29 : decode cX5_init 29 = .ok (.sipush 480, 3) := by decide +kernel
theorem dX5_init_32 : decode cX5_init 32 = .ok (.newarray .long, 2) := by decide +kernel
theorem dX5_init_34 : decode cX5_init 34 = .ok (.putfield 19, 3) := by decide +kernel
theorem dX5_init_37 : decode cX5_init 37 = .ok (.aload_n 0, 1) := by decide +kernel
theorem dX5_init_38 : decode cX5_init 38 = .ok (.sipush 480, 3) := by decide +kernel
theorem dX5_init_41 : decode cX5_init 41 = .ok (.newarray .int, 2) := by decide +kernel
theorem dX5_init_43 : decode cX5_init 43 = .ok (.putfield 23, 3) := by decide +kernel
theorem dX5_init_46 : decode cX5_init 46 = .ok (.aload_n 0, 1) := by decide +kernel
theorem dX5_init_47 : decode cX5_init 47 = .ok (.bipush 12, 2) := by decide +kernel
theorem dX5_init_49 : decode cX5_init 49 = .ok (.newarray .int, 2) := by decide +kernel
theorem dX5_init_51 : decode cX5_init 51 = .ok (.putfield 26, 3) := by decide +kernel
theorem dX5_init_54 : decode cX5_init 54 = .ok (.aload_n 0, 1) := by decide +kernel
theorem dX5_init_55 : decode cX5_init 55 = .ok (.bipush 6, 2) := by decide +kernel
theorem dX5_init_57 : decode cX5_init 57 = .ok (.newarray .int, 2) := by decide +kernel
theorem dX5_init_59 : decode cX5_init 59 = .ok (.putfield 29, 3) := by decide +kernel
theorem dX5_init_62 : decode cX5_init 62 = .ok (.aload_n 0, 1) := by decide +kernel
theorem dX5_init_63 : decode cX5_init 63 = .ok (.bipush 6, 2) := by decide +kernel
theorem dX5_init_65 : decode cX5_init 65 = .ok (.newarray .long, 2) := by decide +kernel
theorem dX5_init_67 : decode cX5_init 67 = .ok (.putfield 32, 3) := by decide +kernel
end
section
theorem dX5_init_70 : decode cX5_init 70 = .ok (.aload_n 0, 1) := by decide +kernel
theorem dX5_init_71 : decode cX5_init 71 = .ok (.bipush 10, 2) := by decide +kernel
theorem dX5_init_73 : decode cX5_init 73 = .ok (.newarray .int, 2) := by decide +kernel
theorem dX5_init_75 : decode cX5_init 75 = .ok (.putfield 35, 3) := by decide +kernel
theorem dX5_init_78 : decode cX5_init 78 = .ok (.aload_n 0, 1) := by decide +kernel
theorem dX5_init_79 : decode cX5_init 79 = .ok (.bipush 10, 2) := by decide +kernel
theorem dX5_init_81 : decode cX5_init 81 = .ok (.newarray .int, 2) := by decide +kernel
theorem dX5_init_83 : decode cX5_init 83 = .ok (.putfield 38, 3) := by decide +kernel
theorem dX5_init_86 : decode cX5_init 86 = .ok (.aload_n 0, 1) := by decide +kernel
theorem dX5_init_87 : decode cX5_init 87 = .ok (.bipush 60, 2) := by decide +kernel
theorem dX5_init_89 : decode cX5_init 89 = .ok (.newarray .int, 2) := by decide +kernel
theorem dX5_init_91 : decode cX5_init 91 = .ok (.putfield 41, 3) := by decide +kernel
theorem dX5_init_94 : decode cX5_init 94 = .ok (.iconst 0, 1) := by decide +kernel
theorem dX5_init_95 : decode cX5_init 95 = .ok (.istore_n 1, 1) := by decide +kernel
theorem dX5_init_96 : decode cX5_init 96 = .ok (.iload_n 1, 1) := by decide +kernel
theorem dX5_init_97 : decode cX5_init 97 = .ok (.bipush 12, 2) := by decide +kernel
theorem dX5_init_99 : decode cX5_init 99 = .ok (.if_icmp .ge 16, 3) := by decide +kernel
theorem dX5_init_102 : decode cX5_init 102 = .ok (.aload_n 0, 1) := by decide +kernel
theorem dX5_init_103 : decode cX5_init 103 = .ok (.getfield 26, 3) := by decide +kernel
theorem dX5_init_106 : decode cX5_init 106 = .ok (.iload_n 1, 1) := by decide +kernel
theorem dX5_init_107 : decode cX5_init 107 = .ok (.iconst (-1), 1) := by decide +kernel
theorem dX5_init_108 : decode cX5_init 108 = .ok (.iastore, 1) := by decide +kernel
theorem dX5_init_109 : decode cX5_init 109 = .ok (.iinc 1 1, 3) := by decide +kernel
theorem dX5_init_112 : decode cX5_init 112 = .ok (.goto (-16), 3) := by decide +kernel
theorem dX5_init_115 : decode cX5_init 115 = .ok (.iconst 0, 1) := by decide +kernel
theorem dX5_init_116 : decode cX5_init 116 = .ok (.istore_n 1, 1) := by decide +kernel
theorem dX5_init_117 : decode cX5_init 117 = .ok (.iload_n 1, 1) := by decide +kernel
theorem dX5_init_118 : decode cX5_init 118 = .ok (.bipush 6, 2) := by decide +kernel
theorem dX5_init_120 : decode cX5_init 120 = .ok (.if_icmp .ge 16, 3) := by decide +kernel
theorem dX5_init_123 : decode cX5_init 123 = .ok (.aload_n 0, 1) := by decide +kernel
theorem dX5_init_124 : decode cX5_init 124 = .ok (.getfield 29, 3) := by decide +kernel
theorem dX5_init_127 : decode cX5_init 127 = .ok (.iload_n 1, 1) := by decide +kernel
theorem dX5_init_128 : decode cX5_init 128 = .ok (.iconst (-1), 1) := by decide +kernel
theorem dX5_init_129 : decode cX5_init 129 = .ok (.iastore, 1) := by decide +kernel
theorem dX5_init_130 : decode cX5_init 130 = .ok (.iinc 1 1, 3) := by decide +kernel
theorem dX5_init_133 : decode cX5_init 133 = .ok (.goto (-16), 3) := by decide +kernel
theorem dX5_init_136 : decode cX5_init 136 = .ok (.return_, 1) := by decide +kernel
theorem dX5_isIn_0 : decode cX5_isIn 0 = .ok (.iload_n 0, 1) := by decide +kernel
theorem dX5_isIn_1 : decode cX5_isIn 1 = .ok (.iload_n 1, 1) := by decide +kernel
theorem dX5_isIn_2 : decode cX5_isIn 2 = .ok (.if_icmp .lt 12, 3) := by decide +kernel
theorem dX5_isIn_5 : decode cX5_isIn 5 = .ok (.iload_n 0, 1) := by decide +kernel
theorem dX5_isIn_6 : decode cX5_isIn 6 = .ok (.iload_n 2, 1) := by decide +kernel
theorem dX5_isIn_7 : decode cX5_isIn 7 = .ok (.if_icmp .gt 7, 3) := by decide +kernel
theorem dX5_isIn_10 : decode cX5_isIn 10 = .ok (.iconst 1, 1) := by decide +kernel
theorem dX5_isIn_11 : decode cX5_isIn 11 = .ok (.goto 4, 3) := by decide +kernel
theorem dX5_isIn_14 : decode cX5_isIn 14 = .ok (.iconst 0, 1) := by decide +kernel
theorem dX5_isIn_15 : decode cX5_isIn 15 = .ok (.ireturn, 1) := by decide +kernel
theorem dX5_isLoad_0 : decode cX5_isLoad 0 = .ok (.iload_n 1, 1) := by decide +kernel
theorem dX5_isLoad_1 : decode cX5_isLoad 1 = .ok (.iconst 0, 1) := by decide +kernel
theorem dX5_isLoad_2 : decode cX5_isLoad 2 = .ok (.aload_n 0, 1) := by decide +kernel
theorem dX5_isLoad_3 : decode cX5_isLoad 3 = .ok (.getfield 44, 3) := by decide +kernel
theorem dX5_isLoad_6 : decode cX5_isLoad 6 = .ok (.iconst 1, 1) := by decide +kernel
theorem dX5_isLoad_7 : decode cX5_isLoad 7 = .ok (.isub, 1) := by decide +kernel
theorem dX5_isLoad_8 : decode cX5_isLoad 8 = .ok (.invokestatic 48, 3) := by decide +kernel
theorem dX5_isLoad_11 : decode cX5_isLoad 11 = .ok (.ireturn, 1) := by decide +kernel
theorem dX5_isView_0 : decode cX5_isView 0 = .ok (.iload_n 0, 1) := by decide +kernel
theorem dX5_isView_1 : decode cX5_isView 1 = .ok (.iconst 0, 1) := by decide +kernel
theorem dX5_isView_2 : decode cX5_isView 2 = .ok (.bipush 13, 2) := by decide +kernel
theorem dX5_isView_4 : decode cX5_isView 4 = .ok (.invokestatic 48, 3) := by decide +kernel
theorem dX5_isView_7 : decode cX5_isView 7 = .ok (.ireturn, 1) := by decide +kernel
theorem dX5_no_0 : decode cX5_no 0 = .ok (.aload_n 0, 1) := by decide +kernel
theorem dX5_no_1 : decode cX5_no 1 = .ok (.iload_n 1, 1) := by decide +kernel
theorem dX5_no_2 : decode cX5_no 2 = .ok (.putfield 52, 3) := by decide +kernel
theorem dX5_no_5 : decode cX5_no 5 = .ok (.aload_n 0, 1) := by decide +kernel
theorem dX5_no_6 : decode cX5_no 6 = .ok (.dup, 1) := by decide +kernel
theorem dX5_no_7 : decode cX5_no 7 = .ok (.getfield 55, 3) := by decide +kernel
theorem dX5_no_10 : decode cX5_no 10 = .ok (.iload_n 1, 1) := by decide +kernel
theorem dX5_no_11 : decode cX5_no 11 = .ok (.bipush (-4), 2) := by decide +kernel
theorem dX5_no_13 : decode cX5_no 13 = .ok (.if_icmp .ne 7, 3) := by decide +kernel
theorem dX5_no_16 : decode cX5_no 16 = .ok (.iconst 1, 1) := by decide +kernel
theorem dX5_no_17 : decode cX5_no 17 = .ok (.goto 4, 3) := by decide +kernel
theorem dX5_no_20 : decode cX5_no 20 = .ok (.iconst 0, 1) := by decide +kernel
theorem dX5_no_21 : decode cX5_no 21 = .ok (.iadd, 1) := by decide +kernel
theorem dX5_no_22 : decode cX5_no 22 = .ok (.putfield 55, 3) := by decide +kernel
theorem dX5_no_25 : decode cX5_no 25 = .ok (.aload_n 0, 1) := by decide +kernel
theorem dX5_no_26 : decode cX5_no 26 = .ok (.dup, 1) := by decide +kernel
theorem dX5_no_27 : decode cX5_no 27 = .ok (.getfield 58, 3) := by decide +kernel
theorem dX5_no_30 : decode cX5_no 30 = .ok (.iload_n 1, 1) := by decide +kernel
theorem dX5_no_31 : decode cX5_no 31 = .ok (.bipush (-5), 2) := by decide +kernel
theorem dX5_no_33 : decode cX5_no 33 = .ok (.if_icmp .ne 7, 3) := by decide +kernel
theorem dX5_no_36 : decode cX5_no 36 = .ok (.iconst 1, 1) := by decide +kernel
theorem dX5_no_37 : decode cX5_no 37 = .ok (.goto 4, 3) := by decide +kernel
theorem dX5_no_40 : decode cX5_no 40 = .ok (.iconst 0, 1) := by decide +kernel
theorem dX5_no_41 : decode cX5_no 41 = .ok (.iadd, 1) := by decide +kernel
theorem dX5_no_42 : decode cX5_no 42 = .ok (.putfield 58, 3) := by decide +kernel
theorem dX5_no_45 : decode cX5_no 45 = .ok (.aload_n 0, 1) := by decide +kernel
theorem dX5_no_46 : decode cX5_no 46 = .ok (.dup, 1) := by decide +kernel
theorem dX5_no_47 : decode cX5_no 47 = .ok (.getfield 61, 3) := by decide +kernel
theorem dX5_no_50 : decode cX5_no 50 = .ok (.iload_n 1, 1) := by decide +kernel
theorem dX5_no_51 : decode cX5_no 51 = .ok (.bipush (-6), 2) := by decide +kernel
theorem dX5_no_53 : decode cX5_no 53 = .ok (.if_icmp .ne 7, 3) := by decide +kernel
theorem dX5_no_56 : decode cX5_no 56 = .ok (.iconst 1, 1) := by decide +kernel
theorem dX5_no_57 : decode cX5_no 57 = .ok (.goto 4, 3) := by decide +kernel
theorem dX5_no_60 : decode cX5_no 60 = .ok (.iconst 0, 1) := by decide +kernel
theorem dX5_no_61 : decode cX5_no 61 = .ok (.iadd, 1) := by decide +kernel
theorem dX5_no_62 : decode cX5_no 62 = .ok (.putfield 61, 3) := by decide +kernel
theorem dX5_no_65 : decode cX5_no 65 = .ok (.iload_n 1, 1) := by decide +kernel
theorem dX5_no_66 : decode cX5_no 66 = .ok (.ireturn, 1) := by decide +kernel
theorem dX5_goes_0 : decode cX5_goes 0 = .ok (.iload_n 0, 1) := by decide +kernel
theorem dX5_goes_1 : decode cX5_goes 1 = .ok (.iload_n 1, 1) := by decide +kernel
theorem dX5_goes_2 : decode cX5_goes 2 = .ok (.if_icmp .ne 5, 3) := by decide +kernel
theorem dX5_goes_5 : decode cX5_goes 5 = .ok (.iconst 1, 1) := by decide +kernel
theorem dX5_goes_6 : decode cX5_goes 6 = .ok (.ireturn, 1) := by decide +kernel
theorem dX5_goes_7 : decode cX5_goes 7 = .ok (.iload_n 0, 1) := by decide +kernel
theorem dX5_goes_8 : decode cX5_goes 8 = .ok (.tableswitch 109 5 11 #[44, 61, 109, 73, 109, 109, 91], 44) := by decide +kernel
theorem dX5_goes_52 : decode cX5_goes 52 = .ok (.iload_n 1, 1) := by decide +kernel
theorem dX5_goes_53 : decode cX5_goes 53 = .ok (.iconst 4, 1) := by decide +kernel
theorem dX5_goes_54 : decode cX5_goes 54 = .ok (.if_icmp .eq 9, 3) := by decide +kernel
theorem dX5_goes_57 : decode cX5_goes 57 = .ok (.iload_n 1, 1) := by decide +kernel
theorem dX5_goes_58 : decode cX5_goes 58 = .ok (.bipush 13, 2) := by decide +kernel
theorem dX5_goes_60 : decode cX5_goes 60 = .ok (.if_icmp .ne 7, 3) := by decide +kernel
theorem dX5_goes_63 : decode cX5_goes 63 = .ok (.iconst 1, 1) := by decide +kernel
theorem dX5_goes_64 : decode cX5_goes 64 = .ok (.goto 4, 3) := by decide +kernel
theorem dX5_goes_67 : decode cX5_goes 67 = .ok (.iconst 0, 1) := by decide +kernel
theorem dX5_goes_68 : decode cX5_goes 68 = .ok (.ireturn, 1) := by decide +kernel
theorem dX5_goes_69 : decode cX5_goes 69 = .ok (.iload_n 1, 1) := by decide +kernel
theorem dX5_goes_70 : decode cX5_goes 70 = .ok (.bipush 13, 2) := by decide +kernel
theorem dX5_goes_72 : decode cX5_goes 72 = .ok (.if_icmp .ne 7, 3) := by decide +kernel
theorem dX5_goes_75 : decode cX5_goes 75 = .ok (.iconst 1, 1) := by decide +kernel
theorem dX5_goes_76 : decode cX5_goes 76 = .ok (.goto 4, 3) := by decide +kernel
theorem dX5_goes_79 : decode cX5_goes 79 = .ok (.iconst 0, 1) := by decide +kernel
theorem dX5_goes_80 : decode cX5_goes 80 = .ok (.ireturn, 1) := by decide +kernel
theorem dX5_goes_81 : decode cX5_goes 81 = .ok (.iload_n 1, 1) := by decide +kernel
theorem dX5_goes_82 : decode cX5_goes 82 = .ok (.bipush 7, 2) := by decide +kernel
theorem dX5_goes_84 : decode cX5_goes 84 = .ok (.if_icmp .eq 9, 3) := by decide +kernel
theorem dX5_goes_87 : decode cX5_goes 87 = .ok (.iload_n 1, 1) := by decide +kernel
theorem dX5_goes_88 : decode cX5_goes 88 = .ok (.bipush 9, 2) := by decide +kernel
theorem dX5_goes_90 : decode cX5_goes 90 = .ok (.if_icmp .ne 7, 3) := by decide +kernel
theorem dX5_goes_93 : decode cX5_goes 93 = .ok (.iconst 1, 1) := by decide +kernel
theorem dX5_goes_94 : decode cX5_goes 94 = .ok (.goto 4, 3) := by decide +kernel
theorem dX5_goes_97 : decode cX5_goes 97 = .ok (.iconst 0, 1) := by decide +kernel
theorem dX5_goes_98 : decode cX5_goes 98 = .ok (.ireturn, 1) := by decide +kernel
theorem dX5_goes_99 : decode cX5_goes 99 = .ok (.iload_n 1, 1) := by decide +kernel
theorem dX5_goes_100 : decode cX5_goes 100 = .ok (.bipush 10, 2) := by decide +kernel
theorem dX5_goes_102 : decode cX5_goes 102 = .ok (.if_icmp .eq 9, 3) := by decide +kernel
theorem dX5_goes_105 : decode cX5_goes 105 = .ok (.iload_n 1, 1) := by decide +kernel
theorem dX5_goes_106 : decode cX5_goes 106 = .ok (.bipush 12, 2) := by decide +kernel
theorem dX5_goes_108 : decode cX5_goes 108 = .ok (.if_icmp .ne 7, 3) := by decide +kernel
theorem dX5_goes_111 : decode cX5_goes 111 = .ok (.iconst 1, 1) := by decide +kernel
theorem dX5_goes_112 : decode cX5_goes 112 = .ok (.goto 4, 3) := by decide +kernel
theorem dX5_goes_115 : decode cX5_goes 115 = .ok (.iconst 0, 1) := by decide +kernel
theorem dX5_goes_116 : decode cX5_goes 116 = .ok (.ireturn, 1) := by decide +kernel
theorem dX5_goes_117 : decode cX5_goes 117 = .ok (.iconst 0, 1) := by decide +kernel
theorem dX5_goes_118 : decode cX5_goes 118 = .ok (.ireturn, 1) := by decide +kernel
theorem dX5_isSingle_0 : decode cX5_isSingle 0 = .ok (.iload_n 0, 1) := by decide +kernel
theorem dX5_isSingle_1 : decode cX5_isSingle 1 = .ok (.iconst 4, 1) := by decide +kernel
theorem dX5_isSingle_2 : decode cX5_isSingle 2 = .ok (.bipush 6, 2) := by decide +kernel
theorem dX5_isSingle_4 : decode cX5_isSingle 4 = .ok (.invokestatic 48, 3) := by decide +kernel
theorem dX5_isSingle_7 : decode cX5_isSingle 7 = .ok (.ireturn, 1) := by decide +kernel
theorem dX5_isOfNumbers_0 : decode cX5_isOfNumbers 0 = .ok (.iload_n 0, 1) := by decide +kernel
theorem dX5_isOfNumbers_1 : decode cX5_isOfNumbers 1 = .ok (.iconst 0, 1) := by decide +kernel
theorem dX5_isOfNumbers_2 : decode cX5_isOfNumbers 2 = .ok (.iconst 2, 1) := by decide +kernel
theorem dX5_isOfNumbers_3 : decode cX5_isOfNumbers 3 = .ok (.invokestatic 48, 3) := by decide +kernel
theorem dX5_isOfNumbers_6 : decode cX5_isOfNumbers 6 = .ok (.ireturn, 1) := by decide +kernel
theorem dX5_isOfThings_0 : decode cX5_isOfThings 0 = .ok (.iload_n 0, 1) := by decide +kernel
theorem dX5_isOfThings_1 : decode cX5_isOfThings 1 = .ok (.iconst 3, 1) := by decide +kernel
theorem dX5_isOfThings_2 : decode cX5_isOfThings 2 = .ok (.if_icmp .eq 14, 3) := by decide +kernel
theorem dX5_isOfThings_5 : decode cX5_isOfThings 5 = .ok (.iload_n 0, 1) := by decide +kernel
theorem dX5_isOfThings_6 : decode cX5_isOfThings 6 = .ok (.bipush 7, 2) := by decide +kernel
theorem dX5_isOfThings_8 : decode cX5_isOfThings 8 = .ok (.bipush 12, 2) := by decide +kernel
theorem dX5_isOfThings_10 : decode cX5_isOfThings 10 = .ok (.invokestatic 48, 3) := by decide +kernel
theorem dX5_isOfThings_13 : decode cX5_isOfThings 13 = .ok (.ifCond .eq 7, 3) := by decide +kernel
theorem dX5_isOfThings_16 : decode cX5_isOfThings 16 = .ok (.iconst 1, 1) := by decide +kernel
theorem dX5_isOfThings_17 : decode cX5_isOfThings 17 = .ok (.goto 4, 3) := by decide +kernel
theorem dX5_isOfThings_20 : decode cX5_isOfThings 20 = .ok (.iconst 0, 1) := by decide +kernel
theorem dX5_isOfThings_21 : decode cX5_isOfThings 21 = .ok (.ireturn, 1) := by decide +kernel
theorem dX5_load_0 : decode cX5_load 0 = .ok (.aload_n 0, 1) := by decide +kernel
theorem dX5_load_1 : decode cX5_load 1 = .ok (.iconst 0, 1) := by decide +kernel
theorem dX5_load_2 : decode cX5_load 2 = .ok (.putfield 52, 3) := by decide +kernel
theorem dX5_load_5 : decode cX5_load 5 = .ok (.iload_n 1, 1) := by decide +kernel
theorem dX5_load_6 : decode cX5_load 6 = .ok (.iconst 0, 1) := by decide +kernel
theorem dX5_load_7 : decode cX5_load 7 = .ok (.bipush 12, 2) := by decide +kernel
theorem dX5_load_9 : decode cX5_load 9 = .ok (.invokestatic 48, 3) := by decide +kernel
theorem dX5_load_12 : decode cX5_load 12 = .ok (.ifCond .eq 26, 3) := by decide +kernel
theorem dX5_load_15 : decode cX5_load 15 = .ok (.iload_n 2, 1) := by decide +kernel
theorem dX5_load_16 : decode cX5_load 16 = .ok (.iconst 0, 1) := by decide +kernel
theorem dX5_load_17 : decode cX5_load 17 = .ok (.iload_n 1, 1) := by decide +kernel
theorem dX5_load_18 : decode cX5_load 18 = .ok (.invokestatic 64, 3) := by decide +kernel
theorem dX5_load_21 : decode cX5_load 21 = .ok (.ifCond .eq 9, 3) := by decide +kernel
theorem dX5_load_24 : decode cX5_load 24 = .ok (.sipush 1000, 3) := by decide +kernel
theorem dX5_load_27 : decode cX5_load 27 = .ok (.goto 5, 3) := by decide +kernel
theorem dX5_load_30 : decode cX5_load 30 = .ok (.bipush 6, 2) := by decide +kernel
theorem dX5_load_32 : decode cX5_load 32 = .ok (.invokestatic 48, 3) := by decide +kernel
theorem dX5_load_35 : decode cX5_load 35 = .ok (.ifCond .ne 10, 3) := by decide +kernel
theorem dX5_load_38 : decode cX5_load 38 = .ok (.aload_n 0, 1) := by decide +kernel
theorem dX5_load_39 : decode cX5_load 39 = .ok (.bipush (-2), 2) := by decide +kernel
theorem dX5_load_41 : decode cX5_load 41 = .ok (.invokevirtual 68, 3) := by decide +kernel
theorem dX5_load_44 : decode cX5_load 44 = .ok (.ireturn, 1) := by decide +kernel
theorem dX5_load_45 : decode cX5_load 45 = .ok (.aload_n 0, 1) := by decide +kernel
theorem dX5_load_46 : decode cX5_load 46 = .ok (.getfield 44, 3) := by decide +kernel
theorem dX5_load_49 : decode cX5_load 49 = .ok (.bipush 80, 2) := by decide +kernel
theorem dX5_load_51 : decode cX5_load 51 = .ok (.if_icmp .ne 10, 3) := by decide +kernel
theorem dX5_load_54 : decode cX5_load 54 = .ok (.aload_n 0, 1) := by decide +kernel
theorem dX5_load_55 : decode cX5_load 55 = .ok (.bipush (-3), 2) := by decide +kernel
theorem dX5_load_57 : decode cX5_load 57 = .ok (.invokevirtual 68, 3) := by decide +kernel
theorem dX5_load_60 : decode cX5_load 60 = .ok (.ireturn, 1) := by decide +kernel
theorem dX5_load_61 : decode cX5_load 61 = .ok (.aload_n 0, 1) := by decide +kernel
theorem dX5_load_62 : decode cX5_load 62 = .ok (.getfield 7, 3) := by decide +kernel
theorem dX5_load_65 : decode cX5_load 65 = .ok (.aload_n 0, 1) := by decide +kernel
theorem dX5_load_66 : decode cX5_load 66 = .ok (.getfield 44, 3) := by decide +kernel
theorem dX5_load_69 : decode cX5_load 69 = .ok (.iload_n 1, 1) := by decide +kernel
theorem dX5_load_70 : decode cX5_load 70 = .ok (.iastore, 1) := by decide +kernel
theorem dX5_load_71 : decode cX5_load 71 = .ok (.aload_n 0, 1) := by decide +kernel
theorem dX5_load_72 : decode cX5_load 72 = .ok (.getfield 13, 3) := by decide +kernel
theorem dX5_load_75 : decode cX5_load 75 = .ok (.aload_n 0, 1) := by decide +kernel
theorem dX5_load_76 : decode cX5_load 76 = .ok (.getfield 44, 3) := by decide +kernel
theorem dX5_load_79 : decode cX5_load 79 = .ok (.iload_n 1, 1) := by decide +kernel
theorem dX5_load_80 : decode cX5_load 80 = .ok (.invokestatic 64, 3) := by decide +kernel
theorem dX5_load_83 : decode cX5_load 83 = .ok (.ifCond .eq 7, 3) := by decide +kernel
theorem dX5_load_86 : decode cX5_load 86 = .ok (.iconst 0, 1) := by decide +kernel
theorem dX5_load_87 : decode cX5_load 87 = .ok (.goto 4, 3) := by decide +kernel
theorem dX5_load_90 : decode cX5_load 90 = .ok (.iload_n 2, 1) := by decide +kernel
theorem dX5_load_91 : decode cX5_load 91 = .ok (.iastore, 1) := by decide +kernel
theorem dX5_load_92 : decode cX5_load 92 = .ok (.aload_n 0, 1) := by decide +kernel
theorem dX5_load_93 : decode cX5_load 93 = .ok (.getfield 16, 3) := by decide +kernel
theorem dX5_load_96 : decode cX5_load 96 = .ok (.aload_n 0, 1) := by decide +kernel
theorem dX5_load_97 : decode cX5_load 97 = .ok (.getfield 44, 3) := by decide +kernel
theorem dX5_load_100 : decode cX5_load 100 = .ok (.iload_n 1, 1) := by decide +kernel
theorem dX5_load_101 : decode cX5_load 101 = .ok (.invokestatic 64, 3) := by decide +kernel
theorem dX5_load_104 : decode cX5_load 104 = .ok (.ifCond .eq 7, 3) := by decide +kernel
theorem dX5_load_107 : decode cX5_load 107 = .ok (.iload_n 2, 1) := by decide +kernel
theorem dX5_load_108 : decode cX5_load 108 = .ok (.goto 4, 3) := by decide +kernel
theorem dX5_load_111 : decode cX5_load 111 = .ok (.iconst 0, 1) := by decide +kernel
theorem dX5_load_112 : decode cX5_load 112 = .ok (.iastore, 1) := by decide +kernel
theorem dX5_load_113 : decode cX5_load 113 = .ok (.iconst 0, 1) := by decide +kernel
theorem dX5_load_114 : decode cX5_load 114 = .ok (.istore_n 3, 1) := by decide +kernel
theorem dX5_load_115 : decode cX5_load 115 = .ok (.iload_n 3, 1) := by decide +kernel
theorem dX5_load_116 : decode cX5_load 116 = .ok (.bipush 6, 2) := by decide +kernel
theorem dX5_load_118 : decode cX5_load 118 = .ok (.if_icmp .ge 39, 3) := by decide +kernel
theorem dX5_load_121 : decode cX5_load 121 = .ok (.aload_n 0, 1) := by decide +kernel
theorem dX5_load_122 : decode cX5_load 122 = .ok (.getfield 19, 3) := by decide +kernel
theorem dX5_load_125 : decode cX5_load 125 = .ok (.bipush 6, 2) := by decide +kernel
theorem dX5_load_127 : decode cX5_load 127 = .ok (.aload_n 0, 1) := by decide +kernel
theorem dX5_load_128 : decode cX5_load 128 = .ok (.getfield 44, 3) := by decide +kernel
theorem dX5_load_131 : decode cX5_load 131 = .ok (.imul, 1) := by decide +kernel
theorem dX5_load_132 : decode cX5_load 132 = .ok (.iload_n 3, 1) := by decide +kernel
theorem dX5_load_133 : decode cX5_load 133 = .ok (.iadd, 1) := by decide +kernel
theorem dX5_load_134 : decode cX5_load 134 = .ok (.lconst 0, 1) := by decide +kernel
theorem dX5_load_135 : decode cX5_load 135 = .ok (.lastore, 1) := by decide +kernel
theorem dX5_load_136 : decode cX5_load 136 = .ok (.aload_n 0, 1) := by decide +kernel
theorem dX5_load_137 : decode cX5_load 137 = .ok (.getfield 23, 3) := by decide +kernel
theorem dX5_load_140 : decode cX5_load 140 = .ok (.bipush 6, 2) := by decide +kernel
theorem dX5_load_142 : decode cX5_load 142 = .ok (.aload_n 0, 1) := by decide +kernel
theorem dX5_load_143 : decode cX5_load 143 = .ok (.getfield 44, 3) := by decide +kernel
theorem dX5_load_146 : decode cX5_load 146 = .ok (.imul, 1) := by decide +kernel
theorem dX5_load_147 : decode cX5_load 147 = .ok (.iload_n 3, 1) := by decide +kernel
theorem dX5_load_148 : decode cX5_load 148 = .ok (.iadd, 1) := by decide +kernel
theorem dX5_load_149 : decode cX5_load 149 = .ok (.iconst (-1), 1) := by decide +kernel
theorem dX5_load_150 : decode cX5_load 150 = .ok (.iastore, 1) := by decide +kernel
theorem dX5_load_151 : decode cX5_load 151 = .ok (.iinc 3 1, 3) := by decide +kernel
theorem dX5_load_154 : decode cX5_load 154 = .ok (.goto (-39), 3) := by decide +kernel
theorem dX5_load_157 : decode cX5_load 157 = .ok (.aload_n 0, 1) := by decide +kernel
theorem dX5_load_158 : decode cX5_load 158 = .ok (.dup, 1) := by decide +kernel
theorem dX5_load_159 : decode cX5_load 159 = .ok (.getfield 44, 3) := by decide +kernel
theorem dX5_load_162 : decode cX5_load 162 = .ok (.iconst 1, 1) := by decide +kernel
theorem dX5_load_163 : decode cX5_load 163 = .ok (.iadd, 1) := by decide +kernel
theorem dX5_load_164 : decode cX5_load 164 = .ok (.putfield 44, 3) := by decide +kernel
theorem dX5_load_167 : decode cX5_load 167 = .ok (.aload_n 0, 1) := by decide +kernel
theorem dX5_load_168 : decode cX5_load 168 = .ok (.getfield 44, 3) := by decide +kernel
theorem dX5_load_171 : decode cX5_load 171 = .ok (.iconst 1, 1) := by decide +kernel
theorem dX5_load_172 : decode cX5_load 172 = .ok (.isub, 1) := by decide +kernel
theorem dX5_load_173 : decode cX5_load 173 = .ok (.ireturn, 1) := by decide +kernel
theorem dX5_isPlace_0 : decode cX5_isPlace 0 = .ok (.iload_n 2, 1) := by decide +kernel
theorem dX5_isPlace_1 : decode cX5_isPlace 1 = .ok (.iconst 0, 1) := by decide +kernel
theorem dX5_isPlace_2 : decode cX5_isPlace 2 = .ok (.aload_n 0, 1) := by decide +kernel
theorem dX5_isPlace_3 : decode cX5_isPlace 3 = .ok (.getfield 13, 3) := by decide +kernel
theorem dX5_isPlace_6 : decode cX5_isPlace 6 = .ok (.iload_n 1, 1) := by decide +kernel
theorem dX5_isPlace_7 : decode cX5_isPlace 7 = .ok (.iaload, 1) := by decide +kernel
theorem dX5_isPlace_8 : decode cX5_isPlace 8 = .ok (.iconst 1, 1) := by decide +kernel
theorem dX5_isPlace_9 : decode cX5_isPlace 9 = .ok (.isub, 1) := by decide +kernel
theorem dX5_isPlace_10 : decode cX5_isPlace 10 = .ok (.invokestatic 48, 3) := by decide +kernel
theorem dX5_isPlace_13 : decode cX5_isPlace 13 = .ok (.ireturn, 1) := by decide +kernel
theorem dX5_set_0 : decode cX5_set 0 = .ok (.aload_n 0, 1) := by decide +kernel
theorem dX5_set_1 : decode cX5_set 1 = .ok (.iconst 0, 1) := by decide +kernel
theorem dX5_set_2 : decode cX5_set 2 = .ok (.putfield 52, 3) := by decide +kernel
theorem dX5_set_5 : decode cX5_set 5 = .ok (.aload_n 0, 1) := by decide +kernel
theorem dX5_set_6 : decode cX5_set 6 = .ok (.iload_n 1, 1) := by decide +kernel
theorem dX5_set_7 : decode cX5_set 7 = .ok (.invokevirtual 72, 3) := by decide +kernel
theorem dX5_set_10 : decode cX5_set 10 = .ok (.ifCond .ne 10, 3) := by decide +kernel
theorem dX5_set_13 : decode cX5_set 13 = .ok (.aload_n 0, 1) := by decide +kernel
theorem dX5_set_14 : decode cX5_set 14 = .ok (.bipush (-2), 2) := by decide +kernel
theorem dX5_set_16 : decode cX5_set 16 = .ok (.invokevirtual 68, 3) := by decide +kernel
theorem dX5_set_19 : decode cX5_set 19 = .ok (.ireturn, 1) := by decide +kernel
theorem dX5_set_20 : decode cX5_set 20 = .ok (.aload_n 0, 1) := by decide +kernel
theorem dX5_set_21 : decode cX5_set 21 = .ok (.getfield 7, 3) := by decide +kernel
theorem dX5_set_24 : decode cX5_set 24 = .ok (.iload_n 1, 1) := by decide +kernel
theorem dX5_set_25 : decode cX5_set 25 = .ok (.iaload, 1) := by decide +kernel
theorem dX5_set_26 : decode cX5_set 26 = .ok (.invokestatic 75, 3) := by decide +kernel
theorem dX5_set_29 : decode cX5_set 29 = .ok (.ifCond .ne 10, 3) := by decide +kernel
theorem dX5_set_32 : decode cX5_set 32 = .ok (.aload_n 0, 1) := by decide +kernel
theorem dX5_set_33 : decode cX5_set 33 = .ok (.bipush (-4), 2) := by decide +kernel
theorem dX5_set_35 : decode cX5_set 35 = .ok (.invokevirtual 68, 3) := by decide +kernel
theorem dX5_set_38 : decode cX5_set 38 = .ok (.ireturn, 1) := by decide +kernel
theorem dX5_set_39 : decode cX5_set 39 = .ok (.aload_n 0, 1) := by decide +kernel
theorem dX5_set_40 : decode cX5_set 40 = .ok (.iload_n 1, 1) := by decide +kernel
theorem dX5_set_41 : decode cX5_set 41 = .ok (.iload_n 2, 1) := by decide +kernel
theorem dX5_set_42 : decode cX5_set 42 = .ok (.invokevirtual 78, 3) := by decide +kernel
theorem dX5_set_45 : decode cX5_set 45 = .ok (.ifCond .ne 10, 3) := by decide +kernel
theorem dX5_set_48 : decode cX5_set 48 = .ok (.aload_n 0, 1) := by decide +kernel
theorem dX5_set_49 : decode cX5_set 49 = .ok (.bipush (-5), 2) := by decide +kernel
theorem dX5_set_51 : decode cX5_set 51 = .ok (.invokevirtual 68, 3) := by decide +kernel
theorem dX5_set_54 : decode cX5_set 54 = .ok (.ireturn, 1) := by decide +kernel
theorem dX5_set_55 : decode cX5_set 55 = .ok (.aload_n 0, 1) := by decide +kernel
theorem dX5_set_56 : decode cX5_set 56 = .ok (.getfield 19, 3) := by decide +kernel
theorem dX5_set_59 : decode cX5_set 59 = .ok (.bipush 6, 2) := by decide +kernel
theorem dX5_set_61 : decode cX5_set 61 = .ok (.iload_n 1, 1) := by decide +kernel
theorem dX5_set_62 : decode cX5_set 62 = .ok (.imul, 1) := by decide +kernel
theorem dX5_set_63 : decode cX5_set 63 = .ok (.iload_n 2, 1) := by decide +kernel
theorem dX5_set_64 : decode cX5_set 64 = .ok (.iadd, 1) := by decide +kernel
theorem dX5_set_65 : decode cX5_set 65 = .ok (.aload_n 0, 1) := by decide +kernel
theorem dX5_set_66 : decode cX5_set 66 = .ok (.getfield 7, 3) := by decide +kernel
theorem dX5_set_69 : decode cX5_set 69 = .ok (.iload_n 1, 1) := by decide +kernel
theorem dX5_set_70 : decode cX5_set 70 = .ok (.iaload, 1) := by decide +kernel
theorem dX5_set_71 : decode cX5_set 71 = .ok (.iconst 1, 1) := by decide +kernel
theorem dX5_set_72 : decode cX5_set 72 = .ok (.if_icmp .ne 9, 3) := by decide +kernel
theorem dX5_set_75 : decode cX5_set 75 = .ok (.iload_n 3, 1) := by decide +kernel
theorem dX5_set_76 : decode cX5_set 76 = .ok (.i2b, 1) := by decide +kernel
theorem dX5_set_77 : decode cX5_set 77 = .ok (.i2l, 1) := by decide +kernel
theorem dX5_set_78 : decode cX5_set 78 = .ok (.goto 5, 3) := by decide +kernel
theorem dX5_set_81 : decode cX5_set 81 = .ok (.iload_n 3, 1) := by decide +kernel
theorem dX5_set_82 : decode cX5_set 82 = .ok (.i2l, 1) := by decide +kernel
theorem dX5_set_83 : decode cX5_set 83 = .ok (.lastore, 1) := by decide +kernel
theorem dX5_set_84 : decode cX5_set 84 = .ok (.iconst 1, 1) := by decide +kernel
theorem dX5_set_85 : decode cX5_set 85 = .ok (.ireturn, 1) := by decide +kernel
theorem dX5_number_0 : decode cX5_number 0 = .ok (.aload_n 0, 1) := by decide +kernel
theorem dX5_number_1 : decode cX5_number 1 = .ok (.iconst 0, 1) := by decide +kernel
theorem dX5_number_2 : decode cX5_number 2 = .ok (.putfield 52, 3) := by decide +kernel
theorem dX5_number_5 : decode cX5_number 5 = .ok (.aload_n 0, 1) := by decide +kernel
theorem dX5_number_6 : decode cX5_number 6 = .ok (.iload_n 1, 1) := by decide +kernel
theorem dX5_number_7 : decode cX5_number 7 = .ok (.invokevirtual 72, 3) := by decide +kernel
theorem dX5_number_10 : decode cX5_number 10 = .ok (.ifCond .ne 8, 3) := by decide +kernel
theorem dX5_number_13 : decode cX5_number 13 = .ok (.bipush (-2), 2) := by decide +kernel
theorem dX5_number_15 : decode cX5_number 15 = .ok (.goto 35, 3) := by decide +kernel
theorem dX5_number_18 : decode cX5_number 18 = .ok (.aload_n 0, 1) := by decide +kernel
theorem dX5_number_19 : decode cX5_number 19 = .ok (.getfield 7, 3) := by decide +kernel
theorem dX5_number_22 : decode cX5_number 22 = .ok (.iload_n 1, 1) := by decide +kernel
theorem dX5_number_23 : decode cX5_number 23 = .ok (.iaload, 1) := by decide +kernel
theorem dX5_number_24 : decode cX5_number 24 = .ok (.invokestatic 75, 3) := by decide +kernel
theorem dX5_number_27 : decode cX5_number 27 = .ok (.ifCond .ne 8, 3) := by decide +kernel
theorem dX5_number_30 : decode cX5_number 30 = .ok (.bipush (-4), 2) := by decide +kernel
theorem dX5_number_32 : decode cX5_number 32 = .ok (.goto 18, 3) := by decide +kernel
theorem dX5_number_35 : decode cX5_number 35 = .ok (.aload_n 0, 1) := by decide +kernel
theorem dX5_number_36 : decode cX5_number 36 = .ok (.iload_n 1, 1) := by decide +kernel
theorem dX5_number_37 : decode cX5_number 37 = .ok (.iload_n 2, 1) := by decide +kernel
theorem dX5_number_38 : decode cX5_number 38 = .ok (.invokevirtual 78, 3) := by decide +kernel
theorem dX5_number_41 : decode cX5_number 41 = .ok (.ifCond .ne 8, 3) := by decide +kernel
theorem dX5_number_44 : decode cX5_number 44 = .ok (.bipush (-5), 2) := by decide +kernel
theorem dX5_number_46 : decode cX5_number 46 = .ok (.goto 4, 3) := by decide +kernel
theorem dX5_number_49 : decode cX5_number 49 = .ok (.iconst 0, 1) := by decide +kernel
theorem dX5_number_50 : decode cX5_number 50 = .ok (.istore_n 3, 1) := by decide +kernel
theorem dX5_number_51 : decode cX5_number 51 = .ok (.iload_n 3, 1) := by decide +kernel
theorem dX5_number_52 : decode cX5_number 52 = .ok (.ifCond .eq 11, 3) := by decide +kernel
theorem dX5_number_55 : decode cX5_number 55 = .ok (.aload_n 0, 1) := by decide +kernel
theorem dX5_number_56 : decode cX5_number 56 = .ok (.iload_n 3, 1) := by decide +kernel
theorem dX5_number_57 : decode cX5_number 57 = .ok (.invokevirtual 68, 3) := by decide +kernel
theorem dX5_number_60 : decode cX5_number 60 = .ok (.istore_n 3, 1) := by decide +kernel
theorem dX5_number_61 : decode cX5_number 61 = .ok (.lconst 0, 1) := by decide +kernel
theorem dX5_number_62 : decode cX5_number 62 = .ok (.lreturn, 1) := by decide +kernel
theorem dX5_number_63 : decode cX5_number 63 = .ok (.aload_n 0, 1) := by decide +kernel
theorem dX5_number_64 : decode cX5_number 64 = .ok (.getfield 19, 3) := by decide +kernel
theorem dX5_number_67 : decode cX5_number 67 = .ok (.bipush 6, 2) := by decide +kernel
theorem dX5_number_69 : decode cX5_number 69 = .ok (.iload_n 1, 1) := by decide +kernel
theorem dX5_number_70 : decode cX5_number 70 = .ok (.imul, 1) := by decide +kernel
theorem dX5_number_71 : decode cX5_number 71 = .ok (.iload_n 2, 1) := by decide +kernel
theorem dX5_number_72 : decode cX5_number 72 = .ok (.iadd, 1) := by decide +kernel
theorem dX5_number_73 : decode cX5_number 73 = .ok (.laload, 1) := by decide +kernel
theorem dX5_number_74 : decode cX5_number 74 = .ok (.lreturn, 1) := by decide +kernel
theorem dX5_wanted_0 : decode cX5_wanted 0 = .ok (.iload_n 0, 1) := by decide +kernel
theorem dX5_wanted_1 : decode cX5_wanted 1 = .ok (.iconst 3, 1) := by decide +kernel
theorem dX5_wanted_2 : decode cX5_wanted 2 = .ok (.if_icmp .ne 7, 3) := by decide +kernel
theorem dX5_wanted_5 : decode cX5_wanted 5 = .ok (.iconst 0, 1) := by decide +kernel
theorem dX5_wanted_6 : decode cX5_wanted 6 = .ok (.goto 37, 3) := by decide +kernel
theorem dX5_wanted_9 : decode cX5_wanted 9 = .ok (.iload_n 0, 1) := by decide +kernel
theorem dX5_wanted_10 : decode cX5_wanted 10 = .ok (.bipush 9, 2) := by decide +kernel
theorem dX5_wanted_12 : decode cX5_wanted 12 = .ok (.if_icmp .ge 7, 3) := by decide +kernel
theorem dX5_wanted_15 : decode cX5_wanted 15 = .ok (.iconst 4, 1) := by decide +kernel
theorem dX5_wanted_16 : decode cX5_wanted 16 = .ok (.goto 27, 3) := by decide +kernel
theorem dX5_wanted_19 : decode cX5_wanted 19 = .ok (.iload_n 0, 1) := by decide +kernel
theorem dX5_wanted_20 : decode cX5_wanted 20 = .ok (.bipush 9, 2) := by decide +kernel
theorem dX5_wanted_22 : decode cX5_wanted 22 = .ok (.if_icmp .ne 8, 3) := by decide +kernel
theorem dX5_wanted_25 : decode cX5_wanted 25 = .ok (.bipush 13, 2) := by decide +kernel
theorem dX5_wanted_27 : decode cX5_wanted 27 = .ok (.goto 16, 3) := by decide +kernel
theorem dX5_wanted_30 : decode cX5_wanted 30 = .ok (.iload_n 0, 1) := by decide +kernel
theorem dX5_wanted_31 : decode cX5_wanted 31 = .ok (.bipush 12, 2) := by decide +kernel
theorem dX5_wanted_33 : decode cX5_wanted 33 = .ok (.if_icmp .ne 8, 3) := by decide +kernel
theorem dX5_wanted_36 : decode cX5_wanted 36 = .ok (.bipush 9, 2) := by decide +kernel
theorem dX5_wanted_38 : decode cX5_wanted 38 = .ok (.goto 5, 3) := by decide +kernel
theorem dX5_wanted_41 : decode cX5_wanted 41 = .ok (.bipush 7, 2) := by decide +kernel
theorem dX5_wanted_43 : decode cX5_wanted 43 = .ok (.ireturn, 1) := by decide +kernel
theorem dX5_had_0 : decode cX5_had 0 = .ok (.iload_n 0, 1) := by decide +kernel
theorem dX5_had_1 : decode cX5_had 1 = .ok (.bipush 8, 2) := by decide +kernel
theorem dX5_had_3 : decode cX5_had 3 = .ok (.if_icmp .ne 7, 3) := by decide +kernel
theorem dX5_had_6 : decode cX5_had 6 = .ok (.iconst 5, 1) := by decide +kernel
theorem dX5_had_7 : decode cX5_had 7 = .ok (.goto 18, 3) := by decide +kernel
theorem dX5_had_10 : decode cX5_had 10 = .ok (.iload_n 0, 1) := by decide +kernel
theorem dX5_had_11 : decode cX5_had 11 = .ok (.bipush 11, 2) := by decide +kernel
theorem dX5_had_13 : decode cX5_had 13 = .ok (.if_icmp .ne 8, 3) := by decide +kernel
theorem dX5_had_16 : decode cX5_had 16 = .ok (.bipush 8, 2) := by decide +kernel
theorem dX5_had_18 : decode cX5_had 18 = .ok (.goto 7, 3) := by decide +kernel
theorem dX5_had_21 : decode cX5_had 21 = .ok (.iload_n 0, 1) := by decide +kernel
theorem dX5_had_22 : decode cX5_had 22 = .ok (.invokestatic 82, 3) := by decide +kernel
theorem dX5_had_25 : decode cX5_had 25 = .ok (.ireturn, 1) := by decide +kernel
theorem dX5_put_0 : decode cX5_put 0 = .ok (.aload_n 0, 1) := by decide +kernel
theorem dX5_put_1 : decode cX5_put 1 = .ok (.iconst 0, 1) := by decide +kernel
theorem dX5_put_2 : decode cX5_put 2 = .ok (.putfield 52, 3) := by decide +kernel
theorem dX5_put_5 : decode cX5_put 5 = .ok (.aload_n 0, 1) := by decide +kernel
theorem dX5_put_6 : decode cX5_put 6 = .ok (.iload_n 1, 1) := by decide +kernel
theorem dX5_put_7 : decode cX5_put 7 = .ok (.invokevirtual 72, 3) := by decide +kernel
theorem dX5_put_10 : decode cX5_put 10 = .ok (.ifCond .eq 16, 3) := by decide +kernel
theorem dX5_put_13 : decode cX5_put 13 = .ok (.iload_n 3, 1) := by decide +kernel
theorem dX5_put_14 : decode cX5_put 14 = .ok (.iconst (-1), 1) := by decide +kernel
theorem dX5_put_15 : decode cX5_put 15 = .ok (.if_icmp .eq 18, 3) := by decide +kernel
theorem dX5_put_18 : decode cX5_put 18 = .ok (.aload_n 0, 1) := by decide +kernel
theorem dX5_put_19 : decode cX5_put 19 = .ok (.iload_n 3, 1) := by decide +kernel
theorem dX5_put_20 : decode cX5_put 20 = .ok (.invokevirtual 72, 3) := by decide +kernel
theorem dX5_put_23 : decode cX5_put 23 = .ok (.ifCond .ne 10, 3) := by decide +kernel
theorem dX5_put_26 : decode cX5_put 26 = .ok (.aload_n 0, 1) := by decide +kernel
theorem dX5_put_27 : decode cX5_put 27 = .ok (.bipush (-2), 2) := by decide +kernel
theorem dX5_put_29 : decode cX5_put 29 = .ok (.invokevirtual 68, 3) := by decide +kernel
theorem dX5_put_32 : decode cX5_put 32 = .ok (.ireturn, 1) := by decide +kernel
theorem dX5_put_33 : decode cX5_put 33 = .ok (.aload_n 0, 1) := by decide +kernel
theorem dX5_put_34 : decode cX5_put 34 = .ok (.getfield 7, 3) := by decide +kernel
theorem dX5_put_37 : decode cX5_put 37 = .ok (.iload_n 1, 1) := by decide +kernel
theorem dX5_put_38 : decode cX5_put 38 = .ok (.iaload, 1) := by decide +kernel
theorem dX5_put_39 : decode cX5_put 39 = .ok (.istore 4, 2) := by decide +kernel
theorem dX5_put_41 : decode cX5_put 41 = .ok (.iload 4, 2) := by decide +kernel
theorem dX5_put_43 : decode cX5_put 43 = .ok (.invokestatic 85, 3) := by decide +kernel
theorem dX5_put_46 : decode cX5_put 46 = .ok (.ifCond .eq 25, 3) := by decide +kernel
theorem dX5_put_49 : decode cX5_put 49 = .ok (.iload_n 3, 1) := by decide +kernel
theorem dX5_put_50 : decode cX5_put 50 = .ok (.iconst (-1), 1) := by decide +kernel
theorem dX5_put_51 : decode cX5_put 51 = .ok (.if_icmp .eq 27, 3) := by decide +kernel
theorem dX5_put_54 : decode cX5_put 54 = .ok (.aload_n 0, 1) := by decide +kernel
theorem dX5_put_55 : decode cX5_put 55 = .ok (.getfield 7, 3) := by decide +kernel
theorem dX5_put_58 : decode cX5_put 58 = .ok (.iload_n 3, 1) := by decide +kernel
theorem dX5_put_59 : decode cX5_put 59 = .ok (.iaload, 1) := by decide +kernel
theorem dX5_put_60 : decode cX5_put 60 = .ok (.iload 4, 2) := by decide +kernel
theorem dX5_put_62 : decode cX5_put 62 = .ok (.invokestatic 82, 3) := by decide +kernel
theorem dX5_put_65 : decode cX5_put 65 = .ok (.invokestatic 88, 3) := by decide +kernel
theorem dX5_put_68 : decode cX5_put 68 = .ok (.ifCond .ne 10, 3) := by decide +kernel
theorem dX5_put_71 : decode cX5_put 71 = .ok (.aload_n 0, 1) := by decide +kernel
theorem dX5_put_72 : decode cX5_put 72 = .ok (.bipush (-4), 2) := by decide +kernel
theorem dX5_put_74 : decode cX5_put 74 = .ok (.invokevirtual 68, 3) := by decide +kernel
theorem dX5_put_77 : decode cX5_put 77 = .ok (.ireturn, 1) := by decide +kernel
theorem dX5_put_78 : decode cX5_put 78 = .ok (.aload_n 0, 1) := by decide +kernel
theorem dX5_put_79 : decode cX5_put 79 = .ok (.iload_n 1, 1) := by decide +kernel
theorem dX5_put_80 : decode cX5_put 80 = .ok (.iload_n 2, 1) := by decide +kernel
theorem dX5_put_81 : decode cX5_put 81 = .ok (.invokevirtual 78, 3) := by decide +kernel
theorem dX5_put_84 : decode cX5_put 84 = .ok (.ifCond .ne 10, 3) := by decide +kernel
theorem dX5_put_87 : decode cX5_put 87 = .ok (.aload_n 0, 1) := by decide +kernel
theorem dX5_put_88 : decode cX5_put 88 = .ok (.bipush (-5), 2) := by decide +kernel
theorem dX5_put_90 : decode cX5_put 90 = .ok (.invokevirtual 68, 3) := by decide +kernel
theorem dX5_put_93 : decode cX5_put 93 = .ok (.ireturn, 1) := by decide +kernel
theorem dX5_put_94 : decode cX5_put 94 = .ok (.iload_n 3, 1) := by decide +kernel
theorem dX5_put_95 : decode cX5_put 95 = .ok (.iconst (-1), 1) := by decide +kernel
theorem dX5_put_96 : decode cX5_put 96 = .ok (.if_icmp .eq 27, 3) := by decide +kernel
theorem dX5_put_99 : decode cX5_put 99 = .ok (.aload_n 0, 1) := by decide +kernel
theorem dX5_put_100 : decode cX5_put 100 = .ok (.getfield 7, 3) := by decide +kernel
theorem dX5_put_103 : decode cX5_put 103 = .ok (.iload_n 3, 1) := by decide +kernel
theorem dX5_put_104 : decode cX5_put 104 = .ok (.iaload, 1) := by decide +kernel
theorem dX5_put_105 : decode cX5_put 105 = .ok (.iload 4, 2) := by decide +kernel
theorem dX5_put_107 : decode cX5_put 107 = .ok (.invokestatic 91, 3) := by decide +kernel
theorem dX5_put_110 : decode cX5_put 110 = .ok (.invokestatic 88, 3) := by decide +kernel
theorem dX5_put_113 : decode cX5_put 113 = .ok (.ifCond .ne 10, 3) := by decide +kernel
theorem dX5_put_116 : decode cX5_put 116 = .ok (.aload_n 0, 1) := by decide +kernel
theorem dX5_put_117 : decode cX5_put 117 = .ok (.bipush (-6), 2) := by decide +kernel
theorem dX5_put_119 : decode cX5_put 119 = .ok (.invokevirtual 68, 3) := by decide +kernel
theorem dX5_put_122 : decode cX5_put 122 = .ok (.ireturn, 1) := by decide +kernel
theorem dX5_put_123 : decode cX5_put 123 = .ok (.aload_n 0, 1) := by decide +kernel
theorem dX5_put_124 : decode cX5_put 124 = .ok (.getfield 23, 3) := by decide +kernel
theorem dX5_put_127 : decode cX5_put 127 = .ok (.bipush 6, 2) := by decide +kernel
theorem dX5_put_129 : decode cX5_put 129 = .ok (.iload_n 1, 1) := by decide +kernel
theorem dX5_put_130 : decode cX5_put 130 = .ok (.imul, 1) := by decide +kernel
theorem dX5_put_131 : decode cX5_put 131 = .ok (.iload_n 2, 1) := by decide +kernel
theorem dX5_put_132 : decode cX5_put 132 = .ok (.iadd, 1) := by decide +kernel
theorem dX5_put_133 : decode cX5_put 133 = .ok (.iload_n 3, 1) := by decide +kernel
theorem dX5_put_134 : decode cX5_put 134 = .ok (.iastore, 1) := by decide +kernel
theorem dX5_put_135 : decode cX5_put 135 = .ok (.iconst 1, 1) := by decide +kernel
theorem dX5_put_136 : decode cX5_put 136 = .ok (.ireturn, 1) := by decide +kernel
theorem dX5_at_0 : decode cX5_at 0 = .ok (.aload_n 0, 1) := by decide +kernel
theorem dX5_at_1 : decode cX5_at 1 = .ok (.iconst 0, 1) := by decide +kernel
theorem dX5_at_2 : decode cX5_at 2 = .ok (.putfield 52, 3) := by decide +kernel
theorem dX5_at_5 : decode cX5_at 5 = .ok (.aload_n 0, 1) := by decide +kernel
theorem dX5_at_6 : decode cX5_at 6 = .ok (.iload_n 1, 1) := by decide +kernel
theorem dX5_at_7 : decode cX5_at 7 = .ok (.invokevirtual 72, 3) := by decide +kernel
theorem dX5_at_10 : decode cX5_at 10 = .ok (.ifCond .ne 10, 3) := by decide +kernel
theorem dX5_at_13 : decode cX5_at 13 = .ok (.aload_n 0, 1) := by decide +kernel
theorem dX5_at_14 : decode cX5_at 14 = .ok (.bipush (-2), 2) := by decide +kernel
theorem dX5_at_16 : decode cX5_at 16 = .ok (.invokevirtual 68, 3) := by decide +kernel
theorem dX5_at_19 : decode cX5_at 19 = .ok (.ireturn, 1) := by decide +kernel
theorem dX5_at_20 : decode cX5_at 20 = .ok (.aload_n 0, 1) := by decide +kernel
theorem dX5_at_21 : decode cX5_at 21 = .ok (.getfield 7, 3) := by decide +kernel
theorem dX5_at_24 : decode cX5_at 24 = .ok (.iload_n 1, 1) := by decide +kernel
theorem dX5_at_25 : decode cX5_at 25 = .ok (.iaload, 1) := by decide +kernel
theorem dX5_at_26 : decode cX5_at 26 = .ok (.invokestatic 85, 3) := by decide +kernel
theorem dX5_at_29 : decode cX5_at 29 = .ok (.ifCond .ne 10, 3) := by decide +kernel
theorem dX5_at_32 : decode cX5_at 32 = .ok (.aload_n 0, 1) := by decide +kernel
theorem dX5_at_33 : decode cX5_at 33 = .ok (.bipush (-4), 2) := by decide +kernel
theorem dX5_at_35 : decode cX5_at 35 = .ok (.invokevirtual 68, 3) := by decide +kernel
theorem dX5_at_38 : decode cX5_at 38 = .ok (.ireturn, 1) := by decide +kernel
theorem dX5_at_39 : decode cX5_at 39 = .ok (.aload_n 0, 1) := by decide +kernel
theorem dX5_at_40 : decode cX5_at 40 = .ok (.iload_n 1, 1) := by decide +kernel
theorem dX5_at_41 : decode cX5_at 41 = .ok (.iload_n 2, 1) := by decide +kernel
theorem dX5_at_42 : decode cX5_at 42 = .ok (.invokevirtual 78, 3) := by decide +kernel
theorem dX5_at_45 : decode cX5_at 45 = .ok (.ifCond .eq 17, 3) := by decide +kernel
theorem dX5_at_48 : decode cX5_at 48 = .ok (.aload_n 0, 1) := by decide +kernel
theorem dX5_at_49 : decode cX5_at 49 = .ok (.getfield 23, 3) := by decide +kernel
theorem dX5_at_52 : decode cX5_at 52 = .ok (.bipush 6, 2) := by decide +kernel
theorem dX5_at_54 : decode cX5_at 54 = .ok (.iload_n 1, 1) := by decide +kernel
theorem dX5_at_55 : decode cX5_at 55 = .ok (.imul, 1) := by decide +kernel
theorem dX5_at_56 : decode cX5_at 56 = .ok (.iload_n 2, 1) := by decide +kernel
theorem dX5_at_57 : decode cX5_at 57 = .ok (.iadd, 1) := by decide +kernel
theorem dX5_at_58 : decode cX5_at 58 = .ok (.iaload, 1) := by decide +kernel
theorem dX5_at_59 : decode cX5_at 59 = .ok (.goto 9, 3) := by decide +kernel
theorem dX5_at_62 : decode cX5_at 62 = .ok (.aload_n 0, 1) := by decide +kernel
theorem dX5_at_63 : decode cX5_at 63 = .ok (.bipush (-5), 2) := by decide +kernel
theorem dX5_at_65 : decode cX5_at 65 = .ok (.invokevirtual 68, 3) := by decide +kernel
theorem dX5_at_68 : decode cX5_at 68 = .ok (.ireturn, 1) := by decide +kernel
theorem dX5_is_0 : decode cX5_is 0 = .ok (.aload_n 0, 1) := by decide +kernel
theorem dX5_is_1 : decode cX5_is 1 = .ok (.iconst 0, 1) := by decide +kernel
theorem dX5_is_2 : decode cX5_is 2 = .ok (.putfield 52, 3) := by decide +kernel
theorem dX5_is_5 : decode cX5_is 5 = .ok (.aload_n 0, 1) := by decide +kernel
theorem dX5_is_6 : decode cX5_is 6 = .ok (.iload_n 1, 1) := by decide +kernel
theorem dX5_is_7 : decode cX5_is 7 = .ok (.invokevirtual 72, 3) := by decide +kernel
theorem dX5_is_10 : decode cX5_is 10 = .ok (.ifCond .eq 10, 3) := by decide +kernel
theorem dX5_is_13 : decode cX5_is 13 = .ok (.iload_n 2, 1) := by decide +kernel
theorem dX5_is_14 : decode cX5_is 14 = .ok (.invokestatic 94, 3) := by decide +kernel
theorem dX5_is_17 : decode cX5_is 17 = .ok (.ifCond .ne 10, 3) := by decide +kernel
theorem dX5_is_20 : decode cX5_is 20 = .ok (.aload_n 0, 1) := by decide +kernel
theorem dX5_is_21 : decode cX5_is 21 = .ok (.bipush (-2), 2) := by decide +kernel
theorem dX5_is_23 : decode cX5_is 23 = .ok (.invokevirtual 68, 3) := by decide +kernel
theorem dX5_is_26 : decode cX5_is 26 = .ok (.ireturn, 1) := by decide +kernel
theorem dX5_is_27 : decode cX5_is 27 = .ok (.aload_n 0, 1) := by decide +kernel
theorem dX5_is_28 : decode cX5_is 28 = .ok (.getfield 7, 3) := by decide +kernel
theorem dX5_is_31 : decode cX5_is 31 = .ok (.iload_n 1, 1) := by decide +kernel
theorem dX5_is_32 : decode cX5_is 32 = .ok (.iaload, 1) := by decide +kernel
theorem dX5_is_33 : decode cX5_is 33 = .ok (.iload_n 2, 1) := by decide +kernel
theorem dX5_is_34 : decode cX5_is 34 = .ok (.invokestatic 88, 3) := by decide +kernel
theorem dX5_is_37 : decode cX5_is 37 = .ok (.ifCond .eq 7, 3) := by decide +kernel
theorem dX5_is_40 : decode cX5_is 40 = .ok (.iconst 1, 1) := by decide +kernel
theorem dX5_is_41 : decode cX5_is 41 = .ok (.goto 4, 3) := by decide +kernel
theorem dX5_is_44 : decode cX5_is 44 = .ok (.iconst 0, 1) := by decide +kernel
theorem dX5_is_45 : decode cX5_is 45 = .ok (.ireturn, 1) := by decide +kernel
theorem dX5_comes_0 : decode cX5_comes 0 = .ok (.aload_n 0, 1) := by decide +kernel
theorem dX5_comes_1 : decode cX5_comes 1 = .ok (.getfield 7, 3) := by decide +kernel
theorem dX5_comes_4 : decode cX5_comes 4 = .ok (.iload_n 1, 1) := by decide +kernel
theorem dX5_comes_5 : decode cX5_comes 5 = .ok (.iaload, 1) := by decide +kernel
theorem dX5_comes_6 : decode cX5_comes 6 = .ok (.invokestatic 64, 3) := by decide +kernel
theorem dX5_comes_9 : decode cX5_comes 9 = .ok (.ifCond .ne 10, 3) := by decide +kernel
theorem dX5_comes_12 : decode cX5_comes 12 = .ok (.aload_n 0, 1) := by decide +kernel
theorem dX5_comes_13 : decode cX5_comes 13 = .ok (.getfield 13, 3) := by decide +kernel
theorem dX5_comes_16 : decode cX5_comes 16 = .ok (.iload_n 1, 1) := by decide +kernel
theorem dX5_comes_17 : decode cX5_comes 17 = .ok (.iaload, 1) := by decide +kernel
theorem dX5_comes_18 : decode cX5_comes 18 = .ok (.ireturn, 1) := by decide +kernel
theorem dX5_comes_19 : decode cX5_comes 19 = .ok (.iload_n 2, 1) := by decide +kernel
theorem dX5_comes_20 : decode cX5_comes 20 = .ok (.bipush 13, 2) := by decide +kernel
theorem dX5_comes_22 : decode cX5_comes 22 = .ok (.if_icmp .eq 12, 3) := by decide +kernel
theorem dX5_comes_25 : decode cX5_comes 25 = .ok (.aload_n 0, 1) := by decide +kernel
theorem dX5_comes_26 : decode cX5_comes 26 = .ok (.getfield 16, 3) := by decide +kernel
theorem dX5_comes_29 : decode cX5_comes 29 = .ok (.iload_n 1, 1) := by decide +kernel
theorem dX5_comes_30 : decode cX5_comes 30 = .ok (.iaload, 1) := by decide +kernel
theorem dX5_comes_31 : decode cX5_comes 31 = .ok (.goto 34, 3) := by decide +kernel
theorem dX5_comes_34 : decode cX5_comes 34 = .ok (.aload_n 0, 1) := by decide +kernel
theorem dX5_comes_35 : decode cX5_comes 35 = .ok (.getfield 7, 3) := by decide +kernel
theorem dX5_comes_38 : decode cX5_comes 38 = .ok (.iload_n 1, 1) := by decide +kernel
theorem dX5_comes_39 : decode cX5_comes 39 = .ok (.iaload, 1) := by decide +kernel
theorem dX5_comes_40 : decode cX5_comes 40 = .ok (.iconst 5, 1) := by decide +kernel
theorem dX5_comes_41 : decode cX5_comes 41 = .ok (.if_icmp .ne 16, 3) := by decide +kernel
theorem dX5_comes_44 : decode cX5_comes 44 = .ok (.aload_n 0, 1) := by decide +kernel
theorem dX5_comes_45 : decode cX5_comes 45 = .ok (.getfield 16, 3) := by decide +kernel
theorem dX5_comes_48 : decode cX5_comes 48 = .ok (.iload_n 1, 1) := by decide +kernel
theorem dX5_comes_49 : decode cX5_comes 49 = .ok (.iaload, 1) := by decide +kernel
theorem dX5_comes_50 : decode cX5_comes 50 = .ok (.sipush 1000, 3) := by decide +kernel
theorem dX5_comes_53 : decode cX5_comes 53 = .ok (.iadd, 1) := by decide +kernel
theorem dX5_comes_54 : decode cX5_comes 54 = .ok (.goto 11, 3) := by decide +kernel
theorem dX5_comes_57 : decode cX5_comes 57 = .ok (.iconst 2, 1) := by decide +kernel
theorem dX5_comes_58 : decode cX5_comes 58 = .ok (.aload_n 0, 1) := by decide +kernel
theorem dX5_comes_59 : decode cX5_comes 59 = .ok (.getfield 16, 3) := by decide +kernel
theorem dX5_comes_62 : decode cX5_comes 62 = .ok (.iload_n 1, 1) := by decide +kernel
theorem dX5_comes_63 : decode cX5_comes 63 = .ok (.iaload, 1) := by decide +kernel
theorem dX5_comes_64 : decode cX5_comes 64 = .ok (.imul, 1) := by decide +kernel
theorem dX5_comes_65 : decode cX5_comes 65 = .ok (.ireturn, 1) := by decide +kernel
theorem dX5_take_0 : decode cX5_take 0 = .ok (.aload_n 0, 1) := by decide +kernel
theorem dX5_take_1 : decode cX5_take 1 = .ok (.iconst 0, 1) := by decide +kernel
theorem dX5_take_2 : decode cX5_take 2 = .ok (.putfield 52, 3) := by decide +kernel
theorem dX5_take_5 : decode cX5_take 5 = .ok (.aload_n 0, 1) := by decide +kernel
theorem dX5_take_6 : decode cX5_take 6 = .ok (.iload_n 1, 1) := by decide +kernel
theorem dX5_take_7 : decode cX5_take 7 = .ok (.invokevirtual 72, 3) := by decide +kernel
theorem dX5_take_10 : decode cX5_take 10 = .ok (.ifCond .eq 10, 3) := by decide +kernel
theorem dX5_take_13 : decode cX5_take 13 = .ok (.iload_n 2, 1) := by decide +kernel
theorem dX5_take_14 : decode cX5_take 14 = .ok (.invokestatic 94, 3) := by decide +kernel
theorem dX5_take_17 : decode cX5_take 17 = .ok (.ifCond .ne 10, 3) := by decide +kernel
theorem dX5_take_20 : decode cX5_take 20 = .ok (.aload_n 0, 1) := by decide +kernel
theorem dX5_take_21 : decode cX5_take 21 = .ok (.bipush (-2), 2) := by decide +kernel
theorem dX5_take_23 : decode cX5_take 23 = .ok (.invokevirtual 68, 3) := by decide +kernel
theorem dX5_take_26 : decode cX5_take 26 = .ok (.ireturn, 1) := by decide +kernel
theorem dX5_take_27 : decode cX5_take 27 = .ok (.aload_n 0, 1) := by decide +kernel
theorem dX5_take_28 : decode cX5_take 28 = .ok (.getfield 7, 3) := by decide +kernel
theorem dX5_take_31 : decode cX5_take 31 = .ok (.iload_n 1, 1) := by decide +kernel
theorem dX5_take_32 : decode cX5_take 32 = .ok (.iaload, 1) := by decide +kernel
theorem dX5_take_33 : decode cX5_take 33 = .ok (.iload_n 2, 1) := by decide +kernel
theorem dX5_take_34 : decode cX5_take 34 = .ok (.invokestatic 88, 3) := by decide +kernel
theorem dX5_take_37 : decode cX5_take 37 = .ok (.ifCond .eq 12, 3) := by decide +kernel
theorem dX5_take_40 : decode cX5_take 40 = .ok (.aload_n 0, 1) := by decide +kernel
theorem dX5_take_41 : decode cX5_take 41 = .ok (.iload_n 1, 1) := by decide +kernel
theorem dX5_take_42 : decode cX5_take 42 = .ok (.iload_n 2, 1) := by decide +kernel
theorem dX5_take_43 : decode cX5_take 43 = .ok (.invokevirtual 97, 3) := by decide +kernel
theorem dX5_take_46 : decode cX5_take 46 = .ok (.goto 9, 3) := by decide +kernel
theorem dX5_take_49 : decode cX5_take 49 = .ok (.aload_n 0, 1) := by decide +kernel
theorem dX5_take_50 : decode cX5_take 50 = .ok (.bipush (-4), 2) := by decide +kernel
theorem dX5_take_52 : decode cX5_take 52 = .ok (.invokevirtual 68, 3) := by decide +kernel
theorem dX5_take_55 : decode cX5_take 55 = .ok (.ireturn, 1) := by decide +kernel
theorem dX5_sort_0 : decode cX5_sort 0 = .ok (.aload_n 0, 1) := by decide +kernel
theorem dX5_sort_1 : decode cX5_sort 1 = .ok (.iconst 0, 1) := by decide +kernel
theorem dX5_sort_2 : decode cX5_sort 2 = .ok (.putfield 52, 3) := by decide +kernel
theorem dX5_sort_5 : decode cX5_sort 5 = .ok (.aload_n 0, 1) := by decide +kernel
theorem dX5_sort_6 : decode cX5_sort 6 = .ok (.iload_n 1, 1) := by decide +kernel
theorem dX5_sort_7 : decode cX5_sort 7 = .ok (.invokevirtual 72, 3) := by decide +kernel
theorem dX5_sort_10 : decode cX5_sort 10 = .ok (.ifCond .eq 12, 3) := by decide +kernel
theorem dX5_sort_13 : decode cX5_sort 13 = .ok (.aload_n 0, 1) := by decide +kernel
theorem dX5_sort_14 : decode cX5_sort 14 = .ok (.getfield 7, 3) := by decide +kernel
theorem dX5_sort_17 : decode cX5_sort 17 = .ok (.iload_n 1, 1) := by decide +kernel
theorem dX5_sort_18 : decode cX5_sort 18 = .ok (.iaload, 1) := by decide +kernel
theorem dX5_sort_19 : decode cX5_sort 19 = .ok (.goto 9, 3) := by decide +kernel
theorem dX5_sort_22 : decode cX5_sort 22 = .ok (.aload_n 0, 1) := by decide +kernel
theorem dX5_sort_23 : decode cX5_sort 23 = .ok (.bipush (-2), 2) := by decide +kernel
theorem dX5_sort_25 : decode cX5_sort 25 = .ok (.invokevirtual 68, 3) := by decide +kernel
theorem dX5_sort_28 : decode cX5_sort 28 = .ok (.ireturn, 1) := by decide +kernel
theorem dX5_lay_0 : decode cX5_lay 0 = .ok (.aload_n 0, 1) := by decide +kernel
theorem dX5_lay_1 : decode cX5_lay 1 = .ok (.getfield 41, 3) := by decide +kernel
theorem dX5_lay_4 : decode cX5_lay 4 = .ok (.aload_n 0, 1) := by decide +kernel
theorem dX5_lay_5 : decode cX5_lay 5 = .ok (.getfield 101, 3) := by decide +kernel
theorem dX5_lay_8 : decode cX5_lay 8 = .ok (.iload_n 1, 1) := by decide +kernel
theorem dX5_lay_9 : decode cX5_lay 9 = .ok (.iastore, 1) := by decide +kernel
theorem dX5_lay_10 : decode cX5_lay 10 = .ok (.aload_n 0, 1) := by decide +kernel
theorem dX5_lay_11 : decode cX5_lay 11 = .ok (.dup, 1) := by decide +kernel
theorem dX5_lay_12 : decode cX5_lay 12 = .ok (.getfield 101, 3) := by decide +kernel
theorem dX5_lay_15 : decode cX5_lay 15 = .ok (.iconst 1, 1) := by decide +kernel
theorem dX5_lay_16 : decode cX5_lay 16 = .ok (.iadd, 1) := by decide +kernel
theorem dX5_lay_17 : decode cX5_lay 17 = .ok (.putfield 101, 3) := by decide +kernel
theorem dX5_lay_20 : decode cX5_lay 20 = .ok (.return_, 1) := by decide +kernel
theorem dX5_next_0 : decode cX5_next 0 = .ok (.aload_n 0, 1) := by decide +kernel
theorem dX5_next_1 : decode cX5_next 1 = .ok (.dup, 1) := by decide +kernel
theorem dX5_next_2 : decode cX5_next 2 = .ok (.getfield 101, 3) := by decide +kernel
theorem dX5_next_5 : decode cX5_next 5 = .ok (.iconst 1, 1) := by decide +kernel
theorem dX5_next_6 : decode cX5_next 6 = .ok (.isub, 1) := by decide +kernel
theorem dX5_next_7 : decode cX5_next 7 = .ok (.putfield 101, 3) := by decide +kernel
theorem dX5_next_10 : decode cX5_next 10 = .ok (.aload_n 0, 1) := by decide +kernel
theorem dX5_next_11 : decode cX5_next 11 = .ok (.getfield 41, 3) := by decide +kernel
theorem dX5_next_14 : decode cX5_next 14 = .ok (.aload_n 0, 1) := by decide +kernel
theorem dX5_next_15 : decode cX5_next 15 = .ok (.getfield 101, 3) := by decide +kernel
theorem dX5_next_18 : decode cX5_next 18 = .ok (.iaload, 1) := by decide +kernel
theorem dX5_next_19 : decode cX5_next 19 = .ok (.istore_n 1, 1) := by decide +kernel
theorem dX5_next_20 : decode cX5_next 20 = .ok (.iconst 0, 1) := by decide +kernel
theorem dX5_next_21 : decode cX5_next 21 = .ok (.istore_n 2, 1) := by decide +kernel
theorem dX5_next_22 : decode cX5_next 22 = .ok (.iload_n 2, 1) := by decide +kernel
theorem dX5_next_23 : decode cX5_next 23 = .ok (.aload_n 0, 1) := by decide +kernel
theorem dX5_next_24 : decode cX5_next 24 = .ok (.getfield 13, 3) := by decide +kernel
theorem dX5_next_27 : decode cX5_next 27 = .ok (.iload_n 1, 1) := by decide +kernel
theorem dX5_next_28 : decode cX5_next 28 = .ok (.iaload, 1) := by decide +kernel
theorem dX5_next_29 : decode cX5_next 29 = .ok (.if_icmp .ge 51, 3) := by decide +kernel
theorem dX5_next_32 : decode cX5_next 32 = .ok (.aload_n 0, 1) := by decide +kernel
theorem dX5_next_33 : decode cX5_next 33 = .ok (.getfield 7, 3) := by decide +kernel
theorem dX5_next_36 : decode cX5_next 36 = .ok (.iload_n 1, 1) := by decide +kernel
theorem dX5_next_37 : decode cX5_next 37 = .ok (.iaload, 1) := by decide +kernel
theorem dX5_next_38 : decode cX5_next 38 = .ok (.invokestatic 85, 3) := by decide +kernel
theorem dX5_next_41 : decode cX5_next 41 = .ok (.ifCond .eq 39, 3) := by decide +kernel
theorem dX5_next_44 : decode cX5_next 44 = .ok (.aload_n 0, 1) := by decide +kernel
theorem dX5_next_45 : decode cX5_next 45 = .ok (.getfield 23, 3) := by decide +kernel
theorem dX5_next_48 : decode cX5_next 48 = .ok (.bipush 6, 2) := by decide +kernel
theorem dX5_next_50 : decode cX5_next 50 = .ok (.iload_n 1, 1) := by decide +kernel
theorem dX5_next_51 : decode cX5_next 51 = .ok (.imul, 1) := by decide +kernel
theorem dX5_next_52 : decode cX5_next 52 = .ok (.iload_n 2, 1) := by decide +kernel
theorem dX5_next_53 : decode cX5_next 53 = .ok (.iadd, 1) := by decide +kernel
theorem dX5_next_54 : decode cX5_next 54 = .ok (.iaload, 1) := by decide +kernel
theorem dX5_next_55 : decode cX5_next 55 = .ok (.iconst (-1), 1) := by decide +kernel
theorem dX5_next_56 : decode cX5_next 56 = .ok (.if_icmp .eq 18, 3) := by decide +kernel
theorem dX5_next_59 : decode cX5_next 59 = .ok (.aload_n 0, 1) := by decide +kernel
theorem dX5_next_60 : decode cX5_next 60 = .ok (.aload_n 0, 1) := by decide +kernel
theorem dX5_next_61 : decode cX5_next 61 = .ok (.getfield 23, 3) := by decide +kernel
theorem dX5_next_64 : decode cX5_next 64 = .ok (.bipush 6, 2) := by decide +kernel
theorem dX5_next_66 : decode cX5_next 66 = .ok (.iload_n 1, 1) := by decide +kernel
theorem dX5_next_67 : decode cX5_next 67 = .ok (.imul, 1) := by decide +kernel
theorem dX5_next_68 : decode cX5_next 68 = .ok (.iload_n 2, 1) := by decide +kernel
theorem dX5_next_69 : decode cX5_next 69 = .ok (.iadd, 1) := by decide +kernel
theorem dX5_next_70 : decode cX5_next 70 = .ok (.iaload, 1) := by decide +kernel
theorem dX5_next_71 : decode cX5_next 71 = .ok (.invokevirtual 104, 3) := by decide +kernel
theorem dX5_next_74 : decode cX5_next 74 = .ok (.iinc 2 1, 3) := by decide +kernel
theorem dX5_next_77 : decode cX5_next 77 = .ok (.goto (-55), 3) := by decide +kernel
theorem dX5_next_80 : decode cX5_next 80 = .ok (.iload_n 1, 1) := by decide +kernel
theorem dX5_next_81 : decode cX5_next 81 = .ok (.ireturn, 1) := by decide +kernel
theorem dX5_weightOf_0 : decode cX5_weightOf 0 = .ok (.lconst 0, 1) := by decide +kernel
theorem dX5_weightOf_1 : decode cX5_weightOf 1 = .ok (.lstore_n 2, 1) := by decide +kernel
theorem dX5_weightOf_2 : decode cX5_weightOf 2 = .ok (.aload_n 0, 1) := by decide +kernel
theorem dX5_weightOf_3 : decode cX5_weightOf 3 = .ok (.iconst 0, 1) := by decide +kernel
theorem dX5_weightOf_4 : decode cX5_weightOf 4 = .ok (.putfield 101, 3) := by decide +kernel
theorem dX5_weightOf_7 : decode cX5_weightOf 7 = .ok (.aload_n 0, 1) := by decide +kernel
theorem dX5_weightOf_8 : decode cX5_weightOf 8 = .ok (.iload_n 1, 1) := by decide +kernel
theorem dX5_weightOf_9 : decode cX5_weightOf 9 = .ok (.invokevirtual 104, 3) := by decide +kernel
theorem dX5_weightOf_12 : decode cX5_weightOf 12 = .ok (.aload_n 0, 1) := by decide +kernel
theorem dX5_weightOf_13 : decode cX5_weightOf 13 = .ok (.getfield 101, 3) := by decide +kernel
theorem dX5_weightOf_16 : decode cX5_weightOf 16 = .ok (.ifCond .le 60, 3) := by decide +kernel
theorem dX5_weightOf_19 : decode cX5_weightOf 19 = .ok (.aload_n 0, 1) := by decide +kernel
theorem dX5_weightOf_20 : decode cX5_weightOf 20 = .ok (.invokevirtual 108, 3) := by decide +kernel
theorem dX5_weightOf_23 : decode cX5_weightOf 23 = .ok (.istore 4, 2) := by decide +kernel
theorem dX5_weightOf_25 : decode cX5_weightOf 25 = .ok (.lload_n 2, 1) := by decide +kernel
theorem dX5_weightOf_26 : decode cX5_weightOf 26 = .ok (.aload_n 0, 1) := by decide +kernel
theorem dX5_weightOf_27 : decode cX5_weightOf 27 = .ok (.getfield 16, 3) := by decide +kernel
theorem dX5_weightOf_30 : decode cX5_weightOf 30 = .ok (.iload 4, 2) := by decide +kernel
theorem dX5_weightOf_32 : decode cX5_weightOf 32 = .ok (.iaload, 1) := by decide +kernel
theorem dX5_weightOf_33 : decode cX5_weightOf 33 = .ok (.i2l, 1) := by decide +kernel
theorem dX5_weightOf_34 : decode cX5_weightOf 34 = .ok (.ladd, 1) := by decide +kernel
theorem dX5_weightOf_35 : decode cX5_weightOf 35 = .ok (.lstore_n 2, 1) := by decide +kernel
theorem dX5_weightOf_36 : decode cX5_weightOf 36 = .ok (.iconst 0, 1) := by decide +kernel
theorem dX5_weightOf_37 : decode cX5_weightOf 37 = .ok (.istore 5, 2) := by decide +kernel
theorem dX5_weightOf_39 : decode cX5_weightOf 39 = .ok (.iload 5, 2) := by decide +kernel
theorem dX5_weightOf_41 : decode cX5_weightOf 41 = .ok (.aload_n 0, 1) := by decide +kernel
theorem dX5_weightOf_42 : decode cX5_weightOf 42 = .ok (.getfield 13, 3) := by decide +kernel
theorem dX5_weightOf_45 : decode cX5_weightOf 45 = .ok (.iload 4, 2) := by decide +kernel
theorem dX5_weightOf_47 : decode cX5_weightOf 47 = .ok (.iaload, 1) := by decide +kernel
theorem dX5_weightOf_48 : decode cX5_weightOf 48 = .ok (.if_icmp .ge 25, 3) := by decide +kernel
theorem dX5_weightOf_51 : decode cX5_weightOf 51 = .ok (.lload_n 2, 1) := by decide +kernel
theorem dX5_weightOf_52 : decode cX5_weightOf 52 = .ok (.aload_n 0, 1) := by decide +kernel
theorem dX5_weightOf_53 : decode cX5_weightOf 53 = .ok (.getfield 19, 3) := by decide +kernel
theorem dX5_weightOf_56 : decode cX5_weightOf 56 = .ok (.bipush 6, 2) := by decide +kernel
theorem dX5_weightOf_58 : decode cX5_weightOf 58 = .ok (.iload 4, 2) := by decide +kernel
theorem dX5_weightOf_60 : decode cX5_weightOf 60 = .ok (.imul, 1) := by decide +kernel
theorem dX5_weightOf_61 : decode cX5_weightOf 61 = .ok (.iload 5, 2) := by decide +kernel
theorem dX5_weightOf_63 : decode cX5_weightOf 63 = .ok (.iadd, 1) := by decide +kernel
theorem dX5_weightOf_64 : decode cX5_weightOf 64 = .ok (.laload, 1) := by decide +kernel
theorem dX5_weightOf_65 : decode cX5_weightOf 65 = .ok (.ladd, 1) := by decide +kernel
theorem dX5_weightOf_66 : decode cX5_weightOf 66 = .ok (.lstore_n 2, 1) := by decide +kernel
theorem dX5_weightOf_67 : decode cX5_weightOf 67 = .ok (.iinc 5 1, 3) := by decide +kernel
theorem dX5_weightOf_70 : decode cX5_weightOf 70 = .ok (.goto (-31), 3) := by decide +kernel
theorem dX5_weightOf_73 : decode cX5_weightOf 73 = .ok (.goto (-61), 3) := by decide +kernel
theorem dX5_weightOf_76 : decode cX5_weightOf 76 = .ok (.lload_n 2, 1) := by decide +kernel
theorem dX5_weightOf_77 : decode cX5_weightOf 77 = .ok (.lreturn, 1) := by decide +kernel
theorem dX5_weight_0 : decode cX5_weight 0 = .ok (.aload_n 0, 1) := by decide +kernel
theorem dX5_weight_1 : decode cX5_weight 1 = .ok (.iconst 0, 1) := by decide +kernel
theorem dX5_weight_2 : decode cX5_weight 2 = .ok (.putfield 52, 3) := by decide +kernel
theorem dX5_weight_5 : decode cX5_weight 5 = .ok (.aload_n 0, 1) := by decide +kernel
theorem dX5_weight_6 : decode cX5_weight 6 = .ok (.iload_n 1, 1) := by decide +kernel
theorem dX5_weight_7 : decode cX5_weight 7 = .ok (.invokevirtual 72, 3) := by decide +kernel
theorem dX5_weight_10 : decode cX5_weight 10 = .ok (.ifCond .ne 11, 3) := by decide +kernel
theorem dX5_weight_13 : decode cX5_weight 13 = .ok (.aload_n 0, 1) := by decide +kernel
theorem dX5_weight_14 : decode cX5_weight 14 = .ok (.bipush (-2), 2) := by decide +kernel
theorem dX5_weight_16 : decode cX5_weight 16 = .ok (.putfield 52, 3) := by decide +kernel
theorem dX5_weight_19 : decode cX5_weight 19 = .ok (.lconst 0, 1) := by decide +kernel
theorem dX5_weight_20 : decode cX5_weight 20 = .ok (.lreturn, 1) := by decide +kernel
theorem dX5_weight_21 : decode cX5_weight 21 = .ok (.aload_n 0, 1) := by decide +kernel
theorem dX5_weight_22 : decode cX5_weight 22 = .ok (.iload_n 1, 1) := by decide +kernel
theorem dX5_weight_23 : decode cX5_weight 23 = .ok (.invokevirtual 112, 3) := by decide +kernel
theorem dX5_weight_26 : decode cX5_weight 26 = .ok (.lreturn, 1) := by decide +kernel
theorem dX5_inside_0 : decode cX5_inside 0 = .ok (.aload_n 0, 1) := by decide +kernel
theorem dX5_inside_1 : decode cX5_inside 1 = .ok (.iconst 0, 1) := by decide +kernel
theorem dX5_inside_2 : decode cX5_inside 2 = .ok (.putfield 52, 3) := by decide +kernel
theorem dX5_inside_5 : decode cX5_inside 5 = .ok (.aload_n 0, 1) := by decide +kernel
theorem dX5_inside_6 : decode cX5_inside 6 = .ok (.iload_n 1, 1) := by decide +kernel
theorem dX5_inside_7 : decode cX5_inside 7 = .ok (.invokevirtual 72, 3) := by decide +kernel
theorem dX5_inside_10 : decode cX5_inside 10 = .ok (.ifCond .eq 10, 3) := by decide +kernel
theorem dX5_inside_13 : decode cX5_inside 13 = .ok (.iload_n 2, 1) := by decide +kernel
theorem dX5_inside_14 : decode cX5_inside 14 = .ok (.invokestatic 94, 3) := by decide +kernel
theorem dX5_inside_17 : decode cX5_inside 17 = .ok (.ifCond .ne 10, 3) := by decide +kernel
theorem dX5_inside_20 : decode cX5_inside 20 = .ok (.aload_n 0, 1) := by decide +kernel
theorem dX5_inside_21 : decode cX5_inside 21 = .ok (.bipush (-2), 2) := by decide +kernel
theorem dX5_inside_23 : decode cX5_inside 23 = .ok (.invokevirtual 68, 3) := by decide +kernel
theorem dX5_inside_26 : decode cX5_inside 26 = .ok (.ireturn, 1) := by decide +kernel
theorem dX5_inside_27 : decode cX5_inside 27 = .ok (.iconst 0, 1) := by decide +kernel
theorem dX5_inside_28 : decode cX5_inside 28 = .ok (.istore_n 3, 1) := by decide +kernel
theorem dX5_inside_29 : decode cX5_inside 29 = .ok (.aload_n 0, 1) := by decide +kernel
theorem dX5_inside_30 : decode cX5_inside 30 = .ok (.iconst 0, 1) := by decide +kernel
theorem dX5_inside_31 : decode cX5_inside 31 = .ok (.putfield 101, 3) := by decide +kernel
theorem dX5_inside_34 : decode cX5_inside 34 = .ok (.aload_n 0, 1) := by decide +kernel
theorem dX5_inside_35 : decode cX5_inside 35 = .ok (.iload_n 1, 1) := by decide +kernel
theorem dX5_inside_36 : decode cX5_inside 36 = .ok (.invokevirtual 104, 3) := by decide +kernel
theorem dX5_inside_39 : decode cX5_inside 39 = .ok (.aload_n 0, 1) := by decide +kernel
theorem dX5_inside_40 : decode cX5_inside 40 = .ok (.getfield 101, 3) := by decide +kernel
theorem dX5_inside_43 : decode cX5_inside 43 = .ok (.ifCond .le 34, 3) := by decide +kernel
theorem dX5_inside_46 : decode cX5_inside 46 = .ok (.aload_n 0, 1) := by decide +kernel
theorem dX5_inside_47 : decode cX5_inside 47 = .ok (.invokevirtual 108, 3) := by decide +kernel
theorem dX5_inside_50 : decode cX5_inside 50 = .ok (.istore 4, 2) := by decide +kernel
theorem dX5_inside_52 : decode cX5_inside 52 = .ok (.iload_n 3, 1) := by decide +kernel
theorem dX5_inside_53 : decode cX5_inside 53 = .ok (.aload_n 0, 1) := by decide +kernel
theorem dX5_inside_54 : decode cX5_inside 54 = .ok (.getfield 7, 3) := by decide +kernel
theorem dX5_inside_57 : decode cX5_inside 57 = .ok (.iload 4, 2) := by decide +kernel
theorem dX5_inside_59 : decode cX5_inside 59 = .ok (.iaload, 1) := by decide +kernel
theorem dX5_inside_60 : decode cX5_inside 60 = .ok (.iload_n 2, 1) := by decide +kernel
theorem dX5_inside_61 : decode cX5_inside 61 = .ok (.invokestatic 88, 3) := by decide +kernel
theorem dX5_inside_64 : decode cX5_inside 64 = .ok (.ifCond .eq 7, 3) := by decide +kernel
theorem dX5_inside_67 : decode cX5_inside 67 = .ok (.iconst 1, 1) := by decide +kernel
theorem dX5_inside_68 : decode cX5_inside 68 = .ok (.goto 4, 3) := by decide +kernel
theorem dX5_inside_71 : decode cX5_inside 71 = .ok (.iconst 0, 1) := by decide +kernel
theorem dX5_inside_72 : decode cX5_inside 72 = .ok (.iadd, 1) := by decide +kernel
theorem dX5_inside_73 : decode cX5_inside 73 = .ok (.istore_n 3, 1) := by decide +kernel
theorem dX5_inside_74 : decode cX5_inside 74 = .ok (.goto (-35), 3) := by decide +kernel
theorem dX5_inside_77 : decode cX5_inside 77 = .ok (.iload_n 3, 1) := by decide +kernel
theorem dX5_inside_78 : decode cX5_inside 78 = .ok (.ireturn, 1) := by decide +kernel
theorem dX5_hold_0 : decode cX5_hold 0 = .ok (.aload_n 0, 1) := by decide +kernel
theorem dX5_hold_1 : decode cX5_hold 1 = .ok (.iconst 0, 1) := by decide +kernel
theorem dX5_hold_2 : decode cX5_hold 2 = .ok (.putfield 52, 3) := by decide +kernel
theorem dX5_hold_5 : decode cX5_hold 5 = .ok (.iload_n 1, 1) := by decide +kernel
theorem dX5_hold_6 : decode cX5_hold 6 = .ok (.iconst 0, 1) := by decide +kernel
theorem dX5_hold_7 : decode cX5_hold 7 = .ok (.bipush 11, 2) := by decide +kernel
theorem dX5_hold_9 : decode cX5_hold 9 = .ok (.invokestatic 48, 3) := by decide +kernel
theorem dX5_hold_12 : decode cX5_hold 12 = .ok (.ifCond .eq 16, 3) := by decide +kernel
theorem dX5_hold_15 : decode cX5_hold 15 = .ok (.iload_n 2, 1) := by decide +kernel
theorem dX5_hold_16 : decode cX5_hold 16 = .ok (.iconst (-1), 1) := by decide +kernel
theorem dX5_hold_17 : decode cX5_hold 17 = .ok (.if_icmp .eq 18, 3) := by decide +kernel
theorem dX5_hold_20 : decode cX5_hold 20 = .ok (.aload_n 0, 1) := by decide +kernel
theorem dX5_hold_21 : decode cX5_hold 21 = .ok (.iload_n 2, 1) := by decide +kernel
theorem dX5_hold_22 : decode cX5_hold 22 = .ok (.invokevirtual 72, 3) := by decide +kernel
theorem dX5_hold_25 : decode cX5_hold 25 = .ok (.ifCond .ne 10, 3) := by decide +kernel
theorem dX5_hold_28 : decode cX5_hold 28 = .ok (.aload_n 0, 1) := by decide +kernel
theorem dX5_hold_29 : decode cX5_hold 29 = .ok (.bipush (-2), 2) := by decide +kernel
theorem dX5_hold_31 : decode cX5_hold 31 = .ok (.invokevirtual 68, 3) := by decide +kernel
theorem dX5_hold_34 : decode cX5_hold 34 = .ok (.ireturn, 1) := by decide +kernel
theorem dX5_hold_35 : decode cX5_hold 35 = .ok (.aload_n 0, 1) := by decide +kernel
theorem dX5_hold_36 : decode cX5_hold 36 = .ok (.getfield 26, 3) := by decide +kernel
theorem dX5_hold_39 : decode cX5_hold 39 = .ok (.iload_n 1, 1) := by decide +kernel
theorem dX5_hold_40 : decode cX5_hold 40 = .ok (.iaload, 1) := by decide +kernel
theorem dX5_hold_41 : decode cX5_hold 41 = .ok (.istore_n 3, 1) := by decide +kernel
theorem dX5_hold_42 : decode cX5_hold 42 = .ok (.aload_n 0, 1) := by decide +kernel
theorem dX5_hold_43 : decode cX5_hold 43 = .ok (.getfield 26, 3) := by decide +kernel
theorem dX5_hold_46 : decode cX5_hold 46 = .ok (.iload_n 1, 1) := by decide +kernel
theorem dX5_hold_47 : decode cX5_hold 47 = .ok (.iload_n 2, 1) := by decide +kernel
theorem dX5_hold_48 : decode cX5_hold 48 = .ok (.iastore, 1) := by decide +kernel
theorem dX5_hold_49 : decode cX5_hold 49 = .ok (.iload_n 3, 1) := by decide +kernel
theorem dX5_hold_50 : decode cX5_hold 50 = .ok (.ireturn, 1) := by decide +kernel
theorem dX5_bay_0 : decode cX5_bay 0 = .ok (.aload_n 0, 1) := by decide +kernel
theorem dX5_bay_1 : decode cX5_bay 1 = .ok (.iconst 0, 1) := by decide +kernel
theorem dX5_bay_2 : decode cX5_bay 2 = .ok (.putfield 52, 3) := by decide +kernel
theorem dX5_bay_5 : decode cX5_bay 5 = .ok (.iload_n 1, 1) := by decide +kernel
theorem dX5_bay_6 : decode cX5_bay 6 = .ok (.iconst 0, 1) := by decide +kernel
theorem dX5_bay_7 : decode cX5_bay 7 = .ok (.bipush 11, 2) := by decide +kernel
theorem dX5_bay_9 : decode cX5_bay 9 = .ok (.invokestatic 48, 3) := by decide +kernel
theorem dX5_bay_12 : decode cX5_bay 12 = .ok (.ifCond .eq 10, 3) := by decide +kernel
theorem dX5_bay_15 : decode cX5_bay 15 = .ok (.iload_n 2, 1) := by decide +kernel
theorem dX5_bay_16 : decode cX5_bay 16 = .ok (.invokestatic 94, 3) := by decide +kernel
theorem dX5_bay_19 : decode cX5_bay 19 = .ok (.ifCond .ne 10, 3) := by decide +kernel
theorem dX5_bay_22 : decode cX5_bay 22 = .ok (.aload_n 0, 1) := by decide +kernel
theorem dX5_bay_23 : decode cX5_bay 23 = .ok (.bipush (-2), 2) := by decide +kernel
theorem dX5_bay_25 : decode cX5_bay 25 = .ok (.invokevirtual 68, 3) := by decide +kernel
theorem dX5_bay_28 : decode cX5_bay 28 = .ok (.ireturn, 1) := by decide +kernel
theorem dX5_bay_29 : decode cX5_bay 29 = .ok (.aload_n 0, 1) := by decide +kernel
theorem dX5_bay_30 : decode cX5_bay 30 = .ok (.getfield 26, 3) := by decide +kernel
theorem dX5_bay_33 : decode cX5_bay 33 = .ok (.iload_n 1, 1) := by decide +kernel
theorem dX5_bay_34 : decode cX5_bay 34 = .ok (.iaload, 1) := by decide +kernel
theorem dX5_bay_35 : decode cX5_bay 35 = .ok (.istore_n 3, 1) := by decide +kernel
theorem dX5_bay_36 : decode cX5_bay 36 = .ok (.iload_n 3, 1) := by decide +kernel
theorem dX5_bay_37 : decode cX5_bay 37 = .ok (.iconst (-1), 1) := by decide +kernel
theorem dX5_bay_38 : decode cX5_bay 38 = .ok (.if_icmp .ne 5, 3) := by decide +kernel
theorem dX5_bay_41 : decode cX5_bay 41 = .ok (.iconst (-1), 1) := by decide +kernel
theorem dX5_bay_42 : decode cX5_bay 42 = .ok (.ireturn, 1) := by decide +kernel
theorem dX5_bay_43 : decode cX5_bay 43 = .ok (.aload_n 0, 1) := by decide +kernel
theorem dX5_bay_44 : decode cX5_bay 44 = .ok (.getfield 7, 3) := by decide +kernel
theorem dX5_bay_47 : decode cX5_bay 47 = .ok (.iload_n 3, 1) := by decide +kernel
theorem dX5_bay_48 : decode cX5_bay 48 = .ok (.iaload, 1) := by decide +kernel
theorem dX5_bay_49 : decode cX5_bay 49 = .ok (.iload_n 2, 1) := by decide +kernel
theorem dX5_bay_50 : decode cX5_bay 50 = .ok (.invokestatic 88, 3) := by decide +kernel
theorem dX5_bay_53 : decode cX5_bay 53 = .ok (.ifCond .eq 12, 3) := by decide +kernel
theorem dX5_bay_56 : decode cX5_bay 56 = .ok (.aload_n 0, 1) := by decide +kernel
theorem dX5_bay_57 : decode cX5_bay 57 = .ok (.iload_n 3, 1) := by decide +kernel
theorem dX5_bay_58 : decode cX5_bay 58 = .ok (.iload_n 2, 1) := by decide +kernel
theorem dX5_bay_59 : decode cX5_bay 59 = .ok (.invokevirtual 97, 3) := by decide +kernel
theorem dX5_bay_62 : decode cX5_bay 62 = .ok (.goto 9, 3) := by decide +kernel
theorem dX5_bay_65 : decode cX5_bay 65 = .ok (.aload_n 0, 1) := by decide +kernel
theorem dX5_bay_66 : decode cX5_bay 66 = .ok (.bipush (-4), 2) := by decide +kernel
theorem dX5_bay_68 : decode cX5_bay 68 = .ok (.invokevirtual 68, 3) := by decide +kernel
theorem dX5_bay_71 : decode cX5_bay 71 = .ok (.ireturn, 1) := by decide +kernel
theorem dX5_isGate_0 : decode cX5_isGate 0 = .ok (.iload_n 0, 1) := by decide +kernel
theorem dX5_isGate_1 : decode cX5_isGate 1 = .ok (.iconst 0, 1) := by decide +kernel
theorem dX5_isGate_2 : decode cX5_isGate 2 = .ok (.iconst 5, 1) := by decide +kernel
theorem dX5_isGate_3 : decode cX5_isGate 3 = .ok (.invokestatic 48, 3) := by decide +kernel
theorem dX5_isGate_6 : decode cX5_isGate 6 = .ok (.ireturn, 1) := by decide +kernel
theorem dX5_gate_0 : decode cX5_gate 0 = .ok (.aload_n 0, 1) := by decide +kernel
theorem dX5_gate_1 : decode cX5_gate 1 = .ok (.iconst 0, 1) := by decide +kernel
theorem dX5_gate_2 : decode cX5_gate 2 = .ok (.putfield 52, 3) := by decide +kernel
theorem dX5_gate_5 : decode cX5_gate 5 = .ok (.iload_n 1, 1) := by decide +kernel
theorem dX5_gate_6 : decode cX5_gate 6 = .ok (.invokestatic 116, 3) := by decide +kernel
theorem dX5_gate_9 : decode cX5_gate 9 = .ok (.ifCond .eq 15, 3) := by decide +kernel
theorem dX5_gate_12 : decode cX5_gate 12 = .ok (.iload_n 2, 1) := by decide +kernel
theorem dX5_gate_13 : decode cX5_gate 13 = .ok (.iconst (-1), 1) := by decide +kernel
theorem dX5_gate_14 : decode cX5_gate 14 = .ok (.if_icmp .eq 17, 3) := by decide +kernel
theorem dX5_gate_17 : decode cX5_gate 17 = .ok (.iload_n 2, 1) := by decide +kernel
theorem dX5_gate_18 : decode cX5_gate 18 = .ok (.invokestatic 94, 3) := by decide +kernel
theorem dX5_gate_21 : decode cX5_gate 21 = .ok (.ifCond .ne 10, 3) := by decide +kernel
theorem dX5_gate_24 : decode cX5_gate 24 = .ok (.aload_n 0, 1) := by decide +kernel
theorem dX5_gate_25 : decode cX5_gate 25 = .ok (.bipush (-2), 2) := by decide +kernel
theorem dX5_gate_27 : decode cX5_gate 27 = .ok (.invokevirtual 68, 3) := by decide +kernel
theorem dX5_gate_30 : decode cX5_gate 30 = .ok (.ireturn, 1) := by decide +kernel
theorem dX5_gate_31 : decode cX5_gate 31 = .ok (.aload_n 0, 1) := by decide +kernel
theorem dX5_gate_32 : decode cX5_gate 32 = .ok (.getfield 29, 3) := by decide +kernel
theorem dX5_gate_35 : decode cX5_gate 35 = .ok (.iload_n 1, 1) := by decide +kernel
theorem dX5_gate_36 : decode cX5_gate 36 = .ok (.iaload, 1) := by decide +kernel
theorem dX5_gate_37 : decode cX5_gate 37 = .ok (.istore_n 3, 1) := by decide +kernel
theorem dX5_gate_38 : decode cX5_gate 38 = .ok (.aload_n 0, 1) := by decide +kernel
theorem dX5_gate_39 : decode cX5_gate 39 = .ok (.getfield 29, 3) := by decide +kernel
theorem dX5_gate_42 : decode cX5_gate 42 = .ok (.iload_n 1, 1) := by decide +kernel
theorem dX5_gate_43 : decode cX5_gate 43 = .ok (.iload_n 2, 1) := by decide +kernel
theorem dX5_gate_44 : decode cX5_gate 44 = .ok (.iastore, 1) := by decide +kernel
theorem dX5_gate_45 : decode cX5_gate 45 = .ok (.aload_n 0, 1) := by decide +kernel
theorem dX5_gate_46 : decode cX5_gate 46 = .ok (.getfield 32, 3) := by decide +kernel
theorem dX5_gate_49 : decode cX5_gate 49 = .ok (.iload_n 1, 1) := by decide +kernel
theorem dX5_gate_50 : decode cX5_gate 50 = .ok (.lconst 0, 1) := by decide +kernel
theorem dX5_gate_51 : decode cX5_gate 51 = .ok (.lastore, 1) := by decide +kernel
theorem dX5_gate_52 : decode cX5_gate 52 = .ok (.iload_n 3, 1) := by decide +kernel
theorem dX5_gate_53 : decode cX5_gate 53 = .ok (.ireturn, 1) := by decide +kernel
theorem dX5_pass_0 : decode cX5_pass 0 = .ok (.aload_n 0, 1) := by decide +kernel
theorem dX5_pass_1 : decode cX5_pass 1 = .ok (.iconst 0, 1) := by decide +kernel
theorem dX5_pass_2 : decode cX5_pass 2 = .ok (.putfield 52, 3) := by decide +kernel
theorem dX5_pass_5 : decode cX5_pass 5 = .ok (.aload_n 0, 1) := by decide +kernel
theorem dX5_pass_6 : decode cX5_pass 6 = .ok (.iload_n 1, 1) := by decide +kernel
theorem dX5_pass_7 : decode cX5_pass 7 = .ok (.invokevirtual 72, 3) := by decide +kernel
theorem dX5_pass_10 : decode cX5_pass 10 = .ok (.ifCond .eq 20, 3) := by decide +kernel
theorem dX5_pass_13 : decode cX5_pass 13 = .ok (.iload_n 2, 1) := by decide +kernel
theorem dX5_pass_14 : decode cX5_pass 14 = .ok (.invokestatic 116, 3) := by decide +kernel
theorem dX5_pass_17 : decode cX5_pass 17 = .ok (.ifCond .eq 13, 3) := by decide +kernel
theorem dX5_pass_20 : decode cX5_pass 20 = .ok (.aload_n 0, 1) := by decide +kernel
theorem dX5_pass_21 : decode cX5_pass 21 = .ok (.getfield 29, 3) := by decide +kernel
theorem dX5_pass_24 : decode cX5_pass 24 = .ok (.iload_n 2, 1) := by decide +kernel
theorem dX5_pass_25 : decode cX5_pass 25 = .ok (.iaload, 1) := by decide +kernel
theorem dX5_pass_26 : decode cX5_pass 26 = .ok (.iconst (-1), 1) := by decide +kernel
theorem dX5_pass_27 : decode cX5_pass 27 = .ok (.if_icmp .ne 10, 3) := by decide +kernel
theorem dX5_pass_30 : decode cX5_pass 30 = .ok (.aload_n 0, 1) := by decide +kernel
theorem dX5_pass_31 : decode cX5_pass 31 = .ok (.bipush (-2), 2) := by decide +kernel
theorem dX5_pass_33 : decode cX5_pass 33 = .ok (.invokevirtual 68, 3) := by decide +kernel
theorem dX5_pass_36 : decode cX5_pass 36 = .ok (.ireturn, 1) := by decide +kernel
theorem dX5_pass_37 : decode cX5_pass 37 = .ok (.aload_n 0, 1) := by decide +kernel
theorem dX5_pass_38 : decode cX5_pass 38 = .ok (.getfield 7, 3) := by decide +kernel
theorem dX5_pass_41 : decode cX5_pass 41 = .ok (.iload_n 1, 1) := by decide +kernel
theorem dX5_pass_42 : decode cX5_pass 42 = .ok (.iaload, 1) := by decide +kernel
theorem dX5_pass_43 : decode cX5_pass 43 = .ok (.aload_n 0, 1) := by decide +kernel
theorem dX5_pass_44 : decode cX5_pass 44 = .ok (.getfield 29, 3) := by decide +kernel
theorem dX5_pass_47 : decode cX5_pass 47 = .ok (.iload_n 2, 1) := by decide +kernel
theorem dX5_pass_48 : decode cX5_pass 48 = .ok (.iaload, 1) := by decide +kernel
theorem dX5_pass_49 : decode cX5_pass 49 = .ok (.invokestatic 88, 3) := by decide +kernel
theorem dX5_pass_52 : decode cX5_pass 52 = .ok (.ifCond .ne 15, 3) := by decide +kernel
theorem dX5_pass_55 : decode cX5_pass 55 = .ok (.aload_n 0, 1) := by decide +kernel
theorem dX5_pass_56 : decode cX5_pass 56 = .ok (.dup, 1) := by decide +kernel
theorem dX5_pass_57 : decode cX5_pass 57 = .ok (.getfield 119, 3) := by decide +kernel
theorem dX5_pass_60 : decode cX5_pass 60 = .ok (.iconst 1, 1) := by decide +kernel
theorem dX5_pass_61 : decode cX5_pass 61 = .ok (.iadd, 1) := by decide +kernel
theorem dX5_pass_62 : decode cX5_pass 62 = .ok (.putfield 119, 3) := by decide +kernel
theorem dX5_pass_65 : decode cX5_pass 65 = .ok (.iconst 0, 1) := by decide +kernel
theorem dX5_pass_66 : decode cX5_pass 66 = .ok (.ireturn, 1) := by decide +kernel
theorem dX5_pass_67 : decode cX5_pass 67 = .ok (.aload_n 0, 1) := by decide +kernel
theorem dX5_pass_68 : decode cX5_pass 68 = .ok (.getfield 32, 3) := by decide +kernel
theorem dX5_pass_71 : decode cX5_pass 71 = .ok (.iload_n 2, 1) := by decide +kernel
theorem dX5_pass_72 : decode cX5_pass 72 = .ok (.dup2, 1) := by decide +kernel
theorem dX5_pass_73 : decode cX5_pass 73 = .ok (.laload, 1) := by decide +kernel
theorem dX5_pass_74 : decode cX5_pass 74 = .ok (.aload_n 0, 1) := by decide +kernel
theorem dX5_pass_75 : decode cX5_pass 75 = .ok (.iload_n 1, 1) := by decide +kernel
theorem dX5_pass_76 : decode cX5_pass 76 = .ok (.invokevirtual 112, 3) := by decide +kernel
theorem dX5_pass_79 : decode cX5_pass 79 = .ok (.ladd, 1) := by decide +kernel
theorem dX5_pass_80 : decode cX5_pass 80 = .ok (.lastore, 1) := by decide +kernel
theorem dX5_pass_81 : decode cX5_pass 81 = .ok (.iconst 1, 1) := by decide +kernel
theorem dX5_pass_82 : decode cX5_pass 82 = .ok (.ireturn, 1) := by decide +kernel
theorem dX5_passed_0 : decode cX5_passed 0 = .ok (.aload_n 0, 1) := by decide +kernel
theorem dX5_passed_1 : decode cX5_passed 1 = .ok (.iload_n 1, 1) := by decide +kernel
theorem dX5_passed_2 : decode cX5_passed 2 = .ok (.invokestatic 116, 3) := by decide +kernel
theorem dX5_passed_5 : decode cX5_passed 5 = .ok (.ifCond .eq 7, 3) := by decide +kernel
theorem dX5_passed_8 : decode cX5_passed 8 = .ok (.iconst 0, 1) := by decide +kernel
theorem dX5_passed_9 : decode cX5_passed 9 = .ok (.goto 5, 3) := by decide +kernel
theorem dX5_passed_12 : decode cX5_passed 12 = .ok (.bipush (-2), 2) := by decide +kernel
theorem dX5_passed_14 : decode cX5_passed 14 = .ok (.putfield 52, 3) := by decide +kernel
theorem dX5_passed_17 : decode cX5_passed 17 = .ok (.aload_n 0, 1) := by decide +kernel
theorem dX5_passed_18 : decode cX5_passed 18 = .ok (.getfield 52, 3) := by decide +kernel
theorem dX5_passed_21 : decode cX5_passed 21 = .ok (.ifCond .ne 12, 3) := by decide +kernel
theorem dX5_passed_24 : decode cX5_passed 24 = .ok (.aload_n 0, 1) := by decide +kernel
theorem dX5_passed_25 : decode cX5_passed 25 = .ok (.getfield 32, 3) := by decide +kernel
theorem dX5_passed_28 : decode cX5_passed 28 = .ok (.iload_n 1, 1) := by decide +kernel
theorem dX5_passed_29 : decode cX5_passed 29 = .ok (.laload, 1) := by decide +kernel
theorem dX5_passed_30 : decode cX5_passed 30 = .ok (.goto 4, 3) := by decide +kernel
theorem dX5_passed_33 : decode cX5_passed 33 = .ok (.lconst 0, 1) := by decide +kernel
theorem dX5_passed_34 : decode cX5_passed 34 = .ok (.lreturn, 1) := by decide +kernel
theorem dX5_tariff_0 : decode cX5_tariff 0 = .ok (.aload_n 0, 1) := by decide +kernel
theorem dX5_tariff_1 : decode cX5_tariff 1 = .ok (.iconst 0, 1) := by decide +kernel
theorem dX5_tariff_2 : decode cX5_tariff 2 = .ok (.putfield 52, 3) := by decide +kernel
theorem dX5_tariff_5 : decode cX5_tariff 5 = .ok (.iload_n 1, 1) := by decide +kernel
theorem dX5_tariff_6 : decode cX5_tariff 6 = .ok (.invokestatic 94, 3) := by decide +kernel
theorem dX5_tariff_9 : decode cX5_tariff 9 = .ok (.ifCond .eq 14, 3) := by decide +kernel
theorem dX5_tariff_12 : decode cX5_tariff 12 = .ok (.iload_n 2, 1) := by decide +kernel
theorem dX5_tariff_13 : decode cX5_tariff 13 = .ok (.bipush (-100), 2) := by decide +kernel
theorem dX5_tariff_15 : decode cX5_tariff 15 = .ok (.bipush 100, 2) := by decide +kernel
theorem dX5_tariff_17 : decode cX5_tariff 17 = .ok (.invokestatic 48, 3) := by decide +kernel
theorem dX5_tariff_20 : decode cX5_tariff 20 = .ok (.ifCond .ne 10, 3) := by decide +kernel
theorem dX5_tariff_23 : decode cX5_tariff 23 = .ok (.aload_n 0, 1) := by decide +kernel
theorem dX5_tariff_24 : decode cX5_tariff 24 = .ok (.bipush (-2), 2) := by decide +kernel
theorem dX5_tariff_26 : decode cX5_tariff 26 = .ok (.invokevirtual 68, 3) := by decide +kernel
theorem dX5_tariff_29 : decode cX5_tariff 29 = .ok (.ireturn, 1) := by decide +kernel
theorem dX5_tariff_30 : decode cX5_tariff 30 = .ok (.aload_n 0, 1) := by decide +kernel
theorem dX5_tariff_31 : decode cX5_tariff 31 = .ok (.getfield 122, 3) := by decide +kernel
theorem dX5_tariff_34 : decode cX5_tariff 34 = .ok (.bipush 10, 2) := by decide +kernel
theorem dX5_tariff_36 : decode cX5_tariff 36 = .ok (.if_icmp .ne 10, 3) := by decide +kernel
theorem dX5_tariff_39 : decode cX5_tariff 39 = .ok (.aload_n 0, 1) := by decide +kernel
theorem dX5_tariff_40 : decode cX5_tariff 40 = .ok (.bipush (-3), 2) := by decide +kernel
theorem dX5_tariff_42 : decode cX5_tariff 42 = .ok (.invokevirtual 68, 3) := by decide +kernel
theorem dX5_tariff_45 : decode cX5_tariff 45 = .ok (.ireturn, 1) := by decide +kernel
theorem dX5_tariff_46 : decode cX5_tariff 46 = .ok (.aload_n 0, 1) := by decide +kernel
theorem dX5_tariff_47 : decode cX5_tariff 47 = .ok (.getfield 35, 3) := by decide +kernel
theorem dX5_tariff_50 : decode cX5_tariff 50 = .ok (.aload_n 0, 1) := by decide +kernel
theorem dX5_tariff_51 : decode cX5_tariff 51 = .ok (.getfield 122, 3) := by decide +kernel
theorem dX5_tariff_54 : decode cX5_tariff 54 = .ok (.iload_n 1, 1) := by decide +kernel
theorem dX5_tariff_55 : decode cX5_tariff 55 = .ok (.iastore, 1) := by decide +kernel
theorem dX5_tariff_56 : decode cX5_tariff 56 = .ok (.aload_n 0, 1) := by decide +kernel
theorem dX5_tariff_57 : decode cX5_tariff 57 = .ok (.getfield 38, 3) := by decide +kernel
theorem dX5_tariff_60 : decode cX5_tariff 60 = .ok (.aload_n 0, 1) := by decide +kernel
theorem dX5_tariff_61 : decode cX5_tariff 61 = .ok (.getfield 122, 3) := by decide +kernel
theorem dX5_tariff_64 : decode cX5_tariff 64 = .ok (.iload_n 2, 1) := by decide +kernel
theorem dX5_tariff_65 : decode cX5_tariff 65 = .ok (.iastore, 1) := by decide +kernel
theorem dX5_tariff_66 : decode cX5_tariff 66 = .ok (.aload_n 0, 1) := by decide +kernel
theorem dX5_tariff_67 : decode cX5_tariff 67 = .ok (.dup, 1) := by decide +kernel
theorem dX5_tariff_68 : decode cX5_tariff 68 = .ok (.getfield 122, 3) := by decide +kernel
theorem dX5_tariff_71 : decode cX5_tariff 71 = .ok (.iconst 1, 1) := by decide +kernel
theorem dX5_tariff_72 : decode cX5_tariff 72 = .ok (.iadd, 1) := by decide +kernel
theorem dX5_tariff_73 : decode cX5_tariff 73 = .ok (.putfield 122, 3) := by decide +kernel
theorem dX5_tariff_76 : decode cX5_tariff 76 = .ok (.aload_n 0, 1) := by decide +kernel
theorem dX5_tariff_77 : decode cX5_tariff 77 = .ok (.getfield 122, 3) := by decide +kernel
theorem dX5_tariff_80 : decode cX5_tariff 80 = .ok (.ireturn, 1) := by decide +kernel
theorem dX5_lineOf_0 : decode cX5_lineOf 0 = .ok (.iconst 0, 1) := by decide +kernel
theorem dX5_lineOf_1 : decode cX5_lineOf 1 = .ok (.istore_n 2, 1) := by decide +kernel
theorem dX5_lineOf_2 : decode cX5_lineOf 2 = .ok (.iload_n 2, 1) := by decide +kernel
theorem dX5_lineOf_3 : decode cX5_lineOf 3 = .ok (.aload_n 0, 1) := by decide +kernel
theorem dX5_lineOf_4 : decode cX5_lineOf 4 = .ok (.getfield 122, 3) := by decide +kernel
theorem dX5_lineOf_7 : decode cX5_lineOf 7 = .ok (.if_icmp .ge 27, 3) := by decide +kernel
theorem dX5_lineOf_10 : decode cX5_lineOf 10 = .ok (.aload_n 0, 1) := by decide +kernel
theorem dX5_lineOf_11 : decode cX5_lineOf 11 = .ok (.getfield 7, 3) := by decide +kernel
theorem dX5_lineOf_14 : decode cX5_lineOf 14 = .ok (.iload_n 1, 1) := by decide +kernel
theorem dX5_lineOf_15 : decode cX5_lineOf 15 = .ok (.iaload, 1) := by decide +kernel
theorem dX5_lineOf_16 : decode cX5_lineOf 16 = .ok (.aload_n 0, 1) := by decide +kernel
theorem dX5_lineOf_17 : decode cX5_lineOf 17 = .ok (.getfield 35, 3) := by decide +kernel
theorem dX5_lineOf_20 : decode cX5_lineOf 20 = .ok (.iload_n 2, 1) := by decide +kernel
theorem dX5_lineOf_21 : decode cX5_lineOf 21 = .ok (.iaload, 1) := by decide +kernel
theorem dX5_lineOf_22 : decode cX5_lineOf 22 = .ok (.invokestatic 88, 3) := by decide +kernel
theorem dX5_lineOf_25 : decode cX5_lineOf 25 = .ok (.ifCond .ne 9, 3) := by decide +kernel
theorem dX5_lineOf_28 : decode cX5_lineOf 28 = .ok (.iinc 2 1, 3) := by decide +kernel
theorem dX5_lineOf_31 : decode cX5_lineOf 31 = .ok (.goto (-29), 3) := by decide +kernel
theorem dX5_lineOf_34 : decode cX5_lineOf 34 = .ok (.iload_n 2, 1) := by decide +kernel
theorem dX5_lineOf_35 : decode cX5_lineOf 35 = .ok (.aload_n 0, 1) := by decide +kernel
theorem dX5_lineOf_36 : decode cX5_lineOf 36 = .ok (.getfield 122, 3) := by decide +kernel
theorem dX5_lineOf_39 : decode cX5_lineOf 39 = .ok (.if_icmp .ge 7, 3) := by decide +kernel
theorem dX5_lineOf_42 : decode cX5_lineOf 42 = .ok (.iload_n 2, 1) := by decide +kernel
theorem dX5_lineOf_43 : decode cX5_lineOf 43 = .ok (.goto 4, 3) := by decide +kernel
theorem dX5_lineOf_46 : decode cX5_lineOf 46 = .ok (.iconst (-1), 1) := by decide +kernel
theorem dX5_lineOf_47 : decode cX5_lineOf 47 = .ok (.ireturn, 1) := by decide +kernel
theorem dX5_duty_0 : decode cX5_duty 0 = .ok (.aload_n 0, 1) := by decide +kernel
theorem dX5_duty_1 : decode cX5_duty 1 = .ok (.aload_n 0, 1) := by decide +kernel
theorem dX5_duty_2 : decode cX5_duty 2 = .ok (.iload_n 1, 1) := by decide +kernel
theorem dX5_duty_3 : decode cX5_duty 3 = .ok (.invokevirtual 72, 3) := by decide +kernel
theorem dX5_duty_6 : decode cX5_duty 6 = .ok (.ifCond .eq 7, 3) := by decide +kernel
theorem dX5_duty_9 : decode cX5_duty 9 = .ok (.iconst 0, 1) := by decide +kernel
theorem dX5_duty_10 : decode cX5_duty 10 = .ok (.goto 5, 3) := by decide +kernel
theorem dX5_duty_13 : decode cX5_duty 13 = .ok (.bipush (-2), 2) := by decide +kernel
theorem dX5_duty_15 : decode cX5_duty 15 = .ok (.putfield 52, 3) := by decide +kernel
theorem dX5_duty_18 : decode cX5_duty 18 = .ok (.aload_n 0, 1) := by decide +kernel
theorem dX5_duty_19 : decode cX5_duty 19 = .ok (.getfield 52, 3) := by decide +kernel
theorem dX5_duty_22 : decode cX5_duty 22 = .ok (.ifCond .ne 11, 3) := by decide +kernel
theorem dX5_duty_25 : decode cX5_duty 25 = .ok (.aload_n 0, 1) := by decide +kernel
theorem dX5_duty_26 : decode cX5_duty 26 = .ok (.iload_n 1, 1) := by decide +kernel
theorem dX5_duty_27 : decode cX5_duty 27 = .ok (.invokevirtual 125, 3) := by decide +kernel
theorem dX5_duty_30 : decode cX5_duty 30 = .ok (.goto 4, 3) := by decide +kernel
theorem dX5_duty_33 : decode cX5_duty 33 = .ok (.iconst (-1), 1) := by decide +kernel
theorem dX5_duty_34 : decode cX5_duty 34 = .ok (.istore_n 2, 1) := by decide +kernel
theorem dX5_duty_35 : decode cX5_duty 35 = .ok (.iload_n 2, 1) := by decide +kernel
theorem dX5_duty_36 : decode cX5_duty 36 = .ok (.iconst (-1), 1) := by decide +kernel
theorem dX5_duty_37 : decode cX5_duty 37 = .ok (.if_icmp .ne 7, 3) := by decide +kernel
theorem dX5_duty_40 : decode cX5_duty 40 = .ok (.iconst 0, 1) := by decide +kernel
theorem dX5_duty_41 : decode cX5_duty 41 = .ok (.goto 21, 3) := by decide +kernel
theorem dX5_duty_44 : decode cX5_duty 44 = .ok (.aload_n 0, 1) := by decide +kernel
theorem dX5_duty_45 : decode cX5_duty 45 = .ok (.getfield 38, 3) := by decide +kernel
theorem dX5_duty_48 : decode cX5_duty 48 = .ok (.iload_n 2, 1) := by decide +kernel
theorem dX5_duty_49 : decode cX5_duty 49 = .ok (.iaload, 1) := by decide +kernel
theorem dX5_duty_50 : decode cX5_duty 50 = .ok (.aload_n 0, 1) := by decide +kernel
theorem dX5_duty_51 : decode cX5_duty 51 = .ok (.iload_n 1, 1) := by decide +kernel
theorem dX5_duty_52 : decode cX5_duty 52 = .ok (.aload_n 0, 1) := by decide +kernel
theorem dX5_duty_53 : decode cX5_duty 53 = .ok (.getfield 35, 3) := by decide +kernel
theorem dX5_duty_56 : decode cX5_duty 56 = .ok (.iload_n 2, 1) := by decide +kernel
theorem dX5_duty_57 : decode cX5_duty 57 = .ok (.iaload, 1) := by decide +kernel
theorem dX5_duty_58 : decode cX5_duty 58 = .ok (.invokevirtual 97, 3) := by decide +kernel
theorem dX5_duty_61 : decode cX5_duty 61 = .ok (.imul, 1) := by decide +kernel
theorem dX5_duty_62 : decode cX5_duty 62 = .ok (.ireturn, 1) := by decide +kernel
theorem dX5_line_0 : decode cX5_line 0 = .ok (.aload_n 0, 1) := by decide +kernel
theorem dX5_line_1 : decode cX5_line 1 = .ok (.iconst 0, 1) := by decide +kernel
theorem dX5_line_2 : decode cX5_line 2 = .ok (.putfield 52, 3) := by decide +kernel
theorem dX5_line_5 : decode cX5_line 5 = .ok (.aload_n 0, 1) := by decide +kernel
theorem dX5_line_6 : decode cX5_line 6 = .ok (.iload_n 1, 1) := by decide +kernel
theorem dX5_line_7 : decode cX5_line 7 = .ok (.invokevirtual 72, 3) := by decide +kernel
theorem dX5_line_10 : decode cX5_line 10 = .ok (.ifCond .eq 11, 3) := by decide +kernel
theorem dX5_line_13 : decode cX5_line 13 = .ok (.aload_n 0, 1) := by decide +kernel
theorem dX5_line_14 : decode cX5_line 14 = .ok (.iload_n 1, 1) := by decide +kernel
theorem dX5_line_15 : decode cX5_line 15 = .ok (.invokevirtual 125, 3) := by decide +kernel
theorem dX5_line_18 : decode cX5_line 18 = .ok (.goto 9, 3) := by decide +kernel
theorem dX5_line_21 : decode cX5_line 21 = .ok (.aload_n 0, 1) := by decide +kernel
theorem dX5_line_22 : decode cX5_line 22 = .ok (.bipush (-2), 2) := by decide +kernel
theorem dX5_line_24 : decode cX5_line 24 = .ok (.invokevirtual 68, 3) := by decide +kernel
theorem dX5_line_27 : decode cX5_line 27 = .ok (.ireturn, 1) := by decide +kernel
theorem dX5_refused_0 : decode cX5_refused 0 = .ok (.aload_n 0, 1) := by decide +kernel
theorem dX5_refused_1 : decode cX5_refused 1 = .ok (.getfield 52, 3) := by decide +kernel
theorem dX5_refused_4 : decode cX5_refused 4 = .ok (.ireturn, 1) := by decide +kernel
theorem dX5_count_0 : decode cX5_count 0 = .ok (.iload_n 1, 1) := by decide +kernel
theorem dX5_count_1 : decode cX5_count 1 = .ok (.tableswitch 69 0 5 #[39, 44, 49, 54, 59, 64], 39) := by decide +kernel
theorem dX5_count_40 : decode cX5_count 40 = .ok (.aload_n 0, 1) := by decide +kernel
theorem dX5_count_41 : decode cX5_count 41 = .ok (.getfield 44, 3) := by decide +kernel
theorem dX5_count_44 : decode cX5_count 44 = .ok (.ireturn, 1) := by decide +kernel
theorem dX5_count_45 : decode cX5_count 45 = .ok (.aload_n 0, 1) := by decide +kernel
theorem dX5_count_46 : decode cX5_count 46 = .ok (.getfield 55, 3) := by decide +kernel
theorem dX5_count_49 : decode cX5_count 49 = .ok (.ireturn, 1) := by decide +kernel
theorem dX5_count_50 : decode cX5_count 50 = .ok (.aload_n 0, 1) := by decide +kernel
theorem dX5_count_51 : decode cX5_count 51 = .ok (.getfield 58, 3) := by decide +kernel
theorem dX5_count_54 : decode cX5_count 54 = .ok (.ireturn, 1) := by decide +kernel
theorem dX5_count_55 : decode cX5_count 55 = .ok (.aload_n 0, 1) := by decide +kernel
theorem dX5_count_56 : decode cX5_count 56 = .ok (.getfield 61, 3) := by decide +kernel
theorem dX5_count_59 : decode cX5_count 59 = .ok (.ireturn, 1) := by decide +kernel
theorem dX5_count_60 : decode cX5_count 60 = .ok (.aload_n 0, 1) := by decide +kernel
theorem dX5_count_61 : decode cX5_count 61 = .ok (.getfield 119, 3) := by decide +kernel
theorem dX5_count_64 : decode cX5_count 64 = .ok (.ireturn, 1) := by decide +kernel
theorem dX5_count_65 : decode cX5_count 65 = .ok (.aload_n 0, 1) := by decide +kernel
theorem dX5_count_66 : decode cX5_count 66 = .ok (.getfield 122, 3) := by decide +kernel
theorem dX5_count_69 : decode cX5_count 69 = .ok (.ireturn, 1) := by decide +kernel
theorem dX5_count_70 : decode cX5_count 70 = .ok (.bipush (-2), 2) := by decide +kernel
theorem dX5_count_72 : decode cX5_count 72 = .ok (.ireturn, 1) := by decide +kernel
theorem dJ7_fill_53178_0 : decode cJ7_fill_53178 0 = .ok (.iconst 0, 1) := by decide +kernel
theorem dJ7_fill_53178_1 : decode cJ7_fill_53178 1 = .ok (.istore_n 2, 1) := by decide +kernel
theorem dJ7_fill_53178_2 : decode cJ7_fill_53178 2 = .ok (.aload_n 0, 1) := by decide +kernel
theorem dJ7_fill_53178_3 : decode cJ7_fill_53178 3 = .ok (.arraylength, 1) := by decide +kernel
theorem dJ7_fill_53178_4 : decode cJ7_fill_53178 4 = .ok (.istore_n 3, 1) := by decide +kernel
theorem dJ7_fill_53178_5 : decode cJ7_fill_53178 5 = .ok (.iload_n 2, 1) := by decide +kernel
theorem dJ7_fill_53178_6 : decode cJ7_fill_53178 6 = .ok (.iload_n 3, 1) := by decide +kernel
theorem dJ7_fill_53178_7 : decode cJ7_fill_53178 7 = .ok (.if_icmp .ge 13, 3) := by decide +kernel
theorem dJ7_fill_53178_10 : decode cJ7_fill_53178 10 = .ok (.aload_n 0, 1) := by decide +kernel
theorem dJ7_fill_53178_11 : decode cJ7_fill_53178 11 = .ok (.iload_n 2, 1) := by decide +kernel
theorem dJ7_fill_53178_12 : decode cJ7_fill_53178 12 = .ok (.iload_n 1, 1) := by decide +kernel
theorem dJ7_fill_53178_13 : decode cJ7_fill_53178 13 = .ok (.iastore, 1) := by decide +kernel
theorem dJ7_fill_53178_14 : decode cJ7_fill_53178 14 = .ok (.iinc 2 1, 3) := by decide +kernel
theorem dJ7_fill_53178_17 : decode cJ7_fill_53178 17 = .ok (.goto (-12), 3) := by decide +kernel
theorem dJ7_fill_53178_20 : decode cJ7_fill_53178 20 = .ok (.return_, 1) := by decide +kernel
end
section
theorem dL_law_0 : decode cL_law 0 = .ok (.new 7, 3) := by decide +kernel
theorem dL_law_3 : decode cL_law 3 = .ok (.dup, 1) := by decide +kernel
theorem dL_law_4 : decode cL_law 4 = .ok (.invokespecial 9, 3) := by decide +kernel
theorem dL_law_7 : decode cL_law 7 = .ok (.astore_n 1, 1) := by decide +kernel
theorem dL_law_8 : decode cL_law 8 = .ok (.new 10, 3) := by decide +kernel
theorem dL_law_11 : decode cL_law 11 = .ok (.dup, 1) := by decide +kernel
theorem dL_law_12 : decode cL_law 12 = .ok (.invokespecial 12, 3) := by decide +kernel
theorem dL_law_15 : decode cL_law 15 = .ok (.astore_n 2, 1) := by decide +kernel
theorem dL_law_16 : decode cL_law 16 = .ok (.iconst 0, 1) := by decide +kernel
theorem dL_law_17 : decode cL_law 17 = .ok (.istore_n 3, 1) := by decide +kernel
theorem dL_law_18 : decode cL_law 18 = .ok (.iload_n 3, 1) := by decide +kernel
theorem dL_law_19 : decode cL_law 19 = .ok (.aload_n 0, 1) := by decide +kernel
theorem dL_law_20 : decode cL_law 20 = .ok (.arraylength, 1) := by decide +kernel
theorem dL_law_21 : decode cL_law 21 = .ok (.iconst 4, 1) := by decide +kernel
theorem dL_law_22 : decode cL_law 22 = .ok (.isub, 1) := by decide +kernel
theorem dL_law_23 : decode cL_law 23 = .ok (.if_icmp .gt 714, 3) := by decide +kernel
theorem dL_law_26 : decode cL_law 26 = .ok (.aload_n 0, 1) := by decide +kernel
theorem dL_law_27 : decode cL_law 27 = .ok (.iload_n 3, 1) := by decide +kernel
theorem dL_law_28 : decode cL_law 28 = .ok (.iaload, 1) := by decide +kernel
theorem dL_law_29 : decode cL_law 29 = .ok (.bipush 31, 2) := by decide +kernel
theorem dL_law_31 : decode cL_law 31 = .ok (.iand, 1) := by decide +kernel
theorem dL_law_32 : decode cL_law 32 = .ok (.tableswitch 699 0 19 #[96, 129, 172, 206, 249, 282, 315, 348, 371, 395, 428, 461, 494, 527, 560, 584, 617, 640, 663, 676], 96) := by decide +kernel
theorem dL_law_128 : decode cL_law 128 = .ok (.aload_n 1, 1) := by decide +kernel
theorem dL_law_129 : decode cL_law 129 = .ok (.aload_n 0, 1) := by decide +kernel
theorem dL_law_130 : decode cL_law 130 = .ok (.iload_n 3, 1) := by decide +kernel
theorem dL_law_131 : decode cL_law 131 = .ok (.iconst 1, 1) := by decide +kernel
theorem dL_law_132 : decode cL_law 132 = .ok (.iadd, 1) := by decide +kernel
theorem dL_law_133 : decode cL_law 133 = .ok (.iaload, 1) := by decide +kernel
theorem dL_law_134 : decode cL_law 134 = .ok (.aload_n 0, 1) := by decide +kernel
theorem dL_law_135 : decode cL_law 135 = .ok (.iload_n 3, 1) := by decide +kernel
theorem dL_law_136 : decode cL_law 136 = .ok (.iconst 2, 1) := by decide +kernel
theorem dL_law_137 : decode cL_law 137 = .ok (.iadd, 1) := by decide +kernel
theorem dL_law_138 : decode cL_law 138 = .ok (.iaload, 1) := by decide +kernel
theorem dL_law_139 : decode cL_law 139 = .ok (.invokevirtual 13, 3) := by decide +kernel
theorem dL_law_142 : decode cL_law 142 = .ok (.aload_n 2, 1) := by decide +kernel
theorem dL_law_143 : decode cL_law 143 = .ok (.aload_n 0, 1) := by decide +kernel
theorem dL_law_144 : decode cL_law 144 = .ok (.iload_n 3, 1) := by decide +kernel
theorem dL_law_145 : decode cL_law 145 = .ok (.iconst 1, 1) := by decide +kernel
theorem dL_law_146 : decode cL_law 146 = .ok (.iadd, 1) := by decide +kernel
theorem dL_law_147 : decode cL_law 147 = .ok (.iaload, 1) := by decide +kernel
theorem dL_law_148 : decode cL_law 148 = .ok (.aload_n 0, 1) := by decide +kernel
theorem dL_law_149 : decode cL_law 149 = .ok (.iload_n 3, 1) := by decide +kernel
theorem dL_law_150 : decode cL_law 150 = .ok (.iconst 2, 1) := by decide +kernel
theorem dL_law_151 : decode cL_law 151 = .ok (.iadd, 1) := by decide +kernel
theorem dL_law_152 : decode cL_law 152 = .ok (.iaload, 1) := by decide +kernel
theorem dL_law_153 : decode cL_law 153 = .ok (.invokevirtual 17, 3) := by decide +kernel
theorem dL_law_156 : decode cL_law 156 = .ok (.if_icmp .eq 575, 3) := by decide +kernel
theorem dL_law_159 : decode cL_law 159 = .ok (.iconst 0, 1) := by decide +kernel
theorem dL_law_160 : decode cL_law 160 = .ok (.ireturn, 1) := by decide +kernel
theorem dL_law_161 : decode cL_law 161 = .ok (.aload_n 1, 1) := by decide +kernel
theorem dL_law_162 : decode cL_law 162 = .ok (.aload_n 0, 1) := by decide +kernel
theorem dL_law_163 : decode cL_law 163 = .ok (.iload_n 3, 1) := by decide +kernel
theorem dL_law_164 : decode cL_law 164 = .ok (.iconst 1, 1) := by decide +kernel
theorem dL_law_165 : decode cL_law 165 = .ok (.iadd, 1) := by decide +kernel
theorem dL_law_166 : decode cL_law 166 = .ok (.iaload, 1) := by decide +kernel
theorem dL_law_167 : decode cL_law 167 = .ok (.aload_n 0, 1) := by decide +kernel
theorem dL_law_168 : decode cL_law 168 = .ok (.iload_n 3, 1) := by decide +kernel
theorem dL_law_169 : decode cL_law 169 = .ok (.iconst 2, 1) := by decide +kernel
theorem dL_law_170 : decode cL_law 170 = .ok (.iadd, 1) := by decide +kernel
theorem dL_law_171 : decode cL_law 171 = .ok (.iaload, 1) := by decide +kernel
theorem dL_law_172 : decode cL_law 172 = .ok (.aload_n 0, 1) := by decide +kernel
theorem dL_law_173 : decode cL_law 173 = .ok (.iload_n 3, 1) := by decide +kernel
theorem dL_law_174 : decode cL_law 174 = .ok (.iconst 3, 1) := by decide +kernel
theorem dL_law_175 : decode cL_law 175 = .ok (.iadd, 1) := by decide +kernel
theorem dL_law_176 : decode cL_law 176 = .ok (.iaload, 1) := by decide +kernel
theorem dL_law_177 : decode cL_law 177 = .ok (.invokevirtual 18, 3) := by decide +kernel
theorem dL_law_180 : decode cL_law 180 = .ok (.aload_n 2, 1) := by decide +kernel
theorem dL_law_181 : decode cL_law 181 = .ok (.aload_n 0, 1) := by decide +kernel
theorem dL_law_182 : decode cL_law 182 = .ok (.iload_n 3, 1) := by decide +kernel
theorem dL_law_183 : decode cL_law 183 = .ok (.iconst 1, 1) := by decide +kernel
theorem dL_law_184 : decode cL_law 184 = .ok (.iadd, 1) := by decide +kernel
theorem dL_law_185 : decode cL_law 185 = .ok (.iaload, 1) := by decide +kernel
theorem dL_law_186 : decode cL_law 186 = .ok (.aload_n 0, 1) := by decide +kernel
theorem dL_law_187 : decode cL_law 187 = .ok (.iload_n 3, 1) := by decide +kernel
theorem dL_law_188 : decode cL_law 188 = .ok (.iconst 2, 1) := by decide +kernel
theorem dL_law_189 : decode cL_law 189 = .ok (.iadd, 1) := by decide +kernel
theorem dL_law_190 : decode cL_law 190 = .ok (.iaload, 1) := by decide +kernel
theorem dL_law_191 : decode cL_law 191 = .ok (.aload_n 0, 1) := by decide +kernel
theorem dL_law_192 : decode cL_law 192 = .ok (.iload_n 3, 1) := by decide +kernel
theorem dL_law_193 : decode cL_law 193 = .ok (.iconst 3, 1) := by decide +kernel
theorem dL_law_194 : decode cL_law 194 = .ok (.iadd, 1) := by decide +kernel
theorem dL_law_195 : decode cL_law 195 = .ok (.iaload, 1) := by decide +kernel
theorem dL_law_196 : decode cL_law 196 = .ok (.invokevirtual 22, 3) := by decide +kernel
theorem dL_law_199 : decode cL_law 199 = .ok (.if_icmp .eq 532, 3) := by decide +kernel
theorem dL_law_202 : decode cL_law 202 = .ok (.iconst 0, 1) := by decide +kernel
theorem dL_law_203 : decode cL_law 203 = .ok (.ireturn, 1) := by decide +kernel
theorem dL_law_204 : decode cL_law 204 = .ok (.aload_n 1, 1) := by decide +kernel
theorem dL_law_205 : decode cL_law 205 = .ok (.aload_n 0, 1) := by decide +kernel
theorem dL_law_206 : decode cL_law 206 = .ok (.iload_n 3, 1) := by decide +kernel
theorem dL_law_207 : decode cL_law 207 = .ok (.iconst 1, 1) := by decide +kernel
theorem dL_law_208 : decode cL_law 208 = .ok (.iadd, 1) := by decide +kernel
theorem dL_law_209 : decode cL_law 209 = .ok (.iaload, 1) := by decide +kernel
theorem dL_law_210 : decode cL_law 210 = .ok (.aload_n 0, 1) := by decide +kernel
theorem dL_law_211 : decode cL_law 211 = .ok (.iload_n 3, 1) := by decide +kernel
theorem dL_law_212 : decode cL_law 212 = .ok (.iconst 2, 1) := by decide +kernel
theorem dL_law_213 : decode cL_law 213 = .ok (.iadd, 1) := by decide +kernel
theorem dL_law_214 : decode cL_law 214 = .ok (.iaload, 1) := by decide +kernel
theorem dL_law_215 : decode cL_law 215 = .ok (.invokevirtual 23, 3) := by decide +kernel
theorem dL_law_218 : decode cL_law 218 = .ok (.aload_n 2, 1) := by decide +kernel
theorem dL_law_219 : decode cL_law 219 = .ok (.aload_n 0, 1) := by decide +kernel
theorem dL_law_220 : decode cL_law 220 = .ok (.iload_n 3, 1) := by decide +kernel
theorem dL_law_221 : decode cL_law 221 = .ok (.iconst 1, 1) := by decide +kernel
theorem dL_law_222 : decode cL_law 222 = .ok (.iadd, 1) := by decide +kernel
theorem dL_law_223 : decode cL_law 223 = .ok (.iaload, 1) := by decide +kernel
theorem dL_law_224 : decode cL_law 224 = .ok (.aload_n 0, 1) := by decide +kernel
theorem dL_law_225 : decode cL_law 225 = .ok (.iload_n 3, 1) := by decide +kernel
theorem dL_law_226 : decode cL_law 226 = .ok (.iconst 2, 1) := by decide +kernel
theorem dL_law_227 : decode cL_law 227 = .ok (.iadd, 1) := by decide +kernel
theorem dL_law_228 : decode cL_law 228 = .ok (.iaload, 1) := by decide +kernel
theorem dL_law_229 : decode cL_law 229 = .ok (.invokevirtual 27, 3) := by decide +kernel
theorem dL_law_232 : decode cL_law 232 = .ok (.lcmp, 1) := by decide +kernel
theorem dL_law_233 : decode cL_law 233 = .ok (.ifCond .eq 498, 3) := by decide +kernel
theorem dL_law_236 : decode cL_law 236 = .ok (.iconst 0, 1) := by decide +kernel
theorem dL_law_237 : decode cL_law 237 = .ok (.ireturn, 1) := by decide +kernel
theorem dL_law_238 : decode cL_law 238 = .ok (.aload_n 1, 1) := by decide +kernel
theorem dL_law_239 : decode cL_law 239 = .ok (.aload_n 0, 1) := by decide +kernel
theorem dL_law_240 : decode cL_law 240 = .ok (.iload_n 3, 1) := by decide +kernel
theorem dL_law_241 : decode cL_law 241 = .ok (.iconst 1, 1) := by decide +kernel
theorem dL_law_242 : decode cL_law 242 = .ok (.iadd, 1) := by decide +kernel
theorem dL_law_243 : decode cL_law 243 = .ok (.iaload, 1) := by decide +kernel
theorem dL_law_244 : decode cL_law 244 = .ok (.aload_n 0, 1) := by decide +kernel
theorem dL_law_245 : decode cL_law 245 = .ok (.iload_n 3, 1) := by decide +kernel
theorem dL_law_246 : decode cL_law 246 = .ok (.iconst 2, 1) := by decide +kernel
theorem dL_law_247 : decode cL_law 247 = .ok (.iadd, 1) := by decide +kernel
theorem dL_law_248 : decode cL_law 248 = .ok (.iaload, 1) := by decide +kernel
theorem dL_law_249 : decode cL_law 249 = .ok (.aload_n 0, 1) := by decide +kernel
theorem dL_law_250 : decode cL_law 250 = .ok (.iload_n 3, 1) := by decide +kernel
theorem dL_law_251 : decode cL_law 251 = .ok (.iconst 3, 1) := by decide +kernel
theorem dL_law_252 : decode cL_law 252 = .ok (.iadd, 1) := by decide +kernel
theorem dL_law_253 : decode cL_law 253 = .ok (.iaload, 1) := by decide +kernel
theorem dL_law_254 : decode cL_law 254 = .ok (.invokevirtual 28, 3) := by decide +kernel
theorem dL_law_257 : decode cL_law 257 = .ok (.aload_n 2, 1) := by decide +kernel
theorem dL_law_258 : decode cL_law 258 = .ok (.aload_n 0, 1) := by decide +kernel
theorem dL_law_259 : decode cL_law 259 = .ok (.iload_n 3, 1) := by decide +kernel
theorem dL_law_260 : decode cL_law 260 = .ok (.iconst 1, 1) := by decide +kernel
theorem dL_law_261 : decode cL_law 261 = .ok (.iadd, 1) := by decide +kernel
theorem dL_law_262 : decode cL_law 262 = .ok (.iaload, 1) := by decide +kernel
theorem dL_law_263 : decode cL_law 263 = .ok (.aload_n 0, 1) := by decide +kernel
theorem dL_law_264 : decode cL_law 264 = .ok (.iload_n 3, 1) := by decide +kernel
theorem dL_law_265 : decode cL_law 265 = .ok (.iconst 2, 1) := by decide +kernel
theorem dL_law_266 : decode cL_law 266 = .ok (.iadd, 1) := by decide +kernel
theorem dL_law_267 : decode cL_law 267 = .ok (.iaload, 1) := by decide +kernel
theorem dL_law_268 : decode cL_law 268 = .ok (.aload_n 0, 1) := by decide +kernel
theorem dL_law_269 : decode cL_law 269 = .ok (.iload_n 3, 1) := by decide +kernel
theorem dL_law_270 : decode cL_law 270 = .ok (.iconst 3, 1) := by decide +kernel
theorem dL_law_271 : decode cL_law 271 = .ok (.iadd, 1) := by decide +kernel
theorem dL_law_272 : decode cL_law 272 = .ok (.iaload, 1) := by decide +kernel
theorem dL_law_273 : decode cL_law 273 = .ok (.invokevirtual 31, 3) := by decide +kernel
theorem dL_law_276 : decode cL_law 276 = .ok (.if_icmp .eq 455, 3) := by decide +kernel
theorem dL_law_279 : decode cL_law 279 = .ok (.iconst 0, 1) := by decide +kernel
theorem dL_law_280 : decode cL_law 280 = .ok (.ireturn, 1) := by decide +kernel
theorem dL_law_281 : decode cL_law 281 = .ok (.aload_n 1, 1) := by decide +kernel
theorem dL_law_282 : decode cL_law 282 = .ok (.aload_n 0, 1) := by decide +kernel
theorem dL_law_283 : decode cL_law 283 = .ok (.iload_n 3, 1) := by decide +kernel
theorem dL_law_284 : decode cL_law 284 = .ok (.iconst 1, 1) := by decide +kernel
theorem dL_law_285 : decode cL_law 285 = .ok (.iadd, 1) := by decide +kernel
theorem dL_law_286 : decode cL_law 286 = .ok (.iaload, 1) := by decide +kernel
theorem dL_law_287 : decode cL_law 287 = .ok (.aload_n 0, 1) := by decide +kernel
theorem dL_law_288 : decode cL_law 288 = .ok (.iload_n 3, 1) := by decide +kernel
theorem dL_law_289 : decode cL_law 289 = .ok (.iconst 2, 1) := by decide +kernel
theorem dL_law_290 : decode cL_law 290 = .ok (.iadd, 1) := by decide +kernel
theorem dL_law_291 : decode cL_law 291 = .ok (.iaload, 1) := by decide +kernel
theorem dL_law_292 : decode cL_law 292 = .ok (.invokevirtual 32, 3) := by decide +kernel
theorem dL_law_295 : decode cL_law 295 = .ok (.aload_n 2, 1) := by decide +kernel
theorem dL_law_296 : decode cL_law 296 = .ok (.aload_n 0, 1) := by decide +kernel
theorem dL_law_297 : decode cL_law 297 = .ok (.iload_n 3, 1) := by decide +kernel
theorem dL_law_298 : decode cL_law 298 = .ok (.iconst 1, 1) := by decide +kernel
theorem dL_law_299 : decode cL_law 299 = .ok (.iadd, 1) := by decide +kernel
theorem dL_law_300 : decode cL_law 300 = .ok (.iaload, 1) := by decide +kernel
theorem dL_law_301 : decode cL_law 301 = .ok (.aload_n 0, 1) := by decide +kernel
theorem dL_law_302 : decode cL_law 302 = .ok (.iload_n 3, 1) := by decide +kernel
theorem dL_law_303 : decode cL_law 303 = .ok (.iconst 2, 1) := by decide +kernel
theorem dL_law_304 : decode cL_law 304 = .ok (.iadd, 1) := by decide +kernel
theorem dL_law_305 : decode cL_law 305 = .ok (.iaload, 1) := by decide +kernel
theorem dL_law_306 : decode cL_law 306 = .ok (.invokevirtual 35, 3) := by decide +kernel
theorem dL_law_309 : decode cL_law 309 = .ok (.if_icmp .eq 422, 3) := by decide +kernel
theorem dL_law_312 : decode cL_law 312 = .ok (.iconst 0, 1) := by decide +kernel
theorem dL_law_313 : decode cL_law 313 = .ok (.ireturn, 1) := by decide +kernel
theorem dL_law_314 : decode cL_law 314 = .ok (.aload_n 1, 1) := by decide +kernel
theorem dL_law_315 : decode cL_law 315 = .ok (.aload_n 0, 1) := by decide +kernel
theorem dL_law_316 : decode cL_law 316 = .ok (.iload_n 3, 1) := by decide +kernel
theorem dL_law_317 : decode cL_law 317 = .ok (.iconst 1, 1) := by decide +kernel
theorem dL_law_318 : decode cL_law 318 = .ok (.iadd, 1) := by decide +kernel
theorem dL_law_319 : decode cL_law 319 = .ok (.iaload, 1) := by decide +kernel
theorem dL_law_320 : decode cL_law 320 = .ok (.aload_n 0, 1) := by decide +kernel
theorem dL_law_321 : decode cL_law 321 = .ok (.iload_n 3, 1) := by decide +kernel
theorem dL_law_322 : decode cL_law 322 = .ok (.iconst 2, 1) := by decide +kernel
theorem dL_law_323 : decode cL_law 323 = .ok (.iadd, 1) := by decide +kernel
theorem dL_law_324 : decode cL_law 324 = .ok (.iaload, 1) := by decide +kernel
theorem dL_law_325 : decode cL_law 325 = .ok (.invokevirtual 36, 3) := by decide +kernel
theorem dL_law_328 : decode cL_law 328 = .ok (.aload_n 2, 1) := by decide +kernel
theorem dL_law_329 : decode cL_law 329 = .ok (.aload_n 0, 1) := by decide +kernel
theorem dL_law_330 : decode cL_law 330 = .ok (.iload_n 3, 1) := by decide +kernel
theorem dL_law_331 : decode cL_law 331 = .ok (.iconst 1, 1) := by decide +kernel
theorem dL_law_332 : decode cL_law 332 = .ok (.iadd, 1) := by decide +kernel
theorem dL_law_333 : decode cL_law 333 = .ok (.iaload, 1) := by decide +kernel
theorem dL_law_334 : decode cL_law 334 = .ok (.aload_n 0, 1) := by decide +kernel
theorem dL_law_335 : decode cL_law 335 = .ok (.iload_n 3, 1) := by decide +kernel
theorem dL_law_336 : decode cL_law 336 = .ok (.iconst 2, 1) := by decide +kernel
theorem dL_law_337 : decode cL_law 337 = .ok (.iadd, 1) := by decide +kernel
theorem dL_law_338 : decode cL_law 338 = .ok (.iaload, 1) := by decide +kernel
theorem dL_law_339 : decode cL_law 339 = .ok (.invokevirtual 39, 3) := by decide +kernel
theorem dL_law_342 : decode cL_law 342 = .ok (.if_icmp .eq 389, 3) := by decide +kernel
theorem dL_law_345 : decode cL_law 345 = .ok (.iconst 0, 1) := by decide +kernel
theorem dL_law_346 : decode cL_law 346 = .ok (.ireturn, 1) := by decide +kernel
theorem dL_law_347 : decode cL_law 347 = .ok (.aload_n 1, 1) := by decide +kernel
theorem dL_law_348 : decode cL_law 348 = .ok (.aload_n 0, 1) := by decide +kernel
theorem dL_law_349 : decode cL_law 349 = .ok (.iload_n 3, 1) := by decide +kernel
theorem dL_law_350 : decode cL_law 350 = .ok (.iconst 1, 1) := by decide +kernel
theorem dL_law_351 : decode cL_law 351 = .ok (.iadd, 1) := by decide +kernel
theorem dL_law_352 : decode cL_law 352 = .ok (.iaload, 1) := by decide +kernel
theorem dL_law_353 : decode cL_law 353 = .ok (.aload_n 0, 1) := by decide +kernel
theorem dL_law_354 : decode cL_law 354 = .ok (.iload_n 3, 1) := by decide +kernel
theorem dL_law_355 : decode cL_law 355 = .ok (.iconst 2, 1) := by decide +kernel
theorem dL_law_356 : decode cL_law 356 = .ok (.iadd, 1) := by decide +kernel
theorem dL_law_357 : decode cL_law 357 = .ok (.iaload, 1) := by decide +kernel
theorem dL_law_358 : decode cL_law 358 = .ok (.invokevirtual 40, 3) := by decide +kernel
theorem dL_law_361 : decode cL_law 361 = .ok (.aload_n 2, 1) := by decide +kernel
theorem dL_law_362 : decode cL_law 362 = .ok (.aload_n 0, 1) := by decide +kernel
theorem dL_law_363 : decode cL_law 363 = .ok (.iload_n 3, 1) := by decide +kernel
theorem dL_law_364 : decode cL_law 364 = .ok (.iconst 1, 1) := by decide +kernel
theorem dL_law_365 : decode cL_law 365 = .ok (.iadd, 1) := by decide +kernel
theorem dL_law_366 : decode cL_law 366 = .ok (.iaload, 1) := by decide +kernel
theorem dL_law_367 : decode cL_law 367 = .ok (.aload_n 0, 1) := by decide +kernel
theorem dL_law_368 : decode cL_law 368 = .ok (.iload_n 3, 1) := by decide +kernel
theorem dL_law_369 : decode cL_law 369 = .ok (.iconst 2, 1) := by decide +kernel
theorem dL_law_370 : decode cL_law 370 = .ok (.iadd, 1) := by decide +kernel
theorem dL_law_371 : decode cL_law 371 = .ok (.iaload, 1) := by decide +kernel
theorem dL_law_372 : decode cL_law 372 = .ok (.invokevirtual 43, 3) := by decide +kernel
theorem dL_law_375 : decode cL_law 375 = .ok (.if_icmp .eq 356, 3) := by decide +kernel
theorem dL_law_378 : decode cL_law 378 = .ok (.iconst 0, 1) := by decide +kernel
theorem dL_law_379 : decode cL_law 379 = .ok (.ireturn, 1) := by decide +kernel
theorem dL_law_380 : decode cL_law 380 = .ok (.aload_n 1, 1) := by decide +kernel
theorem dL_law_381 : decode cL_law 381 = .ok (.aload_n 0, 1) := by decide +kernel
theorem dL_law_382 : decode cL_law 382 = .ok (.iload_n 3, 1) := by decide +kernel
theorem dL_law_383 : decode cL_law 383 = .ok (.iconst 1, 1) := by decide +kernel
theorem dL_law_384 : decode cL_law 384 = .ok (.iadd, 1) := by decide +kernel
theorem dL_law_385 : decode cL_law 385 = .ok (.iaload, 1) := by decide +kernel
theorem dL_law_386 : decode cL_law 386 = .ok (.invokevirtual 44, 3) := by decide +kernel
theorem dL_law_389 : decode cL_law 389 = .ok (.aload_n 2, 1) := by decide +kernel
theorem dL_law_390 : decode cL_law 390 = .ok (.aload_n 0, 1) := by decide +kernel
theorem dL_law_391 : decode cL_law 391 = .ok (.iload_n 3, 1) := by decide +kernel
theorem dL_law_392 : decode cL_law 392 = .ok (.iconst 1, 1) := by decide +kernel
theorem dL_law_393 : decode cL_law 393 = .ok (.iadd, 1) := by decide +kernel
theorem dL_law_394 : decode cL_law 394 = .ok (.iaload, 1) := by decide +kernel
theorem dL_law_395 : decode cL_law 395 = .ok (.invokevirtual 48, 3) := by decide +kernel
theorem dL_law_398 : decode cL_law 398 = .ok (.if_icmp .eq 333, 3) := by decide +kernel
theorem dL_law_401 : decode cL_law 401 = .ok (.iconst 0, 1) := by decide +kernel
theorem dL_law_402 : decode cL_law 402 = .ok (.ireturn, 1) := by decide +kernel
theorem dL_law_403 : decode cL_law 403 = .ok (.aload_n 1, 1) := by decide +kernel
theorem dL_law_404 : decode cL_law 404 = .ok (.aload_n 0, 1) := by decide +kernel
theorem dL_law_405 : decode cL_law 405 = .ok (.iload_n 3, 1) := by decide +kernel
theorem dL_law_406 : decode cL_law 406 = .ok (.iconst 1, 1) := by decide +kernel
theorem dL_law_407 : decode cL_law 407 = .ok (.iadd, 1) := by decide +kernel
theorem dL_law_408 : decode cL_law 408 = .ok (.iaload, 1) := by decide +kernel
theorem dL_law_409 : decode cL_law 409 = .ok (.invokevirtual 49, 3) := by decide +kernel
theorem dL_law_412 : decode cL_law 412 = .ok (.aload_n 2, 1) := by decide +kernel
theorem dL_law_413 : decode cL_law 413 = .ok (.aload_n 0, 1) := by decide +kernel
theorem dL_law_414 : decode cL_law 414 = .ok (.iload_n 3, 1) := by decide +kernel
theorem dL_law_415 : decode cL_law 415 = .ok (.iconst 1, 1) := by decide +kernel
theorem dL_law_416 : decode cL_law 416 = .ok (.iadd, 1) := by decide +kernel
theorem dL_law_417 : decode cL_law 417 = .ok (.iaload, 1) := by decide +kernel
theorem dL_law_418 : decode cL_law 418 = .ok (.invokevirtual 53, 3) := by decide +kernel
theorem dL_law_421 : decode cL_law 421 = .ok (.lcmp, 1) := by decide +kernel
theorem dL_law_422 : decode cL_law 422 = .ok (.ifCond .eq 309, 3) := by decide +kernel
theorem dL_law_425 : decode cL_law 425 = .ok (.iconst 0, 1) := by decide +kernel
theorem dL_law_426 : decode cL_law 426 = .ok (.ireturn, 1) := by decide +kernel
theorem dL_law_427 : decode cL_law 427 = .ok (.aload_n 1, 1) := by decide +kernel
theorem dL_law_428 : decode cL_law 428 = .ok (.aload_n 0, 1) := by decide +kernel
theorem dL_law_429 : decode cL_law 429 = .ok (.iload_n 3, 1) := by decide +kernel
theorem dL_law_430 : decode cL_law 430 = .ok (.iconst 1, 1) := by decide +kernel
theorem dL_law_431 : decode cL_law 431 = .ok (.iadd, 1) := by decide +kernel
theorem dL_law_432 : decode cL_law 432 = .ok (.iaload, 1) := by decide +kernel
theorem dL_law_433 : decode cL_law 433 = .ok (.aload_n 0, 1) := by decide +kernel
theorem dL_law_434 : decode cL_law 434 = .ok (.iload_n 3, 1) := by decide +kernel
theorem dL_law_435 : decode cL_law 435 = .ok (.iconst 2, 1) := by decide +kernel
theorem dL_law_436 : decode cL_law 436 = .ok (.iadd, 1) := by decide +kernel
theorem dL_law_437 : decode cL_law 437 = .ok (.iaload, 1) := by decide +kernel
theorem dL_law_438 : decode cL_law 438 = .ok (.invokevirtual 54, 3) := by decide +kernel
theorem dL_law_441 : decode cL_law 441 = .ok (.aload_n 2, 1) := by decide +kernel
theorem dL_law_442 : decode cL_law 442 = .ok (.aload_n 0, 1) := by decide +kernel
theorem dL_law_443 : decode cL_law 443 = .ok (.iload_n 3, 1) := by decide +kernel
theorem dL_law_444 : decode cL_law 444 = .ok (.iconst 1, 1) := by decide +kernel
theorem dL_law_445 : decode cL_law 445 = .ok (.iadd, 1) := by decide +kernel
theorem dL_law_446 : decode cL_law 446 = .ok (.iaload, 1) := by decide +kernel
theorem dL_law_447 : decode cL_law 447 = .ok (.aload_n 0, 1) := by decide +kernel
theorem dL_law_448 : decode cL_law 448 = .ok (.iload_n 3, 1) := by decide +kernel
theorem dL_law_449 : decode cL_law 449 = .ok (.iconst 2, 1) := by decide +kernel
theorem dL_law_450 : decode cL_law 450 = .ok (.iadd, 1) := by decide +kernel
theorem dL_law_451 : decode cL_law 451 = .ok (.iaload, 1) := by decide +kernel
theorem dL_law_452 : decode cL_law 452 = .ok (.invokevirtual 57, 3) := by decide +kernel
theorem dL_law_455 : decode cL_law 455 = .ok (.if_icmp .eq 276, 3) := by decide +kernel
theorem dL_law_458 : decode cL_law 458 = .ok (.iconst 0, 1) := by decide +kernel
theorem dL_law_459 : decode cL_law 459 = .ok (.ireturn, 1) := by decide +kernel
theorem dL_law_460 : decode cL_law 460 = .ok (.aload_n 1, 1) := by decide +kernel
theorem dL_law_461 : decode cL_law 461 = .ok (.aload_n 0, 1) := by decide +kernel
theorem dL_law_462 : decode cL_law 462 = .ok (.iload_n 3, 1) := by decide +kernel
theorem dL_law_463 : decode cL_law 463 = .ok (.iconst 1, 1) := by decide +kernel
theorem dL_law_464 : decode cL_law 464 = .ok (.iadd, 1) := by decide +kernel
theorem dL_law_465 : decode cL_law 465 = .ok (.iaload, 1) := by decide +kernel
theorem dL_law_466 : decode cL_law 466 = .ok (.aload_n 0, 1) := by decide +kernel
theorem dL_law_467 : decode cL_law 467 = .ok (.iload_n 3, 1) := by decide +kernel
theorem dL_law_468 : decode cL_law 468 = .ok (.iconst 2, 1) := by decide +kernel
theorem dL_law_469 : decode cL_law 469 = .ok (.iadd, 1) := by decide +kernel
theorem dL_law_470 : decode cL_law 470 = .ok (.iaload, 1) := by decide +kernel
theorem dL_law_471 : decode cL_law 471 = .ok (.invokevirtual 58, 3) := by decide +kernel
theorem dL_law_474 : decode cL_law 474 = .ok (.aload_n 2, 1) := by decide +kernel
theorem dL_law_475 : decode cL_law 475 = .ok (.aload_n 0, 1) := by decide +kernel
theorem dL_law_476 : decode cL_law 476 = .ok (.iload_n 3, 1) := by decide +kernel
theorem dL_law_477 : decode cL_law 477 = .ok (.iconst 1, 1) := by decide +kernel
theorem dL_law_478 : decode cL_law 478 = .ok (.iadd, 1) := by decide +kernel
theorem dL_law_479 : decode cL_law 479 = .ok (.iaload, 1) := by decide +kernel
theorem dL_law_480 : decode cL_law 480 = .ok (.aload_n 0, 1) := by decide +kernel
theorem dL_law_481 : decode cL_law 481 = .ok (.iload_n 3, 1) := by decide +kernel
theorem dL_law_482 : decode cL_law 482 = .ok (.iconst 2, 1) := by decide +kernel
theorem dL_law_483 : decode cL_law 483 = .ok (.iadd, 1) := by decide +kernel
theorem dL_law_484 : decode cL_law 484 = .ok (.iaload, 1) := by decide +kernel
theorem dL_law_485 : decode cL_law 485 = .ok (.invokevirtual 61, 3) := by decide +kernel
theorem dL_law_488 : decode cL_law 488 = .ok (.if_icmp .eq 243, 3) := by decide +kernel
theorem dL_law_491 : decode cL_law 491 = .ok (.iconst 0, 1) := by decide +kernel
theorem dL_law_492 : decode cL_law 492 = .ok (.ireturn, 1) := by decide +kernel
theorem dL_law_493 : decode cL_law 493 = .ok (.aload_n 1, 1) := by decide +kernel
theorem dL_law_494 : decode cL_law 494 = .ok (.aload_n 0, 1) := by decide +kernel
theorem dL_law_495 : decode cL_law 495 = .ok (.iload_n 3, 1) := by decide +kernel
theorem dL_law_496 : decode cL_law 496 = .ok (.iconst 1, 1) := by decide +kernel
theorem dL_law_497 : decode cL_law 497 = .ok (.iadd, 1) := by decide +kernel
theorem dL_law_498 : decode cL_law 498 = .ok (.iaload, 1) := by decide +kernel
theorem dL_law_499 : decode cL_law 499 = .ok (.aload_n 0, 1) := by decide +kernel
theorem dL_law_500 : decode cL_law 500 = .ok (.iload_n 3, 1) := by decide +kernel
theorem dL_law_501 : decode cL_law 501 = .ok (.iconst 2, 1) := by decide +kernel
theorem dL_law_502 : decode cL_law 502 = .ok (.iadd, 1) := by decide +kernel
theorem dL_law_503 : decode cL_law 503 = .ok (.iaload, 1) := by decide +kernel
theorem dL_law_504 : decode cL_law 504 = .ok (.invokevirtual 62, 3) := by decide +kernel
theorem dL_law_507 : decode cL_law 507 = .ok (.aload_n 2, 1) := by decide +kernel
theorem dL_law_508 : decode cL_law 508 = .ok (.aload_n 0, 1) := by decide +kernel
theorem dL_law_509 : decode cL_law 509 = .ok (.iload_n 3, 1) := by decide +kernel
theorem dL_law_510 : decode cL_law 510 = .ok (.iconst 1, 1) := by decide +kernel
theorem dL_law_511 : decode cL_law 511 = .ok (.iadd, 1) := by decide +kernel
theorem dL_law_512 : decode cL_law 512 = .ok (.iaload, 1) := by decide +kernel
theorem dL_law_513 : decode cL_law 513 = .ok (.aload_n 0, 1) := by decide +kernel
theorem dL_law_514 : decode cL_law 514 = .ok (.iload_n 3, 1) := by decide +kernel
theorem dL_law_515 : decode cL_law 515 = .ok (.iconst 2, 1) := by decide +kernel
theorem dL_law_516 : decode cL_law 516 = .ok (.iadd, 1) := by decide +kernel
theorem dL_law_517 : decode cL_law 517 = .ok (.iaload, 1) := by decide +kernel
theorem dL_law_518 : decode cL_law 518 = .ok (.invokevirtual 65, 3) := by decide +kernel
theorem dL_law_521 : decode cL_law 521 = .ok (.if_icmp .eq 210, 3) := by decide +kernel
theorem dL_law_524 : decode cL_law 524 = .ok (.iconst 0, 1) := by decide +kernel
theorem dL_law_525 : decode cL_law 525 = .ok (.ireturn, 1) := by decide +kernel
theorem dL_law_526 : decode cL_law 526 = .ok (.aload_n 1, 1) := by decide +kernel
theorem dL_law_527 : decode cL_law 527 = .ok (.aload_n 0, 1) := by decide +kernel
theorem dL_law_528 : decode cL_law 528 = .ok (.iload_n 3, 1) := by decide +kernel
theorem dL_law_529 : decode cL_law 529 = .ok (.iconst 1, 1) := by decide +kernel
theorem dL_law_530 : decode cL_law 530 = .ok (.iadd, 1) := by decide +kernel
theorem dL_law_531 : decode cL_law 531 = .ok (.iaload, 1) := by decide +kernel
theorem dL_law_532 : decode cL_law 532 = .ok (.aload_n 0, 1) := by decide +kernel
theorem dL_law_533 : decode cL_law 533 = .ok (.iload_n 3, 1) := by decide +kernel
theorem dL_law_534 : decode cL_law 534 = .ok (.iconst 2, 1) := by decide +kernel
theorem dL_law_535 : decode cL_law 535 = .ok (.iadd, 1) := by decide +kernel
theorem dL_law_536 : decode cL_law 536 = .ok (.iaload, 1) := by decide +kernel
theorem dL_law_537 : decode cL_law 537 = .ok (.invokevirtual 66, 3) := by decide +kernel
theorem dL_law_540 : decode cL_law 540 = .ok (.aload_n 2, 1) := by decide +kernel
theorem dL_law_541 : decode cL_law 541 = .ok (.aload_n 0, 1) := by decide +kernel
theorem dL_law_542 : decode cL_law 542 = .ok (.iload_n 3, 1) := by decide +kernel
theorem dL_law_543 : decode cL_law 543 = .ok (.iconst 1, 1) := by decide +kernel
theorem dL_law_544 : decode cL_law 544 = .ok (.iadd, 1) := by decide +kernel
theorem dL_law_545 : decode cL_law 545 = .ok (.iaload, 1) := by decide +kernel
theorem dL_law_546 : decode cL_law 546 = .ok (.aload_n 0, 1) := by decide +kernel
theorem dL_law_547 : decode cL_law 547 = .ok (.iload_n 3, 1) := by decide +kernel
theorem dL_law_548 : decode cL_law 548 = .ok (.iconst 2, 1) := by decide +kernel
theorem dL_law_549 : decode cL_law 549 = .ok (.iadd, 1) := by decide +kernel
theorem dL_law_550 : decode cL_law 550 = .ok (.iaload, 1) := by decide +kernel
theorem dL_law_551 : decode cL_law 551 = .ok (.invokevirtual 69, 3) := by decide +kernel
theorem dL_law_554 : decode cL_law 554 = .ok (.if_icmp .eq 177, 3) := by decide +kernel
theorem dL_law_557 : decode cL_law 557 = .ok (.iconst 0, 1) := by decide +kernel
theorem dL_law_558 : decode cL_law 558 = .ok (.ireturn, 1) := by decide +kernel
theorem dL_law_559 : decode cL_law 559 = .ok (.aload_n 1, 1) := by decide +kernel
theorem dL_law_560 : decode cL_law 560 = .ok (.aload_n 0, 1) := by decide +kernel
theorem dL_law_561 : decode cL_law 561 = .ok (.iload_n 3, 1) := by decide +kernel
theorem dL_law_562 : decode cL_law 562 = .ok (.iconst 1, 1) := by decide +kernel
theorem dL_law_563 : decode cL_law 563 = .ok (.iadd, 1) := by decide +kernel
theorem dL_law_564 : decode cL_law 564 = .ok (.iaload, 1) := by decide +kernel
theorem dL_law_565 : decode cL_law 565 = .ok (.aload_n 0, 1) := by decide +kernel
theorem dL_law_566 : decode cL_law 566 = .ok (.iload_n 3, 1) := by decide +kernel
theorem dL_law_567 : decode cL_law 567 = .ok (.iconst 2, 1) := by decide +kernel
theorem dL_law_568 : decode cL_law 568 = .ok (.iadd, 1) := by decide +kernel
theorem dL_law_569 : decode cL_law 569 = .ok (.iaload, 1) := by decide +kernel
theorem dL_law_570 : decode cL_law 570 = .ok (.invokevirtual 70, 3) := by decide +kernel
theorem dL_law_573 : decode cL_law 573 = .ok (.aload_n 2, 1) := by decide +kernel
theorem dL_law_574 : decode cL_law 574 = .ok (.aload_n 0, 1) := by decide +kernel
theorem dL_law_575 : decode cL_law 575 = .ok (.iload_n 3, 1) := by decide +kernel
theorem dL_law_576 : decode cL_law 576 = .ok (.iconst 1, 1) := by decide +kernel
theorem dL_law_577 : decode cL_law 577 = .ok (.iadd, 1) := by decide +kernel
theorem dL_law_578 : decode cL_law 578 = .ok (.iaload, 1) := by decide +kernel
theorem dL_law_579 : decode cL_law 579 = .ok (.aload_n 0, 1) := by decide +kernel
theorem dL_law_580 : decode cL_law 580 = .ok (.iload_n 3, 1) := by decide +kernel
theorem dL_law_581 : decode cL_law 581 = .ok (.iconst 2, 1) := by decide +kernel
theorem dL_law_582 : decode cL_law 582 = .ok (.iadd, 1) := by decide +kernel
theorem dL_law_583 : decode cL_law 583 = .ok (.iaload, 1) := by decide +kernel
theorem dL_law_584 : decode cL_law 584 = .ok (.invokevirtual 73, 3) := by decide +kernel
theorem dL_law_587 : decode cL_law 587 = .ok (.if_icmp .eq 144, 3) := by decide +kernel
theorem dL_law_590 : decode cL_law 590 = .ok (.iconst 0, 1) := by decide +kernel
theorem dL_law_591 : decode cL_law 591 = .ok (.ireturn, 1) := by decide +kernel
theorem dL_law_592 : decode cL_law 592 = .ok (.aload_n 1, 1) := by decide +kernel
theorem dL_law_593 : decode cL_law 593 = .ok (.aload_n 0, 1) := by decide +kernel
theorem dL_law_594 : decode cL_law 594 = .ok (.iload_n 3, 1) := by decide +kernel
theorem dL_law_595 : decode cL_law 595 = .ok (.iconst 1, 1) := by decide +kernel
theorem dL_law_596 : decode cL_law 596 = .ok (.iadd, 1) := by decide +kernel
theorem dL_law_597 : decode cL_law 597 = .ok (.iaload, 1) := by decide +kernel
theorem dL_law_598 : decode cL_law 598 = .ok (.invokevirtual 74, 3) := by decide +kernel
theorem dL_law_601 : decode cL_law 601 = .ok (.aload_n 2, 1) := by decide +kernel
theorem dL_law_602 : decode cL_law 602 = .ok (.aload_n 0, 1) := by decide +kernel
theorem dL_law_603 : decode cL_law 603 = .ok (.iload_n 3, 1) := by decide +kernel
theorem dL_law_604 : decode cL_law 604 = .ok (.iconst 1, 1) := by decide +kernel
theorem dL_law_605 : decode cL_law 605 = .ok (.iadd, 1) := by decide +kernel
theorem dL_law_606 : decode cL_law 606 = .ok (.iaload, 1) := by decide +kernel
theorem dL_law_607 : decode cL_law 607 = .ok (.invokevirtual 77, 3) := by decide +kernel
theorem dL_law_610 : decode cL_law 610 = .ok (.lcmp, 1) := by decide +kernel
theorem dL_law_611 : decode cL_law 611 = .ok (.ifCond .eq 120, 3) := by decide +kernel
theorem dL_law_614 : decode cL_law 614 = .ok (.iconst 0, 1) := by decide +kernel
theorem dL_law_615 : decode cL_law 615 = .ok (.ireturn, 1) := by decide +kernel
theorem dL_law_616 : decode cL_law 616 = .ok (.aload_n 1, 1) := by decide +kernel
theorem dL_law_617 : decode cL_law 617 = .ok (.aload_n 0, 1) := by decide +kernel
theorem dL_law_618 : decode cL_law 618 = .ok (.iload_n 3, 1) := by decide +kernel
theorem dL_law_619 : decode cL_law 619 = .ok (.iconst 1, 1) := by decide +kernel
theorem dL_law_620 : decode cL_law 620 = .ok (.iadd, 1) := by decide +kernel
theorem dL_law_621 : decode cL_law 621 = .ok (.iaload, 1) := by decide +kernel
theorem dL_law_622 : decode cL_law 622 = .ok (.aload_n 0, 1) := by decide +kernel
theorem dL_law_623 : decode cL_law 623 = .ok (.iload_n 3, 1) := by decide +kernel
theorem dL_law_624 : decode cL_law 624 = .ok (.iconst 2, 1) := by decide +kernel
theorem dL_law_625 : decode cL_law 625 = .ok (.iadd, 1) := by decide +kernel
theorem dL_law_626 : decode cL_law 626 = .ok (.iaload, 1) := by decide +kernel
theorem dL_law_627 : decode cL_law 627 = .ok (.invokevirtual 78, 3) := by decide +kernel
theorem dL_law_630 : decode cL_law 630 = .ok (.aload_n 2, 1) := by decide +kernel
theorem dL_law_631 : decode cL_law 631 = .ok (.aload_n 0, 1) := by decide +kernel
theorem dL_law_632 : decode cL_law 632 = .ok (.iload_n 3, 1) := by decide +kernel
theorem dL_law_633 : decode cL_law 633 = .ok (.iconst 1, 1) := by decide +kernel
theorem dL_law_634 : decode cL_law 634 = .ok (.iadd, 1) := by decide +kernel
theorem dL_law_635 : decode cL_law 635 = .ok (.iaload, 1) := by decide +kernel
theorem dL_law_636 : decode cL_law 636 = .ok (.aload_n 0, 1) := by decide +kernel
theorem dL_law_637 : decode cL_law 637 = .ok (.iload_n 3, 1) := by decide +kernel
theorem dL_law_638 : decode cL_law 638 = .ok (.iconst 2, 1) := by decide +kernel
theorem dL_law_639 : decode cL_law 639 = .ok (.iadd, 1) := by decide +kernel
theorem dL_law_640 : decode cL_law 640 = .ok (.iaload, 1) := by decide +kernel
theorem dL_law_641 : decode cL_law 641 = .ok (.invokevirtual 81, 3) := by decide +kernel
theorem dL_law_644 : decode cL_law 644 = .ok (.if_icmp .eq 87, 3) := by decide +kernel
theorem dL_law_647 : decode cL_law 647 = .ok (.iconst 0, 1) := by decide +kernel
theorem dL_law_648 : decode cL_law 648 = .ok (.ireturn, 1) := by decide +kernel
theorem dL_law_649 : decode cL_law 649 = .ok (.aload_n 1, 1) := by decide +kernel
theorem dL_law_650 : decode cL_law 650 = .ok (.aload_n 0, 1) := by decide +kernel
theorem dL_law_651 : decode cL_law 651 = .ok (.iload_n 3, 1) := by decide +kernel
theorem dL_law_652 : decode cL_law 652 = .ok (.iconst 1, 1) := by decide +kernel
theorem dL_law_653 : decode cL_law 653 = .ok (.iadd, 1) := by decide +kernel
theorem dL_law_654 : decode cL_law 654 = .ok (.iaload, 1) := by decide +kernel
theorem dL_law_655 : decode cL_law 655 = .ok (.invokevirtual 82, 3) := by decide +kernel
theorem dL_law_658 : decode cL_law 658 = .ok (.aload_n 2, 1) := by decide +kernel
theorem dL_law_659 : decode cL_law 659 = .ok (.aload_n 0, 1) := by decide +kernel
theorem dL_law_660 : decode cL_law 660 = .ok (.iload_n 3, 1) := by decide +kernel
theorem dL_law_661 : decode cL_law 661 = .ok (.iconst 1, 1) := by decide +kernel
theorem dL_law_662 : decode cL_law 662 = .ok (.iadd, 1) := by decide +kernel
theorem dL_law_663 : decode cL_law 663 = .ok (.iaload, 1) := by decide +kernel
theorem dL_law_664 : decode cL_law 664 = .ok (.invokevirtual 85, 3) := by decide +kernel
theorem dL_law_667 : decode cL_law 667 = .ok (.if_icmp .eq 64, 3) := by decide +kernel
theorem dL_law_670 : decode cL_law 670 = .ok (.iconst 0, 1) := by decide +kernel
theorem dL_law_671 : decode cL_law 671 = .ok (.ireturn, 1) := by decide +kernel
theorem dL_law_672 : decode cL_law 672 = .ok (.aload_n 1, 1) := by decide +kernel
theorem dL_law_673 : decode cL_law 673 = .ok (.aload_n 0, 1) := by decide +kernel
theorem dL_law_674 : decode cL_law 674 = .ok (.iload_n 3, 1) := by decide +kernel
theorem dL_law_675 : decode cL_law 675 = .ok (.iconst 1, 1) := by decide +kernel
theorem dL_law_676 : decode cL_law 676 = .ok (.iadd, 1) := by decide +kernel
theorem dL_law_677 : decode cL_law 677 = .ok (.iaload, 1) := by decide +kernel
theorem dL_law_678 : decode cL_law 678 = .ok (.invokevirtual 86, 3) := by decide +kernel
theorem dL_law_681 : decode cL_law 681 = .ok (.aload_n 2, 1) := by decide +kernel
theorem dL_law_682 : decode cL_law 682 = .ok (.aload_n 0, 1) := by decide +kernel
theorem dL_law_683 : decode cL_law 683 = .ok (.iload_n 3, 1) := by decide +kernel
theorem dL_law_684 : decode cL_law 684 = .ok (.iconst 1, 1) := by decide +kernel
theorem dL_law_685 : decode cL_law 685 = .ok (.iadd, 1) := by decide +kernel
theorem dL_law_686 : decode cL_law 686 = .ok (.iaload, 1) := by decide +kernel
theorem dL_law_687 : decode cL_law 687 = .ok (.invokevirtual 89, 3) := by decide +kernel
theorem dL_law_690 : decode cL_law 690 = .ok (.if_icmp .eq 41, 3) := by decide +kernel
theorem dL_law_693 : decode cL_law 693 = .ok (.iconst 0, 1) := by decide +kernel
theorem dL_law_694 : decode cL_law 694 = .ok (.ireturn, 1) := by decide +kernel
theorem dL_law_695 : decode cL_law 695 = .ok (.aload_n 1, 1) := by decide +kernel
theorem dL_law_696 : decode cL_law 696 = .ok (.invokevirtual 90, 3) := by decide +kernel
theorem dL_law_699 : decode cL_law 699 = .ok (.aload_n 2, 1) := by decide +kernel
theorem dL_law_700 : decode cL_law 700 = .ok (.invokevirtual 94, 3) := by decide +kernel
theorem dL_law_703 : decode cL_law 703 = .ok (.if_icmp .eq 28, 3) := by decide +kernel
theorem dL_law_706 : decode cL_law 706 = .ok (.iconst 0, 1) := by decide +kernel
theorem dL_law_707 : decode cL_law 707 = .ok (.ireturn, 1) := by decide +kernel
theorem dL_law_708 : decode cL_law 708 = .ok (.aload_n 1, 1) := by decide +kernel
theorem dL_law_709 : decode cL_law 709 = .ok (.aload_n 0, 1) := by decide +kernel
theorem dL_law_710 : decode cL_law 710 = .ok (.iload_n 3, 1) := by decide +kernel
theorem dL_law_711 : decode cL_law 711 = .ok (.iconst 1, 1) := by decide +kernel
theorem dL_law_712 : decode cL_law 712 = .ok (.iadd, 1) := by decide +kernel
theorem dL_law_713 : decode cL_law 713 = .ok (.iaload, 1) := by decide +kernel
theorem dL_law_714 : decode cL_law 714 = .ok (.invokevirtual 95, 3) := by decide +kernel
theorem dL_law_717 : decode cL_law 717 = .ok (.aload_n 2, 1) := by decide +kernel
theorem dL_law_718 : decode cL_law 718 = .ok (.aload_n 0, 1) := by decide +kernel
theorem dL_law_719 : decode cL_law 719 = .ok (.iload_n 3, 1) := by decide +kernel
theorem dL_law_720 : decode cL_law 720 = .ok (.iconst 1, 1) := by decide +kernel
theorem dL_law_721 : decode cL_law 721 = .ok (.iadd, 1) := by decide +kernel
theorem dL_law_722 : decode cL_law 722 = .ok (.iaload, 1) := by decide +kernel
theorem dL_law_723 : decode cL_law 723 = .ok (.invokevirtual 98, 3) := by decide +kernel
theorem dL_law_726 : decode cL_law 726 = .ok (.if_icmp .eq 5, 3) := by decide +kernel
theorem dL_law_729 : decode cL_law 729 = .ok (.iconst 0, 1) := by decide +kernel
theorem dL_law_730 : decode cL_law 730 = .ok (.ireturn, 1) := by decide +kernel
theorem dL_law_731 : decode cL_law 731 = .ok (.iinc 3 4, 3) := by decide +kernel
theorem dL_law_734 : decode cL_law 734 = .ok (.goto (-716), 3) := by decide +kernel
theorem dL_law_737 : decode cL_law 737 = .ok (.iconst 1, 1) := by decide +kernel
theorem dL_law_738 : decode cL_law 738 = .ok (.ireturn, 1) := by decide +kernel
end
section
set_option maxRecDepth 20000 in
theorem ggX0_tally_X0_goesAs : GoodIn wsX0_tally wsX0_goesAs := goodIn_r _ [6, 7, 10, 11, 12, 13, 14, 15, 16, 17, 18] (by decide +kernel) (by decide +kernel)
set_option maxRecDepth 20000 in
theorem gX0_tally_X0_goesAs_u18X1 : GoodIn wsX0_tally (va_wsU RX0 18 RX1 "CustomsYard$Load" ⟨"CustomsYard$Load", "goesAs", "(I)Z"⟩ yX0_goesAs wsX0_goesAs) := goodIn_app (goodIn_of _ (by decide +kernel)) ggX0_tally_X0_goesAs
set_option maxRecDepth 20000 in
theorem gX0_tally_X0_goesAs_u18X2 : GoodIn wsX0_tally (va_wsU RX0 18 RX2 "CustomsYard$Load" ⟨"CustomsYard$Load", "goesAs", "(I)Z"⟩ yX0_goesAs wsX0_goesAs) := goodIn_app (goodIn_of _ (by decide +kernel)) ggX0_tally_X0_goesAs
set_option maxRecDepth 20000 in
theorem gX0_tally_X0_goesAs_u18X3 : GoodIn wsX0_tally (va_wsU RX0 18 RX3 "CustomsYard$Load" ⟨"CustomsYard$Load", "goesAs", "(I)Z"⟩ yX0_goesAs wsX0_goesAs) := goodIn_app (goodIn_of _ (by decide +kernel)) ggX0_tally_X0_goesAs
set_option maxRecDepth 20000 in
theorem ggX1_init_X0_init : GoodIn wsX1_init wsX0_init := goodIn_r _ [5, 6, 7, 8, 9, 10, 11, 12, 13, 14, 15, 16, 17, 18, 19] (by decide +kernel) (by decide +kernel)
set_option maxRecDepth 20000 in
theorem gX1_init_X0_init : GoodIn wsX1_init (wsX0_init) := ggX1_init_X0_init
set_option maxRecDepth 20000 in
theorem ggX2_init_X0_init : GoodIn wsX2_init wsX0_init := goodIn_r _ [5, 6, 7, 8, 9, 10, 14, 15, 16, 11, 12, 13, 17, 18, 19] (by decide +kernel) (by decide +kernel)
set_option maxRecDepth 20000 in
theorem gX2_init_X0_init : GoodIn wsX2_init (wsX0_init) := ggX2_init_X0_init
set_option maxRecDepth 20000 in
theorem ggX2_comesAs_X2_declaration : GoodIn wsX2_comesAs wsX2_declaration := goodIn_r _ [6, 7, 8, 1, 12, 13, 14, 9, 10, 11, 15, 16, 17] (by decide +kernel) (by decide +kernel)
set_option maxRecDepth 20000 in
theorem gX2_comesAs_X2_declaration : GoodIn wsX2_comesAs (wsV RX2 15 RX2 yX2_declaration wsX2_declaration) := goodIn_app (goodIn_of _ (by decide +kernel)) ggX2_comesAs_X2_declaration
set_option maxRecDepth 20000 in
theorem ggX3_init_X0_init : GoodIn wsX3_init wsX0_init := goodIn_r _ [5, 6, 7, 8, 9, 10, 14, 15, 16, 17, 18, 19, 11, 12, 13] (by decide +kernel) (by decide +kernel)
set_option maxRecDepth 20000 in
theorem gX3_init_X0_init : GoodIn wsX3_init (wsX0_init) := ggX3_init_X0_init
set_option maxRecDepth 20000 in
theorem ggX3_viewKept_X3_viewAsked : GoodIn wsX3_viewKept wsX3_viewAsked := goodIn_r _ [7, 1, 2, 8, 9, 10, 11, 12, 13, 14, 15, 16] (by decide +kernel) (by decide +kernel)
set_option maxRecDepth 20000 in
theorem gX3_viewKept_X3_viewAsked : GoodIn wsX3_viewKept (wsV RX3 19 RX3 yX3_viewAsked wsX3_viewAsked) := goodIn_app (goodIn_of _ (by decide +kernel)) ggX3_viewKept_X3_viewAsked
set_option maxRecDepth 20000 in
theorem ggX3_weigh_X1_weigh : GoodIn wsX3_weigh wsX1_weigh := goodIn_r _ [7, 8, 20, 21, 22] (by decide +kernel) (by decide +kernel)
set_option maxRecDepth 20000 in
theorem gX3_weigh_X1_weigh_u23X1 : GoodIn wsX3_weigh (va_wsU RX3 23 RX1 "CustomsYard$Load" ⟨"CustomsYard$Load", "weigh", "(I)J"⟩ yX1_weigh wsX1_weigh) := goodIn_app (goodIn_of _ (by decide +kernel)) ggX3_weigh_X1_weigh
set_option maxRecDepth 20000 in
theorem ggX3_weigh_X2_weigh : GoodIn wsX3_weigh wsX2_weigh := goodIn_r _ [12, 13, 23, 24, 25] (by decide +kernel) (by decide +kernel)
set_option maxRecDepth 20000 in
theorem gX3_weigh_X2_weigh_u23X2 : GoodIn wsX3_weigh (va_wsU RX3 23 RX2 "CustomsYard$Load" ⟨"CustomsYard$Load", "weigh", "(I)J"⟩ yX2_weigh wsX2_weigh) := goodIn_app (goodIn_of _ (by decide +kernel)) ggX3_weigh_X2_weigh
set_option maxRecDepth 20000 in
theorem ggX3_weigh_X3_weigh : GoodIn wsX3_weigh wsX3_weigh := goodIn_r _ [0, 1, 2, 3, 4, 5, 6, 7, 8, 9, 10, 11, 12, 13, 14, 15, 16, 17, 18, 19, 20, 21, 22, 23, 24, 25] (by decide +kernel) (by decide +kernel)
set_option maxRecDepth 20000 in
theorem gX3_weigh_X3_weigh_u23X3 : GoodIn wsX3_weigh (va_wsU RX3 23 RX3 "CustomsYard$Load" ⟨"CustomsYard$Load", "weigh", "(I)J"⟩ yX3_weigh wsX3_weigh) := goodIn_app (goodIn_of _ (by decide +kernel)) ggX3_weigh_X3_weigh
set_option maxRecDepth 20000 in
theorem ggX3_tally_X0_goesAs : GoodIn wsX3_tally wsX0_goesAs := goodIn_r _ [7, 8, 27, 28, 29, 30, 31, 32, 24, 25, 26] (by decide +kernel) (by decide +kernel)
set_option maxRecDepth 20000 in
theorem gX3_tally_X0_goesAs_u27X3 : GoodIn wsX3_tally (va_wsU RX3 27 RX3 "CustomsYard$Load" ⟨"CustomsYard$Things", "goesAs", "(I)Z"⟩ yX0_goesAs wsX0_goesAs) := goodIn_app (goodIn_of _ (by decide +kernel)) ggX3_tally_X0_goesAs
set_option maxRecDepth 20000 in
theorem ggX3_tally_X0_tally : GoodIn wsX3_tally wsX0_tally := goodIn_r _ [13, 14, 15, 16, 5, 6, 7, 8, 17, 18, 27, 28, 29, 30, 31, 32, 24, 25, 26] (by decide +kernel) (by decide +kernel)
set_option maxRecDepth 20000 in
theorem gX3_tally_X0_tally_u31X1 : GoodIn wsX3_tally (va_wsU RX3 31 RX1 "CustomsYard$Load" ⟨"CustomsYard$Load", "tally", "(II)I"⟩ yX0_tally wsX0_tally) := goodIn_app (goodIn_of _ (by decide +kernel)) ggX3_tally_X0_tally
set_option maxRecDepth 20000 in
theorem gX3_tally_X0_tally_u31X2 : GoodIn wsX3_tally (va_wsU RX3 31 RX2 "CustomsYard$Load" ⟨"CustomsYard$Load", "tally", "(II)I"⟩ yX0_tally wsX0_tally) := goodIn_app (goodIn_of _ (by decide +kernel)) ggX3_tally_X0_tally
set_option maxRecDepth 20000 in
theorem ggX3_tally_X3_tally : GoodIn wsX3_tally wsX3_tally := goodIn_r _ [0, 1, 2, 3, 4, 5, 6, 7, 8, 9, 10, 11, 12, 13, 14, 15, 16, 17, 18, 19, 20, 21, 22, 23, 24, 25, 26, 27, 28, 29, 30, 31, 32] (by decide +kernel) (by decide +kernel)
set_option maxRecDepth 20000 in
theorem gX3_tally_X3_tally_u31X3 : GoodIn wsX3_tally (va_wsO RX3 31 RX3 "CustomsYard$Load" ⟨"CustomsYard$Load", "tally", "(II)I"⟩ yX3_tally wsX3_tally) := goodIn_app (goodIn_of _ (by decide +kernel)) ggX3_tally_X3_tally
set_option maxRecDepth 20000 in
theorem ggX4_init_J7_fill_53178 : GoodIn wsX4_init wsJ7_fill_53178 := goodIn_r _ [16] (by decide +kernel) (by decide +kernel)
set_option maxRecDepth 20000 in
theorem gX4_init_J7_fill_53178 : GoodIn wsX4_init (va_wsS RX4 32 yJ7_fill_53178 wsJ7_fill_53178) := goodIn_app (goodIn_of _ (by decide +kernel)) ggX4_init_J7_fill_53178
set_option maxRecDepth 20000 in
theorem ggX4_load_X4_mostOf : GoodIn wsX4_load wsX4_mostOf := goodIn_r _ [7, 8, 9, 6, 10] (by decide +kernel) (by decide +kernel)
set_option maxRecDepth 20000 in
theorem gX4_load_X4_mostOf : GoodIn wsX4_load (va_wsS RX4 42 yX4_mostOf wsX4_mostOf) := goodIn_app (goodIn_of _ (by decide +kernel)) ggX4_load_X4_mostOf
set_option maxRecDepth 20000 in
theorem ggX4_load_X4_refuse : GoodIn wsX4_load wsX4_refuse := goodIn_r _ [14, 1, 15, 16, 17, 55, 56, 57, 58, 59, 60, 61, 62, 63, 64, 65, 66, 67] (by decide +kernel) (by decide +kernel)
set_option maxRecDepth 20000 in
theorem gX4_load_X4_refuse : GoodIn wsX4_load (wsV RX4 46 RX4 yX4_refuse wsX4_refuse) := goodIn_app (goodIn_of _ (by decide +kernel)) ggX4_load_X4_refuse
set_option maxRecDepth 20000 in
theorem ggX4_load_X4_makeLoad : GoodIn wsX4_load wsX4_makeLoad := goodIn_r _ [20, 21, 22, 23, 24, 25, 26, 27, 28, 29, 30, 31, 8, 9, 6, 10, 32, 33, 34, 35, 36, 37, 38, 39, 40, 41, 42, 43, 44, 45, 46, 47, 48, 49, 50, 51, 52, 53, 54, 68, 69, 70, 71, 72, 73, 74, 75, 76] (by decide +kernel) (by decide +kernel)
set_option maxRecDepth 20000 in
theorem gX4_load_X4_makeLoad : GoodIn wsX4_load (va_wsS RX4 52 yX4_makeLoad wsX4_makeLoad) := goodIn_app (goodIn_of _ (by decide +kernel)) ggX4_load_X4_makeLoad
set_option maxRecDepth 20000 in
theorem ggX4_set_X4_numbersWith : GoodIn wsX4_set wsX4_numbersWith := goodIn_r _ [9, 10, 11, 12, 13, 8, 14, 15, 16, 17, 18, 19, 1, 20, 21, 22, 23, 24, 25, 26, 27, 28, 29, 30, 31, 32, 33, 34, 35, 36, 37, 38, 39, 40, 41, 42, 43, 44] (by decide +kernel) (by decide +kernel)
set_option maxRecDepth 20000 in
theorem gX4_set_X4_numbersWith : GoodIn wsX4_set (wsV RX4 56 RX4 yX4_numbersWith wsX4_numbersWith) := goodIn_app (goodIn_of _ (by decide +kernel)) ggX4_set_X4_numbersWith
set_option maxRecDepth 20000 in
theorem ggX4_number_X4_numbersWith : GoodIn wsX4_number wsX4_numbersWith := goodIn_r _ [7, 8, 9, 10, 11, 6, 12, 13, 14, 15, 16, 17, 1, 18, 19, 20, 21, 22, 23, 24, 25, 26, 27, 28, 29, 30, 31, 32, 33, 34, 35, 36, 37, 38, 39, 40, 41, 42] (by decide +kernel) (by decide +kernel)
set_option maxRecDepth 20000 in
theorem gX4_number_X4_numbersWith : GoodIn wsX4_number (wsV RX4 56 RX4 yX4_numbersWith wsX4_numbersWith) := goodIn_app (goodIn_of _ (by decide +kernel)) ggX4_number_X4_numbersWith
set_option maxRecDepth 20000 in
theorem ggX4_put_X4_find : GoodIn wsX4_put wsX4_find := goodIn_r _ [8, 9, 43, 44, 45, 46, 47, 48, 49, 50, 51, 52, 53, 54, 55] (by decide +kernel) (by decide +kernel)
set_option maxRecDepth 20000 in
theorem gX4_put_X4_find : GoodIn wsX4_put (wsV RX4 68 RX4 yX4_find wsX4_find) := goodIn_app (goodIn_of _ (by decide +kernel)) ggX4_put_X4_find
set_option maxRecDepth 20000 in
theorem ggX4_put_X4_refuse : GoodIn wsX4_put wsX4_refuse := goodIn_r _ [13, 1, 14, 15, 16, 43, 44, 45, 46, 47, 48, 49, 50, 51, 52, 53, 54, 55] (by decide +kernel) (by decide +kernel)
set_option maxRecDepth 20000 in
theorem gX4_put_X4_refuse : GoodIn wsX4_put (wsV RX4 46 RX4 yX4_refuse wsX4_refuse) := goodIn_app (goodIn_of _ (by decide +kernel)) ggX4_put_X4_refuse
set_option maxRecDepth 20000 in
theorem ggX4_put_X3_viewAsked : GoodIn wsX4_put wsX3_viewAsked := goodIn_r _ [21, 22, 23, 59, 60, 61, 62, 63, 64, 56, 57, 58] (by decide +kernel) (by decide +kernel)
set_option maxRecDepth 20000 in
theorem gX4_put_X3_viewAsked : GoodIn wsX4_put (wsV RX4 74 RX3 yX3_viewAsked wsX3_viewAsked) := goodIn_app (goodIn_of _ (by decide +kernel)) ggX4_put_X3_viewAsked
set_option maxRecDepth 20000 in
theorem ggX4_put_X0_goesAs : GoodIn wsX4_put wsX0_goesAs := goodIn_r _ [29, 30, 59, 60, 61, 62, 63, 64, 56, 57, 58] (by decide +kernel) (by decide +kernel)
set_option maxRecDepth 20000 in
theorem gX4_put_X0_goesAs_u78X1 : GoodIn wsX4_put (va_wsU RX4 78 RX1 "CustomsYard$Load" ⟨"CustomsYard$Load", "goesAs", "(I)Z"⟩ yX0_goesAs wsX0_goesAs) := goodIn_app (goodIn_of _ (by decide +kernel)) ggX4_put_X0_goesAs
set_option maxRecDepth 20000 in
theorem gX4_put_X0_goesAs_u78X2 : GoodIn wsX4_put (va_wsU RX4 78 RX2 "CustomsYard$Load" ⟨"CustomsYard$Load", "goesAs", "(I)Z"⟩ yX0_goesAs wsX0_goesAs) := goodIn_app (goodIn_of _ (by decide +kernel)) ggX4_put_X0_goesAs
set_option maxRecDepth 20000 in
theorem gX4_put_X0_goesAs_u78X3 : GoodIn wsX4_put (va_wsU RX4 78 RX3 "CustomsYard$Load" ⟨"CustomsYard$Load", "goesAs", "(I)Z"⟩ yX0_goesAs wsX0_goesAs) := goodIn_app (goodIn_of _ (by decide +kernel)) ggX4_put_X0_goesAs
set_option maxRecDepth 20000 in
theorem ggX4_put_X3_hasPlace : GoodIn wsX4_put wsX3_hasPlace := goodIn_r _ [36, 37, 56, 57, 58] (by decide +kernel) (by decide +kernel)
set_option maxRecDepth 20000 in
theorem gX4_put_X3_hasPlace : GoodIn wsX4_put (wsV RX4 82 RX3 yX3_hasPlace wsX3_hasPlace) := goodIn_app (goodIn_of _ (by decide +kernel)) ggX4_put_X3_hasPlace
set_option maxRecDepth 20000 in
theorem ggX4_put_X3_viewKept : GoodIn wsX4_put wsX3_viewKept := goodIn_r _ [41, 22, 23, 42, 18, 19, 20, 21, 59, 60, 61, 62, 63, 64, 56, 57, 58] (by decide +kernel) (by decide +kernel)
set_option maxRecDepth 20000 in
theorem gX4_put_X3_viewKept : GoodIn wsX4_put (wsV RX4 85 RX3 yX3_viewKept wsX3_viewKept) := goodIn_app (goodIn_of _ (by decide +kernel)) ggX4_put_X3_viewKept
set_option maxRecDepth 20000 in
theorem ggX4_at_X4_find : GoodIn wsX4_at wsX4_find := goodIn_r _ [8, 9, 27, 28, 29, 30, 31, 32, 33, 34, 35, 36, 37, 38, 39] (by decide +kernel) (by decide +kernel)
set_option maxRecDepth 20000 in
theorem gX4_at_X4_find : GoodIn wsX4_at (wsV RX4 68 RX4 yX4_find wsX4_find) := goodIn_app (goodIn_of _ (by decide +kernel)) ggX4_at_X4_find
set_option maxRecDepth 20000 in
theorem ggX4_at_X4_refuse : GoodIn wsX4_at wsX4_refuse := goodIn_r _ [13, 1, 14, 15, 16, 27, 28, 29, 30, 31, 32, 33, 34, 35, 36, 37, 38, 39] (by decide +kernel) (by decide +kernel)
set_option maxRecDepth 20000 in
theorem gX4_at_X4_refuse : GoodIn wsX4_at (wsV RX4 46 RX4 yX4_refuse wsX4_refuse) := goodIn_app (goodIn_of _ (by decide +kernel)) ggX4_at_X4_refuse
set_option maxRecDepth 20000 in
theorem ggX4_at_X3_hasPlace : GoodIn wsX4_at wsX3_hasPlace := goodIn_r _ [21, 22, 40, 41, 42] (by decide +kernel) (by decide +kernel)
set_option maxRecDepth 20000 in
theorem gX4_at_X3_hasPlace : GoodIn wsX4_at (wsV RX4 82 RX3 yX3_hasPlace wsX3_hasPlace) := goodIn_app (goodIn_of _ (by decide +kernel)) ggX4_at_X3_hasPlace
set_option maxRecDepth 20000 in
theorem ggX4_at_X4_numberOf : GoodIn wsX4_at wsX4_numberOf := goodIn_r _ [25, 26, 43, 44, 45, 46, 47, 48, 40, 41, 42] (by decide +kernel) (by decide +kernel)
set_option maxRecDepth 20000 in
theorem gX4_at_X4_numberOf : GoodIn wsX4_at (va_wsS RX4 90 yX4_numberOf wsX4_numberOf) := goodIn_app (goodIn_of _ (by decide +kernel)) ggX4_at_X4_numberOf
set_option maxRecDepth 20000 in
theorem ggX4_is_X4_find : GoodIn wsX4_is wsX4_find := goodIn_r _ [6, 7, 27, 28, 29, 30, 31, 32, 33, 34, 35, 36, 37, 38, 39] (by decide +kernel) (by decide +kernel)
set_option maxRecDepth 20000 in
theorem gX4_is_X4_find : GoodIn wsX4_is (wsV RX4 68 RX4 yX4_find wsX4_find) := goodIn_app (goodIn_of _ (by decide +kernel)) ggX4_is_X4_find
set_option maxRecDepth 20000 in
theorem ggX4_is_X4_isView : GoodIn wsX4_is wsX4_isView := goodIn_r _ [10] (by decide +kernel) (by decide +kernel)
set_option maxRecDepth 20000 in
theorem gX4_is_X4_isView : GoodIn wsX4_is (va_wsS RX4 94 yX4_isView wsX4_isView) := goodIn_app (goodIn_of _ (by decide +kernel)) ggX4_is_X4_isView
set_option maxRecDepth 20000 in
theorem ggX4_is_X4_refuse : GoodIn wsX4_is wsX4_refuse := goodIn_r _ [14, 1, 15, 16, 17, 27, 28, 29, 30, 31, 32, 33, 34, 35, 36, 37, 38, 39] (by decide +kernel) (by decide +kernel)
set_option maxRecDepth 20000 in
theorem gX4_is_X4_refuse : GoodIn wsX4_is (wsV RX4 46 RX4 yX4_refuse wsX4_refuse) := goodIn_app (goodIn_of _ (by decide +kernel)) ggX4_is_X4_refuse
set_option maxRecDepth 20000 in
theorem ggX4_is_X0_goesAs : GoodIn wsX4_is wsX0_goesAs := goodIn_r _ [23, 24, 40, 41, 42, 43, 44, 45, 46, 47, 48] (by decide +kernel) (by decide +kernel)
set_option maxRecDepth 20000 in
theorem gX4_is_X0_goesAs_u78X1 : GoodIn wsX4_is (va_wsU RX4 78 RX1 "CustomsYard$Load" ⟨"CustomsYard$Load", "goesAs", "(I)Z"⟩ yX0_goesAs wsX0_goesAs) := goodIn_app (goodIn_of _ (by decide +kernel)) ggX4_is_X0_goesAs
set_option maxRecDepth 20000 in
theorem gX4_is_X0_goesAs_u78X2 : GoodIn wsX4_is (va_wsU RX4 78 RX2 "CustomsYard$Load" ⟨"CustomsYard$Load", "goesAs", "(I)Z"⟩ yX0_goesAs wsX0_goesAs) := goodIn_app (goodIn_of _ (by decide +kernel)) ggX4_is_X0_goesAs
set_option maxRecDepth 20000 in
theorem gX4_is_X0_goesAs_u78X3 : GoodIn wsX4_is (va_wsU RX4 78 RX3 "CustomsYard$Load" ⟨"CustomsYard$Load", "goesAs", "(I)Z"⟩ yX0_goesAs wsX0_goesAs) := goodIn_app (goodIn_of _ (by decide +kernel)) ggX4_is_X0_goesAs
set_option maxRecDepth 20000 in
theorem ggX4_take_X4_find : GoodIn wsX4_take wsX4_find := goodIn_r _ [6, 7, 54, 55, 56, 57, 58, 59, 60, 61, 62, 63, 64, 65, 66] (by decide +kernel) (by decide +kernel)
set_option maxRecDepth 20000 in
theorem gX4_take_X4_find : GoodIn wsX4_take (wsV RX4 68 RX4 yX4_find wsX4_find) := goodIn_app (goodIn_of _ (by decide +kernel)) ggX4_take_X4_find
set_option maxRecDepth 20000 in
theorem ggX4_take_X4_isView : GoodIn wsX4_take wsX4_isView := goodIn_r _ [10] (by decide +kernel) (by decide +kernel)
set_option maxRecDepth 20000 in
theorem gX4_take_X4_isView : GoodIn wsX4_take (va_wsS RX4 94 yX4_isView wsX4_isView) := goodIn_app (goodIn_of _ (by decide +kernel)) ggX4_take_X4_isView
set_option maxRecDepth 20000 in
theorem ggX4_take_X4_refuse : GoodIn wsX4_take wsX4_refuse := goodIn_r _ [14, 1, 15, 16, 17, 54, 55, 56, 57, 58, 59, 60, 61, 62, 63, 64, 65, 66] (by decide +kernel) (by decide +kernel)
set_option maxRecDepth 20000 in
theorem gX4_take_X4_refuse : GoodIn wsX4_take (wsV RX4 46 RX4 yX4_refuse wsX4_refuse) := goodIn_app (goodIn_of _ (by decide +kernel)) ggX4_take_X4_refuse
set_option maxRecDepth 20000 in
theorem ggX4_take_X4_takeAs : GoodIn wsX4_take wsX4_takeAs := goodIn_r _ [21, 22, 23, 24, 25, 26, 27, 28, 29, 30, 31, 32, 33, 34, 35, 36, 37, 38, 39, 40, 41, 42, 43, 44, 45, 46, 47, 48, 49, 50, 51, 52, 53, 11, 12, 13, 5, 14, 1, 15, 16, 17, 67, 68, 69, 70, 71, 72, 73, 74, 75, 54, 55, 56, 57, 58, 59, 60, 61, 62, 63, 64, 65, 66] (by decide +kernel) (by decide +kernel)
set_option maxRecDepth 20000 in
theorem gX4_take_X4_takeAs : GoodIn wsX4_take (wsV RX4 97 RX4 yX4_takeAs wsX4_takeAs) := goodIn_app (goodIn_of _ (by decide +kernel)) ggX4_take_X4_takeAs
set_option maxRecDepth 20000 in
theorem ggX4_sort_X4_find : GoodIn wsX4_sort wsX4_find := goodIn_r _ [7, 8, 16, 17, 18, 19, 20, 21, 22, 23, 24, 25, 26, 27, 28] (by decide +kernel) (by decide +kernel)
set_option maxRecDepth 20000 in
theorem gX4_sort_X4_find : GoodIn wsX4_sort (wsV RX4 68 RX4 yX4_find wsX4_find) := goodIn_app (goodIn_of _ (by decide +kernel)) ggX4_sort_X4_find
set_option maxRecDepth 20000 in
theorem ggX4_sort_X4_refuse : GoodIn wsX4_sort wsX4_refuse := goodIn_r _ [12, 1, 13, 14, 15, 16, 17, 18, 19, 20, 21, 22, 23, 24, 25, 26, 27, 28] (by decide +kernel) (by decide +kernel)
set_option maxRecDepth 20000 in
theorem gX4_sort_X4_refuse : GoodIn wsX4_sort (wsV RX4 46 RX4 yX4_refuse wsX4_refuse) := goodIn_app (goodIn_of _ (by decide +kernel)) ggX4_sort_X4_refuse
set_option maxRecDepth 20000 in
theorem ggX4_weight_X4_find : GoodIn wsX4_weight wsX4_find := goodIn_r _ [6, 7, 33, 34, 35, 36, 37, 38, 39, 40, 41, 42, 43, 44, 45] (by decide +kernel) (by decide +kernel)
set_option maxRecDepth 20000 in
theorem gX4_weight_X4_find : GoodIn wsX4_weight (wsV RX4 68 RX4 yX4_find wsX4_find) := goodIn_app (goodIn_of _ (by decide +kernel)) ggX4_weight_X4_find
set_option maxRecDepth 20000 in
theorem ggX4_weight_X4_refuse : GoodIn wsX4_weight wsX4_refuse := goodIn_r _ [11, 1, 12, 13, 14, 33, 34, 35, 36, 37, 38, 39, 40, 41, 42, 43, 44, 45] (by decide +kernel) (by decide +kernel)
set_option maxRecDepth 20000 in
theorem gX4_weight_X4_refuse : GoodIn wsX4_weight (wsV RX4 46 RX4 yX4_refuse wsX4_refuse) := goodIn_app (goodIn_of _ (by decide +kernel)) ggX4_weight_X4_refuse
set_option maxRecDepth 20000 in
theorem ggX4_weight_X1_weigh : GoodIn wsX4_weight wsX1_weigh := goodIn_r _ [20, 21, 46, 47, 48] (by decide +kernel) (by decide +kernel)
set_option maxRecDepth 20000 in
theorem gX4_weight_X1_weigh_u102X1 : GoodIn wsX4_weight (va_wsU RX4 102 RX1 "CustomsYard$Load" ⟨"CustomsYard$Load", "weigh", "(I)J"⟩ yX1_weigh wsX1_weigh) := goodIn_app (goodIn_of _ (by decide +kernel)) ggX4_weight_X1_weigh
set_option maxRecDepth 20000 in
theorem ggX4_weight_X2_weigh : GoodIn wsX4_weight wsX2_weigh := goodIn_r _ [25, 26, 49, 50, 51] (by decide +kernel) (by decide +kernel)
set_option maxRecDepth 20000 in
theorem gX4_weight_X2_weigh_u102X2 : GoodIn wsX4_weight (va_wsU RX4 102 RX2 "CustomsYard$Load" ⟨"CustomsYard$Load", "weigh", "(I)J"⟩ yX2_weigh wsX2_weigh) := goodIn_app (goodIn_of _ (by decide +kernel)) ggX4_weight_X2_weigh
set_option maxRecDepth 20000 in
theorem ggX4_weight_X3_weigh : GoodIn wsX4_weight wsX3_weigh := goodIn_r _ [30, 31, 32, 16, 17, 18, 19, 20, 21, 22, 23, 24, 25, 26, 27, 28, 29, 52, 53, 54, 46, 47, 48, 49, 50, 51] (by decide +kernel) (by decide +kernel)
set_option maxRecDepth 20000 in
theorem gX4_weight_X3_weigh_u102X3 : GoodIn wsX4_weight (va_wsU RX4 102 RX3 "CustomsYard$Load" ⟨"CustomsYard$Load", "weigh", "(I)J"⟩ yX3_weigh wsX3_weigh) := goodIn_app (goodIn_of _ (by decide +kernel)) ggX4_weight_X3_weigh
set_option maxRecDepth 20000 in
theorem ggX4_inside_X4_find : GoodIn wsX4_inside wsX4_find := goodIn_r _ [6, 7, 43, 44, 45, 46, 47, 48, 49, 50, 51, 52, 53, 54, 55] (by decide +kernel) (by decide +kernel)
set_option maxRecDepth 20000 in
theorem gX4_inside_X4_find : GoodIn wsX4_inside (wsV RX4 68 RX4 yX4_find wsX4_find) := goodIn_app (goodIn_of _ (by decide +kernel)) ggX4_inside_X4_find
set_option maxRecDepth 20000 in
theorem ggX4_inside_X4_isView : GoodIn wsX4_inside wsX4_isView := goodIn_r _ [10] (by decide +kernel) (by decide +kernel)
set_option maxRecDepth 20000 in
theorem gX4_inside_X4_isView : GoodIn wsX4_inside (va_wsS RX4 94 yX4_isView wsX4_isView) := goodIn_app (goodIn_of _ (by decide +kernel)) ggX4_inside_X4_isView
set_option maxRecDepth 20000 in
theorem ggX4_inside_X4_refuse : GoodIn wsX4_inside wsX4_refuse := goodIn_r _ [14, 1, 15, 16, 17, 43, 44, 45, 46, 47, 48, 49, 50, 51, 52, 53, 54, 55] (by decide +kernel) (by decide +kernel)
set_option maxRecDepth 20000 in
theorem gX4_inside_X4_refuse : GoodIn wsX4_inside (wsV RX4 46 RX4 yX4_refuse wsX4_refuse) := goodIn_app (goodIn_of _ (by decide +kernel)) ggX4_inside_X4_refuse
set_option maxRecDepth 20000 in
theorem ggX4_inside_X0_tally : GoodIn wsX4_inside wsX0_tally := goodIn_r _ [23, 24, 25, 26, 27, 22, 28, 29, 30, 31, 56, 57, 58, 59, 60, 61, 62, 63, 64] (by decide +kernel) (by decide +kernel)
set_option maxRecDepth 20000 in
theorem gX4_inside_X0_tally_u106X1 : GoodIn wsX4_inside (va_wsU RX4 106 RX1 "CustomsYard$Load" ⟨"CustomsYard$Load", "tally", "(II)I"⟩ yX0_tally wsX0_tally) := goodIn_app (goodIn_of _ (by decide +kernel)) ggX4_inside_X0_tally
set_option maxRecDepth 20000 in
theorem gX4_inside_X0_tally_u106X2 : GoodIn wsX4_inside (va_wsU RX4 106 RX2 "CustomsYard$Load" ⟨"CustomsYard$Load", "tally", "(II)I"⟩ yX0_tally wsX0_tally) := goodIn_app (goodIn_of _ (by decide +kernel)) ggX4_inside_X0_tally
set_option maxRecDepth 20000 in
theorem ggX4_inside_X3_tally : GoodIn wsX4_inside wsX3_tally := goodIn_r _ [37, 38, 39, 40, 41, 27, 22, 28, 29, 42, 19, 20, 21, 23, 24, 25, 26, 30, 31, 32, 33, 34, 35, 36, 62, 63, 64, 56, 57, 58, 59, 60, 61] (by decide +kernel) (by decide +kernel)
set_option maxRecDepth 20000 in
theorem gX4_inside_X3_tally_u106X3 : GoodIn wsX4_inside (va_wsO RX4 106 RX3 "CustomsYard$Load" ⟨"CustomsYard$Load", "tally", "(II)I"⟩ yX3_tally wsX3_tally) := goodIn_app (goodIn_of _ (by decide +kernel)) ggX4_inside_X3_tally
set_option maxRecDepth 20000 in
theorem ggX4_hold_X4_find : GoodIn wsX4_hold wsX4_find := goodIn_r _ [7, 8, 23, 24, 25, 26, 27, 28, 29, 30, 31, 32, 33, 34, 35] (by decide +kernel) (by decide +kernel)
set_option maxRecDepth 20000 in
theorem gX4_hold_X4_find : GoodIn wsX4_hold (wsV RX4 68 RX4 yX4_find wsX4_find) := goodIn_app (goodIn_of _ (by decide +kernel)) ggX4_hold_X4_find
set_option maxRecDepth 20000 in
theorem ggX4_hold_X4_isBay : GoodIn wsX4_hold wsX4_isBay := goodIn_r _ [11] (by decide +kernel) (by decide +kernel)
set_option maxRecDepth 20000 in
theorem gX4_hold_X4_isBay : GoodIn wsX4_hold (va_wsS RX4 110 yX4_isBay wsX4_isBay) := goodIn_app (goodIn_of _ (by decide +kernel)) ggX4_hold_X4_isBay
set_option maxRecDepth 20000 in
theorem ggX4_hold_X4_refuse : GoodIn wsX4_hold wsX4_refuse := goodIn_r _ [15, 1, 16, 17, 18, 23, 24, 25, 26, 27, 28, 29, 30, 31, 32, 33, 34, 35] (by decide +kernel) (by decide +kernel)
set_option maxRecDepth 20000 in
theorem gX4_hold_X4_refuse : GoodIn wsX4_hold (wsV RX4 46 RX4 yX4_refuse wsX4_refuse) := goodIn_app (goodIn_of _ (by decide +kernel)) ggX4_hold_X4_refuse
set_option maxRecDepth 20000 in
theorem ggX4_hold_X4_numberOf : GoodIn wsX4_hold wsX4_numberOf := goodIn_r _ [21, 22, 36, 37, 38, 39, 40, 41, 42, 43, 44] (by decide +kernel) (by decide +kernel)
set_option maxRecDepth 20000 in
theorem gX4_hold_X4_numberOf : GoodIn wsX4_hold (va_wsS RX4 90 yX4_numberOf wsX4_numberOf) := goodIn_app (goodIn_of _ (by decide +kernel)) ggX4_hold_X4_numberOf
set_option maxRecDepth 20000 in
theorem ggX4_bay_X4_isBay : GoodIn wsX4_bay wsX4_isBay := goodIn_r _ [6] (by decide +kernel) (by decide +kernel)
set_option maxRecDepth 20000 in
theorem gX4_bay_X4_isBay : GoodIn wsX4_bay (va_wsS RX4 110 yX4_isBay wsX4_isBay) := goodIn_app (goodIn_of _ (by decide +kernel)) ggX4_bay_X4_isBay
set_option maxRecDepth 20000 in
theorem ggX4_bay_X4_isView : GoodIn wsX4_bay wsX4_isView := goodIn_r _ [9] (by decide +kernel) (by decide +kernel)
set_option maxRecDepth 20000 in
theorem gX4_bay_X4_isView : GoodIn wsX4_bay (va_wsS RX4 94 yX4_isView wsX4_isView) := goodIn_app (goodIn_of _ (by decide +kernel)) ggX4_bay_X4_isView
set_option maxRecDepth 20000 in
theorem ggX4_bay_X4_refuse : GoodIn wsX4_bay wsX4_refuse := goodIn_r _ [13, 1, 14, 15, 16, 53, 54, 55, 56, 57, 58, 59, 60, 61, 62, 63, 64, 65] (by decide +kernel) (by decide +kernel)
set_option maxRecDepth 20000 in
theorem gX4_bay_X4_refuse : GoodIn wsX4_bay (wsV RX4 46 RX4 yX4_refuse wsX4_refuse) := goodIn_app (goodIn_of _ (by decide +kernel)) ggX4_bay_X4_refuse
set_option maxRecDepth 20000 in
theorem ggX4_bay_X4_takeAs : GoodIn wsX4_bay wsX4_takeAs := goodIn_r _ [20, 21, 22, 23, 24, 25, 26, 27, 28, 29, 30, 31, 32, 33, 34, 35, 36, 37, 38, 39, 40, 41, 42, 43, 44, 45, 46, 47, 48, 49, 50, 51, 52, 10, 11, 12, 5, 13, 1, 14, 15, 16, 66, 67, 68, 69, 70, 71, 72, 73, 74, 53, 54, 55, 56, 57, 58, 59, 60, 61, 62, 63, 64, 65] (by decide +kernel) (by decide +kernel)
set_option maxRecDepth 20000 in
theorem gX4_bay_X4_takeAs : GoodIn wsX4_bay (wsV RX4 97 RX4 yX4_takeAs wsX4_takeAs) := goodIn_app (goodIn_of _ (by decide +kernel)) ggX4_bay_X4_takeAs
set_option maxRecDepth 20000 in
theorem ggX4_gate_X4_isGate : GoodIn wsX4_gate wsX4_isGate := goodIn_r _ [7] (by decide +kernel) (by decide +kernel)
set_option maxRecDepth 20000 in
theorem gX4_gate_X4_isGate : GoodIn wsX4_gate (va_wsS RX4 113 yX4_isGate wsX4_isGate) := goodIn_app (goodIn_of _ (by decide +kernel)) ggX4_gate_X4_isGate
set_option maxRecDepth 20000 in
theorem ggX4_gate_X4_isView : GoodIn wsX4_gate wsX4_isView := goodIn_r _ [10] (by decide +kernel) (by decide +kernel)
set_option maxRecDepth 20000 in
theorem gX4_gate_X4_isView : GoodIn wsX4_gate (va_wsS RX4 94 yX4_isView wsX4_isView) := goodIn_app (goodIn_of _ (by decide +kernel)) ggX4_gate_X4_isView
set_option maxRecDepth 20000 in
theorem ggX4_gate_X4_refuse : GoodIn wsX4_gate wsX4_refuse := goodIn_r _ [14, 1, 15, 16, 17, 18, 19, 20, 21, 22, 23, 24, 25, 26, 27, 28, 29, 30] (by decide +kernel) (by decide +kernel)
set_option maxRecDepth 20000 in
theorem gX4_gate_X4_refuse : GoodIn wsX4_gate (wsV RX4 46 RX4 yX4_refuse wsX4_refuse) := goodIn_app (goodIn_of _ (by decide +kernel)) ggX4_gate_X4_refuse
set_option maxRecDepth 20000 in
theorem ggX4_pass_X4_find : GoodIn wsX4_pass wsX4_find := goodIn_r _ [9, 10, 48, 49, 50, 51, 52, 53, 54, 55, 56, 57, 58, 59, 60] (by decide +kernel) (by decide +kernel)
set_option maxRecDepth 20000 in
theorem gX4_pass_X4_find : GoodIn wsX4_pass (wsV RX4 68 RX4 yX4_find wsX4_find) := goodIn_app (goodIn_of _ (by decide +kernel)) ggX4_pass_X4_find
set_option maxRecDepth 20000 in
theorem ggX4_pass_X4_isGate : GoodIn wsX4_pass wsX4_isGate := goodIn_r _ [13] (by decide +kernel) (by decide +kernel)
set_option maxRecDepth 20000 in
theorem gX4_pass_X4_isGate : GoodIn wsX4_pass (va_wsS RX4 113 yX4_isGate wsX4_isGate) := goodIn_app (goodIn_of _ (by decide +kernel)) ggX4_pass_X4_isGate
set_option maxRecDepth 20000 in
theorem ggX4_pass_X4_refuse : GoodIn wsX4_pass wsX4_refuse := goodIn_r _ [17, 1, 18, 19, 20, 48, 49, 50, 51, 52, 53, 54, 55, 56, 57, 58, 59, 60] (by decide +kernel) (by decide +kernel)
set_option maxRecDepth 20000 in
theorem gX4_pass_X4_refuse : GoodIn wsX4_pass (wsV RX4 46 RX4 yX4_refuse wsX4_refuse) := goodIn_app (goodIn_of _ (by decide +kernel)) ggX4_pass_X4_refuse
set_option maxRecDepth 20000 in
theorem ggX4_pass_X0_goesAs : GoodIn wsX4_pass wsX0_goesAs := goodIn_r _ [26, 27, 61, 62, 63, 64, 65, 66, 67, 68, 69] (by decide +kernel) (by decide +kernel)
set_option maxRecDepth 20000 in
theorem gX4_pass_X0_goesAs_u78X1 : GoodIn wsX4_pass (va_wsU RX4 78 RX1 "CustomsYard$Load" ⟨"CustomsYard$Load", "goesAs", "(I)Z"⟩ yX0_goesAs wsX0_goesAs) := goodIn_app (goodIn_of _ (by decide +kernel)) ggX4_pass_X0_goesAs
set_option maxRecDepth 20000 in
theorem gX4_pass_X0_goesAs_u78X2 : GoodIn wsX4_pass (va_wsU RX4 78 RX2 "CustomsYard$Load" ⟨"CustomsYard$Load", "goesAs", "(I)Z"⟩ yX0_goesAs wsX0_goesAs) := goodIn_app (goodIn_of _ (by decide +kernel)) ggX4_pass_X0_goesAs
set_option maxRecDepth 20000 in
theorem gX4_pass_X0_goesAs_u78X3 : GoodIn wsX4_pass (va_wsU RX4 78 RX3 "CustomsYard$Load" ⟨"CustomsYard$Load", "goesAs", "(I)Z"⟩ yX0_goesAs wsX0_goesAs) := goodIn_app (goodIn_of _ (by decide +kernel)) ggX4_pass_X0_goesAs
set_option maxRecDepth 20000 in
theorem ggX4_pass_X1_weigh : GoodIn wsX4_pass wsX1_weigh := goodIn_r _ [35, 36, 61, 62, 63] (by decide +kernel) (by decide +kernel)
set_option maxRecDepth 20000 in
theorem gX4_pass_X1_weigh_u102X1 : GoodIn wsX4_pass (va_wsU RX4 102 RX1 "CustomsYard$Load" ⟨"CustomsYard$Load", "weigh", "(I)J"⟩ yX1_weigh wsX1_weigh) := goodIn_app (goodIn_of _ (by decide +kernel)) ggX4_pass_X1_weigh
set_option maxRecDepth 20000 in
theorem ggX4_pass_X2_weigh : GoodIn wsX4_pass wsX2_weigh := goodIn_r _ [40, 41, 64, 65, 66] (by decide +kernel) (by decide +kernel)
set_option maxRecDepth 20000 in
theorem gX4_pass_X2_weigh_u102X2 : GoodIn wsX4_pass (va_wsU RX4 102 RX2 "CustomsYard$Load" ⟨"CustomsYard$Load", "weigh", "(I)J"⟩ yX2_weigh wsX2_weigh) := goodIn_app (goodIn_of _ (by decide +kernel)) ggX4_pass_X2_weigh
set_option maxRecDepth 20000 in
theorem ggX4_pass_X3_weigh : GoodIn wsX4_pass wsX3_weigh := goodIn_r _ [45, 46, 47, 31, 32, 33, 34, 35, 36, 37, 38, 39, 40, 41, 42, 43, 44, 67, 68, 69, 61, 62, 63, 64, 65, 66] (by decide +kernel) (by decide +kernel)
set_option maxRecDepth 20000 in
theorem gX4_pass_X3_weigh_u102X3 : GoodIn wsX4_pass (va_wsU RX4 102 RX3 "CustomsYard$Load" ⟨"CustomsYard$Load", "weigh", "(I)J"⟩ yX3_weigh wsX3_weigh) := goodIn_app (goodIn_of _ (by decide +kernel)) ggX4_pass_X3_weigh
set_option maxRecDepth 20000 in
theorem ggX4_passed_X4_isGate : GoodIn wsX4_passed wsX4_isGate := goodIn_r _ [6] (by decide +kernel) (by decide +kernel)
set_option maxRecDepth 20000 in
theorem gX4_passed_X4_isGate : GoodIn wsX4_passed (va_wsS RX4 113 yX4_isGate wsX4_isGate) := goodIn_app (goodIn_of _ (by decide +kernel)) ggX4_passed_X4_isGate
set_option maxRecDepth 20000 in
theorem ggX4_passed_X4_refuse : GoodIn wsX4_passed wsX4_refuse := goodIn_r _ [10, 1, 11, 12, 13, 14, 15, 16, 17, 18, 19, 20, 21, 22, 23, 24, 25, 26] (by decide +kernel) (by decide +kernel)
set_option maxRecDepth 20000 in
theorem gX4_passed_X4_refuse : GoodIn wsX4_passed (wsV RX4 46 RX4 yX4_refuse wsX4_refuse) := goodIn_app (goodIn_of _ (by decide +kernel)) ggX4_passed_X4_refuse
set_option maxRecDepth 20000 in
theorem ggX4_tariff_X4_isView : GoodIn wsX4_tariff wsX4_isView := goodIn_r _ [8] (by decide +kernel) (by decide +kernel)
set_option maxRecDepth 20000 in
theorem gX4_tariff_X4_isView : GoodIn wsX4_tariff (va_wsS RX4 94 yX4_isView wsX4_isView) := goodIn_app (goodIn_of _ (by decide +kernel)) ggX4_tariff_X4_isView
set_option maxRecDepth 20000 in
theorem ggX4_tariff_X4_refuse : GoodIn wsX4_tariff wsX4_refuse := goodIn_r _ [12, 1, 13, 14, 15, 16, 17, 18, 19, 20, 21, 22, 23, 24, 25, 26, 27, 28] (by decide +kernel) (by decide +kernel)
set_option maxRecDepth 20000 in
theorem gX4_tariff_X4_refuse : GoodIn wsX4_tariff (wsV RX4 46 RX4 yX4_refuse wsX4_refuse) := goodIn_app (goodIn_of _ (by decide +kernel)) ggX4_tariff_X4_refuse
set_option maxRecDepth 20000 in
theorem ggX4_duty_X4_find : GoodIn wsX4_duty wsX4_find := goodIn_r _ [8, 9, 54, 55, 56, 57, 58, 59, 60, 61, 62, 63, 64, 65, 66] (by decide +kernel) (by decide +kernel)
set_option maxRecDepth 20000 in
theorem gX4_duty_X4_find : GoodIn wsX4_duty (wsV RX4 68 RX4 yX4_find wsX4_find) := goodIn_app (goodIn_of _ (by decide +kernel)) ggX4_duty_X4_find
set_option maxRecDepth 20000 in
theorem ggX4_duty_X4_refuse : GoodIn wsX4_duty wsX4_refuse := goodIn_r _ [13, 1, 14, 15, 16, 54, 55, 56, 57, 58, 59, 60, 61, 62, 63, 64, 65, 66] (by decide +kernel) (by decide +kernel)
set_option maxRecDepth 20000 in
theorem gX4_duty_X4_refuse : GoodIn wsX4_duty (wsV RX4 46 RX4 yX4_refuse wsX4_refuse) := goodIn_app (goodIn_of _ (by decide +kernel)) ggX4_duty_X4_refuse
set_option maxRecDepth 20000 in
theorem ggX4_duty_X4_lineFor : GoodIn wsX4_duty wsX4_lineFor := goodIn_r _ [20, 21, 3, 22, 23, 24, 25, 26, 27, 28, 29, 30, 54, 55, 56, 57, 58, 59, 60, 61, 62, 63, 64, 65, 66, 67, 68, 69, 70, 71, 72, 73, 74, 75] (by decide +kernel) (by decide +kernel)
set_option maxRecDepth 20000 in
theorem gX4_duty_X4_lineFor : GoodIn wsX4_duty (wsV RX4 122 RX4 yX4_lineFor wsX4_lineFor) := goodIn_app (goodIn_of _ (by decide +kernel)) ggX4_duty_X4_lineFor
set_option maxRecDepth 20000 in
theorem ggX4_duty_X1_comesAs : GoodIn wsX4_duty wsX1_comesAs := goodIn_r _ [36, 37, 67, 68, 69] (by decide +kernel) (by decide +kernel)
set_option maxRecDepth 20000 in
theorem gX4_duty_X1_comesAs_u125X1 : GoodIn wsX4_duty (va_wsU RX4 125 RX1 "CustomsYard$Load" ⟨"CustomsYard$Load", "comesAs", "(I)I"⟩ yX1_comesAs wsX1_comesAs) := goodIn_app (goodIn_of _ (by decide +kernel)) ggX4_duty_X1_comesAs
set_option maxRecDepth 20000 in
theorem ggX4_duty_X2_comesAs : GoodIn wsX4_duty wsX2_comesAs := goodIn_r _ [41, 42, 43, 44, 45, 40, 46, 47, 48, 70, 71, 72, 67, 68, 69, 73, 74, 75] (by decide +kernel) (by decide +kernel)
set_option maxRecDepth 20000 in
theorem gX4_duty_X2_comesAs_u125X2 : GoodIn wsX4_duty (va_wsU RX4 125 RX2 "CustomsYard$Load" ⟨"CustomsYard$Load", "comesAs", "(I)I"⟩ yX2_comesAs wsX2_comesAs) := goodIn_app (goodIn_of _ (by decide +kernel)) ggX4_duty_X2_comesAs
set_option maxRecDepth 20000 in
theorem ggX4_duty_X3_comesAs : GoodIn wsX4_duty wsX3_comesAs := goodIn_r _ [52, 53, 73, 74, 75] (by decide +kernel) (by decide +kernel)
set_option maxRecDepth 20000 in
theorem gX4_duty_X3_comesAs_u125X3 : GoodIn wsX4_duty (va_wsU RX4 125 RX3 "CustomsYard$Load" ⟨"CustomsYard$Load", "comesAs", "(I)I"⟩ yX3_comesAs wsX3_comesAs) := goodIn_app (goodIn_of _ (by decide +kernel)) ggX4_duty_X3_comesAs
set_option maxRecDepth 20000 in
theorem ggX4_line_X4_find : GoodIn wsX4_line wsX4_find := goodIn_r _ [6, 7, 30, 31, 32, 33, 34, 35, 36, 37, 38, 39, 40, 41, 42] (by decide +kernel) (by decide +kernel)
set_option maxRecDepth 20000 in
theorem gX4_line_X4_find : GoodIn wsX4_line (wsV RX4 68 RX4 yX4_find wsX4_find) := goodIn_app (goodIn_of _ (by decide +kernel)) ggX4_line_X4_find
set_option maxRecDepth 20000 in
theorem ggX4_line_X4_refuse : GoodIn wsX4_line wsX4_refuse := goodIn_r _ [11, 1, 12, 13, 14, 30, 31, 32, 33, 34, 35, 36, 37, 38, 39, 40, 41, 42] (by decide +kernel) (by decide +kernel)
set_option maxRecDepth 20000 in
theorem gX4_line_X4_refuse : GoodIn wsX4_line (wsV RX4 46 RX4 yX4_refuse wsX4_refuse) := goodIn_app (goodIn_of _ (by decide +kernel)) ggX4_line_X4_refuse
set_option maxRecDepth 20000 in
theorem ggX4_line_X4_lineFor : GoodIn wsX4_line wsX4_lineFor := goodIn_r _ [18, 19, 20, 21, 22, 23, 24, 25, 26, 27, 28, 29, 30, 31, 32, 33, 34, 35, 36, 37, 38, 39, 40, 41, 42, 43, 44, 45, 46, 47, 48, 49, 50, 51] (by decide +kernel) (by decide +kernel)
set_option maxRecDepth 20000 in
theorem gX4_line_X4_lineFor : GoodIn wsX4_line (wsV RX4 122 RX4 yX4_lineFor wsX4_lineFor) := goodIn_app (goodIn_of _ (by decide +kernel)) ggX4_line_X4_lineFor
set_option maxRecDepth 20000 in
theorem ggX4_numbersWith_X4_find : GoodIn wsX4_numbersWith wsX4_find := goodIn_r _ [6, 7, 22, 23, 24, 25, 26, 27, 28, 29, 30, 31, 32, 33, 34] (by decide +kernel) (by decide +kernel)
set_option maxRecDepth 20000 in
theorem gX4_numbersWith_X4_find : GoodIn wsX4_numbersWith (wsV RX4 68 RX4 yX4_find wsX4_find) := goodIn_app (goodIn_of _ (by decide +kernel)) ggX4_numbersWith_X4_find
set_option maxRecDepth 20000 in
theorem ggX4_numbersWith_X4_refuse : GoodIn wsX4_numbersWith wsX4_refuse := goodIn_r _ [11, 12, 13, 14, 15, 22, 23, 24, 25, 26, 27, 28, 29, 30, 31, 32, 33, 34] (by decide +kernel) (by decide +kernel)
set_option maxRecDepth 20000 in
theorem gX4_numbersWith_X4_refuse : GoodIn wsX4_numbersWith (wsV RX4 46 RX4 yX4_refuse wsX4_refuse) := goodIn_app (goodIn_of _ (by decide +kernel)) ggX4_numbersWith_X4_refuse
set_option maxRecDepth 20000 in
theorem ggX4_numbersWith_X1_hasPlace : GoodIn wsX4_numbersWith wsX1_hasPlace := goodIn_r _ [20, 21, 35, 36, 37] (by decide +kernel) (by decide +kernel)
set_option maxRecDepth 20000 in
theorem gX4_numbersWith_X1_hasPlace : GoodIn wsX4_numbersWith (wsV RX4 137 RX1 yX1_hasPlace wsX1_hasPlace) := goodIn_app (goodIn_of _ (by decide +kernel)) ggX4_numbersWith_X1_hasPlace
set_option maxRecDepth 20000 in
theorem ggX4_takeAs_X0_goesAs : GoodIn wsX4_takeAs wsX0_goesAs := goodIn_r _ [6, 7, 42, 43, 44, 45, 46, 47, 48, 49, 50] (by decide +kernel) (by decide +kernel)
set_option maxRecDepth 20000 in
theorem gX4_takeAs_X0_goesAs_u78X1 : GoodIn wsX4_takeAs (va_wsU RX4 78 RX1 "CustomsYard$Load" ⟨"CustomsYard$Load", "goesAs", "(I)Z"⟩ yX0_goesAs wsX0_goesAs) := goodIn_app (goodIn_of _ (by decide +kernel)) ggX4_takeAs_X0_goesAs
set_option maxRecDepth 20000 in
theorem gX4_takeAs_X0_goesAs_u78X2 : GoodIn wsX4_takeAs (va_wsU RX4 78 RX2 "CustomsYard$Load" ⟨"CustomsYard$Load", "goesAs", "(I)Z"⟩ yX0_goesAs wsX0_goesAs) := goodIn_app (goodIn_of _ (by decide +kernel)) ggX4_takeAs_X0_goesAs
set_option maxRecDepth 20000 in
theorem gX4_takeAs_X0_goesAs_u78X3 : GoodIn wsX4_takeAs (va_wsU RX4 78 RX3 "CustomsYard$Load" ⟨"CustomsYard$Load", "goesAs", "(I)Z"⟩ yX0_goesAs wsX0_goesAs) := goodIn_app (goodIn_of _ (by decide +kernel)) ggX4_takeAs_X0_goesAs
set_option maxRecDepth 20000 in
theorem ggX4_takeAs_X1_comesAs : GoodIn wsX4_takeAs wsX1_comesAs := goodIn_r _ [15, 16, 42, 43, 44] (by decide +kernel) (by decide +kernel)
set_option maxRecDepth 20000 in
theorem gX4_takeAs_X1_comesAs_u125X1 : GoodIn wsX4_takeAs (va_wsU RX4 125 RX1 "CustomsYard$Load" ⟨"CustomsYard$Load", "comesAs", "(I)I"⟩ yX1_comesAs wsX1_comesAs) := goodIn_app (goodIn_of _ (by decide +kernel)) ggX4_takeAs_X1_comesAs
set_option maxRecDepth 20000 in
theorem ggX4_takeAs_X2_comesAs : GoodIn wsX4_takeAs wsX2_comesAs := goodIn_r _ [20, 21, 22, 23, 24, 19, 25, 26, 27, 45, 46, 47, 42, 43, 44, 48, 49, 50] (by decide +kernel) (by decide +kernel)
set_option maxRecDepth 20000 in
theorem gX4_takeAs_X2_comesAs_u125X2 : GoodIn wsX4_takeAs (va_wsU RX4 125 RX2 "CustomsYard$Load" ⟨"CustomsYard$Load", "comesAs", "(I)I"⟩ yX2_comesAs wsX2_comesAs) := goodIn_app (goodIn_of _ (by decide +kernel)) ggX4_takeAs_X2_comesAs
set_option maxRecDepth 20000 in
theorem ggX4_takeAs_X3_comesAs : GoodIn wsX4_takeAs wsX3_comesAs := goodIn_r _ [31, 32, 48, 49, 50] (by decide +kernel) (by decide +kernel)
set_option maxRecDepth 20000 in
theorem gX4_takeAs_X3_comesAs_u125X3 : GoodIn wsX4_takeAs (va_wsU RX4 125 RX3 "CustomsYard$Load" ⟨"CustomsYard$Load", "comesAs", "(I)I"⟩ yX3_comesAs wsX3_comesAs) := goodIn_app (goodIn_of _ (by decide +kernel)) ggX4_takeAs_X3_comesAs
set_option maxRecDepth 20000 in
theorem ggX4_takeAs_X4_refuse : GoodIn wsX4_takeAs wsX4_refuse := goodIn_r _ [37, 38, 39, 40, 41, 51, 52, 53, 54, 55, 56, 57, 58, 59, 60, 61, 62, 63] (by decide +kernel) (by decide +kernel)
set_option maxRecDepth 20000 in
theorem gX4_takeAs_X4_refuse : GoodIn wsX4_takeAs (wsV RX4 46 RX4 yX4_refuse wsX4_refuse) := goodIn_app (goodIn_of _ (by decide +kernel)) ggX4_takeAs_X4_refuse
set_option maxRecDepth 20000 in
theorem ggX4_lineFor_X0_goesAs : GoodIn wsX4_lineFor wsX0_goesAs := goodIn_r _ [8, 9, 25, 26, 27, 28, 29, 30, 31, 32, 33] (by decide +kernel) (by decide +kernel)
set_option maxRecDepth 20000 in
theorem gX4_lineFor_X0_goesAs_u78X1 : GoodIn wsX4_lineFor (va_wsU RX4 78 RX1 "CustomsYard$Load" ⟨"CustomsYard$Load", "goesAs", "(I)Z"⟩ yX0_goesAs wsX0_goesAs) := goodIn_app (goodIn_of _ (by decide +kernel)) ggX4_lineFor_X0_goesAs
set_option maxRecDepth 20000 in
theorem gX4_lineFor_X0_goesAs_u78X2 : GoodIn wsX4_lineFor (va_wsU RX4 78 RX2 "CustomsYard$Load" ⟨"CustomsYard$Load", "goesAs", "(I)Z"⟩ yX0_goesAs wsX0_goesAs) := goodIn_app (goodIn_of _ (by decide +kernel)) ggX4_lineFor_X0_goesAs
set_option maxRecDepth 20000 in
theorem gX4_lineFor_X0_goesAs_u78X3 : GoodIn wsX4_lineFor (va_wsU RX4 78 RX3 "CustomsYard$Load" ⟨"CustomsYard$Load", "goesAs", "(I)Z"⟩ yX0_goesAs wsX0_goesAs) := goodIn_app (goodIn_of _ (by decide +kernel)) ggX4_lineFor_X0_goesAs
set_option maxRecDepth 20000 in
theorem ggX4_mostOf_X4_hasWeightTold : GoodIn wsX4_mostOf wsX4_hasWeightTold := goodIn_r _ [4] (by decide +kernel) (by decide +kernel)
set_option maxRecDepth 20000 in
theorem gX4_mostOf_X4_hasWeightTold : GoodIn wsX4_mostOf (va_wsS RX4 141 yX4_hasWeightTold wsX4_hasWeightTold) := goodIn_app (goodIn_of _ (by decide +kernel)) ggX4_mostOf_X4_hasWeightTold
set_option maxRecDepth 20000 in
theorem ggX4_makeLoad_X4_hasWeightTold : GoodIn wsX4_makeLoad wsX4_hasWeightTold := goodIn_r _ [15] (by decide +kernel) (by decide +kernel)
set_option maxRecDepth 20000 in
theorem gX4_makeLoad_X4_hasWeightTold : GoodIn wsX4_makeLoad (va_wsS RX4 141 yX4_hasWeightTold wsX4_hasWeightTold) := goodIn_app (goodIn_of _ (by decide +kernel)) ggX4_makeLoad_X4_hasWeightTold
set_option maxRecDepth 20000 in
theorem ggX4_makeLoad_X2_init : GoodIn wsX4_makeLoad wsX2_init := goodIn_r _ [18, 19, 20, 21, 22, 23, 24, 25, 26, 27, 28, 39, 40, 41, 42, 43, 44, 45, 46, 47] (by decide +kernel) (by decide +kernel)
set_option maxRecDepth 20000 in
theorem gX4_makeLoad_X2_init : GoodIn wsX4_makeLoad (wsX2_init) := ggX4_makeLoad_X2_init
set_option maxRecDepth 20000 in
theorem ggX4_makeLoad_X1_init : GoodIn wsX4_makeLoad wsX1_init := goodIn_r _ [31, 32, 33, 21, 22, 23, 24, 25, 26, 27, 28, 42, 43, 44, 39, 40, 41, 45, 46, 47] (by decide +kernel) (by decide +kernel)
set_option maxRecDepth 20000 in
theorem gX4_makeLoad_X1_init : GoodIn wsX4_makeLoad (wsX1_init) := ggX4_makeLoad_X1_init
set_option maxRecDepth 20000 in
theorem ggX4_makeLoad_X3_init : GoodIn wsX4_makeLoad wsX3_init := goodIn_r _ [36, 37, 38, 21, 22, 23, 24, 25, 26, 27, 28, 45, 46, 47, 42, 43, 44, 39, 40, 41] (by decide +kernel) (by decide +kernel)
set_option maxRecDepth 20000 in
theorem gX4_makeLoad_X3_init : GoodIn wsX4_makeLoad (wsX3_init) := ggX4_makeLoad_X3_init
set_option maxRecDepth 20000 in
theorem ggX5_isLoad_X5_isIn : GoodIn wsX5_isLoad wsX5_isIn := goodIn_r _ [5] (by decide +kernel) (by decide +kernel)
set_option maxRecDepth 20000 in
theorem gX5_isLoad_X5_isIn : GoodIn wsX5_isLoad (va_wsS RX5 48 yX5_isIn wsX5_isIn) := goodIn_app (goodIn_of _ (by decide +kernel)) ggX5_isLoad_X5_isIn
set_option maxRecDepth 20000 in
theorem ggX5_isView_X5_isIn : GoodIn wsX5_isView wsX5_isIn := goodIn_r _ [4] (by decide +kernel) (by decide +kernel)
set_option maxRecDepth 20000 in
theorem gX5_isView_X5_isIn : GoodIn wsX5_isView (va_wsS RX5 48 yX5_isIn wsX5_isIn) := goodIn_app (goodIn_of _ (by decide +kernel)) ggX5_isView_X5_isIn
set_option maxRecDepth 20000 in
theorem ggX5_isSingle_X5_isIn : GoodIn wsX5_isSingle wsX5_isIn := goodIn_r _ [4] (by decide +kernel) (by decide +kernel)
set_option maxRecDepth 20000 in
theorem gX5_isSingle_X5_isIn : GoodIn wsX5_isSingle (va_wsS RX5 48 yX5_isIn wsX5_isIn) := goodIn_app (goodIn_of _ (by decide +kernel)) ggX5_isSingle_X5_isIn
set_option maxRecDepth 20000 in
theorem ggX5_isOfNumbers_X5_isIn : GoodIn wsX5_isOfNumbers wsX5_isIn := goodIn_r _ [4] (by decide +kernel) (by decide +kernel)
set_option maxRecDepth 20000 in
theorem gX5_isOfNumbers_X5_isIn : GoodIn wsX5_isOfNumbers (va_wsS RX5 48 yX5_isIn wsX5_isIn) := goodIn_app (goodIn_of _ (by decide +kernel)) ggX5_isOfNumbers_X5_isIn
set_option maxRecDepth 20000 in
theorem ggX5_isOfThings_X5_isIn : GoodIn wsX5_isOfThings wsX5_isIn := goodIn_r _ [4] (by decide +kernel) (by decide +kernel)
set_option maxRecDepth 20000 in
theorem gX5_isOfThings_X5_isIn : GoodIn wsX5_isOfThings (va_wsS RX5 48 yX5_isIn wsX5_isIn) := goodIn_app (goodIn_of _ (by decide +kernel)) ggX5_isOfThings_X5_isIn
set_option maxRecDepth 20000 in
theorem ggX5_load_X5_isIn : GoodIn wsX5_load wsX5_isIn := goodIn_r _ [11] (by decide +kernel) (by decide +kernel)
set_option maxRecDepth 20000 in
theorem gX5_load_X5_isIn : GoodIn wsX5_load (va_wsS RX5 48 yX5_isIn wsX5_isIn) := goodIn_app (goodIn_of _ (by decide +kernel)) ggX5_load_X5_isIn
set_option maxRecDepth 20000 in
theorem ggX5_load_X5_isSingle : GoodIn wsX5_load wsX5_isSingle := goodIn_r _ [14, 8, 9, 10, 11] (by decide +kernel) (by decide +kernel)
set_option maxRecDepth 20000 in
theorem gX5_load_X5_isSingle : GoodIn wsX5_load (va_wsS RX5 64 yX5_isSingle wsX5_isSingle) := goodIn_app (goodIn_of _ (by decide +kernel)) ggX5_load_X5_isSingle
set_option maxRecDepth 20000 in
theorem ggX5_load_X5_no : GoodIn wsX5_load wsX5_no := goodIn_r _ [18, 1, 19, 20, 21, 22, 23, 24, 25, 26, 27, 28, 29, 30, 31, 32, 33, 34, 35, 36, 37, 38, 39, 40] (by decide +kernel) (by decide +kernel)
set_option maxRecDepth 20000 in
theorem gX5_load_X5_no : GoodIn wsX5_load (wsV RX5 68 RX5 yX5_no wsX5_no) := goodIn_app (goodIn_of _ (by decide +kernel)) ggX5_load_X5_no
set_option maxRecDepth 20000 in
theorem ggX5_isPlace_X5_isIn : GoodIn wsX5_isPlace wsX5_isIn := goodIn_r _ [5] (by decide +kernel) (by decide +kernel)
set_option maxRecDepth 20000 in
theorem gX5_isPlace_X5_isIn : GoodIn wsX5_isPlace (va_wsS RX5 48 yX5_isIn wsX5_isIn) := goodIn_app (goodIn_of _ (by decide +kernel)) ggX5_isPlace_X5_isIn
set_option maxRecDepth 20000 in
theorem ggX5_set_X5_isLoad : GoodIn wsX5_set wsX5_isLoad := goodIn_r _ [8, 9, 10, 11, 7, 12, 28, 29, 30, 31, 32, 33, 34, 35, 36, 37, 38, 39, 40, 41, 42, 43, 44, 45, 46] (by decide +kernel) (by decide +kernel)
set_option maxRecDepth 20000 in
theorem gX5_set_X5_isLoad : GoodIn wsX5_set (wsV RX5 72 RX5 yX5_isLoad wsX5_isLoad) := goodIn_app (goodIn_of _ (by decide +kernel)) ggX5_set_X5_isLoad
set_option maxRecDepth 20000 in
theorem ggX5_set_X5_no : GoodIn wsX5_set wsX5_no := goodIn_r _ [16, 1, 17, 18, 19, 28, 29, 30, 31, 32, 33, 34, 35, 36, 37, 38, 39, 40, 41, 42, 43, 44, 45, 46] (by decide +kernel) (by decide +kernel)
set_option maxRecDepth 20000 in
theorem gX5_set_X5_no : GoodIn wsX5_set (wsV RX5 68 RX5 yX5_no wsX5_no) := goodIn_app (goodIn_of _ (by decide +kernel)) ggX5_set_X5_no
set_option maxRecDepth 20000 in
theorem ggX5_set_X5_isOfNumbers : GoodIn wsX5_set wsX5_isOfNumbers := goodIn_r _ [22, 10, 11, 7, 12] (by decide +kernel) (by decide +kernel)
set_option maxRecDepth 20000 in
theorem gX5_set_X5_isOfNumbers : GoodIn wsX5_set (va_wsS RX5 75 yX5_isOfNumbers wsX5_isOfNumbers) := goodIn_app (goodIn_of _ (by decide +kernel)) ggX5_set_X5_isOfNumbers
set_option maxRecDepth 20000 in
theorem ggX5_set_X5_isPlace : GoodIn wsX5_set wsX5_isPlace := goodIn_r _ [26, 27, 10, 11, 7, 12, 28, 29, 30, 31, 32, 33, 34, 35, 36, 37, 38, 39, 40, 41, 42, 43, 44, 45, 46] (by decide +kernel) (by decide +kernel)
set_option maxRecDepth 20000 in
theorem gX5_set_X5_isPlace : GoodIn wsX5_set (wsV RX5 78 RX5 yX5_isPlace wsX5_isPlace) := goodIn_app (goodIn_of _ (by decide +kernel)) ggX5_set_X5_isPlace
set_option maxRecDepth 20000 in
theorem ggX5_number_X5_isLoad : GoodIn wsX5_number wsX5_isLoad := goodIn_r _ [8, 9, 10, 11, 7, 12, 28, 29, 30, 31, 32, 33, 34, 35, 36, 37, 38, 39, 40, 41, 42, 43, 44, 45, 46] (by decide +kernel) (by decide +kernel)
set_option maxRecDepth 20000 in
theorem gX5_number_X5_isLoad : GoodIn wsX5_number (wsV RX5 72 RX5 yX5_isLoad wsX5_isLoad) := goodIn_app (goodIn_of _ (by decide +kernel)) ggX5_number_X5_isLoad
set_option maxRecDepth 20000 in
theorem ggX5_number_X5_isOfNumbers : GoodIn wsX5_number wsX5_isOfNumbers := goodIn_r _ [15, 10, 11, 7, 12] (by decide +kernel) (by decide +kernel)
set_option maxRecDepth 20000 in
theorem gX5_number_X5_isOfNumbers : GoodIn wsX5_number (va_wsS RX5 75 yX5_isOfNumbers wsX5_isOfNumbers) := goodIn_app (goodIn_of _ (by decide +kernel)) ggX5_number_X5_isOfNumbers
set_option maxRecDepth 20000 in
theorem ggX5_number_X5_isPlace : GoodIn wsX5_number wsX5_isPlace := goodIn_r _ [19, 20, 10, 11, 7, 12, 28, 29, 30, 31, 32, 33, 34, 35, 36, 37, 38, 39, 40, 41, 42, 43, 44, 45, 46] (by decide +kernel) (by decide +kernel)
set_option maxRecDepth 20000 in
theorem gX5_number_X5_isPlace : GoodIn wsX5_number (wsV RX5 78 RX5 yX5_isPlace wsX5_isPlace) := goodIn_app (goodIn_of _ (by decide +kernel)) ggX5_number_X5_isPlace
set_option maxRecDepth 20000 in
theorem ggX5_number_X5_no : GoodIn wsX5_number wsX5_no := goodIn_r _ [24, 1, 25, 26, 27, 28, 29, 30, 31, 32, 33, 34, 35, 36, 37, 38, 39, 40, 41, 42, 43, 44, 45, 46] (by decide +kernel) (by decide +kernel)
set_option maxRecDepth 20000 in
theorem gX5_number_X5_no : GoodIn wsX5_number (wsV RX5 68 RX5 yX5_no wsX5_no) := goodIn_app (goodIn_of _ (by decide +kernel)) ggX5_number_X5_no
set_option maxRecDepth 20000 in
theorem ggX5_had_X5_wanted : GoodIn wsX5_had wsX5_wanted := goodIn_r _ [4] (by decide +kernel) (by decide +kernel)
set_option maxRecDepth 20000 in
theorem gX5_had_X5_wanted : GoodIn wsX5_had (va_wsS RX5 82 yX5_wanted wsX5_wanted) := goodIn_app (goodIn_of _ (by decide +kernel)) ggX5_had_X5_wanted
set_option maxRecDepth 20000 in
theorem ggX5_put_X5_isLoad : GoodIn wsX5_put wsX5_isLoad := goodIn_r _ [8, 9, 10, 11, 7, 12, 37, 38, 39, 40, 41, 42, 43, 44, 45, 46, 47, 48, 49, 50, 51, 52, 53, 54, 55] (by decide +kernel) (by decide +kernel)
set_option maxRecDepth 20000 in
theorem gX5_put_X5_isLoad : GoodIn wsX5_put (wsV RX5 72 RX5 yX5_isLoad wsX5_isLoad) := goodIn_app (goodIn_of _ (by decide +kernel)) ggX5_put_X5_isLoad
set_option maxRecDepth 20000 in
theorem ggX5_put_X5_no : GoodIn wsX5_put wsX5_no := goodIn_r _ [16, 1, 17, 18, 19, 37, 38, 39, 40, 41, 42, 43, 44, 45, 46, 47, 48, 49, 50, 51, 52, 53, 54, 55] (by decide +kernel) (by decide +kernel)
set_option maxRecDepth 20000 in
theorem gX5_put_X5_no : GoodIn wsX5_put (wsV RX5 68 RX5 yX5_no wsX5_no) := goodIn_app (goodIn_of _ (by decide +kernel)) ggX5_put_X5_no
set_option maxRecDepth 20000 in
theorem ggX5_put_X5_isOfThings : GoodIn wsX5_put wsX5_isOfThings := goodIn_r _ [22, 10, 11, 7, 12] (by decide +kernel) (by decide +kernel)
set_option maxRecDepth 20000 in
theorem gX5_put_X5_isOfThings : GoodIn wsX5_put (va_wsS RX5 85 yX5_isOfThings wsX5_isOfThings) := goodIn_app (goodIn_of _ (by decide +kernel)) ggX5_put_X5_isOfThings
set_option maxRecDepth 20000 in
theorem ggX5_put_X5_wanted : GoodIn wsX5_put wsX5_wanted := goodIn_r _ [25] (by decide +kernel) (by decide +kernel)
set_option maxRecDepth 20000 in
theorem gX5_put_X5_wanted : GoodIn wsX5_put (va_wsS RX5 82 yX5_wanted wsX5_wanted) := goodIn_app (goodIn_of _ (by decide +kernel)) ggX5_put_X5_wanted
set_option maxRecDepth 20000 in
theorem ggX5_put_X5_goes : GoodIn wsX5_put wsX5_goes := goodIn_r _ [28] (by decide +kernel) (by decide +kernel)
set_option maxRecDepth 20000 in
theorem gX5_put_X5_goes : GoodIn wsX5_put (va_wsS RX5 88 yX5_goes wsX5_goes) := goodIn_app (goodIn_of _ (by decide +kernel)) ggX5_put_X5_goes
set_option maxRecDepth 20000 in
theorem ggX5_put_X5_isPlace : GoodIn wsX5_put wsX5_isPlace := goodIn_r _ [32, 33, 10, 11, 7, 12, 37, 38, 39, 40, 41, 42, 43, 44, 45, 46, 47, 48, 49, 50, 51, 52, 53, 54, 55] (by decide +kernel) (by decide +kernel)
set_option maxRecDepth 20000 in
theorem gX5_put_X5_isPlace : GoodIn wsX5_put (wsV RX5 78 RX5 yX5_isPlace wsX5_isPlace) := goodIn_app (goodIn_of _ (by decide +kernel)) ggX5_put_X5_isPlace
set_option maxRecDepth 20000 in
theorem ggX5_put_X5_had : GoodIn wsX5_put wsX5_had := goodIn_r _ [36, 23, 24, 7, 25] (by decide +kernel) (by decide +kernel)
set_option maxRecDepth 20000 in
theorem gX5_put_X5_had : GoodIn wsX5_put (va_wsS RX5 91 yX5_had wsX5_had) := goodIn_app (goodIn_of _ (by decide +kernel)) ggX5_put_X5_had
set_option maxRecDepth 20000 in
theorem ggX5_at_X5_isLoad : GoodIn wsX5_at wsX5_isLoad := goodIn_r _ [8, 9, 10, 11, 7, 12, 28, 29, 30, 31, 32, 33, 34, 35, 36, 37, 38, 39, 40, 41, 42, 43, 44, 45, 46] (by decide +kernel) (by decide +kernel)
set_option maxRecDepth 20000 in
theorem gX5_at_X5_isLoad : GoodIn wsX5_at (wsV RX5 72 RX5 yX5_isLoad wsX5_isLoad) := goodIn_app (goodIn_of _ (by decide +kernel)) ggX5_at_X5_isLoad
set_option maxRecDepth 20000 in
theorem ggX5_at_X5_no : GoodIn wsX5_at wsX5_no := goodIn_r _ [16, 1, 17, 18, 19, 28, 29, 30, 31, 32, 33, 34, 35, 36, 37, 38, 39, 40, 41, 42, 43, 44, 45, 46] (by decide +kernel) (by decide +kernel)
set_option maxRecDepth 20000 in
theorem gX5_at_X5_no : GoodIn wsX5_at (wsV RX5 68 RX5 yX5_no wsX5_no) := goodIn_app (goodIn_of _ (by decide +kernel)) ggX5_at_X5_no
set_option maxRecDepth 20000 in
theorem ggX5_at_X5_isOfThings : GoodIn wsX5_at wsX5_isOfThings := goodIn_r _ [22, 10, 11, 7, 12] (by decide +kernel) (by decide +kernel)
set_option maxRecDepth 20000 in
theorem gX5_at_X5_isOfThings : GoodIn wsX5_at (va_wsS RX5 85 yX5_isOfThings wsX5_isOfThings) := goodIn_app (goodIn_of _ (by decide +kernel)) ggX5_at_X5_isOfThings
set_option maxRecDepth 20000 in
theorem ggX5_at_X5_isPlace : GoodIn wsX5_at wsX5_isPlace := goodIn_r _ [26, 27, 10, 11, 7, 12, 28, 29, 30, 31, 32, 33, 34, 35, 36, 37, 38, 39, 40, 41, 42, 43, 44, 45, 46] (by decide +kernel) (by decide +kernel)
set_option maxRecDepth 20000 in
theorem gX5_at_X5_isPlace : GoodIn wsX5_at (wsV RX5 78 RX5 yX5_isPlace wsX5_isPlace) := goodIn_app (goodIn_of _ (by decide +kernel)) ggX5_at_X5_isPlace
set_option maxRecDepth 20000 in
theorem ggX5_is_X5_isLoad : GoodIn wsX5_is wsX5_isLoad := goodIn_r _ [7, 8, 9, 10, 6, 11, 25, 26, 27, 28, 29, 30, 31, 32, 33, 34, 35, 36, 37, 38, 39, 40, 41, 42, 43] (by decide +kernel) (by decide +kernel)
set_option maxRecDepth 20000 in
theorem gX5_is_X5_isLoad : GoodIn wsX5_is (wsV RX5 72 RX5 yX5_isLoad wsX5_isLoad) := goodIn_app (goodIn_of _ (by decide +kernel)) ggX5_is_X5_isLoad
set_option maxRecDepth 20000 in
theorem ggX5_is_X5_isView : GoodIn wsX5_is wsX5_isView := goodIn_r _ [14, 9, 10, 6, 11] (by decide +kernel) (by decide +kernel)
set_option maxRecDepth 20000 in
theorem gX5_is_X5_isView : GoodIn wsX5_is (va_wsS RX5 94 yX5_isView wsX5_isView) := goodIn_app (goodIn_of _ (by decide +kernel)) ggX5_is_X5_isView
set_option maxRecDepth 20000 in
theorem ggX5_is_X5_no : GoodIn wsX5_is wsX5_no := goodIn_r _ [18, 1, 19, 20, 21, 25, 26, 27, 28, 29, 30, 31, 32, 33, 34, 35, 36, 37, 38, 39, 40, 41, 42, 43] (by decide +kernel) (by decide +kernel)
set_option maxRecDepth 20000 in
theorem gX5_is_X5_no : GoodIn wsX5_is (wsV RX5 68 RX5 yX5_no wsX5_no) := goodIn_app (goodIn_of _ (by decide +kernel)) ggX5_is_X5_no
set_option maxRecDepth 20000 in
theorem ggX5_is_X5_goes : GoodIn wsX5_is wsX5_goes := goodIn_r _ [24] (by decide +kernel) (by decide +kernel)
set_option maxRecDepth 20000 in
theorem gX5_is_X5_goes : GoodIn wsX5_is (va_wsS RX5 88 yX5_goes wsX5_goes) := goodIn_app (goodIn_of _ (by decide +kernel)) ggX5_is_X5_goes
set_option maxRecDepth 20000 in
theorem ggX5_comes_X5_isSingle : GoodIn wsX5_comes wsX5_isSingle := goodIn_r _ [7, 8, 9, 6, 10] (by decide +kernel) (by decide +kernel)
set_option maxRecDepth 20000 in
theorem gX5_comes_X5_isSingle : GoodIn wsX5_comes (va_wsS RX5 64 yX5_isSingle wsX5_isSingle) := goodIn_app (goodIn_of _ (by decide +kernel)) ggX5_comes_X5_isSingle
set_option maxRecDepth 20000 in
theorem ggX5_take_X5_isLoad : GoodIn wsX5_take wsX5_isLoad := goodIn_r _ [7, 8, 9, 10, 6, 11, 34, 35, 36, 37, 38, 39, 40, 41, 42, 43, 44, 45, 46, 47, 48, 49, 50, 51, 52] (by decide +kernel) (by decide +kernel)
set_option maxRecDepth 20000 in
theorem gX5_take_X5_isLoad : GoodIn wsX5_take (wsV RX5 72 RX5 yX5_isLoad wsX5_isLoad) := goodIn_app (goodIn_of _ (by decide +kernel)) ggX5_take_X5_isLoad
set_option maxRecDepth 20000 in
theorem ggX5_take_X5_isView : GoodIn wsX5_take wsX5_isView := goodIn_r _ [14, 9, 10, 6, 11] (by decide +kernel) (by decide +kernel)
set_option maxRecDepth 20000 in
theorem gX5_take_X5_isView : GoodIn wsX5_take (va_wsS RX5 94 yX5_isView wsX5_isView) := goodIn_app (goodIn_of _ (by decide +kernel)) ggX5_take_X5_isView
set_option maxRecDepth 20000 in
theorem ggX5_take_X5_no : GoodIn wsX5_take wsX5_no := goodIn_r _ [18, 1, 19, 20, 21, 34, 35, 36, 37, 38, 39, 40, 41, 42, 43, 44, 45, 46, 47, 48, 49, 50, 51, 52] (by decide +kernel) (by decide +kernel)
set_option maxRecDepth 20000 in
theorem gX5_take_X5_no : GoodIn wsX5_take (wsV RX5 68 RX5 yX5_no wsX5_no) := goodIn_app (goodIn_of _ (by decide +kernel)) ggX5_take_X5_no
set_option maxRecDepth 20000 in
theorem ggX5_take_X5_goes : GoodIn wsX5_take wsX5_goes := goodIn_r _ [24] (by decide +kernel) (by decide +kernel)
set_option maxRecDepth 20000 in
theorem gX5_take_X5_goes : GoodIn wsX5_take (va_wsS RX5 88 yX5_goes wsX5_goes) := goodIn_app (goodIn_of _ (by decide +kernel)) ggX5_take_X5_goes
set_option maxRecDepth 20000 in
theorem ggX5_take_X5_comes : GoodIn wsX5_take wsX5_comes := goodIn_r _ [28, 2, 29, 30, 31, 32, 6, 33, 9, 10, 11, 34, 35, 36, 37, 38, 39, 40, 41, 42, 43, 44, 45, 46, 47, 48, 49, 50, 51, 52] (by decide +kernel) (by decide +kernel)
set_option maxRecDepth 20000 in
theorem gX5_take_X5_comes : GoodIn wsX5_take (wsV RX5 97 RX5 yX5_comes wsX5_comes) := goodIn_app (goodIn_of _ (by decide +kernel)) ggX5_take_X5_comes
set_option maxRecDepth 20000 in
theorem ggX5_sort_X5_isLoad : GoodIn wsX5_sort wsX5_isLoad := goodIn_r _ [7, 8, 9, 10, 6, 11, 19, 20, 21, 22, 23, 24, 25, 26, 27, 28, 29, 30, 31, 32, 33, 34, 35, 36, 37] (by decide +kernel) (by decide +kernel)
set_option maxRecDepth 20000 in
theorem gX5_sort_X5_isLoad : GoodIn wsX5_sort (wsV RX5 72 RX5 yX5_isLoad wsX5_isLoad) := goodIn_app (goodIn_of _ (by decide +kernel)) ggX5_sort_X5_isLoad
set_option maxRecDepth 20000 in
theorem ggX5_sort_X5_no : GoodIn wsX5_sort wsX5_no := goodIn_r _ [15, 1, 16, 17, 18, 19, 20, 21, 22, 23, 24, 25, 26, 27, 28, 29, 30, 31, 32, 33, 34, 35, 36, 37] (by decide +kernel) (by decide +kernel)
set_option maxRecDepth 20000 in
theorem gX5_sort_X5_no : GoodIn wsX5_sort (wsV RX5 68 RX5 yX5_no wsX5_no) := goodIn_app (goodIn_of _ (by decide +kernel)) ggX5_sort_X5_no
set_option maxRecDepth 20000 in
theorem ggX5_next_X5_isOfThings : GoodIn wsX5_next wsX5_isOfThings := goodIn_r _ [9, 10, 11, 8, 12] (by decide +kernel) (by decide +kernel)
set_option maxRecDepth 20000 in
theorem gX5_next_X5_isOfThings : GoodIn wsX5_next (va_wsS RX5 85 yX5_isOfThings wsX5_isOfThings) := goodIn_app (goodIn_of _ (by decide +kernel)) ggX5_next_X5_isOfThings
set_option maxRecDepth 20000 in
theorem ggX5_next_X5_lay : GoodIn wsX5_next wsX5_lay := goodIn_r _ [16, 2, 1, 17, 18, 19, 20, 21, 22, 23, 24, 25, 26, 27, 28, 29, 30, 31, 32, 33, 34, 35] (by decide +kernel) (by decide +kernel)
set_option maxRecDepth 20000 in
theorem gX5_next_X5_lay : GoodIn wsX5_next (wsV RX5 104 RX5 yX5_lay wsX5_lay) := goodIn_app (goodIn_of _ (by decide +kernel)) ggX5_next_X5_lay
set_option maxRecDepth 20000 in
theorem ggX5_weightOf_X5_lay : GoodIn wsX5_weightOf wsX5_lay := goodIn_r _ [9, 10, 1, 23, 24, 25, 26, 27, 28, 29, 30, 31, 32, 33, 34, 35, 36, 37, 38, 39, 40, 41] (by decide +kernel) (by decide +kernel)
set_option maxRecDepth 20000 in
theorem gX5_weightOf_X5_lay : GoodIn wsX5_weightOf (wsV RX5 104 RX5 yX5_lay wsX5_lay) := goodIn_app (goodIn_of _ (by decide +kernel)) ggX5_weightOf_X5_lay
set_option maxRecDepth 20000 in
theorem ggX5_weightOf_X5_next : GoodIn wsX5_weightOf wsX5_next := goodIn_r _ [14, 1, 10, 3, 15, 16, 17, 18, 8, 19, 20, 21, 22, 5, 6, 7, 9, 23, 24, 25, 26, 27, 28, 29, 30, 31, 32, 33, 34, 35, 36, 37, 38, 39, 40, 41] (by decide +kernel) (by decide +kernel)
set_option maxRecDepth 20000 in
theorem gX5_weightOf_X5_next : GoodIn wsX5_weightOf (wsV RX5 108 RX5 yX5_next wsX5_next) := goodIn_app (goodIn_of _ (by decide +kernel)) ggX5_weightOf_X5_next
set_option maxRecDepth 20000 in
theorem ggX5_weight_X5_isLoad : GoodIn wsX5_weight wsX5_isLoad := goodIn_r _ [6, 7, 8, 9, 5, 10, 33, 34, 35, 36, 37, 38, 39, 40, 41, 42, 43, 44, 45, 46, 47, 48, 49, 50, 51] (by decide +kernel) (by decide +kernel)
set_option maxRecDepth 20000 in
theorem gX5_weight_X5_isLoad : GoodIn wsX5_weight (wsV RX5 72 RX5 yX5_isLoad wsX5_isLoad) := goodIn_app (goodIn_of _ (by decide +kernel)) ggX5_weight_X5_isLoad
set_option maxRecDepth 20000 in
theorem ggX5_weight_X5_weightOf : GoodIn wsX5_weight wsX5_weightOf := goodIn_r _ [14, 15, 16, 17, 18, 19, 20, 21, 5, 22, 23, 24, 25, 26, 27, 28, 29, 30, 31, 32, 8, 9, 10, 33, 34, 35, 36, 37, 38, 39, 40, 41, 42, 43, 44, 45, 46, 47, 48, 49, 50, 51] (by decide +kernel) (by decide +kernel)
set_option maxRecDepth 20000 in
theorem gX5_weight_X5_weightOf : GoodIn wsX5_weight (wsV RX5 112 RX5 yX5_weightOf wsX5_weightOf) := goodIn_app (goodIn_of _ (by decide +kernel)) ggX5_weight_X5_weightOf
set_option maxRecDepth 20000 in
theorem ggX5_inside_X5_isLoad : GoodIn wsX5_inside wsX5_isLoad := goodIn_r _ [8, 9, 10, 11, 7, 12, 40, 41, 42, 43, 44, 45, 46, 47, 48, 49, 50, 51, 52, 53, 54, 55, 56, 57, 58] (by decide +kernel) (by decide +kernel)
set_option maxRecDepth 20000 in
theorem gX5_inside_X5_isLoad : GoodIn wsX5_inside (wsV RX5 72 RX5 yX5_isLoad wsX5_isLoad) := goodIn_app (goodIn_of _ (by decide +kernel)) ggX5_inside_X5_isLoad
set_option maxRecDepth 20000 in
theorem ggX5_inside_X5_isView : GoodIn wsX5_inside wsX5_isView := goodIn_r _ [15, 10, 11, 7, 12] (by decide +kernel) (by decide +kernel)
set_option maxRecDepth 20000 in
theorem gX5_inside_X5_isView : GoodIn wsX5_inside (va_wsS RX5 94 yX5_isView wsX5_isView) := goodIn_app (goodIn_of _ (by decide +kernel)) ggX5_inside_X5_isView
set_option maxRecDepth 20000 in
theorem ggX5_inside_X5_no : GoodIn wsX5_inside wsX5_no := goodIn_r _ [19, 1, 20, 21, 22, 40, 41, 42, 43, 44, 45, 46, 47, 48, 49, 50, 51, 52, 53, 54, 55, 56, 57, 58] (by decide +kernel) (by decide +kernel)
set_option maxRecDepth 20000 in
theorem gX5_inside_X5_no : GoodIn wsX5_inside (wsV RX5 68 RX5 yX5_no wsX5_no) := goodIn_app (goodIn_of _ (by decide +kernel)) ggX5_inside_X5_no
set_option maxRecDepth 20000 in
theorem ggX5_inside_X5_lay : GoodIn wsX5_inside wsX5_lay := goodIn_r _ [26, 27, 2, 40, 41, 42, 43, 44, 45, 46, 47, 48, 49, 50, 51, 52, 53, 54, 55, 56, 57, 58] (by decide +kernel) (by decide +kernel)
set_option maxRecDepth 20000 in
theorem gX5_inside_X5_lay : GoodIn wsX5_inside (wsV RX5 104 RX5 yX5_lay wsX5_lay) := goodIn_app (goodIn_of _ (by decide +kernel)) ggX5_inside_X5_lay
set_option maxRecDepth 20000 in
theorem ggX5_inside_X5_next : GoodIn wsX5_inside wsX5_next := goodIn_r _ [31, 2, 27, 32, 3, 33, 34, 35, 7, 36, 10, 11, 12, 23, 24, 25, 26, 40, 41, 42, 43, 44, 45, 46, 47, 48, 49, 50, 51, 52, 53, 54, 55, 56, 57, 58] (by decide +kernel) (by decide +kernel)
set_option maxRecDepth 20000 in
theorem gX5_inside_X5_next : GoodIn wsX5_inside (wsV RX5 108 RX5 yX5_next wsX5_next) := goodIn_app (goodIn_of _ (by decide +kernel)) ggX5_inside_X5_next
set_option maxRecDepth 20000 in
theorem ggX5_inside_X5_goes : GoodIn wsX5_inside wsX5_goes := goodIn_r _ [39] (by decide +kernel) (by decide +kernel)
set_option maxRecDepth 20000 in
theorem gX5_inside_X5_goes : GoodIn wsX5_inside (va_wsS RX5 88 yX5_goes wsX5_goes) := goodIn_app (goodIn_of _ (by decide +kernel)) ggX5_inside_X5_goes
set_option maxRecDepth 20000 in
theorem ggX5_hold_X5_isIn : GoodIn wsX5_hold wsX5_isIn := goodIn_r _ [6] (by decide +kernel) (by decide +kernel)
set_option maxRecDepth 20000 in
theorem gX5_hold_X5_isIn : GoodIn wsX5_hold (va_wsS RX5 48 yX5_isIn wsX5_isIn) := goodIn_app (goodIn_of _ (by decide +kernel)) ggX5_hold_X5_isIn
set_option maxRecDepth 20000 in
theorem ggX5_hold_X5_isLoad : GoodIn wsX5_hold wsX5_isLoad := goodIn_r _ [10, 11, 3, 4, 5, 6, 19, 20, 21, 22, 23, 24, 25, 26, 27, 28, 29, 30, 31, 32, 33, 34, 35, 36, 37] (by decide +kernel) (by decide +kernel)
set_option maxRecDepth 20000 in
theorem gX5_hold_X5_isLoad : GoodIn wsX5_hold (wsV RX5 72 RX5 yX5_isLoad wsX5_isLoad) := goodIn_app (goodIn_of _ (by decide +kernel)) ggX5_hold_X5_isLoad
set_option maxRecDepth 20000 in
theorem ggX5_hold_X5_no : GoodIn wsX5_hold wsX5_no := goodIn_r _ [15, 1, 16, 17, 18, 19, 20, 21, 22, 23, 24, 25, 26, 27, 28, 29, 30, 31, 32, 33, 34, 35, 36, 37] (by decide +kernel) (by decide +kernel)
set_option maxRecDepth 20000 in
theorem gX5_hold_X5_no : GoodIn wsX5_hold (wsV RX5 68 RX5 yX5_no wsX5_no) := goodIn_app (goodIn_of _ (by decide +kernel)) ggX5_hold_X5_no
set_option maxRecDepth 20000 in
theorem ggX5_bay_X5_isIn : GoodIn wsX5_bay wsX5_isIn := goodIn_r _ [7] (by decide +kernel) (by decide +kernel)
set_option maxRecDepth 20000 in
theorem gX5_bay_X5_isIn : GoodIn wsX5_bay (va_wsS RX5 48 yX5_isIn wsX5_isIn) := goodIn_app (goodIn_of _ (by decide +kernel)) ggX5_bay_X5_isIn
set_option maxRecDepth 20000 in
theorem ggX5_bay_X5_isView : GoodIn wsX5_bay wsX5_isView := goodIn_r _ [10, 4, 5, 6, 7] (by decide +kernel) (by decide +kernel)
set_option maxRecDepth 20000 in
theorem gX5_bay_X5_isView : GoodIn wsX5_bay (va_wsS RX5 94 yX5_isView wsX5_isView) := goodIn_app (goodIn_of _ (by decide +kernel)) ggX5_bay_X5_isView
set_option maxRecDepth 20000 in
theorem ggX5_bay_X5_no : GoodIn wsX5_bay wsX5_no := goodIn_r _ [14, 1, 15, 16, 17, 30, 31, 32, 33, 34, 35, 36, 37, 38, 39, 40, 41, 42, 43, 44, 45, 46, 47, 48] (by decide +kernel) (by decide +kernel)
set_option maxRecDepth 20000 in
theorem gX5_bay_X5_no : GoodIn wsX5_bay (wsV RX5 68 RX5 yX5_no wsX5_no) := goodIn_app (goodIn_of _ (by decide +kernel)) ggX5_bay_X5_no
set_option maxRecDepth 20000 in
theorem ggX5_bay_X5_goes : GoodIn wsX5_bay wsX5_goes := goodIn_r _ [20] (by decide +kernel) (by decide +kernel)
set_option maxRecDepth 20000 in
theorem gX5_bay_X5_goes : GoodIn wsX5_bay (va_wsS RX5 88 yX5_goes wsX5_goes) := goodIn_app (goodIn_of _ (by decide +kernel)) ggX5_bay_X5_goes
set_option maxRecDepth 20000 in
theorem ggX5_bay_X5_comes : GoodIn wsX5_bay wsX5_comes := goodIn_r _ [24, 3, 25, 26, 27, 28, 6, 29, 4, 5, 7, 30, 31, 32, 33, 34, 35, 36, 37, 38, 39, 40, 41, 42, 43, 44, 45, 46, 47, 48] (by decide +kernel) (by decide +kernel)
set_option maxRecDepth 20000 in
theorem gX5_bay_X5_comes : GoodIn wsX5_bay (wsV RX5 97 RX5 yX5_comes wsX5_comes) := goodIn_app (goodIn_of _ (by decide +kernel)) ggX5_bay_X5_comes
set_option maxRecDepth 20000 in
theorem ggX5_isGate_X5_isIn : GoodIn wsX5_isGate wsX5_isIn := goodIn_r _ [4] (by decide +kernel) (by decide +kernel)
set_option maxRecDepth 20000 in
theorem gX5_isGate_X5_isIn : GoodIn wsX5_isGate (va_wsS RX5 48 yX5_isIn wsX5_isIn) := goodIn_app (goodIn_of _ (by decide +kernel)) ggX5_isGate_X5_isIn
set_option maxRecDepth 20000 in
theorem ggX5_gate_X5_isGate : GoodIn wsX5_gate wsX5_isGate := goodIn_r _ [7, 8, 9, 6, 10] (by decide +kernel) (by decide +kernel)
set_option maxRecDepth 20000 in
theorem gX5_gate_X5_isGate : GoodIn wsX5_gate (va_wsS RX5 116 yX5_isGate wsX5_isGate) := goodIn_app (goodIn_of _ (by decide +kernel)) ggX5_gate_X5_isGate
set_option maxRecDepth 20000 in
theorem ggX5_gate_X5_isView : GoodIn wsX5_gate wsX5_isView := goodIn_r _ [13, 8, 9, 6, 10] (by decide +kernel) (by decide +kernel)
set_option maxRecDepth 20000 in
theorem gX5_gate_X5_isView : GoodIn wsX5_gate (va_wsS RX5 94 yX5_isView wsX5_isView) := goodIn_app (goodIn_of _ (by decide +kernel)) ggX5_gate_X5_isView
set_option maxRecDepth 20000 in
theorem ggX5_gate_X5_no : GoodIn wsX5_gate wsX5_no := goodIn_r _ [17, 1, 18, 19, 20, 21, 22, 23, 24, 25, 26, 27, 28, 29, 30, 31, 32, 33, 34, 35, 36, 37, 38, 39] (by decide +kernel) (by decide +kernel)
set_option maxRecDepth 20000 in
theorem gX5_gate_X5_no : GoodIn wsX5_gate (wsV RX5 68 RX5 yX5_no wsX5_no) := goodIn_app (goodIn_of _ (by decide +kernel)) ggX5_gate_X5_no
set_option maxRecDepth 20000 in
theorem ggX5_pass_X5_isLoad : GoodIn wsX5_pass wsX5_isLoad := goodIn_r _ [10, 11, 12, 13, 9, 14, 49, 50, 51, 52, 53, 54, 55, 56, 57, 58, 59, 60, 61, 62, 63, 64, 65, 66, 67] (by decide +kernel) (by decide +kernel)
set_option maxRecDepth 20000 in
theorem gX5_pass_X5_isLoad : GoodIn wsX5_pass (wsV RX5 72 RX5 yX5_isLoad wsX5_isLoad) := goodIn_app (goodIn_of _ (by decide +kernel)) ggX5_pass_X5_isLoad
set_option maxRecDepth 20000 in
theorem ggX5_pass_X5_isGate : GoodIn wsX5_pass wsX5_isGate := goodIn_r _ [17, 12, 13, 9, 14] (by decide +kernel) (by decide +kernel)
set_option maxRecDepth 20000 in
theorem gX5_pass_X5_isGate : GoodIn wsX5_pass (va_wsS RX5 116 yX5_isGate wsX5_isGate) := goodIn_app (goodIn_of _ (by decide +kernel)) ggX5_pass_X5_isGate
set_option maxRecDepth 20000 in
theorem ggX5_pass_X5_no : GoodIn wsX5_pass wsX5_no := goodIn_r _ [21, 1, 22, 23, 24, 49, 50, 51, 52, 53, 54, 55, 56, 57, 58, 59, 60, 61, 62, 63, 64, 65, 66, 67] (by decide +kernel) (by decide +kernel)
set_option maxRecDepth 20000 in
theorem gX5_pass_X5_no : GoodIn wsX5_pass (wsV RX5 68 RX5 yX5_no wsX5_no) := goodIn_app (goodIn_of _ (by decide +kernel)) ggX5_pass_X5_no
set_option maxRecDepth 20000 in
theorem ggX5_pass_X5_goes : GoodIn wsX5_pass wsX5_goes := goodIn_r _ [27] (by decide +kernel) (by decide +kernel)
set_option maxRecDepth 20000 in
theorem gX5_pass_X5_goes : GoodIn wsX5_pass (va_wsS RX5 88 yX5_goes wsX5_goes) := goodIn_app (goodIn_of _ (by decide +kernel)) ggX5_pass_X5_goes
set_option maxRecDepth 20000 in
theorem ggX5_pass_X5_weightOf : GoodIn wsX5_pass wsX5_weightOf := goodIn_r _ [31, 32, 33, 34, 35, 36, 37, 38, 9, 39, 40, 41, 42, 43, 44, 3, 45, 46, 47, 48, 12, 13, 14, 49, 50, 51, 52, 53, 54, 55, 56, 57, 58, 59, 60, 61, 62, 63, 64, 65, 66, 67] (by decide +kernel) (by decide +kernel)
set_option maxRecDepth 20000 in
theorem gX5_pass_X5_weightOf : GoodIn wsX5_pass (wsV RX5 112 RX5 yX5_weightOf wsX5_weightOf) := goodIn_app (goodIn_of _ (by decide +kernel)) ggX5_pass_X5_weightOf
set_option maxRecDepth 20000 in
theorem ggX5_passed_X5_isGate : GoodIn wsX5_passed wsX5_isGate := goodIn_r _ [6, 7, 8, 5, 9] (by decide +kernel) (by decide +kernel)
set_option maxRecDepth 20000 in
theorem gX5_passed_X5_isGate : GoodIn wsX5_passed (va_wsS RX5 116 yX5_isGate wsX5_isGate) := goodIn_app (goodIn_of _ (by decide +kernel)) ggX5_passed_X5_isGate
set_option maxRecDepth 20000 in
theorem ggX5_tariff_X5_isView : GoodIn wsX5_tariff wsX5_isView := goodIn_r _ [8, 9, 10, 7, 11] (by decide +kernel) (by decide +kernel)
set_option maxRecDepth 20000 in
theorem gX5_tariff_X5_isView : GoodIn wsX5_tariff (va_wsS RX5 94 yX5_isView wsX5_isView) := goodIn_app (goodIn_of _ (by decide +kernel)) ggX5_tariff_X5_isView
set_option maxRecDepth 20000 in
theorem ggX5_tariff_X5_isIn : GoodIn wsX5_tariff wsX5_isIn := goodIn_r _ [11] (by decide +kernel) (by decide +kernel)
set_option maxRecDepth 20000 in
theorem gX5_tariff_X5_isIn : GoodIn wsX5_tariff (va_wsS RX5 48 yX5_isIn wsX5_isIn) := goodIn_app (goodIn_of _ (by decide +kernel)) ggX5_tariff_X5_isIn
set_option maxRecDepth 20000 in
theorem ggX5_tariff_X5_no : GoodIn wsX5_tariff wsX5_no := goodIn_r _ [15, 1, 16, 17, 18, 19, 20, 21, 22, 23, 24, 25, 26, 27, 28, 29, 30, 31, 32, 33, 34, 35, 36, 37] (by decide +kernel) (by decide +kernel)
set_option maxRecDepth 20000 in
theorem gX5_tariff_X5_no : GoodIn wsX5_tariff (wsV RX5 68 RX5 yX5_no wsX5_no) := goodIn_app (goodIn_of _ (by decide +kernel)) ggX5_tariff_X5_no
set_option maxRecDepth 20000 in
theorem ggX5_lineOf_X5_goes : GoodIn wsX5_lineOf wsX5_goes := goodIn_r _ [7] (by decide +kernel) (by decide +kernel)
set_option maxRecDepth 20000 in
theorem gX5_lineOf_X5_goes : GoodIn wsX5_lineOf (va_wsS RX5 88 yX5_goes wsX5_goes) := goodIn_app (goodIn_of _ (by decide +kernel)) ggX5_lineOf_X5_goes
set_option maxRecDepth 20000 in
theorem ggX5_duty_X5_isLoad : GoodIn wsX5_duty wsX5_isLoad := goodIn_r _ [8, 9, 10, 11, 7, 12, 31, 32, 33, 34, 35, 36, 37, 38, 39, 40, 41, 42, 43, 44, 45, 46, 47, 48, 49] (by decide +kernel) (by decide +kernel)
set_option maxRecDepth 20000 in
theorem gX5_duty_X5_isLoad : GoodIn wsX5_duty (wsV RX5 72 RX5 yX5_isLoad wsX5_isLoad) := goodIn_app (goodIn_of _ (by decide +kernel)) ggX5_duty_X5_isLoad
set_option maxRecDepth 20000 in
theorem ggX5_duty_X5_lineOf : GoodIn wsX5_duty wsX5_lineOf := goodIn_r _ [16, 17, 18, 3, 19, 20, 7, 21, 31, 32, 33, 34, 35, 36, 37, 38, 39, 40, 41, 42, 43, 44, 45, 46, 47, 48, 49] (by decide +kernel) (by decide +kernel)
set_option maxRecDepth 20000 in
theorem gX5_duty_X5_lineOf : GoodIn wsX5_duty (wsV RX5 125 RX5 yX5_lineOf wsX5_lineOf) := goodIn_app (goodIn_of _ (by decide +kernel)) ggX5_duty_X5_lineOf
set_option maxRecDepth 20000 in
theorem ggX5_duty_X5_comes : GoodIn wsX5_duty wsX5_comes := goodIn_r _ [25, 18, 26, 27, 28, 29, 7, 30, 10, 11, 12, 31, 32, 33, 34, 35, 36, 37, 38, 39, 40, 41, 42, 43, 44, 45, 46, 47, 48, 49] (by decide +kernel) (by decide +kernel)
set_option maxRecDepth 20000 in
theorem gX5_duty_X5_comes : GoodIn wsX5_duty (wsV RX5 97 RX5 yX5_comes wsX5_comes) := goodIn_app (goodIn_of _ (by decide +kernel)) ggX5_duty_X5_comes
set_option maxRecDepth 20000 in
theorem ggX5_line_X5_isLoad : GoodIn wsX5_line wsX5_isLoad := goodIn_r _ [6, 7, 8, 9, 5, 10, 28, 29, 30, 31, 32, 33, 34, 35, 36, 37, 38, 39, 40, 41, 42, 43, 44, 45, 46] (by decide +kernel) (by decide +kernel)
set_option maxRecDepth 20000 in
theorem gX5_line_X5_isLoad : GoodIn wsX5_line (wsV RX5 72 RX5 yX5_isLoad wsX5_isLoad) := goodIn_app (goodIn_of _ (by decide +kernel)) ggX5_line_X5_isLoad
set_option maxRecDepth 20000 in
theorem ggX5_line_X5_lineOf : GoodIn wsX5_line wsX5_lineOf := goodIn_r _ [14, 15, 16, 17, 18, 19, 5, 20, 28, 29, 30, 31, 32, 33, 34, 35, 36, 37, 38, 39, 40, 41, 42, 43, 44, 45, 46] (by decide +kernel) (by decide +kernel)
set_option maxRecDepth 20000 in
theorem gX5_line_X5_lineOf : GoodIn wsX5_line (wsV RX5 125 RX5 yX5_lineOf wsX5_lineOf) := goodIn_app (goodIn_of _ (by decide +kernel)) ggX5_line_X5_lineOf
set_option maxRecDepth 20000 in
theorem ggX5_line_X5_no : GoodIn wsX5_line wsX5_no := goodIn_r _ [24, 1, 25, 26, 27, 28, 29, 30, 31, 32, 33, 34, 35, 36, 37, 38, 39, 40, 41, 42, 43, 44, 45, 46] (by decide +kernel) (by decide +kernel)
set_option maxRecDepth 20000 in
theorem gX5_line_X5_no : GoodIn wsX5_line (wsV RX5 68 RX5 yX5_no wsX5_no) := goodIn_app (goodIn_of _ (by decide +kernel)) ggX5_line_X5_no
set_option maxRecDepth 20000 in
theorem ggL_law_X4_init : GoodIn wsL_law wsX4_init := goodIn_r _ [8, 9, 10, 11, 12, 13, 14, 15, 16, 17, 18, 19, 20, 21, 22, 23, 24, 423, 424, 425, 426, 427, 428, 429, 430, 431, 432, 433, 434, 435] (by decide +kernel) (by decide +kernel)
set_option maxRecDepth 20000 in
theorem gL_law_X4_init : GoodIn wsL_law (wsX4_init) := ggL_law_X4_init
set_option maxRecDepth 20000 in
theorem ggL_law_X5_init : GoodIn wsL_law wsX5_init := goodIn_r _ [27, 28, 10, 11, 15, 29, 30, 31, 17, 32, 33, 34, 35, 36, 37, 38, 39, 436, 437, 438, 439, 440, 441, 442, 443, 444, 445, 446, 447, 448, 449, 450, 451, 452, 453, 454] (by decide +kernel) (by decide +kernel)
set_option maxRecDepth 20000 in
theorem gL_law_X5_init : GoodIn wsL_law (wsX5_init) := ggL_law_X5_init
set_option maxRecDepth 20000 in
theorem ggL_law_X4_load : GoodIn wsL_law wsX4_load := goodIn_r _ [43, 44, 45, 13, 46, 47, 2, 48, 49, 50, 51, 52, 53, 54, 55, 56, 57, 58, 59, 60, 61, 62, 63, 64, 65, 66, 67, 17, 68, 69, 70, 12, 71, 72, 73, 74, 75, 76, 77, 78, 79, 10, 11, 80, 81, 82, 83, 84, 85, 86, 87, 88, 89, 90, 91, 423, 424, 425, 426, 427, 428, 429, 430, 431, 432, 433, 434, 435, 455, 456, 457, 458, 459, 460, 461, 462, 463] (by decide +kernel) (by decide +kernel)
set_option maxRecDepth 20000 in
theorem gL_law_X4_load : GoodIn wsL_law (wsV RL 13 RX4 yX4_load wsX4_load) := goodIn_app (goodIn_of _ (by decide +kernel)) ggL_law_X4_load
set_option maxRecDepth 20000 in
theorem ggL_law_X5_load : GoodIn wsL_law wsX5_load := goodIn_r _ [95, 96, 97, 29, 30, 31, 32, 33, 98, 99, 5, 100, 101, 102, 103, 104, 105, 106, 107, 108, 109, 110, 436, 437, 438, 439, 440, 441, 442, 443, 444, 445, 446, 447, 448, 449, 450, 451, 452, 453, 454] (by decide +kernel) (by decide +kernel)
set_option maxRecDepth 20000 in
theorem gL_law_X5_load : GoodIn wsL_law (wsV RL 17 RX5 yX5_load wsX5_load) := goodIn_app (goodIn_of _ (by decide +kernel)) ggL_law_X5_load
set_option maxRecDepth 20000 in
theorem ggL_law_X4_set : GoodIn wsL_law wsX4_set := goodIn_r _ [114, 44, 115, 116, 117, 118, 119, 120, 2, 121, 122, 123, 124, 125, 126, 13, 52, 53, 54, 55, 56, 57, 58, 127, 128, 129, 67, 130, 85, 423, 424, 425, 426, 427, 428, 429, 430, 431, 432, 433, 434, 435, 458, 459, 460, 455, 456, 457, 461, 462, 463] (by decide +kernel) (by decide +kernel)
set_option maxRecDepth 20000 in
theorem gL_law_X4_set : GoodIn wsL_law (wsV RL 18 RX4 yX4_set wsX4_set) := goodIn_app (goodIn_of _ (by decide +kernel)) ggL_law_X4_set
set_option maxRecDepth 20000 in
theorem ggL_law_X5_set : GoodIn wsL_law wsX5_set := goodIn_r _ [134, 96, 29, 32, 135, 136, 137, 5, 138, 97, 98, 99, 100, 104, 105, 106, 107, 108, 109, 110, 139, 140, 141, 142, 143, 144, 145, 30, 436, 437, 438, 439, 440, 441, 442, 443, 444, 445, 446, 447, 448, 449, 450, 451, 452, 453, 454] (by decide +kernel) (by decide +kernel)
set_option maxRecDepth 20000 in
theorem gL_law_X5_set : GoodIn wsL_law (wsV RL 22 RX5 yX5_set wsX5_set) := goodIn_app (goodIn_of _ (by decide +kernel)) ggL_law_X5_set
set_option maxRecDepth 20000 in
theorem ggL_law_X4_number : GoodIn wsL_law wsX4_number := goodIn_r _ [149, 44, 115, 118, 119, 120, 2, 121, 122, 123, 124, 125, 126, 13, 52, 53, 54, 55, 56, 57, 58, 127, 128, 129, 67, 130, 85, 423, 424, 425, 426, 427, 428, 429, 430, 431, 432, 433, 434, 435, 458, 459, 460] (by decide +kernel) (by decide +kernel)
set_option maxRecDepth 20000 in
theorem gL_law_X4_number : GoodIn wsL_law (wsV RL 23 RX4 yX4_number wsX4_number) := goodIn_app (goodIn_of _ (by decide +kernel)) ggL_law_X4_number
set_option maxRecDepth 20000 in
theorem ggL_law_X5_number : GoodIn wsL_law wsX5_number := goodIn_r _ [153, 96, 29, 32, 135, 136, 137, 5, 138, 97, 98, 99, 100, 139, 140, 141, 142, 143, 144, 145, 30, 104, 105, 106, 107, 108, 109, 110, 436, 437, 438, 439, 440, 441, 442, 443, 444, 445, 446, 447, 448, 449, 450, 451, 452, 453, 454] (by decide +kernel) (by decide +kernel)
set_option maxRecDepth 20000 in
theorem gL_law_X5_number : GoodIn wsL_law (wsV RL 27 RX5 yX5_number wsX5_number) := goodIn_app (goodIn_of _ (by decide +kernel)) ggL_law_X5_number
set_option maxRecDepth 20000 in
theorem ggL_law_X4_put : GoodIn wsL_law wsX4_put := goodIn_r _ [157, 44, 158, 159, 123, 124, 125, 2, 126, 13, 52, 53, 54, 55, 56, 57, 58, 160, 161, 162, 70, 163, 164, 165, 166, 167, 168, 169, 77, 170, 81, 171, 172, 173, 174, 175, 176, 90, 177, 178, 179, 180, 181, 423, 424, 425, 426, 427, 428, 429, 430, 431, 432, 433, 434, 435, 461, 462, 463, 458, 459, 460, 455, 456, 457] (by decide +kernel) (by decide +kernel)
set_option maxRecDepth 20000 in
theorem gL_law_X4_put : GoodIn wsL_law (wsV RL 28 RX4 yX4_put wsX4_put) := goodIn_app (goodIn_of _ (by decide +kernel)) ggL_law_X4_put
set_option maxRecDepth 20000 in
theorem ggL_law_X5_put : GoodIn wsL_law wsX5_put := goodIn_r _ [185, 96, 29, 33, 135, 136, 137, 5, 138, 97, 98, 99, 100, 104, 105, 106, 107, 108, 109, 110, 186, 187, 188, 189, 190, 191, 192, 193, 194, 142, 143, 144, 145, 30, 195, 196, 197, 436, 437, 438, 439, 440, 441, 442, 443, 444, 445, 446, 447, 448, 449, 450, 451, 452, 453, 454] (by decide +kernel) (by decide +kernel)
set_option maxRecDepth 20000 in
theorem gL_law_X5_put : GoodIn wsL_law (wsV RL 31 RX5 yX5_put wsX5_put) := goodIn_app (goodIn_of _ (by decide +kernel)) ggL_law_X5_put
set_option maxRecDepth 20000 in
theorem ggL_law_X4_at : GoodIn wsL_law wsX4_at := goodIn_r _ [201, 44, 158, 159, 123, 124, 125, 2, 126, 13, 52, 53, 54, 55, 56, 57, 58, 173, 174, 175, 70, 176, 90, 202, 203, 204, 205, 423, 424, 425, 426, 427, 428, 429, 430, 431, 432, 433, 434, 435, 461, 462, 463, 458, 459, 460, 455, 456, 457] (by decide +kernel) (by decide +kernel)
set_option maxRecDepth 20000 in
theorem gL_law_X4_at : GoodIn wsL_law (wsV RL 32 RX4 yX4_at wsX4_at) := goodIn_app (goodIn_of _ (by decide +kernel)) ggL_law_X4_at
set_option maxRecDepth 20000 in
theorem ggL_law_X5_at : GoodIn wsL_law wsX5_at := goodIn_r _ [209, 96, 29, 33, 135, 136, 137, 5, 138, 97, 98, 99, 100, 104, 105, 106, 107, 108, 109, 110, 186, 187, 188, 142, 143, 144, 145, 30, 436, 437, 438, 439, 440, 441, 442, 443, 444, 445, 446, 447, 448, 449, 450, 451, 452, 453, 454] (by decide +kernel) (by decide +kernel)
set_option maxRecDepth 20000 in
theorem gL_law_X5_at : GoodIn wsL_law (wsV RL 35 RX5 yX5_at wsX5_at) := goodIn_app (goodIn_of _ (by decide +kernel)) ggL_law_X5_at
set_option maxRecDepth 20000 in
theorem ggL_law_X4_is : GoodIn wsL_law wsX4_is := goodIn_r _ [213, 44, 123, 124, 125, 2, 126, 13, 214, 215, 216, 52, 53, 54, 55, 56, 57, 58, 166, 167, 168, 169, 77, 170, 81, 171, 172, 423, 424, 425, 426, 427, 428, 429, 430, 431, 432, 433, 434, 435, 458, 459, 460, 455, 456, 457, 461, 462, 463] (by decide +kernel) (by decide +kernel)
set_option maxRecDepth 20000 in
theorem gL_law_X4_is : GoodIn wsL_law (wsV RL 36 RX4 yX4_is wsX4_is) := goodIn_app (goodIn_of _ (by decide +kernel)) ggL_law_X4_is
set_option maxRecDepth 20000 in
theorem ggL_law_X5_is : GoodIn wsL_law wsX5_is := goodIn_r _ [220, 96, 29, 135, 136, 137, 5, 138, 97, 98, 99, 100, 221, 222, 223, 104, 105, 106, 107, 108, 109, 110, 192, 193, 194, 436, 437, 438, 439, 440, 441, 442, 443, 444, 445, 446, 447, 448, 449, 450, 451, 452, 453, 454] (by decide +kernel) (by decide +kernel)
set_option maxRecDepth 20000 in
theorem gL_law_X5_is : GoodIn wsL_law (wsV RL 39 RX5 yX5_is wsX5_is) := goodIn_app (goodIn_of _ (by decide +kernel)) ggL_law_X5_is
set_option maxRecDepth 20000 in
theorem ggL_law_X4_take : GoodIn wsL_law wsX4_take := goodIn_r _ [227, 44, 123, 124, 125, 2, 126, 13, 214, 215, 216, 52, 53, 54, 55, 56, 57, 58, 228, 229, 230, 231, 166, 167, 168, 169, 77, 170, 81, 171, 172, 232, 233, 234, 235, 67, 236, 85, 237, 238, 64, 239, 74, 240, 241, 242, 243, 244, 245, 246, 247, 70, 248, 90, 423, 424, 425, 426, 427, 428, 429, 430, 431, 432, 433, 434, 435, 458, 459, 460, 455, 456, 457, 461, 462, 463] (by decide +kernel) (by decide +kernel)
set_option maxRecDepth 20000 in
theorem gL_law_X4_take : GoodIn wsL_law (wsV RL 40 RX4 yX4_take wsX4_take) := goodIn_app (goodIn_of _ (by decide +kernel)) ggL_law_X4_take
set_option maxRecDepth 20000 in
theorem ggL_law_X5_take : GoodIn wsL_law wsX5_take := goodIn_r _ [252, 96, 29, 135, 136, 137, 5, 138, 97, 98, 99, 100, 221, 222, 223, 104, 105, 106, 107, 108, 109, 110, 192, 193, 194, 253, 254, 255, 256, 30, 31, 101, 102, 103, 436, 437, 438, 439, 440, 441, 442, 443, 444, 445, 446, 447, 448, 449, 450, 451, 452, 453, 454] (by decide +kernel) (by decide +kernel)
set_option maxRecDepth 20000 in
theorem gL_law_X5_take : GoodIn wsL_law (wsV RL 43 RX5 yX5_take wsX5_take) := goodIn_app (goodIn_of _ (by decide +kernel)) ggL_law_X5_take
set_option maxRecDepth 20000 in
theorem ggL_law_X4_sort : GoodIn wsL_law wsX4_sort := goodIn_r _ [260, 44, 261, 123, 124, 125, 2, 126, 13, 52, 53, 54, 55, 56, 57, 58, 423, 424, 425, 426, 427, 428, 429, 430, 431, 432, 433, 434, 435, 458, 459, 460, 455, 456, 457, 461, 462, 463] (by decide +kernel) (by decide +kernel)
set_option maxRecDepth 20000 in
theorem gL_law_X4_sort : GoodIn wsL_law (wsV RL 44 RX4 yX4_sort wsX4_sort) := goodIn_app (goodIn_of _ (by decide +kernel)) ggL_law_X4_sort
set_option maxRecDepth 20000 in
theorem ggL_law_X5_sort : GoodIn wsL_law wsX5_sort := goodIn_r _ [265, 96, 29, 135, 136, 137, 5, 138, 97, 98, 99, 100, 104, 105, 106, 107, 108, 109, 110, 436, 437, 438, 439, 440, 441, 442, 443, 444, 445, 446, 447, 448, 449, 450, 451, 452, 453, 454] (by decide +kernel) (by decide +kernel)
set_option maxRecDepth 20000 in
theorem gL_law_X5_sort : GoodIn wsL_law (wsV RL 48 RX5 yX5_sort wsX5_sort) := goodIn_app (goodIn_of _ (by decide +kernel)) ggL_law_X5_sort
set_option maxRecDepth 20000 in
theorem ggL_law_X4_weight : GoodIn wsL_law wsX4_weight := goodIn_r _ [269, 44, 123, 124, 125, 2, 126, 13, 52, 53, 54, 55, 56, 57, 58, 270, 271, 272, 273, 67, 274, 85, 275, 276, 64, 277, 74, 278, 279, 70, 280, 90, 281, 423, 424, 425, 426, 427, 428, 429, 430, 431, 432, 433, 434, 435, 458, 459, 460, 455, 456, 457, 461, 462, 463] (by decide +kernel) (by decide +kernel)
set_option maxRecDepth 20000 in
theorem gL_law_X4_weight : GoodIn wsL_law (wsV RL 49 RX4 yX4_weight wsX4_weight) := goodIn_app (goodIn_of _ (by decide +kernel)) ggL_law_X4_weight
set_option maxRecDepth 20000 in
theorem ggL_law_X5_weight : GoodIn wsL_law wsX5_weight := goodIn_r _ [285, 96, 135, 136, 137, 5, 138, 97, 98, 99, 100, 286, 287, 288, 289, 290, 31, 30, 32, 291, 292, 293, 294, 39, 295, 296, 297, 298, 29, 33, 186, 187, 188, 436, 437, 438, 439, 440, 441, 442, 443, 444, 445, 446, 447, 448, 449, 450, 451, 452, 453, 454] (by decide +kernel) (by decide +kernel)
set_option maxRecDepth 20000 in
theorem gL_law_X5_weight : GoodIn wsL_law (wsV RL 53 RX5 yX5_weight wsX5_weight) := goodIn_app (goodIn_of _ (by decide +kernel)) ggL_law_X5_weight
set_option maxRecDepth 20000 in
theorem ggL_law_X4_inside : GoodIn wsL_law wsX4_inside := goodIn_r _ [302, 44, 123, 124, 125, 2, 126, 13, 214, 215, 216, 52, 53, 54, 55, 56, 57, 58, 303, 304, 305, 306, 77, 307, 308, 167, 168, 169, 170, 81, 171, 172, 309, 310, 311, 312, 70, 313, 90, 314, 315, 316, 317, 423, 424, 425, 426, 427, 428, 429, 430, 431, 432, 433, 434, 435, 458, 459, 460, 455, 456, 457, 461, 462, 463] (by decide +kernel) (by decide +kernel)
set_option maxRecDepth 20000 in
theorem gL_law_X4_inside : GoodIn wsL_law (wsV RL 54 RX4 yX4_inside wsX4_inside) := goodIn_app (goodIn_of _ (by decide +kernel)) ggL_law_X4_inside
set_option maxRecDepth 20000 in
theorem ggL_law_X5_inside : GoodIn wsL_law wsX5_inside := goodIn_r _ [321, 96, 290, 29, 135, 136, 137, 5, 138, 97, 98, 99, 100, 221, 222, 223, 104, 105, 106, 107, 108, 109, 110, 291, 292, 293, 294, 39, 295, 296, 297, 298, 30, 33, 186, 187, 188, 192, 193, 194, 436, 437, 438, 439, 440, 441, 442, 443, 444, 445, 446, 447, 448, 449, 450, 451, 452, 453, 454] (by decide +kernel) (by decide +kernel)
set_option maxRecDepth 20000 in
theorem gL_law_X5_inside : GoodIn wsL_law (wsV RL 57 RX5 yX5_inside wsX5_inside) := goodIn_app (goodIn_of _ (by decide +kernel)) ggL_law_X5_inside
set_option maxRecDepth 20000 in
theorem ggL_law_X4_hold : GoodIn wsL_law wsX4_hold := goodIn_r _ [325, 44, 14, 123, 124, 125, 2, 126, 13, 326, 327, 328, 52, 53, 54, 55, 56, 57, 58, 202, 203, 204, 205, 423, 424, 425, 426, 427, 428, 429, 430, 431, 432, 433, 434, 435, 458, 459, 460, 455, 456, 457, 461, 462, 463] (by decide +kernel) (by decide +kernel)
set_option maxRecDepth 20000 in
theorem gL_law_X4_hold : GoodIn wsL_law (wsV RL 58 RX4 yX4_hold wsX4_hold) := goodIn_app (goodIn_of _ (by decide +kernel)) ggL_law_X4_hold
set_option maxRecDepth 20000 in
theorem ggL_law_X5_hold : GoodIn wsL_law wsX5_hold := goodIn_r _ [332, 96, 34, 98, 99, 5, 100, 135, 136, 137, 138, 97, 104, 105, 106, 107, 108, 109, 110, 436, 437, 438, 439, 440, 441, 442, 443, 444, 445, 446, 447, 448, 449, 450, 451, 452, 453, 454] (by decide +kernel) (by decide +kernel)
set_option maxRecDepth 20000 in
theorem gL_law_X5_hold : GoodIn wsL_law (wsV RL 61 RX5 yX5_hold wsX5_hold) := goodIn_app (goodIn_of _ (by decide +kernel)) ggL_law_X5_hold
set_option maxRecDepth 20000 in
theorem ggL_law_X4_bay : GoodIn wsL_law wsX4_bay := goodIn_r _ [336, 44, 14, 326, 327, 2, 328, 214, 215, 216, 52, 53, 54, 55, 56, 57, 58, 228, 229, 230, 231, 166, 167, 168, 169, 77, 170, 81, 171, 172, 232, 233, 234, 235, 67, 236, 85, 237, 238, 64, 239, 74, 240, 241, 242, 243, 244, 245, 246, 247, 70, 248, 90, 423, 424, 425, 426, 427, 428, 429, 430, 431, 432, 433, 434, 435, 458, 459, 460, 455, 456, 457, 461, 462, 463] (by decide +kernel) (by decide +kernel)
set_option maxRecDepth 20000 in
theorem gL_law_X4_bay : GoodIn wsL_law (wsV RL 62 RX4 yX4_bay wsX4_bay) := goodIn_app (goodIn_of _ (by decide +kernel)) ggL_law_X4_bay
set_option maxRecDepth 20000 in
theorem ggL_law_X5_bay : GoodIn wsL_law wsX5_bay := goodIn_r _ [340, 96, 34, 29, 98, 99, 5, 100, 221, 222, 223, 104, 105, 106, 107, 108, 109, 110, 192, 193, 194, 253, 254, 255, 256, 30, 31, 101, 102, 103, 436, 437, 438, 439, 440, 441, 442, 443, 444, 445, 446, 447, 448, 449, 450, 451, 452, 453, 454] (by decide +kernel) (by decide +kernel)
set_option maxRecDepth 20000 in
theorem gL_law_X5_bay : GoodIn wsL_law (wsV RL 65 RX5 yX5_bay wsX5_bay) := goodIn_app (goodIn_of _ (by decide +kernel)) ggL_law_X5_bay
set_option maxRecDepth 20000 in
theorem ggL_law_X4_gate : GoodIn wsL_law wsX4_gate := goodIn_r _ [344, 44, 16, 18, 345, 346, 2, 347, 214, 215, 216, 52, 53, 54, 55, 56, 57, 58, 423, 424, 425, 426, 427, 428, 429, 430, 431, 432, 433, 434, 435] (by decide +kernel) (by decide +kernel)
set_option maxRecDepth 20000 in
theorem gL_law_X4_gate : GoodIn wsL_law (wsV RL 66 RX4 yX4_gate wsX4_gate) := goodIn_app (goodIn_of _ (by decide +kernel)) ggL_law_X4_gate
set_option maxRecDepth 20000 in
theorem ggL_law_X5_gate : GoodIn wsL_law wsX5_gate := goodIn_r _ [351, 96, 35, 36, 352, 353, 5, 354, 98, 99, 100, 221, 222, 223, 104, 105, 106, 107, 108, 109, 110, 436, 437, 438, 439, 440, 441, 442, 443, 444, 445, 446, 447, 448, 449, 450, 451, 452, 453, 454] (by decide +kernel) (by decide +kernel)
set_option maxRecDepth 20000 in
theorem gL_law_X5_gate : GoodIn wsL_law (wsV RL 69 RX5 yX5_gate wsX5_gate) := goodIn_app (goodIn_of _ (by decide +kernel)) ggL_law_X5_gate
set_option maxRecDepth 20000 in
theorem ggL_law_X4_pass : GoodIn wsL_law wsX4_pass := goodIn_r _ [358, 44, 16, 359, 18, 123, 124, 125, 2, 126, 13, 345, 346, 347, 52, 53, 54, 55, 56, 57, 58, 166, 167, 168, 169, 77, 170, 81, 171, 172, 270, 271, 272, 273, 67, 274, 85, 275, 276, 64, 277, 74, 278, 279, 70, 280, 90, 281, 423, 424, 425, 426, 427, 428, 429, 430, 431, 432, 433, 434, 435, 458, 459, 460, 455, 456, 457, 461, 462, 463] (by decide +kernel) (by decide +kernel)
set_option maxRecDepth 20000 in
theorem gL_law_X4_pass : GoodIn wsL_law (wsV RL 70 RX4 yX4_pass wsX4_pass) := goodIn_app (goodIn_of _ (by decide +kernel)) ggL_law_X4_pass
set_option maxRecDepth 20000 in
theorem ggL_law_X5_pass : GoodIn wsL_law wsX5_pass := goodIn_r _ [363, 96, 35, 29, 364, 36, 135, 136, 137, 5, 138, 97, 98, 99, 100, 352, 353, 354, 104, 105, 106, 107, 108, 109, 110, 192, 193, 194, 286, 287, 288, 289, 290, 31, 30, 32, 291, 292, 293, 294, 39, 295, 296, 297, 298, 33, 186, 187, 188, 436, 437, 438, 439, 440, 441, 442, 443, 444, 445, 446, 447, 448, 449, 450, 451, 452, 453, 454] (by decide +kernel) (by decide +kernel)
set_option maxRecDepth 20000 in
theorem gL_law_X5_pass : GoodIn wsL_law (wsV RL 73 RX5 yX5_pass wsX5_pass) := goodIn_app (goodIn_of _ (by decide +kernel)) ggL_law_X5_pass
set_option maxRecDepth 20000 in
theorem ggL_law_X4_passed : GoodIn wsL_law wsX4_passed := goodIn_r _ [368, 44, 18, 345, 346, 2, 347, 52, 53, 54, 55, 56, 57, 58, 423, 424, 425, 426, 427, 428, 429, 430, 431, 432, 433, 434, 435] (by decide +kernel) (by decide +kernel)
set_option maxRecDepth 20000 in
theorem gL_law_X4_passed : GoodIn wsL_law (wsV RL 74 RX4 yX4_passed wsX4_passed) := goodIn_app (goodIn_of _ (by decide +kernel)) ggL_law_X4_passed
set_option maxRecDepth 20000 in
theorem ggL_law_X5_passed : GoodIn wsL_law wsX5_passed := goodIn_r _ [372, 96, 36, 352, 353, 5, 354, 98, 99, 100, 436, 437, 438, 439, 440, 441, 442, 443, 444, 445, 446, 447, 448, 449, 450, 451, 452, 453, 454] (by decide +kernel) (by decide +kernel)
set_option maxRecDepth 20000 in
theorem gL_law_X5_passed : GoodIn wsL_law (wsV RL 77 RX5 yX5_passed wsX5_passed) := goodIn_app (goodIn_of _ (by decide +kernel)) ggL_law_X5_passed
set_option maxRecDepth 20000 in
theorem ggL_law_X4_tariff : GoodIn wsL_law wsX4_tariff := goodIn_r _ [376, 44, 377, 19, 20, 214, 215, 2, 216, 52, 53, 54, 55, 56, 57, 58, 423, 424, 425, 426, 427, 428, 429, 430, 431, 432, 433, 434, 435] (by decide +kernel) (by decide +kernel)
set_option maxRecDepth 20000 in
theorem gL_law_X4_tariff : GoodIn wsL_law (wsV RL 78 RX4 yX4_tariff wsX4_tariff) := goodIn_app (goodIn_of _ (by decide +kernel)) ggL_law_X4_tariff
set_option maxRecDepth 20000 in
theorem ggL_law_X5_tariff : GoodIn wsL_law wsX5_tariff := goodIn_r _ [381, 96, 382, 37, 38, 221, 222, 5, 223, 98, 99, 100, 104, 105, 106, 107, 108, 109, 110, 436, 437, 438, 439, 440, 441, 442, 443, 444, 445, 446, 447, 448, 449, 450, 451, 452, 453, 454] (by decide +kernel) (by decide +kernel)
set_option maxRecDepth 20000 in
theorem gL_law_X5_tariff : GoodIn wsL_law (wsV RL 81 RX5 yX5_tariff wsX5_tariff) := goodIn_app (goodIn_of _ (by decide +kernel)) ggL_law_X5_tariff
set_option maxRecDepth 20000 in
theorem ggL_law_X4_duty : GoodIn wsL_law wsX4_duty := goodIn_r _ [386, 44, 20, 19, 123, 124, 125, 2, 126, 13, 52, 53, 54, 55, 56, 57, 58, 387, 388, 389, 390, 377, 166, 167, 168, 169, 77, 170, 81, 171, 172, 232, 233, 234, 235, 67, 236, 85, 237, 238, 64, 239, 74, 240, 241, 242, 243, 244, 245, 246, 247, 70, 248, 90, 423, 424, 425, 426, 427, 428, 429, 430, 431, 432, 433, 434, 435, 458, 459, 460, 455, 456, 457, 461, 462, 463] (by decide +kernel) (by decide +kernel)
set_option maxRecDepth 20000 in
theorem gL_law_X4_duty : GoodIn wsL_law (wsV RL 82 RX4 yX4_duty wsX4_duty) := goodIn_app (goodIn_of _ (by decide +kernel)) ggL_law_X4_duty
set_option maxRecDepth 20000 in
theorem ggL_law_X5_duty : GoodIn wsL_law wsX5_duty := goodIn_r _ [394, 96, 38, 37, 135, 136, 137, 5, 138, 97, 98, 99, 100, 395, 396, 397, 398, 382, 29, 192, 193, 194, 253, 254, 255, 256, 30, 31, 101, 102, 103, 436, 437, 438, 439, 440, 441, 442, 443, 444, 445, 446, 447, 448, 449, 450, 451, 452, 453, 454] (by decide +kernel) (by decide +kernel)
set_option maxRecDepth 20000 in
theorem gL_law_X5_duty : GoodIn wsL_law (wsV RL 85 RX5 yX5_duty wsX5_duty) := goodIn_app (goodIn_of _ (by decide +kernel)) ggL_law_X5_duty
set_option maxRecDepth 20000 in
theorem ggL_law_X4_line : GoodIn wsL_law wsX4_line := goodIn_r _ [402, 44, 123, 124, 125, 2, 126, 13, 52, 53, 54, 55, 56, 57, 58, 387, 388, 389, 390, 377, 19, 166, 167, 168, 169, 77, 170, 81, 171, 172, 423, 424, 425, 426, 427, 428, 429, 430, 431, 432, 433, 434, 435, 458, 459, 460, 455, 456, 457, 461, 462, 463] (by decide +kernel) (by decide +kernel)
set_option maxRecDepth 20000 in
theorem gL_law_X4_line : GoodIn wsL_law (wsV RL 86 RX4 yX4_line wsX4_line) := goodIn_app (goodIn_of _ (by decide +kernel)) ggL_law_X4_line
set_option maxRecDepth 20000 in
theorem ggL_law_X5_line : GoodIn wsL_law wsX5_line := goodIn_r _ [406, 96, 135, 136, 137, 5, 138, 97, 98, 99, 100, 395, 396, 397, 398, 382, 29, 37, 192, 193, 194, 104, 105, 106, 107, 108, 109, 110, 436, 437, 438, 439, 440, 441, 442, 443, 444, 445, 446, 447, 448, 449, 450, 451, 452, 453, 454] (by decide +kernel) (by decide +kernel)
set_option maxRecDepth 20000 in
theorem gL_law_X5_line : GoodIn wsL_law (wsV RL 89 RX5 yX5_line wsX5_line) := goodIn_app (goodIn_of _ (by decide +kernel)) ggL_law_X5_line
set_option maxRecDepth 20000 in
theorem ggL_law_X4_refused : GoodIn wsL_law wsX4_refused := goodIn_r _ [410, 44, 423, 424, 425, 426, 427, 428, 429, 430, 431, 432, 433, 434, 435] (by decide +kernel) (by decide +kernel)
set_option maxRecDepth 20000 in
theorem gL_law_X4_refused : GoodIn wsL_law (wsV RL 90 RX4 yX4_refused wsX4_refused) := goodIn_app (goodIn_of _ (by decide +kernel)) ggL_law_X4_refused
set_option maxRecDepth 20000 in
theorem ggL_law_X5_refused : GoodIn wsL_law wsX5_refused := goodIn_r _ [414, 96, 436, 437, 438, 439, 440, 441, 442, 443, 444, 445, 446, 447, 448, 449, 450, 451, 452, 453, 454] (by decide +kernel) (by decide +kernel)
set_option maxRecDepth 20000 in
theorem gL_law_X5_refused : GoodIn wsL_law (wsV RL 94 RX5 yX5_refused wsX5_refused) := goodIn_app (goodIn_of _ (by decide +kernel)) ggL_law_X5_refused
set_option maxRecDepth 20000 in
theorem ggL_law_X4_count : GoodIn wsL_law wsX4_count := goodIn_r _ [418, 45, 56, 57, 58, 359, 377, 423, 424, 425, 426, 427, 428, 429, 430, 431, 432, 433, 434, 435] (by decide +kernel) (by decide +kernel)
set_option maxRecDepth 20000 in
theorem gL_law_X4_count : GoodIn wsL_law (wsV RL 95 RX4 yX4_count wsX4_count) := goodIn_app (goodIn_of _ (by decide +kernel)) ggL_law_X4_count
set_option maxRecDepth 20000 in
theorem ggL_law_X5_count : GoodIn wsL_law wsX5_count := goodIn_r _ [422, 97, 108, 109, 110, 364, 382, 436, 437, 438, 439, 440, 441, 442, 443, 444, 445, 446, 447, 448, 449, 450, 451, 452, 453, 454] (by decide +kernel) (by decide +kernel)
set_option maxRecDepth 20000 in
theorem gL_law_X5_count : GoodIn wsL_law (wsV RL 98 RX5 yX5_count wsX5_count) := goodIn_app (goodIn_of _ (by decide +kernel)) ggL_law_X5_count
end
section
/-! THE STATE: two tables of numbers, as the reference holds them. First table, row 0: 0 loads, 1 lines, 2 refused, 3 casts, 4 indexes, 5 stores, 6 away; rows 1 sorts, 2 sizes, 3 weights, 4 things, 5 bays, 6 gates, 7 views, 8 rates. Second table: 0 numbers, 1 sums. -/
abbrev cy_S : Type := (Nat → Nat → Int32) × (Nat → Nat → Int64)
def cy_u {α : Type} (f : Nat → Nat → α) (i j : Nat) (v : α) : Nat → Nat → α := fun a b => if a = i then (if b = j then v else f a b) else f a b
def cy_i (σ : cy_S) (i j : Nat) (v : Int32) : cy_S := (cy_u σ.1 i j v, σ.2)
def cy_l (σ : cy_S) (i j : Nat) (v : Int64) : cy_S := (σ.1, cy_u σ.2 i j v)
theorem cy_u_self {α : Type} (f : Nat → Nat → α) (i j : Nat) : cy_u f i j (f i j) = f := by
  funext a b
  unfold cy_u
  by_cases h1 : a = i
  · by_cases h2 : b = j
    · rw [if_pos h1, if_pos h2, h1, h2]
    · rw [if_pos h1, if_neg h2]
  · rw [if_neg h1]
theorem cy_u_row {α : Type} (f : Nat → Nat → α) (i j : Nat) (v : α) : cy_u f i j v i = va_up (f i) j v := by
  funext b
  simp [cy_u, va_up]
theorem cy_u_ne {α : Type} (f : Nat → Nat → α) {i a : Nat} (j : Nat) (v : α) (h : a ≠ i) : cy_u f i j v a = f a := by
  funext b
  simp [cy_u, h]
theorem cy_u_at {α : Type} (f : Nat → Nat → α) (i j : Nat) (v : α) : cy_u f i j v i j = v := by simp [cy_u]
/-- where a number of a load stands for its object -/
def cy_rf (ad : Nat → Nat) (x : Int32) : Option Nat := if x = -1 then none else some (ad (100 + 2 * x.toNatClampNeg))
def cy_kd (s : Int32) : Nat := if s = 0 ∨ s = 1 ∨ s = 2 then 0 else if s = 4 ∨ s = 5 ∨ s = 6 then 1 else 2
def cy_ob (σ : cy_S) (ad : Nat → Nat) (k : Nat) : va_E := if cy_kd (σ.1 1 k) = 1 then .inr (1, [.int (nI k), .int (σ.1 1 k), .int (σ.1 3 k)]) else .inr (cy_kd (σ.1 1 k), [.int (nI k), .int (σ.1 1 k), .ref (ad (101 + 2 * k))])
def cy_ar (cJ cO : ClassId) (σ : cy_S) (ad : Nat → Nat) (k : Nat) : Option va_E :=
  if cy_kd (σ.1 1 k) = 0 then some (.inl (cJ, (σ.1 2 k).toNatClampNeg, .inr (.inl (fun j => if j < 6 then σ.2 0 (6 * k + j) else 0))))
  else if cy_kd (σ.1 1 k) = 1 then none
  else some (.inl (cO, (σ.1 2 k).toNatClampNeg, .inr (.inr (.inr (.inr (fun j => if j < 6 then cy_rf ad (σ.1 4 (6 * k + j)) else none))))))
/-- the yard's own cells: the object, its six rows -/
def cy_Y (cI cJ cO : ClassId) (na : Nat) (σ : cy_S) (ad : Nat → Nat) : Nat → va_E
  | 0 => .inr (3, [.ref (ad 1), .int (σ.1 0 0), .ref (ad 2), .ref (ad 3), .ref (ad 4), .ref (ad 5), .ref (ad 6), .int (σ.1 0 1), .int (σ.1 0 2), .int (σ.1 0 3), .int (σ.1 0 4), .int (σ.1 0 5), .int (σ.1 0 6)])
  | 1 => .inl (cO, 80, .inr (.inr (.inr (.inr (fun j => if j < na then some (ad (100 + 2 * j)) else none)))))
  | 2 => .inl (cO, 12, .inr (.inr (.inr (.inr (fun j => cy_rf ad (σ.1 5 j))))))
  | 3 => .inl (cI, 6, .inl (σ.1 6))
  | 4 => .inl (cJ, 6, .inr (.inl (σ.2 1)))
  | 5 => .inl (cI, 10, .inl (σ.1 7))
  | _ => .inl (cI, 10, .inl (σ.1 8))
/-- the reference's cells: the object, its eleven rows -/
def cy_T (cI cJ : ClassId) (τ : cy_S) (pl : Nat → Int32) (hi : Int32) (ad : Nat → Nat) : Nat → va_E
  | 0 => .inr (4, [.int (τ.1 0 0), .ref (ad 21), .ref (ad 22), .ref (ad 23), .ref (ad 24), .ref (ad 25), .ref (ad 26), .ref (ad 27), .ref (ad 28), .int (τ.1 0 1), .ref (ad 29), .ref (ad 30), .int (τ.1 0 2), .int (τ.1 0 3), .int (τ.1 0 4), .int (τ.1 0 5), .int (τ.1 0 6), .ref (ad 31), .int hi])
  | 1 => .inl (cI, 80, .inl (τ.1 1))
  | 2 => .inl (cI, 80, .inl (τ.1 2))
  | 3 => .inl (cI, 80, .inl (τ.1 3))
  | 4 => .inl (cJ, 480, .inr (.inl (τ.2 0)))
  | 5 => .inl (cI, 480, .inl (τ.1 4))
  | 6 => .inl (cI, 12, .inl (τ.1 5))
  | 7 => .inl (cI, 6, .inl (τ.1 6))
  | 8 => .inl (cJ, 6, .inr (.inl (τ.2 1)))
  | 9 => .inl (cI, 10, .inl (τ.1 7))
  | 10 => .inl (cI, 10, .inl (τ.1 8))
  | _ => .inl (cI, 60, .inl pl)
/-- all cells by their labels: 0..6 the yard, 20..31 the reference, 100 + 2 k the load k, 101 + 2 k its row -/
def cy_CT (cI cJ cO : ClassId) (n na : Nat) (σ τ : cy_S) (pl : Nat → Int32) (hi : Int32) (ad : Nat → Nat) (j : Nat) : Option va_E :=
  if j < 7 then some (cy_Y cI cJ cO na σ ad j) else if j < 20 then none else if j < 32 then some (cy_T cI cJ τ pl hi ad (j - 20)) else if j < 100 then none
  else if (j - 100) / 2 < n then (if j % 2 = 0 then some (cy_ob σ ad ((j - 100) / 2)) else cy_ar cJ cO σ ad ((j - 100) / 2)) else none
theorem cy_CT_ob (cI cJ cO : ClassId) {n : Nat} (na : Nat) (σ τ : cy_S) (pl : Nat → Int32) (hi : Int32) (ad : Nat → Nat) {k : Nat} (h : k < n) : cy_CT cI cJ cO n na σ τ pl hi ad (100 + 2 * k) = some (cy_ob σ ad k) := by
  unfold cy_CT
  rw [if_neg (by omega), if_neg (by omega), if_neg (by omega), if_neg (by omega), show (100 + 2 * k - 100) / 2 = k by omega, if_pos h, if_pos (by omega)]
theorem cy_CT_ar (cI cJ cO : ClassId) {n : Nat} (na : Nat) (σ τ : cy_S) (pl : Nat → Int32) (hi : Int32) (ad : Nat → Nat) {k : Nat} (h : k < n) : cy_CT cI cJ cO n na σ τ pl hi ad (101 + 2 * k) = cy_ar cJ cO σ ad k := by
  unfold cy_CT
  rw [if_neg (by omega), if_neg (by omega), if_neg (by omega), if_neg (by omega), show (101 + 2 * k - 100) / 2 = k by omega, if_pos h, if_neg (by omega)]
/-- a heap holds labelled cells, at addresses that differ, all from z on -/
def cy_W (D : va_G) (z : Nat) (C : Nat → Option va_E) (ad : Nat → Nat) (H : Heap) : Prop := (∀ (j : Nat) (e : va_E), C j = some e → va_at D vwCl (ad j, e) H ∧ z ≤ ad j) ∧ ∀ i j : Nat, C i ≠ none → C j ≠ none → ad i = ad j → i = j
theorem cy_W.one {D : va_G} {z : Nat} {C : Nat → Option va_E} {ad : Nat → Nat} {H : Heap} (h : cy_W D z C ad H) {j : Nat} {e : va_E} (hC : C j = some e) : va_P D vwCl [(ad j, e)] H := by
  intro k q hk
  match k, hk with
  | 0, hk => cases hk; exact (h.1 j e hC).1
  | k + 1, hk => simp at hk
theorem cy_W.upd {D : va_G} {z : Nat} {C C' : Nat → Option va_E} {ad : Nat → Nat} {H H1 : Heap} (h : cy_W D z C ad H) {x : Nat} {e e' : va_E} (hC : C x = some e) (hU : ∀ j, C' j = if j = x then some e' else C j) (he : va_at D vwCl (ad x, e') H1) (oq : ∀ q : Nat, q ≠ ad x → H1[q]? = H[q]?) : cy_W D z C' ad H1 := by
  have hin : ∀ i, C' i ≠ none → C i ≠ none := by
    intro i hi
    rw [hU] at hi
    by_cases hil : i = x
    · rw [hil, hC]; exact fun q => by cases q
    · rwa [if_neg hil] at hi
  refine ⟨fun j y hj => ?_, fun i j hi hj hij => h.2 i j (hin i hi) (hin j hj) hij⟩
  rw [hU] at hj
  by_cases hjl : j = x
  · subst hjl
    rw [if_pos rfl] at hj
    cases hj
    exact ⟨he, (h.1 j e hC).2⟩
  · rw [if_neg hjl] at hj
    have h1 := h.1 j y hj
    exact ⟨h1.1.kept (oq _ (fun q => hjl (h.2 j x (by rw [hj]; exact fun q => by cases q) (by rw [hC]; exact fun q => by cases q) q))), h1.2⟩
theorem cy_W.lt {D : va_G} {z : Nat} {C : Nat → Option va_E} {ad : Nat → Nat} {H : Heap} (h : cy_W D z C ad H) {j : Nat} {e : va_E} (hC : C j = some e) : ad j < H.size := (h.1 j e hC).1.lt
theorem cy_W.grow {D : va_G} {z : Nat} {C : Nat → Option va_E} {ad : Nat → Nat} {H H1 : Heap} (h : cy_W D z C ad H) (o : ∀ q : Nat, q < H.size → H1[q]? = H[q]?) : cy_W D z C ad H1 := ⟨fun j e hj => ⟨(h.1 j e hj).1.kept (o _ (h.lt hj)), (h.1 j e hj).2⟩, h.2⟩
/-- the kinds of arrays -/
abbrev cy_ty (cI cJ cO : ClassId) : List (ClassId × FieldType) := [(cI, .int), (cJ, .long), (cO, .object "CustomsYard$Load")]
/-- what the tables say of casts among the loads' classes -/
def cy_As (C T : String) (U : State) : Prop := ∃ c t : ClassId, U.vm.findClass C = some c ∧ U.vm.findClass T = some t ∧ U.vm.assignable c t = true
theorem cy_As.moved {C T : String} {u U : State} (hvm : u.vm.Alike U.vm) (h : cy_As C T u) : cy_As C T U := by
  obtain ⟨c, t, h1, h2, h3⟩ := h
  exact ⟨c, t, by rw [hvm.findClass]; exact h1, by rw [hvm.findClass]; exact h2, by rw [hvm.assignable]; exact h3⟩
theorem cy_Dm {x : MethodName} {s U : State} (hvm : s.vm.Alike U.vm) (hZ : va_Nw (.declares x) s) : va_Nw (.declares x) U := va_tabs rfl (rfl : (s.setVm U.vm).vm = U.vm) (by rw [Cond.declares_setVm hvm]; exact hZ)
def cy_N (U : State) : Prop := va_Nc RX2 RX1 U ∧ va_Nc RX3 RX1 U ∧ va_Nc RX1 RX3 U ∧ va_Nc RX2 RX3 U ∧ cy_As RX1 RX0 U ∧ cy_As RX2 RX0 U ∧ cy_As RX3 RX0 U ∧ va_Nw (.declares ⟨"CustomsYard$Load", "weigh", "(I)J"⟩) U ∧ va_Nw (.declares ⟨"CustomsYard$Load", "comesAs", "(I)I"⟩) U
theorem cy_N.moved {u U : State} (hvm : u.vm.Alike U.vm) (h : cy_N u) : cy_N U := ⟨h.1.moved hvm, h.2.1.moved hvm, h.2.2.1.moved hvm, h.2.2.2.1.moved hvm, h.2.2.2.2.1.moved hvm, h.2.2.2.2.2.1.moved hvm, h.2.2.2.2.2.2.1.moved hvm, cy_Dm hvm h.2.2.2.2.2.2.2.1, cy_Dm hvm h.2.2.2.2.2.2.2.2⟩
/-- the tables, as every method's start has them -/
def cy_K (D : va_G) (cI cJ cO : ClassId) (U : State) : Prop := va_K D vwCl (cy_ty cI cJ cO) U ∧ cy_N U
theorem cy_K.moved {D : va_G} {cI cJ cO : ClassId} {u U : State} (hvm : u.vm.Alike U.vm) (h : cy_K D cI cJ cO u) : cy_K D cI cJ cO U := ⟨va_K.moved hvm h.1, h.2.moved hvm⟩
/-- a method's start: the tables, and what the heap holds -/
def cy_P (D : va_G) (cI cJ cO : ClassId) (I : Heap → Prop) (av : List Value) : Array Value → State → Prop := fun v U => v = av.toArray ∧ cy_K D cI cJ cO U ∧ I U.heap
/-- a method's end: an answer, and the heap as it was -/
def cy_Q (v : Value) : Array Value → State → Outcome → State → Prop := fun _ st oc t => oc = .returned (some v) ∧ t.heap = st.heap
/-- a method's end: an answer, and what the heap holds then; nothing below z has changed -/
def cy_M {S : Type} (z : Nat) (v : S → Option Value) (I : S → Heap → Prop) : Array Value → State → Outcome → State → Prop := fun _ st oc t => ∃ u : S, oc = .returned (v u) ∧ I u t.heap ∧ va_F (fun q => z ≤ q) st t
theorem cy_blind {D : va_G} {cI cJ cO : ClassId} {I : Heap → Prop} {av : List Value} : FrameBlind (cy_P D cI cJ cO I av) := fun a U g mk q => ⟨q.1, q.2.1.moved (u := U) (U := U.calling g mk a) (Vm.Alike.refl U.vm), q.2.2⟩
theorem cy_preS {s : State} {H : Heap} {D : va_G} {cI cJ cO : ClassId} {I : Heap → Prop} {av : List Value} (hK : cy_K D cI cJ cO s) (hI : I H) : PreS s H (cy_P D cI cJ cO I av) av := ⟨cy_blind, fun U hU hW => ⟨rfl, hK.moved hW.alike, by rw [hU]; exact hI⟩⟩
theorem cy_recv {s : State} {H : Heap} {D : va_G} {cI cJ cO : ClassId} {a ci : Nat} {fs : List Value} {q : vw_C} (hK : cy_K D cI cJ cO s) (h : va_at D vwCl (a, .inr (ci, fs)) H) (hc : vwCl[ci]? = some q) : ∃ cell : Cell, H[a]? = some cell ∧ cell.vm.isStatics = false ∧ s.vm.findClass q.1 = some cell.cls := by
  obtain ⟨q', h1, cell, g1, g2, g3, -⟩ := h
  exact ⟨cell, g1, by rw [g3]; rfl, by rw [g2]; exact (hK.1.1 ci q hc).2.1⟩
theorem cy_preV {s : State} {H : Heap} {D : va_G} {cI cJ cO : ClassId} {I : Heap → Prop} {b : Nat} {av : List Value} {C : String} (hK : cy_K D cI cJ cO s) (hI : I H) (hr : ∃ cell : Cell, H[b]? = some cell ∧ cell.vm.isStatics = false ∧ s.vm.findClass C = some cell.cls) : PreV s H C b (cy_P D cI cJ cO I (.ref b :: av)) av := ⟨cy_blind, hr, fun U hU hW => ⟨rfl, hK.moved hW.alike, by rw [hU]; exact hI⟩⟩
section CYC
variable {p : Program} {l : Launch} {e : Env} {R : Room} {s : State} {m : MethodId} {args : Array Value} {below : List Frame} {meth : Method} {c : Code} {H : Heap} {locs : List Loc} {cells slots : Nat} {Q : State → Prop}
variable {pc : Nat} {ls : Array Slot} {rest st0 : List Value} {a : Array Value} {H0 : Heap} {mc ms z : Nat}
/-- behind a call that leaves the heap as it was -/
theorem cy_callp {v : Value} (hr : va_Run p l e R s m args below meth c H locs cells slots 0 0 (F0 m pc ls st0) rest (cy_Q v a) (fun _ => False)) (kk : W p l e R s m args below meth c H locs cells slots Q (F0 m (pc + 3) ls (v :: rest))) : W p l e R s m args below meth c H locs cells slots Q (F0 m pc ls st0) := by
  intro T hT X
  obtain ⟨v', st₀, t, T', L, h0, X', hL, e1, e2, ⟨hv, hh⟩, st⟩ := hr T hT X
  cases hv
  obtain ⟨t2, a1, b1⟩ := kk T' (by rw [e1, hh, h0]) (Stand.forget X' (fun q h => (hL q h).elim))
  exact ⟨t2, st t2 a1, b1⟩
/-- behind a call that changes the heap -/
theorem cy_callm {S : Type} {v : S → Option Value} {I : S → Heap → Prop} (hr : va_Run p l e R s m args below meth c H locs cells slots mc ms (F0 m pc ls st0) rest (cy_M z v I a) (fun q => z ≤ q)) (hS : va_S (fun q => z ≤ q) H0 H locs)
    (kk : ∀ (u : S) (H1 : Heap) (locs1 : List Loc), I u H1 → H.size ≤ H1.size → va_S (fun q => z ≤ q) H0 H1 locs1 → W p l e R s m args below meth c H1 locs1 (cells + mc) (slots + ms) Q (F0 m (pc + 3) ls ((v u).toList ++ rest))) : W p l e R s m args below meth c H locs cells slots Q (F0 m pc ls st0) := by
  intro T hT X
  obtain ⟨v', st₀, t, T', L, h0, X', hL, e1, e2, ⟨u, hv, hi, hz, hk⟩, st⟩ := hr T hT X
  cases hv
  rw [h0] at hz hk
  obtain ⟨t2, a1, b1⟩ := kk u T'.heap (locs ++ L) (by rw [e1]; exact hi) (by rw [e1]; exact hz)
    ⟨Nat.le_trans hS.1 (by rw [e1]; exact hz), fun q h1 h2 => by rw [e1, hk q (Nat.lt_of_lt_of_le h1 hS.1) h2]; exact hS.2.1 q h1 h2, fun q hq => by
      rcases List.mem_append.mp hq with h | h
      · exact hS.2.2 q h
      · exact hL q h⟩ T' rfl X'
  exact ⟨t2, st t2 a1, b1⟩
end CYC
section CYR
variable {p : Program} {l : Launch} {e : Env} {R : Room} {s : State} {m : MethodId} {args : Array Value} {below : List Frame} {meth : Method} {c : Code} {H : Heap} {locs : List Loc} {cells slots : Nat} {Q : State → Prop}
variable {cc : ByteArray} {pc : Nat} {ls : Array Slot} {rest : List Value} {D : va_G} {a z : Nat} {H0 : Heap} {tys : List (ClassId × FieldType)} {C C' : Nat → Option va_E} {ad : Nat → Nat}
/-- putfield on one cell -/
theorem cy_putR (hexec : p.tables.exec = Jvm.exec) (hb : c.code = cc) {own ref Cn : String} {T : u_T} {N ci index : Nat} {Ts : List Cond} (hts : ∀ w ∈ Ts, w.before args s = true) (hin : ∀ w ∈ u_ws Cn T N, w ∈ Ts) (ty0 : Nat → FieldType) (hty : ∀ k, k < N → parseFieldDescriptor (T k).2.2.1 = some (ty0 k)) (hnm : ∀ a, a < N → ∀ b, b < N → a ≠ b → (T a).2.1 ≠ (T b).2.1) (hown : s.vm.findClass own = some m.cls) (hK : va_K D vwCl tys s) (hS0 : va_S (fun q => z ≤ q) H0 H locs) (hz : z ≤ a) {fs : List Value} (he : va_at D vwCl (a, .inr (ci, fs)) H) (hc : vwCl[ci]? = some (Cn, T, N)) (k : Nat) (hk : k < N) (hlink : (Cond.fieldLink own index ref (T k).2.1 (T k).2.2.1).before args s = true) (hsame : ∀ x, s.fieldFound? (T k).1 (T k).2.1 (T k).2.2.1 = some x → s.fieldFound? ref (T k).2.1 (T k).2.2.1 = some x) (hfin : (T k).2.2.2 = false) {ty : FieldType} {v : Value} (hd : parseFieldDescriptor (T k).2.2.1 = some ty) (hn : narrow ty v = v) (hfit : fits ty v = true) (hl : k < fs.length)
    (hdg : decode cc pc = .ok (.putfield index, 3)) (kk : ∀ (H1 : Heap) (locs1 : List Loc), va_at D vwCl (a, .inr (ci, fs.set k v)) H1 → H1.size = H.size → (∀ q : Nat, q ≠ a → H1[q]? = H[q]?) → va_S (fun q => z ≤ q) H0 H1 locs1 → W p l e R s m args below meth c H1 locs1 cells slots Q (F0 m (pc + 3) ls rest)) : W p l e R s m args below meth c H locs cells slots Q (F0 m pc ls (v :: .ref a :: rest)) := by
  have hap := va_apart (own := own) hts hin ty0 hty hnm hK hc
  obtain ⟨r, h1, cell, q1, q2, q3, q4⟩ := he
  have hr : r = (Cn, T, N) := Option.some.inj (h1.symm.trans hc)
  subst hr
  obtain ⟨hS, hfc, kC, hkC, hkind⟩ := hK.1 ci _ hc
  obtain ⟨cf, kf, fi, f, hi, hsl⟩ := hS k hk
  have hlay := hts _ (hin _ (u_in_lay hk))
  unfold u_lay at hlay
  rw [if_neg (by rw [hfin]; decide)] at hlay
  have hst := (u_facts hfc hkC (u_lays hts hin hk) hi).1
  have h6 := u_store hfc hkC hkind hlay hi hd hn hfit
  refine W.putK hexec hb (f := f) ⟨hown, hlink, ⟨_, _, _, hsame _ hi⟩, hst⟩ (by rw [q2]; exact h6) q1 q3 (by rw [hsl]; exact k2_hasslot (q4 k hk)) rfl rfl hdg fun H' e1 e2 e3 => ?_
  rw [hsl] at e1 ⊢
  exact kk H' _ ⟨_, hc, t_OB.to (V := updV (vp_V fs) k v) ⟨_, e1, q2, q3, t_set q4 hap hk v⟩ (fun j _ => vp_updV_set hl v j)⟩ e2 e3 (hS0.put e2 e3 hz)
/-- putfield of a final field in a constructor, on one cell -/
theorem cy_putF (hexec : p.tables.exec = Jvm.exec) (hb : c.code = cc) {own ref Cn : String} {T : u_T} {N ci index : Nat} {Ts : List Cond} (hts : ∀ w ∈ Ts, w.before args s = true) (hin : ∀ w ∈ u_ws Cn T N, w ∈ Ts) (ty0 : Nat → FieldType) (hty : ∀ k, k < N → parseFieldDescriptor (T k).2.2.1 = some (ty0 k)) (hnm : ∀ a, a < N → ∀ b, b < N → a ≠ b → (T a).2.1 ≠ (T b).2.1) (hown : s.vm.findClass own = some m.cls) (hK : va_K D vwCl tys s) (hS0 : va_S (fun q => z ≤ q) H0 H locs) (hz : z ≤ a) {fs : List Value} (he : va_at D vwCl (a, .inr (ci, fs)) H) (hc : vwCl[ci]? = some (Cn, T, N)) (k : Nat) (hk : k < N) (hlink : (Cond.fieldLink own index ref (T k).2.1 (T k).2.2.1).before args s = true) (hsame : ∀ x, s.fieldFound? (T k).1 (T k).2.1 (T k).2.2.1 = some x → s.fieldFound? ref (T k).2.1 (T k).2.2.1 = some x) (hfin : (T k).2.2.2 = true) (hin2 : meth.name = "<init>") (hdecl : (T k).1 = own) {ty : FieldType} {v : Value} (hd : parseFieldDescriptor (T k).2.2.1 = some ty) (hn : narrow ty v = v) (hfit : fits ty v = true) (hl : k < fs.length)
    (hdg : decode cc pc = .ok (.putfield index, 3)) (kk : ∀ (H1 : Heap) (locs1 : List Loc), va_at D vwCl (a, .inr (ci, fs.set k v)) H1 → H1.size = H.size → (∀ q : Nat, q ≠ a → H1[q]? = H[q]?) → va_S (fun q => z ≤ q) H0 H1 locs1 → W p l e R s m args below meth c H1 locs1 cells slots Q (F0 m (pc + 3) ls rest)) : W p l e R s m args below meth c H locs cells slots Q (F0 m pc ls (v :: .ref a :: rest)) := by
  have hap := va_apart (own := own) hts hin ty0 hty hnm hK hc
  obtain ⟨r, h1, cell, q1, q2, q3, q4⟩ := he
  have hr : r = (Cn, T, N) := Option.some.inj (h1.symm.trans hc)
  subst hr
  obtain ⟨hS, hfc, kC, hkC, hkind⟩ := hK.1 ci _ hc
  obtain ⟨cf, kf, fi, f, hi, hsl⟩ := hS k hk
  have hlay := hts _ (hin _ (u_in_lay hk))
  unfold u_lay at hlay
  rw [if_pos hfin] at hlay
  have hst := (u_facts hfc hkC (u_lays hts hin hk) hi).1
  have hcf : m.cls = cf := by
    obtain ⟨_, _, c', _, _, _, -, -, hf', -, -, -, hown2, -⟩ := Cond.laysFinal_spec hlay
    have e1 : c' = cf := by have := hi.symm.trans hf'; simp at this; exact this.1.symm
    rw [hdecl] at hown2
    rw [← e1]; exact Option.some.inj (hown.symm.trans hown2)
  have h6 := u_fits hfc hkC hkind (Or.inr hlay) hi hd hn hfit
  refine W.putFinK hexec hb hown hlink (hsame _ hi) hst hcf hin2 (by rw [q2]; exact h6) q1 q3 (by rw [hsl]; exact k2_hasslot (q4 k hk)) rfl rfl hdg fun H' e1 e2 e3 => ?_
  rw [hsl] at e1 ⊢
  exact kk H' _ ⟨_, hc, t_OB.to (V := updV (vp_V fs) k v) ⟨_, e1, q2, q3, t_set q4 hap hk v⟩ (fun j _ => vp_updV_set hl v j)⟩ e2 e3 (hS0.put e2 e3 hz)
/-- putfield in the labelled world -/
theorem cy_put (hexec : p.tables.exec = Jvm.exec) (hb : c.code = cc) {own ref Cn : String} {T : u_T} {N ci index : Nat} {Ts : List Cond} (hts : ∀ w ∈ Ts, w.before args s = true) (hin : ∀ w ∈ u_ws Cn T N, w ∈ Ts) (ty0 : Nat → FieldType) (hty : ∀ k, k < N → parseFieldDescriptor (T k).2.2.1 = some (ty0 k)) (hnm : ∀ a, a < N → ∀ b, b < N → a ≠ b → (T a).2.1 ≠ (T b).2.1) (hown : s.vm.findClass own = some m.cls) (hK : va_K D vwCl tys s) (hI : cy_W D z C ad H) (hS0 : va_S (fun q => z ≤ q) H0 H locs) {x : Nat} {fs : List Value} (he : C x = some (.inr (ci, fs))) (hc : vwCl[ci]? = some (Cn, T, N)) (k : Nat) (hk : k < N) (hlink : (Cond.fieldLink own index ref (T k).2.1 (T k).2.2.1).before args s = true) (hsame : ∀ x, s.fieldFound? (T k).1 (T k).2.1 (T k).2.2.1 = some x → s.fieldFound? ref (T k).2.1 (T k).2.2.1 = some x) (hfin : (T k).2.2.2 = false) {ty : FieldType} {v : Value} (hd : parseFieldDescriptor (T k).2.2.1 = some ty) (hn : narrow ty v = v) (hfit : fits ty v = true) (hl : k < fs.length)
    (hdg : decode cc pc = .ok (.putfield index, 3)) (hU : ∀ j, C' j = if j = x then some (.inr (ci, fs.set k v)) else C j) (kk : ∀ (H1 : Heap) (locs1 : List Loc), cy_W D z C' ad H1 → va_S (fun q => z ≤ q) H0 H1 locs1 → W p l e R s m args below meth c H1 locs1 cells slots Q (F0 m (pc + 3) ls rest)) : W p l e R s m args below meth c H locs cells slots Q (F0 m pc ls (v :: .ref (ad x) :: rest)) :=
  cy_putR hexec hb hts hin ty0 hty hnm hown hK hS0 (hI.1 x _ he).2 (hI.1 x _ he).1 hc k hk hlink hsame hfin hd hn hfit hl hdg (fun H1 locs1 h1 _ oq hS => kk H1 locs1 (hI.upd he hU h1 oq) hS)
/-- iastore in the labelled world -/
theorem cy_iast (hexec : p.tables.exec = Jvm.exec) (hb : c.code = cc) (hK : va_K D vwCl tys s) (hI : cy_W D z C ad H) (hS : va_S (fun q => z ≤ q) H0 H locs) (t0 : Nat) {x : Nat} {cA : ClassId} {n : Nat} {f : Nat → Int32} (he : C x = some (.inl (cA, n, .inl f))) (ht : tys[t0]? = some (cA, .int)) {i v : Int32} (hin : vp_in i n) (hdg : decode cc pc = .ok (.iastore, 1))
    (hU : ∀ j, C' j = if j = x then some (.inl (cA, n, .inl (va_up f i.toNatClampNeg v))) else C j) (kk : ∀ (H1 : Heap) (locs1 : List Loc), cy_W D z C' ad H1 → va_S (fun q => z ≤ q) H0 H1 locs1 → W p l e R s m args below meth c H1 locs1 cells slots Q (F0 m (pc + 1) ls rest)) : W p l e R s m args below meth c H locs cells slots Q (F0 m pc ls (.int v :: .int i :: .ref (ad x) :: rest)) := by
  refine W.iast hexec hb (hI.1 x _ he).1 ((hK.2 t0 _ ht).1 n (fun j => .int (f j))) (fun q => by cases q) (by show ¬ (i < 0 ∨ (arrV _ _ _).slots.size ≤ _); rw [arrV_size]; exact hin) rfl rfl hdg fun H1 e z oq => ?_
  refine kk H1 _ (hI.upd he hU ?_ oq) (hS.put z oq (hI.1 x _ he).2)
  show H1[ad x]? = some (vp_cell _ _)
  rw [e]
  rw [vp_cell_i, vp_cell_i, arrV_store]
  congr 2
  funext q
  by_cases hq : q = i.toNatClampNeg
  · subst hq
    simp [updV, va_up]
  · simp [updV, va_up, hq]
/-- lastore in the labelled world -/
theorem cy_last (hexec : p.tables.exec = Jvm.exec) (hb : c.code = cc) (hK : va_K D vwCl tys s) (hI : cy_W D z C ad H) (hS : va_S (fun q => z ≤ q) H0 H locs) (t0 : Nat) {x : Nat} {cA : ClassId} {n : Nat} {f : Nat → Int64} (he : C x = some (.inl (cA, n, .inr (.inl f)))) (ht : tys[t0]? = some (cA, .long)) {i : Int32} {v : Int64} (hin : vp_in i n) (hdg : decode cc pc = .ok (.lastore, 1))
    (hU : ∀ j, C' j = if j = x then some (.inl (cA, n, .inr (.inl (va_up f i.toNatClampNeg v)))) else C j) (kk : ∀ (H1 : Heap) (locs1 : List Loc), cy_W D z C' ad H1 → va_S (fun q => z ≤ q) H0 H1 locs1 → W p l e R s m args below meth c H1 locs1 cells slots Q (F0 m (pc + 1) ls rest)) : W p l e R s m args below meth c H locs cells slots Q (F0 m pc ls (.long v :: .int i :: .ref (ad x) :: rest)) := by
  refine W.last hexec hb (hI.1 x _ he).1 ((hK.2 t0 _ ht).1 n (fun j => .long (f j))) (fun q => by cases q) (by show ¬ (i < 0 ∨ (arrV _ _ _).slots.size ≤ _); rw [arrV_size]; exact hin) rfl rfl hdg fun H1 e z oq => ?_
  refine kk H1 _ (hI.upd he hU ?_ oq) (hS.put z oq (hI.1 x _ he).2)
  show H1[ad x]? = some (vp_cell _ _)
  rw [e]
  rw [vp_cell_l, vp_cell_l, arrV_store]
  congr 2
  funext q
  by_cases hq : q = i.toNatClampNeg
  · subst hq
    simp [updV, va_up]
  · simp [updV, va_up, hq]
/-- aastore of an object in the labelled world -/
theorem cy_aast (hexec : p.tables.exec = Jvm.exec) (hb : c.code = cc) (hK : va_K D vwCl tys s) (hI : cy_W D z C ad H) (hS : va_S (fun q => z ≤ q) H0 H locs) (t0 : Nat) {x : Nat} {E : String} {cA : ClassId} {n v : Nat} {f : Nat → Option Nat} (he : C x = some (.inl (cA, n, .inr (.inr (.inr (.inr f)))))) (ht : tys[t0]? = some (cA, .object E)) (hr : va_Any E s H v) {i : Int32} (hin : vp_in i n) (hdg : decode cc pc = .ok (.aastore, 1))
    (hU : ∀ j, C' j = if j = x then some (.inl (cA, n, .inr (.inr (.inr (.inr (va_up f i.toNatClampNeg (some v))))))) else C j) (kk : ∀ (H1 : Heap) (locs1 : List Loc), cy_W D z C' ad H1 → va_S (fun q => z ≤ q) H0 H1 locs1 → W p l e R s m args below meth c H1 locs1 cells slots Q (F0 m (pc + 1) ls rest)) : W p l e R s m args below meth c H locs cells slots Q (F0 m pc ls (.ref v :: .int i :: .ref (ad x) :: rest)) := by
  have hlt : i.toNatClampNeg < n := Nat.not_le.mp fun q => hin (Or.inr q)
  have h0 : ¬ i < 0 := fun q => hin (Or.inl q)
  obtain ⟨cellV, g1, g3, ⟨kC, hkC⟩, hasg⟩ := hr
  obtain ⟨kA, comp, k1, k2, k3, -⟩ := (hK.2 t0 _ ht).2
  obtain ⟨kE, hkE, -⟩ := Vm.findClass_spec k3
  refine W.aast hexec hb (hI.1 x _ he).1 (fun q h => by cases h) (fun h => by cases h) k1 k2 rfl hkE ⟨h0, by show _ < (arrV _ _ _).slots.size; rw [arrV_size]; exact hlt⟩ g1 (fun q h => by rw [h] at g3; cases g3) hkC (hasg _ k3) rfl rfl hdg fun H1 e z oq => ?_
  refine kk H1 _ (hI.upd he hU ?_ oq) (hS.put z oq (hI.1 x _ he).2)
  show H1[ad x]? = some (vp_cell _ _)
  rw [e]
  rw [vp_cell_q, vp_cell_q, arrV_store]
  congr 2
  funext q
  by_cases hq : q = i.toNatClampNeg
  · subst hq
    simp [updV, va_up, va_rf]
  · simp [updV, va_up, hq]
/-- aastore of null in the labelled world -/
theorem cy_aastN (hexec : p.tables.exec = Jvm.exec) (hb : c.code = cc) (hK : va_K D vwCl tys s) (hI : cy_W D z C ad H) (hS : va_S (fun q => z ≤ q) H0 H locs) (t0 : Nat) {x : Nat} {E : String} {cA : ClassId} {n : Nat} {f : Nat → Option Nat} (he : C x = some (.inl (cA, n, .inr (.inr (.inr (.inr f)))))) (ht : tys[t0]? = some (cA, .object E)) {i : Int32} (hin : vp_in i n) (hdg : decode cc pc = .ok (.aastore, 1))
    (hU : ∀ j, C' j = if j = x then some (.inl (cA, n, .inr (.inr (.inr (.inr (va_up f i.toNatClampNeg none)))))) else C j) (kk : ∀ (H1 : Heap) (locs1 : List Loc), cy_W D z C' ad H1 → va_S (fun q => z ≤ q) H0 H1 locs1 → W p l e R s m args below meth c H1 locs1 cells slots Q (F0 m (pc + 1) ls rest)) : W p l e R s m args below meth c H locs cells slots Q (F0 m pc ls (.null :: .int i :: .ref (ad x) :: rest)) := by
  refine va_WaastN (C := E) hexec hb (hI.1 x _ he).1 ((hK.2 t0 _ ht).1 n (fun j => va_rf (f j))) (fun h => by cases h) (by show ¬ (i < 0 ∨ (arrV _ _ _).slots.size ≤ _); rw [arrV_size]; exact hin) rfl rfl hdg fun H1 e z oq => ?_
  refine kk H1 _ (hI.upd he hU ?_ oq) (hS.put z oq (hI.1 x _ he).2)
  show H1[ad x]? = some (vp_cell _ _)
  rw [e]
  rw [vp_cell_q, vp_cell_q, arrV_store]
  congr 2
  funext q
  by_cases hq : q = i.toNatClampNeg
  · subst hq
    simp [updV, va_up, va_rf]
  · simp [updV, va_up, hq]
/-- new, beside everything -/
theorem cy_new (hexec : p.tables.exec = Jvm.exec) (hb : c.code = cc) {own Cn : String} {T : u_T} {N ci index : Nat} {Ts : List Cond} (hts : ∀ w ∈ Ts, w.before args s = true) (hin : ∀ w ∈ u_ws Cn T N, w ∈ Ts) (ty : Nat → FieldType) (hty : ∀ k, k < N → parseFieldDescriptor (T k).2.2.1 = some (ty k)) (hown : s.vm.findClass own = some m.cls) (hcl : (Cond.classLink own index Cn).before args s = true) (hinst : (Cond.instantiable Cn N).before args s = true) (hini : (Cond.initialized Cn).before args s = true)
    (hK : va_K D vwCl tys s) (hS : va_S (fun q => z ≤ q) H0 H locs) (hc : vwCl[ci]? = some (Cn, T, N)) {fs : List Value} (hfs : ∀ j, j < N → defaultValue (ty j) = vp_V fs j) (hcells : cells + 1 ≤ R.cells) (hslots : slots + N ≤ R.slots) (hdg : decode cc pc = .ok (.new index, 3))
    (kk : ∀ (H1 : Heap), va_at D vwCl (H.size, .inr (ci, fs)) H1 → H1.size = H.size + 1 → (∀ q : Nat, q < H.size → H1[q]? = H[q]?) → va_S (fun q => z ≤ q) H0 H1 locs →
      W p l e R s m args below meth c H1 locs (cells + 1) (slots + N) Q (F0 m (pc + 3) ls (.ref H.size :: rest))) : W p l e R s m args below meth c H locs cells slots Q (F0 m pc ls rest) := by
  have hKn := hK.1 ci _ hc
  refine W.newcK hexec hb hown hcl hinst hini rfl hdg hcells hslots hKn.2.1 rfl fun H1 kC hkC e1 z1 o1 => ?_
  exact kk H1 ⟨_, hc, (u_born ty hts hin hKn hkC e1 hty).to hfs⟩ z1 o1 ⟨Nat.le_trans hS.1 (by omega), fun x h1 h2 => (o1 x (Nat.lt_of_lt_of_le h1 hS.1)).trans (hS.2.1 x h1 h2), hS.2.2⟩
/-- newarray long, beside everything -/
theorem cy_newJ (hexec : p.tables.exec = Jvm.exec) (hb : c.code = cc) (harr : (Cond.arrayClass .long).before args s = true) (hK : va_K D vwCl tys s) {cJ : ClassId} (t0 : Nat) (ht : tys[t0]? = some (cJ, .long)) (hS : va_S (fun q => z ≤ q) H0 H locs) {n : Int32} {N : Nat} (hn : ¬ n < 0) (hN : n.toNatClampNeg = N) (hbytes : N * 8 ≤ 536870912) (hcells : cells + 1 ≤ R.cells) (hslots : slots + N ≤ R.slots) (hdg : decode cc pc = .ok (.newarray .long, 2))
    (kk : ∀ (H1 : Heap), va_at D vwCl (H.size, .inl (cJ, N, .inr (.inl (fun _ => 0)))) H1 → H1.size = H.size + 1 → (∀ q : Nat, q < H.size → H1[q]? = H[q]?) → va_S (fun q => z ≤ q) H0 H1 locs →
      W p l e R s m args below meth c H1 locs (cells + 1) (slots + N) Q (F0 m (pc + 2) ls (.ref H.size :: rest))) : W p l e R s m args below meth c H locs cells slots Q (F0 m pc ls (.int n :: rest)) := by
  refine va_newaK hexec hb (atype := .long) harr rfl hdg rfl hn hN hbytes hcells hslots rfl fun H1 cA e1 z1 o1 hAr hNm => ?_
  have hcA : cA = cJ := by
    have h1 : s.vm.findClass ("[" ++ FieldType.long.toString) = some cJ := (hK.2 t0 _ ht).2
    exact Option.some.inj (hNm.symm.trans h1)
  subst hcA
  exact kk H1 e1 z1 o1 ⟨Nat.le_trans hS.1 (by omega), fun x h1 h2 => (o1 x (Nat.lt_of_lt_of_le h1 hS.1)).trans (hS.2.1 x h1 h2), hS.2.2⟩
/-- anewarray, beside everything -/
theorem cy_newO (hexec : p.tables.exec = Jvm.exec) (hb : c.code = cc) {own Cn : String} {index : Nat} (hown : s.vm.findClass own = some m.cls) (hclink : (Cond.classLink own index Cn).before args s = true) (hover : (Cond.arrayOver (.object Cn)).before args s = true) (hK : va_K D vwCl tys s) {cO : ClassId} (t0 : Nat) (ht : tys[t0]? = some (cO, .object Cn)) (hS : va_S (fun q => z ≤ q) H0 H locs) {n : Int32} {N : Nat} (hn : ¬ n < 0) (hN : n.toNatClampNeg = N) (hbytes : N * 4 ≤ 536870912) (hcells : cells + 1 ≤ R.cells) (hslots : slots + N ≤ R.slots) (hdg : decode cc pc = .ok (.anewarray index, 3))
    (kk : ∀ (H1 : Heap), va_at D vwCl (H.size, .inl (cO, N, .inr (.inr (.inr (.inr (fun _ => none)))))) H1 → H1.size = H.size + 1 → (∀ q : Nat, q < H.size → H1[q]? = H[q]?) → va_S (fun q => z ≤ q) H0 H1 locs →
      W p l e R s m args below meth c H1 locs (cells + 1) (slots + N) Q (F0 m (pc + 3) ls (.ref H.size :: rest))) : W p l e R s m args below meth c H locs cells slots Q (F0 m pc ls (.int n :: rest)) := by
  subst hN
  refine W.anew hexec hb hown hclink hover rfl hdg rfl hn hbytes hcells hslots fun cA kA comp f1 f2 f3 f4 => ?_
  have hcA : cA = cO := by
    obtain ⟨kA', comp', k1, k2, k3, k4⟩ := (hK.2 t0 _ ht).2
    exact Option.some.inj (f1.symm.trans k4)
  subst hcA
  generalize hH1 : H.push ({ cls := cA, slots := Array.replicate n.toNatClampNeg .null, vm := .none } : Cell) = H1
  have z1 : H1.size = H.size + 1 := by rw [← hH1, Array.size_push]
  have e1 : H1[H.size]? = some (arrV cA n.toNatClampNeg (fun _ => .null)) := by rw [← hH1, Array.getElem?_push_size, ← arrV_new]
  have o1 : ∀ q : Nat, q < H.size → H1[q]? = H[q]? := fun q hq => by rw [← hH1, Array.getElem?_push, if_neg (Nat.ne_of_lt hq)]
  refine kk H1 ?_ z1 o1 ⟨Nat.le_trans hS.1 (by omega), fun x h1 h2 => (o1 x (Nat.lt_of_lt_of_le h1 hS.1)).trans (hS.2.1 x h1 h2), hS.2.2⟩
  show H1[H.size]? = some (vp_cell _ _)
  rw [vp_cell_q]
  exact e1
end CYR
end
section
def cy_b (x : Bool) : Int32 := if x then 1 else 0
def cy_fY (σ : cy_S) (ad : Nat → Nat) : List Value := [.ref (ad 1), .int (σ.1 0 0), .ref (ad 2), .ref (ad 3), .ref (ad 4), .ref (ad 5), .ref (ad 6), .int (σ.1 0 1), .int (σ.1 0 2), .int (σ.1 0 3), .int (σ.1 0 4), .int (σ.1 0 5), .int (σ.1 0 6)]
def cy_fT (τ : cy_S) (hi : Int32) (ad : Nat → Nat) : List Value := [.int (τ.1 0 0), .ref (ad 21), .ref (ad 22), .ref (ad 23), .ref (ad 24), .ref (ad 25), .ref (ad 26), .ref (ad 27), .ref (ad 28), .int (τ.1 0 1), .ref (ad 29), .ref (ad 30), .int (τ.1 0 2), .int (τ.1 0 3), .int (τ.1 0 4), .int (τ.1 0 5), .int (τ.1 0 6), .ref (ad 31), .int hi]
section CYU
variable {cI cJ cO : ClassId} {n na : Nat} {σ τ : cy_S} {pl : Nat → Int32} {hi : Int32} {ad : Nat → Nat}
theorem cy_CY : cy_CT cI cJ cO n na σ τ pl hi ad 0 = some (.inr (3, cy_fY σ ad)) := rfl
theorem cy_CR : cy_CT cI cJ cO n na σ τ pl hi ad 20 = some (.inr (4, cy_fT τ hi ad)) := rfl
/-- another yard: the label that changes is one of its own -/
theorem cy_hY {σ' : cy_S} {na' : Nat} (x : Nat) (hx : x < 7) {e : va_E} (he : cy_Y cI cJ cO na' σ' ad x = e) (h : ∀ i, i < 7 → i ≠ x → cy_Y cI cJ cO na' σ' ad i = cy_Y cI cJ cO na σ ad i) (ho : ∀ k, k < n → cy_ob σ' ad k = cy_ob σ ad k) (ha : ∀ k, k < n → cy_ar cJ cO σ' ad k = cy_ar cJ cO σ ad k) : ∀ j, cy_CT cI cJ cO n na' σ' τ pl hi ad j = if j = x then some e else cy_CT cI cJ cO n na σ τ pl hi ad j := by
  intro j
  subst he
  unfold cy_CT
  by_cases h7 : j < 7
  · rw [if_pos h7, if_pos h7]
    by_cases hj : j = x
    · rw [if_pos hj, hj]
    · rw [if_neg hj, h j h7 hj]
  · rw [if_neg h7, if_neg h7, if_neg (show ¬ j = x by omega)]
    by_cases hk : (j - 100) / 2 < n
    · rw [if_pos hk, if_pos hk, ho _ hk, ha _ hk]
    · rw [if_neg hk, if_neg hk]
/-- another reference -/
theorem cy_hT {τ' : cy_S} {pl' : Nat → Int32} {hi' : Int32} (x : Nat) (hx : x < 12) {e : va_E} (he : cy_T cI cJ τ' pl' hi' ad x = e) (h : ∀ i, i < 12 → i ≠ x → cy_T cI cJ τ' pl' hi' ad i = cy_T cI cJ τ pl hi ad i) : ∀ j, cy_CT cI cJ cO n na σ τ' pl' hi' ad j = if j = 20 + x then some e else cy_CT cI cJ cO n na σ τ pl hi ad j := by
  intro j
  subst he
  unfold cy_CT
  by_cases h1 : 20 ≤ j ∧ j < 32
  · rw [if_neg (show ¬ j < 7 by omega), if_neg (show ¬ j < 20 by omega), if_pos h1.2, if_neg (show ¬ j < 7 by omega), if_neg (show ¬ j < 20 by omega), if_pos h1.2]
    by_cases hj : j = 20 + x
    · rw [if_pos hj, hj, show 20 + x - 20 = x by omega]
    · rw [if_neg hj, h (j - 20) (by omega) (by omega)]
  · rw [if_neg (show ¬ j = 20 + x by omega)]
    by_cases h2 : j < 20
    · rw [if_pos h2, if_pos h2]
    · rw [if_neg (show ¬ j < 32 by omega), if_neg (show ¬ j < 32 by omega)]
/-- another row of a load -/
theorem cy_hA {σ' : cy_S} (k : Nat) (hk : k < n) {e : va_E} (he : cy_ar cJ cO σ' ad k = some e) (h : ∀ i, i < 7 → cy_Y cI cJ cO na σ' ad i = cy_Y cI cJ cO na σ ad i) (ho : ∀ i, i < n → cy_ob σ' ad i = cy_ob σ ad i) (ha : ∀ i, i < n → i ≠ k → cy_ar cJ cO σ' ad i = cy_ar cJ cO σ ad i) : ∀ j, cy_CT cI cJ cO n na σ' τ pl hi ad j = if j = 101 + 2 * k then some e else cy_CT cI cJ cO n na σ τ pl hi ad j := by
  intro j
  by_cases hj : j = 101 + 2 * k
  · rw [if_pos hj, hj, cy_CT_ar _ _ _ _ _ _ _ _ _ hk, he]
  · rw [if_neg hj]
    unfold cy_CT
    by_cases h7 : j < 7
    · rw [if_pos h7, if_pos h7, h j h7]
    · rw [if_neg h7, if_neg h7]
      by_cases h2 : j < 20
      · rw [if_pos h2, if_pos h2]
      · rw [if_neg h2, if_neg h2]
        by_cases h3 : j < 32
        · rw [if_pos h3, if_pos h3]
        · rw [if_neg h3, if_neg h3]
          by_cases h4 : j < 100
          · rw [if_pos h4, if_pos h4]
          · rw [if_neg h4, if_neg h4]
            by_cases h5 : (j - 100) / 2 < n
            · rw [if_pos h5, if_pos h5, ho _ h5]
              by_cases h6 : j % 2 = 0
              · rw [if_pos h6, if_pos h6]
              · rw [if_neg h6, if_neg h6, ha _ h5 (by omega)]
            · rw [if_neg h5, if_neg h5]
theorem cy_lt7 {P : Nat → Prop} (h0 : P 0) (h1 : P 1) (h2 : P 2) (h3 : P 3) (h4 : P 4) (h5 : P 5) (h6 : P 6) : ∀ i, i < 7 → P i := by
  intro i hi
  rcases (show i = 0 ∨ i = 1 ∨ i = 2 ∨ i = 3 ∨ i = 4 ∨ i = 5 ∨ i = 6 by omega) with rfl | rfl | rfl | rfl | rfl | rfl | rfl <;> assumption
theorem cy_lt12 {P : Nat → Prop} (h0 : P 0) (h1 : P 1) (h2 : P 2) (h3 : P 3) (h4 : P 4) (h5 : P 5) (h6 : P 6) (h7 : P 7) (h8 : P 8) (h9 : P 9) (h10 : P 10) (h11 : P 11) : ∀ i, i < 12 → P i := by
  intro i hi
  rcases (show i = 0 ∨ i = 1 ∨ i = 2 ∨ i = 3 ∨ i = 4 ∨ i = 5 ∨ i = 6 ∨ i = 7 ∨ i = 8 ∨ i = 9 ∨ i = 10 ∨ i = 11 by omega) with rfl | rfl | rfl | rfl | rfl | rfl | rfl | rfl | rfl | rfl | rfl | rfl <;> assumption
/-- the yard's numbers -/
theorem cy_hY0 (i : Nat) (v : Int32) : ∀ j, cy_CT cI cJ cO n na (cy_i σ 0 i v) τ pl hi ad j = if j = 0 then some (.inr (3, cy_fY (cy_i σ 0 i v) ad)) else cy_CT cI cJ cO n na σ τ pl hi ad j :=
  cy_hY 0 (by decide) rfl (cy_lt7 (fun h => absurd rfl h) (fun _ => rfl) (fun _ => rfl) (fun _ => rfl) (fun _ => rfl) (fun _ => rfl) (fun _ => rfl)) (fun _ _ => rfl) (fun _ _ => rfl)
/-- the reference's numbers -/
theorem cy_hT0 (i : Nat) (v : Int32) : ∀ j, cy_CT cI cJ cO n na σ (cy_i τ 0 i v) pl hi ad j = if j = 20 then some (.inr (4, cy_fT (cy_i τ 0 i v) hi ad)) else cy_CT cI cJ cO n na σ τ pl hi ad j :=
  cy_hT 0 (by decide) rfl (cy_lt12 (fun h => absurd rfl h) (fun _ => rfl) (fun _ => rfl) (fun _ => rfl) (fun _ => rfl) (fun _ => rfl) (fun _ => rfl) (fun _ => rfl) (fun _ => rfl) (fun _ => rfl) (fun _ => rfl) (fun _ => rfl))
theorem cy_hTh (v : Int32) : ∀ j, cy_CT cI cJ cO n na σ τ pl v ad j = if j = 20 then some (.inr (4, cy_fT τ v ad)) else cy_CT cI cJ cO n na σ τ pl hi ad j :=
  cy_hT 0 (by decide) rfl (cy_lt12 (fun h => absurd rfl h) (fun _ => rfl) (fun _ => rfl) (fun _ => rfl) (fun _ => rfl) (fun _ => rfl) (fun _ => rfl) (fun _ => rfl) (fun _ => rfl) (fun _ => rfl) (fun _ => rfl) (fun _ => rfl))
end CYU
section CYG
variable {p : Program} {l : Launch} {e : Env} {R : Room} {s : State} {m : MethodId} {args : Array Value} {below : List Frame} {meth : Method} {c : Code} {H : Heap} {locs : List Loc} {cells slots : Nat} {Q : State → Prop}
variable {cc : ByteArray} {pc : Nat} {ls : Array Slot} {rest : List Value} {D : va_G} {z : Nat} {H0 : Heap}
variable {cI cJ cO : ClassId} {n na : Nat} {σ τ : cy_S} {pl : Nat → Int32} {hi : Int32} {ad : Nat → Nat}
theorem cy_getY (hexec : p.tables.exec = Jvm.exec) (hb : c.code = cc) {own : String} {index : Nat} {Ts : List Cond} (hts : ∀ w ∈ Ts, w.before args s = true) (hin : ∀ w ∈ u_ws RX4 TX4 13, w ∈ Ts) (hown : s.vm.findClass own = some m.cls) (hK : cy_K D cI cJ cO s) (hI : cy_W D z (cy_CT cI cJ cO n na σ τ pl hi ad) ad H) (k : Nat) (hk : k < 13) (hlink : (Cond.fieldLink own index (TX4 k).1 (TX4 k).2.1 (TX4 k).2.2.1).before args s = true) {v : Value} (hv : (cy_fY σ ad)[k]? = some v) (hdg : decode cc pc = .ok (.getfield index, 3))
    (kk : W p l e R s m args below meth c H locs cells slots Q (F0 m (pc + 3) ls (v :: rest))) : W p l e R s m args below meth c H locs cells slots Q (F0 m pc ls (.ref (ad 0) :: rest)) :=
  va_get (D := D) (ci := 3) (v := v) (C := RX4) (T := TX4) (N := 13) hexec hb hts hin hown hK.1 (hI.one cy_CY) 0 rfl rfl k hk hlink (fun _ h9 => h9) hv hdg kk
theorem cy_getT (hexec : p.tables.exec = Jvm.exec) (hb : c.code = cc) {own : String} {index : Nat} {Ts : List Cond} (hts : ∀ w ∈ Ts, w.before args s = true) (hin : ∀ w ∈ u_ws RX5 TX5 19, w ∈ Ts) (hown : s.vm.findClass own = some m.cls) (hK : cy_K D cI cJ cO s) (hI : cy_W D z (cy_CT cI cJ cO n na σ τ pl hi ad) ad H) (k : Nat) (hk : k < 19) (hlink : (Cond.fieldLink own index (TX5 k).1 (TX5 k).2.1 (TX5 k).2.2.1).before args s = true) {v : Value} (hv : (cy_fT τ hi ad)[k]? = some v) (hdg : decode cc pc = .ok (.getfield index, 3))
    (kk : W p l e R s m args below meth c H locs cells slots Q (F0 m (pc + 3) ls (v :: rest))) : W p l e R s m args below meth c H locs cells slots Q (F0 m pc ls (.ref (ad 20) :: rest)) :=
  va_get (D := D) (ci := 4) (v := v) (C := RX5) (T := TX5) (N := 19) hexec hb hts hin hown hK.1 (hI.one cy_CR) 0 rfl rfl k hk hlink (fun _ h9 => h9) hv hdg kk
theorem cy_putY (hexec : p.tables.exec = Jvm.exec) (hb : c.code = cc) {own : String} {index : Nat} {Ts : List Cond} (hts : ∀ w ∈ Ts, w.before args s = true) (hin : ∀ w ∈ u_ws RX4 TX4 13, w ∈ Ts) (hown : s.vm.findClass own = some m.cls) (hK : cy_K D cI cJ cO s) (hI : cy_W D z (cy_CT cI cJ cO n na σ τ pl hi ad) ad H) (hS0 : va_S (fun q => z ≤ q) H0 H locs) (k i : Nat) (hk : k < 13) (hlink : (Cond.fieldLink own index (TX4 k).1 (TX4 k).2.1 (TX4 k).2.2.1).before args s = true) (hfin : (TX4 k).2.2.2 = false) (hd : parseFieldDescriptor (TX4 k).2.2.1 = some .int) {v : Int32} (hs : (cy_fY σ ad).set k (.int v) = cy_fY (cy_i σ 0 i v) ad) (hdg : decode cc pc = .ok (.putfield index, 3))
    (kk : ∀ (H1 : Heap) (locs1 : List Loc), cy_W D z (cy_CT cI cJ cO n na (cy_i σ 0 i v) τ pl hi ad) ad H1 → va_S (fun q => z ≤ q) H0 H1 locs1 → W p l e R s m args below meth c H1 locs1 cells slots Q (F0 m (pc + 3) ls rest)) : W p l e R s m args below meth c H locs cells slots Q (F0 m pc ls (.int v :: .ref (ad 0) :: rest)) :=
  cy_put (ci := 3) (Cn := RX4) (T := TX4) (N := 13) hexec hb hts hin tyX4 tyX4_ok nmX4 hown hK.1 hI hS0 (x := 0) cy_CY rfl k hk hlink (fun _ h9 => h9) hfin hd rfl rfl hk hdg (by rw [hs]; exact cy_hY0 i v) kk
theorem cy_putT (hexec : p.tables.exec = Jvm.exec) (hb : c.code = cc) {own : String} {index : Nat} {Ts : List Cond} (hts : ∀ w ∈ Ts, w.before args s = true) (hin : ∀ w ∈ u_ws RX5 TX5 19, w ∈ Ts) (hown : s.vm.findClass own = some m.cls) (hK : cy_K D cI cJ cO s) (hI : cy_W D z (cy_CT cI cJ cO n na σ τ pl hi ad) ad H) (hS0 : va_S (fun q => z ≤ q) H0 H locs) (k i : Nat) (hk : k < 19) (hlink : (Cond.fieldLink own index (TX5 k).1 (TX5 k).2.1 (TX5 k).2.2.1).before args s = true) (hfin : (TX5 k).2.2.2 = false) (hd : parseFieldDescriptor (TX5 k).2.2.1 = some .int) {v : Int32} (hs : (cy_fT τ hi ad).set k (.int v) = cy_fT (cy_i τ 0 i v) hi ad) (hdg : decode cc pc = .ok (.putfield index, 3))
    (kk : ∀ (H1 : Heap) (locs1 : List Loc), cy_W D z (cy_CT cI cJ cO n na σ (cy_i τ 0 i v) pl hi ad) ad H1 → va_S (fun q => z ≤ q) H0 H1 locs1 → W p l e R s m args below meth c H1 locs1 cells slots Q (F0 m (pc + 3) ls rest)) : W p l e R s m args below meth c H locs cells slots Q (F0 m pc ls (.int v :: .ref (ad 20) :: rest)) :=
  cy_put (ci := 4) (Cn := RX5) (T := TX5) (N := 19) hexec hb hts hin tyX5 tyX5_ok nmX5 hown hK.1 hI hS0 (x := 20) cy_CR rfl k hk hlink (fun _ h9 => h9) hfin hd rfl rfl hk hdg (by rw [hs]; exact cy_hT0 i v) kk
theorem cy_putH (hexec : p.tables.exec = Jvm.exec) (hb : c.code = cc) {own : String} {index : Nat} {Ts : List Cond} (hts : ∀ w ∈ Ts, w.before args s = true) (hin : ∀ w ∈ u_ws RX5 TX5 19, w ∈ Ts) (hown : s.vm.findClass own = some m.cls) (hK : cy_K D cI cJ cO s) (hI : cy_W D z (cy_CT cI cJ cO n na σ τ pl hi ad) ad H) (hS0 : va_S (fun q => z ≤ q) H0 H locs) (hlink : (Cond.fieldLink own index (TX5 18).1 (TX5 18).2.1 (TX5 18).2.2.1).before args s = true) {v : Int32} (hdg : decode cc pc = .ok (.putfield index, 3))
    (kk : ∀ (H1 : Heap) (locs1 : List Loc), cy_W D z (cy_CT cI cJ cO n na σ τ pl v ad) ad H1 → va_S (fun q => z ≤ q) H0 H1 locs1 → W p l e R s m args below meth c H1 locs1 cells slots Q (F0 m (pc + 3) ls rest)) : W p l e R s m args below meth c H locs cells slots Q (F0 m pc ls (.int v :: .ref (ad 20) :: rest)) :=
  cy_put (ci := 4) (Cn := RX5) (T := TX5) (N := 19) hexec hb hts hin tyX5 tyX5_ok nmX5 hown hK.1 hI hS0 (x := 20) cy_CR rfl 18 (by decide) hlink (fun _ h9 => h9) rfl (ty := .int) (by decide +kernel) rfl rfl (show 18 < 19 by decide) hdg (cy_hTh v) kk
end CYG
end
section
theorem cy_nb (x : Bool) : narrow .boolean (.int (cy_b x)) = .int (cy_b x) := by cases x <;> rfl
def cy_isIn (v a b : Int32) : Bool := !decide (v < a) && !decide (b < v)
/-- GOES AS -/
def cy_go (s v : Int32) : Bool := decide (s = v) || decide (s = 5 ∧ (v = 4 ∨ v = 13)) || decide (s = 6 ∧ v = 13) || decide (s = 8 ∧ (v = 7 ∨ v = 9)) || decide (s = 11 ∧ (v = 10 ∨ v = 12))
def cy_sg (s : Int32) : Bool := cy_isIn s 4 6
def cy_nu (s : Int32) : Bool := cy_isIn s 0 2
def cy_th (s : Int32) : Bool := decide (s = 3) || cy_isIn s 7 12
def cy_vw (v : Int32) : Bool := cy_isIn v 0 13
def cy_gt (v : Int32) : Bool := cy_isIn v 0 5
def cy_wa (s : Int32) : Int32 := if s = 3 then 0 else if s < 9 then 4 else if s = 9 then 13 else if s = 12 then 9 else 7
def cy_ha (s : Int32) : Int32 := if s = 8 then 5 else if s = 11 then 8 else cy_wa s
/-- a call's start: nothing is refused -/
def cy_z (σ : cy_S) : cy_S := cy_i σ 0 2 0
/-- a refusal -/
def cy_no (σ : cy_S) (w : Int32) : cy_S := cy_i (cy_i (cy_i (cy_i σ 0 2 w) 0 3 (σ.1 0 3 + cy_b (decide (w = -4)))) 0 4 (σ.1 0 4 + cy_b (decide (w = -5)))) 0 5 (σ.1 0 5 + cy_b (decide (w = -6)))
/-- there is such a load -/
def cy_ld (n : Nat) (l : Int32) : Bool := cy_isIn l 0 (nI n - 1)
theorem cy_ld_iff {n : Nat} (hn : n ≤ 80) (l : Int32) : cy_ld n l = true ↔ ∃ k : Nat, k < n ∧ l = nI k := by
  have e1 : (nI n - 1).toInt = (n : Int) - 1 := pk_sub_toInt (a := n) (b := 1) (by omega) (by omega)
  unfold cy_ld cy_isIn
  rw [Bool.and_eq_true, Bool.not_eq_true', Bool.not_eq_true', decide_eq_false_iff_not, decide_eq_false_iff_not]
  constructor
  · intro ⟨h1, h2⟩
    obtain ⟨j, hj, rfl⟩ := nI_of h1
    refine ⟨j, ?_, rfl⟩
    rw [Int32.lt_iff_toInt_lt, e1, nI_toInt hj] at h2
    omega
  · intro ⟨k, hk, e⟩
    subst e
    refine ⟨nI_pos (by omega), ?_⟩
    rw [Int32.lt_iff_toInt_lt, e1, nI_toInt (by omega)]
    omega
theorem cy_ld_k {n : Nat} (hn : n ≤ 80) {k : Nat} (hk : k < n) : cy_ld n (nI k) = true := (cy_ld_iff hn _).mpr ⟨k, hk, rfl⟩
/-- there is such a place, p of them -/
def cy_pl (p i : Int32) : Bool := cy_isIn i 0 (p - 1)
theorem cy_pl_iff {p : Nat} (hp : p ≤ 80) (i : Int32) : cy_pl (nI p) i = true ↔ ∃ k : Nat, k < p ∧ i = nI k := cy_ld_iff hp i
/-- what comes of taking load k as a view that it goes as -/
def cy_co (σ : cy_S) (k : Nat) (v : Int32) : Int32 := if cy_sg (σ.1 1 k) = false then σ.1 2 k else if ¬ v = 13 then σ.1 3 k else if σ.1 1 k = 5 then σ.1 3 k + 1000 else 2 * σ.1 3 k
def cy_cn (σ : cy_S) (v : Int32) : Int32 := if v = 0 then σ.1 0 0 else if v = 1 then σ.1 0 3 else if v = 2 then σ.1 0 4 else if v = 3 then σ.1 0 5 else if v = 4 then σ.1 0 6 else if v = 5 then σ.1 0 1 else -2
theorem cy_sw5_11 (x : Int32) : x = 5 ∨ x = 6 ∨ x = 7 ∨ x = 8 ∨ x = 9 ∨ x = 10 ∨ x = 11 ∨ ((x.toInt < 5 ∨ 11 < x.toInt) ∧ ¬ x = 5 ∧ ¬ x = 6 ∧ ¬ x = 7 ∧ ¬ x = 8 ∧ ¬ x = 9 ∧ ¬ x = 10 ∧ ¬ x = 11) := by
  have key : ∀ c : Int32, x.toInt = c.toInt → x = c := fun c h => Int32.toInt_inj.mp h
  by_cases h1 : x.toInt < 5 ∨ 11 < x.toInt
  · exact Or.inr (Or.inr (Or.inr (Or.inr (Or.inr (Or.inr (Or.inr (⟨h1, fun q => by subst q; revert h1; decide, fun q => by subst q; revert h1; decide, fun q => by subst q; revert h1; decide, fun q => by subst q; revert h1; decide, fun q => by subst q; revert h1; decide, fun q => by subst q; revert h1; decide, fun q => by subst q; revert h1; decide⟩)))))))
  · rcases (show x.toInt = 5 ∨ x.toInt = 6 ∨ x.toInt = 7 ∨ x.toInt = 8 ∨ x.toInt = 9 ∨ x.toInt = 10 ∨ x.toInt = 11 by omega) with h | h | h | h | h | h | h
    · exact Or.inl (key 5 h)
    · exact Or.inr (Or.inl (key 6 h))
    · exact Or.inr (Or.inr (Or.inl (key 7 h)))
    · exact Or.inr (Or.inr (Or.inr (Or.inl (key 8 h))))
    · exact Or.inr (Or.inr (Or.inr (Or.inr (Or.inl (key 9 h)))))
    · exact Or.inr (Or.inr (Or.inr (Or.inr (Or.inr (Or.inl (key 10 h))))))
    · exact Or.inr (Or.inr (Or.inr (Or.inr (Or.inr (Or.inr (Or.inl (key 11 h)))))))
theorem cy_sw3_11 (x : Int32) : x = 3 ∨ x = 4 ∨ x = 5 ∨ x = 6 ∨ x = 7 ∨ x = 8 ∨ x = 9 ∨ x = 10 ∨ x = 11 ∨ ((x.toInt < 3 ∨ 11 < x.toInt) ∧ ¬ x = 3 ∧ ¬ x = 4 ∧ ¬ x = 5 ∧ ¬ x = 6 ∧ ¬ x = 7 ∧ ¬ x = 8 ∧ ¬ x = 9 ∧ ¬ x = 10 ∧ ¬ x = 11) := by
  have key : ∀ c : Int32, x.toInt = c.toInt → x = c := fun c h => Int32.toInt_inj.mp h
  by_cases h1 : x.toInt < 3 ∨ 11 < x.toInt
  · exact Or.inr (Or.inr (Or.inr (Or.inr (Or.inr (Or.inr (Or.inr (Or.inr (Or.inr (⟨h1, fun q => by subst q; revert h1; decide, fun q => by subst q; revert h1; decide, fun q => by subst q; revert h1; decide, fun q => by subst q; revert h1; decide, fun q => by subst q; revert h1; decide, fun q => by subst q; revert h1; decide, fun q => by subst q; revert h1; decide, fun q => by subst q; revert h1; decide, fun q => by subst q; revert h1; decide⟩)))))))))
  · rcases (show x.toInt = 3 ∨ x.toInt = 4 ∨ x.toInt = 5 ∨ x.toInt = 6 ∨ x.toInt = 7 ∨ x.toInt = 8 ∨ x.toInt = 9 ∨ x.toInt = 10 ∨ x.toInt = 11 by omega) with h | h | h | h | h | h | h | h | h
    · exact Or.inl (key 3 h)
    · exact Or.inr (Or.inl (key 4 h))
    · exact Or.inr (Or.inr (Or.inl (key 5 h)))
    · exact Or.inr (Or.inr (Or.inr (Or.inl (key 6 h))))
    · exact Or.inr (Or.inr (Or.inr (Or.inr (Or.inl (key 7 h)))))
    · exact Or.inr (Or.inr (Or.inr (Or.inr (Or.inr (Or.inl (key 8 h))))))
    · exact Or.inr (Or.inr (Or.inr (Or.inr (Or.inr (Or.inr (Or.inl (key 9 h)))))))
    · exact Or.inr (Or.inr (Or.inr (Or.inr (Or.inr (Or.inr (Or.inr (Or.inl (key 10 h))))))))
    · exact Or.inr (Or.inr (Or.inr (Or.inr (Or.inr (Or.inr (Or.inr (Or.inr (Or.inl (key 11 h)))))))))
theorem cy_sw0_5 (x : Int32) : x = 0 ∨ x = 1 ∨ x = 2 ∨ x = 3 ∨ x = 4 ∨ x = 5 ∨ ((x.toInt < 0 ∨ 5 < x.toInt) ∧ ¬ x = 0 ∧ ¬ x = 1 ∧ ¬ x = 2 ∧ ¬ x = 3 ∧ ¬ x = 4 ∧ ¬ x = 5) := by
  have key : ∀ c : Int32, x.toInt = c.toInt → x = c := fun c h => Int32.toInt_inj.mp h
  by_cases h1 : x.toInt < 0 ∨ 5 < x.toInt
  · exact Or.inr (Or.inr (Or.inr (Or.inr (Or.inr (Or.inr (⟨h1, fun q => by subst q; revert h1; decide, fun q => by subst q; revert h1; decide, fun q => by subst q; revert h1; decide, fun q => by subst q; revert h1; decide, fun q => by subst q; revert h1; decide, fun q => by subst q; revert h1; decide⟩))))))
  · rcases (show x.toInt = 0 ∨ x.toInt = 1 ∨ x.toInt = 2 ∨ x.toInt = 3 ∨ x.toInt = 4 ∨ x.toInt = 5 by omega) with h | h | h | h | h | h
    · exact Or.inl (key 0 h)
    · exact Or.inr (Or.inl (key 1 h))
    · exact Or.inr (Or.inr (Or.inl (key 2 h)))
    · exact Or.inr (Or.inr (Or.inr (Or.inl (key 3 h))))
    · exact Or.inr (Or.inr (Or.inr (Or.inr (Or.inl (key 4 h)))))
    · exact Or.inr (Or.inr (Or.inr (Or.inr (Or.inr (Or.inl (key 5 h))))))
theorem cy_sw0_19 (x : Int32) : x = 0 ∨ x = 1 ∨ x = 2 ∨ x = 3 ∨ x = 4 ∨ x = 5 ∨ x = 6 ∨ x = 7 ∨ x = 8 ∨ x = 9 ∨ x = 10 ∨ x = 11 ∨ x = 12 ∨ x = 13 ∨ x = 14 ∨ x = 15 ∨ x = 16 ∨ x = 17 ∨ x = 18 ∨ x = 19 ∨ ((x.toInt < 0 ∨ 19 < x.toInt) ∧ ¬ x = 0 ∧ ¬ x = 1 ∧ ¬ x = 2 ∧ ¬ x = 3 ∧ ¬ x = 4 ∧ ¬ x = 5 ∧ ¬ x = 6 ∧ ¬ x = 7 ∧ ¬ x = 8 ∧ ¬ x = 9 ∧ ¬ x = 10 ∧ ¬ x = 11 ∧ ¬ x = 12 ∧ ¬ x = 13 ∧ ¬ x = 14 ∧ ¬ x = 15 ∧ ¬ x = 16 ∧ ¬ x = 17 ∧ ¬ x = 18 ∧ ¬ x = 19) := by
  have key : ∀ c : Int32, x.toInt = c.toInt → x = c := fun c h => Int32.toInt_inj.mp h
  by_cases h1 : x.toInt < 0 ∨ 19 < x.toInt
  · exact Or.inr (Or.inr (Or.inr (Or.inr (Or.inr (Or.inr (Or.inr (Or.inr (Or.inr (Or.inr (Or.inr (Or.inr (Or.inr (Or.inr (Or.inr (Or.inr (Or.inr (Or.inr (Or.inr (Or.inr (⟨h1, fun q => by subst q; revert h1; decide, fun q => by subst q; revert h1; decide, fun q => by subst q; revert h1; decide, fun q => by subst q; revert h1; decide, fun q => by subst q; revert h1; decide, fun q => by subst q; revert h1; decide, fun q => by subst q; revert h1; decide, fun q => by subst q; revert h1; decide, fun q => by subst q; revert h1; decide, fun q => by subst q; revert h1; decide, fun q => by subst q; revert h1; decide, fun q => by subst q; revert h1; decide, fun q => by subst q; revert h1; decide, fun q => by subst q; revert h1; decide, fun q => by subst q; revert h1; decide, fun q => by subst q; revert h1; decide, fun q => by subst q; revert h1; decide, fun q => by subst q; revert h1; decide, fun q => by subst q; revert h1; decide, fun q => by subst q; revert h1; decide⟩))))))))))))))))))))
  · rcases (show x.toInt = 0 ∨ x.toInt = 1 ∨ x.toInt = 2 ∨ x.toInt = 3 ∨ x.toInt = 4 ∨ x.toInt = 5 ∨ x.toInt = 6 ∨ x.toInt = 7 ∨ x.toInt = 8 ∨ x.toInt = 9 ∨ x.toInt = 10 ∨ x.toInt = 11 ∨ x.toInt = 12 ∨ x.toInt = 13 ∨ x.toInt = 14 ∨ x.toInt = 15 ∨ x.toInt = 16 ∨ x.toInt = 17 ∨ x.toInt = 18 ∨ x.toInt = 19 by omega) with h | h | h | h | h | h | h | h | h | h | h | h | h | h | h | h | h | h | h | h
    · exact Or.inl (key 0 h)
    · exact Or.inr (Or.inl (key 1 h))
    · exact Or.inr (Or.inr (Or.inl (key 2 h)))
    · exact Or.inr (Or.inr (Or.inr (Or.inl (key 3 h))))
    · exact Or.inr (Or.inr (Or.inr (Or.inr (Or.inl (key 4 h)))))
    · exact Or.inr (Or.inr (Or.inr (Or.inr (Or.inr (Or.inl (key 5 h))))))
    · exact Or.inr (Or.inr (Or.inr (Or.inr (Or.inr (Or.inr (Or.inl (key 6 h)))))))
    · exact Or.inr (Or.inr (Or.inr (Or.inr (Or.inr (Or.inr (Or.inr (Or.inl (key 7 h))))))))
    · exact Or.inr (Or.inr (Or.inr (Or.inr (Or.inr (Or.inr (Or.inr (Or.inr (Or.inl (key 8 h)))))))))
    · exact Or.inr (Or.inr (Or.inr (Or.inr (Or.inr (Or.inr (Or.inr (Or.inr (Or.inr (Or.inl (key 9 h))))))))))
    · exact Or.inr (Or.inr (Or.inr (Or.inr (Or.inr (Or.inr (Or.inr (Or.inr (Or.inr (Or.inr (Or.inl (key 10 h)))))))))))
    · exact Or.inr (Or.inr (Or.inr (Or.inr (Or.inr (Or.inr (Or.inr (Or.inr (Or.inr (Or.inr (Or.inr (Or.inl (key 11 h))))))))))))
    · exact Or.inr (Or.inr (Or.inr (Or.inr (Or.inr (Or.inr (Or.inr (Or.inr (Or.inr (Or.inr (Or.inr (Or.inr (Or.inl (key 12 h)))))))))))))
    · exact Or.inr (Or.inr (Or.inr (Or.inr (Or.inr (Or.inr (Or.inr (Or.inr (Or.inr (Or.inr (Or.inr (Or.inr (Or.inr (Or.inl (key 13 h))))))))))))))
    · exact Or.inr (Or.inr (Or.inr (Or.inr (Or.inr (Or.inr (Or.inr (Or.inr (Or.inr (Or.inr (Or.inr (Or.inr (Or.inr (Or.inr (Or.inl (key 14 h)))))))))))))))
    · exact Or.inr (Or.inr (Or.inr (Or.inr (Or.inr (Or.inr (Or.inr (Or.inr (Or.inr (Or.inr (Or.inr (Or.inr (Or.inr (Or.inr (Or.inr (Or.inl (key 15 h))))))))))))))))
    · exact Or.inr (Or.inr (Or.inr (Or.inr (Or.inr (Or.inr (Or.inr (Or.inr (Or.inr (Or.inr (Or.inr (Or.inr (Or.inr (Or.inr (Or.inr (Or.inr (Or.inl (key 16 h)))))))))))))))))
    · exact Or.inr (Or.inr (Or.inr (Or.inr (Or.inr (Or.inr (Or.inr (Or.inr (Or.inr (Or.inr (Or.inr (Or.inr (Or.inr (Or.inr (Or.inr (Or.inr (Or.inr (Or.inl (key 17 h))))))))))))))))))
    · exact Or.inr (Or.inr (Or.inr (Or.inr (Or.inr (Or.inr (Or.inr (Or.inr (Or.inr (Or.inr (Or.inr (Or.inr (Or.inr (Or.inr (Or.inr (Or.inr (Or.inr (Or.inr (Or.inl (key 18 h)))))))))))))))))))
    · exact Or.inr (Or.inr (Or.inr (Or.inr (Or.inr (Or.inr (Or.inr (Or.inr (Or.inr (Or.inr (Or.inr (Or.inr (Or.inr (Or.inr (Or.inr (Or.inr (Or.inr (Or.inr (Or.inr (Or.inl (key 19 h))))))))))))))))))))
end
section
theorem cy_topi {p : Program} {l : Launch} {e : Env} {R : Room} {s : State} {m : MethodId} {args : Array Value} {below : List Frame} {meth : Method} {c : Code} {H : Heap} {locs : List Loc} {cells slots : Nat} {Q : State → Prop} {pc : Nat} {ls : Array Slot} {rest : List Value} {x y : Int32} (h : x = y) (k : W p l e R s m args below meth c H locs cells slots Q (F0 m pc ls (.int y :: rest))) : W p l e R s m args below meth c H locs cells slots Q (F0 m pc ls (.int x :: rest)) := h ▸ k
theorem cy_topl {p : Program} {l : Launch} {e : Env} {R : Room} {s : State} {m : MethodId} {args : Array Value} {below : List Frame} {meth : Method} {c : Code} {H : Heap} {locs : List Loc} {cells slots : Nat} {Q : State → Prop} {pc : Nat} {ls : Array Slot} {rest : List Value} {x y : Int64} (h : x = y) (k : W p l e R s m args below meth c H locs cells slots Q (F0 m pc ls (.long y :: rest))) : W p l e R s m args below meth c H locs cells slots Q (F0 m pc ls (.long x :: rest)) := h ▸ k
theorem cy_ix (k i : Nat) : (6 : Int32) * nI k + nI i = nI (6 * k + i) := by rw [show (6 : Int32) = nI 6 from rfl, pk_mul, nI_add]
section CYA
variable {p : Program} {l : Launch} {e : Env} {R : Room} {s : State} {m : MethodId} {args : Array Value} {below : List Frame} {meth : Method} {c : Code} {H : Heap} {locs : List Loc} {cells slots : Nat} {Q : State → Prop}
variable {cc : ByteArray} {pc : Nat} {ls : Array Slot} {rest : List Value} {D : va_G} {z : Nat} {H0 : Heap} {tys : List (ClassId × FieldType)} {C C' : Nat → Option va_E} {ad : Nat → Nat}
theorem cy_iald (hexec : p.tables.exec = Jvm.exec) (hb : c.code = cc) (hK : va_K D vwCl tys s) (hI : cy_W D z C ad H) (t0 : Nat) {x : Nat} {cA : ClassId} {n : Nat} {f : Nat → Int32} (he : C x = some (.inl (cA, n, .inl f))) (ht : tys[t0]? = some (cA, .int)) {k : Nat} (hk : k < n) (hn : n < 2 ^ 31) (hdg : decode cc pc = .ok (.iaload, 1))
    (kk : W p l e R s m args below meth c H locs cells slots Q (F0 m (pc + 1) ls (.int (f k) :: rest))) : W p l e R s m args below meth c H locs cells slots Q (F0 m pc ls (.int (nI k) :: .ref (ad x) :: rest)) := by
  refine va_iald hexec hb hK (hI.one he) 0 t0 rfl ht (vp_in_nI hk hn) hdg ?_
  rw [nI_clamp (by omega)]
  exact kk
theorem cy_lald (hexec : p.tables.exec = Jvm.exec) (hb : c.code = cc) (hK : va_K D vwCl tys s) (hI : cy_W D z C ad H) (t0 : Nat) {x : Nat} {cA : ClassId} {n : Nat} {f : Nat → Int64} (he : C x = some (.inl (cA, n, .inr (.inl f)))) (ht : tys[t0]? = some (cA, .long)) {k : Nat} (hk : k < n) (hn : n < 2 ^ 31) (hdg : decode cc pc = .ok (.laload, 1))
    (kk : W p l e R s m args below meth c H locs cells slots Q (F0 m (pc + 1) ls (.long (f k) :: rest))) : W p l e R s m args below meth c H locs cells slots Q (F0 m pc ls (.int (nI k) :: .ref (ad x) :: rest)) := by
  refine va_lald hexec hb hK (hI.one he) 0 t0 rfl ht (vp_in_nI hk hn) hdg ?_
  rw [nI_clamp (by omega)]
  exact kk
theorem cy_aald (hexec : p.tables.exec = Jvm.exec) (hb : c.code = cc) (hK : va_K D vwCl tys s) (hI : cy_W D z C ad H) (t0 : Nat) {x : Nat} {cA : ClassId} {E : String} {n : Nat} {f : Nat → Option Nat} (he : C x = some (.inl (cA, n, .inr (.inr (.inr (.inr f)))))) (ht : tys[t0]? = some (cA, .object E)) {k : Nat} (hk : k < n) (hn : n < 2 ^ 31) (hdg : decode cc pc = .ok (.aaload, 1))
    (kk : W p l e R s m args below meth c H locs cells slots Q (F0 m (pc + 1) ls (va_rf (f k) :: rest))) : W p l e R s m args below meth c H locs cells slots Q (F0 m pc ls (.int (nI k) :: .ref (ad x) :: rest)) := by
  refine va_aldq hexec hb hK (hI.one he) 0 t0 rfl ht (vp_in_nI hk hn) hdg ?_
  rw [nI_clamp (by omega)]
  exact kk
theorem cy_alen (hexec : p.tables.exec = Jvm.exec) (hb : c.code = cc) (hK : va_K D vwCl tys s) (hI : cy_W D z C ad H) (t0 : Nat) {x : Nat} {cA : ClassId} {y : vp_A} (he : C x = some (.inl (cA, y))) {ty : FieldType} (ht : tys[t0]? = some (cA, ty)) (hdg : decode cc pc = .ok (.arraylength, 1))
    (kk : W p l e R s m args below meth c H locs cells slots Q (F0 m (pc + 1) ls (.int (nI y.1) :: rest))) : W p l e R s m args below meth c H locs cells slots Q (F0 m pc ls (.ref (ad x) :: rest)) := va_alen hexec hb hK (hI.one he) 0 t0 rfl ht rfl hdg kk
end CYA
section CYB
variable {p : Program} {l : Launch} {e : Env} {R : Room} {s : State} {m : MethodId} {args : Array Value} {below : List Frame} {meth : Method} {c : Code} {H : Heap} {locs : List Loc} {cells slots : Nat} {Q : State → Prop}
variable {cc : ByteArray} {pc : Nat} {ls : Array Slot} {rest : List Value} {D : va_G} {z : Nat} {H0 : Heap}
variable {cI cJ cO : ClassId} {n na : Nat} {σ τ : cy_S} {pl : Nat → Int32} {hi : Int32} {ad : Nat → Nat}
theorem cy_stT1 (hexec : p.tables.exec = Jvm.exec) (hb : c.code = cc) (hK : cy_K D cI cJ cO s) (hI : cy_W D z (cy_CT cI cJ cO n na σ τ pl hi ad) ad H) (hS : va_S (fun q => z ≤ q) H0 H locs) {k : Nat} {v : Int32} (hk : k < 80) (hdg : decode cc pc = .ok (.iastore, 1))
    (kk : ∀ (H1 : Heap) (locs1 : List Loc), cy_W D z (cy_CT cI cJ cO n na σ (cy_i τ 1 k v) pl hi ad) ad H1 → va_S (fun q => z ≤ q) H0 H1 locs1 → W p l e R s m args below meth c H1 locs1 cells slots Q (F0 m (pc + 1) ls rest)) : W p l e R s m args below meth c H locs cells slots Q (F0 m pc ls (.int v :: .int (nI k) :: .ref (ad 21) :: rest)) := by
  refine cy_iast hexec hb hK.1 hI hS 0 (x := 21) rfl rfl (vp_in_nI hk (by decide)) hdg ?_ kk
  rw [nI_clamp (by omega)]
  exact cy_hT 1 (by decide) (by show (.inl (_, _, .inl ((cy_i τ 1 k v).1 1)) : va_E) = _; rw [show (cy_i τ 1 k v).1 = cy_u τ.1 1 k v from rfl, cy_u_row]) (cy_lt12 (fun _ => rfl) (fun h => absurd rfl h) (fun _ => rfl) (fun _ => rfl) (fun _ => rfl) (fun _ => rfl) (fun _ => rfl) (fun _ => rfl) (fun _ => rfl) (fun _ => rfl) (fun _ => rfl) (fun _ => rfl))
theorem cy_stT2 (hexec : p.tables.exec = Jvm.exec) (hb : c.code = cc) (hK : cy_K D cI cJ cO s) (hI : cy_W D z (cy_CT cI cJ cO n na σ τ pl hi ad) ad H) (hS : va_S (fun q => z ≤ q) H0 H locs) {k : Nat} {v : Int32} (hk : k < 80) (hdg : decode cc pc = .ok (.iastore, 1))
    (kk : ∀ (H1 : Heap) (locs1 : List Loc), cy_W D z (cy_CT cI cJ cO n na σ (cy_i τ 2 k v) pl hi ad) ad H1 → va_S (fun q => z ≤ q) H0 H1 locs1 → W p l e R s m args below meth c H1 locs1 cells slots Q (F0 m (pc + 1) ls rest)) : W p l e R s m args below meth c H locs cells slots Q (F0 m pc ls (.int v :: .int (nI k) :: .ref (ad 22) :: rest)) := by
  refine cy_iast hexec hb hK.1 hI hS 0 (x := 22) rfl rfl (vp_in_nI hk (by decide)) hdg ?_ kk
  rw [nI_clamp (by omega)]
  exact cy_hT 2 (by decide) (by show (.inl (_, _, .inl ((cy_i τ 2 k v).1 2)) : va_E) = _; rw [show (cy_i τ 2 k v).1 = cy_u τ.1 2 k v from rfl, cy_u_row]) (cy_lt12 (fun _ => rfl) (fun _ => rfl) (fun h => absurd rfl h) (fun _ => rfl) (fun _ => rfl) (fun _ => rfl) (fun _ => rfl) (fun _ => rfl) (fun _ => rfl) (fun _ => rfl) (fun _ => rfl) (fun _ => rfl))
theorem cy_stT3 (hexec : p.tables.exec = Jvm.exec) (hb : c.code = cc) (hK : cy_K D cI cJ cO s) (hI : cy_W D z (cy_CT cI cJ cO n na σ τ pl hi ad) ad H) (hS : va_S (fun q => z ≤ q) H0 H locs) {k : Nat} {v : Int32} (hk : k < 80) (hdg : decode cc pc = .ok (.iastore, 1))
    (kk : ∀ (H1 : Heap) (locs1 : List Loc), cy_W D z (cy_CT cI cJ cO n na σ (cy_i τ 3 k v) pl hi ad) ad H1 → va_S (fun q => z ≤ q) H0 H1 locs1 → W p l e R s m args below meth c H1 locs1 cells slots Q (F0 m (pc + 1) ls rest)) : W p l e R s m args below meth c H locs cells slots Q (F0 m pc ls (.int v :: .int (nI k) :: .ref (ad 23) :: rest)) := by
  refine cy_iast hexec hb hK.1 hI hS 0 (x := 23) rfl rfl (vp_in_nI hk (by decide)) hdg ?_ kk
  rw [nI_clamp (by omega)]
  exact cy_hT 3 (by decide) (by show (.inl (_, _, .inl ((cy_i τ 3 k v).1 3)) : va_E) = _; rw [show (cy_i τ 3 k v).1 = cy_u τ.1 3 k v from rfl, cy_u_row]) (cy_lt12 (fun _ => rfl) (fun _ => rfl) (fun _ => rfl) (fun h => absurd rfl h) (fun _ => rfl) (fun _ => rfl) (fun _ => rfl) (fun _ => rfl) (fun _ => rfl) (fun _ => rfl) (fun _ => rfl) (fun _ => rfl))
theorem cy_stT4 (hexec : p.tables.exec = Jvm.exec) (hb : c.code = cc) (hK : cy_K D cI cJ cO s) (hI : cy_W D z (cy_CT cI cJ cO n na σ τ pl hi ad) ad H) (hS : va_S (fun q => z ≤ q) H0 H locs) {k : Nat} {v : Int64} (hk : k < 480) (hdg : decode cc pc = .ok (.lastore, 1))
    (kk : ∀ (H1 : Heap) (locs1 : List Loc), cy_W D z (cy_CT cI cJ cO n na σ (cy_l τ 0 k v) pl hi ad) ad H1 → va_S (fun q => z ≤ q) H0 H1 locs1 → W p l e R s m args below meth c H1 locs1 cells slots Q (F0 m (pc + 1) ls rest)) : W p l e R s m args below meth c H locs cells slots Q (F0 m pc ls (.long v :: .int (nI k) :: .ref (ad 24) :: rest)) := by
  refine cy_last hexec hb hK.1 hI hS 1 (x := 24) rfl rfl (vp_in_nI hk (by decide)) hdg ?_ kk
  rw [nI_clamp (by omega)]
  exact cy_hT 4 (by decide) (by show (.inl (_, _, .inr (.inl ((cy_l τ 0 k v).2 0))) : va_E) = _; rw [show (cy_l τ 0 k v).2 = cy_u τ.2 0 k v from rfl, cy_u_row]) (cy_lt12 (fun _ => rfl) (fun _ => rfl) (fun _ => rfl) (fun _ => rfl) (fun h => absurd rfl h) (fun _ => rfl) (fun _ => rfl) (fun _ => rfl) (fun _ => rfl) (fun _ => rfl) (fun _ => rfl) (fun _ => rfl))
theorem cy_stT5 (hexec : p.tables.exec = Jvm.exec) (hb : c.code = cc) (hK : cy_K D cI cJ cO s) (hI : cy_W D z (cy_CT cI cJ cO n na σ τ pl hi ad) ad H) (hS : va_S (fun q => z ≤ q) H0 H locs) {k : Nat} {v : Int32} (hk : k < 480) (hdg : decode cc pc = .ok (.iastore, 1))
    (kk : ∀ (H1 : Heap) (locs1 : List Loc), cy_W D z (cy_CT cI cJ cO n na σ (cy_i τ 4 k v) pl hi ad) ad H1 → va_S (fun q => z ≤ q) H0 H1 locs1 → W p l e R s m args below meth c H1 locs1 cells slots Q (F0 m (pc + 1) ls rest)) : W p l e R s m args below meth c H locs cells slots Q (F0 m pc ls (.int v :: .int (nI k) :: .ref (ad 25) :: rest)) := by
  refine cy_iast hexec hb hK.1 hI hS 0 (x := 25) rfl rfl (vp_in_nI hk (by decide)) hdg ?_ kk
  rw [nI_clamp (by omega)]
  exact cy_hT 5 (by decide) (by show (.inl (_, _, .inl ((cy_i τ 4 k v).1 4)) : va_E) = _; rw [show (cy_i τ 4 k v).1 = cy_u τ.1 4 k v from rfl, cy_u_row]) (cy_lt12 (fun _ => rfl) (fun _ => rfl) (fun _ => rfl) (fun _ => rfl) (fun _ => rfl) (fun h => absurd rfl h) (fun _ => rfl) (fun _ => rfl) (fun _ => rfl) (fun _ => rfl) (fun _ => rfl) (fun _ => rfl))
theorem cy_stT6 (hexec : p.tables.exec = Jvm.exec) (hb : c.code = cc) (hK : cy_K D cI cJ cO s) (hI : cy_W D z (cy_CT cI cJ cO n na σ τ pl hi ad) ad H) (hS : va_S (fun q => z ≤ q) H0 H locs) {k : Nat} {v : Int32} (hk : k < 12) (hdg : decode cc pc = .ok (.iastore, 1))
    (kk : ∀ (H1 : Heap) (locs1 : List Loc), cy_W D z (cy_CT cI cJ cO n na σ (cy_i τ 5 k v) pl hi ad) ad H1 → va_S (fun q => z ≤ q) H0 H1 locs1 → W p l e R s m args below meth c H1 locs1 cells slots Q (F0 m (pc + 1) ls rest)) : W p l e R s m args below meth c H locs cells slots Q (F0 m pc ls (.int v :: .int (nI k) :: .ref (ad 26) :: rest)) := by
  refine cy_iast hexec hb hK.1 hI hS 0 (x := 26) rfl rfl (vp_in_nI hk (by decide)) hdg ?_ kk
  rw [nI_clamp (by omega)]
  exact cy_hT 6 (by decide) (by show (.inl (_, _, .inl ((cy_i τ 5 k v).1 5)) : va_E) = _; rw [show (cy_i τ 5 k v).1 = cy_u τ.1 5 k v from rfl, cy_u_row]) (cy_lt12 (fun _ => rfl) (fun _ => rfl) (fun _ => rfl) (fun _ => rfl) (fun _ => rfl) (fun _ => rfl) (fun h => absurd rfl h) (fun _ => rfl) (fun _ => rfl) (fun _ => rfl) (fun _ => rfl) (fun _ => rfl))
theorem cy_stT7 (hexec : p.tables.exec = Jvm.exec) (hb : c.code = cc) (hK : cy_K D cI cJ cO s) (hI : cy_W D z (cy_CT cI cJ cO n na σ τ pl hi ad) ad H) (hS : va_S (fun q => z ≤ q) H0 H locs) {k : Nat} {v : Int32} (hk : k < 6) (hdg : decode cc pc = .ok (.iastore, 1))
    (kk : ∀ (H1 : Heap) (locs1 : List Loc), cy_W D z (cy_CT cI cJ cO n na σ (cy_i τ 6 k v) pl hi ad) ad H1 → va_S (fun q => z ≤ q) H0 H1 locs1 → W p l e R s m args below meth c H1 locs1 cells slots Q (F0 m (pc + 1) ls rest)) : W p l e R s m args below meth c H locs cells slots Q (F0 m pc ls (.int v :: .int (nI k) :: .ref (ad 27) :: rest)) := by
  refine cy_iast hexec hb hK.1 hI hS 0 (x := 27) rfl rfl (vp_in_nI hk (by decide)) hdg ?_ kk
  rw [nI_clamp (by omega)]
  exact cy_hT 7 (by decide) (by show (.inl (_, _, .inl ((cy_i τ 6 k v).1 6)) : va_E) = _; rw [show (cy_i τ 6 k v).1 = cy_u τ.1 6 k v from rfl, cy_u_row]) (cy_lt12 (fun _ => rfl) (fun _ => rfl) (fun _ => rfl) (fun _ => rfl) (fun _ => rfl) (fun _ => rfl) (fun _ => rfl) (fun h => absurd rfl h) (fun _ => rfl) (fun _ => rfl) (fun _ => rfl) (fun _ => rfl))
theorem cy_stT8 (hexec : p.tables.exec = Jvm.exec) (hb : c.code = cc) (hK : cy_K D cI cJ cO s) (hI : cy_W D z (cy_CT cI cJ cO n na σ τ pl hi ad) ad H) (hS : va_S (fun q => z ≤ q) H0 H locs) {k : Nat} {v : Int64} (hk : k < 6) (hdg : decode cc pc = .ok (.lastore, 1))
    (kk : ∀ (H1 : Heap) (locs1 : List Loc), cy_W D z (cy_CT cI cJ cO n na σ (cy_l τ 1 k v) pl hi ad) ad H1 → va_S (fun q => z ≤ q) H0 H1 locs1 → W p l e R s m args below meth c H1 locs1 cells slots Q (F0 m (pc + 1) ls rest)) : W p l e R s m args below meth c H locs cells slots Q (F0 m pc ls (.long v :: .int (nI k) :: .ref (ad 28) :: rest)) := by
  refine cy_last hexec hb hK.1 hI hS 1 (x := 28) rfl rfl (vp_in_nI hk (by decide)) hdg ?_ kk
  rw [nI_clamp (by omega)]
  exact cy_hT 8 (by decide) (by show (.inl (_, _, .inr (.inl ((cy_l τ 1 k v).2 1))) : va_E) = _; rw [show (cy_l τ 1 k v).2 = cy_u τ.2 1 k v from rfl, cy_u_row]) (cy_lt12 (fun _ => rfl) (fun _ => rfl) (fun _ => rfl) (fun _ => rfl) (fun _ => rfl) (fun _ => rfl) (fun _ => rfl) (fun _ => rfl) (fun h => absurd rfl h) (fun _ => rfl) (fun _ => rfl) (fun _ => rfl))
theorem cy_stT9 (hexec : p.tables.exec = Jvm.exec) (hb : c.code = cc) (hK : cy_K D cI cJ cO s) (hI : cy_W D z (cy_CT cI cJ cO n na σ τ pl hi ad) ad H) (hS : va_S (fun q => z ≤ q) H0 H locs) {k : Nat} {v : Int32} (hk : k < 10) (hdg : decode cc pc = .ok (.iastore, 1))
    (kk : ∀ (H1 : Heap) (locs1 : List Loc), cy_W D z (cy_CT cI cJ cO n na σ (cy_i τ 7 k v) pl hi ad) ad H1 → va_S (fun q => z ≤ q) H0 H1 locs1 → W p l e R s m args below meth c H1 locs1 cells slots Q (F0 m (pc + 1) ls rest)) : W p l e R s m args below meth c H locs cells slots Q (F0 m pc ls (.int v :: .int (nI k) :: .ref (ad 29) :: rest)) := by
  refine cy_iast hexec hb hK.1 hI hS 0 (x := 29) rfl rfl (vp_in_nI hk (by decide)) hdg ?_ kk
  rw [nI_clamp (by omega)]
  exact cy_hT 9 (by decide) (by show (.inl (_, _, .inl ((cy_i τ 7 k v).1 7)) : va_E) = _; rw [show (cy_i τ 7 k v).1 = cy_u τ.1 7 k v from rfl, cy_u_row]) (cy_lt12 (fun _ => rfl) (fun _ => rfl) (fun _ => rfl) (fun _ => rfl) (fun _ => rfl) (fun _ => rfl) (fun _ => rfl) (fun _ => rfl) (fun _ => rfl) (fun h => absurd rfl h) (fun _ => rfl) (fun _ => rfl))
theorem cy_stT10 (hexec : p.tables.exec = Jvm.exec) (hb : c.code = cc) (hK : cy_K D cI cJ cO s) (hI : cy_W D z (cy_CT cI cJ cO n na σ τ pl hi ad) ad H) (hS : va_S (fun q => z ≤ q) H0 H locs) {k : Nat} {v : Int32} (hk : k < 10) (hdg : decode cc pc = .ok (.iastore, 1))
    (kk : ∀ (H1 : Heap) (locs1 : List Loc), cy_W D z (cy_CT cI cJ cO n na σ (cy_i τ 8 k v) pl hi ad) ad H1 → va_S (fun q => z ≤ q) H0 H1 locs1 → W p l e R s m args below meth c H1 locs1 cells slots Q (F0 m (pc + 1) ls rest)) : W p l e R s m args below meth c H locs cells slots Q (F0 m pc ls (.int v :: .int (nI k) :: .ref (ad 30) :: rest)) := by
  refine cy_iast hexec hb hK.1 hI hS 0 (x := 30) rfl rfl (vp_in_nI hk (by decide)) hdg ?_ kk
  rw [nI_clamp (by omega)]
  exact cy_hT 10 (by decide) (by show (.inl (_, _, .inl ((cy_i τ 8 k v).1 8)) : va_E) = _; rw [show (cy_i τ 8 k v).1 = cy_u τ.1 8 k v from rfl, cy_u_row]) (cy_lt12 (fun _ => rfl) (fun _ => rfl) (fun _ => rfl) (fun _ => rfl) (fun _ => rfl) (fun _ => rfl) (fun _ => rfl) (fun _ => rfl) (fun _ => rfl) (fun _ => rfl) (fun h => absurd rfl h) (fun _ => rfl))
theorem cy_stT11 (hexec : p.tables.exec = Jvm.exec) (hb : c.code = cc) (hK : cy_K D cI cJ cO s) (hI : cy_W D z (cy_CT cI cJ cO n na σ τ pl hi ad) ad H) (hS : va_S (fun q => z ≤ q) H0 H locs) {k : Nat} {v : Int32} (hk : k < 60) (hdg : decode cc pc = .ok (.iastore, 1))
    (kk : ∀ (H1 : Heap) (locs1 : List Loc), cy_W D z (cy_CT cI cJ cO n na σ τ (va_up pl k v) hi ad) ad H1 → va_S (fun q => z ≤ q) H0 H1 locs1 → W p l e R s m args below meth c H1 locs1 cells slots Q (F0 m (pc + 1) ls rest)) : W p l e R s m args below meth c H locs cells slots Q (F0 m pc ls (.int v :: .int (nI k) :: .ref (ad 31) :: rest)) := by
  refine cy_iast hexec hb hK.1 hI hS 0 (x := 31) rfl rfl (vp_in_nI hk (by decide)) hdg ?_ kk
  rw [nI_clamp (by omega)]
  exact cy_hT 11 (by decide) (rfl) (cy_lt12 (fun _ => rfl) (fun _ => rfl) (fun _ => rfl) (fun _ => rfl) (fun _ => rfl) (fun _ => rfl) (fun _ => rfl) (fun _ => rfl) (fun _ => rfl) (fun _ => rfl) (fun _ => rfl) (fun h => absurd rfl h))
theorem cy_stY3 (hexec : p.tables.exec = Jvm.exec) (hb : c.code = cc) (hK : cy_K D cI cJ cO s) (hI : cy_W D z (cy_CT cI cJ cO n na σ τ pl hi ad) ad H) (hS : va_S (fun q => z ≤ q) H0 H locs) {k : Nat} {v : Int32} (hk : k < 6) (hdg : decode cc pc = .ok (.iastore, 1))
    (kk : ∀ (H1 : Heap) (locs1 : List Loc), cy_W D z (cy_CT cI cJ cO n na (cy_i σ 6 k v) τ pl hi ad) ad H1 → va_S (fun q => z ≤ q) H0 H1 locs1 → W p l e R s m args below meth c H1 locs1 cells slots Q (F0 m (pc + 1) ls rest)) : W p l e R s m args below meth c H locs cells slots Q (F0 m pc ls (.int v :: .int (nI k) :: .ref (ad 3) :: rest)) := by
  refine cy_iast hexec hb hK.1 hI hS 0 (x := 3) rfl rfl (vp_in_nI hk (by decide)) hdg ?_ kk
  rw [nI_clamp (by omega)]
  exact cy_hY 3 (by decide) (by show (.inl (_, _, .inl ((cy_i σ 6 k v).1 6)) : va_E) = _; rw [show (cy_i σ 6 k v).1 = cy_u σ.1 6 k v from rfl, cy_u_row]) (cy_lt7 (fun _ => rfl) (fun _ => rfl) (fun _ => rfl) (fun h => absurd rfl h) (fun _ => rfl) (fun _ => rfl) (fun _ => rfl)) (fun _ _ => rfl) (fun _ _ => rfl)
theorem cy_stY4 (hexec : p.tables.exec = Jvm.exec) (hb : c.code = cc) (hK : cy_K D cI cJ cO s) (hI : cy_W D z (cy_CT cI cJ cO n na σ τ pl hi ad) ad H) (hS : va_S (fun q => z ≤ q) H0 H locs) {k : Nat} {v : Int64} (hk : k < 6) (hdg : decode cc pc = .ok (.lastore, 1))
    (kk : ∀ (H1 : Heap) (locs1 : List Loc), cy_W D z (cy_CT cI cJ cO n na (cy_l σ 1 k v) τ pl hi ad) ad H1 → va_S (fun q => z ≤ q) H0 H1 locs1 → W p l e R s m args below meth c H1 locs1 cells slots Q (F0 m (pc + 1) ls rest)) : W p l e R s m args below meth c H locs cells slots Q (F0 m pc ls (.long v :: .int (nI k) :: .ref (ad 4) :: rest)) := by
  refine cy_last hexec hb hK.1 hI hS 1 (x := 4) rfl rfl (vp_in_nI hk (by decide)) hdg ?_ kk
  rw [nI_clamp (by omega)]
  exact cy_hY 4 (by decide) (by show (.inl (_, _, .inr (.inl ((cy_l σ 1 k v).2 1))) : va_E) = _; rw [show (cy_l σ 1 k v).2 = cy_u σ.2 1 k v from rfl, cy_u_row]) (cy_lt7 (fun _ => rfl) (fun _ => rfl) (fun _ => rfl) (fun _ => rfl) (fun h => absurd rfl h) (fun _ => rfl) (fun _ => rfl)) (fun _ _ => rfl) (fun _ _ => rfl)
theorem cy_stY5 (hexec : p.tables.exec = Jvm.exec) (hb : c.code = cc) (hK : cy_K D cI cJ cO s) (hI : cy_W D z (cy_CT cI cJ cO n na σ τ pl hi ad) ad H) (hS : va_S (fun q => z ≤ q) H0 H locs) {k : Nat} {v : Int32} (hk : k < 10) (hdg : decode cc pc = .ok (.iastore, 1))
    (kk : ∀ (H1 : Heap) (locs1 : List Loc), cy_W D z (cy_CT cI cJ cO n na (cy_i σ 7 k v) τ pl hi ad) ad H1 → va_S (fun q => z ≤ q) H0 H1 locs1 → W p l e R s m args below meth c H1 locs1 cells slots Q (F0 m (pc + 1) ls rest)) : W p l e R s m args below meth c H locs cells slots Q (F0 m pc ls (.int v :: .int (nI k) :: .ref (ad 5) :: rest)) := by
  refine cy_iast hexec hb hK.1 hI hS 0 (x := 5) rfl rfl (vp_in_nI hk (by decide)) hdg ?_ kk
  rw [nI_clamp (by omega)]
  exact cy_hY 5 (by decide) (by show (.inl (_, _, .inl ((cy_i σ 7 k v).1 7)) : va_E) = _; rw [show (cy_i σ 7 k v).1 = cy_u σ.1 7 k v from rfl, cy_u_row]) (cy_lt7 (fun _ => rfl) (fun _ => rfl) (fun _ => rfl) (fun _ => rfl) (fun _ => rfl) (fun h => absurd rfl h) (fun _ => rfl)) (fun _ _ => rfl) (fun _ _ => rfl)
theorem cy_stY6 (hexec : p.tables.exec = Jvm.exec) (hb : c.code = cc) (hK : cy_K D cI cJ cO s) (hI : cy_W D z (cy_CT cI cJ cO n na σ τ pl hi ad) ad H) (hS : va_S (fun q => z ≤ q) H0 H locs) {k : Nat} {v : Int32} (hk : k < 10) (hdg : decode cc pc = .ok (.iastore, 1))
    (kk : ∀ (H1 : Heap) (locs1 : List Loc), cy_W D z (cy_CT cI cJ cO n na (cy_i σ 8 k v) τ pl hi ad) ad H1 → va_S (fun q => z ≤ q) H0 H1 locs1 → W p l e R s m args below meth c H1 locs1 cells slots Q (F0 m (pc + 1) ls rest)) : W p l e R s m args below meth c H locs cells slots Q (F0 m pc ls (.int v :: .int (nI k) :: .ref (ad 6) :: rest)) := by
  refine cy_iast hexec hb hK.1 hI hS 0 (x := 6) rfl rfl (vp_in_nI hk (by decide)) hdg ?_ kk
  rw [nI_clamp (by omega)]
  exact cy_hY 6 (by decide) (by show (.inl (_, _, .inl ((cy_i σ 8 k v).1 8)) : va_E) = _; rw [show (cy_i σ 8 k v).1 = cy_u σ.1 8 k v from rfl, cy_u_row]) (cy_lt7 (fun _ => rfl) (fun _ => rfl) (fun _ => rfl) (fun _ => rfl) (fun _ => rfl) (fun _ => rfl) (fun h => absurd rfl h)) (fun _ _ => rfl) (fun _ _ => rfl)
end CYB
end
section
theorem cy_in12 (b : Int32) : cy_isIn b 0 11 = true ↔ ∃ j : Nat, j < 12 ∧ b = nI j := by
  have h := cy_ld_iff (n := 12) (by decide) b
  unfold cy_ld at h
  rwa [show nI 12 - 1 = (11 : Int32) by decide] at h
theorem cy_in6 (b : Int32) : cy_gt b = true ↔ ∃ j : Nat, j < 6 ∧ b = nI j := by
  have h := cy_ld_iff (n := 6) (by decide) b
  unfold cy_ld at h
  rwa [show nI 6 - 1 = (5 : Int32) by decide] at h
theorem cy_u_twice {α : Type} (f : Nat → Nat → α) (i j : Nat) (v w : α) : cy_u (cy_u f i j v) i j w = cy_u f i j w := by
  funext a b
  unfold cy_u
  by_cases h1 : a = i
  · by_cases h2 : b = j
    · simp [h1, h2]
    · simp [h1, h2]
  · simp [h1]
theorem cy_i_twice (σ : cy_S) (i j : Nat) (v w : Int32) : cy_i (cy_i σ i j v) i j w = cy_i σ i j w := by
  unfold cy_i
  rw [cy_u_twice]
theorem cy_i_self (σ : cy_S) (i j : Nat) : cy_i σ i j (σ.1 i j) = σ := by
  unfold cy_i
  rw [cy_u_self]
theorem cy_no_bad (σ : cy_S) (w : Int32) (h4 : ¬ w = -4) (h5 : ¬ w = -5) (h6 : ¬ w = -6) : cy_no (cy_z σ) w = cy_i σ 0 2 w := by
  have e1 : ∀ v w : Int32, ∀ j, j ≠ 2 → (cy_i σ 0 2 v).1 0 j = σ.1 0 j := by
    intro v w j h
    simp [cy_i, cy_u, h]
  have e2 : ∀ (s : cy_S) (i j : Nat) (x : Int32), s.1 i j = x → cy_i s i j x = s := by
    intro s i j x h
    rw [← h, cy_i_self]
  unfold cy_no cy_z
  rw [cy_i_twice]
  simp only [h4, h5, h6, decide_false]
  rw [show cy_b false = 0 from rfl]
  simp only [Int32.add_zero]
  rw [e1 0 0 3 (by decide), e1 0 0 4 (by decide), e1 0 0 5 (by decide)]
  rw [e2 (cy_i σ 0 2 w) 0 3 _ (e1 w 0 3 (by decide)), e2 (cy_i σ 0 2 w) 0 4 _ (e1 w 0 4 (by decide)), e2 (cy_i σ 0 2 w) 0 5 _ (e1 w 0 5 (by decide))]
abbrev cy_no' (σ : cy_S) (w : Int32) : Int32 × cy_S := (w, cy_no (cy_z σ) w)
def cy_oSet (n : Nat) (σ : cy_S) (l i v : Int32) : Int32 × cy_S := if cy_ld n l = false then (-2, cy_no (cy_z σ) (-2)) else if cy_nu (σ.1 1 l.toNatClampNeg) = false then (-4, cy_no (cy_z σ) (-4)) else if cy_pl (σ.1 2 l.toNatClampNeg) i = false then (-5, cy_no (cy_z σ) (-5)) else (1, cy_l (cy_z σ) 0 (6 * l.toNatClampNeg + i.toNatClampNeg) (if σ.1 1 l.toNatClampNeg = 1 then v.toInt8.toInt32.toInt64 else v.toInt64))
def cy_oNum (n : Nat) (σ : cy_S) (l i : Int32) : Int64 × cy_S := if cy_ld n l = false then (0, cy_no (cy_z σ) (-2)) else if cy_nu (σ.1 1 l.toNatClampNeg) = false then (0, cy_no (cy_z σ) (-4)) else if cy_pl (σ.1 2 l.toNatClampNeg) i = false then (0, cy_no (cy_z σ) (-5)) else (σ.2 0 (6 * l.toNatClampNeg + i.toNatClampNeg), cy_z σ)
def cy_oPut (n : Nat) (σ : cy_S) (l i o : Int32) : Int32 × cy_S := if cy_ld n l = false ∨ (¬ o = -1 ∧ cy_ld n o = false) then (-2, cy_no (cy_z σ) (-2)) else if cy_th (σ.1 1 l.toNatClampNeg) = false ∨ (¬ o = -1 ∧ cy_go (σ.1 1 o.toNatClampNeg) (cy_wa (σ.1 1 l.toNatClampNeg)) = false) then (-4, cy_no (cy_z σ) (-4)) else if cy_pl (σ.1 2 l.toNatClampNeg) i = false then (-5, cy_no (cy_z σ) (-5)) else if ¬ o = -1 ∧ cy_go (σ.1 1 o.toNatClampNeg) (cy_ha (σ.1 1 l.toNatClampNeg)) = false then (-6, cy_no (cy_z σ) (-6)) else (1, cy_i (cy_z σ) 4 (6 * l.toNatClampNeg + i.toNatClampNeg) o)
def cy_oAt (n : Nat) (σ : cy_S) (l i : Int32) : Int32 × cy_S := if cy_ld n l = false then (-2, cy_no (cy_z σ) (-2)) else if cy_th (σ.1 1 l.toNatClampNeg) = false then (-4, cy_no (cy_z σ) (-4)) else if cy_pl (σ.1 2 l.toNatClampNeg) i = false then (-5, cy_no (cy_z σ) (-5)) else (σ.1 4 (6 * l.toNatClampNeg + i.toNatClampNeg), cy_z σ)
def cy_oIs (n : Nat) (σ : cy_S) (l v : Int32) : Int32 × cy_S := if cy_ld n l = false ∨ cy_vw v = false then (-2, cy_no (cy_z σ) (-2)) else (cy_b (cy_go (σ.1 1 l.toNatClampNeg) v), cy_z σ)
def cy_oTake (n : Nat) (σ : cy_S) (l v : Int32) : Int32 × cy_S := if cy_ld n l = false ∨ cy_vw v = false then (-2, cy_no (cy_z σ) (-2)) else if cy_go (σ.1 1 l.toNatClampNeg) v = false then (-4, cy_no (cy_z σ) (-4)) else (cy_co σ l.toNatClampNeg v, cy_z σ)
def cy_oSort (n : Nat) (σ : cy_S) (l : Int32) : Int32 × cy_S := if cy_ld n l = false then (-2, cy_no (cy_z σ) (-2)) else (σ.1 1 l.toNatClampNeg, cy_z σ)
def cy_oHold (n : Nat) (σ : cy_S) (b l : Int32) : Int32 × cy_S := if cy_isIn b 0 11 = false ∨ (¬ l = -1 ∧ cy_ld n l = false) then (-2, cy_no (cy_z σ) (-2)) else (σ.1 5 b.toNatClampNeg, cy_i (cy_z σ) 5 b.toNatClampNeg l)
def cy_oBay (σ : cy_S) (b v : Int32) : Int32 × cy_S := if cy_isIn b 0 11 = false ∨ cy_vw v = false then (-2, cy_no (cy_z σ) (-2)) else if σ.1 5 b.toNatClampNeg = -1 then (-1, cy_z σ) else if cy_go (σ.1 1 (σ.1 5 b.toNatClampNeg).toNatClampNeg) v = false then (-4, cy_no (cy_z σ) (-4)) else (cy_co σ (σ.1 5 b.toNatClampNeg).toNatClampNeg v, cy_z σ)
def cy_oGate (σ : cy_S) (g v : Int32) : Int32 × cy_S := if cy_gt g = false ∨ (¬ v = -1 ∧ cy_vw v = false) then (-2, cy_no (cy_z σ) (-2)) else (σ.1 6 g.toNatClampNeg, cy_l (cy_i (cy_z σ) 6 g.toNatClampNeg v) 1 g.toNatClampNeg 0)
def cy_oPassed (σ : cy_S) (g : Int32) : Int64 × cy_S := if cy_gt g = false then (0, cy_no (cy_z σ) (-2)) else (σ.2 1 g.toNatClampNeg, cy_z σ)
def cy_oTariff (σ : cy_S) (v r : Int32) : Int32 × cy_S := if cy_vw v = false ∨ cy_isIn r (-100) 100 = false then (-2, cy_no (cy_z σ) (-2)) else if σ.1 0 1 = 10 then (-3, cy_no (cy_z σ) (-3)) else (σ.1 0 1 + 1, cy_i (cy_i (cy_i (cy_z σ) 7 (σ.1 0 1).toNatClampNeg v) 8 (σ.1 0 1).toNatClampNeg r) 0 1 (σ.1 0 1 + 1))
/-- what holds of load k -/
def cy_okl (n : Nat) (σ : cy_S) (k : Nat) : Prop := (∃ s : Nat, s ≤ 12 ∧ σ.1 1 k = nI s) ∧ (∃ p : Nat, p ≤ 6 ∧ σ.1 2 k = nI p) ∧ (cy_sg (σ.1 1 k) = true → σ.1 2 k = 0) ∧ (cy_sg (σ.1 1 k) = false → σ.1 3 k = 0) ∧ (cy_nu (σ.1 1 k) = false → ∀ j, j < 6 → σ.2 0 (6 * k + j) = 0) ∧ (cy_th (σ.1 1 k) = true → ∀ j, j < 6 → σ.1 4 (6 * k + j) = -1 ∨ ∃ t : Nat, t < n ∧ σ.1 4 (6 * k + j) = nI t ∧ cy_go (σ.1 1 t) (cy_ha (σ.1 1 k)) = true)
/-- what holds of every state -/
def cy_ok (n : Nat) (σ : cy_S) : Prop := n ≤ 80 ∧ σ.1 0 0 = nI n ∧ (∀ k, k < n → cy_okl n σ k) ∧ (∀ j, j < 12 → σ.1 5 j = -1 ∨ ∃ t : Nat, t < n ∧ σ.1 5 j = nI t) ∧ ∃ q : Nat, q ≤ 10 ∧ σ.1 0 1 = nI q
end
section
set_option maxHeartbeats 4000000 in
set_option maxRecDepth 100000 in
theorem c_X5_isIn (l : Launch) (a b c0 : Int32)  : Met l yX5_isIn wsX5_isIn { frames := 0, cells := 0, slots := 0, locals := 0 } (fun zz _ => zz = ([.int a, .int b, .int c0] : List Value).toArray) (cy_Q (.int (cy_b (cy_isIn a b c0)))) 0 0 (fun _ => False) := by
  refine Met.ofW (cc := cX5_isIn) (maxL := 3) (ret := (some .boolean)) (by decide) rfl ?_
  intro p e s m args below meth c s₁ B hml hv
  have hv : args = ([.int a, .int b, .int c0] : List Value).toArray := hv
  subst hv
  have hx := B.exec
  have hb := B.bytes
  have hr := B.returns
  have hts := atoms_spec (ws := wsX5_isIn) B.pre
  have hown : s.vm.findClass RX5 = some m.cls := findClass_of_methodNamed B.named
  have hlocks := B.notSynchronized
  have hl := lv_entry ([.int a, .int b, .int c0]) (n := 3) (Nat.le_of_ble_eq_true rfl)
  rw [lg_entry_eq]
  generalize (lg_sl ([.int a, .int b, .int c0]) ++ List.replicate (3 - (lg_sl ([.int a, .int b, .int c0])).length) Slot.unset).toArray = ls at hl ⊢
  have hl : lv_has ls 3 [(0, .int a), (1, .int b), (2, .int c0)] := hl
  refine lv_iload_n hx hb dX5_isIn_0 rfl (lv_at hl 0 rfl) ?_
  refine lv_iload_n hx hb dX5_isIn_1 rfl (lv_at hl 1 rfl) ?_
  refine lv_icmp_lt (tgt := 14) hx hb dX5_isIn_2 (by decide) (fun h1 => ?_) (fun h1 => ?_)
  · refine lv_iconst (v := 0) hx hb dX5_isIn_14 (by decide) ?_
    exact W.zret (v := 0) hx hb hr (rfl) (fun t ht hW => ⟨congrArg (fun q => Outcome.returned (some (Value.int q))) (by simp [cy_isIn, cy_b, h1]), ht⟩) (fun q h => by cases h) dX5_isIn_15
  · refine lv_iload_n hx hb dX5_isIn_5 rfl (lv_at hl 0 rfl) ?_
    refine lv_iload_n hx hb dX5_isIn_6 rfl (lv_at hl 2 rfl) ?_
    refine lv_icmp_gt (tgt := 14) hx hb dX5_isIn_7 (by decide) (fun h2 => ?_) (fun h2 => ?_)
    · refine lv_iconst (v := 0) hx hb dX5_isIn_14 (by decide) ?_
      exact W.zret (v := 0) hx hb hr (rfl) (fun t ht hW => ⟨congrArg (fun q => Outcome.returned (some (Value.int q))) (by simp [cy_isIn, cy_b, h1, h2]), ht⟩) (fun q h => by cases h) dX5_isIn_15
    · refine lv_iconst (v := 1) hx hb dX5_isIn_10 (by decide) ?_
      refine lv_goto (tgt := 15) hx hb dX5_isIn_11 (by decide) ?_
      exact W.zret (v := 1) hx hb hr (rfl) (fun t ht hW => ⟨congrArg (fun q => Outcome.returned (some (Value.int q))) (by simp [cy_isIn, cy_b, h1, h2]), ht⟩) (fun q h => by cases h) dX5_isIn_15

set_option maxHeartbeats 4000000 in
set_option maxRecDepth 100000 in
theorem c_X5_isView (l : Launch) (v : Int32)  : Met l yX5_isView wsX5_isView { frames := 1, cells := 0, slots := 0, locals := 22 } (fun zz _ => zz = ([.int v] : List Value).toArray) (cy_Q (.int (cy_b (cy_vw v)))) 0 0 (fun _ => False) := by
  refine Met.ofW (cc := cX5_isView) (maxL := 1) (ret := (some .boolean)) (by decide) rfl ?_
  intro p e s m args below meth c s₁ B hml hv
  have hv : args = ([.int v] : List Value).toArray := hv
  subst hv
  have hx := B.exec
  have hb := B.bytes
  have hr := B.returns
  have hts := atoms_spec (ws := wsX5_isView) B.pre
  have hown : s.vm.findClass RX5 = some m.cls := findClass_of_methodNamed B.named
  have hlocks := B.notSynchronized
  have hl := lv_entry ([.int v]) (n := 1) (Nat.le_of_ble_eq_true rfl)
  rw [lg_entry_eq]
  generalize (lg_sl ([.int v]) ++ List.replicate (1 - (lg_sl ([.int v])).length) Slot.unset).toArray = ls at hl ⊢
  have hl : lv_has ls 1 [(0, .int v)] := hl
  refine lv_iload_n hx hb dX5_isView_0 rfl (lv_at hl 0 rfl) ?_
  refine lv_iconst (v := 0) hx hb dX5_isView_1 (by decide) ?_
  refine lv_bipush (v := 13) hx hb dX5_isView_2 (by decide) ?_
  refine cy_callp (v := .int (cy_b (cy_isIn v 0 13))) (va_runS (As := [.int v, .int 0, .int 13]) (rest := []) ⟨hx, hb, hml, hown, hts⟩ (c_X5_isIn l v 0 13) (va_cwS 3 hts gX5_isView_X5_isIn rfl rfl rfl (by decide +kernel) ⟨Nat.le_of_ble_eq_true rfl, Nat.le_of_ble_eq_true rfl⟩) preEq rfl rfl hl.1 rfl (lv_room (Nat.le_of_ble_eq_true rfl)) dX5_isView_4 ⟨Nat.le_of_ble_eq_true rfl, Nat.le_of_ble_eq_true rfl⟩) ?_
  exact W.zret (v := cy_b (cy_isIn v 0 13)) hx hb hr (cy_nb _) (fun t ht hW => ⟨congrArg (fun q => Outcome.returned (some (Value.int q))) (rfl), ht⟩) (fun q h => by cases h) dX5_isView_7

set_option maxHeartbeats 4000000 in
set_option maxRecDepth 100000 in
theorem c_X5_isSingle (l : Launch) (v : Int32)  : Met l yX5_isSingle wsX5_isSingle { frames := 1, cells := 0, slots := 0, locals := 22 } (fun zz _ => zz = ([.int v] : List Value).toArray) (cy_Q (.int (cy_b (cy_sg v)))) 0 0 (fun _ => False) := by
  refine Met.ofW (cc := cX5_isSingle) (maxL := 1) (ret := (some .boolean)) (by decide) rfl ?_
  intro p e s m args below meth c s₁ B hml hv
  have hv : args = ([.int v] : List Value).toArray := hv
  subst hv
  have hx := B.exec
  have hb := B.bytes
  have hr := B.returns
  have hts := atoms_spec (ws := wsX5_isSingle) B.pre
  have hown : s.vm.findClass RX5 = some m.cls := findClass_of_methodNamed B.named
  have hlocks := B.notSynchronized
  have hl := lv_entry ([.int v]) (n := 1) (Nat.le_of_ble_eq_true rfl)
  rw [lg_entry_eq]
  generalize (lg_sl ([.int v]) ++ List.replicate (1 - (lg_sl ([.int v])).length) Slot.unset).toArray = ls at hl ⊢
  have hl : lv_has ls 1 [(0, .int v)] := hl
  refine lv_iload_n hx hb dX5_isSingle_0 rfl (lv_at hl 0 rfl) ?_
  refine lv_iconst (v := 4) hx hb dX5_isSingle_1 (by decide) ?_
  refine lv_bipush (v := 6) hx hb dX5_isSingle_2 (by decide) ?_
  refine cy_callp (v := .int (cy_b (cy_isIn v 4 6))) (va_runS (As := [.int v, .int 4, .int 6]) (rest := []) ⟨hx, hb, hml, hown, hts⟩ (c_X5_isIn l v 4 6) (va_cwS 3 hts gX5_isSingle_X5_isIn rfl rfl rfl (by decide +kernel) ⟨Nat.le_of_ble_eq_true rfl, Nat.le_of_ble_eq_true rfl⟩) preEq rfl rfl hl.1 rfl (lv_room (Nat.le_of_ble_eq_true rfl)) dX5_isSingle_4 ⟨Nat.le_of_ble_eq_true rfl, Nat.le_of_ble_eq_true rfl⟩) ?_
  exact W.zret (v := cy_b (cy_isIn v 4 6)) hx hb hr (cy_nb _) (fun t ht hW => ⟨congrArg (fun q => Outcome.returned (some (Value.int q))) (rfl), ht⟩) (fun q h => by cases h) dX5_isSingle_7

set_option maxHeartbeats 4000000 in
set_option maxRecDepth 100000 in
theorem c_X5_isOfNumbers (l : Launch) (v : Int32)  : Met l yX5_isOfNumbers wsX5_isOfNumbers { frames := 1, cells := 0, slots := 0, locals := 22 } (fun zz _ => zz = ([.int v] : List Value).toArray) (cy_Q (.int (cy_b (cy_nu v)))) 0 0 (fun _ => False) := by
  refine Met.ofW (cc := cX5_isOfNumbers) (maxL := 1) (ret := (some .boolean)) (by decide) rfl ?_
  intro p e s m args below meth c s₁ B hml hv
  have hv : args = ([.int v] : List Value).toArray := hv
  subst hv
  have hx := B.exec
  have hb := B.bytes
  have hr := B.returns
  have hts := atoms_spec (ws := wsX5_isOfNumbers) B.pre
  have hown : s.vm.findClass RX5 = some m.cls := findClass_of_methodNamed B.named
  have hlocks := B.notSynchronized
  have hl := lv_entry ([.int v]) (n := 1) (Nat.le_of_ble_eq_true rfl)
  rw [lg_entry_eq]
  generalize (lg_sl ([.int v]) ++ List.replicate (1 - (lg_sl ([.int v])).length) Slot.unset).toArray = ls at hl ⊢
  have hl : lv_has ls 1 [(0, .int v)] := hl
  refine lv_iload_n hx hb dX5_isOfNumbers_0 rfl (lv_at hl 0 rfl) ?_
  refine lv_iconst (v := 0) hx hb dX5_isOfNumbers_1 (by decide) ?_
  refine lv_iconst (v := 2) hx hb dX5_isOfNumbers_2 (by decide) ?_
  refine cy_callp (v := .int (cy_b (cy_isIn v 0 2))) (va_runS (As := [.int v, .int 0, .int 2]) (rest := []) ⟨hx, hb, hml, hown, hts⟩ (c_X5_isIn l v 0 2) (va_cwS 3 hts gX5_isOfNumbers_X5_isIn rfl rfl rfl (by decide +kernel) ⟨Nat.le_of_ble_eq_true rfl, Nat.le_of_ble_eq_true rfl⟩) preEq rfl rfl hl.1 rfl (lv_room (Nat.le_of_ble_eq_true rfl)) dX5_isOfNumbers_3 ⟨Nat.le_of_ble_eq_true rfl, Nat.le_of_ble_eq_true rfl⟩) ?_
  exact W.zret (v := cy_b (cy_isIn v 0 2)) hx hb hr (cy_nb _) (fun t ht hW => ⟨congrArg (fun q => Outcome.returned (some (Value.int q))) (rfl), ht⟩) (fun q h => by cases h) dX5_isOfNumbers_6

set_option maxHeartbeats 4000000 in
set_option maxRecDepth 100000 in
theorem c_X5_isGate (l : Launch) (v : Int32)  : Met l yX5_isGate wsX5_isGate { frames := 1, cells := 0, slots := 0, locals := 22 } (fun zz _ => zz = ([.int v] : List Value).toArray) (cy_Q (.int (cy_b (cy_gt v)))) 0 0 (fun _ => False) := by
  refine Met.ofW (cc := cX5_isGate) (maxL := 1) (ret := (some .boolean)) (by decide) rfl ?_
  intro p e s m args below meth c s₁ B hml hv
  have hv : args = ([.int v] : List Value).toArray := hv
  subst hv
  have hx := B.exec
  have hb := B.bytes
  have hr := B.returns
  have hts := atoms_spec (ws := wsX5_isGate) B.pre
  have hown : s.vm.findClass RX5 = some m.cls := findClass_of_methodNamed B.named
  have hlocks := B.notSynchronized
  have hl := lv_entry ([.int v]) (n := 1) (Nat.le_of_ble_eq_true rfl)
  rw [lg_entry_eq]
  generalize (lg_sl ([.int v]) ++ List.replicate (1 - (lg_sl ([.int v])).length) Slot.unset).toArray = ls at hl ⊢
  have hl : lv_has ls 1 [(0, .int v)] := hl
  refine lv_iload_n hx hb dX5_isGate_0 rfl (lv_at hl 0 rfl) ?_
  refine lv_iconst (v := 0) hx hb dX5_isGate_1 (by decide) ?_
  refine lv_iconst (v := 5) hx hb dX5_isGate_2 (by decide) ?_
  refine cy_callp (v := .int (cy_b (cy_isIn v 0 5))) (va_runS (As := [.int v, .int 0, .int 5]) (rest := []) ⟨hx, hb, hml, hown, hts⟩ (c_X5_isIn l v 0 5) (va_cwS 3 hts gX5_isGate_X5_isIn rfl rfl rfl (by decide +kernel) ⟨Nat.le_of_ble_eq_true rfl, Nat.le_of_ble_eq_true rfl⟩) preEq rfl rfl hl.1 rfl (lv_room (Nat.le_of_ble_eq_true rfl)) dX5_isGate_3 ⟨Nat.le_of_ble_eq_true rfl, Nat.le_of_ble_eq_true rfl⟩) ?_
  exact W.zret (v := cy_b (cy_isIn v 0 5)) hx hb hr (cy_nb _) (fun t ht hW => ⟨congrArg (fun q => Outcome.returned (some (Value.int q))) (rfl), ht⟩) (fun q h => by cases h) dX5_isGate_6

set_option maxHeartbeats 4000000 in
set_option maxRecDepth 100000 in
theorem c_X5_isOfThings (l : Launch) (v : Int32)  : Met l yX5_isOfThings wsX5_isOfThings { frames := 1, cells := 0, slots := 0, locals := 22 } (fun zz _ => zz = ([.int v] : List Value).toArray) (cy_Q (.int (cy_b (cy_th v)))) 0 0 (fun _ => False) := by
  refine Met.ofW (cc := cX5_isOfThings) (maxL := 1) (ret := (some .boolean)) (by decide) rfl ?_
  intro p e s m args below meth c s₁ B hml hv
  have hv : args = ([.int v] : List Value).toArray := hv
  subst hv
  have hx := B.exec
  have hb := B.bytes
  have hr := B.returns
  have hts := atoms_spec (ws := wsX5_isOfThings) B.pre
  have hown : s.vm.findClass RX5 = some m.cls := findClass_of_methodNamed B.named
  have hlocks := B.notSynchronized
  have hl := lv_entry ([.int v]) (n := 1) (Nat.le_of_ble_eq_true rfl)
  rw [lg_entry_eq]
  generalize (lg_sl ([.int v]) ++ List.replicate (1 - (lg_sl ([.int v])).length) Slot.unset).toArray = ls at hl ⊢
  have hl : lv_has ls 1 [(0, .int v)] := hl
  refine lv_iload_n hx hb dX5_isOfThings_0 rfl (lv_at hl 0 rfl) ?_
  refine lv_iconst (v := 3) hx hb dX5_isOfThings_1 (by decide) ?_
  refine lv_icmp_eq (tgt := 16) hx hb dX5_isOfThings_2 (by decide) (fun h1 => ?_) (fun h1 => ?_)
  · refine lv_iconst (v := 1) hx hb dX5_isOfThings_16 (by decide) ?_
    refine lv_goto (tgt := 21) hx hb dX5_isOfThings_17 (by decide) ?_
    exact W.zret (v := 1) hx hb hr (rfl) (fun t ht hW => ⟨congrArg (fun q => Outcome.returned (some (Value.int q))) (by simp [cy_th, cy_b, h1]), ht⟩) (fun q h => by cases h) dX5_isOfThings_21
  · refine lv_iload_n hx hb dX5_isOfThings_5 rfl (lv_at hl 0 rfl) ?_
    refine lv_bipush (v := 7) hx hb dX5_isOfThings_6 (by decide) ?_
    refine lv_bipush (v := 12) hx hb dX5_isOfThings_8 (by decide) ?_
    refine cy_callp (v := .int (cy_b (cy_isIn v 7 12))) (va_runS (As := [.int v, .int 7, .int 12]) (rest := []) ⟨hx, hb, hml, hown, hts⟩ (c_X5_isIn l v 7 12) (va_cwS 3 hts gX5_isOfThings_X5_isIn rfl rfl rfl (by decide +kernel) ⟨Nat.le_of_ble_eq_true rfl, Nat.le_of_ble_eq_true rfl⟩) preEq rfl rfl hl.1 rfl (lv_room (Nat.le_of_ble_eq_true rfl)) dX5_isOfThings_10 ⟨Nat.le_of_ble_eq_true rfl, Nat.le_of_ble_eq_true rfl⟩) ?_
    cases b2 : (cy_isIn v 7 12)
    · refine lv_if_eq (tgt := 20) hx hb dX5_isOfThings_13 (by decide) (fun h3 => ?_) (fun h3 => absurd (by decide) h3)
      refine lv_iconst (v := 0) hx hb dX5_isOfThings_20 (by decide) ?_
      exact W.zret (v := 0) hx hb hr (rfl) (fun t ht hW => ⟨congrArg (fun q => Outcome.returned (some (Value.int q))) (by simp [cy_th, cy_b, h1, b2]), ht⟩) (fun q h => by cases h) dX5_isOfThings_21
    · refine lv_if_eq (tgt := 20) hx hb dX5_isOfThings_13 (by decide) (fun h4 => absurd h4 (by decide)) (fun h4 => ?_)
      refine lv_iconst (v := 1) hx hb dX5_isOfThings_16 (by decide) ?_
      refine lv_goto (tgt := 21) hx hb dX5_isOfThings_17 (by decide) ?_
      exact W.zret (v := 1) hx hb hr (rfl) (fun t ht hW => ⟨congrArg (fun q => Outcome.returned (some (Value.int q))) (by simp [cy_th, cy_b, h1, b2]), ht⟩) (fun q h => by cases h) dX5_isOfThings_21

set_option maxHeartbeats 4000000 in
set_option maxRecDepth 100000 in
theorem c_X5_goes (l : Launch) (s0 v : Int32)  : Met l yX5_goes wsX5_goes { frames := 0, cells := 0, slots := 0, locals := 0 } (fun zz _ => zz = ([.int s0, .int v] : List Value).toArray) (cy_Q (.int (cy_b (cy_go s0 v)))) 0 0 (fun _ => False) := by
  refine Met.ofW (cc := cX5_goes) (maxL := 2) (ret := (some .boolean)) (by decide) rfl ?_
  intro p e s m args below meth c s₁ B hml hv
  have hv : args = ([.int s0, .int v] : List Value).toArray := hv
  subst hv
  have hx := B.exec
  have hb := B.bytes
  have hr := B.returns
  have hts := atoms_spec (ws := wsX5_goes) B.pre
  have hown : s.vm.findClass RX5 = some m.cls := findClass_of_methodNamed B.named
  have hlocks := B.notSynchronized
  have hl := lv_entry ([.int s0, .int v]) (n := 2) (Nat.le_of_ble_eq_true rfl)
  rw [lg_entry_eq]
  generalize (lg_sl ([.int s0, .int v]) ++ List.replicate (2 - (lg_sl ([.int s0, .int v])).length) Slot.unset).toArray = ls at hl ⊢
  have hl : lv_has ls 2 [(0, .int s0), (1, .int v)] := hl
  refine lv_iload_n hx hb dX5_goes_0 rfl (lv_at hl 0 rfl) ?_
  refine lv_iload_n hx hb dX5_goes_1 rfl (lv_at hl 1 rfl) ?_
  refine lv_icmp_ne (tgt := 7) hx hb dX5_goes_2 (by decide) (fun h1 => ?_) (fun h1 => ?_)
  · refine lv_iload_n hx hb dX5_goes_7 rfl (lv_at hl 0 rfl) ?_
    rcases cy_sw5_11 s0 with w2 | w2 | w2 | w2 | w2 | w2 | w2 | ⟨w2, w2n5, w2n6, w2n7, w2n8, w2n9, w2n10, w2n11⟩
    · refine lv_tableIn (off := 44) (tgt := 52) hx hb dX5_goes_8 (by rw [w2]; decide) (by rw [w2]; decide) (by rw [w2]; rfl) (by decide) ?_
      refine lv_iload_n hx hb dX5_goes_52 rfl (lv_at hl 1 rfl) ?_
      refine lv_iconst (v := 4) hx hb dX5_goes_53 (by decide) ?_
      refine lv_icmp_eq (tgt := 63) hx hb dX5_goes_54 (by decide) (fun h3 => ?_) (fun h3 => ?_)
      · refine lv_iconst (v := 1) hx hb dX5_goes_63 (by decide) ?_
        refine lv_goto (tgt := 68) hx hb dX5_goes_64 (by decide) ?_
        exact W.zret (v := 1) hx hb hr (rfl) (fun t ht hW => ⟨congrArg (fun q => Outcome.returned (some (Value.int q))) (by subst w2; simp [cy_go, cy_b, h1, h3]), ht⟩) (fun q h => by cases h) dX5_goes_68
      · refine lv_iload_n hx hb dX5_goes_57 rfl (lv_at hl 1 rfl) ?_
        refine lv_bipush (v := 13) hx hb dX5_goes_58 (by decide) ?_
        refine lv_icmp_ne (tgt := 67) hx hb dX5_goes_60 (by decide) (fun h4 => ?_) (fun h4 => ?_)
        · refine lv_iconst (v := 0) hx hb dX5_goes_67 (by decide) ?_
          exact W.zret (v := 0) hx hb hr (rfl) (fun t ht hW => ⟨congrArg (fun q => Outcome.returned (some (Value.int q))) (by subst w2; simp [cy_go, cy_b, h1, h3, h4]), ht⟩) (fun q h => by cases h) dX5_goes_68
        · refine lv_iconst (v := 1) hx hb dX5_goes_63 (by decide) ?_
          refine lv_goto (tgt := 68) hx hb dX5_goes_64 (by decide) ?_
          exact W.zret (v := 1) hx hb hr (rfl) (fun t ht hW => ⟨congrArg (fun q => Outcome.returned (some (Value.int q))) (by subst w2; simp [cy_go, cy_b, h1, h3, h4]), ht⟩) (fun q h => by cases h) dX5_goes_68
    · refine lv_tableIn (off := 61) (tgt := 69) hx hb dX5_goes_8 (by rw [w2]; decide) (by rw [w2]; decide) (by rw [w2]; rfl) (by decide) ?_
      refine lv_iload_n hx hb dX5_goes_69 rfl (lv_at hl 1 rfl) ?_
      refine lv_bipush (v := 13) hx hb dX5_goes_70 (by decide) ?_
      refine lv_icmp_ne (tgt := 79) hx hb dX5_goes_72 (by decide) (fun h5 => ?_) (fun h5 => ?_)
      · refine lv_iconst (v := 0) hx hb dX5_goes_79 (by decide) ?_
        exact W.zret (v := 0) hx hb hr (rfl) (fun t ht hW => ⟨congrArg (fun q => Outcome.returned (some (Value.int q))) (by subst w2; simp [cy_go, cy_b, h1, h5]), ht⟩) (fun q h => by cases h) dX5_goes_80
      · refine lv_iconst (v := 1) hx hb dX5_goes_75 (by decide) ?_
        refine lv_goto (tgt := 80) hx hb dX5_goes_76 (by decide) ?_
        exact W.zret (v := 1) hx hb hr (rfl) (fun t ht hW => ⟨congrArg (fun q => Outcome.returned (some (Value.int q))) (by subst w2; simp [cy_go, cy_b, h1, h5]), ht⟩) (fun q h => by cases h) dX5_goes_80
    · refine lv_tableIn (off := 109) (tgt := 117) hx hb dX5_goes_8 (by rw [w2]; decide) (by rw [w2]; decide) (by rw [w2]; rfl) (by decide) ?_
      refine lv_iconst (v := 0) hx hb dX5_goes_117 (by decide) ?_
      exact W.zret (v := 0) hx hb hr (rfl) (fun t ht hW => ⟨congrArg (fun q => Outcome.returned (some (Value.int q))) (by subst w2; simp [cy_go, cy_b, h1]), ht⟩) (fun q h => by cases h) dX5_goes_118
    · refine lv_tableIn (off := 73) (tgt := 81) hx hb dX5_goes_8 (by rw [w2]; decide) (by rw [w2]; decide) (by rw [w2]; rfl) (by decide) ?_
      refine lv_iload_n hx hb dX5_goes_81 rfl (lv_at hl 1 rfl) ?_
      refine lv_bipush (v := 7) hx hb dX5_goes_82 (by decide) ?_
      refine lv_icmp_eq (tgt := 93) hx hb dX5_goes_84 (by decide) (fun h6 => ?_) (fun h6 => ?_)
      · refine lv_iconst (v := 1) hx hb dX5_goes_93 (by decide) ?_
        refine lv_goto (tgt := 98) hx hb dX5_goes_94 (by decide) ?_
        exact W.zret (v := 1) hx hb hr (rfl) (fun t ht hW => ⟨congrArg (fun q => Outcome.returned (some (Value.int q))) (by subst w2; simp [cy_go, cy_b, h1, h6]), ht⟩) (fun q h => by cases h) dX5_goes_98
      · refine lv_iload_n hx hb dX5_goes_87 rfl (lv_at hl 1 rfl) ?_
        refine lv_bipush (v := 9) hx hb dX5_goes_88 (by decide) ?_
        refine lv_icmp_ne (tgt := 97) hx hb dX5_goes_90 (by decide) (fun h7 => ?_) (fun h7 => ?_)
        · refine lv_iconst (v := 0) hx hb dX5_goes_97 (by decide) ?_
          exact W.zret (v := 0) hx hb hr (rfl) (fun t ht hW => ⟨congrArg (fun q => Outcome.returned (some (Value.int q))) (by subst w2; simp [cy_go, cy_b, h1, h6, h7]), ht⟩) (fun q h => by cases h) dX5_goes_98
        · refine lv_iconst (v := 1) hx hb dX5_goes_93 (by decide) ?_
          refine lv_goto (tgt := 98) hx hb dX5_goes_94 (by decide) ?_
          exact W.zret (v := 1) hx hb hr (rfl) (fun t ht hW => ⟨congrArg (fun q => Outcome.returned (some (Value.int q))) (by subst w2; simp [cy_go, cy_b, h1, h6, h7]), ht⟩) (fun q h => by cases h) dX5_goes_98
    · refine lv_tableIn (off := 109) (tgt := 117) hx hb dX5_goes_8 (by rw [w2]; decide) (by rw [w2]; decide) (by rw [w2]; rfl) (by decide) ?_
      refine lv_iconst (v := 0) hx hb dX5_goes_117 (by decide) ?_
      exact W.zret (v := 0) hx hb hr (rfl) (fun t ht hW => ⟨congrArg (fun q => Outcome.returned (some (Value.int q))) (by subst w2; simp [cy_go, cy_b, h1]), ht⟩) (fun q h => by cases h) dX5_goes_118
    · refine lv_tableIn (off := 109) (tgt := 117) hx hb dX5_goes_8 (by rw [w2]; decide) (by rw [w2]; decide) (by rw [w2]; rfl) (by decide) ?_
      refine lv_iconst (v := 0) hx hb dX5_goes_117 (by decide) ?_
      exact W.zret (v := 0) hx hb hr (rfl) (fun t ht hW => ⟨congrArg (fun q => Outcome.returned (some (Value.int q))) (by subst w2; simp [cy_go, cy_b, h1]), ht⟩) (fun q h => by cases h) dX5_goes_118
    · refine lv_tableIn (off := 91) (tgt := 99) hx hb dX5_goes_8 (by rw [w2]; decide) (by rw [w2]; decide) (by rw [w2]; rfl) (by decide) ?_
      refine lv_iload_n hx hb dX5_goes_99 rfl (lv_at hl 1 rfl) ?_
      refine lv_bipush (v := 10) hx hb dX5_goes_100 (by decide) ?_
      refine lv_icmp_eq (tgt := 111) hx hb dX5_goes_102 (by decide) (fun h8 => ?_) (fun h8 => ?_)
      · refine lv_iconst (v := 1) hx hb dX5_goes_111 (by decide) ?_
        refine lv_goto (tgt := 116) hx hb dX5_goes_112 (by decide) ?_
        exact W.zret (v := 1) hx hb hr (rfl) (fun t ht hW => ⟨congrArg (fun q => Outcome.returned (some (Value.int q))) (by subst w2; simp [cy_go, cy_b, h1, h8]), ht⟩) (fun q h => by cases h) dX5_goes_116
      · refine lv_iload_n hx hb dX5_goes_105 rfl (lv_at hl 1 rfl) ?_
        refine lv_bipush (v := 12) hx hb dX5_goes_106 (by decide) ?_
        refine lv_icmp_ne (tgt := 115) hx hb dX5_goes_108 (by decide) (fun h9 => ?_) (fun h9 => ?_)
        · refine lv_iconst (v := 0) hx hb dX5_goes_115 (by decide) ?_
          exact W.zret (v := 0) hx hb hr (rfl) (fun t ht hW => ⟨congrArg (fun q => Outcome.returned (some (Value.int q))) (by subst w2; simp [cy_go, cy_b, h1, h8, h9]), ht⟩) (fun q h => by cases h) dX5_goes_116
        · refine lv_iconst (v := 1) hx hb dX5_goes_111 (by decide) ?_
          refine lv_goto (tgt := 116) hx hb dX5_goes_112 (by decide) ?_
          exact W.zret (v := 1) hx hb hr (rfl) (fun t ht hW => ⟨congrArg (fun q => Outcome.returned (some (Value.int q))) (by subst w2; simp [cy_go, cy_b, h1, h8, h9]), ht⟩) (fun q h => by cases h) dX5_goes_116
    · refine lv_tableOut (tgt := 117) hx hb dX5_goes_8 w2 (by decide) ?_
      refine lv_iconst (v := 0) hx hb dX5_goes_117 (by decide) ?_
      exact W.zret (v := 0) hx hb hr (rfl) (fun t ht hW => ⟨congrArg (fun q => Outcome.returned (some (Value.int q))) (by simp [cy_go, cy_b, h1, w2n5, w2n6, w2n7, w2n8, w2n9, w2n10, w2n11]), ht⟩) (fun q h => by cases h) dX5_goes_118
  · refine lv_iconst (v := 1) hx hb dX5_goes_5 (by decide) ?_
    exact W.zret (v := 1) hx hb hr (rfl) (fun t ht hW => ⟨congrArg (fun q => Outcome.returned (some (Value.int q))) (by simp [cy_go, cy_b, h1]), ht⟩) (fun q h => by cases h) dX5_goes_6

set_option maxHeartbeats 4000000 in
set_option maxRecDepth 100000 in
theorem c_X5_wanted (l : Launch) (s0 : Int32)  : Met l yX5_wanted wsX5_wanted { frames := 0, cells := 0, slots := 0, locals := 0 } (fun zz _ => zz = ([.int s0] : List Value).toArray) (cy_Q (.int (cy_wa s0))) 0 0 (fun _ => False) := by
  refine Met.ofW (cc := cX5_wanted) (maxL := 1) (ret := (some .int)) (by decide) rfl ?_
  intro p e s m args below meth c s₁ B hml hv
  have hv : args = ([.int s0] : List Value).toArray := hv
  subst hv
  have hx := B.exec
  have hb := B.bytes
  have hr := B.returns
  have hts := atoms_spec (ws := wsX5_wanted) B.pre
  have hown : s.vm.findClass RX5 = some m.cls := findClass_of_methodNamed B.named
  have hlocks := B.notSynchronized
  have hl := lv_entry ([.int s0]) (n := 1) (Nat.le_of_ble_eq_true rfl)
  rw [lg_entry_eq]
  generalize (lg_sl ([.int s0]) ++ List.replicate (1 - (lg_sl ([.int s0])).length) Slot.unset).toArray = ls at hl ⊢
  have hl : lv_has ls 1 [(0, .int s0)] := hl
  refine lv_iload_n hx hb dX5_wanted_0 rfl (lv_at hl 0 rfl) ?_
  refine lv_iconst (v := 3) hx hb dX5_wanted_1 (by decide) ?_
  refine lv_icmp_ne (tgt := 9) hx hb dX5_wanted_2 (by decide) (fun h1 => ?_) (fun h1 => ?_)
  · refine lv_iload_n hx hb dX5_wanted_9 rfl (lv_at hl 0 rfl) ?_
    refine lv_bipush (v := 9) hx hb dX5_wanted_10 (by decide) ?_
    refine lv_icmp_ge (tgt := 19) hx hb dX5_wanted_12 (by decide) (fun h2 => ?_) (fun h2 => ?_)
    · refine lv_iload_n hx hb dX5_wanted_19 rfl (lv_at hl 0 rfl) ?_
      refine lv_bipush (v := 9) hx hb dX5_wanted_20 (by decide) ?_
      refine lv_icmp_ne (tgt := 30) hx hb dX5_wanted_22 (by decide) (fun h3 => ?_) (fun h3 => ?_)
      · refine lv_iload_n hx hb dX5_wanted_30 rfl (lv_at hl 0 rfl) ?_
        refine lv_bipush (v := 12) hx hb dX5_wanted_31 (by decide) ?_
        refine lv_icmp_ne (tgt := 41) hx hb dX5_wanted_33 (by decide) (fun h4 => ?_) (fun h4 => ?_)
        · refine lv_bipush (v := 7) hx hb dX5_wanted_41 (by decide) ?_
          exact W.iret (v := 7) hx hb hr (fun t ht hW => ⟨congrArg (fun q => Outcome.returned (some (Value.int q))) (by simp [cy_wa, h1, h2, h3, h4]), ht⟩) (fun q h => by cases h) dX5_wanted_43
        · refine lv_bipush (v := 9) hx hb dX5_wanted_36 (by decide) ?_
          refine lv_goto (tgt := 43) hx hb dX5_wanted_38 (by decide) ?_
          exact W.iret (v := 9) hx hb hr (fun t ht hW => ⟨congrArg (fun q => Outcome.returned (some (Value.int q))) (by simp [cy_wa, h1, h2, h3, h4]), ht⟩) (fun q h => by cases h) dX5_wanted_43
      · refine lv_bipush (v := 13) hx hb dX5_wanted_25 (by decide) ?_
        refine lv_goto (tgt := 43) hx hb dX5_wanted_27 (by decide) ?_
        exact W.iret (v := 13) hx hb hr (fun t ht hW => ⟨congrArg (fun q => Outcome.returned (some (Value.int q))) (by simp [cy_wa, h1, h2, h3]), ht⟩) (fun q h => by cases h) dX5_wanted_43
    · refine lv_iconst (v := 4) hx hb dX5_wanted_15 (by decide) ?_
      refine lv_goto (tgt := 43) hx hb dX5_wanted_16 (by decide) ?_
      exact W.iret (v := 4) hx hb hr (fun t ht hW => ⟨congrArg (fun q => Outcome.returned (some (Value.int q))) (by simp [cy_wa, h1, h2]), ht⟩) (fun q h => by cases h) dX5_wanted_43
  · refine lv_iconst (v := 0) hx hb dX5_wanted_5 (by decide) ?_
    refine lv_goto (tgt := 43) hx hb dX5_wanted_6 (by decide) ?_
    exact W.iret (v := 0) hx hb hr (fun t ht hW => ⟨congrArg (fun q => Outcome.returned (some (Value.int q))) (by simp [cy_wa, h1]), ht⟩) (fun q h => by cases h) dX5_wanted_43

set_option maxHeartbeats 4000000 in
set_option maxRecDepth 100000 in
theorem c_X5_had (l : Launch) (s0 : Int32)  : Met l yX5_had wsX5_had { frames := 1, cells := 0, slots := 0, locals := 20 } (fun zz _ => zz = ([.int s0] : List Value).toArray) (cy_Q (.int (cy_ha s0))) 0 0 (fun _ => False) := by
  refine Met.ofW (cc := cX5_had) (maxL := 1) (ret := (some .int)) (by decide) rfl ?_
  intro p e s m args below meth c s₁ B hml hv
  have hv : args = ([.int s0] : List Value).toArray := hv
  subst hv
  have hx := B.exec
  have hb := B.bytes
  have hr := B.returns
  have hts := atoms_spec (ws := wsX5_had) B.pre
  have hown : s.vm.findClass RX5 = some m.cls := findClass_of_methodNamed B.named
  have hlocks := B.notSynchronized
  have hl := lv_entry ([.int s0]) (n := 1) (Nat.le_of_ble_eq_true rfl)
  rw [lg_entry_eq]
  generalize (lg_sl ([.int s0]) ++ List.replicate (1 - (lg_sl ([.int s0])).length) Slot.unset).toArray = ls at hl ⊢
  have hl : lv_has ls 1 [(0, .int s0)] := hl
  refine lv_iload_n hx hb dX5_had_0 rfl (lv_at hl 0 rfl) ?_
  refine lv_bipush (v := 8) hx hb dX5_had_1 (by decide) ?_
  refine lv_icmp_ne (tgt := 10) hx hb dX5_had_3 (by decide) (fun h1 => ?_) (fun h1 => ?_)
  · refine lv_iload_n hx hb dX5_had_10 rfl (lv_at hl 0 rfl) ?_
    refine lv_bipush (v := 11) hx hb dX5_had_11 (by decide) ?_
    refine lv_icmp_ne (tgt := 21) hx hb dX5_had_13 (by decide) (fun h2 => ?_) (fun h2 => ?_)
    · refine lv_iload_n hx hb dX5_had_21 rfl (lv_at hl 0 rfl) ?_
      refine cy_callp (v := .int (cy_wa s0)) (va_runS (As := [.int s0]) (rest := []) ⟨hx, hb, hml, hown, hts⟩ (c_X5_wanted l s0) (va_cwS 1 hts gX5_had_X5_wanted rfl rfl rfl (by decide +kernel) ⟨Nat.le_of_ble_eq_true rfl, Nat.le_of_ble_eq_true rfl⟩) preEq rfl rfl hl.1 rfl (lv_room (Nat.le_of_ble_eq_true rfl)) dX5_had_22 ⟨Nat.le_of_ble_eq_true rfl, Nat.le_of_ble_eq_true rfl⟩) ?_
      exact W.iret (v := cy_wa s0) hx hb hr (fun t ht hW => ⟨congrArg (fun q => Outcome.returned (some (Value.int q))) (by simp [cy_ha, h1, h2]), ht⟩) (fun q h => by cases h) dX5_had_25
    · refine lv_bipush (v := 8) hx hb dX5_had_16 (by decide) ?_
      refine lv_goto (tgt := 25) hx hb dX5_had_18 (by decide) ?_
      exact W.iret (v := 8) hx hb hr (fun t ht hW => ⟨congrArg (fun q => Outcome.returned (some (Value.int q))) (by simp [cy_ha, h1, h2]), ht⟩) (fun q h => by cases h) dX5_had_25
  · refine lv_iconst (v := 5) hx hb dX5_had_6 (by decide) ?_
    refine lv_goto (tgt := 25) hx hb dX5_had_7 (by decide) ?_
    exact W.iret (v := 5) hx hb hr (fun t ht hW => ⟨congrArg (fun q => Outcome.returned (some (Value.int q))) (by simp [cy_ha, h1]), ht⟩) (fun q h => by cases h) dX5_had_25
end
section
theorem hin5_X5_isLoad : ∀ w ∈ u_ws RX5 TX5 19, w ∈ wsX5_isLoad := by decide +kernel
theorem hin5_X5_isPlace : ∀ w ∈ u_ws RX5 TX5 19, w ∈ wsX5_isPlace := by decide +kernel
theorem hin5_X5_no : ∀ w ∈ u_ws RX5 TX5 19, w ∈ wsX5_no := by decide +kernel
theorem hin5_X5_comes : ∀ w ∈ u_ws RX5 TX5 19, w ∈ wsX5_comes := by decide +kernel
theorem hin5_X5_refused : ∀ w ∈ u_ws RX5 TX5 19, w ∈ wsX5_refused := by decide +kernel
theorem hin5_X5_count : ∀ w ∈ u_ws RX5 TX5 19, w ∈ wsX5_count := by decide +kernel
set_option maxHeartbeats 4000000 in
set_option maxRecDepth 100000 in
theorem c_X5_isLoad (l : Launch) (D : va_G) (cI cJ cO : ClassId) (z n na : Nat) (σ τ : cy_S) (pl : Nat → Int32) (hi : Int32) (ad : Nat → Nat) (nt : Nat) (h0 : τ.1 0 0 = nI nt) (v : Int32)  : Met l yX5_isLoad wsX5_isLoad { frames := 1, cells := 0, slots := 0, locals := 22 } (cy_P D cI cJ cO (fun H => cy_W D z (cy_CT cI cJ cO n na σ τ pl hi ad) ad H) [.ref (ad 20), .int v]) (cy_Q (.int (cy_b (cy_ld nt v)))) 0 0 (fun _ => False) := by
  refine Met.ofW (cc := cX5_isLoad) (maxL := 2) (ret := (some .boolean)) (by decide) rfl ?_
  intro p e s m args below meth c s₁ B hml hv
  obtain ⟨rfl, hK, hI⟩ := hv
  have hx := B.exec
  have hb := B.bytes
  have hr := B.returns
  have hts := atoms_spec (ws := wsX5_isLoad) B.pre
  have hown : s.vm.findClass RX5 = some m.cls := findClass_of_methodNamed B.named
  have hlocks := B.notSynchronized
  have hl := lv_entry ([.ref (ad 20), .int v]) (n := 2) (Nat.le_of_ble_eq_true rfl)
  rw [lg_entry_eq]
  generalize (lg_sl ([.ref (ad 20), .int v]) ++ List.replicate (2 - (lg_sl ([.ref (ad 20), .int v])).length) Slot.unset).toArray = ls at hl ⊢
  have hl : lv_has ls 2 [(0, .ref (ad 20)), (1, .int v)] := hl
  have hin5 := hin5_X5_isLoad
  refine lv_iload_n hx hb dX5_isLoad_0 rfl (lv_at hl 1 rfl) ?_
  refine lv_iconst (v := 0) hx hb dX5_isLoad_1 (by decide) ?_
  refine lv_aload_n hx hb dX5_isLoad_2 rfl (lv_at hl 0 rfl) ?_
  refine cy_getT (v := .int (τ.1 0 0)) hx hb hts hin5 hown hK hI 0 (by decide) (hts (.fieldLink RX5 44 "CustomsYardModel" "loads" "I") (by decide +kernel)) rfl dX5_isLoad_3 ?_
  refine lv_iconst (v := 1) hx hb dX5_isLoad_6 (by decide) ?_
  refine lv_isub hx hb dX5_isLoad_7 ?_
  refine cy_callp (v := .int (cy_b (cy_isIn v 0 ((τ.1 0 0) - 1)))) (va_runS (As := [.int v, .int 0, .int ((τ.1 0 0) - 1)]) (rest := []) ⟨hx, hb, hml, hown, hts⟩ (c_X5_isIn l v 0 ((τ.1 0 0) - 1)) (va_cwS 3 hts gX5_isLoad_X5_isIn rfl rfl rfl (by decide +kernel) ⟨Nat.le_of_ble_eq_true rfl, Nat.le_of_ble_eq_true rfl⟩) preEq rfl rfl hl.1 rfl (lv_room (Nat.le_of_ble_eq_true rfl)) dX5_isLoad_8 ⟨Nat.le_of_ble_eq_true rfl, Nat.le_of_ble_eq_true rfl⟩) ?_
  exact W.zret (v := cy_b (cy_isIn v 0 ((τ.1 0 0) - 1))) hx hb hr (cy_nb _) (fun t ht hW => ⟨congrArg (fun q => Outcome.returned (some (Value.int q))) (by unfold cy_ld; rw [← h0]), ht⟩) (fun q h => by cases h) dX5_isLoad_11

set_option maxHeartbeats 4000000 in
set_option maxRecDepth 100000 in
theorem c_X5_isPlace (l : Launch) (D : va_G) (cI cJ cO : ClassId) (z n na : Nat) (σ τ : cy_S) (pl : Nat → Int32) (hi : Int32) (ad : Nat → Nat) (k : Nat) (hk : k < 80) (i : Int32)  : Met l yX5_isPlace wsX5_isPlace { frames := 1, cells := 0, slots := 0, locals := 22 } (cy_P D cI cJ cO (fun H => cy_W D z (cy_CT cI cJ cO n na σ τ pl hi ad) ad H) [.ref (ad 20), .int (nI k), .int i]) (cy_Q (.int (cy_b (cy_pl (τ.1 2 k) i)))) 0 0 (fun _ => False) := by
  refine Met.ofW (cc := cX5_isPlace) (maxL := 3) (ret := (some .boolean)) (by decide) rfl ?_
  intro p e s m args below meth c s₁ B hml hv
  obtain ⟨rfl, hK, hI⟩ := hv
  have hx := B.exec
  have hb := B.bytes
  have hr := B.returns
  have hts := atoms_spec (ws := wsX5_isPlace) B.pre
  have hown : s.vm.findClass RX5 = some m.cls := findClass_of_methodNamed B.named
  have hlocks := B.notSynchronized
  have hl := lv_entry ([.ref (ad 20), .int (nI k), .int i]) (n := 3) (Nat.le_of_ble_eq_true rfl)
  rw [lg_entry_eq]
  generalize (lg_sl ([.ref (ad 20), .int (nI k), .int i]) ++ List.replicate (3 - (lg_sl ([.ref (ad 20), .int (nI k), .int i])).length) Slot.unset).toArray = ls at hl ⊢
  have hl : lv_has ls 3 [(0, .ref (ad 20)), (1, .int (nI k)), (2, .int i)] := hl
  have hin5 := hin5_X5_isPlace
  refine lv_iload_n hx hb dX5_isPlace_0 rfl (lv_at hl 2 rfl) ?_
  refine lv_iconst (v := 0) hx hb dX5_isPlace_1 (by decide) ?_
  refine lv_aload_n hx hb dX5_isPlace_2 rfl (lv_at hl 0 rfl) ?_
  refine cy_getT (v := .ref (ad 22)) hx hb hts hin5 hown hK hI 2 (by decide) (hts (.fieldLink RX5 13 "CustomsYardModel" "sizes" "[I") (by decide +kernel)) rfl dX5_isPlace_3 ?_
  refine lv_iload_n hx hb dX5_isPlace_6 rfl (lv_at hl 1 rfl) ?_
  refine cy_iald (f := τ.1 2) (k := k) hx hb hK.1 hI 0 (x := 22) rfl rfl (by omega) (by decide) dX5_isPlace_7 ?_
  refine lv_iconst (v := 1) hx hb dX5_isPlace_8 (by decide) ?_
  refine lv_isub hx hb dX5_isPlace_9 ?_
  refine cy_callp (v := .int (cy_b (cy_isIn i 0 ((τ.1 2 k) - 1)))) (va_runS (As := [.int i, .int 0, .int ((τ.1 2 k) - 1)]) (rest := []) ⟨hx, hb, hml, hown, hts⟩ (c_X5_isIn l i 0 ((τ.1 2 k) - 1)) (va_cwS 3 hts gX5_isPlace_X5_isIn rfl rfl rfl (by decide +kernel) ⟨Nat.le_of_ble_eq_true rfl, Nat.le_of_ble_eq_true rfl⟩) preEq rfl rfl hl.1 rfl (lv_room (Nat.le_of_ble_eq_true rfl)) dX5_isPlace_10 ⟨Nat.le_of_ble_eq_true rfl, Nat.le_of_ble_eq_true rfl⟩) ?_
  exact W.zret (v := cy_b (cy_isIn i 0 ((τ.1 2 k) - 1))) hx hb hr (cy_nb _) (fun t ht hW => ⟨congrArg (fun q => Outcome.returned (some (Value.int q))) (rfl), ht⟩) (fun q h => by cases h) dX5_isPlace_13

set_option maxHeartbeats 4000000 in
set_option maxRecDepth 100000 in
theorem c_X5_no (l : Launch) (D : va_G) (cI cJ cO : ClassId) (z n na : Nat) (σ τ : cy_S) (pl : Nat → Int32) (hi : Int32) (ad : Nat → Nat) (w : Int32)  : Met l yX5_no wsX5_no { frames := 0, cells := 0, slots := 0, locals := 0 } (cy_P D cI cJ cO (fun H => cy_W D z (cy_CT cI cJ cO n na σ τ pl hi ad) ad H) [.ref (ad 20), .int w]) (cy_M (S := Unit) z (fun _ => some (.int w)) (fun _ H => cy_W D z (cy_CT cI cJ cO n na σ (cy_no τ w) pl hi ad) ad H)) 0 0 (fun q => z ≤ q) := by
  refine Met.ofW (cc := cX5_no) (maxL := 2) (ret := (some .int)) (by decide) rfl ?_
  intro p e s m args below meth c s₁ B hml hv
  obtain ⟨rfl, hK, hI⟩ := hv
  have hx := B.exec
  have hb := B.bytes
  have hr := B.returns
  have hts := atoms_spec (ws := wsX5_no) B.pre
  have hown : s.vm.findClass RX5 = some m.cls := findClass_of_methodNamed B.named
  have hlocks := B.notSynchronized
  have hS : va_S (fun q => z ≤ q) s.heap s.heap [] := va_S.rf
  have hl := lv_entry ([.ref (ad 20), .int w]) (n := 2) (Nat.le_of_ble_eq_true rfl)
  rw [lg_entry_eq]
  generalize (lg_sl ([.ref (ad 20), .int w]) ++ List.replicate (2 - (lg_sl ([.ref (ad 20), .int w])).length) Slot.unset).toArray = ls at hl ⊢
  have hl : lv_has ls 2 [(0, .ref (ad 20)), (1, .int w)] := hl
  have hin5 := hin5_X5_no
  refine lv_aload_n hx hb dX5_no_0 rfl (lv_at hl 0 rfl) ?_
  refine lv_iload_n hx hb dX5_no_1 rfl (lv_at hl 1 rfl) ?_
  refine cy_putT (v := w) hx hb hts hin5 hown hK hI hS 12 2 (by decide) (hts (.fieldLink RX5 52 "CustomsYardModel" "refused" "I") (by decide +kernel)) rfl (by decide +kernel) rfl dX5_no_2 (fun H locs hI hS => ?_)
  refine lv_aload_n hx hb dX5_no_5 rfl (lv_at hl 0 rfl) ?_
  refine lv_dup hx hb dX5_no_6 rfl ?_
  refine cy_getT (v := .int (τ.1 0 3)) hx hb hts hin5 hown hK hI 13 (by decide) (hts (.fieldLink RX5 55 "CustomsYardModel" "casts" "I") (by decide +kernel)) rfl dX5_no_7 ?_
  refine lv_iload_n hx hb dX5_no_10 rfl (lv_at hl 1 rfl) ?_
  refine lv_bipush (v := -4) hx hb dX5_no_11 (by decide) ?_
  refine lv_icmp_ne (tgt := 20) hx hb dX5_no_13 (by decide) (fun h1 => ?_) (fun h1 => ?_)
  · refine lv_iconst (v := 0) hx hb dX5_no_20 (by decide) ?_
    refine lv_iadd hx hb dX5_no_21 ?_
    refine cy_putT (v := ((τ.1 0 3) + 0)) hx hb hts hin5 hown hK hI hS 13 3 (by decide) (hts (.fieldLink RX5 55 "CustomsYardModel" "casts" "I") (by decide +kernel)) rfl (by decide +kernel) rfl dX5_no_22 (fun H locs hI hS => ?_)
    refine lv_aload_n hx hb dX5_no_25 rfl (lv_at hl 0 rfl) ?_
    refine lv_dup hx hb dX5_no_26 rfl ?_
    refine cy_getT (v := .int (τ.1 0 4)) hx hb hts hin5 hown hK hI 14 (by decide) (hts (.fieldLink RX5 58 "CustomsYardModel" "indexes" "I") (by decide +kernel)) rfl dX5_no_27 ?_
    refine lv_iload_n hx hb dX5_no_30 rfl (lv_at hl 1 rfl) ?_
    refine lv_bipush (v := -5) hx hb dX5_no_31 (by decide) ?_
    refine lv_icmp_ne (tgt := 40) hx hb dX5_no_33 (by decide) (fun h2 => ?_) (fun h2 => ?_)
    · refine lv_iconst (v := 0) hx hb dX5_no_40 (by decide) ?_
      refine lv_iadd hx hb dX5_no_41 ?_
      refine cy_putT (v := ((τ.1 0 4) + 0)) hx hb hts hin5 hown hK hI hS 14 4 (by decide) (hts (.fieldLink RX5 58 "CustomsYardModel" "indexes" "I") (by decide +kernel)) rfl (by decide +kernel) rfl dX5_no_42 (fun H locs hI hS => ?_)
      refine lv_aload_n hx hb dX5_no_45 rfl (lv_at hl 0 rfl) ?_
      refine lv_dup hx hb dX5_no_46 rfl ?_
      refine cy_getT (v := .int (τ.1 0 5)) hx hb hts hin5 hown hK hI 15 (by decide) (hts (.fieldLink RX5 61 "CustomsYardModel" "stores" "I") (by decide +kernel)) rfl dX5_no_47 ?_
      refine lv_iload_n hx hb dX5_no_50 rfl (lv_at hl 1 rfl) ?_
      refine lv_bipush (v := -6) hx hb dX5_no_51 (by decide) ?_
      refine lv_icmp_ne (tgt := 60) hx hb dX5_no_53 (by decide) (fun h3 => ?_) (fun h3 => ?_)
      · refine lv_iconst (v := 0) hx hb dX5_no_60 (by decide) ?_
        refine lv_iadd hx hb dX5_no_61 ?_
        refine cy_putT (v := ((τ.1 0 5) + 0)) hx hb hts hin5 hown hK hI hS 15 5 (by decide) (hts (.fieldLink RX5 61 "CustomsYardModel" "stores" "I") (by decide +kernel)) rfl (by decide +kernel) rfl dX5_no_62 (fun H locs hI hS => ?_)
        refine lv_iload_n hx hb dX5_no_65 rfl (lv_at hl 1 rfl) ?_
        exact W.iret (v := w) hx hb hr (fun t ht hW => ⟨(), rfl, by rw [ht]; exact (by rw [show cy_no τ w = cy_i (cy_i (cy_i (cy_i τ 0 2 w) 0 3 ((τ.1 0 3) + 0)) 0 4 ((τ.1 0 4) + 0)) 0 5 ((τ.1 0 5) + 0) from by simp [cy_no, cy_b, h1, h2, h3]]; exact hI), hS.F ht⟩) hS.2.2 dX5_no_66
      · refine lv_iconst (v := 1) hx hb dX5_no_56 (by decide) ?_
        refine lv_goto (tgt := 61) hx hb dX5_no_57 (by decide) ?_
        refine lv_iadd hx hb dX5_no_61 ?_
        refine cy_putT (v := ((τ.1 0 5) + 1)) hx hb hts hin5 hown hK hI hS 15 5 (by decide) (hts (.fieldLink RX5 61 "CustomsYardModel" "stores" "I") (by decide +kernel)) rfl (by decide +kernel) rfl dX5_no_62 (fun H locs hI hS => ?_)
        refine lv_iload_n hx hb dX5_no_65 rfl (lv_at hl 1 rfl) ?_
        exact W.iret (v := w) hx hb hr (fun t ht hW => ⟨(), rfl, by rw [ht]; exact (by rw [show cy_no τ w = cy_i (cy_i (cy_i (cy_i τ 0 2 w) 0 3 ((τ.1 0 3) + 0)) 0 4 ((τ.1 0 4) + 0)) 0 5 ((τ.1 0 5) + 1) from by simp [cy_no, cy_b, h1, h2, h3]]; exact hI), hS.F ht⟩) hS.2.2 dX5_no_66
    · refine lv_iconst (v := 1) hx hb dX5_no_36 (by decide) ?_
      refine lv_goto (tgt := 41) hx hb dX5_no_37 (by decide) ?_
      refine lv_iadd hx hb dX5_no_41 ?_
      refine cy_putT (v := ((τ.1 0 4) + 1)) hx hb hts hin5 hown hK hI hS 14 4 (by decide) (hts (.fieldLink RX5 58 "CustomsYardModel" "indexes" "I") (by decide +kernel)) rfl (by decide +kernel) rfl dX5_no_42 (fun H locs hI hS => ?_)
      refine lv_aload_n hx hb dX5_no_45 rfl (lv_at hl 0 rfl) ?_
      refine lv_dup hx hb dX5_no_46 rfl ?_
      refine cy_getT (v := .int (τ.1 0 5)) hx hb hts hin5 hown hK hI 15 (by decide) (hts (.fieldLink RX5 61 "CustomsYardModel" "stores" "I") (by decide +kernel)) rfl dX5_no_47 ?_
      refine lv_iload_n hx hb dX5_no_50 rfl (lv_at hl 1 rfl) ?_
      refine lv_bipush (v := -6) hx hb dX5_no_51 (by decide) ?_
      refine lv_icmp_ne (tgt := 60) hx hb dX5_no_53 (by decide) (fun h4 => ?_) (fun h4 => absurd h4 (fun q => absurd (h2.symm.trans q) (by decide)))
      refine lv_iconst (v := 0) hx hb dX5_no_60 (by decide) ?_
      refine lv_iadd hx hb dX5_no_61 ?_
      refine cy_putT (v := ((τ.1 0 5) + 0)) hx hb hts hin5 hown hK hI hS 15 5 (by decide) (hts (.fieldLink RX5 61 "CustomsYardModel" "stores" "I") (by decide +kernel)) rfl (by decide +kernel) rfl dX5_no_62 (fun H locs hI hS => ?_)
      refine lv_iload_n hx hb dX5_no_65 rfl (lv_at hl 1 rfl) ?_
      exact W.iret (v := w) hx hb hr (fun t ht hW => ⟨(), rfl, by rw [ht]; exact (by rw [show cy_no τ w = cy_i (cy_i (cy_i (cy_i τ 0 2 w) 0 3 ((τ.1 0 3) + 0)) 0 4 ((τ.1 0 4) + 1)) 0 5 ((τ.1 0 5) + 0) from by simp [cy_no, cy_b, h1, h2]]; exact hI), hS.F ht⟩) hS.2.2 dX5_no_66
  · refine lv_iconst (v := 1) hx hb dX5_no_16 (by decide) ?_
    refine lv_goto (tgt := 21) hx hb dX5_no_17 (by decide) ?_
    refine lv_iadd hx hb dX5_no_21 ?_
    refine cy_putT (v := ((τ.1 0 3) + 1)) hx hb hts hin5 hown hK hI hS 13 3 (by decide) (hts (.fieldLink RX5 55 "CustomsYardModel" "casts" "I") (by decide +kernel)) rfl (by decide +kernel) rfl dX5_no_22 (fun H locs hI hS => ?_)
    refine lv_aload_n hx hb dX5_no_25 rfl (lv_at hl 0 rfl) ?_
    refine lv_dup hx hb dX5_no_26 rfl ?_
    refine cy_getT (v := .int (τ.1 0 4)) hx hb hts hin5 hown hK hI 14 (by decide) (hts (.fieldLink RX5 58 "CustomsYardModel" "indexes" "I") (by decide +kernel)) rfl dX5_no_27 ?_
    refine lv_iload_n hx hb dX5_no_30 rfl (lv_at hl 1 rfl) ?_
    refine lv_bipush (v := -5) hx hb dX5_no_31 (by decide) ?_
    refine lv_icmp_ne (tgt := 40) hx hb dX5_no_33 (by decide) (fun h5 => ?_) (fun h5 => absurd h5 (fun q => absurd (h1.symm.trans q) (by decide)))
    refine lv_iconst (v := 0) hx hb dX5_no_40 (by decide) ?_
    refine lv_iadd hx hb dX5_no_41 ?_
    refine cy_putT (v := ((τ.1 0 4) + 0)) hx hb hts hin5 hown hK hI hS 14 4 (by decide) (hts (.fieldLink RX5 58 "CustomsYardModel" "indexes" "I") (by decide +kernel)) rfl (by decide +kernel) rfl dX5_no_42 (fun H locs hI hS => ?_)
    refine lv_aload_n hx hb dX5_no_45 rfl (lv_at hl 0 rfl) ?_
    refine lv_dup hx hb dX5_no_46 rfl ?_
    refine cy_getT (v := .int (τ.1 0 5)) hx hb hts hin5 hown hK hI 15 (by decide) (hts (.fieldLink RX5 61 "CustomsYardModel" "stores" "I") (by decide +kernel)) rfl dX5_no_47 ?_
    refine lv_iload_n hx hb dX5_no_50 rfl (lv_at hl 1 rfl) ?_
    refine lv_bipush (v := -6) hx hb dX5_no_51 (by decide) ?_
    refine lv_icmp_ne (tgt := 60) hx hb dX5_no_53 (by decide) (fun h6 => ?_) (fun h6 => absurd h6 (fun q => absurd (h1.symm.trans q) (by decide)))
    refine lv_iconst (v := 0) hx hb dX5_no_60 (by decide) ?_
    refine lv_iadd hx hb dX5_no_61 ?_
    refine cy_putT (v := ((τ.1 0 5) + 0)) hx hb hts hin5 hown hK hI hS 15 5 (by decide) (hts (.fieldLink RX5 61 "CustomsYardModel" "stores" "I") (by decide +kernel)) rfl (by decide +kernel) rfl dX5_no_62 (fun H locs hI hS => ?_)
    refine lv_iload_n hx hb dX5_no_65 rfl (lv_at hl 1 rfl) ?_
    exact W.iret (v := w) hx hb hr (fun t ht hW => ⟨(), rfl, by rw [ht]; exact (by rw [show cy_no τ w = cy_i (cy_i (cy_i (cy_i τ 0 2 w) 0 3 ((τ.1 0 3) + 1)) 0 4 ((τ.1 0 4) + 0)) 0 5 ((τ.1 0 5) + 0) from by simp [cy_no, cy_b, h1]]; exact hI), hS.F ht⟩) hS.2.2 dX5_no_66

set_option maxHeartbeats 4000000 in
set_option maxRecDepth 100000 in
theorem c_X5_comes (l : Launch) (D : va_G) (cI cJ cO : ClassId) (z n na : Nat) (σ τ : cy_S) (pl : Nat → Int32) (hi : Int32) (ad : Nat → Nat) (k : Nat) (hk : k < 80) (v : Int32)  : Met l yX5_comes wsX5_comes { frames := 2, cells := 0, slots := 0, locals := 42 } (cy_P D cI cJ cO (fun H => cy_W D z (cy_CT cI cJ cO n na σ τ pl hi ad) ad H) [.ref (ad 20), .int (nI k), .int v]) (cy_Q (.int (cy_co τ k v))) 0 0 (fun _ => False) := by
  refine Met.ofW (cc := cX5_comes) (maxL := 3) (ret := (some .int)) (by decide) rfl ?_
  intro p e s m args below meth c s₁ B hml hv
  obtain ⟨rfl, hK, hI⟩ := hv
  have hx := B.exec
  have hb := B.bytes
  have hr := B.returns
  have hts := atoms_spec (ws := wsX5_comes) B.pre
  have hown : s.vm.findClass RX5 = some m.cls := findClass_of_methodNamed B.named
  have hlocks := B.notSynchronized
  have hl := lv_entry ([.ref (ad 20), .int (nI k), .int v]) (n := 3) (Nat.le_of_ble_eq_true rfl)
  rw [lg_entry_eq]
  generalize (lg_sl ([.ref (ad 20), .int (nI k), .int v]) ++ List.replicate (3 - (lg_sl ([.ref (ad 20), .int (nI k), .int v])).length) Slot.unset).toArray = ls at hl ⊢
  have hl : lv_has ls 3 [(0, .ref (ad 20)), (1, .int (nI k)), (2, .int v)] := hl
  have hin5 := hin5_X5_comes
  refine lv_aload_n hx hb dX5_comes_0 rfl (lv_at hl 0 rfl) ?_
  refine cy_getT (v := .ref (ad 21)) hx hb hts hin5 hown hK hI 1 (by decide) (hts (.fieldLink RX5 7 "CustomsYardModel" "sorts" "[I") (by decide +kernel)) rfl dX5_comes_1 ?_
  refine lv_iload_n hx hb dX5_comes_4 rfl (lv_at hl 1 rfl) ?_
  refine cy_iald (f := τ.1 1) (k := k) hx hb hK.1 hI 0 (x := 21) rfl rfl (by omega) (by decide) dX5_comes_5 ?_
  refine cy_callp (v := .int (cy_b (cy_sg (τ.1 1 k)))) (va_runS (As := [.int (τ.1 1 k)]) (rest := []) ⟨hx, hb, hml, hown, hts⟩ (c_X5_isSingle l (τ.1 1 k)) (va_cwS 1 hts gX5_comes_X5_isSingle rfl rfl rfl (by decide +kernel) ⟨Nat.le_of_ble_eq_true rfl, Nat.le_of_ble_eq_true rfl⟩) preEq rfl rfl hl.1 rfl (lv_room (Nat.le_of_ble_eq_true rfl)) dX5_comes_6 ⟨Nat.le_of_ble_eq_true rfl, Nat.le_of_ble_eq_true rfl⟩) ?_
  cases b1 : (cy_sg (τ.1 1 k))
  · refine lv_if_ne (tgt := 19) hx hb dX5_comes_9 (by decide) (fun h2 => absurd (by decide) h2) (fun h2 => ?_)
    refine lv_aload_n hx hb dX5_comes_12 rfl (lv_at hl 0 rfl) ?_
    refine cy_getT (v := .ref (ad 22)) hx hb hts hin5 hown hK hI 2 (by decide) (hts (.fieldLink RX5 13 "CustomsYardModel" "sizes" "[I") (by decide +kernel)) rfl dX5_comes_13 ?_
    refine lv_iload_n hx hb dX5_comes_16 rfl (lv_at hl 1 rfl) ?_
    refine cy_iald (f := τ.1 2) (k := k) hx hb hK.1 hI 0 (x := 22) rfl rfl (by omega) (by decide) dX5_comes_17 ?_
    exact W.iret (v := τ.1 2 k) hx hb hr (fun t ht hW => ⟨congrArg (fun q => Outcome.returned (some (Value.int q))) (by unfold cy_co; simp only [b1]; simp []), ht⟩) (fun q h => by cases h) dX5_comes_18
  · refine lv_if_ne (tgt := 19) hx hb dX5_comes_9 (by decide) (fun h3 => ?_) (fun h3 => absurd h3 (by decide))
    refine lv_iload_n hx hb dX5_comes_19 rfl (lv_at hl 2 rfl) ?_
    refine lv_bipush (v := 13) hx hb dX5_comes_20 (by decide) ?_
    refine lv_icmp_eq (tgt := 34) hx hb dX5_comes_22 (by decide) (fun h4 => ?_) (fun h4 => ?_)
    · refine lv_aload_n hx hb dX5_comes_34 rfl (lv_at hl 0 rfl) ?_
      refine cy_getT (v := .ref (ad 21)) hx hb hts hin5 hown hK hI 1 (by decide) (hts (.fieldLink RX5 7 "CustomsYardModel" "sorts" "[I") (by decide +kernel)) rfl dX5_comes_35 ?_
      refine lv_iload_n hx hb dX5_comes_38 rfl (lv_at hl 1 rfl) ?_
      refine cy_iald (f := τ.1 1) (k := k) hx hb hK.1 hI 0 (x := 21) rfl rfl (by omega) (by decide) dX5_comes_39 ?_
      refine lv_iconst (v := 5) hx hb dX5_comes_40 (by decide) ?_
      refine lv_icmp_ne (tgt := 57) hx hb dX5_comes_41 (by decide) (fun h5 => ?_) (fun h5 => ?_)
      · refine lv_iconst (v := 2) hx hb dX5_comes_57 (by decide) ?_
        refine lv_aload_n hx hb dX5_comes_58 rfl (lv_at hl 0 rfl) ?_
        refine cy_getT (v := .ref (ad 23)) hx hb hts hin5 hown hK hI 3 (by decide) (hts (.fieldLink RX5 16 "CustomsYardModel" "weights" "[I") (by decide +kernel)) rfl dX5_comes_59 ?_
        refine lv_iload_n hx hb dX5_comes_62 rfl (lv_at hl 1 rfl) ?_
        refine cy_iald (f := τ.1 3) (k := k) hx hb hK.1 hI 0 (x := 23) rfl rfl (by omega) (by decide) dX5_comes_63 ?_
        refine lv_imul hx hb dX5_comes_64 ?_
        exact W.iret (v := (2 * (τ.1 3 k))) hx hb hr (fun t ht hW => ⟨congrArg (fun q => Outcome.returned (some (Value.int q))) (by unfold cy_co; simp only [b1]; simp [h4, h5]), ht⟩) (fun q h => by cases h) dX5_comes_65
      · refine lv_aload_n hx hb dX5_comes_44 rfl (lv_at hl 0 rfl) ?_
        refine cy_getT (v := .ref (ad 23)) hx hb hts hin5 hown hK hI 3 (by decide) (hts (.fieldLink RX5 16 "CustomsYardModel" "weights" "[I") (by decide +kernel)) rfl dX5_comes_45 ?_
        refine lv_iload_n hx hb dX5_comes_48 rfl (lv_at hl 1 rfl) ?_
        refine cy_iald (f := τ.1 3) (k := k) hx hb hK.1 hI 0 (x := 23) rfl rfl (by omega) (by decide) dX5_comes_49 ?_
        refine lv_sipush (v := 1000) hx hb dX5_comes_50 (by decide) ?_
        refine lv_iadd hx hb dX5_comes_53 ?_
        refine lv_goto (tgt := 65) hx hb dX5_comes_54 (by decide) ?_
        exact W.iret (v := ((τ.1 3 k) + 1000)) hx hb hr (fun t ht hW => ⟨congrArg (fun q => Outcome.returned (some (Value.int q))) (by unfold cy_co; simp only [b1]; simp [h4, h5]), ht⟩) (fun q h => by cases h) dX5_comes_65
    · refine lv_aload_n hx hb dX5_comes_25 rfl (lv_at hl 0 rfl) ?_
      refine cy_getT (v := .ref (ad 23)) hx hb hts hin5 hown hK hI 3 (by decide) (hts (.fieldLink RX5 16 "CustomsYardModel" "weights" "[I") (by decide +kernel)) rfl dX5_comes_26 ?_
      refine lv_iload_n hx hb dX5_comes_29 rfl (lv_at hl 1 rfl) ?_
      refine cy_iald (f := τ.1 3) (k := k) hx hb hK.1 hI 0 (x := 23) rfl rfl (by omega) (by decide) dX5_comes_30 ?_
      refine lv_goto (tgt := 65) hx hb dX5_comes_31 (by decide) ?_
      exact W.iret (v := τ.1 3 k) hx hb hr (fun t ht hW => ⟨congrArg (fun q => Outcome.returned (some (Value.int q))) (by unfold cy_co; simp only [b1]; simp [h4]), ht⟩) (fun q h => by cases h) dX5_comes_65

set_option maxHeartbeats 4000000 in
set_option maxRecDepth 100000 in
theorem c_X5_refused (l : Launch) (D : va_G) (cI cJ cO : ClassId) (z n na : Nat) (σ τ : cy_S) (pl : Nat → Int32) (hi : Int32) (ad : Nat → Nat)  : Met l yX5_refused wsX5_refused { frames := 0, cells := 0, slots := 0, locals := 0 } (cy_P D cI cJ cO (fun H => cy_W D z (cy_CT cI cJ cO n na σ τ pl hi ad) ad H) [.ref (ad 20)]) (cy_Q (.int (τ.1 0 2))) 0 0 (fun _ => False) := by
  refine Met.ofW (cc := cX5_refused) (maxL := 1) (ret := (some .int)) (by decide) rfl ?_
  intro p e s m args below meth c s₁ B hml hv
  obtain ⟨rfl, hK, hI⟩ := hv
  have hx := B.exec
  have hb := B.bytes
  have hr := B.returns
  have hts := atoms_spec (ws := wsX5_refused) B.pre
  have hown : s.vm.findClass RX5 = some m.cls := findClass_of_methodNamed B.named
  have hlocks := B.notSynchronized
  have hl := lv_entry ([.ref (ad 20)]) (n := 1) (Nat.le_of_ble_eq_true rfl)
  rw [lg_entry_eq]
  generalize (lg_sl ([.ref (ad 20)]) ++ List.replicate (1 - (lg_sl ([.ref (ad 20)])).length) Slot.unset).toArray = ls at hl ⊢
  have hl : lv_has ls 1 [(0, .ref (ad 20))] := hl
  have hin5 := hin5_X5_refused
  refine lv_aload_n hx hb dX5_refused_0 rfl (lv_at hl 0 rfl) ?_
  refine cy_getT (v := .int (τ.1 0 2)) hx hb hts hin5 hown hK hI 12 (by decide) (hts (.fieldLink RX5 52 "CustomsYardModel" "refused" "I") (by decide +kernel)) rfl dX5_refused_1 ?_
  exact W.iret (v := τ.1 0 2) hx hb hr (fun t ht hW => ⟨congrArg (fun q => Outcome.returned (some (Value.int q))) (rfl), ht⟩) (fun q h => by cases h) dX5_refused_4

set_option maxHeartbeats 4000000 in
set_option maxRecDepth 100000 in
theorem c_X5_count (l : Launch) (D : va_G) (cI cJ cO : ClassId) (z n na : Nat) (σ τ : cy_S) (pl : Nat → Int32) (hi : Int32) (ad : Nat → Nat) (v : Int32)  : Met l yX5_count wsX5_count { frames := 0, cells := 0, slots := 0, locals := 0 } (cy_P D cI cJ cO (fun H => cy_W D z (cy_CT cI cJ cO n na σ τ pl hi ad) ad H) [.ref (ad 20), .int v]) (cy_Q (.int (cy_cn τ v))) 0 0 (fun _ => False) := by
  refine Met.ofW (cc := cX5_count) (maxL := 2) (ret := (some .int)) (by decide) rfl ?_
  intro p e s m args below meth c s₁ B hml hv
  obtain ⟨rfl, hK, hI⟩ := hv
  have hx := B.exec
  have hb := B.bytes
  have hr := B.returns
  have hts := atoms_spec (ws := wsX5_count) B.pre
  have hown : s.vm.findClass RX5 = some m.cls := findClass_of_methodNamed B.named
  have hlocks := B.notSynchronized
  have hl := lv_entry ([.ref (ad 20), .int v]) (n := 2) (Nat.le_of_ble_eq_true rfl)
  rw [lg_entry_eq]
  generalize (lg_sl ([.ref (ad 20), .int v]) ++ List.replicate (2 - (lg_sl ([.ref (ad 20), .int v])).length) Slot.unset).toArray = ls at hl ⊢
  have hl : lv_has ls 2 [(0, .ref (ad 20)), (1, .int v)] := hl
  have hin5 := hin5_X5_count
  refine lv_iload_n hx hb dX5_count_0 rfl (lv_at hl 1 rfl) ?_
  rcases cy_sw0_5 v with w1 | w1 | w1 | w1 | w1 | w1 | ⟨w1, w1n0, w1n1, w1n2, w1n3, w1n4, w1n5⟩
  · refine lv_tableIn (off := 39) (tgt := 40) hx hb dX5_count_1 (by rw [w1]; decide) (by rw [w1]; decide) (by rw [w1]; rfl) (by decide) ?_
    refine lv_aload_n hx hb dX5_count_40 rfl (lv_at hl 0 rfl) ?_
    refine cy_getT (v := .int (τ.1 0 0)) hx hb hts hin5 hown hK hI 0 (by decide) (hts (.fieldLink RX5 44 "CustomsYardModel" "loads" "I") (by decide +kernel)) rfl dX5_count_41 ?_
    exact W.iret (v := τ.1 0 0) hx hb hr (fun t ht hW => ⟨congrArg (fun q => Outcome.returned (some (Value.int q))) (by subst w1; simp [cy_cn]), ht⟩) (fun q h => by cases h) dX5_count_44
  · refine lv_tableIn (off := 44) (tgt := 45) hx hb dX5_count_1 (by rw [w1]; decide) (by rw [w1]; decide) (by rw [w1]; rfl) (by decide) ?_
    refine lv_aload_n hx hb dX5_count_45 rfl (lv_at hl 0 rfl) ?_
    refine cy_getT (v := .int (τ.1 0 3)) hx hb hts hin5 hown hK hI 13 (by decide) (hts (.fieldLink RX5 55 "CustomsYardModel" "casts" "I") (by decide +kernel)) rfl dX5_count_46 ?_
    exact W.iret (v := τ.1 0 3) hx hb hr (fun t ht hW => ⟨congrArg (fun q => Outcome.returned (some (Value.int q))) (by subst w1; simp [cy_cn]), ht⟩) (fun q h => by cases h) dX5_count_49
  · refine lv_tableIn (off := 49) (tgt := 50) hx hb dX5_count_1 (by rw [w1]; decide) (by rw [w1]; decide) (by rw [w1]; rfl) (by decide) ?_
    refine lv_aload_n hx hb dX5_count_50 rfl (lv_at hl 0 rfl) ?_
    refine cy_getT (v := .int (τ.1 0 4)) hx hb hts hin5 hown hK hI 14 (by decide) (hts (.fieldLink RX5 58 "CustomsYardModel" "indexes" "I") (by decide +kernel)) rfl dX5_count_51 ?_
    exact W.iret (v := τ.1 0 4) hx hb hr (fun t ht hW => ⟨congrArg (fun q => Outcome.returned (some (Value.int q))) (by subst w1; simp [cy_cn]), ht⟩) (fun q h => by cases h) dX5_count_54
  · refine lv_tableIn (off := 54) (tgt := 55) hx hb dX5_count_1 (by rw [w1]; decide) (by rw [w1]; decide) (by rw [w1]; rfl) (by decide) ?_
    refine lv_aload_n hx hb dX5_count_55 rfl (lv_at hl 0 rfl) ?_
    refine cy_getT (v := .int (τ.1 0 5)) hx hb hts hin5 hown hK hI 15 (by decide) (hts (.fieldLink RX5 61 "CustomsYardModel" "stores" "I") (by decide +kernel)) rfl dX5_count_56 ?_
    exact W.iret (v := τ.1 0 5) hx hb hr (fun t ht hW => ⟨congrArg (fun q => Outcome.returned (some (Value.int q))) (by subst w1; simp [cy_cn]), ht⟩) (fun q h => by cases h) dX5_count_59
  · refine lv_tableIn (off := 59) (tgt := 60) hx hb dX5_count_1 (by rw [w1]; decide) (by rw [w1]; decide) (by rw [w1]; rfl) (by decide) ?_
    refine lv_aload_n hx hb dX5_count_60 rfl (lv_at hl 0 rfl) ?_
    refine cy_getT (v := .int (τ.1 0 6)) hx hb hts hin5 hown hK hI 16 (by decide) (hts (.fieldLink RX5 119 "CustomsYardModel" "away" "I") (by decide +kernel)) rfl dX5_count_61 ?_
    exact W.iret (v := τ.1 0 6) hx hb hr (fun t ht hW => ⟨congrArg (fun q => Outcome.returned (some (Value.int q))) (by subst w1; simp [cy_cn]), ht⟩) (fun q h => by cases h) dX5_count_64
  · refine lv_tableIn (off := 64) (tgt := 65) hx hb dX5_count_1 (by rw [w1]; decide) (by rw [w1]; decide) (by rw [w1]; rfl) (by decide) ?_
    refine lv_aload_n hx hb dX5_count_65 rfl (lv_at hl 0 rfl) ?_
    refine cy_getT (v := .int (τ.1 0 1)) hx hb hts hin5 hown hK hI 9 (by decide) (hts (.fieldLink RX5 122 "CustomsYardModel" "lines" "I") (by decide +kernel)) rfl dX5_count_66 ?_
    exact W.iret (v := τ.1 0 1) hx hb hr (fun t ht hW => ⟨congrArg (fun q => Outcome.returned (some (Value.int q))) (by subst w1; simp [cy_cn]), ht⟩) (fun q h => by cases h) dX5_count_69
  · refine lv_tableOut (tgt := 70) hx hb dX5_count_1 w1 (by decide) ?_
    refine lv_bipush (v := -2) hx hb dX5_count_70 (by decide) ?_
    exact W.iret (v := (-2)) hx hb hr (fun t ht hW => ⟨congrArg (fun q => Outcome.returned (some (Value.int q))) (by simp [cy_cn, w1n0, w1n1, w1n2, w1n3, w1n4, w1n5]), ht⟩) (fun q h => by cases h) dX5_count_72
end
section
theorem cy_co_z (σ : cy_S) (k : Nat) (v w : Int32) : cy_co (cy_i σ 0 2 w) k v = cy_co σ k v := rfl
theorem hin5_X5_set : ∀ w ∈ u_ws RX5 TX5 19, w ∈ wsX5_set := by decide +kernel
theorem hin5_X5_number : ∀ w ∈ u_ws RX5 TX5 19, w ∈ wsX5_number := by decide +kernel
theorem hin5_X5_put : ∀ w ∈ u_ws RX5 TX5 19, w ∈ wsX5_put := by decide +kernel
theorem hin5_X5_at : ∀ w ∈ u_ws RX5 TX5 19, w ∈ wsX5_at := by decide +kernel
theorem hin5_X5_is : ∀ w ∈ u_ws RX5 TX5 19, w ∈ wsX5_is := by decide +kernel
theorem hin5_X5_take : ∀ w ∈ u_ws RX5 TX5 19, w ∈ wsX5_take := by decide +kernel
theorem hin5_X5_sort : ∀ w ∈ u_ws RX5 TX5 19, w ∈ wsX5_sort := by decide +kernel
set_option maxHeartbeats 4000000 in
set_option maxRecDepth 100000 in
theorem c_X5_set (l : Launch) (D : va_G) (cI cJ cO : ClassId) (z n na : Nat) (σ τ : cy_S) (pl : Nat → Int32) (hi : Int32) (ad : Nat → Nat) (nt : Nat) (hok : cy_ok nt τ) (x i v : Int32)  : Met l yX5_set wsX5_set { frames := 2, cells := 0, slots := 0, locals := 44 } (cy_P D cI cJ cO (fun H => cy_W D z (cy_CT cI cJ cO n na σ τ pl hi ad) ad H) [.ref (ad 20), .int x, .int i, .int v]) (cy_M (S := Unit) z (fun _ => some (.int (cy_oSet nt τ x i v).1)) (fun _ H => cy_W D z (cy_CT cI cJ cO n na σ (cy_oSet nt τ x i v).2 pl hi ad) ad H)) 0 0 (fun q => z ≤ q) := by
  refine Met.ofW (cc := cX5_set) (maxL := 4) (ret := (some .int)) (by decide) rfl ?_
  intro p e s m args below meth c s₁ B hml hv
  obtain ⟨rfl, hK, hI⟩ := hv
  have hx := B.exec
  have hb := B.bytes
  have hr := B.returns
  have hts := atoms_spec (ws := wsX5_set) B.pre
  have hown : s.vm.findClass RX5 = some m.cls := findClass_of_methodNamed B.named
  have hlocks := B.notSynchronized
  have hS : va_S (fun q => z ≤ q) s.heap s.heap [] := va_S.rf
  have hl := lv_entry ([.ref (ad 20), .int x, .int i, .int v]) (n := 4) (Nat.le_of_ble_eq_true rfl)
  rw [lg_entry_eq]
  generalize (lg_sl ([.ref (ad 20), .int x, .int i, .int v]) ++ List.replicate (4 - (lg_sl ([.ref (ad 20), .int x, .int i, .int v])).length) Slot.unset).toArray = ls at hl ⊢
  have hl : lv_has ls 4 [(0, .ref (ad 20)), (1, .int x), (2, .int i), (3, .int v)] := hl
  have hin5 := hin5_X5_set
  have h0 := hok.2.1
  have hn := hok.1
  refine lv_aload_n hx hb dX5_set_0 rfl (lv_at hl 0 rfl) ?_
  refine lv_iconst (v := 0) hx hb dX5_set_1 (by decide) ?_
  refine cy_putT (v := 0) hx hb hts hin5 hown hK hI hS 12 2 (by decide) (hts (.fieldLink RX5 52 "CustomsYardModel" "refused" "I") (by decide +kernel)) rfl (by decide +kernel) rfl dX5_set_2 (fun H locs hI hS => ?_)
  refine lv_aload_n hx hb dX5_set_5 rfl (lv_at hl 0 rfl) ?_
  refine lv_iload_n hx hb dX5_set_6 rfl (lv_at hl 1 rfl) ?_
  refine cy_callp (v := .int (cy_b (cy_ld nt x))) (va_runV (As := [.int x]) (rest := []) ⟨hx, hb, hml, hown, hts⟩ (c_X5_isLoad l D cI cJ cO z n na σ (cy_i τ 0 2 0) pl hi ad nt h0 x) (cwV 1 hts gX5_set_X5_isLoad rfl rfl rfl (by decide +kernel) ⟨Nat.le_of_ble_eq_true rfl, Nat.le_of_ble_eq_true rfl⟩) (cy_preV hK hI (cy_recv hK (hI.1 20 _ cy_CR).1 rfl)) rfl rfl hl.1 rfl (lv_room (Nat.le_of_ble_eq_true rfl)) dX5_set_7 ⟨Nat.le_of_ble_eq_true rfl, Nat.le_of_ble_eq_true rfl⟩) ?_
  cases b1 : (cy_ld nt x)
  · refine lv_if_ne (tgt := 20) hx hb dX5_set_10 (by decide) (fun h2 => absurd (by decide) h2) (fun h2 => ?_)
    refine lv_aload_n hx hb dX5_set_13 rfl (lv_at hl 0 rfl) ?_
    refine lv_bipush (v := -2) hx hb dX5_set_14 (by decide) ?_
    refine cy_callm (va_runV (As := [.int (-2)]) (rest := []) ⟨hx, hb, hml, hown, hts⟩ (c_X5_no l D cI cJ cO z n na σ (cy_i τ 0 2 0) pl hi ad (-2)) (cwV 1 hts gX5_set_X5_no rfl rfl rfl (by decide +kernel) ⟨Nat.le_of_ble_eq_true rfl, Nat.le_of_ble_eq_true rfl⟩) (cy_preV hK hI (cy_recv hK (hI.1 20 _ cy_CR).1 rfl)) rfl rfl hl.1 rfl (lv_room (Nat.le_of_ble_eq_true rfl)) dX5_set_16 ⟨Nat.le_of_ble_eq_true rfl, Nat.le_of_ble_eq_true rfl⟩) hS (fun u H locs hI hz hS => ?_)
    have hI : cy_W D z (cy_CT cI cJ cO n na σ (cy_no (cy_i τ 0 2 0) (-2)) pl hi ad) ad H := hI
    refine W.eq (g2 := F0 m 19 ls [.int (-2)]) rfl ?_
    have E : cy_oSet nt τ x i v = ((-2), cy_no (cy_i τ 0 2 0) (-2)) := by simp [cy_oSet, cy_z, b1]
    rw [E]
    exact W.iret (v := (-2)) hx hb hr (fun t ht hW => ⟨(), rfl, by rw [ht]; exact hI, hS.F ht⟩) hS.2.2 dX5_set_19
  · obtain ⟨kx, hkx, rfl⟩ := (cy_ld_iff hn _).mp b1
    refine lv_if_ne (tgt := 20) hx hb dX5_set_10 (by decide) (fun h3 => ?_) (fun h3 => absurd h3 (by decide))
    refine lv_aload_n hx hb dX5_set_20 rfl (lv_at hl 0 rfl) ?_
    refine cy_getT (v := .ref (ad 21)) hx hb hts hin5 hown hK hI 1 (by decide) (hts (.fieldLink RX5 7 "CustomsYardModel" "sorts" "[I") (by decide +kernel)) rfl dX5_set_21 ?_
    refine lv_iload_n hx hb dX5_set_24 rfl (lv_at hl 1 rfl) ?_
    refine cy_iald (f := τ.1 1) (k := kx) hx hb hK.1 hI 0 (x := 21) rfl rfl (by omega) (by decide) dX5_set_25 ?_
    refine cy_callp (v := .int (cy_b (cy_nu (τ.1 1 kx)))) (va_runS (As := [.int (τ.1 1 kx)]) (rest := []) ⟨hx, hb, hml, hown, hts⟩ (c_X5_isOfNumbers l (τ.1 1 kx)) (va_cwS 1 hts gX5_set_X5_isOfNumbers rfl rfl rfl (by decide +kernel) ⟨Nat.le_of_ble_eq_true rfl, Nat.le_of_ble_eq_true rfl⟩) preEq rfl rfl hl.1 rfl (lv_room (Nat.le_of_ble_eq_true rfl)) dX5_set_26 ⟨Nat.le_of_ble_eq_true rfl, Nat.le_of_ble_eq_true rfl⟩) ?_
    cases b4 : (cy_nu (τ.1 1 kx))
    · refine lv_if_ne (tgt := 39) hx hb dX5_set_29 (by decide) (fun h5 => absurd (by decide) h5) (fun h5 => ?_)
      refine lv_aload_n hx hb dX5_set_32 rfl (lv_at hl 0 rfl) ?_
      refine lv_bipush (v := -4) hx hb dX5_set_33 (by decide) ?_
      refine cy_callm (va_runV (As := [.int (-4)]) (rest := []) ⟨hx, hb, hml, hown, hts⟩ (c_X5_no l D cI cJ cO z n na σ (cy_i τ 0 2 0) pl hi ad (-4)) (cwV 1 hts gX5_set_X5_no rfl rfl rfl (by decide +kernel) ⟨Nat.le_of_ble_eq_true rfl, Nat.le_of_ble_eq_true rfl⟩) (cy_preV hK hI (cy_recv hK (hI.1 20 _ cy_CR).1 rfl)) rfl rfl hl.1 rfl (lv_room (Nat.le_of_ble_eq_true rfl)) dX5_set_35 ⟨Nat.le_of_ble_eq_true rfl, Nat.le_of_ble_eq_true rfl⟩) hS (fun u H locs hI hz hS => ?_)
      have hI : cy_W D z (cy_CT cI cJ cO n na σ (cy_no (cy_i τ 0 2 0) (-4)) pl hi ad) ad H := hI
      refine W.eq (g2 := F0 m 38 ls [.int (-4)]) rfl ?_
      have E : cy_oSet nt τ (nI kx) i v = ((-4), cy_no (cy_i τ 0 2 0) (-4)) := by simp [cy_oSet, cy_z, nI_clamp (show kx < 2 ^ 31 by omega), b1, b4]
      rw [E]
      exact W.iret (v := (-4)) hx hb hr (fun t ht hW => ⟨(), rfl, by rw [ht]; exact hI, hS.F ht⟩) hS.2.2 dX5_set_38
    · refine lv_if_ne (tgt := 39) hx hb dX5_set_29 (by decide) (fun h6 => ?_) (fun h6 => absurd h6 (by decide))
      refine lv_aload_n hx hb dX5_set_39 rfl (lv_at hl 0 rfl) ?_
      refine lv_iload_n hx hb dX5_set_40 rfl (lv_at hl 1 rfl) ?_
      refine lv_iload_n hx hb dX5_set_41 rfl (lv_at hl 2 rfl) ?_
      refine cy_callp (v := .int (cy_b (cy_pl (τ.1 2 kx) i))) (va_runV (As := [.int (nI kx), .int i]) (rest := []) ⟨hx, hb, hml, hown, hts⟩ (c_X5_isPlace l D cI cJ cO z n na σ (cy_i τ 0 2 0) pl hi ad kx (by omega) i) (cwV 2 hts gX5_set_X5_isPlace rfl rfl rfl (by decide +kernel) ⟨Nat.le_of_ble_eq_true rfl, Nat.le_of_ble_eq_true rfl⟩) (cy_preV hK hI (cy_recv hK (hI.1 20 _ cy_CR).1 rfl)) rfl rfl hl.1 rfl (lv_room (Nat.le_of_ble_eq_true rfl)) dX5_set_42 ⟨Nat.le_of_ble_eq_true rfl, Nat.le_of_ble_eq_true rfl⟩) ?_
      cases b7 : (cy_pl (τ.1 2 kx) i)
      · refine lv_if_ne (tgt := 55) hx hb dX5_set_45 (by decide) (fun h8 => absurd (by decide) h8) (fun h8 => ?_)
        refine lv_aload_n hx hb dX5_set_48 rfl (lv_at hl 0 rfl) ?_
        refine lv_bipush (v := -5) hx hb dX5_set_49 (by decide) ?_
        refine cy_callm (va_runV (As := [.int (-5)]) (rest := []) ⟨hx, hb, hml, hown, hts⟩ (c_X5_no l D cI cJ cO z n na σ (cy_i τ 0 2 0) pl hi ad (-5)) (cwV 1 hts gX5_set_X5_no rfl rfl rfl (by decide +kernel) ⟨Nat.le_of_ble_eq_true rfl, Nat.le_of_ble_eq_true rfl⟩) (cy_preV hK hI (cy_recv hK (hI.1 20 _ cy_CR).1 rfl)) rfl rfl hl.1 rfl (lv_room (Nat.le_of_ble_eq_true rfl)) dX5_set_51 ⟨Nat.le_of_ble_eq_true rfl, Nat.le_of_ble_eq_true rfl⟩) hS (fun u H locs hI hz hS => ?_)
        have hI : cy_W D z (cy_CT cI cJ cO n na σ (cy_no (cy_i τ 0 2 0) (-5)) pl hi ad) ad H := hI
        refine W.eq (g2 := F0 m 54 ls [.int (-5)]) rfl ?_
        have E : cy_oSet nt τ (nI kx) i v = ((-5), cy_no (cy_i τ 0 2 0) (-5)) := by simp [cy_oSet, cy_z, nI_clamp (show kx < 2 ^ 31 by omega), b1, b4, b7]
        rw [E]
        exact W.iret (v := (-5)) hx hb hr (fun t ht hW => ⟨(), rfl, by rw [ht]; exact hI, hS.F ht⟩) hS.2.2 dX5_set_54
      · obtain ⟨pi, hpi, epi⟩ := (hok.2.2.1 kx hkx).2.1
        obtain ⟨ji, hji, rfl⟩ := (cy_pl_iff (p := pi) (by omega) _).mp (by rw [← epi]; exact b7)
        refine lv_if_ne (tgt := 55) hx hb dX5_set_45 (by decide) (fun h9 => ?_) (fun h9 => absurd h9 (by decide))
        refine lv_aload_n hx hb dX5_set_55 rfl (lv_at hl 0 rfl) ?_
        refine cy_getT (v := .ref (ad 24)) hx hb hts hin5 hown hK hI 4 (by decide) (hts (.fieldLink RX5 19 "CustomsYardModel" "numbers" "[J") (by decide +kernel)) rfl dX5_set_56 ?_
        refine lv_bipush (v := 6) hx hb dX5_set_59 (by decide) ?_
        refine lv_iload_n hx hb dX5_set_61 rfl (lv_at hl 1 rfl) ?_
        refine lv_imul hx hb dX5_set_62 ?_
        refine lv_iload_n hx hb dX5_set_63 rfl (lv_at hl 2 rfl) ?_
        refine lv_iadd hx hb dX5_set_64 ?_
        refine cy_topi (y := nI (6 * kx + ji)) (cy_ix kx ji) ?_
        refine lv_aload_n hx hb dX5_set_65 rfl (lv_at hl 0 rfl) ?_
        refine cy_getT (v := .ref (ad 21)) hx hb hts hin5 hown hK hI 1 (by decide) (hts (.fieldLink RX5 7 "CustomsYardModel" "sorts" "[I") (by decide +kernel)) rfl dX5_set_66 ?_
        refine lv_iload_n hx hb dX5_set_69 rfl (lv_at hl 1 rfl) ?_
        refine cy_iald (f := τ.1 1) (k := kx) hx hb hK.1 hI 0 (x := 21) rfl rfl (by omega) (by decide) dX5_set_70 ?_
        refine lv_iconst (v := 1) hx hb dX5_set_71 (by decide) ?_
        refine lv_icmp_ne (tgt := 81) hx hb dX5_set_72 (by decide) (fun h10 => ?_) (fun h10 => ?_)
        · refine lv_iload_n hx hb dX5_set_81 rfl (lv_at hl 3 rfl) ?_
          refine lv_i2l (v := v.toInt64) hx hb dX5_set_82 rfl ?_
          refine cy_stT4 (k := (6 * kx + ji)) (v := v.toInt64) hx hb hK hI hS (by omega) dX5_set_83 (fun H locs hI hS => ?_)
          refine lv_iconst (v := 1) hx hb dX5_set_84 (by decide) ?_
          have E : cy_oSet nt τ (nI kx) (nI ji) v = (1, cy_l (cy_i τ 0 2 0) 0 (6 * kx + ji) v.toInt64) := by first | (simp [cy_oSet, cy_z, nI_clamp (show kx < 2 ^ 31 by omega), nI_clamp (show ji < 2 ^ 31 by omega), b1, b4, b7]; done) | (simp [cy_oSet, cy_z, nI_clamp (show kx < 2 ^ 31 by omega), nI_clamp (show ji < 2 ^ 31 by omega), b1, b4, b7]; simp [h10]; done) | (simp [cy_oSet, cy_z, nI_clamp (show kx < 2 ^ 31 by omega), nI_clamp (show ji < 2 ^ 31 by omega), b1, b4, b7, h10]; done)
          rw [E]
          exact W.iret (v := 1) hx hb hr (fun t ht hW => ⟨(), rfl, by rw [ht]; exact hI, hS.F ht⟩) hS.2.2 dX5_set_85
        · refine lv_iload_n hx hb dX5_set_75 rfl (lv_at hl 3 rfl) ?_
          refine lv_i2b (v := v.toInt8.toInt32) hx hb dX5_set_76 rfl ?_
          refine lv_i2l (v := v.toInt8.toInt32.toInt64) hx hb dX5_set_77 rfl ?_
          refine lv_goto (tgt := 83) hx hb dX5_set_78 (by decide) ?_
          refine cy_stT4 (k := (6 * kx + ji)) (v := v.toInt8.toInt32.toInt64) hx hb hK hI hS (by omega) dX5_set_83 (fun H locs hI hS => ?_)
          refine lv_iconst (v := 1) hx hb dX5_set_84 (by decide) ?_
          have E : cy_oSet nt τ (nI kx) (nI ji) v = (1, cy_l (cy_i τ 0 2 0) 0 (6 * kx + ji) v.toInt8.toInt32.toInt64) := by first | (simp [cy_oSet, cy_z, nI_clamp (show kx < 2 ^ 31 by omega), nI_clamp (show ji < 2 ^ 31 by omega), b1, b4, b7]; done) | (simp [cy_oSet, cy_z, nI_clamp (show kx < 2 ^ 31 by omega), nI_clamp (show ji < 2 ^ 31 by omega), b1, b4, b7]; simp [h10]; done) | (simp [cy_oSet, cy_z, nI_clamp (show kx < 2 ^ 31 by omega), nI_clamp (show ji < 2 ^ 31 by omega), b1, b4, b7, h10]; done)
          rw [E]
          exact W.iret (v := 1) hx hb hr (fun t ht hW => ⟨(), rfl, by rw [ht]; exact hI, hS.F ht⟩) hS.2.2 dX5_set_85

set_option maxHeartbeats 4000000 in
set_option maxRecDepth 100000 in
theorem c_X5_number (l : Launch) (D : va_G) (cI cJ cO : ClassId) (z n na : Nat) (σ τ : cy_S) (pl : Nat → Int32) (hi : Int32) (ad : Nat → Nat) (nt : Nat) (hok : cy_ok nt τ) (x i : Int32)  : Met l yX5_number wsX5_number { frames := 2, cells := 0, slots := 0, locals := 44 } (cy_P D cI cJ cO (fun H => cy_W D z (cy_CT cI cJ cO n na σ τ pl hi ad) ad H) [.ref (ad 20), .int x, .int i]) (cy_M (S := Unit) z (fun _ => some (.long (cy_oNum nt τ x i).1)) (fun _ H => cy_W D z (cy_CT cI cJ cO n na σ (cy_oNum nt τ x i).2 pl hi ad) ad H)) 0 0 (fun q => z ≤ q) := by
  refine Met.ofW (cc := cX5_number) (maxL := 4) (ret := (some .long)) (by decide) rfl ?_
  intro p e s m args below meth c s₁ B hml hv
  obtain ⟨rfl, hK, hI⟩ := hv
  have hx := B.exec
  have hb := B.bytes
  have hr := B.returns
  have hts := atoms_spec (ws := wsX5_number) B.pre
  have hown : s.vm.findClass RX5 = some m.cls := findClass_of_methodNamed B.named
  have hlocks := B.notSynchronized
  have hS : va_S (fun q => z ≤ q) s.heap s.heap [] := va_S.rf
  have hl := lv_entry ([.ref (ad 20), .int x, .int i]) (n := 4) (Nat.le_of_ble_eq_true rfl)
  rw [lg_entry_eq]
  generalize (lg_sl ([.ref (ad 20), .int x, .int i]) ++ List.replicate (4 - (lg_sl ([.ref (ad 20), .int x, .int i])).length) Slot.unset).toArray = ls at hl ⊢
  have hl : lv_has ls 4 [(0, .ref (ad 20)), (1, .int x), (2, .int i)] := hl
  have hin5 := hin5_X5_number
  have h0 := hok.2.1
  have hn := hok.1
  refine lv_aload_n hx hb dX5_number_0 rfl (lv_at hl 0 rfl) ?_
  refine lv_iconst (v := 0) hx hb dX5_number_1 (by decide) ?_
  refine cy_putT (v := 0) hx hb hts hin5 hown hK hI hS 12 2 (by decide) (hts (.fieldLink RX5 52 "CustomsYardModel" "refused" "I") (by decide +kernel)) rfl (by decide +kernel) rfl dX5_number_2 (fun H locs hI hS => ?_)
  refine lv_aload_n hx hb dX5_number_5 rfl (lv_at hl 0 rfl) ?_
  refine lv_iload_n hx hb dX5_number_6 rfl (lv_at hl 1 rfl) ?_
  refine cy_callp (v := .int (cy_b (cy_ld nt x))) (va_runV (As := [.int x]) (rest := []) ⟨hx, hb, hml, hown, hts⟩ (c_X5_isLoad l D cI cJ cO z n na σ (cy_i τ 0 2 0) pl hi ad nt h0 x) (cwV 1 hts gX5_number_X5_isLoad rfl rfl rfl (by decide +kernel) ⟨Nat.le_of_ble_eq_true rfl, Nat.le_of_ble_eq_true rfl⟩) (cy_preV hK hI (cy_recv hK (hI.1 20 _ cy_CR).1 rfl)) rfl rfl hl.1 rfl (lv_room (Nat.le_of_ble_eq_true rfl)) dX5_number_7 ⟨Nat.le_of_ble_eq_true rfl, Nat.le_of_ble_eq_true rfl⟩) ?_
  cases b1 : (cy_ld nt x)
  · refine lv_if_ne (tgt := 18) hx hb dX5_number_10 (by decide) (fun h2 => absurd (by decide) h2) (fun h2 => ?_)
    refine lv_bipush (v := -2) hx hb dX5_number_13 (by decide) ?_
    refine lv_goto (tgt := 50) hx hb dX5_number_15 (by decide) ?_
    refine lv_istore_n (lv' := [(3, .int (-2)), (0, .ref (ad 20)), (1, .int x), (2, .int i)]) hx hb dX5_number_50 rfl hl (by decide) rfl (fun ls hl => ?_)
    refine lv_iload_n hx hb dX5_number_51 rfl (lv_at hl 0 rfl) ?_
    refine lv_if_eq (tgt := 63) hx hb dX5_number_52 (by decide) (fun h3 => absurd h3 (by decide)) (fun h3 => ?_)
    refine lv_aload_n hx hb dX5_number_55 rfl (lv_at hl 1 rfl) ?_
    refine lv_iload_n hx hb dX5_number_56 rfl (lv_at hl 0 rfl) ?_
    refine cy_callm (va_runV (As := [.int (-2)]) (rest := []) ⟨hx, hb, hml, hown, hts⟩ (c_X5_no l D cI cJ cO z n na σ (cy_i τ 0 2 0) pl hi ad (-2)) (cwV 1 hts gX5_number_X5_no rfl rfl rfl (by decide +kernel) ⟨Nat.le_of_ble_eq_true rfl, Nat.le_of_ble_eq_true rfl⟩) (cy_preV hK hI (cy_recv hK (hI.1 20 _ cy_CR).1 rfl)) rfl rfl hl.1 rfl (lv_room (Nat.le_of_ble_eq_true rfl)) dX5_number_57 ⟨Nat.le_of_ble_eq_true rfl, Nat.le_of_ble_eq_true rfl⟩) hS (fun u H locs hI hz hS => ?_)
    have hI : cy_W D z (cy_CT cI cJ cO n na σ (cy_no (cy_i τ 0 2 0) (-2)) pl hi ad) ad H := hI
    refine W.eq (g2 := F0 m 60 ls [.int (-2)]) rfl ?_
    refine lv_istore_n (lv' := [(3, .int (-2)), (0, .ref (ad 20)), (1, .int x), (2, .int i)]) hx hb dX5_number_60 rfl hl (by decide) rfl (fun ls hl => ?_)
    refine lv_lconst (v := 0) hx hb dX5_number_61 (by decide) ?_
    have E : cy_oNum nt τ x i = (0, cy_no (cy_i τ 0 2 0) (-2)) := by simp [cy_oNum, cy_z, b1]
    rw [E]
    exact W.lret (v := 0) hx hb hr (fun t ht hW => ⟨(), rfl, by rw [ht]; exact hI, hS.F ht⟩) hS.2.2 dX5_number_62
  · obtain ⟨kx, hkx, rfl⟩ := (cy_ld_iff hn _).mp b1
    refine lv_if_ne (tgt := 18) hx hb dX5_number_10 (by decide) (fun h4 => ?_) (fun h4 => absurd h4 (by decide))
    refine lv_aload_n hx hb dX5_number_18 rfl (lv_at hl 0 rfl) ?_
    refine cy_getT (v := .ref (ad 21)) hx hb hts hin5 hown hK hI 1 (by decide) (hts (.fieldLink RX5 7 "CustomsYardModel" "sorts" "[I") (by decide +kernel)) rfl dX5_number_19 ?_
    refine lv_iload_n hx hb dX5_number_22 rfl (lv_at hl 1 rfl) ?_
    refine cy_iald (f := τ.1 1) (k := kx) hx hb hK.1 hI 0 (x := 21) rfl rfl (by omega) (by decide) dX5_number_23 ?_
    refine cy_callp (v := .int (cy_b (cy_nu (τ.1 1 kx)))) (va_runS (As := [.int (τ.1 1 kx)]) (rest := []) ⟨hx, hb, hml, hown, hts⟩ (c_X5_isOfNumbers l (τ.1 1 kx)) (va_cwS 1 hts gX5_number_X5_isOfNumbers rfl rfl rfl (by decide +kernel) ⟨Nat.le_of_ble_eq_true rfl, Nat.le_of_ble_eq_true rfl⟩) preEq rfl rfl hl.1 rfl (lv_room (Nat.le_of_ble_eq_true rfl)) dX5_number_24 ⟨Nat.le_of_ble_eq_true rfl, Nat.le_of_ble_eq_true rfl⟩) ?_
    cases b5 : (cy_nu (τ.1 1 kx))
    · refine lv_if_ne (tgt := 35) hx hb dX5_number_27 (by decide) (fun h6 => absurd (by decide) h6) (fun h6 => ?_)
      refine lv_bipush (v := -4) hx hb dX5_number_30 (by decide) ?_
      refine lv_goto (tgt := 50) hx hb dX5_number_32 (by decide) ?_
      refine lv_istore_n (lv' := [(3, .int (-4)), (0, .ref (ad 20)), (1, .int (nI kx)), (2, .int i)]) hx hb dX5_number_50 rfl hl (by decide) rfl (fun ls hl => ?_)
      refine lv_iload_n hx hb dX5_number_51 rfl (lv_at hl 0 rfl) ?_
      refine lv_if_eq (tgt := 63) hx hb dX5_number_52 (by decide) (fun h7 => absurd h7 (by decide)) (fun h7 => ?_)
      refine lv_aload_n hx hb dX5_number_55 rfl (lv_at hl 1 rfl) ?_
      refine lv_iload_n hx hb dX5_number_56 rfl (lv_at hl 0 rfl) ?_
      refine cy_callm (va_runV (As := [.int (-4)]) (rest := []) ⟨hx, hb, hml, hown, hts⟩ (c_X5_no l D cI cJ cO z n na σ (cy_i τ 0 2 0) pl hi ad (-4)) (cwV 1 hts gX5_number_X5_no rfl rfl rfl (by decide +kernel) ⟨Nat.le_of_ble_eq_true rfl, Nat.le_of_ble_eq_true rfl⟩) (cy_preV hK hI (cy_recv hK (hI.1 20 _ cy_CR).1 rfl)) rfl rfl hl.1 rfl (lv_room (Nat.le_of_ble_eq_true rfl)) dX5_number_57 ⟨Nat.le_of_ble_eq_true rfl, Nat.le_of_ble_eq_true rfl⟩) hS (fun u H locs hI hz hS => ?_)
      have hI : cy_W D z (cy_CT cI cJ cO n na σ (cy_no (cy_i τ 0 2 0) (-4)) pl hi ad) ad H := hI
      refine W.eq (g2 := F0 m 60 ls [.int (-4)]) rfl ?_
      refine lv_istore_n (lv' := [(3, .int (-4)), (0, .ref (ad 20)), (1, .int (nI kx)), (2, .int i)]) hx hb dX5_number_60 rfl hl (by decide) rfl (fun ls hl => ?_)
      refine lv_lconst (v := 0) hx hb dX5_number_61 (by decide) ?_
      have E : cy_oNum nt τ (nI kx) i = (0, cy_no (cy_i τ 0 2 0) (-4)) := by simp [cy_oNum, cy_z, nI_clamp (show kx < 2 ^ 31 by omega), b1, b5]
      rw [E]
      exact W.lret (v := 0) hx hb hr (fun t ht hW => ⟨(), rfl, by rw [ht]; exact hI, hS.F ht⟩) hS.2.2 dX5_number_62
    · refine lv_if_ne (tgt := 35) hx hb dX5_number_27 (by decide) (fun h8 => ?_) (fun h8 => absurd h8 (by decide))
      refine lv_aload_n hx hb dX5_number_35 rfl (lv_at hl 0 rfl) ?_
      refine lv_iload_n hx hb dX5_number_36 rfl (lv_at hl 1 rfl) ?_
      refine lv_iload_n hx hb dX5_number_37 rfl (lv_at hl 2 rfl) ?_
      refine cy_callp (v := .int (cy_b (cy_pl (τ.1 2 kx) i))) (va_runV (As := [.int (nI kx), .int i]) (rest := []) ⟨hx, hb, hml, hown, hts⟩ (c_X5_isPlace l D cI cJ cO z n na σ (cy_i τ 0 2 0) pl hi ad kx (by omega) i) (cwV 2 hts gX5_number_X5_isPlace rfl rfl rfl (by decide +kernel) ⟨Nat.le_of_ble_eq_true rfl, Nat.le_of_ble_eq_true rfl⟩) (cy_preV hK hI (cy_recv hK (hI.1 20 _ cy_CR).1 rfl)) rfl rfl hl.1 rfl (lv_room (Nat.le_of_ble_eq_true rfl)) dX5_number_38 ⟨Nat.le_of_ble_eq_true rfl, Nat.le_of_ble_eq_true rfl⟩) ?_
      cases b9 : (cy_pl (τ.1 2 kx) i)
      · refine lv_if_ne (tgt := 49) hx hb dX5_number_41 (by decide) (fun h10 => absurd (by decide) h10) (fun h10 => ?_)
        refine lv_bipush (v := -5) hx hb dX5_number_44 (by decide) ?_
        refine lv_goto (tgt := 50) hx hb dX5_number_46 (by decide) ?_
        refine lv_istore_n (lv' := [(3, .int (-5)), (0, .ref (ad 20)), (1, .int (nI kx)), (2, .int i)]) hx hb dX5_number_50 rfl hl (by decide) rfl (fun ls hl => ?_)
        refine lv_iload_n hx hb dX5_number_51 rfl (lv_at hl 0 rfl) ?_
        refine lv_if_eq (tgt := 63) hx hb dX5_number_52 (by decide) (fun h11 => absurd h11 (by decide)) (fun h11 => ?_)
        refine lv_aload_n hx hb dX5_number_55 rfl (lv_at hl 1 rfl) ?_
        refine lv_iload_n hx hb dX5_number_56 rfl (lv_at hl 0 rfl) ?_
        refine cy_callm (va_runV (As := [.int (-5)]) (rest := []) ⟨hx, hb, hml, hown, hts⟩ (c_X5_no l D cI cJ cO z n na σ (cy_i τ 0 2 0) pl hi ad (-5)) (cwV 1 hts gX5_number_X5_no rfl rfl rfl (by decide +kernel) ⟨Nat.le_of_ble_eq_true rfl, Nat.le_of_ble_eq_true rfl⟩) (cy_preV hK hI (cy_recv hK (hI.1 20 _ cy_CR).1 rfl)) rfl rfl hl.1 rfl (lv_room (Nat.le_of_ble_eq_true rfl)) dX5_number_57 ⟨Nat.le_of_ble_eq_true rfl, Nat.le_of_ble_eq_true rfl⟩) hS (fun u H locs hI hz hS => ?_)
        have hI : cy_W D z (cy_CT cI cJ cO n na σ (cy_no (cy_i τ 0 2 0) (-5)) pl hi ad) ad H := hI
        refine W.eq (g2 := F0 m 60 ls [.int (-5)]) rfl ?_
        refine lv_istore_n (lv' := [(3, .int (-5)), (0, .ref (ad 20)), (1, .int (nI kx)), (2, .int i)]) hx hb dX5_number_60 rfl hl (by decide) rfl (fun ls hl => ?_)
        refine lv_lconst (v := 0) hx hb dX5_number_61 (by decide) ?_
        have E : cy_oNum nt τ (nI kx) i = (0, cy_no (cy_i τ 0 2 0) (-5)) := by simp [cy_oNum, cy_z, nI_clamp (show kx < 2 ^ 31 by omega), b1, b5, b9]
        rw [E]
        exact W.lret (v := 0) hx hb hr (fun t ht hW => ⟨(), rfl, by rw [ht]; exact hI, hS.F ht⟩) hS.2.2 dX5_number_62
      · obtain ⟨pi, hpi, epi⟩ := (hok.2.2.1 kx hkx).2.1
        obtain ⟨ji, hji, rfl⟩ := (cy_pl_iff (p := pi) (by omega) _).mp (by rw [← epi]; exact b9)
        refine lv_if_ne (tgt := 49) hx hb dX5_number_41 (by decide) (fun h12 => ?_) (fun h12 => absurd h12 (by decide))
        refine lv_iconst (v := 0) hx hb dX5_number_49 (by decide) ?_
        refine lv_istore_n (lv' := [(3, .int 0), (0, .ref (ad 20)), (1, .int (nI kx)), (2, .int (nI ji))]) hx hb dX5_number_50 rfl hl (by decide) rfl (fun ls hl => ?_)
        refine lv_iload_n hx hb dX5_number_51 rfl (lv_at hl 0 rfl) ?_
        refine lv_if_eq (tgt := 63) hx hb dX5_number_52 (by decide) (fun h13 => ?_) (fun h13 => absurd (by decide) h13)
        refine lv_aload_n hx hb dX5_number_63 rfl (lv_at hl 1 rfl) ?_
        refine cy_getT (v := .ref (ad 24)) hx hb hts hin5 hown hK hI 4 (by decide) (hts (.fieldLink RX5 19 "CustomsYardModel" "numbers" "[J") (by decide +kernel)) rfl dX5_number_64 ?_
        refine lv_bipush (v := 6) hx hb dX5_number_67 (by decide) ?_
        refine lv_iload_n hx hb dX5_number_69 rfl (lv_at hl 2 rfl) ?_
        refine lv_imul hx hb dX5_number_70 ?_
        refine lv_iload_n hx hb dX5_number_71 rfl (lv_at hl 3 rfl) ?_
        refine lv_iadd hx hb dX5_number_72 ?_
        refine cy_topi (y := nI (6 * kx + ji)) (cy_ix kx ji) ?_
        refine cy_lald (f := τ.2 0) (k := (6 * kx + ji)) hx hb hK.1 hI 1 (x := 24) rfl rfl (by omega) (by decide) dX5_number_73 ?_
        have E : cy_oNum nt τ (nI kx) (nI ji) = (τ.2 0 (6 * kx + ji), cy_i τ 0 2 0) := by simp [cy_oNum, cy_z, nI_clamp (show kx < 2 ^ 31 by omega), nI_clamp (show ji < 2 ^ 31 by omega), b1, b5, b9]
        rw [E]
        exact W.lret (v := τ.2 0 (6 * kx + ji)) hx hb hr (fun t ht hW => ⟨(), rfl, by rw [ht]; exact hI, hS.F ht⟩) hS.2.2 dX5_number_74

set_option maxHeartbeats 4000000 in
set_option maxRecDepth 100000 in
theorem c_X5_put (l : Launch) (D : va_G) (cI cJ cO : ClassId) (z n na : Nat) (σ τ : cy_S) (pl : Nat → Int32) (hi : Int32) (ad : Nat → Nat) (nt : Nat) (hok : cy_ok nt τ) (x i o : Int32)  : Met l yX5_put wsX5_put { frames := 2, cells := 0, slots := 0, locals := 44 } (cy_P D cI cJ cO (fun H => cy_W D z (cy_CT cI cJ cO n na σ τ pl hi ad) ad H) [.ref (ad 20), .int x, .int i, .int o]) (cy_M (S := Unit) z (fun _ => some (.int (cy_oPut nt τ x i o).1)) (fun _ H => cy_W D z (cy_CT cI cJ cO n na σ (cy_oPut nt τ x i o).2 pl hi ad) ad H)) 0 0 (fun q => z ≤ q) := by
  refine Met.ofW (cc := cX5_put) (maxL := 5) (ret := (some .int)) (by decide) rfl ?_
  intro p e s m args below meth c s₁ B hml hv
  obtain ⟨rfl, hK, hI⟩ := hv
  have hx := B.exec
  have hb := B.bytes
  have hr := B.returns
  have hts := atoms_spec (ws := wsX5_put) B.pre
  have hown : s.vm.findClass RX5 = some m.cls := findClass_of_methodNamed B.named
  have hlocks := B.notSynchronized
  have hS : va_S (fun q => z ≤ q) s.heap s.heap [] := va_S.rf
  have hl := lv_entry ([.ref (ad 20), .int x, .int i, .int o]) (n := 5) (Nat.le_of_ble_eq_true rfl)
  rw [lg_entry_eq]
  generalize (lg_sl ([.ref (ad 20), .int x, .int i, .int o]) ++ List.replicate (5 - (lg_sl ([.ref (ad 20), .int x, .int i, .int o])).length) Slot.unset).toArray = ls at hl ⊢
  have hl : lv_has ls 5 [(0, .ref (ad 20)), (1, .int x), (2, .int i), (3, .int o)] := hl
  have hin5 := hin5_X5_put
  have h0 := hok.2.1
  have hn := hok.1
  refine lv_aload_n hx hb dX5_put_0 rfl (lv_at hl 0 rfl) ?_
  refine lv_iconst (v := 0) hx hb dX5_put_1 (by decide) ?_
  refine cy_putT (v := 0) hx hb hts hin5 hown hK hI hS 12 2 (by decide) (hts (.fieldLink RX5 52 "CustomsYardModel" "refused" "I") (by decide +kernel)) rfl (by decide +kernel) rfl dX5_put_2 (fun H locs hI hS => ?_)
  refine lv_aload_n hx hb dX5_put_5 rfl (lv_at hl 0 rfl) ?_
  refine lv_iload_n hx hb dX5_put_6 rfl (lv_at hl 1 rfl) ?_
  refine cy_callp (v := .int (cy_b (cy_ld nt x))) (va_runV (As := [.int x]) (rest := []) ⟨hx, hb, hml, hown, hts⟩ (c_X5_isLoad l D cI cJ cO z n na σ (cy_i τ 0 2 0) pl hi ad nt h0 x) (cwV 1 hts gX5_put_X5_isLoad rfl rfl rfl (by decide +kernel) ⟨Nat.le_of_ble_eq_true rfl, Nat.le_of_ble_eq_true rfl⟩) (cy_preV hK hI (cy_recv hK (hI.1 20 _ cy_CR).1 rfl)) rfl rfl hl.1 rfl (lv_room (Nat.le_of_ble_eq_true rfl)) dX5_put_7 ⟨Nat.le_of_ble_eq_true rfl, Nat.le_of_ble_eq_true rfl⟩) ?_
  cases b1 : (cy_ld nt x)
  · refine lv_if_eq (tgt := 26) hx hb dX5_put_10 (by decide) (fun h2 => ?_) (fun h2 => absurd (by decide) h2)
    refine lv_aload_n hx hb dX5_put_26 rfl (lv_at hl 0 rfl) ?_
    refine lv_bipush (v := -2) hx hb dX5_put_27 (by decide) ?_
    refine cy_callm (va_runV (As := [.int (-2)]) (rest := []) ⟨hx, hb, hml, hown, hts⟩ (c_X5_no l D cI cJ cO z n na σ (cy_i τ 0 2 0) pl hi ad (-2)) (cwV 1 hts gX5_put_X5_no rfl rfl rfl (by decide +kernel) ⟨Nat.le_of_ble_eq_true rfl, Nat.le_of_ble_eq_true rfl⟩) (cy_preV hK hI (cy_recv hK (hI.1 20 _ cy_CR).1 rfl)) rfl rfl hl.1 rfl (lv_room (Nat.le_of_ble_eq_true rfl)) dX5_put_29 ⟨Nat.le_of_ble_eq_true rfl, Nat.le_of_ble_eq_true rfl⟩) hS (fun u H locs hI hz hS => ?_)
    have hI : cy_W D z (cy_CT cI cJ cO n na σ (cy_no (cy_i τ 0 2 0) (-2)) pl hi ad) ad H := hI
    refine W.eq (g2 := F0 m 32 ls [.int (-2)]) rfl ?_
    have E : cy_oPut nt τ x i o = ((-2), cy_no (cy_i τ 0 2 0) (-2)) := by simp [cy_oPut, cy_z, b1]
    rw [E]
    exact W.iret (v := (-2)) hx hb hr (fun t ht hW => ⟨(), rfl, by rw [ht]; exact hI, hS.F ht⟩) hS.2.2 dX5_put_32
  · obtain ⟨kx, hkx, rfl⟩ := (cy_ld_iff hn _).mp b1
    refine lv_if_eq (tgt := 26) hx hb dX5_put_10 (by decide) (fun h3 => absurd h3 (by decide)) (fun h3 => ?_)
    refine lv_iload_n hx hb dX5_put_13 rfl (lv_at hl 3 rfl) ?_
    refine lv_iconst (v := -1) hx hb dX5_put_14 (by decide) ?_
    refine lv_icmp_eq (tgt := 33) hx hb dX5_put_15 (by decide) (fun h4 => ?_) (fun h4 => ?_)
    · refine lv_aload_n hx hb dX5_put_33 rfl (lv_at hl 0 rfl) ?_
      refine cy_getT (v := .ref (ad 21)) hx hb hts hin5 hown hK hI 1 (by decide) (hts (.fieldLink RX5 7 "CustomsYardModel" "sorts" "[I") (by decide +kernel)) rfl dX5_put_34 ?_
      refine lv_iload_n hx hb dX5_put_37 rfl (lv_at hl 1 rfl) ?_
      refine cy_iald (f := τ.1 1) (k := kx) hx hb hK.1 hI 0 (x := 21) rfl rfl (by omega) (by decide) dX5_put_38 ?_
      refine lv_istore (lv' := [(4, .int (τ.1 1 kx)), (0, .ref (ad 20)), (1, .int (nI kx)), (2, .int i), (3, .int o)]) hx hb dX5_put_39 hl (by decide) rfl (fun ls hl => ?_)
      refine lv_iload hx hb dX5_put_41 (lv_at hl 0 rfl) ?_
      refine cy_callp (v := .int (cy_b (cy_th (τ.1 1 kx)))) (va_runS (As := [.int (τ.1 1 kx)]) (rest := []) ⟨hx, hb, hml, hown, hts⟩ (c_X5_isOfThings l (τ.1 1 kx)) (va_cwS 1 hts gX5_put_X5_isOfThings rfl rfl rfl (by decide +kernel) ⟨Nat.le_of_ble_eq_true rfl, Nat.le_of_ble_eq_true rfl⟩) preEq rfl rfl hl.1 rfl (lv_room (Nat.le_of_ble_eq_true rfl)) dX5_put_43 ⟨Nat.le_of_ble_eq_true rfl, Nat.le_of_ble_eq_true rfl⟩) ?_
      cases b5 : (cy_th (τ.1 1 kx))
      · refine lv_if_eq (tgt := 71) hx hb dX5_put_46 (by decide) (fun h6 => ?_) (fun h6 => absurd (by decide) h6)
        refine lv_aload_n hx hb dX5_put_71 rfl (lv_at hl 1 rfl) ?_
        refine lv_bipush (v := -4) hx hb dX5_put_72 (by decide) ?_
        refine cy_callm (va_runV (As := [.int (-4)]) (rest := []) ⟨hx, hb, hml, hown, hts⟩ (c_X5_no l D cI cJ cO z n na σ (cy_i τ 0 2 0) pl hi ad (-4)) (cwV 1 hts gX5_put_X5_no rfl rfl rfl (by decide +kernel) ⟨Nat.le_of_ble_eq_true rfl, Nat.le_of_ble_eq_true rfl⟩) (cy_preV hK hI (cy_recv hK (hI.1 20 _ cy_CR).1 rfl)) rfl rfl hl.1 rfl (lv_room (Nat.le_of_ble_eq_true rfl)) dX5_put_74 ⟨Nat.le_of_ble_eq_true rfl, Nat.le_of_ble_eq_true rfl⟩) hS (fun u H locs hI hz hS => ?_)
        have hI : cy_W D z (cy_CT cI cJ cO n na σ (cy_no (cy_i τ 0 2 0) (-4)) pl hi ad) ad H := hI
        refine W.eq (g2 := F0 m 77 ls [.int (-4)]) rfl ?_
        have E : cy_oPut nt τ (nI kx) i o = ((-4), cy_no (cy_i τ 0 2 0) (-4)) := by first | (simp [cy_oPut, cy_z, nI_clamp (show kx < 2 ^ 31 by omega), b1, b5]; done) | (simp [cy_oPut, cy_z, nI_clamp (show kx < 2 ^ 31 by omega), b1, b5]; simp [h4]; done) | (simp [cy_oPut, cy_z, nI_clamp (show kx < 2 ^ 31 by omega), b1, b5, h4]; done)
        rw [E]
        exact W.iret (v := (-4)) hx hb hr (fun t ht hW => ⟨(), rfl, by rw [ht]; exact hI, hS.F ht⟩) hS.2.2 dX5_put_77
      · refine lv_if_eq (tgt := 71) hx hb dX5_put_46 (by decide) (fun h7 => absurd h7 (by decide)) (fun h7 => ?_)
        refine lv_iload_n hx hb dX5_put_49 rfl (lv_at hl 4 rfl) ?_
        refine lv_iconst (v := -1) hx hb dX5_put_50 (by decide) ?_
        refine lv_icmp_eq (tgt := 78) hx hb dX5_put_51 (by decide) (fun h8 => ?_) (fun h8 => absurd (h4) h8)
        refine lv_aload_n hx hb dX5_put_78 rfl (lv_at hl 1 rfl) ?_
        refine lv_iload_n hx hb dX5_put_79 rfl (lv_at hl 2 rfl) ?_
        refine lv_iload_n hx hb dX5_put_80 rfl (lv_at hl 3 rfl) ?_
        refine cy_callp (v := .int (cy_b (cy_pl (τ.1 2 kx) i))) (va_runV (As := [.int (nI kx), .int i]) (rest := []) ⟨hx, hb, hml, hown, hts⟩ (c_X5_isPlace l D cI cJ cO z n na σ (cy_i τ 0 2 0) pl hi ad kx (by omega) i) (cwV 2 hts gX5_put_X5_isPlace rfl rfl rfl (by decide +kernel) ⟨Nat.le_of_ble_eq_true rfl, Nat.le_of_ble_eq_true rfl⟩) (cy_preV hK hI (cy_recv hK (hI.1 20 _ cy_CR).1 rfl)) rfl rfl hl.1 rfl (lv_room (Nat.le_of_ble_eq_true rfl)) dX5_put_81 ⟨Nat.le_of_ble_eq_true rfl, Nat.le_of_ble_eq_true rfl⟩) ?_
        cases b9 : (cy_pl (τ.1 2 kx) i)
        · refine lv_if_ne (tgt := 94) hx hb dX5_put_84 (by decide) (fun h10 => absurd (by decide) h10) (fun h10 => ?_)
          refine lv_aload_n hx hb dX5_put_87 rfl (lv_at hl 1 rfl) ?_
          refine lv_bipush (v := -5) hx hb dX5_put_88 (by decide) ?_
          refine cy_callm (va_runV (As := [.int (-5)]) (rest := []) ⟨hx, hb, hml, hown, hts⟩ (c_X5_no l D cI cJ cO z n na σ (cy_i τ 0 2 0) pl hi ad (-5)) (cwV 1 hts gX5_put_X5_no rfl rfl rfl (by decide +kernel) ⟨Nat.le_of_ble_eq_true rfl, Nat.le_of_ble_eq_true rfl⟩) (cy_preV hK hI (cy_recv hK (hI.1 20 _ cy_CR).1 rfl)) rfl rfl hl.1 rfl (lv_room (Nat.le_of_ble_eq_true rfl)) dX5_put_90 ⟨Nat.le_of_ble_eq_true rfl, Nat.le_of_ble_eq_true rfl⟩) hS (fun u H locs hI hz hS => ?_)
          have hI : cy_W D z (cy_CT cI cJ cO n na σ (cy_no (cy_i τ 0 2 0) (-5)) pl hi ad) ad H := hI
          refine W.eq (g2 := F0 m 93 ls [.int (-5)]) rfl ?_
          have E : cy_oPut nt τ (nI kx) i o = ((-5), cy_no (cy_i τ 0 2 0) (-5)) := by first | (simp [cy_oPut, cy_z, nI_clamp (show kx < 2 ^ 31 by omega), b1, b5, b9]; done) | (simp [cy_oPut, cy_z, nI_clamp (show kx < 2 ^ 31 by omega), b1, b5, b9]; simp [h4]; done) | (simp [cy_oPut, cy_z, nI_clamp (show kx < 2 ^ 31 by omega), b1, b5, b9, h4]; done)
          rw [E]
          exact W.iret (v := (-5)) hx hb hr (fun t ht hW => ⟨(), rfl, by rw [ht]; exact hI, hS.F ht⟩) hS.2.2 dX5_put_93
        · obtain ⟨pi, hpi, epi⟩ := (hok.2.2.1 kx hkx).2.1
          obtain ⟨ji, hji, rfl⟩ := (cy_pl_iff (p := pi) (by omega) _).mp (by rw [← epi]; exact b9)
          refine lv_if_ne (tgt := 94) hx hb dX5_put_84 (by decide) (fun h11 => ?_) (fun h11 => absurd h11 (by decide))
          refine lv_iload_n hx hb dX5_put_94 rfl (lv_at hl 4 rfl) ?_
          refine lv_iconst (v := -1) hx hb dX5_put_95 (by decide) ?_
          refine lv_icmp_eq (tgt := 123) hx hb dX5_put_96 (by decide) (fun h12 => ?_) (fun h12 => absurd (h4) h12)
          refine lv_aload_n hx hb dX5_put_123 rfl (lv_at hl 1 rfl) ?_
          refine cy_getT (v := .ref (ad 25)) hx hb hts hin5 hown hK hI 5 (by decide) (hts (.fieldLink RX5 23 "CustomsYardModel" "things" "[I") (by decide +kernel)) rfl dX5_put_124 ?_
          refine lv_bipush (v := 6) hx hb dX5_put_127 (by decide) ?_
          refine lv_iload_n hx hb dX5_put_129 rfl (lv_at hl 2 rfl) ?_
          refine lv_imul hx hb dX5_put_130 ?_
          refine lv_iload_n hx hb dX5_put_131 rfl (lv_at hl 3 rfl) ?_
          refine lv_iadd hx hb dX5_put_132 ?_
          refine cy_topi (y := nI (6 * kx + ji)) (cy_ix kx ji) ?_
          refine lv_iload_n hx hb dX5_put_133 rfl (lv_at hl 4 rfl) ?_
          refine cy_stT5 (k := (6 * kx + ji)) (v := o) hx hb hK hI hS (by omega) dX5_put_134 (fun H locs hI hS => ?_)
          refine lv_iconst (v := 1) hx hb dX5_put_135 (by decide) ?_
          have E : cy_oPut nt τ (nI kx) (nI ji) o = (1, cy_i (cy_i τ 0 2 0) 4 (6 * kx + ji) o) := by first | (simp [cy_oPut, cy_z, nI_clamp (show kx < 2 ^ 31 by omega), nI_clamp (show ji < 2 ^ 31 by omega), b1, b5, b9]; done) | (simp [cy_oPut, cy_z, nI_clamp (show kx < 2 ^ 31 by omega), nI_clamp (show ji < 2 ^ 31 by omega), b1, b5, b9]; simp [h4]; done) | (simp [cy_oPut, cy_z, nI_clamp (show kx < 2 ^ 31 by omega), nI_clamp (show ji < 2 ^ 31 by omega), b1, b5, b9, h4]; done)
          rw [E]
          exact W.iret (v := 1) hx hb hr (fun t ht hW => ⟨(), rfl, by rw [ht]; exact hI, hS.F ht⟩) hS.2.2 dX5_put_136
    · refine lv_aload_n hx hb dX5_put_18 rfl (lv_at hl 0 rfl) ?_
      refine lv_iload_n hx hb dX5_put_19 rfl (lv_at hl 3 rfl) ?_
      refine cy_callp (v := .int (cy_b (cy_ld nt o))) (va_runV (As := [.int o]) (rest := []) ⟨hx, hb, hml, hown, hts⟩ (c_X5_isLoad l D cI cJ cO z n na σ (cy_i τ 0 2 0) pl hi ad nt h0 o) (cwV 1 hts gX5_put_X5_isLoad rfl rfl rfl (by decide +kernel) ⟨Nat.le_of_ble_eq_true rfl, Nat.le_of_ble_eq_true rfl⟩) (cy_preV hK hI (cy_recv hK (hI.1 20 _ cy_CR).1 rfl)) rfl rfl hl.1 rfl (lv_room (Nat.le_of_ble_eq_true rfl)) dX5_put_20 ⟨Nat.le_of_ble_eq_true rfl, Nat.le_of_ble_eq_true rfl⟩) ?_
      cases b13 : (cy_ld nt o)
      · refine lv_if_ne (tgt := 33) hx hb dX5_put_23 (by decide) (fun h14 => absurd (by decide) h14) (fun h14 => ?_)
        refine lv_aload_n hx hb dX5_put_26 rfl (lv_at hl 0 rfl) ?_
        refine lv_bipush (v := -2) hx hb dX5_put_27 (by decide) ?_
        refine cy_callm (va_runV (As := [.int (-2)]) (rest := []) ⟨hx, hb, hml, hown, hts⟩ (c_X5_no l D cI cJ cO z n na σ (cy_i τ 0 2 0) pl hi ad (-2)) (cwV 1 hts gX5_put_X5_no rfl rfl rfl (by decide +kernel) ⟨Nat.le_of_ble_eq_true rfl, Nat.le_of_ble_eq_true rfl⟩) (cy_preV hK hI (cy_recv hK (hI.1 20 _ cy_CR).1 rfl)) rfl rfl hl.1 rfl (lv_room (Nat.le_of_ble_eq_true rfl)) dX5_put_29 ⟨Nat.le_of_ble_eq_true rfl, Nat.le_of_ble_eq_true rfl⟩) hS (fun u H locs hI hz hS => ?_)
        have hI : cy_W D z (cy_CT cI cJ cO n na σ (cy_no (cy_i τ 0 2 0) (-2)) pl hi ad) ad H := hI
        refine W.eq (g2 := F0 m 32 ls [.int (-2)]) rfl ?_
        have E : cy_oPut nt τ (nI kx) i o = ((-2), cy_no (cy_i τ 0 2 0) (-2)) := by first | (simp [cy_oPut, cy_z, nI_clamp (show kx < 2 ^ 31 by omega), b1, b13]; done) | (simp [cy_oPut, cy_z, nI_clamp (show kx < 2 ^ 31 by omega), b1, b13]; simp [h4]; done) | (simp [cy_oPut, cy_z, nI_clamp (show kx < 2 ^ 31 by omega), b1, b13, h4]; done)
        rw [E]
        exact W.iret (v := (-2)) hx hb hr (fun t ht hW => ⟨(), rfl, by rw [ht]; exact hI, hS.F ht⟩) hS.2.2 dX5_put_32
      · obtain ⟨ko, hko, rfl⟩ := (cy_ld_iff hn _).mp b13
        refine lv_if_ne (tgt := 33) hx hb dX5_put_23 (by decide) (fun h15 => ?_) (fun h15 => absurd h15 (by decide))
        refine lv_aload_n hx hb dX5_put_33 rfl (lv_at hl 0 rfl) ?_
        refine cy_getT (v := .ref (ad 21)) hx hb hts hin5 hown hK hI 1 (by decide) (hts (.fieldLink RX5 7 "CustomsYardModel" "sorts" "[I") (by decide +kernel)) rfl dX5_put_34 ?_
        refine lv_iload_n hx hb dX5_put_37 rfl (lv_at hl 1 rfl) ?_
        refine cy_iald (f := τ.1 1) (k := kx) hx hb hK.1 hI 0 (x := 21) rfl rfl (by omega) (by decide) dX5_put_38 ?_
        refine lv_istore (lv' := [(4, .int (τ.1 1 kx)), (0, .ref (ad 20)), (1, .int (nI kx)), (2, .int i), (3, .int (nI ko))]) hx hb dX5_put_39 hl (by decide) rfl (fun ls hl => ?_)
        refine lv_iload hx hb dX5_put_41 (lv_at hl 0 rfl) ?_
        refine cy_callp (v := .int (cy_b (cy_th (τ.1 1 kx)))) (va_runS (As := [.int (τ.1 1 kx)]) (rest := []) ⟨hx, hb, hml, hown, hts⟩ (c_X5_isOfThings l (τ.1 1 kx)) (va_cwS 1 hts gX5_put_X5_isOfThings rfl rfl rfl (by decide +kernel) ⟨Nat.le_of_ble_eq_true rfl, Nat.le_of_ble_eq_true rfl⟩) preEq rfl rfl hl.1 rfl (lv_room (Nat.le_of_ble_eq_true rfl)) dX5_put_43 ⟨Nat.le_of_ble_eq_true rfl, Nat.le_of_ble_eq_true rfl⟩) ?_
        cases b16 : (cy_th (τ.1 1 kx))
        · refine lv_if_eq (tgt := 71) hx hb dX5_put_46 (by decide) (fun h17 => ?_) (fun h17 => absurd (by decide) h17)
          refine lv_aload_n hx hb dX5_put_71 rfl (lv_at hl 1 rfl) ?_
          refine lv_bipush (v := -4) hx hb dX5_put_72 (by decide) ?_
          refine cy_callm (va_runV (As := [.int (-4)]) (rest := []) ⟨hx, hb, hml, hown, hts⟩ (c_X5_no l D cI cJ cO z n na σ (cy_i τ 0 2 0) pl hi ad (-4)) (cwV 1 hts gX5_put_X5_no rfl rfl rfl (by decide +kernel) ⟨Nat.le_of_ble_eq_true rfl, Nat.le_of_ble_eq_true rfl⟩) (cy_preV hK hI (cy_recv hK (hI.1 20 _ cy_CR).1 rfl)) rfl rfl hl.1 rfl (lv_room (Nat.le_of_ble_eq_true rfl)) dX5_put_74 ⟨Nat.le_of_ble_eq_true rfl, Nat.le_of_ble_eq_true rfl⟩) hS (fun u H locs hI hz hS => ?_)
          have hI : cy_W D z (cy_CT cI cJ cO n na σ (cy_no (cy_i τ 0 2 0) (-4)) pl hi ad) ad H := hI
          refine W.eq (g2 := F0 m 77 ls [.int (-4)]) rfl ?_
          have E : cy_oPut nt τ (nI kx) i (nI ko) = ((-4), cy_no (cy_i τ 0 2 0) (-4)) := by first | (simp [cy_oPut, cy_z, nI_clamp (show kx < 2 ^ 31 by omega), nI_clamp (show ko < 2 ^ 31 by omega), b1, b13, b16]; done) | (simp [cy_oPut, cy_z, nI_clamp (show kx < 2 ^ 31 by omega), nI_clamp (show ko < 2 ^ 31 by omega), b1, b13, b16]; simp [h4]; done) | (simp [cy_oPut, cy_z, nI_clamp (show kx < 2 ^ 31 by omega), nI_clamp (show ko < 2 ^ 31 by omega), b1, b13, b16, h4]; done)
          rw [E]
          exact W.iret (v := (-4)) hx hb hr (fun t ht hW => ⟨(), rfl, by rw [ht]; exact hI, hS.F ht⟩) hS.2.2 dX5_put_77
        · refine lv_if_eq (tgt := 71) hx hb dX5_put_46 (by decide) (fun h18 => absurd h18 (by decide)) (fun h18 => ?_)
          refine lv_iload_n hx hb dX5_put_49 rfl (lv_at hl 4 rfl) ?_
          refine lv_iconst (v := -1) hx hb dX5_put_50 (by decide) ?_
          refine lv_icmp_eq (tgt := 78) hx hb dX5_put_51 (by decide) (fun h19 => absurd h19 (h4)) (fun h19 => ?_)
          refine lv_aload_n hx hb dX5_put_54 rfl (lv_at hl 1 rfl) ?_
          refine cy_getT (v := .ref (ad 21)) hx hb hts hin5 hown hK hI 1 (by decide) (hts (.fieldLink RX5 7 "CustomsYardModel" "sorts" "[I") (by decide +kernel)) rfl dX5_put_55 ?_
          refine lv_iload_n hx hb dX5_put_58 rfl (lv_at hl 4 rfl) ?_
          refine cy_iald (f := τ.1 1) (k := ko) hx hb hK.1 hI 0 (x := 21) rfl rfl (by omega) (by decide) dX5_put_59 ?_
          refine lv_iload hx hb dX5_put_60 (lv_at hl 0 rfl) ?_
          refine cy_callp (v := .int (cy_wa (τ.1 1 kx))) (va_runS (As := [.int (τ.1 1 kx)]) (rest := [.int (τ.1 1 ko)]) ⟨hx, hb, hml, hown, hts⟩ (c_X5_wanted l (τ.1 1 kx)) (va_cwS 1 hts gX5_put_X5_wanted rfl rfl rfl (by decide +kernel) ⟨Nat.le_of_ble_eq_true rfl, Nat.le_of_ble_eq_true rfl⟩) preEq rfl rfl hl.1 rfl (lv_room (Nat.le_of_ble_eq_true rfl)) dX5_put_62 ⟨Nat.le_of_ble_eq_true rfl, Nat.le_of_ble_eq_true rfl⟩) ?_
          refine cy_callp (v := .int (cy_b (cy_go (τ.1 1 ko) (cy_wa (τ.1 1 kx))))) (va_runS (As := [.int (τ.1 1 ko), .int (cy_wa (τ.1 1 kx))]) (rest := []) ⟨hx, hb, hml, hown, hts⟩ (c_X5_goes l (τ.1 1 ko) (cy_wa (τ.1 1 kx))) (va_cwS 2 hts gX5_put_X5_goes rfl rfl rfl (by decide +kernel) ⟨Nat.le_of_ble_eq_true rfl, Nat.le_of_ble_eq_true rfl⟩) preEq rfl rfl hl.1 rfl (lv_room (Nat.le_of_ble_eq_true rfl)) dX5_put_65 ⟨Nat.le_of_ble_eq_true rfl, Nat.le_of_ble_eq_true rfl⟩) ?_
          cases b20 : (cy_go (τ.1 1 ko) (cy_wa (τ.1 1 kx)))
          · refine lv_if_ne (tgt := 78) hx hb dX5_put_68 (by decide) (fun h21 => absurd (by decide) h21) (fun h21 => ?_)
            refine lv_aload_n hx hb dX5_put_71 rfl (lv_at hl 1 rfl) ?_
            refine lv_bipush (v := -4) hx hb dX5_put_72 (by decide) ?_
            refine cy_callm (va_runV (As := [.int (-4)]) (rest := []) ⟨hx, hb, hml, hown, hts⟩ (c_X5_no l D cI cJ cO z n na σ (cy_i τ 0 2 0) pl hi ad (-4)) (cwV 1 hts gX5_put_X5_no rfl rfl rfl (by decide +kernel) ⟨Nat.le_of_ble_eq_true rfl, Nat.le_of_ble_eq_true rfl⟩) (cy_preV hK hI (cy_recv hK (hI.1 20 _ cy_CR).1 rfl)) rfl rfl hl.1 rfl (lv_room (Nat.le_of_ble_eq_true rfl)) dX5_put_74 ⟨Nat.le_of_ble_eq_true rfl, Nat.le_of_ble_eq_true rfl⟩) hS (fun u H locs hI hz hS => ?_)
            have hI : cy_W D z (cy_CT cI cJ cO n na σ (cy_no (cy_i τ 0 2 0) (-4)) pl hi ad) ad H := hI
            refine W.eq (g2 := F0 m 77 ls [.int (-4)]) rfl ?_
            have E : cy_oPut nt τ (nI kx) i (nI ko) = ((-4), cy_no (cy_i τ 0 2 0) (-4)) := by first | (simp [cy_oPut, cy_z, nI_clamp (show kx < 2 ^ 31 by omega), nI_clamp (show ko < 2 ^ 31 by omega), b1, b13, b16, b20]; done) | (simp [cy_oPut, cy_z, nI_clamp (show kx < 2 ^ 31 by omega), nI_clamp (show ko < 2 ^ 31 by omega), b1, b13, b16, b20]; simp [h4]; done) | (simp [cy_oPut, cy_z, nI_clamp (show kx < 2 ^ 31 by omega), nI_clamp (show ko < 2 ^ 31 by omega), b1, b13, b16, b20, h4]; done)
            rw [E]
            exact W.iret (v := (-4)) hx hb hr (fun t ht hW => ⟨(), rfl, by rw [ht]; exact hI, hS.F ht⟩) hS.2.2 dX5_put_77
          · refine lv_if_ne (tgt := 78) hx hb dX5_put_68 (by decide) (fun h22 => ?_) (fun h22 => absurd h22 (by decide))
            refine lv_aload_n hx hb dX5_put_78 rfl (lv_at hl 1 rfl) ?_
            refine lv_iload_n hx hb dX5_put_79 rfl (lv_at hl 2 rfl) ?_
            refine lv_iload_n hx hb dX5_put_80 rfl (lv_at hl 3 rfl) ?_
            refine cy_callp (v := .int (cy_b (cy_pl (τ.1 2 kx) i))) (va_runV (As := [.int (nI kx), .int i]) (rest := []) ⟨hx, hb, hml, hown, hts⟩ (c_X5_isPlace l D cI cJ cO z n na σ (cy_i τ 0 2 0) pl hi ad kx (by omega) i) (cwV 2 hts gX5_put_X5_isPlace rfl rfl rfl (by decide +kernel) ⟨Nat.le_of_ble_eq_true rfl, Nat.le_of_ble_eq_true rfl⟩) (cy_preV hK hI (cy_recv hK (hI.1 20 _ cy_CR).1 rfl)) rfl rfl hl.1 rfl (lv_room (Nat.le_of_ble_eq_true rfl)) dX5_put_81 ⟨Nat.le_of_ble_eq_true rfl, Nat.le_of_ble_eq_true rfl⟩) ?_
            cases b23 : (cy_pl (τ.1 2 kx) i)
            · refine lv_if_ne (tgt := 94) hx hb dX5_put_84 (by decide) (fun h24 => absurd (by decide) h24) (fun h24 => ?_)
              refine lv_aload_n hx hb dX5_put_87 rfl (lv_at hl 1 rfl) ?_
              refine lv_bipush (v := -5) hx hb dX5_put_88 (by decide) ?_
              refine cy_callm (va_runV (As := [.int (-5)]) (rest := []) ⟨hx, hb, hml, hown, hts⟩ (c_X5_no l D cI cJ cO z n na σ (cy_i τ 0 2 0) pl hi ad (-5)) (cwV 1 hts gX5_put_X5_no rfl rfl rfl (by decide +kernel) ⟨Nat.le_of_ble_eq_true rfl, Nat.le_of_ble_eq_true rfl⟩) (cy_preV hK hI (cy_recv hK (hI.1 20 _ cy_CR).1 rfl)) rfl rfl hl.1 rfl (lv_room (Nat.le_of_ble_eq_true rfl)) dX5_put_90 ⟨Nat.le_of_ble_eq_true rfl, Nat.le_of_ble_eq_true rfl⟩) hS (fun u H locs hI hz hS => ?_)
              have hI : cy_W D z (cy_CT cI cJ cO n na σ (cy_no (cy_i τ 0 2 0) (-5)) pl hi ad) ad H := hI
              refine W.eq (g2 := F0 m 93 ls [.int (-5)]) rfl ?_
              have E : cy_oPut nt τ (nI kx) i (nI ko) = ((-5), cy_no (cy_i τ 0 2 0) (-5)) := by first | (simp [cy_oPut, cy_z, nI_clamp (show kx < 2 ^ 31 by omega), nI_clamp (show ko < 2 ^ 31 by omega), b1, b13, b16, b20, b23]; done) | (simp [cy_oPut, cy_z, nI_clamp (show kx < 2 ^ 31 by omega), nI_clamp (show ko < 2 ^ 31 by omega), b1, b13, b16, b20, b23]; simp [h4]; done) | (simp [cy_oPut, cy_z, nI_clamp (show kx < 2 ^ 31 by omega), nI_clamp (show ko < 2 ^ 31 by omega), b1, b13, b16, b20, b23, h4]; done)
              rw [E]
              exact W.iret (v := (-5)) hx hb hr (fun t ht hW => ⟨(), rfl, by rw [ht]; exact hI, hS.F ht⟩) hS.2.2 dX5_put_93
            · obtain ⟨pi, hpi, epi⟩ := (hok.2.2.1 kx hkx).2.1
              obtain ⟨ji, hji, rfl⟩ := (cy_pl_iff (p := pi) (by omega) _).mp (by rw [← epi]; exact b23)
              refine lv_if_ne (tgt := 94) hx hb dX5_put_84 (by decide) (fun h25 => ?_) (fun h25 => absurd h25 (by decide))
              refine lv_iload_n hx hb dX5_put_94 rfl (lv_at hl 4 rfl) ?_
              refine lv_iconst (v := -1) hx hb dX5_put_95 (by decide) ?_
              refine lv_icmp_eq (tgt := 123) hx hb dX5_put_96 (by decide) (fun h26 => absurd h26 (h4)) (fun h26 => ?_)
              refine lv_aload_n hx hb dX5_put_99 rfl (lv_at hl 1 rfl) ?_
              refine cy_getT (v := .ref (ad 21)) hx hb hts hin5 hown hK hI 1 (by decide) (hts (.fieldLink RX5 7 "CustomsYardModel" "sorts" "[I") (by decide +kernel)) rfl dX5_put_100 ?_
              refine lv_iload_n hx hb dX5_put_103 rfl (lv_at hl 4 rfl) ?_
              refine cy_iald (f := τ.1 1) (k := ko) hx hb hK.1 hI 0 (x := 21) rfl rfl (by omega) (by decide) dX5_put_104 ?_
              refine lv_iload hx hb dX5_put_105 (lv_at hl 0 rfl) ?_
              refine cy_callp (v := .int (cy_ha (τ.1 1 kx))) (va_runS (As := [.int (τ.1 1 kx)]) (rest := [.int (τ.1 1 ko)]) ⟨hx, hb, hml, hown, hts⟩ (c_X5_had l (τ.1 1 kx)) (va_cwS 1 hts gX5_put_X5_had rfl rfl rfl (by decide +kernel) ⟨Nat.le_of_ble_eq_true rfl, Nat.le_of_ble_eq_true rfl⟩) preEq rfl rfl hl.1 rfl (lv_room (Nat.le_of_ble_eq_true rfl)) dX5_put_107 ⟨Nat.le_of_ble_eq_true rfl, Nat.le_of_ble_eq_true rfl⟩) ?_
              refine cy_callp (v := .int (cy_b (cy_go (τ.1 1 ko) (cy_ha (τ.1 1 kx))))) (va_runS (As := [.int (τ.1 1 ko), .int (cy_ha (τ.1 1 kx))]) (rest := []) ⟨hx, hb, hml, hown, hts⟩ (c_X5_goes l (τ.1 1 ko) (cy_ha (τ.1 1 kx))) (va_cwS 2 hts gX5_put_X5_goes rfl rfl rfl (by decide +kernel) ⟨Nat.le_of_ble_eq_true rfl, Nat.le_of_ble_eq_true rfl⟩) preEq rfl rfl hl.1 rfl (lv_room (Nat.le_of_ble_eq_true rfl)) dX5_put_110 ⟨Nat.le_of_ble_eq_true rfl, Nat.le_of_ble_eq_true rfl⟩) ?_
              cases b27 : (cy_go (τ.1 1 ko) (cy_ha (τ.1 1 kx)))
              · refine lv_if_ne (tgt := 123) hx hb dX5_put_113 (by decide) (fun h28 => absurd (by decide) h28) (fun h28 => ?_)
                refine lv_aload_n hx hb dX5_put_116 rfl (lv_at hl 1 rfl) ?_
                refine lv_bipush (v := -6) hx hb dX5_put_117 (by decide) ?_
                refine cy_callm (va_runV (As := [.int (-6)]) (rest := []) ⟨hx, hb, hml, hown, hts⟩ (c_X5_no l D cI cJ cO z n na σ (cy_i τ 0 2 0) pl hi ad (-6)) (cwV 1 hts gX5_put_X5_no rfl rfl rfl (by decide +kernel) ⟨Nat.le_of_ble_eq_true rfl, Nat.le_of_ble_eq_true rfl⟩) (cy_preV hK hI (cy_recv hK (hI.1 20 _ cy_CR).1 rfl)) rfl rfl hl.1 rfl (lv_room (Nat.le_of_ble_eq_true rfl)) dX5_put_119 ⟨Nat.le_of_ble_eq_true rfl, Nat.le_of_ble_eq_true rfl⟩) hS (fun u H locs hI hz hS => ?_)
                have hI : cy_W D z (cy_CT cI cJ cO n na σ (cy_no (cy_i τ 0 2 0) (-6)) pl hi ad) ad H := hI
                refine W.eq (g2 := F0 m 122 ls [.int (-6)]) rfl ?_
                have E : cy_oPut nt τ (nI kx) (nI ji) (nI ko) = ((-6), cy_no (cy_i τ 0 2 0) (-6)) := by first | (simp [cy_oPut, cy_z, nI_clamp (show kx < 2 ^ 31 by omega), nI_clamp (show ko < 2 ^ 31 by omega), nI_clamp (show ji < 2 ^ 31 by omega), b1, b13, b16, b20, b23, b27]; done) | (simp [cy_oPut, cy_z, nI_clamp (show kx < 2 ^ 31 by omega), nI_clamp (show ko < 2 ^ 31 by omega), nI_clamp (show ji < 2 ^ 31 by omega), b1, b13, b16, b20, b23, b27]; simp [h4]; done) | (simp [cy_oPut, cy_z, nI_clamp (show kx < 2 ^ 31 by omega), nI_clamp (show ko < 2 ^ 31 by omega), nI_clamp (show ji < 2 ^ 31 by omega), b1, b13, b16, b20, b23, b27, h4]; done)
                rw [E]
                exact W.iret (v := (-6)) hx hb hr (fun t ht hW => ⟨(), rfl, by rw [ht]; exact hI, hS.F ht⟩) hS.2.2 dX5_put_122
              · refine lv_if_ne (tgt := 123) hx hb dX5_put_113 (by decide) (fun h29 => ?_) (fun h29 => absurd h29 (by decide))
                refine lv_aload_n hx hb dX5_put_123 rfl (lv_at hl 1 rfl) ?_
                refine cy_getT (v := .ref (ad 25)) hx hb hts hin5 hown hK hI 5 (by decide) (hts (.fieldLink RX5 23 "CustomsYardModel" "things" "[I") (by decide +kernel)) rfl dX5_put_124 ?_
                refine lv_bipush (v := 6) hx hb dX5_put_127 (by decide) ?_
                refine lv_iload_n hx hb dX5_put_129 rfl (lv_at hl 2 rfl) ?_
                refine lv_imul hx hb dX5_put_130 ?_
                refine lv_iload_n hx hb dX5_put_131 rfl (lv_at hl 3 rfl) ?_
                refine lv_iadd hx hb dX5_put_132 ?_
                refine cy_topi (y := nI (6 * kx + ji)) (cy_ix kx ji) ?_
                refine lv_iload_n hx hb dX5_put_133 rfl (lv_at hl 4 rfl) ?_
                refine cy_stT5 (k := (6 * kx + ji)) (v := nI ko) hx hb hK hI hS (by omega) dX5_put_134 (fun H locs hI hS => ?_)
                refine lv_iconst (v := 1) hx hb dX5_put_135 (by decide) ?_
                have E : cy_oPut nt τ (nI kx) (nI ji) (nI ko) = (1, cy_i (cy_i τ 0 2 0) 4 (6 * kx + ji) (nI ko)) := by first | (simp [cy_oPut, cy_z, nI_clamp (show kx < 2 ^ 31 by omega), nI_clamp (show ko < 2 ^ 31 by omega), nI_clamp (show ji < 2 ^ 31 by omega), b1, b13, b16, b20, b23, b27]; done) | (simp [cy_oPut, cy_z, nI_clamp (show kx < 2 ^ 31 by omega), nI_clamp (show ko < 2 ^ 31 by omega), nI_clamp (show ji < 2 ^ 31 by omega), b1, b13, b16, b20, b23, b27]; simp [h4]; done) | (simp [cy_oPut, cy_z, nI_clamp (show kx < 2 ^ 31 by omega), nI_clamp (show ko < 2 ^ 31 by omega), nI_clamp (show ji < 2 ^ 31 by omega), b1, b13, b16, b20, b23, b27, h4]; done)
                rw [E]
                exact W.iret (v := 1) hx hb hr (fun t ht hW => ⟨(), rfl, by rw [ht]; exact hI, hS.F ht⟩) hS.2.2 dX5_put_136

set_option maxHeartbeats 4000000 in
set_option maxRecDepth 100000 in
theorem c_X5_at (l : Launch) (D : va_G) (cI cJ cO : ClassId) (z n na : Nat) (σ τ : cy_S) (pl : Nat → Int32) (hi : Int32) (ad : Nat → Nat) (nt : Nat) (hok : cy_ok nt τ) (x i : Int32)  : Met l yX5_at wsX5_at { frames := 2, cells := 0, slots := 0, locals := 44 } (cy_P D cI cJ cO (fun H => cy_W D z (cy_CT cI cJ cO n na σ τ pl hi ad) ad H) [.ref (ad 20), .int x, .int i]) (cy_M (S := Unit) z (fun _ => some (.int (cy_oAt nt τ x i).1)) (fun _ H => cy_W D z (cy_CT cI cJ cO n na σ (cy_oAt nt τ x i).2 pl hi ad) ad H)) 0 0 (fun q => z ≤ q) := by
  refine Met.ofW (cc := cX5_at) (maxL := 3) (ret := (some .int)) (by decide) rfl ?_
  intro p e s m args below meth c s₁ B hml hv
  obtain ⟨rfl, hK, hI⟩ := hv
  have hx := B.exec
  have hb := B.bytes
  have hr := B.returns
  have hts := atoms_spec (ws := wsX5_at) B.pre
  have hown : s.vm.findClass RX5 = some m.cls := findClass_of_methodNamed B.named
  have hlocks := B.notSynchronized
  have hS : va_S (fun q => z ≤ q) s.heap s.heap [] := va_S.rf
  have hl := lv_entry ([.ref (ad 20), .int x, .int i]) (n := 3) (Nat.le_of_ble_eq_true rfl)
  rw [lg_entry_eq]
  generalize (lg_sl ([.ref (ad 20), .int x, .int i]) ++ List.replicate (3 - (lg_sl ([.ref (ad 20), .int x, .int i])).length) Slot.unset).toArray = ls at hl ⊢
  have hl : lv_has ls 3 [(0, .ref (ad 20)), (1, .int x), (2, .int i)] := hl
  have hin5 := hin5_X5_at
  have h0 := hok.2.1
  have hn := hok.1
  refine lv_aload_n hx hb dX5_at_0 rfl (lv_at hl 0 rfl) ?_
  refine lv_iconst (v := 0) hx hb dX5_at_1 (by decide) ?_
  refine cy_putT (v := 0) hx hb hts hin5 hown hK hI hS 12 2 (by decide) (hts (.fieldLink RX5 52 "CustomsYardModel" "refused" "I") (by decide +kernel)) rfl (by decide +kernel) rfl dX5_at_2 (fun H locs hI hS => ?_)
  refine lv_aload_n hx hb dX5_at_5 rfl (lv_at hl 0 rfl) ?_
  refine lv_iload_n hx hb dX5_at_6 rfl (lv_at hl 1 rfl) ?_
  refine cy_callp (v := .int (cy_b (cy_ld nt x))) (va_runV (As := [.int x]) (rest := []) ⟨hx, hb, hml, hown, hts⟩ (c_X5_isLoad l D cI cJ cO z n na σ (cy_i τ 0 2 0) pl hi ad nt h0 x) (cwV 1 hts gX5_at_X5_isLoad rfl rfl rfl (by decide +kernel) ⟨Nat.le_of_ble_eq_true rfl, Nat.le_of_ble_eq_true rfl⟩) (cy_preV hK hI (cy_recv hK (hI.1 20 _ cy_CR).1 rfl)) rfl rfl hl.1 rfl (lv_room (Nat.le_of_ble_eq_true rfl)) dX5_at_7 ⟨Nat.le_of_ble_eq_true rfl, Nat.le_of_ble_eq_true rfl⟩) ?_
  cases b1 : (cy_ld nt x)
  · refine lv_if_ne (tgt := 20) hx hb dX5_at_10 (by decide) (fun h2 => absurd (by decide) h2) (fun h2 => ?_)
    refine lv_aload_n hx hb dX5_at_13 rfl (lv_at hl 0 rfl) ?_
    refine lv_bipush (v := -2) hx hb dX5_at_14 (by decide) ?_
    refine cy_callm (va_runV (As := [.int (-2)]) (rest := []) ⟨hx, hb, hml, hown, hts⟩ (c_X5_no l D cI cJ cO z n na σ (cy_i τ 0 2 0) pl hi ad (-2)) (cwV 1 hts gX5_at_X5_no rfl rfl rfl (by decide +kernel) ⟨Nat.le_of_ble_eq_true rfl, Nat.le_of_ble_eq_true rfl⟩) (cy_preV hK hI (cy_recv hK (hI.1 20 _ cy_CR).1 rfl)) rfl rfl hl.1 rfl (lv_room (Nat.le_of_ble_eq_true rfl)) dX5_at_16 ⟨Nat.le_of_ble_eq_true rfl, Nat.le_of_ble_eq_true rfl⟩) hS (fun u H locs hI hz hS => ?_)
    have hI : cy_W D z (cy_CT cI cJ cO n na σ (cy_no (cy_i τ 0 2 0) (-2)) pl hi ad) ad H := hI
    refine W.eq (g2 := F0 m 19 ls [.int (-2)]) rfl ?_
    have E : cy_oAt nt τ x i = ((-2), cy_no (cy_i τ 0 2 0) (-2)) := by simp [cy_oAt, cy_z, b1]
    rw [E]
    exact W.iret (v := (-2)) hx hb hr (fun t ht hW => ⟨(), rfl, by rw [ht]; exact hI, hS.F ht⟩) hS.2.2 dX5_at_19
  · obtain ⟨kx, hkx, rfl⟩ := (cy_ld_iff hn _).mp b1
    refine lv_if_ne (tgt := 20) hx hb dX5_at_10 (by decide) (fun h3 => ?_) (fun h3 => absurd h3 (by decide))
    refine lv_aload_n hx hb dX5_at_20 rfl (lv_at hl 0 rfl) ?_
    refine cy_getT (v := .ref (ad 21)) hx hb hts hin5 hown hK hI 1 (by decide) (hts (.fieldLink RX5 7 "CustomsYardModel" "sorts" "[I") (by decide +kernel)) rfl dX5_at_21 ?_
    refine lv_iload_n hx hb dX5_at_24 rfl (lv_at hl 1 rfl) ?_
    refine cy_iald (f := τ.1 1) (k := kx) hx hb hK.1 hI 0 (x := 21) rfl rfl (by omega) (by decide) dX5_at_25 ?_
    refine cy_callp (v := .int (cy_b (cy_th (τ.1 1 kx)))) (va_runS (As := [.int (τ.1 1 kx)]) (rest := []) ⟨hx, hb, hml, hown, hts⟩ (c_X5_isOfThings l (τ.1 1 kx)) (va_cwS 1 hts gX5_at_X5_isOfThings rfl rfl rfl (by decide +kernel) ⟨Nat.le_of_ble_eq_true rfl, Nat.le_of_ble_eq_true rfl⟩) preEq rfl rfl hl.1 rfl (lv_room (Nat.le_of_ble_eq_true rfl)) dX5_at_26 ⟨Nat.le_of_ble_eq_true rfl, Nat.le_of_ble_eq_true rfl⟩) ?_
    cases b4 : (cy_th (τ.1 1 kx))
    · refine lv_if_ne (tgt := 39) hx hb dX5_at_29 (by decide) (fun h5 => absurd (by decide) h5) (fun h5 => ?_)
      refine lv_aload_n hx hb dX5_at_32 rfl (lv_at hl 0 rfl) ?_
      refine lv_bipush (v := -4) hx hb dX5_at_33 (by decide) ?_
      refine cy_callm (va_runV (As := [.int (-4)]) (rest := []) ⟨hx, hb, hml, hown, hts⟩ (c_X5_no l D cI cJ cO z n na σ (cy_i τ 0 2 0) pl hi ad (-4)) (cwV 1 hts gX5_at_X5_no rfl rfl rfl (by decide +kernel) ⟨Nat.le_of_ble_eq_true rfl, Nat.le_of_ble_eq_true rfl⟩) (cy_preV hK hI (cy_recv hK (hI.1 20 _ cy_CR).1 rfl)) rfl rfl hl.1 rfl (lv_room (Nat.le_of_ble_eq_true rfl)) dX5_at_35 ⟨Nat.le_of_ble_eq_true rfl, Nat.le_of_ble_eq_true rfl⟩) hS (fun u H locs hI hz hS => ?_)
      have hI : cy_W D z (cy_CT cI cJ cO n na σ (cy_no (cy_i τ 0 2 0) (-4)) pl hi ad) ad H := hI
      refine W.eq (g2 := F0 m 38 ls [.int (-4)]) rfl ?_
      have E : cy_oAt nt τ (nI kx) i = ((-4), cy_no (cy_i τ 0 2 0) (-4)) := by simp [cy_oAt, cy_z, nI_clamp (show kx < 2 ^ 31 by omega), b1, b4]
      rw [E]
      exact W.iret (v := (-4)) hx hb hr (fun t ht hW => ⟨(), rfl, by rw [ht]; exact hI, hS.F ht⟩) hS.2.2 dX5_at_38
    · refine lv_if_ne (tgt := 39) hx hb dX5_at_29 (by decide) (fun h6 => ?_) (fun h6 => absurd h6 (by decide))
      refine lv_aload_n hx hb dX5_at_39 rfl (lv_at hl 0 rfl) ?_
      refine lv_iload_n hx hb dX5_at_40 rfl (lv_at hl 1 rfl) ?_
      refine lv_iload_n hx hb dX5_at_41 rfl (lv_at hl 2 rfl) ?_
      refine cy_callp (v := .int (cy_b (cy_pl (τ.1 2 kx) i))) (va_runV (As := [.int (nI kx), .int i]) (rest := []) ⟨hx, hb, hml, hown, hts⟩ (c_X5_isPlace l D cI cJ cO z n na σ (cy_i τ 0 2 0) pl hi ad kx (by omega) i) (cwV 2 hts gX5_at_X5_isPlace rfl rfl rfl (by decide +kernel) ⟨Nat.le_of_ble_eq_true rfl, Nat.le_of_ble_eq_true rfl⟩) (cy_preV hK hI (cy_recv hK (hI.1 20 _ cy_CR).1 rfl)) rfl rfl hl.1 rfl (lv_room (Nat.le_of_ble_eq_true rfl)) dX5_at_42 ⟨Nat.le_of_ble_eq_true rfl, Nat.le_of_ble_eq_true rfl⟩) ?_
      cases b7 : (cy_pl (τ.1 2 kx) i)
      · refine lv_if_eq (tgt := 62) hx hb dX5_at_45 (by decide) (fun h8 => ?_) (fun h8 => absurd (by decide) h8)
        refine lv_aload_n hx hb dX5_at_62 rfl (lv_at hl 0 rfl) ?_
        refine lv_bipush (v := -5) hx hb dX5_at_63 (by decide) ?_
        refine cy_callm (va_runV (As := [.int (-5)]) (rest := []) ⟨hx, hb, hml, hown, hts⟩ (c_X5_no l D cI cJ cO z n na σ (cy_i τ 0 2 0) pl hi ad (-5)) (cwV 1 hts gX5_at_X5_no rfl rfl rfl (by decide +kernel) ⟨Nat.le_of_ble_eq_true rfl, Nat.le_of_ble_eq_true rfl⟩) (cy_preV hK hI (cy_recv hK (hI.1 20 _ cy_CR).1 rfl)) rfl rfl hl.1 rfl (lv_room (Nat.le_of_ble_eq_true rfl)) dX5_at_65 ⟨Nat.le_of_ble_eq_true rfl, Nat.le_of_ble_eq_true rfl⟩) hS (fun u H locs hI hz hS => ?_)
        have hI : cy_W D z (cy_CT cI cJ cO n na σ (cy_no (cy_i τ 0 2 0) (-5)) pl hi ad) ad H := hI
        refine W.eq (g2 := F0 m 68 ls [.int (-5)]) rfl ?_
        have E : cy_oAt nt τ (nI kx) i = ((-5), cy_no (cy_i τ 0 2 0) (-5)) := by simp [cy_oAt, cy_z, nI_clamp (show kx < 2 ^ 31 by omega), b1, b4, b7]
        rw [E]
        exact W.iret (v := (-5)) hx hb hr (fun t ht hW => ⟨(), rfl, by rw [ht]; exact hI, hS.F ht⟩) hS.2.2 dX5_at_68
      · obtain ⟨pi, hpi, epi⟩ := (hok.2.2.1 kx hkx).2.1
        obtain ⟨ji, hji, rfl⟩ := (cy_pl_iff (p := pi) (by omega) _).mp (by rw [← epi]; exact b7)
        refine lv_if_eq (tgt := 62) hx hb dX5_at_45 (by decide) (fun h9 => absurd h9 (by decide)) (fun h9 => ?_)
        refine lv_aload_n hx hb dX5_at_48 rfl (lv_at hl 0 rfl) ?_
        refine cy_getT (v := .ref (ad 25)) hx hb hts hin5 hown hK hI 5 (by decide) (hts (.fieldLink RX5 23 "CustomsYardModel" "things" "[I") (by decide +kernel)) rfl dX5_at_49 ?_
        refine lv_bipush (v := 6) hx hb dX5_at_52 (by decide) ?_
        refine lv_iload_n hx hb dX5_at_54 rfl (lv_at hl 1 rfl) ?_
        refine lv_imul hx hb dX5_at_55 ?_
        refine lv_iload_n hx hb dX5_at_56 rfl (lv_at hl 2 rfl) ?_
        refine lv_iadd hx hb dX5_at_57 ?_
        refine cy_topi (y := nI (6 * kx + ji)) (cy_ix kx ji) ?_
        refine cy_iald (f := τ.1 4) (k := (6 * kx + ji)) hx hb hK.1 hI 0 (x := 25) rfl rfl (by omega) (by decide) dX5_at_58 ?_
        refine lv_goto (tgt := 68) hx hb dX5_at_59 (by decide) ?_
        have E : cy_oAt nt τ (nI kx) (nI ji) = (τ.1 4 (6 * kx + ji), cy_i τ 0 2 0) := by simp [cy_oAt, cy_z, nI_clamp (show kx < 2 ^ 31 by omega), nI_clamp (show ji < 2 ^ 31 by omega), b1, b4, b7]
        rw [E]
        exact W.iret (v := τ.1 4 (6 * kx + ji)) hx hb hr (fun t ht hW => ⟨(), rfl, by rw [ht]; exact hI, hS.F ht⟩) hS.2.2 dX5_at_68

set_option maxHeartbeats 4000000 in
set_option maxRecDepth 100000 in
theorem c_X5_is (l : Launch) (D : va_G) (cI cJ cO : ClassId) (z n na : Nat) (σ τ : cy_S) (pl : Nat → Int32) (hi : Int32) (ad : Nat → Nat) (nt : Nat) (hok : cy_ok nt τ) (x v : Int32)  : Met l yX5_is wsX5_is { frames := 2, cells := 0, slots := 0, locals := 43 } (cy_P D cI cJ cO (fun H => cy_W D z (cy_CT cI cJ cO n na σ τ pl hi ad) ad H) [.ref (ad 20), .int x, .int v]) (cy_M (S := Unit) z (fun _ => some (.int (cy_oIs nt τ x v).1)) (fun _ H => cy_W D z (cy_CT cI cJ cO n na σ (cy_oIs nt τ x v).2 pl hi ad) ad H)) 0 0 (fun q => z ≤ q) := by
  refine Met.ofW (cc := cX5_is) (maxL := 3) (ret := (some .int)) (by decide) rfl ?_
  intro p e s m args below meth c s₁ B hml hv
  obtain ⟨rfl, hK, hI⟩ := hv
  have hx := B.exec
  have hb := B.bytes
  have hr := B.returns
  have hts := atoms_spec (ws := wsX5_is) B.pre
  have hown : s.vm.findClass RX5 = some m.cls := findClass_of_methodNamed B.named
  have hlocks := B.notSynchronized
  have hS : va_S (fun q => z ≤ q) s.heap s.heap [] := va_S.rf
  have hl := lv_entry ([.ref (ad 20), .int x, .int v]) (n := 3) (Nat.le_of_ble_eq_true rfl)
  rw [lg_entry_eq]
  generalize (lg_sl ([.ref (ad 20), .int x, .int v]) ++ List.replicate (3 - (lg_sl ([.ref (ad 20), .int x, .int v])).length) Slot.unset).toArray = ls at hl ⊢
  have hl : lv_has ls 3 [(0, .ref (ad 20)), (1, .int x), (2, .int v)] := hl
  have hin5 := hin5_X5_is
  have h0 := hok.2.1
  have hn := hok.1
  refine lv_aload_n hx hb dX5_is_0 rfl (lv_at hl 0 rfl) ?_
  refine lv_iconst (v := 0) hx hb dX5_is_1 (by decide) ?_
  refine cy_putT (v := 0) hx hb hts hin5 hown hK hI hS 12 2 (by decide) (hts (.fieldLink RX5 52 "CustomsYardModel" "refused" "I") (by decide +kernel)) rfl (by decide +kernel) rfl dX5_is_2 (fun H locs hI hS => ?_)
  refine lv_aload_n hx hb dX5_is_5 rfl (lv_at hl 0 rfl) ?_
  refine lv_iload_n hx hb dX5_is_6 rfl (lv_at hl 1 rfl) ?_
  refine cy_callp (v := .int (cy_b (cy_ld nt x))) (va_runV (As := [.int x]) (rest := []) ⟨hx, hb, hml, hown, hts⟩ (c_X5_isLoad l D cI cJ cO z n na σ (cy_i τ 0 2 0) pl hi ad nt h0 x) (cwV 1 hts gX5_is_X5_isLoad rfl rfl rfl (by decide +kernel) ⟨Nat.le_of_ble_eq_true rfl, Nat.le_of_ble_eq_true rfl⟩) (cy_preV hK hI (cy_recv hK (hI.1 20 _ cy_CR).1 rfl)) rfl rfl hl.1 rfl (lv_room (Nat.le_of_ble_eq_true rfl)) dX5_is_7 ⟨Nat.le_of_ble_eq_true rfl, Nat.le_of_ble_eq_true rfl⟩) ?_
  cases b1 : (cy_ld nt x)
  · refine lv_if_eq (tgt := 20) hx hb dX5_is_10 (by decide) (fun h2 => ?_) (fun h2 => absurd (by decide) h2)
    refine lv_aload_n hx hb dX5_is_20 rfl (lv_at hl 0 rfl) ?_
    refine lv_bipush (v := -2) hx hb dX5_is_21 (by decide) ?_
    refine cy_callm (va_runV (As := [.int (-2)]) (rest := []) ⟨hx, hb, hml, hown, hts⟩ (c_X5_no l D cI cJ cO z n na σ (cy_i τ 0 2 0) pl hi ad (-2)) (cwV 1 hts gX5_is_X5_no rfl rfl rfl (by decide +kernel) ⟨Nat.le_of_ble_eq_true rfl, Nat.le_of_ble_eq_true rfl⟩) (cy_preV hK hI (cy_recv hK (hI.1 20 _ cy_CR).1 rfl)) rfl rfl hl.1 rfl (lv_room (Nat.le_of_ble_eq_true rfl)) dX5_is_23 ⟨Nat.le_of_ble_eq_true rfl, Nat.le_of_ble_eq_true rfl⟩) hS (fun u H locs hI hz hS => ?_)
    have hI : cy_W D z (cy_CT cI cJ cO n na σ (cy_no (cy_i τ 0 2 0) (-2)) pl hi ad) ad H := hI
    refine W.eq (g2 := F0 m 26 ls [.int (-2)]) rfl ?_
    have E : cy_oIs nt τ x v = ((-2), cy_no (cy_i τ 0 2 0) (-2)) := by simp [cy_oIs, cy_z, cy_b, b1]
    rw [E]
    exact W.iret (v := (-2)) hx hb hr (fun t ht hW => ⟨(), rfl, by rw [ht]; exact hI, hS.F ht⟩) hS.2.2 dX5_is_26
  · obtain ⟨kx, hkx, rfl⟩ := (cy_ld_iff hn _).mp b1
    refine lv_if_eq (tgt := 20) hx hb dX5_is_10 (by decide) (fun h3 => absurd h3 (by decide)) (fun h3 => ?_)
    refine lv_iload_n hx hb dX5_is_13 rfl (lv_at hl 2 rfl) ?_
    refine cy_callp (v := .int (cy_b (cy_vw v))) (va_runS (As := [.int v]) (rest := []) ⟨hx, hb, hml, hown, hts⟩ (c_X5_isView l v) (va_cwS 1 hts gX5_is_X5_isView rfl rfl rfl (by decide +kernel) ⟨Nat.le_of_ble_eq_true rfl, Nat.le_of_ble_eq_true rfl⟩) preEq rfl rfl hl.1 rfl (lv_room (Nat.le_of_ble_eq_true rfl)) dX5_is_14 ⟨Nat.le_of_ble_eq_true rfl, Nat.le_of_ble_eq_true rfl⟩) ?_
    cases b4 : (cy_vw v)
    · refine lv_if_ne (tgt := 27) hx hb dX5_is_17 (by decide) (fun h5 => absurd (by decide) h5) (fun h5 => ?_)
      refine lv_aload_n hx hb dX5_is_20 rfl (lv_at hl 0 rfl) ?_
      refine lv_bipush (v := -2) hx hb dX5_is_21 (by decide) ?_
      refine cy_callm (va_runV (As := [.int (-2)]) (rest := []) ⟨hx, hb, hml, hown, hts⟩ (c_X5_no l D cI cJ cO z n na σ (cy_i τ 0 2 0) pl hi ad (-2)) (cwV 1 hts gX5_is_X5_no rfl rfl rfl (by decide +kernel) ⟨Nat.le_of_ble_eq_true rfl, Nat.le_of_ble_eq_true rfl⟩) (cy_preV hK hI (cy_recv hK (hI.1 20 _ cy_CR).1 rfl)) rfl rfl hl.1 rfl (lv_room (Nat.le_of_ble_eq_true rfl)) dX5_is_23 ⟨Nat.le_of_ble_eq_true rfl, Nat.le_of_ble_eq_true rfl⟩) hS (fun u H locs hI hz hS => ?_)
      have hI : cy_W D z (cy_CT cI cJ cO n na σ (cy_no (cy_i τ 0 2 0) (-2)) pl hi ad) ad H := hI
      refine W.eq (g2 := F0 m 26 ls [.int (-2)]) rfl ?_
      have E : cy_oIs nt τ (nI kx) v = ((-2), cy_no (cy_i τ 0 2 0) (-2)) := by simp [cy_oIs, cy_z, cy_b, nI_clamp (show kx < 2 ^ 31 by omega), b1, b4]
      rw [E]
      exact W.iret (v := (-2)) hx hb hr (fun t ht hW => ⟨(), rfl, by rw [ht]; exact hI, hS.F ht⟩) hS.2.2 dX5_is_26
    · refine lv_if_ne (tgt := 27) hx hb dX5_is_17 (by decide) (fun h6 => ?_) (fun h6 => absurd h6 (by decide))
      refine lv_aload_n hx hb dX5_is_27 rfl (lv_at hl 0 rfl) ?_
      refine cy_getT (v := .ref (ad 21)) hx hb hts hin5 hown hK hI 1 (by decide) (hts (.fieldLink RX5 7 "CustomsYardModel" "sorts" "[I") (by decide +kernel)) rfl dX5_is_28 ?_
      refine lv_iload_n hx hb dX5_is_31 rfl (lv_at hl 1 rfl) ?_
      refine cy_iald (f := τ.1 1) (k := kx) hx hb hK.1 hI 0 (x := 21) rfl rfl (by omega) (by decide) dX5_is_32 ?_
      refine lv_iload_n hx hb dX5_is_33 rfl (lv_at hl 2 rfl) ?_
      refine cy_callp (v := .int (cy_b (cy_go (τ.1 1 kx) v))) (va_runS (As := [.int (τ.1 1 kx), .int v]) (rest := []) ⟨hx, hb, hml, hown, hts⟩ (c_X5_goes l (τ.1 1 kx) v) (va_cwS 2 hts gX5_is_X5_goes rfl rfl rfl (by decide +kernel) ⟨Nat.le_of_ble_eq_true rfl, Nat.le_of_ble_eq_true rfl⟩) preEq rfl rfl hl.1 rfl (lv_room (Nat.le_of_ble_eq_true rfl)) dX5_is_34 ⟨Nat.le_of_ble_eq_true rfl, Nat.le_of_ble_eq_true rfl⟩) ?_
      cases b7 : (cy_go (τ.1 1 kx) v)
      · refine lv_if_eq (tgt := 44) hx hb dX5_is_37 (by decide) (fun h8 => ?_) (fun h8 => absurd (by decide) h8)
        refine lv_iconst (v := 0) hx hb dX5_is_44 (by decide) ?_
        have E : cy_oIs nt τ (nI kx) v = (0, cy_i τ 0 2 0) := by simp [cy_oIs, cy_z, cy_b, nI_clamp (show kx < 2 ^ 31 by omega), b1, b4, b7]
        rw [E]
        exact W.iret (v := 0) hx hb hr (fun t ht hW => ⟨(), rfl, by rw [ht]; exact hI, hS.F ht⟩) hS.2.2 dX5_is_45
      · refine lv_if_eq (tgt := 44) hx hb dX5_is_37 (by decide) (fun h9 => absurd h9 (by decide)) (fun h9 => ?_)
        refine lv_iconst (v := 1) hx hb dX5_is_40 (by decide) ?_
        refine lv_goto (tgt := 45) hx hb dX5_is_41 (by decide) ?_
        have E : cy_oIs nt τ (nI kx) v = (1, cy_i τ 0 2 0) := by simp [cy_oIs, cy_z, cy_b, nI_clamp (show kx < 2 ^ 31 by omega), b1, b4, b7]
        rw [E]
        exact W.iret (v := 1) hx hb hr (fun t ht hW => ⟨(), rfl, by rw [ht]; exact hI, hS.F ht⟩) hS.2.2 dX5_is_45

set_option maxHeartbeats 4000000 in
set_option maxRecDepth 100000 in
theorem c_X5_take (l : Launch) (D : va_G) (cI cJ cO : ClassId) (z n na : Nat) (σ τ : cy_S) (pl : Nat → Int32) (hi : Int32) (ad : Nat → Nat) (nt : Nat) (hok : cy_ok nt τ) (x v : Int32)  : Met l yX5_take wsX5_take { frames := 3, cells := 0, slots := 0, locals := 64 } (cy_P D cI cJ cO (fun H => cy_W D z (cy_CT cI cJ cO n na σ τ pl hi ad) ad H) [.ref (ad 20), .int x, .int v]) (cy_M (S := Unit) z (fun _ => some (.int (cy_oTake nt τ x v).1)) (fun _ H => cy_W D z (cy_CT cI cJ cO n na σ (cy_oTake nt τ x v).2 pl hi ad) ad H)) 0 0 (fun q => z ≤ q) := by
  refine Met.ofW (cc := cX5_take) (maxL := 3) (ret := (some .int)) (by decide) rfl ?_
  intro p e s m args below meth c s₁ B hml hv
  obtain ⟨rfl, hK, hI⟩ := hv
  have hx := B.exec
  have hb := B.bytes
  have hr := B.returns
  have hts := atoms_spec (ws := wsX5_take) B.pre
  have hown : s.vm.findClass RX5 = some m.cls := findClass_of_methodNamed B.named
  have hlocks := B.notSynchronized
  have hS : va_S (fun q => z ≤ q) s.heap s.heap [] := va_S.rf
  have hl := lv_entry ([.ref (ad 20), .int x, .int v]) (n := 3) (Nat.le_of_ble_eq_true rfl)
  rw [lg_entry_eq]
  generalize (lg_sl ([.ref (ad 20), .int x, .int v]) ++ List.replicate (3 - (lg_sl ([.ref (ad 20), .int x, .int v])).length) Slot.unset).toArray = ls at hl ⊢
  have hl : lv_has ls 3 [(0, .ref (ad 20)), (1, .int x), (2, .int v)] := hl
  have hin5 := hin5_X5_take
  have h0 := hok.2.1
  have hn := hok.1
  refine lv_aload_n hx hb dX5_take_0 rfl (lv_at hl 0 rfl) ?_
  refine lv_iconst (v := 0) hx hb dX5_take_1 (by decide) ?_
  refine cy_putT (v := 0) hx hb hts hin5 hown hK hI hS 12 2 (by decide) (hts (.fieldLink RX5 52 "CustomsYardModel" "refused" "I") (by decide +kernel)) rfl (by decide +kernel) rfl dX5_take_2 (fun H locs hI hS => ?_)
  refine lv_aload_n hx hb dX5_take_5 rfl (lv_at hl 0 rfl) ?_
  refine lv_iload_n hx hb dX5_take_6 rfl (lv_at hl 1 rfl) ?_
  refine cy_callp (v := .int (cy_b (cy_ld nt x))) (va_runV (As := [.int x]) (rest := []) ⟨hx, hb, hml, hown, hts⟩ (c_X5_isLoad l D cI cJ cO z n na σ (cy_i τ 0 2 0) pl hi ad nt h0 x) (cwV 1 hts gX5_take_X5_isLoad rfl rfl rfl (by decide +kernel) ⟨Nat.le_of_ble_eq_true rfl, Nat.le_of_ble_eq_true rfl⟩) (cy_preV hK hI (cy_recv hK (hI.1 20 _ cy_CR).1 rfl)) rfl rfl hl.1 rfl (lv_room (Nat.le_of_ble_eq_true rfl)) dX5_take_7 ⟨Nat.le_of_ble_eq_true rfl, Nat.le_of_ble_eq_true rfl⟩) ?_
  cases b1 : (cy_ld nt x)
  · refine lv_if_eq (tgt := 20) hx hb dX5_take_10 (by decide) (fun h2 => ?_) (fun h2 => absurd (by decide) h2)
    refine lv_aload_n hx hb dX5_take_20 rfl (lv_at hl 0 rfl) ?_
    refine lv_bipush (v := -2) hx hb dX5_take_21 (by decide) ?_
    refine cy_callm (va_runV (As := [.int (-2)]) (rest := []) ⟨hx, hb, hml, hown, hts⟩ (c_X5_no l D cI cJ cO z n na σ (cy_i τ 0 2 0) pl hi ad (-2)) (cwV 1 hts gX5_take_X5_no rfl rfl rfl (by decide +kernel) ⟨Nat.le_of_ble_eq_true rfl, Nat.le_of_ble_eq_true rfl⟩) (cy_preV hK hI (cy_recv hK (hI.1 20 _ cy_CR).1 rfl)) rfl rfl hl.1 rfl (lv_room (Nat.le_of_ble_eq_true rfl)) dX5_take_23 ⟨Nat.le_of_ble_eq_true rfl, Nat.le_of_ble_eq_true rfl⟩) hS (fun u H locs hI hz hS => ?_)
    have hI : cy_W D z (cy_CT cI cJ cO n na σ (cy_no (cy_i τ 0 2 0) (-2)) pl hi ad) ad H := hI
    refine W.eq (g2 := F0 m 26 ls [.int (-2)]) rfl ?_
    have E : cy_oTake nt τ x v = ((-2), cy_no (cy_i τ 0 2 0) (-2)) := by simp [cy_oTake, cy_z, cy_co_z, b1]
    rw [E]
    exact W.iret (v := (-2)) hx hb hr (fun t ht hW => ⟨(), rfl, by rw [ht]; exact hI, hS.F ht⟩) hS.2.2 dX5_take_26
  · obtain ⟨kx, hkx, rfl⟩ := (cy_ld_iff hn _).mp b1
    refine lv_if_eq (tgt := 20) hx hb dX5_take_10 (by decide) (fun h3 => absurd h3 (by decide)) (fun h3 => ?_)
    refine lv_iload_n hx hb dX5_take_13 rfl (lv_at hl 2 rfl) ?_
    refine cy_callp (v := .int (cy_b (cy_vw v))) (va_runS (As := [.int v]) (rest := []) ⟨hx, hb, hml, hown, hts⟩ (c_X5_isView l v) (va_cwS 1 hts gX5_take_X5_isView rfl rfl rfl (by decide +kernel) ⟨Nat.le_of_ble_eq_true rfl, Nat.le_of_ble_eq_true rfl⟩) preEq rfl rfl hl.1 rfl (lv_room (Nat.le_of_ble_eq_true rfl)) dX5_take_14 ⟨Nat.le_of_ble_eq_true rfl, Nat.le_of_ble_eq_true rfl⟩) ?_
    cases b4 : (cy_vw v)
    · refine lv_if_ne (tgt := 27) hx hb dX5_take_17 (by decide) (fun h5 => absurd (by decide) h5) (fun h5 => ?_)
      refine lv_aload_n hx hb dX5_take_20 rfl (lv_at hl 0 rfl) ?_
      refine lv_bipush (v := -2) hx hb dX5_take_21 (by decide) ?_
      refine cy_callm (va_runV (As := [.int (-2)]) (rest := []) ⟨hx, hb, hml, hown, hts⟩ (c_X5_no l D cI cJ cO z n na σ (cy_i τ 0 2 0) pl hi ad (-2)) (cwV 1 hts gX5_take_X5_no rfl rfl rfl (by decide +kernel) ⟨Nat.le_of_ble_eq_true rfl, Nat.le_of_ble_eq_true rfl⟩) (cy_preV hK hI (cy_recv hK (hI.1 20 _ cy_CR).1 rfl)) rfl rfl hl.1 rfl (lv_room (Nat.le_of_ble_eq_true rfl)) dX5_take_23 ⟨Nat.le_of_ble_eq_true rfl, Nat.le_of_ble_eq_true rfl⟩) hS (fun u H locs hI hz hS => ?_)
      have hI : cy_W D z (cy_CT cI cJ cO n na σ (cy_no (cy_i τ 0 2 0) (-2)) pl hi ad) ad H := hI
      refine W.eq (g2 := F0 m 26 ls [.int (-2)]) rfl ?_
      have E : cy_oTake nt τ (nI kx) v = ((-2), cy_no (cy_i τ 0 2 0) (-2)) := by simp [cy_oTake, cy_z, cy_co_z, nI_clamp (show kx < 2 ^ 31 by omega), b1, b4]
      rw [E]
      exact W.iret (v := (-2)) hx hb hr (fun t ht hW => ⟨(), rfl, by rw [ht]; exact hI, hS.F ht⟩) hS.2.2 dX5_take_26
    · refine lv_if_ne (tgt := 27) hx hb dX5_take_17 (by decide) (fun h6 => ?_) (fun h6 => absurd h6 (by decide))
      refine lv_aload_n hx hb dX5_take_27 rfl (lv_at hl 0 rfl) ?_
      refine cy_getT (v := .ref (ad 21)) hx hb hts hin5 hown hK hI 1 (by decide) (hts (.fieldLink RX5 7 "CustomsYardModel" "sorts" "[I") (by decide +kernel)) rfl dX5_take_28 ?_
      refine lv_iload_n hx hb dX5_take_31 rfl (lv_at hl 1 rfl) ?_
      refine cy_iald (f := τ.1 1) (k := kx) hx hb hK.1 hI 0 (x := 21) rfl rfl (by omega) (by decide) dX5_take_32 ?_
      refine lv_iload_n hx hb dX5_take_33 rfl (lv_at hl 2 rfl) ?_
      refine cy_callp (v := .int (cy_b (cy_go (τ.1 1 kx) v))) (va_runS (As := [.int (τ.1 1 kx), .int v]) (rest := []) ⟨hx, hb, hml, hown, hts⟩ (c_X5_goes l (τ.1 1 kx) v) (va_cwS 2 hts gX5_take_X5_goes rfl rfl rfl (by decide +kernel) ⟨Nat.le_of_ble_eq_true rfl, Nat.le_of_ble_eq_true rfl⟩) preEq rfl rfl hl.1 rfl (lv_room (Nat.le_of_ble_eq_true rfl)) dX5_take_34 ⟨Nat.le_of_ble_eq_true rfl, Nat.le_of_ble_eq_true rfl⟩) ?_
      cases b7 : (cy_go (τ.1 1 kx) v)
      · refine lv_if_eq (tgt := 49) hx hb dX5_take_37 (by decide) (fun h8 => ?_) (fun h8 => absurd (by decide) h8)
        refine lv_aload_n hx hb dX5_take_49 rfl (lv_at hl 0 rfl) ?_
        refine lv_bipush (v := -4) hx hb dX5_take_50 (by decide) ?_
        refine cy_callm (va_runV (As := [.int (-4)]) (rest := []) ⟨hx, hb, hml, hown, hts⟩ (c_X5_no l D cI cJ cO z n na σ (cy_i τ 0 2 0) pl hi ad (-4)) (cwV 1 hts gX5_take_X5_no rfl rfl rfl (by decide +kernel) ⟨Nat.le_of_ble_eq_true rfl, Nat.le_of_ble_eq_true rfl⟩) (cy_preV hK hI (cy_recv hK (hI.1 20 _ cy_CR).1 rfl)) rfl rfl hl.1 rfl (lv_room (Nat.le_of_ble_eq_true rfl)) dX5_take_52 ⟨Nat.le_of_ble_eq_true rfl, Nat.le_of_ble_eq_true rfl⟩) hS (fun u H locs hI hz hS => ?_)
        have hI : cy_W D z (cy_CT cI cJ cO n na σ (cy_no (cy_i τ 0 2 0) (-4)) pl hi ad) ad H := hI
        refine W.eq (g2 := F0 m 55 ls [.int (-4)]) rfl ?_
        have E : cy_oTake nt τ (nI kx) v = ((-4), cy_no (cy_i τ 0 2 0) (-4)) := by simp [cy_oTake, cy_z, cy_co_z, nI_clamp (show kx < 2 ^ 31 by omega), b1, b4, b7]
        rw [E]
        exact W.iret (v := (-4)) hx hb hr (fun t ht hW => ⟨(), rfl, by rw [ht]; exact hI, hS.F ht⟩) hS.2.2 dX5_take_55
      · refine lv_if_eq (tgt := 49) hx hb dX5_take_37 (by decide) (fun h9 => absurd h9 (by decide)) (fun h9 => ?_)
        refine lv_aload_n hx hb dX5_take_40 rfl (lv_at hl 0 rfl) ?_
        refine lv_iload_n hx hb dX5_take_41 rfl (lv_at hl 1 rfl) ?_
        refine lv_iload_n hx hb dX5_take_42 rfl (lv_at hl 2 rfl) ?_
        refine cy_callp (v := .int (cy_co (cy_i τ 0 2 0) kx v)) (va_runV (As := [.int (nI kx), .int v]) (rest := []) ⟨hx, hb, hml, hown, hts⟩ (c_X5_comes l D cI cJ cO z n na σ (cy_i τ 0 2 0) pl hi ad kx (by omega) v) (cwV 2 hts gX5_take_X5_comes rfl rfl rfl (by decide +kernel) ⟨Nat.le_of_ble_eq_true rfl, Nat.le_of_ble_eq_true rfl⟩) (cy_preV hK hI (cy_recv hK (hI.1 20 _ cy_CR).1 rfl)) rfl rfl hl.1 rfl (lv_room (Nat.le_of_ble_eq_true rfl)) dX5_take_43 ⟨Nat.le_of_ble_eq_true rfl, Nat.le_of_ble_eq_true rfl⟩) ?_
        refine lv_goto (tgt := 55) hx hb dX5_take_46 (by decide) ?_
        have E : cy_oTake nt τ (nI kx) v = (cy_co (cy_i τ 0 2 0) kx v, cy_i τ 0 2 0) := by simp [cy_oTake, cy_z, cy_co_z, nI_clamp (show kx < 2 ^ 31 by omega), b1, b4, b7]
        rw [E]
        exact W.iret (v := cy_co (cy_i τ 0 2 0) kx v) hx hb hr (fun t ht hW => ⟨(), rfl, by rw [ht]; exact hI, hS.F ht⟩) hS.2.2 dX5_take_55

set_option maxHeartbeats 4000000 in
set_option maxRecDepth 100000 in
theorem c_X5_sort (l : Launch) (D : va_G) (cI cJ cO : ClassId) (z n na : Nat) (σ τ : cy_S) (pl : Nat → Int32) (hi : Int32) (ad : Nat → Nat) (nt : Nat) (hok : cy_ok nt τ) (x : Int32)  : Met l yX5_sort wsX5_sort { frames := 2, cells := 0, slots := 0, locals := 43 } (cy_P D cI cJ cO (fun H => cy_W D z (cy_CT cI cJ cO n na σ τ pl hi ad) ad H) [.ref (ad 20), .int x]) (cy_M (S := Unit) z (fun _ => some (.int (cy_oSort nt τ x).1)) (fun _ H => cy_W D z (cy_CT cI cJ cO n na σ (cy_oSort nt τ x).2 pl hi ad) ad H)) 0 0 (fun q => z ≤ q) := by
  refine Met.ofW (cc := cX5_sort) (maxL := 2) (ret := (some .int)) (by decide) rfl ?_
  intro p e s m args below meth c s₁ B hml hv
  obtain ⟨rfl, hK, hI⟩ := hv
  have hx := B.exec
  have hb := B.bytes
  have hr := B.returns
  have hts := atoms_spec (ws := wsX5_sort) B.pre
  have hown : s.vm.findClass RX5 = some m.cls := findClass_of_methodNamed B.named
  have hlocks := B.notSynchronized
  have hS : va_S (fun q => z ≤ q) s.heap s.heap [] := va_S.rf
  have hl := lv_entry ([.ref (ad 20), .int x]) (n := 2) (Nat.le_of_ble_eq_true rfl)
  rw [lg_entry_eq]
  generalize (lg_sl ([.ref (ad 20), .int x]) ++ List.replicate (2 - (lg_sl ([.ref (ad 20), .int x])).length) Slot.unset).toArray = ls at hl ⊢
  have hl : lv_has ls 2 [(0, .ref (ad 20)), (1, .int x)] := hl
  have hin5 := hin5_X5_sort
  have h0 := hok.2.1
  have hn := hok.1
  refine lv_aload_n hx hb dX5_sort_0 rfl (lv_at hl 0 rfl) ?_
  refine lv_iconst (v := 0) hx hb dX5_sort_1 (by decide) ?_
  refine cy_putT (v := 0) hx hb hts hin5 hown hK hI hS 12 2 (by decide) (hts (.fieldLink RX5 52 "CustomsYardModel" "refused" "I") (by decide +kernel)) rfl (by decide +kernel) rfl dX5_sort_2 (fun H locs hI hS => ?_)
  refine lv_aload_n hx hb dX5_sort_5 rfl (lv_at hl 0 rfl) ?_
  refine lv_iload_n hx hb dX5_sort_6 rfl (lv_at hl 1 rfl) ?_
  refine cy_callp (v := .int (cy_b (cy_ld nt x))) (va_runV (As := [.int x]) (rest := []) ⟨hx, hb, hml, hown, hts⟩ (c_X5_isLoad l D cI cJ cO z n na σ (cy_i τ 0 2 0) pl hi ad nt h0 x) (cwV 1 hts gX5_sort_X5_isLoad rfl rfl rfl (by decide +kernel) ⟨Nat.le_of_ble_eq_true rfl, Nat.le_of_ble_eq_true rfl⟩) (cy_preV hK hI (cy_recv hK (hI.1 20 _ cy_CR).1 rfl)) rfl rfl hl.1 rfl (lv_room (Nat.le_of_ble_eq_true rfl)) dX5_sort_7 ⟨Nat.le_of_ble_eq_true rfl, Nat.le_of_ble_eq_true rfl⟩) ?_
  cases b1 : (cy_ld nt x)
  · refine lv_if_eq (tgt := 22) hx hb dX5_sort_10 (by decide) (fun h2 => ?_) (fun h2 => absurd (by decide) h2)
    refine lv_aload_n hx hb dX5_sort_22 rfl (lv_at hl 0 rfl) ?_
    refine lv_bipush (v := -2) hx hb dX5_sort_23 (by decide) ?_
    refine cy_callm (va_runV (As := [.int (-2)]) (rest := []) ⟨hx, hb, hml, hown, hts⟩ (c_X5_no l D cI cJ cO z n na σ (cy_i τ 0 2 0) pl hi ad (-2)) (cwV 1 hts gX5_sort_X5_no rfl rfl rfl (by decide +kernel) ⟨Nat.le_of_ble_eq_true rfl, Nat.le_of_ble_eq_true rfl⟩) (cy_preV hK hI (cy_recv hK (hI.1 20 _ cy_CR).1 rfl)) rfl rfl hl.1 rfl (lv_room (Nat.le_of_ble_eq_true rfl)) dX5_sort_25 ⟨Nat.le_of_ble_eq_true rfl, Nat.le_of_ble_eq_true rfl⟩) hS (fun u H locs hI hz hS => ?_)
    have hI : cy_W D z (cy_CT cI cJ cO n na σ (cy_no (cy_i τ 0 2 0) (-2)) pl hi ad) ad H := hI
    refine W.eq (g2 := F0 m 28 ls [.int (-2)]) rfl ?_
    have E : cy_oSort nt τ x = ((-2), cy_no (cy_i τ 0 2 0) (-2)) := by simp [cy_oSort, cy_z, b1]
    rw [E]
    exact W.iret (v := (-2)) hx hb hr (fun t ht hW => ⟨(), rfl, by rw [ht]; exact hI, hS.F ht⟩) hS.2.2 dX5_sort_28
  · obtain ⟨kx, hkx, rfl⟩ := (cy_ld_iff hn _).mp b1
    refine lv_if_eq (tgt := 22) hx hb dX5_sort_10 (by decide) (fun h3 => absurd h3 (by decide)) (fun h3 => ?_)
    refine lv_aload_n hx hb dX5_sort_13 rfl (lv_at hl 0 rfl) ?_
    refine cy_getT (v := .ref (ad 21)) hx hb hts hin5 hown hK hI 1 (by decide) (hts (.fieldLink RX5 7 "CustomsYardModel" "sorts" "[I") (by decide +kernel)) rfl dX5_sort_14 ?_
    refine lv_iload_n hx hb dX5_sort_17 rfl (lv_at hl 1 rfl) ?_
    refine cy_iald (f := τ.1 1) (k := kx) hx hb hK.1 hI 0 (x := 21) rfl rfl (by omega) (by decide) dX5_sort_18 ?_
    refine lv_goto (tgt := 28) hx hb dX5_sort_19 (by decide) ?_
    have E : cy_oSort nt τ (nI kx) = (τ.1 1 kx, cy_i τ 0 2 0) := by simp [cy_oSort, cy_z, nI_clamp (show kx < 2 ^ 31 by omega), b1]
    rw [E]
    exact W.iret (v := τ.1 1 kx) hx hb hr (fun t ht hW => ⟨(), rfl, by rw [ht]; exact hI, hS.F ht⟩) hS.2.2 dX5_sort_28
end
section
theorem cy_ne1 {t : Nat} (h : t < 2 ^ 31) : ¬ nI t = -1 := fun q => absurd (q ▸ nI_pos h) (by decide)
theorem cy_lt10 {q : Nat} (h : q ≤ 10) (h1 : ¬ nI q = 10) : q < 10 := by
  rcases Nat.lt_or_ge q 10 with h2 | h2
  · exact h2
  · exact absurd (show nI q = 10 by rw [show q = 10 by omega]; rfl) h1
theorem cy_nb2 (σ : cy_S) : cy_no (cy_i σ 0 2 0) (-2) = cy_i σ 0 2 (-2) := cy_no_bad σ (-2) (by decide) (by decide) (by decide)
theorem hin5_X5_hold : ∀ w ∈ u_ws RX5 TX5 19, w ∈ wsX5_hold := by decide +kernel
theorem hin5_X5_bay : ∀ w ∈ u_ws RX5 TX5 19, w ∈ wsX5_bay := by decide +kernel
theorem hin5_X5_gate : ∀ w ∈ u_ws RX5 TX5 19, w ∈ wsX5_gate := by decide +kernel
theorem hin5_X5_passed : ∀ w ∈ u_ws RX5 TX5 19, w ∈ wsX5_passed := by decide +kernel
theorem hin5_X5_tariff : ∀ w ∈ u_ws RX5 TX5 19, w ∈ wsX5_tariff := by decide +kernel
set_option maxHeartbeats 4000000 in
set_option maxRecDepth 100000 in
theorem c_X5_hold (l : Launch) (D : va_G) (cI cJ cO : ClassId) (z n na : Nat) (σ τ : cy_S) (pl : Nat → Int32) (hi : Int32) (ad : Nat → Nat) (nt : Nat) (hok : cy_ok nt τ) (b x : Int32)  : Met l yX5_hold wsX5_hold { frames := 2, cells := 0, slots := 0, locals := 43 } (cy_P D cI cJ cO (fun H => cy_W D z (cy_CT cI cJ cO n na σ τ pl hi ad) ad H) [.ref (ad 20), .int b, .int x]) (cy_M (S := Unit) z (fun _ => some (.int (cy_oHold nt τ b x).1)) (fun _ H => cy_W D z (cy_CT cI cJ cO n na σ (cy_oHold nt τ b x).2 pl hi ad) ad H)) 0 0 (fun q => z ≤ q) := by
  refine Met.ofW (cc := cX5_hold) (maxL := 4) (ret := (some .int)) (by decide) rfl ?_
  intro p e s m args below meth c s₁ B hml hv
  obtain ⟨rfl, hK, hI⟩ := hv
  have hx := B.exec
  have hb := B.bytes
  have hr := B.returns
  have hts := atoms_spec (ws := wsX5_hold) B.pre
  have hown : s.vm.findClass RX5 = some m.cls := findClass_of_methodNamed B.named
  have hlocks := B.notSynchronized
  have hS : va_S (fun q => z ≤ q) s.heap s.heap [] := va_S.rf
  have hl := lv_entry ([.ref (ad 20), .int b, .int x]) (n := 4) (Nat.le_of_ble_eq_true rfl)
  rw [lg_entry_eq]
  generalize (lg_sl ([.ref (ad 20), .int b, .int x]) ++ List.replicate (4 - (lg_sl ([.ref (ad 20), .int b, .int x])).length) Slot.unset).toArray = ls at hl ⊢
  have hl : lv_has ls 4 [(0, .ref (ad 20)), (1, .int b), (2, .int x)] := hl
  have hin5 := hin5_X5_hold
  have h0 := hok.2.1
  have hn := hok.1
  refine lv_aload_n hx hb dX5_hold_0 rfl (lv_at hl 0 rfl) ?_
  refine lv_iconst (v := 0) hx hb dX5_hold_1 (by decide) ?_
  refine cy_putT (v := 0) hx hb hts hin5 hown hK hI hS 12 2 (by decide) (hts (.fieldLink RX5 52 "CustomsYardModel" "refused" "I") (by decide +kernel)) rfl (by decide +kernel) rfl dX5_hold_2 (fun H locs hI hS => ?_)
  refine lv_iload_n hx hb dX5_hold_5 rfl (lv_at hl 1 rfl) ?_
  refine lv_iconst (v := 0) hx hb dX5_hold_6 (by decide) ?_
  refine lv_bipush (v := 11) hx hb dX5_hold_7 (by decide) ?_
  refine cy_callp (v := .int (cy_b (cy_isIn b 0 11))) (va_runS (As := [.int b, .int 0, .int 11]) (rest := []) ⟨hx, hb, hml, hown, hts⟩ (c_X5_isIn l b 0 11) (va_cwS 3 hts gX5_hold_X5_isIn rfl rfl rfl (by decide +kernel) ⟨Nat.le_of_ble_eq_true rfl, Nat.le_of_ble_eq_true rfl⟩) preEq rfl rfl hl.1 rfl (lv_room (Nat.le_of_ble_eq_true rfl)) dX5_hold_9 ⟨Nat.le_of_ble_eq_true rfl, Nat.le_of_ble_eq_true rfl⟩) ?_
  cases b1 : (cy_isIn b 0 11)
  · refine lv_if_eq (tgt := 28) hx hb dX5_hold_12 (by decide) (fun h2 => ?_) (fun h2 => absurd (by decide) h2)
    refine lv_aload_n hx hb dX5_hold_28 rfl (lv_at hl 0 rfl) ?_
    refine lv_bipush (v := -2) hx hb dX5_hold_29 (by decide) ?_
    refine cy_callm (va_runV (As := [.int (-2)]) (rest := []) ⟨hx, hb, hml, hown, hts⟩ (c_X5_no l D cI cJ cO z n na σ (cy_i τ 0 2 0) pl hi ad (-2)) (cwV 1 hts gX5_hold_X5_no rfl rfl rfl (by decide +kernel) ⟨Nat.le_of_ble_eq_true rfl, Nat.le_of_ble_eq_true rfl⟩) (cy_preV hK hI (cy_recv hK (hI.1 20 _ cy_CR).1 rfl)) rfl rfl hl.1 rfl (lv_room (Nat.le_of_ble_eq_true rfl)) dX5_hold_31 ⟨Nat.le_of_ble_eq_true rfl, Nat.le_of_ble_eq_true rfl⟩) hS (fun u H locs hI hz hS => ?_)
    have hI : cy_W D z (cy_CT cI cJ cO n na σ (cy_no (cy_i τ 0 2 0) (-2)) pl hi ad) ad H := hI
    refine W.eq (g2 := F0 m 34 ls [.int (-2)]) rfl ?_
    have E : cy_oHold nt τ b x = ((-2), cy_no (cy_i τ 0 2 0) (-2)) := by simp [cy_oHold, cy_z, b1]
    rw [E]
    exact W.iret (v := (-2)) hx hb hr (fun t ht hW => ⟨(), rfl, by rw [ht]; exact hI, hS.F ht⟩) hS.2.2 dX5_hold_34
  · obtain ⟨j, hj, rfl⟩ := (cy_in12 _).mp b1
    refine lv_if_eq (tgt := 28) hx hb dX5_hold_12 (by decide) (fun h3 => absurd h3 (by decide)) (fun h3 => ?_)
    refine lv_iload_n hx hb dX5_hold_15 rfl (lv_at hl 2 rfl) ?_
    refine lv_iconst (v := -1) hx hb dX5_hold_16 (by decide) ?_
    refine lv_icmp_eq (tgt := 35) hx hb dX5_hold_17 (by decide) (fun h4 => ?_) (fun h4 => ?_)
    · refine lv_aload_n hx hb dX5_hold_35 rfl (lv_at hl 0 rfl) ?_
      refine cy_getT (v := .ref (ad 26)) hx hb hts hin5 hown hK hI 6 (by decide) (hts (.fieldLink RX5 26 "CustomsYardModel" "bays" "[I") (by decide +kernel)) rfl dX5_hold_36 ?_
      refine lv_iload_n hx hb dX5_hold_39 rfl (lv_at hl 1 rfl) ?_
      refine cy_iald (f := τ.1 5) (k := j) hx hb hK.1 hI 0 (x := 26) rfl rfl (by omega) (by decide) dX5_hold_40 ?_
      refine lv_istore_n (lv' := [(3, .int (τ.1 5 j)), (0, .ref (ad 20)), (1, .int (nI j)), (2, .int x)]) hx hb dX5_hold_41 rfl hl (by decide) rfl (fun ls hl => ?_)
      refine lv_aload_n hx hb dX5_hold_42 rfl (lv_at hl 1 rfl) ?_
      refine cy_getT (v := .ref (ad 26)) hx hb hts hin5 hown hK hI 6 (by decide) (hts (.fieldLink RX5 26 "CustomsYardModel" "bays" "[I") (by decide +kernel)) rfl dX5_hold_43 ?_
      refine lv_iload_n hx hb dX5_hold_46 rfl (lv_at hl 2 rfl) ?_
      refine lv_iload_n hx hb dX5_hold_47 rfl (lv_at hl 3 rfl) ?_
      refine cy_stT6 (k := j) (v := x) hx hb hK hI hS (by omega) dX5_hold_48 (fun H locs hI hS => ?_)
      refine lv_iload_n hx hb dX5_hold_49 rfl (lv_at hl 0 rfl) ?_
      have E : cy_oHold nt τ (nI j) x = (τ.1 5 j, cy_i (cy_i τ 0 2 0) 5 j x) := by first | (simp [cy_oHold, cy_z, nI_clamp (show j < 2 ^ 31 by omega), b1]; done) | (simp [cy_oHold, cy_z, nI_clamp (show j < 2 ^ 31 by omega), b1]; simp [h4]; done) | (simp [cy_oHold, cy_z, nI_clamp (show j < 2 ^ 31 by omega), b1, h4]; done)
      rw [E]
      exact W.iret (v := τ.1 5 j) hx hb hr (fun t ht hW => ⟨(), rfl, by rw [ht]; exact hI, hS.F ht⟩) hS.2.2 dX5_hold_50
    · refine lv_aload_n hx hb dX5_hold_20 rfl (lv_at hl 0 rfl) ?_
      refine lv_iload_n hx hb dX5_hold_21 rfl (lv_at hl 2 rfl) ?_
      refine cy_callp (v := .int (cy_b (cy_ld nt x))) (va_runV (As := [.int x]) (rest := []) ⟨hx, hb, hml, hown, hts⟩ (c_X5_isLoad l D cI cJ cO z n na σ (cy_i τ 0 2 0) pl hi ad nt h0 x) (cwV 1 hts gX5_hold_X5_isLoad rfl rfl rfl (by decide +kernel) ⟨Nat.le_of_ble_eq_true rfl, Nat.le_of_ble_eq_true rfl⟩) (cy_preV hK hI (cy_recv hK (hI.1 20 _ cy_CR).1 rfl)) rfl rfl hl.1 rfl (lv_room (Nat.le_of_ble_eq_true rfl)) dX5_hold_22 ⟨Nat.le_of_ble_eq_true rfl, Nat.le_of_ble_eq_true rfl⟩) ?_
      cases b5 : (cy_ld nt x)
      · refine lv_if_ne (tgt := 35) hx hb dX5_hold_25 (by decide) (fun h6 => absurd (by decide) h6) (fun h6 => ?_)
        refine lv_aload_n hx hb dX5_hold_28 rfl (lv_at hl 0 rfl) ?_
        refine lv_bipush (v := -2) hx hb dX5_hold_29 (by decide) ?_
        refine cy_callm (va_runV (As := [.int (-2)]) (rest := []) ⟨hx, hb, hml, hown, hts⟩ (c_X5_no l D cI cJ cO z n na σ (cy_i τ 0 2 0) pl hi ad (-2)) (cwV 1 hts gX5_hold_X5_no rfl rfl rfl (by decide +kernel) ⟨Nat.le_of_ble_eq_true rfl, Nat.le_of_ble_eq_true rfl⟩) (cy_preV hK hI (cy_recv hK (hI.1 20 _ cy_CR).1 rfl)) rfl rfl hl.1 rfl (lv_room (Nat.le_of_ble_eq_true rfl)) dX5_hold_31 ⟨Nat.le_of_ble_eq_true rfl, Nat.le_of_ble_eq_true rfl⟩) hS (fun u H locs hI hz hS => ?_)
        have hI : cy_W D z (cy_CT cI cJ cO n na σ (cy_no (cy_i τ 0 2 0) (-2)) pl hi ad) ad H := hI
        refine W.eq (g2 := F0 m 34 ls [.int (-2)]) rfl ?_
        have E : cy_oHold nt τ (nI j) x = ((-2), cy_no (cy_i τ 0 2 0) (-2)) := by first | (simp [cy_oHold, cy_z, nI_clamp (show j < 2 ^ 31 by omega), b1, b5]; done) | (simp [cy_oHold, cy_z, nI_clamp (show j < 2 ^ 31 by omega), b1, b5]; simp [h4]; done) | (simp [cy_oHold, cy_z, nI_clamp (show j < 2 ^ 31 by omega), b1, b5, h4]; done)
        rw [E]
        exact W.iret (v := (-2)) hx hb hr (fun t ht hW => ⟨(), rfl, by rw [ht]; exact hI, hS.F ht⟩) hS.2.2 dX5_hold_34
      · obtain ⟨kx, hkx, rfl⟩ := (cy_ld_iff hn _).mp b5
        refine lv_if_ne (tgt := 35) hx hb dX5_hold_25 (by decide) (fun h7 => ?_) (fun h7 => absurd h7 (by decide))
        refine lv_aload_n hx hb dX5_hold_35 rfl (lv_at hl 0 rfl) ?_
        refine cy_getT (v := .ref (ad 26)) hx hb hts hin5 hown hK hI 6 (by decide) (hts (.fieldLink RX5 26 "CustomsYardModel" "bays" "[I") (by decide +kernel)) rfl dX5_hold_36 ?_
        refine lv_iload_n hx hb dX5_hold_39 rfl (lv_at hl 1 rfl) ?_
        refine cy_iald (f := τ.1 5) (k := j) hx hb hK.1 hI 0 (x := 26) rfl rfl (by omega) (by decide) dX5_hold_40 ?_
        refine lv_istore_n (lv' := [(3, .int (τ.1 5 j)), (0, .ref (ad 20)), (1, .int (nI j)), (2, .int (nI kx))]) hx hb dX5_hold_41 rfl hl (by decide) rfl (fun ls hl => ?_)
        refine lv_aload_n hx hb dX5_hold_42 rfl (lv_at hl 1 rfl) ?_
        refine cy_getT (v := .ref (ad 26)) hx hb hts hin5 hown hK hI 6 (by decide) (hts (.fieldLink RX5 26 "CustomsYardModel" "bays" "[I") (by decide +kernel)) rfl dX5_hold_43 ?_
        refine lv_iload_n hx hb dX5_hold_46 rfl (lv_at hl 2 rfl) ?_
        refine lv_iload_n hx hb dX5_hold_47 rfl (lv_at hl 3 rfl) ?_
        refine cy_stT6 (k := j) (v := nI kx) hx hb hK hI hS (by omega) dX5_hold_48 (fun H locs hI hS => ?_)
        refine lv_iload_n hx hb dX5_hold_49 rfl (lv_at hl 0 rfl) ?_
        have E : cy_oHold nt τ (nI j) (nI kx) = (τ.1 5 j, cy_i (cy_i τ 0 2 0) 5 j (nI kx)) := by first | (simp [cy_oHold, cy_z, nI_clamp (show j < 2 ^ 31 by omega), nI_clamp (show kx < 2 ^ 31 by omega), b1, b5]; done) | (simp [cy_oHold, cy_z, nI_clamp (show j < 2 ^ 31 by omega), nI_clamp (show kx < 2 ^ 31 by omega), b1, b5]; simp [h4]; done) | (simp [cy_oHold, cy_z, nI_clamp (show j < 2 ^ 31 by omega), nI_clamp (show kx < 2 ^ 31 by omega), b1, b5, h4]; done)
        rw [E]
        exact W.iret (v := τ.1 5 j) hx hb hr (fun t ht hW => ⟨(), rfl, by rw [ht]; exact hI, hS.F ht⟩) hS.2.2 dX5_hold_50

set_option maxHeartbeats 4000000 in
set_option maxRecDepth 100000 in
theorem c_X5_bay (l : Launch) (D : va_G) (cI cJ cO : ClassId) (z n na : Nat) (σ τ : cy_S) (pl : Nat → Int32) (hi : Int32) (ad : Nat → Nat) (nt : Nat) (hok : cy_ok nt τ) (b v : Int32)  : Met l yX5_bay wsX5_bay { frames := 3, cells := 0, slots := 0, locals := 64 } (cy_P D cI cJ cO (fun H => cy_W D z (cy_CT cI cJ cO n na σ τ pl hi ad) ad H) [.ref (ad 20), .int b, .int v]) (cy_M (S := Unit) z (fun _ => some (.int (cy_oBay τ b v).1)) (fun _ H => cy_W D z (cy_CT cI cJ cO n na σ (cy_oBay τ b v).2 pl hi ad) ad H)) 0 0 (fun q => z ≤ q) := by
  refine Met.ofW (cc := cX5_bay) (maxL := 4) (ret := (some .int)) (by decide) rfl ?_
  intro p e s m args below meth c s₁ B hml hv
  obtain ⟨rfl, hK, hI⟩ := hv
  have hx := B.exec
  have hb := B.bytes
  have hr := B.returns
  have hts := atoms_spec (ws := wsX5_bay) B.pre
  have hown : s.vm.findClass RX5 = some m.cls := findClass_of_methodNamed B.named
  have hlocks := B.notSynchronized
  have hS : va_S (fun q => z ≤ q) s.heap s.heap [] := va_S.rf
  have hl := lv_entry ([.ref (ad 20), .int b, .int v]) (n := 4) (Nat.le_of_ble_eq_true rfl)
  rw [lg_entry_eq]
  generalize (lg_sl ([.ref (ad 20), .int b, .int v]) ++ List.replicate (4 - (lg_sl ([.ref (ad 20), .int b, .int v])).length) Slot.unset).toArray = ls at hl ⊢
  have hl : lv_has ls 4 [(0, .ref (ad 20)), (1, .int b), (2, .int v)] := hl
  have hin5 := hin5_X5_bay
  have h0 := hok.2.1
  have hn := hok.1
  refine lv_aload_n hx hb dX5_bay_0 rfl (lv_at hl 0 rfl) ?_
  refine lv_iconst (v := 0) hx hb dX5_bay_1 (by decide) ?_
  refine cy_putT (v := 0) hx hb hts hin5 hown hK hI hS 12 2 (by decide) (hts (.fieldLink RX5 52 "CustomsYardModel" "refused" "I") (by decide +kernel)) rfl (by decide +kernel) rfl dX5_bay_2 (fun H locs hI hS => ?_)
  refine lv_iload_n hx hb dX5_bay_5 rfl (lv_at hl 1 rfl) ?_
  refine lv_iconst (v := 0) hx hb dX5_bay_6 (by decide) ?_
  refine lv_bipush (v := 11) hx hb dX5_bay_7 (by decide) ?_
  refine cy_callp (v := .int (cy_b (cy_isIn b 0 11))) (va_runS (As := [.int b, .int 0, .int 11]) (rest := []) ⟨hx, hb, hml, hown, hts⟩ (c_X5_isIn l b 0 11) (va_cwS 3 hts gX5_bay_X5_isIn rfl rfl rfl (by decide +kernel) ⟨Nat.le_of_ble_eq_true rfl, Nat.le_of_ble_eq_true rfl⟩) preEq rfl rfl hl.1 rfl (lv_room (Nat.le_of_ble_eq_true rfl)) dX5_bay_9 ⟨Nat.le_of_ble_eq_true rfl, Nat.le_of_ble_eq_true rfl⟩) ?_
  cases b1 : (cy_isIn b 0 11)
  · refine lv_if_eq (tgt := 22) hx hb dX5_bay_12 (by decide) (fun h2 => ?_) (fun h2 => absurd (by decide) h2)
    refine lv_aload_n hx hb dX5_bay_22 rfl (lv_at hl 0 rfl) ?_
    refine lv_bipush (v := -2) hx hb dX5_bay_23 (by decide) ?_
    refine cy_callm (va_runV (As := [.int (-2)]) (rest := []) ⟨hx, hb, hml, hown, hts⟩ (c_X5_no l D cI cJ cO z n na σ (cy_i τ 0 2 0) pl hi ad (-2)) (cwV 1 hts gX5_bay_X5_no rfl rfl rfl (by decide +kernel) ⟨Nat.le_of_ble_eq_true rfl, Nat.le_of_ble_eq_true rfl⟩) (cy_preV hK hI (cy_recv hK (hI.1 20 _ cy_CR).1 rfl)) rfl rfl hl.1 rfl (lv_room (Nat.le_of_ble_eq_true rfl)) dX5_bay_25 ⟨Nat.le_of_ble_eq_true rfl, Nat.le_of_ble_eq_true rfl⟩) hS (fun u H locs hI hz hS => ?_)
    have hI : cy_W D z (cy_CT cI cJ cO n na σ (cy_no (cy_i τ 0 2 0) (-2)) pl hi ad) ad H := hI
    refine W.eq (g2 := F0 m 28 ls [.int (-2)]) rfl ?_
    have E : cy_oBay τ b v = ((-2), cy_no (cy_i τ 0 2 0) (-2)) := by simp [cy_oBay, cy_z, cy_co_z, b1]
    rw [E]
    exact W.iret (v := (-2)) hx hb hr (fun t ht hW => ⟨(), rfl, by rw [ht]; exact hI, hS.F ht⟩) hS.2.2 dX5_bay_28
  · obtain ⟨j, hj, rfl⟩ := (cy_in12 _).mp b1
    refine lv_if_eq (tgt := 22) hx hb dX5_bay_12 (by decide) (fun h3 => absurd h3 (by decide)) (fun h3 => ?_)
    refine lv_iload_n hx hb dX5_bay_15 rfl (lv_at hl 2 rfl) ?_
    refine cy_callp (v := .int (cy_b (cy_vw v))) (va_runS (As := [.int v]) (rest := []) ⟨hx, hb, hml, hown, hts⟩ (c_X5_isView l v) (va_cwS 1 hts gX5_bay_X5_isView rfl rfl rfl (by decide +kernel) ⟨Nat.le_of_ble_eq_true rfl, Nat.le_of_ble_eq_true rfl⟩) preEq rfl rfl hl.1 rfl (lv_room (Nat.le_of_ble_eq_true rfl)) dX5_bay_16 ⟨Nat.le_of_ble_eq_true rfl, Nat.le_of_ble_eq_true rfl⟩) ?_
    cases b4 : (cy_vw v)
    · refine lv_if_ne (tgt := 29) hx hb dX5_bay_19 (by decide) (fun h5 => absurd (by decide) h5) (fun h5 => ?_)
      refine lv_aload_n hx hb dX5_bay_22 rfl (lv_at hl 0 rfl) ?_
      refine lv_bipush (v := -2) hx hb dX5_bay_23 (by decide) ?_
      refine cy_callm (va_runV (As := [.int (-2)]) (rest := []) ⟨hx, hb, hml, hown, hts⟩ (c_X5_no l D cI cJ cO z n na σ (cy_i τ 0 2 0) pl hi ad (-2)) (cwV 1 hts gX5_bay_X5_no rfl rfl rfl (by decide +kernel) ⟨Nat.le_of_ble_eq_true rfl, Nat.le_of_ble_eq_true rfl⟩) (cy_preV hK hI (cy_recv hK (hI.1 20 _ cy_CR).1 rfl)) rfl rfl hl.1 rfl (lv_room (Nat.le_of_ble_eq_true rfl)) dX5_bay_25 ⟨Nat.le_of_ble_eq_true rfl, Nat.le_of_ble_eq_true rfl⟩) hS (fun u H locs hI hz hS => ?_)
      have hI : cy_W D z (cy_CT cI cJ cO n na σ (cy_no (cy_i τ 0 2 0) (-2)) pl hi ad) ad H := hI
      refine W.eq (g2 := F0 m 28 ls [.int (-2)]) rfl ?_
      have E : cy_oBay τ (nI j) v = ((-2), cy_no (cy_i τ 0 2 0) (-2)) := by simp [cy_oBay, cy_z, cy_co_z, nI_clamp (show j < 2 ^ 31 by omega), b1, b4]
      rw [E]
      exact W.iret (v := (-2)) hx hb hr (fun t ht hW => ⟨(), rfl, by rw [ht]; exact hI, hS.F ht⟩) hS.2.2 dX5_bay_28
    · refine lv_if_ne (tgt := 29) hx hb dX5_bay_19 (by decide) (fun h6 => ?_) (fun h6 => absurd h6 (by decide))
      refine lv_aload_n hx hb dX5_bay_29 rfl (lv_at hl 0 rfl) ?_
      refine cy_getT (v := .ref (ad 26)) hx hb hts hin5 hown hK hI 6 (by decide) (hts (.fieldLink RX5 26 "CustomsYardModel" "bays" "[I") (by decide +kernel)) rfl dX5_bay_30 ?_
      refine lv_iload_n hx hb dX5_bay_33 rfl (lv_at hl 1 rfl) ?_
      refine cy_iald (f := τ.1 5) (k := j) hx hb hK.1 hI 0 (x := 26) rfl rfl (by omega) (by decide) dX5_bay_34 ?_
      rcases hok.2.2.2.1 j hj with e7 | ⟨t0, ht0, e7⟩
      · refine cy_topi e7 ?_
        refine lv_istore_n (lv' := [(3, .int (-1)), (0, .ref (ad 20)), (1, .int (nI j)), (2, .int v)]) hx hb dX5_bay_35 rfl hl (by decide) rfl (fun ls hl => ?_)
        refine lv_iload_n hx hb dX5_bay_36 rfl (lv_at hl 0 rfl) ?_
        refine lv_iconst (v := -1) hx hb dX5_bay_37 (by decide) ?_
        refine lv_icmp_ne (tgt := 43) hx hb dX5_bay_38 (by decide) (fun h8 => absurd (by decide) h8) (fun h8 => ?_)
        refine lv_iconst (v := -1) hx hb dX5_bay_41 (by decide) ?_
        have E : cy_oBay τ (nI j) v = ((-1), cy_i τ 0 2 0) := by first | (simp [cy_oBay, cy_z, cy_co_z, nI_clamp (show j < 2 ^ 31 by omega), b1, b4]; done) | (simp [cy_oBay, cy_z, cy_co_z, nI_clamp (show j < 2 ^ 31 by omega), b1, b4]; simp [e7]; done) | (simp [cy_oBay, cy_z, cy_co_z, nI_clamp (show j < 2 ^ 31 by omega), b1, b4, e7]; done)
        rw [E]
        exact W.iret (v := (-1)) hx hb hr (fun t ht hW => ⟨(), rfl, by rw [ht]; exact hI, hS.F ht⟩) hS.2.2 dX5_bay_42
      · have ne0 := cy_ne1 (show t0 < 2 ^ 31 by omega)
        refine cy_topi e7 ?_
        refine lv_istore_n (lv' := [(3, .int (nI t0)), (0, .ref (ad 20)), (1, .int (nI j)), (2, .int v)]) hx hb dX5_bay_35 rfl hl (by decide) rfl (fun ls hl => ?_)
        refine lv_iload_n hx hb dX5_bay_36 rfl (lv_at hl 0 rfl) ?_
        refine lv_iconst (v := -1) hx hb dX5_bay_37 (by decide) ?_
        refine lv_icmp_ne (tgt := 43) hx hb dX5_bay_38 (by decide) (fun h9 => ?_) (fun h9 => absurd h9 (ne0))
        refine lv_aload_n hx hb dX5_bay_43 rfl (lv_at hl 1 rfl) ?_
        refine cy_getT (v := .ref (ad 21)) hx hb hts hin5 hown hK hI 1 (by decide) (hts (.fieldLink RX5 7 "CustomsYardModel" "sorts" "[I") (by decide +kernel)) rfl dX5_bay_44 ?_
        refine lv_iload_n hx hb dX5_bay_47 rfl (lv_at hl 0 rfl) ?_
        refine cy_iald (f := τ.1 1) (k := t0) hx hb hK.1 hI 0 (x := 21) rfl rfl (by omega) (by decide) dX5_bay_48 ?_
        refine lv_iload_n hx hb dX5_bay_49 rfl (lv_at hl 3 rfl) ?_
        refine cy_callp (v := .int (cy_b (cy_go (τ.1 1 t0) v))) (va_runS (As := [.int (τ.1 1 t0), .int v]) (rest := []) ⟨hx, hb, hml, hown, hts⟩ (c_X5_goes l (τ.1 1 t0) v) (va_cwS 2 hts gX5_bay_X5_goes rfl rfl rfl (by decide +kernel) ⟨Nat.le_of_ble_eq_true rfl, Nat.le_of_ble_eq_true rfl⟩) preEq rfl rfl hl.1 rfl (lv_room (Nat.le_of_ble_eq_true rfl)) dX5_bay_50 ⟨Nat.le_of_ble_eq_true rfl, Nat.le_of_ble_eq_true rfl⟩) ?_
        cases b10 : (cy_go (τ.1 1 t0) v)
        · refine lv_if_eq (tgt := 65) hx hb dX5_bay_53 (by decide) (fun h11 => ?_) (fun h11 => absurd (by decide) h11)
          refine lv_aload_n hx hb dX5_bay_65 rfl (lv_at hl 1 rfl) ?_
          refine lv_bipush (v := -4) hx hb dX5_bay_66 (by decide) ?_
          refine cy_callm (va_runV (As := [.int (-4)]) (rest := []) ⟨hx, hb, hml, hown, hts⟩ (c_X5_no l D cI cJ cO z n na σ (cy_i τ 0 2 0) pl hi ad (-4)) (cwV 1 hts gX5_bay_X5_no rfl rfl rfl (by decide +kernel) ⟨Nat.le_of_ble_eq_true rfl, Nat.le_of_ble_eq_true rfl⟩) (cy_preV hK hI (cy_recv hK (hI.1 20 _ cy_CR).1 rfl)) rfl rfl hl.1 rfl (lv_room (Nat.le_of_ble_eq_true rfl)) dX5_bay_68 ⟨Nat.le_of_ble_eq_true rfl, Nat.le_of_ble_eq_true rfl⟩) hS (fun u H locs hI hz hS => ?_)
          have hI : cy_W D z (cy_CT cI cJ cO n na σ (cy_no (cy_i τ 0 2 0) (-4)) pl hi ad) ad H := hI
          refine W.eq (g2 := F0 m 71 ls [.int (-4)]) rfl ?_
          have E : cy_oBay τ (nI j) v = ((-4), cy_no (cy_i τ 0 2 0) (-4)) := by first | (simp [cy_oBay, cy_z, cy_co_z, nI_clamp (show j < 2 ^ 31 by omega), nI_clamp (show t0 < 2 ^ 31 by omega), b1, b4, b10]; done) | (simp [cy_oBay, cy_z, cy_co_z, nI_clamp (show j < 2 ^ 31 by omega), nI_clamp (show t0 < 2 ^ 31 by omega), b1, b4, b10]; simp [e7, ne0]; done) | (simp [cy_oBay, cy_z, cy_co_z, nI_clamp (show j < 2 ^ 31 by omega), nI_clamp (show t0 < 2 ^ 31 by omega), b1, b4, b10, e7, ne0]; done)
          rw [E]
          exact W.iret (v := (-4)) hx hb hr (fun t ht hW => ⟨(), rfl, by rw [ht]; exact hI, hS.F ht⟩) hS.2.2 dX5_bay_71
        · refine lv_if_eq (tgt := 65) hx hb dX5_bay_53 (by decide) (fun h12 => absurd h12 (by decide)) (fun h12 => ?_)
          refine lv_aload_n hx hb dX5_bay_56 rfl (lv_at hl 1 rfl) ?_
          refine lv_iload_n hx hb dX5_bay_57 rfl (lv_at hl 0 rfl) ?_
          refine lv_iload_n hx hb dX5_bay_58 rfl (lv_at hl 3 rfl) ?_
          refine cy_callp (v := .int (cy_co (cy_i τ 0 2 0) t0 v)) (va_runV (As := [.int (nI t0), .int v]) (rest := []) ⟨hx, hb, hml, hown, hts⟩ (c_X5_comes l D cI cJ cO z n na σ (cy_i τ 0 2 0) pl hi ad t0 (by omega) v) (cwV 2 hts gX5_bay_X5_comes rfl rfl rfl (by decide +kernel) ⟨Nat.le_of_ble_eq_true rfl, Nat.le_of_ble_eq_true rfl⟩) (cy_preV hK hI (cy_recv hK (hI.1 20 _ cy_CR).1 rfl)) rfl rfl hl.1 rfl (lv_room (Nat.le_of_ble_eq_true rfl)) dX5_bay_59 ⟨Nat.le_of_ble_eq_true rfl, Nat.le_of_ble_eq_true rfl⟩) ?_
          refine lv_goto (tgt := 71) hx hb dX5_bay_62 (by decide) ?_
          have E : cy_oBay τ (nI j) v = (cy_co (cy_i τ 0 2 0) t0 v, cy_i τ 0 2 0) := by first | (simp [cy_oBay, cy_z, cy_co_z, nI_clamp (show j < 2 ^ 31 by omega), nI_clamp (show t0 < 2 ^ 31 by omega), b1, b4, b10]; done) | (simp [cy_oBay, cy_z, cy_co_z, nI_clamp (show j < 2 ^ 31 by omega), nI_clamp (show t0 < 2 ^ 31 by omega), b1, b4, b10]; simp [e7, ne0]; done) | (simp [cy_oBay, cy_z, cy_co_z, nI_clamp (show j < 2 ^ 31 by omega), nI_clamp (show t0 < 2 ^ 31 by omega), b1, b4, b10, e7, ne0]; done)
          rw [E]
          exact W.iret (v := cy_co (cy_i τ 0 2 0) t0 v) hx hb hr (fun t ht hW => ⟨(), rfl, by rw [ht]; exact hI, hS.F ht⟩) hS.2.2 dX5_bay_71

set_option maxHeartbeats 4000000 in
set_option maxRecDepth 100000 in
theorem c_X5_gate (l : Launch) (D : va_G) (cI cJ cO : ClassId) (z n na : Nat) (σ τ : cy_S) (pl : Nat → Int32) (hi : Int32) (ad : Nat → Nat) (nt : Nat) (hok : cy_ok nt τ) (g v : Int32)  : Met l yX5_gate wsX5_gate { frames := 2, cells := 0, slots := 0, locals := 42 } (cy_P D cI cJ cO (fun H => cy_W D z (cy_CT cI cJ cO n na σ τ pl hi ad) ad H) [.ref (ad 20), .int g, .int v]) (cy_M (S := Unit) z (fun _ => some (.int (cy_oGate τ g v).1)) (fun _ H => cy_W D z (cy_CT cI cJ cO n na σ (cy_oGate τ g v).2 pl hi ad) ad H)) 0 0 (fun q => z ≤ q) := by
  refine Met.ofW (cc := cX5_gate) (maxL := 4) (ret := (some .int)) (by decide) rfl ?_
  intro p e s m args below meth c s₁ B hml hv
  obtain ⟨rfl, hK, hI⟩ := hv
  have hx := B.exec
  have hb := B.bytes
  have hr := B.returns
  have hts := atoms_spec (ws := wsX5_gate) B.pre
  have hown : s.vm.findClass RX5 = some m.cls := findClass_of_methodNamed B.named
  have hlocks := B.notSynchronized
  have hS : va_S (fun q => z ≤ q) s.heap s.heap [] := va_S.rf
  have hl := lv_entry ([.ref (ad 20), .int g, .int v]) (n := 4) (Nat.le_of_ble_eq_true rfl)
  rw [lg_entry_eq]
  generalize (lg_sl ([.ref (ad 20), .int g, .int v]) ++ List.replicate (4 - (lg_sl ([.ref (ad 20), .int g, .int v])).length) Slot.unset).toArray = ls at hl ⊢
  have hl : lv_has ls 4 [(0, .ref (ad 20)), (1, .int g), (2, .int v)] := hl
  have hin5 := hin5_X5_gate
  have h0 := hok.2.1
  have hn := hok.1
  refine lv_aload_n hx hb dX5_gate_0 rfl (lv_at hl 0 rfl) ?_
  refine lv_iconst (v := 0) hx hb dX5_gate_1 (by decide) ?_
  refine cy_putT (v := 0) hx hb hts hin5 hown hK hI hS 12 2 (by decide) (hts (.fieldLink RX5 52 "CustomsYardModel" "refused" "I") (by decide +kernel)) rfl (by decide +kernel) rfl dX5_gate_2 (fun H locs hI hS => ?_)
  refine lv_iload_n hx hb dX5_gate_5 rfl (lv_at hl 1 rfl) ?_
  refine cy_callp (v := .int (cy_b (cy_gt g))) (va_runS (As := [.int g]) (rest := []) ⟨hx, hb, hml, hown, hts⟩ (c_X5_isGate l g) (va_cwS 1 hts gX5_gate_X5_isGate rfl rfl rfl (by decide +kernel) ⟨Nat.le_of_ble_eq_true rfl, Nat.le_of_ble_eq_true rfl⟩) preEq rfl rfl hl.1 rfl (lv_room (Nat.le_of_ble_eq_true rfl)) dX5_gate_6 ⟨Nat.le_of_ble_eq_true rfl, Nat.le_of_ble_eq_true rfl⟩) ?_
  cases b1 : (cy_gt g)
  · refine lv_if_eq (tgt := 24) hx hb dX5_gate_9 (by decide) (fun h2 => ?_) (fun h2 => absurd (by decide) h2)
    refine lv_aload_n hx hb dX5_gate_24 rfl (lv_at hl 0 rfl) ?_
    refine lv_bipush (v := -2) hx hb dX5_gate_25 (by decide) ?_
    refine cy_callm (va_runV (As := [.int (-2)]) (rest := []) ⟨hx, hb, hml, hown, hts⟩ (c_X5_no l D cI cJ cO z n na σ (cy_i τ 0 2 0) pl hi ad (-2)) (cwV 1 hts gX5_gate_X5_no rfl rfl rfl (by decide +kernel) ⟨Nat.le_of_ble_eq_true rfl, Nat.le_of_ble_eq_true rfl⟩) (cy_preV hK hI (cy_recv hK (hI.1 20 _ cy_CR).1 rfl)) rfl rfl hl.1 rfl (lv_room (Nat.le_of_ble_eq_true rfl)) dX5_gate_27 ⟨Nat.le_of_ble_eq_true rfl, Nat.le_of_ble_eq_true rfl⟩) hS (fun u H locs hI hz hS => ?_)
    have hI : cy_W D z (cy_CT cI cJ cO n na σ (cy_no (cy_i τ 0 2 0) (-2)) pl hi ad) ad H := hI
    refine W.eq (g2 := F0 m 30 ls [.int (-2)]) rfl ?_
    have E : cy_oGate τ g v = ((-2), cy_no (cy_i τ 0 2 0) (-2)) := by simp [cy_oGate, cy_z, b1]
    rw [E]
    exact W.iret (v := (-2)) hx hb hr (fun t ht hW => ⟨(), rfl, by rw [ht]; exact hI, hS.F ht⟩) hS.2.2 dX5_gate_30
  · obtain ⟨j, hj, rfl⟩ := (cy_in6 _).mp b1
    refine lv_if_eq (tgt := 24) hx hb dX5_gate_9 (by decide) (fun h3 => absurd h3 (by decide)) (fun h3 => ?_)
    refine lv_iload_n hx hb dX5_gate_12 rfl (lv_at hl 2 rfl) ?_
    refine lv_iconst (v := -1) hx hb dX5_gate_13 (by decide) ?_
    refine lv_icmp_eq (tgt := 31) hx hb dX5_gate_14 (by decide) (fun h4 => ?_) (fun h4 => ?_)
    · refine lv_aload_n hx hb dX5_gate_31 rfl (lv_at hl 0 rfl) ?_
      refine cy_getT (v := .ref (ad 27)) hx hb hts hin5 hown hK hI 7 (by decide) (hts (.fieldLink RX5 29 "CustomsYardModel" "gates" "[I") (by decide +kernel)) rfl dX5_gate_32 ?_
      refine lv_iload_n hx hb dX5_gate_35 rfl (lv_at hl 1 rfl) ?_
      refine cy_iald (f := τ.1 6) (k := j) hx hb hK.1 hI 0 (x := 27) rfl rfl (by omega) (by decide) dX5_gate_36 ?_
      refine lv_istore_n (lv' := [(3, .int (τ.1 6 j)), (0, .ref (ad 20)), (1, .int (nI j)), (2, .int v)]) hx hb dX5_gate_37 rfl hl (by decide) rfl (fun ls hl => ?_)
      refine lv_aload_n hx hb dX5_gate_38 rfl (lv_at hl 1 rfl) ?_
      refine cy_getT (v := .ref (ad 27)) hx hb hts hin5 hown hK hI 7 (by decide) (hts (.fieldLink RX5 29 "CustomsYardModel" "gates" "[I") (by decide +kernel)) rfl dX5_gate_39 ?_
      refine lv_iload_n hx hb dX5_gate_42 rfl (lv_at hl 2 rfl) ?_
      refine lv_iload_n hx hb dX5_gate_43 rfl (lv_at hl 3 rfl) ?_
      refine cy_stT7 (k := j) (v := v) hx hb hK hI hS (by omega) dX5_gate_44 (fun H locs hI hS => ?_)
      refine lv_aload_n hx hb dX5_gate_45 rfl (lv_at hl 1 rfl) ?_
      refine cy_getT (v := .ref (ad 28)) hx hb hts hin5 hown hK hI 8 (by decide) (hts (.fieldLink RX5 32 "CustomsYardModel" "sums" "[J") (by decide +kernel)) rfl dX5_gate_46 ?_
      refine lv_iload_n hx hb dX5_gate_49 rfl (lv_at hl 2 rfl) ?_
      refine lv_lconst (v := 0) hx hb dX5_gate_50 (by decide) ?_
      refine cy_stT8 (k := j) (v := 0) hx hb hK hI hS (by omega) dX5_gate_51 (fun H locs hI hS => ?_)
      refine lv_iload_n hx hb dX5_gate_52 rfl (lv_at hl 0 rfl) ?_
      have E : cy_oGate τ (nI j) v = (τ.1 6 j, cy_l (cy_i (cy_i τ 0 2 0) 6 j v) 1 j 0) := by first | (simp [cy_oGate, cy_z, nI_clamp (show j < 2 ^ 31 by omega), b1]; done) | (simp [cy_oGate, cy_z, nI_clamp (show j < 2 ^ 31 by omega), b1]; simp [h4]; done) | (simp [cy_oGate, cy_z, nI_clamp (show j < 2 ^ 31 by omega), b1, h4]; done)
      rw [E]
      exact W.iret (v := τ.1 6 j) hx hb hr (fun t ht hW => ⟨(), rfl, by rw [ht]; exact hI, hS.F ht⟩) hS.2.2 dX5_gate_53
    · refine lv_iload_n hx hb dX5_gate_17 rfl (lv_at hl 2 rfl) ?_
      refine cy_callp (v := .int (cy_b (cy_vw v))) (va_runS (As := [.int v]) (rest := []) ⟨hx, hb, hml, hown, hts⟩ (c_X5_isView l v) (va_cwS 1 hts gX5_gate_X5_isView rfl rfl rfl (by decide +kernel) ⟨Nat.le_of_ble_eq_true rfl, Nat.le_of_ble_eq_true rfl⟩) preEq rfl rfl hl.1 rfl (lv_room (Nat.le_of_ble_eq_true rfl)) dX5_gate_18 ⟨Nat.le_of_ble_eq_true rfl, Nat.le_of_ble_eq_true rfl⟩) ?_
      cases b5 : (cy_vw v)
      · refine lv_if_ne (tgt := 31) hx hb dX5_gate_21 (by decide) (fun h6 => absurd (by decide) h6) (fun h6 => ?_)
        refine lv_aload_n hx hb dX5_gate_24 rfl (lv_at hl 0 rfl) ?_
        refine lv_bipush (v := -2) hx hb dX5_gate_25 (by decide) ?_
        refine cy_callm (va_runV (As := [.int (-2)]) (rest := []) ⟨hx, hb, hml, hown, hts⟩ (c_X5_no l D cI cJ cO z n na σ (cy_i τ 0 2 0) pl hi ad (-2)) (cwV 1 hts gX5_gate_X5_no rfl rfl rfl (by decide +kernel) ⟨Nat.le_of_ble_eq_true rfl, Nat.le_of_ble_eq_true rfl⟩) (cy_preV hK hI (cy_recv hK (hI.1 20 _ cy_CR).1 rfl)) rfl rfl hl.1 rfl (lv_room (Nat.le_of_ble_eq_true rfl)) dX5_gate_27 ⟨Nat.le_of_ble_eq_true rfl, Nat.le_of_ble_eq_true rfl⟩) hS (fun u H locs hI hz hS => ?_)
        have hI : cy_W D z (cy_CT cI cJ cO n na σ (cy_no (cy_i τ 0 2 0) (-2)) pl hi ad) ad H := hI
        refine W.eq (g2 := F0 m 30 ls [.int (-2)]) rfl ?_
        have E : cy_oGate τ (nI j) v = ((-2), cy_no (cy_i τ 0 2 0) (-2)) := by first | (simp [cy_oGate, cy_z, nI_clamp (show j < 2 ^ 31 by omega), b1, b5]; done) | (simp [cy_oGate, cy_z, nI_clamp (show j < 2 ^ 31 by omega), b1, b5]; simp [h4]; done) | (simp [cy_oGate, cy_z, nI_clamp (show j < 2 ^ 31 by omega), b1, b5, h4]; done)
        rw [E]
        exact W.iret (v := (-2)) hx hb hr (fun t ht hW => ⟨(), rfl, by rw [ht]; exact hI, hS.F ht⟩) hS.2.2 dX5_gate_30
      · refine lv_if_ne (tgt := 31) hx hb dX5_gate_21 (by decide) (fun h7 => ?_) (fun h7 => absurd h7 (by decide))
        refine lv_aload_n hx hb dX5_gate_31 rfl (lv_at hl 0 rfl) ?_
        refine cy_getT (v := .ref (ad 27)) hx hb hts hin5 hown hK hI 7 (by decide) (hts (.fieldLink RX5 29 "CustomsYardModel" "gates" "[I") (by decide +kernel)) rfl dX5_gate_32 ?_
        refine lv_iload_n hx hb dX5_gate_35 rfl (lv_at hl 1 rfl) ?_
        refine cy_iald (f := τ.1 6) (k := j) hx hb hK.1 hI 0 (x := 27) rfl rfl (by omega) (by decide) dX5_gate_36 ?_
        refine lv_istore_n (lv' := [(3, .int (τ.1 6 j)), (0, .ref (ad 20)), (1, .int (nI j)), (2, .int v)]) hx hb dX5_gate_37 rfl hl (by decide) rfl (fun ls hl => ?_)
        refine lv_aload_n hx hb dX5_gate_38 rfl (lv_at hl 1 rfl) ?_
        refine cy_getT (v := .ref (ad 27)) hx hb hts hin5 hown hK hI 7 (by decide) (hts (.fieldLink RX5 29 "CustomsYardModel" "gates" "[I") (by decide +kernel)) rfl dX5_gate_39 ?_
        refine lv_iload_n hx hb dX5_gate_42 rfl (lv_at hl 2 rfl) ?_
        refine lv_iload_n hx hb dX5_gate_43 rfl (lv_at hl 3 rfl) ?_
        refine cy_stT7 (k := j) (v := v) hx hb hK hI hS (by omega) dX5_gate_44 (fun H locs hI hS => ?_)
        refine lv_aload_n hx hb dX5_gate_45 rfl (lv_at hl 1 rfl) ?_
        refine cy_getT (v := .ref (ad 28)) hx hb hts hin5 hown hK hI 8 (by decide) (hts (.fieldLink RX5 32 "CustomsYardModel" "sums" "[J") (by decide +kernel)) rfl dX5_gate_46 ?_
        refine lv_iload_n hx hb dX5_gate_49 rfl (lv_at hl 2 rfl) ?_
        refine lv_lconst (v := 0) hx hb dX5_gate_50 (by decide) ?_
        refine cy_stT8 (k := j) (v := 0) hx hb hK hI hS (by omega) dX5_gate_51 (fun H locs hI hS => ?_)
        refine lv_iload_n hx hb dX5_gate_52 rfl (lv_at hl 0 rfl) ?_
        have E : cy_oGate τ (nI j) v = (τ.1 6 j, cy_l (cy_i (cy_i τ 0 2 0) 6 j v) 1 j 0) := by first | (simp [cy_oGate, cy_z, nI_clamp (show j < 2 ^ 31 by omega), b1, b5]; done) | (simp [cy_oGate, cy_z, nI_clamp (show j < 2 ^ 31 by omega), b1, b5]; simp [h4]; done) | (simp [cy_oGate, cy_z, nI_clamp (show j < 2 ^ 31 by omega), b1, b5, h4]; done)
        rw [E]
        exact W.iret (v := τ.1 6 j) hx hb hr (fun t ht hW => ⟨(), rfl, by rw [ht]; exact hI, hS.F ht⟩) hS.2.2 dX5_gate_53

set_option maxHeartbeats 4000000 in
set_option maxRecDepth 100000 in
theorem c_X5_passed (l : Launch) (D : va_G) (cI cJ cO : ClassId) (z n na : Nat) (σ τ : cy_S) (pl : Nat → Int32) (hi : Int32) (ad : Nat → Nat) (nt : Nat) (hok : cy_ok nt τ) (g : Int32)  : Met l yX5_passed wsX5_passed { frames := 2, cells := 0, slots := 0, locals := 42 } (cy_P D cI cJ cO (fun H => cy_W D z (cy_CT cI cJ cO n na σ τ pl hi ad) ad H) [.ref (ad 20), .int g]) (cy_M (S := Unit) z (fun _ => some (.long (cy_oPassed τ g).1)) (fun _ H => cy_W D z (cy_CT cI cJ cO n na σ (cy_oPassed τ g).2 pl hi ad) ad H)) 0 0 (fun q => z ≤ q) := by
  refine Met.ofW (cc := cX5_passed) (maxL := 2) (ret := (some .long)) (by decide) rfl ?_
  intro p e s m args below meth c s₁ B hml hv
  obtain ⟨rfl, hK, hI⟩ := hv
  have hx := B.exec
  have hb := B.bytes
  have hr := B.returns
  have hts := atoms_spec (ws := wsX5_passed) B.pre
  have hown : s.vm.findClass RX5 = some m.cls := findClass_of_methodNamed B.named
  have hlocks := B.notSynchronized
  have hS : va_S (fun q => z ≤ q) s.heap s.heap [] := va_S.rf
  have hl := lv_entry ([.ref (ad 20), .int g]) (n := 2) (Nat.le_of_ble_eq_true rfl)
  rw [lg_entry_eq]
  generalize (lg_sl ([.ref (ad 20), .int g]) ++ List.replicate (2 - (lg_sl ([.ref (ad 20), .int g])).length) Slot.unset).toArray = ls at hl ⊢
  have hl : lv_has ls 2 [(0, .ref (ad 20)), (1, .int g)] := hl
  have hin5 := hin5_X5_passed
  have h0 := hok.2.1
  have hn := hok.1
  refine lv_aload_n hx hb dX5_passed_0 rfl (lv_at hl 0 rfl) ?_
  refine lv_iload_n hx hb dX5_passed_1 rfl (lv_at hl 1 rfl) ?_
  refine cy_callp (v := .int (cy_b (cy_gt g))) (va_runS (As := [.int g]) (rest := [.ref (ad 20)]) ⟨hx, hb, hml, hown, hts⟩ (c_X5_isGate l g) (va_cwS 1 hts gX5_passed_X5_isGate rfl rfl rfl (by decide +kernel) ⟨Nat.le_of_ble_eq_true rfl, Nat.le_of_ble_eq_true rfl⟩) preEq rfl rfl hl.1 rfl (lv_room (Nat.le_of_ble_eq_true rfl)) dX5_passed_2 ⟨Nat.le_of_ble_eq_true rfl, Nat.le_of_ble_eq_true rfl⟩) ?_
  cases b1 : (cy_gt g)
  · refine lv_if_eq (tgt := 12) hx hb dX5_passed_5 (by decide) (fun h2 => ?_) (fun h2 => absurd (by decide) h2)
    refine lv_bipush (v := -2) hx hb dX5_passed_12 (by decide) ?_
    refine cy_putT (v := (-2)) hx hb hts hin5 hown hK hI hS 12 2 (by decide) (hts (.fieldLink RX5 52 "CustomsYardModel" "refused" "I") (by decide +kernel)) rfl (by decide +kernel) rfl dX5_passed_14 (fun H locs hI hS => ?_)
    refine lv_aload_n hx hb dX5_passed_17 rfl (lv_at hl 0 rfl) ?_
    refine cy_getT (v := .int (-2)) hx hb hts hin5 hown hK hI 12 (by decide) (hts (.fieldLink RX5 52 "CustomsYardModel" "refused" "I") (by decide +kernel)) rfl dX5_passed_18 ?_
    refine lv_if_ne (tgt := 33) hx hb dX5_passed_21 (by decide) (fun h3 => ?_) (fun h3 => absurd h3 (by decide))
    refine lv_lconst (v := 0) hx hb dX5_passed_33 (by decide) ?_
    have E : cy_oPassed τ g = (0, cy_i τ 0 2 (-2)) := by simp [cy_oPassed, cy_z, cy_nb2, b1]
    rw [E]
    exact W.lret (v := 0) hx hb hr (fun t ht hW => ⟨(), rfl, by rw [ht]; exact hI, hS.F ht⟩) hS.2.2 dX5_passed_34
  · obtain ⟨j, hj, rfl⟩ := (cy_in6 _).mp b1
    refine lv_if_eq (tgt := 12) hx hb dX5_passed_5 (by decide) (fun h4 => absurd h4 (by decide)) (fun h4 => ?_)
    refine lv_iconst (v := 0) hx hb dX5_passed_8 (by decide) ?_
    refine lv_goto (tgt := 14) hx hb dX5_passed_9 (by decide) ?_
    refine cy_putT (v := 0) hx hb hts hin5 hown hK hI hS 12 2 (by decide) (hts (.fieldLink RX5 52 "CustomsYardModel" "refused" "I") (by decide +kernel)) rfl (by decide +kernel) rfl dX5_passed_14 (fun H locs hI hS => ?_)
    refine lv_aload_n hx hb dX5_passed_17 rfl (lv_at hl 0 rfl) ?_
    refine cy_getT (v := .int 0) hx hb hts hin5 hown hK hI 12 (by decide) (hts (.fieldLink RX5 52 "CustomsYardModel" "refused" "I") (by decide +kernel)) rfl dX5_passed_18 ?_
    refine lv_if_ne (tgt := 33) hx hb dX5_passed_21 (by decide) (fun h5 => absurd (by decide) h5) (fun h5 => ?_)
    refine lv_aload_n hx hb dX5_passed_24 rfl (lv_at hl 0 rfl) ?_
    refine cy_getT (v := .ref (ad 28)) hx hb hts hin5 hown hK hI 8 (by decide) (hts (.fieldLink RX5 32 "CustomsYardModel" "sums" "[J") (by decide +kernel)) rfl dX5_passed_25 ?_
    refine lv_iload_n hx hb dX5_passed_28 rfl (lv_at hl 1 rfl) ?_
    refine cy_lald (f := τ.2 1) (k := j) hx hb hK.1 hI 1 (x := 28) rfl rfl (by omega) (by decide) dX5_passed_29 ?_
    refine lv_goto (tgt := 34) hx hb dX5_passed_30 (by decide) ?_
    have E : cy_oPassed τ (nI j) = (τ.2 1 j, cy_i τ 0 2 0) := by simp [cy_oPassed, cy_z, cy_nb2, nI_clamp (show j < 2 ^ 31 by omega), b1]
    rw [E]
    exact W.lret (v := τ.2 1 j) hx hb hr (fun t ht hW => ⟨(), rfl, by rw [ht]; exact hI, hS.F ht⟩) hS.2.2 dX5_passed_34

set_option maxHeartbeats 4000000 in
set_option maxRecDepth 100000 in
theorem c_X5_tariff (l : Launch) (D : va_G) (cI cJ cO : ClassId) (z n na : Nat) (σ τ : cy_S) (pl : Nat → Int32) (hi : Int32) (ad : Nat → Nat) (nt : Nat) (hok : cy_ok nt τ) (v r : Int32)  : Met l yX5_tariff wsX5_tariff { frames := 2, cells := 0, slots := 0, locals := 42 } (cy_P D cI cJ cO (fun H => cy_W D z (cy_CT cI cJ cO n na σ τ pl hi ad) ad H) [.ref (ad 20), .int v, .int r]) (cy_M (S := Unit) z (fun _ => some (.int (cy_oTariff τ v r).1)) (fun _ H => cy_W D z (cy_CT cI cJ cO n na σ (cy_oTariff τ v r).2 pl hi ad) ad H)) 0 0 (fun q => z ≤ q) := by
  refine Met.ofW (cc := cX5_tariff) (maxL := 3) (ret := (some .int)) (by decide) rfl ?_
  intro p e s m args below meth c s₁ B hml hv
  obtain ⟨rfl, hK, hI⟩ := hv
  have hx := B.exec
  have hb := B.bytes
  have hr := B.returns
  have hts := atoms_spec (ws := wsX5_tariff) B.pre
  have hown : s.vm.findClass RX5 = some m.cls := findClass_of_methodNamed B.named
  have hlocks := B.notSynchronized
  have hS : va_S (fun q => z ≤ q) s.heap s.heap [] := va_S.rf
  have hl := lv_entry ([.ref (ad 20), .int v, .int r]) (n := 3) (Nat.le_of_ble_eq_true rfl)
  rw [lg_entry_eq]
  generalize (lg_sl ([.ref (ad 20), .int v, .int r]) ++ List.replicate (3 - (lg_sl ([.ref (ad 20), .int v, .int r])).length) Slot.unset).toArray = ls at hl ⊢
  have hl : lv_has ls 3 [(0, .ref (ad 20)), (1, .int v), (2, .int r)] := hl
  have hin5 := hin5_X5_tariff
  have h0 := hok.2.1
  have hn := hok.1
  obtain ⟨q, hq, eq⟩ := hok.2.2.2.2
  refine lv_aload_n hx hb dX5_tariff_0 rfl (lv_at hl 0 rfl) ?_
  refine lv_iconst (v := 0) hx hb dX5_tariff_1 (by decide) ?_
  refine cy_putT (v := 0) hx hb hts hin5 hown hK hI hS 12 2 (by decide) (hts (.fieldLink RX5 52 "CustomsYardModel" "refused" "I") (by decide +kernel)) rfl (by decide +kernel) rfl dX5_tariff_2 (fun H locs hI hS => ?_)
  refine lv_iload_n hx hb dX5_tariff_5 rfl (lv_at hl 1 rfl) ?_
  refine cy_callp (v := .int (cy_b (cy_vw v))) (va_runS (As := [.int v]) (rest := []) ⟨hx, hb, hml, hown, hts⟩ (c_X5_isView l v) (va_cwS 1 hts gX5_tariff_X5_isView rfl rfl rfl (by decide +kernel) ⟨Nat.le_of_ble_eq_true rfl, Nat.le_of_ble_eq_true rfl⟩) preEq rfl rfl hl.1 rfl (lv_room (Nat.le_of_ble_eq_true rfl)) dX5_tariff_6 ⟨Nat.le_of_ble_eq_true rfl, Nat.le_of_ble_eq_true rfl⟩) ?_
  cases b1 : (cy_vw v)
  · refine lv_if_eq (tgt := 23) hx hb dX5_tariff_9 (by decide) (fun h2 => ?_) (fun h2 => absurd (by decide) h2)
    refine lv_aload_n hx hb dX5_tariff_23 rfl (lv_at hl 0 rfl) ?_
    refine lv_bipush (v := -2) hx hb dX5_tariff_24 (by decide) ?_
    refine cy_callm (va_runV (As := [.int (-2)]) (rest := []) ⟨hx, hb, hml, hown, hts⟩ (c_X5_no l D cI cJ cO z n na σ (cy_i τ 0 2 0) pl hi ad (-2)) (cwV 1 hts gX5_tariff_X5_no rfl rfl rfl (by decide +kernel) ⟨Nat.le_of_ble_eq_true rfl, Nat.le_of_ble_eq_true rfl⟩) (cy_preV hK hI (cy_recv hK (hI.1 20 _ cy_CR).1 rfl)) rfl rfl hl.1 rfl (lv_room (Nat.le_of_ble_eq_true rfl)) dX5_tariff_26 ⟨Nat.le_of_ble_eq_true rfl, Nat.le_of_ble_eq_true rfl⟩) hS (fun u H locs hI hz hS => ?_)
    have hI : cy_W D z (cy_CT cI cJ cO n na σ (cy_no (cy_i τ 0 2 0) (-2)) pl hi ad) ad H := hI
    refine W.eq (g2 := F0 m 29 ls [.int (-2)]) rfl ?_
    have E : cy_oTariff τ v r = ((-2), cy_no (cy_i τ 0 2 0) (-2)) := by simp [cy_oTariff, cy_z, b1, eq, nI_clamp (show q < 2 ^ 31 by omega), nI_1]
    rw [E]
    exact W.iret (v := (-2)) hx hb hr (fun t ht hW => ⟨(), rfl, by rw [ht]; exact hI, hS.F ht⟩) hS.2.2 dX5_tariff_29
  · refine lv_if_eq (tgt := 23) hx hb dX5_tariff_9 (by decide) (fun h3 => absurd h3 (by decide)) (fun h3 => ?_)
    refine lv_iload_n hx hb dX5_tariff_12 rfl (lv_at hl 2 rfl) ?_
    refine lv_bipush (v := -100) hx hb dX5_tariff_13 (by decide) ?_
    refine lv_bipush (v := 100) hx hb dX5_tariff_15 (by decide) ?_
    refine cy_callp (v := .int (cy_b (cy_isIn r (-100) 100))) (va_runS (As := [.int r, .int (-100), .int 100]) (rest := []) ⟨hx, hb, hml, hown, hts⟩ (c_X5_isIn l r (-100) 100) (va_cwS 3 hts gX5_tariff_X5_isIn rfl rfl rfl (by decide +kernel) ⟨Nat.le_of_ble_eq_true rfl, Nat.le_of_ble_eq_true rfl⟩) preEq rfl rfl hl.1 rfl (lv_room (Nat.le_of_ble_eq_true rfl)) dX5_tariff_17 ⟨Nat.le_of_ble_eq_true rfl, Nat.le_of_ble_eq_true rfl⟩) ?_
    cases b4 : (cy_isIn r (-100) 100)
    · refine lv_if_ne (tgt := 30) hx hb dX5_tariff_20 (by decide) (fun h5 => absurd (by decide) h5) (fun h5 => ?_)
      refine lv_aload_n hx hb dX5_tariff_23 rfl (lv_at hl 0 rfl) ?_
      refine lv_bipush (v := -2) hx hb dX5_tariff_24 (by decide) ?_
      refine cy_callm (va_runV (As := [.int (-2)]) (rest := []) ⟨hx, hb, hml, hown, hts⟩ (c_X5_no l D cI cJ cO z n na σ (cy_i τ 0 2 0) pl hi ad (-2)) (cwV 1 hts gX5_tariff_X5_no rfl rfl rfl (by decide +kernel) ⟨Nat.le_of_ble_eq_true rfl, Nat.le_of_ble_eq_true rfl⟩) (cy_preV hK hI (cy_recv hK (hI.1 20 _ cy_CR).1 rfl)) rfl rfl hl.1 rfl (lv_room (Nat.le_of_ble_eq_true rfl)) dX5_tariff_26 ⟨Nat.le_of_ble_eq_true rfl, Nat.le_of_ble_eq_true rfl⟩) hS (fun u H locs hI hz hS => ?_)
      have hI : cy_W D z (cy_CT cI cJ cO n na σ (cy_no (cy_i τ 0 2 0) (-2)) pl hi ad) ad H := hI
      refine W.eq (g2 := F0 m 29 ls [.int (-2)]) rfl ?_
      have E : cy_oTariff τ v r = ((-2), cy_no (cy_i τ 0 2 0) (-2)) := by simp [cy_oTariff, cy_z, b1, b4, eq, nI_clamp (show q < 2 ^ 31 by omega), nI_1]
      rw [E]
      exact W.iret (v := (-2)) hx hb hr (fun t ht hW => ⟨(), rfl, by rw [ht]; exact hI, hS.F ht⟩) hS.2.2 dX5_tariff_29
    · refine lv_if_ne (tgt := 30) hx hb dX5_tariff_20 (by decide) (fun h6 => ?_) (fun h6 => absurd h6 (by decide))
      refine lv_aload_n hx hb dX5_tariff_30 rfl (lv_at hl 0 rfl) ?_
      refine cy_getT (v := .int (τ.1 0 1)) hx hb hts hin5 hown hK hI 9 (by decide) (hts (.fieldLink RX5 122 "CustomsYardModel" "lines" "I") (by decide +kernel)) rfl dX5_tariff_31 ?_
      refine cy_topi (y := nI q) (eq) ?_
      refine lv_bipush (v := 10) hx hb dX5_tariff_34 (by decide) ?_
      refine lv_icmp_ne (tgt := 46) hx hb dX5_tariff_36 (by decide) (fun h7 => ?_) (fun h7 => ?_)
      · refine lv_aload_n hx hb dX5_tariff_46 rfl (lv_at hl 0 rfl) ?_
        refine cy_getT (v := .ref (ad 29)) hx hb hts hin5 hown hK hI 10 (by decide) (hts (.fieldLink RX5 35 "CustomsYardModel" "views" "[I") (by decide +kernel)) rfl dX5_tariff_47 ?_
        refine lv_aload_n hx hb dX5_tariff_50 rfl (lv_at hl 0 rfl) ?_
        refine cy_getT (v := .int (τ.1 0 1)) hx hb hts hin5 hown hK hI 9 (by decide) (hts (.fieldLink RX5 122 "CustomsYardModel" "lines" "I") (by decide +kernel)) rfl dX5_tariff_51 ?_
        refine cy_topi (y := nI q) (eq) ?_
        refine lv_iload_n hx hb dX5_tariff_54 rfl (lv_at hl 1 rfl) ?_
        refine cy_stT9 (k := q) (v := v) hx hb hK hI hS (cy_lt10 hq (by assumption)) dX5_tariff_55 (fun H locs hI hS => ?_)
        refine lv_aload_n hx hb dX5_tariff_56 rfl (lv_at hl 0 rfl) ?_
        refine cy_getT (v := .ref (ad 30)) hx hb hts hin5 hown hK hI 11 (by decide) (hts (.fieldLink RX5 38 "CustomsYardModel" "rates" "[I") (by decide +kernel)) rfl dX5_tariff_57 ?_
        refine lv_aload_n hx hb dX5_tariff_60 rfl (lv_at hl 0 rfl) ?_
        refine cy_getT (v := .int (τ.1 0 1)) hx hb hts hin5 hown hK hI 9 (by decide) (hts (.fieldLink RX5 122 "CustomsYardModel" "lines" "I") (by decide +kernel)) rfl dX5_tariff_61 ?_
        refine cy_topi (y := nI q) (eq) ?_
        refine lv_iload_n hx hb dX5_tariff_64 rfl (lv_at hl 2 rfl) ?_
        refine cy_stT10 (k := q) (v := r) hx hb hK hI hS (cy_lt10 hq (by assumption)) dX5_tariff_65 (fun H locs hI hS => ?_)
        refine lv_aload_n hx hb dX5_tariff_66 rfl (lv_at hl 0 rfl) ?_
        refine lv_dup hx hb dX5_tariff_67 rfl ?_
        refine cy_getT (v := .int (τ.1 0 1)) hx hb hts hin5 hown hK hI 9 (by decide) (hts (.fieldLink RX5 122 "CustomsYardModel" "lines" "I") (by decide +kernel)) rfl dX5_tariff_68 ?_
        refine cy_topi (y := nI q) (eq) ?_
        refine lv_iconst (v := 1) hx hb dX5_tariff_71 (by decide) ?_
        refine lv_iadd hx hb dX5_tariff_72 ?_
        refine cy_topi (y := nI (q + 1)) (nI_1 q) ?_
        refine cy_putT (v := nI (q + 1)) hx hb hts hin5 hown hK hI hS 9 1 (by decide) (hts (.fieldLink RX5 122 "CustomsYardModel" "lines" "I") (by decide +kernel)) rfl (by decide +kernel) rfl dX5_tariff_73 (fun H locs hI hS => ?_)
        refine lv_aload_n hx hb dX5_tariff_76 rfl (lv_at hl 0 rfl) ?_
        refine cy_getT (v := .int (nI (q + 1))) hx hb hts hin5 hown hK hI 9 (by decide) (hts (.fieldLink RX5 122 "CustomsYardModel" "lines" "I") (by decide +kernel)) rfl dX5_tariff_77 ?_
        have E : cy_oTariff τ v r = (nI (q + 1), cy_i (cy_i (cy_i (cy_i τ 0 2 0) 7 q v) 8 q r) 0 1 (nI (q + 1))) := by simp [cy_oTariff, cy_z, b1, b4, eq, nI_clamp (show q < 2 ^ 31 by omega), nI_1, h7]
        rw [E]
        exact W.iret (v := nI (q + 1)) hx hb hr (fun t ht hW => ⟨(), rfl, by rw [ht]; exact hI, hS.F ht⟩) hS.2.2 dX5_tariff_80
      · refine lv_aload_n hx hb dX5_tariff_39 rfl (lv_at hl 0 rfl) ?_
        refine lv_bipush (v := -3) hx hb dX5_tariff_40 (by decide) ?_
        refine cy_callm (va_runV (As := [.int (-3)]) (rest := []) ⟨hx, hb, hml, hown, hts⟩ (c_X5_no l D cI cJ cO z n na σ (cy_i τ 0 2 0) pl hi ad (-3)) (cwV 1 hts gX5_tariff_X5_no rfl rfl rfl (by decide +kernel) ⟨Nat.le_of_ble_eq_true rfl, Nat.le_of_ble_eq_true rfl⟩) (cy_preV hK hI (cy_recv hK (hI.1 20 _ cy_CR).1 rfl)) rfl rfl hl.1 rfl (lv_room (Nat.le_of_ble_eq_true rfl)) dX5_tariff_42 ⟨Nat.le_of_ble_eq_true rfl, Nat.le_of_ble_eq_true rfl⟩) hS (fun u H locs hI hz hS => ?_)
        have hI : cy_W D z (cy_CT cI cJ cO n na σ (cy_no (cy_i τ 0 2 0) (-3)) pl hi ad) ad H := hI
        refine W.eq (g2 := F0 m 45 ls [.int (-3)]) rfl ?_
        have E : cy_oTariff τ v r = ((-3), cy_no (cy_i τ 0 2 0) (-3)) := by simp [cy_oTariff, cy_z, b1, b4, eq, nI_clamp (show q < 2 ^ 31 by omega), nI_1, h7]
        rw [E]
        exact W.iret (v := (-3)) hx hb hr (fun t ht hW => ⟨(), rfl, by rw [ht]; exact hI, hS.F ht⟩) hS.2.2 dX5_tariff_45
end
section
/-- the first line from i on, of f more, whose view load k goes as -/
def cy_lf (σ : cy_S) (k : Nat) : Nat → Nat → Int32
  | 0, _ => -1
  | f + 1, i => if cy_go (σ.1 1 k) (σ.1 7 i) = true then nI i else cy_lf σ k f (i + 1)
theorem cy_lf_z (σ : cy_S) (k : Nat) (w : Int32) : ∀ f i, cy_lf (cy_i σ 0 2 w) k f i = cy_lf σ k f i
  | 0, _ => rfl
  | f + 1, i => by
    unfold cy_lf
    rw [cy_lf_z σ k w f (i + 1)]
    rfl
theorem cy_lf_cases (σ : cy_S) (k : Nat) : ∀ f i, cy_lf σ k f i = -1 ∨ ∃ j : Nat, i ≤ j ∧ j < i + f ∧ cy_lf σ k f i = nI j
  | 0, _ => Or.inl rfl
  | f + 1, i => by
    unfold cy_lf
    by_cases h : cy_go (σ.1 1 k) (σ.1 7 i) = true
    · rw [if_pos h]
      exact Or.inr ⟨i, Nat.le_refl _, by omega, rfl⟩
    · rw [if_neg h]
      rcases cy_lf_cases σ k f (i + 1) with h1 | ⟨j, h1, h2, h3⟩
      · exact Or.inl h1
      · exact Or.inr ⟨j, by omega, by omega, h3⟩
def cy_li (σ : cy_S) (k : Nat) : Int32 := cy_lf σ k (σ.1 0 1).toNatClampNeg 0
theorem cy_li_z (σ : cy_S) (k : Nat) (w : Int32) : cy_li (cy_i σ 0 2 w) k = cy_li σ k := cy_lf_z σ k w _ _
def cy_oLine (n : Nat) (σ : cy_S) (l : Int32) : Int32 × cy_S := if cy_ld n l = false then (-2, cy_no (cy_z σ) (-2)) else (cy_li σ l.toNatClampNeg, cy_z σ)
def cy_oDuty (n : Nat) (σ : cy_S) (l : Int32) : Int32 × cy_S := if cy_ld n l = false then (0, cy_no (cy_z σ) (-2)) else if cy_li σ l.toNatClampNeg = -1 then (0, cy_z σ) else (σ.1 8 (cy_li σ l.toNatClampNeg).toNatClampNeg * cy_co σ l.toNatClampNeg (σ.1 7 (cy_li σ l.toNatClampNeg).toNatClampNeg), cy_z σ)
theorem hin5_X5_lineOf : ∀ w ∈ u_ws RX5 TX5 19, w ∈ wsX5_lineOf := by decide +kernel
theorem hin5_X5_line : ∀ w ∈ u_ws RX5 TX5 19, w ∈ wsX5_line := by decide +kernel
theorem hin5_X5_duty : ∀ w ∈ u_ws RX5 TX5 19, w ∈ wsX5_duty := by decide +kernel
set_option maxHeartbeats 4000000 in
set_option maxRecDepth 100000 in
theorem c_X5_lineOf (l : Launch) (D : va_G) (cI cJ cO : ClassId) (z n na : Nat) (σ τ : cy_S) (pl : Nat → Int32) (hi : Int32) (ad : Nat → Nat) (nt : Nat) (hok : cy_ok nt τ) (k : Nat) (hk : k < 80) : Met l yX5_lineOf wsX5_lineOf { frames := 1, cells := 0, slots := 0, locals := 21 } (cy_P D cI cJ cO (fun H => cy_W D z (cy_CT cI cJ cO n na σ τ pl hi ad) ad H) [.ref (ad 20), .int (nI k)]) (cy_Q (.int (cy_li τ k))) 0 0 (fun _ => False) := by
  refine Met.ofW (cc := cX5_lineOf) (maxL := 3) (ret := (some .int)) (by decide) rfl ?_
  intro p e s m args below meth c s₁ B hml hv
  obtain ⟨rfl, hK, hI⟩ := hv
  have hx := B.exec
  have hb := B.bytes
  have hr := B.returns
  have hts := atoms_spec (ws := wsX5_lineOf) B.pre
  have hown : s.vm.findClass RX5 = some m.cls := findClass_of_methodNamed B.named
  have hlocks := B.notSynchronized
  have hl := lv_entry ([.ref (ad 20), .int (nI k)]) (n := 3) (Nat.le_of_ble_eq_true rfl)
  rw [lg_entry_eq]
  generalize (lg_sl ([.ref (ad 20), .int (nI k)]) ++ List.replicate (3 - (lg_sl ([.ref (ad 20), .int (nI k)])).length) Slot.unset).toArray = ls at hl ⊢
  have hl : lv_has ls 3 [(0, .ref (ad 20)), (1, .int (nI k))] := hl
  have hin5 := hin5_X5_lineOf
  obtain ⟨q, hq, eq⟩ := hok.2.2.2.2
  refine lv_iconst (v := 0) hx hb dX5_lineOf_0 (by decide) ?_
  refine lv_istore_n (lv' := [(2, .int 0), (0, .ref (ad 20)), (1, .int (nI k))]) hx hb dX5_lineOf_1 rfl hl (by decide) rfl (fun ls hl => ?_)
  have loop : ∀ (f i : Nat) (ls : Array Slot), i + f = q → lv_has ls 3 [(2, .int (nI i)), (0, .ref (ad 20)), (1, .int (nI k))] → cy_li τ k = cy_lf τ k f i → W p l e (headSpec wsX5_lineOf { frames := 1, cells := 0, slots := 0, locals := 21 }).room s m #[Value.ref (ad 20), Value.int (nI k)] below meth c s.heap [] 0 0 (MQ below (cy_Q (.int (cy_li τ k))) #[Value.ref (ad 20), Value.int (nI k)] s 0 0 (fun _ => False)) (F0 m 2 ls []) := by
    intro f
    induction f with
    | zero =>
      intro i ls hif hl hE
      obtain rfl : i = q := by omega
      refine lv_iload_n hx hb dX5_lineOf_2 rfl (lv_at hl 0 rfl) ?_
      refine lv_aload_n hx hb dX5_lineOf_3 rfl (lv_at hl 1 rfl) ?_
      refine cy_getT (v := .int (τ.1 0 1)) hx hb hts hin5 hown hK hI 9 (by decide) (hts (.fieldLink RX5 122 "CustomsYardModel" "lines" "I") (by decide +kernel)) rfl dX5_lineOf_4 ?_
      refine cy_topi (y := nI i) (eq) ?_
      refine lv_icmp_ge (tgt := 34) hx hb dX5_lineOf_7 (by decide) (fun h1 => ?_) (fun h1 => absurd (nI_le (Nat.le_refl _) (by omega)) h1)
      refine lv_iload_n hx hb dX5_lineOf_34 rfl (lv_at hl 0 rfl) ?_
      refine lv_aload_n hx hb dX5_lineOf_35 rfl (lv_at hl 1 rfl) ?_
      refine cy_getT (v := .int (τ.1 0 1)) hx hb hts hin5 hown hK hI 9 (by decide) (hts (.fieldLink RX5 122 "CustomsYardModel" "lines" "I") (by decide +kernel)) rfl dX5_lineOf_36 ?_
      refine cy_topi (y := nI i) (eq) ?_
      refine lv_icmp_ge (tgt := 46) hx hb dX5_lineOf_39 (by decide) (fun h2 => ?_) (fun h2 => absurd (nI_le (Nat.le_refl _) (by omega)) h2)
      refine lv_iconst (v := -1) hx hb dX5_lineOf_46 (by decide) ?_
      exact W.iret (v := (-1)) hx hb hr (fun t ht hW => ⟨congrArg (fun q => Outcome.returned (some (Value.int q))) (by rw [hE]; rfl), ht⟩) (fun q h => by cases h) dX5_lineOf_47
    | succ f ih =>
      intro i ls hif hl hE
      refine lv_iload_n hx hb dX5_lineOf_2 rfl (lv_at hl 0 rfl) ?_
      refine lv_aload_n hx hb dX5_lineOf_3 rfl (lv_at hl 1 rfl) ?_
      refine cy_getT (v := .int (τ.1 0 1)) hx hb hts hin5 hown hK hI 9 (by decide) (hts (.fieldLink RX5 122 "CustomsYardModel" "lines" "I") (by decide +kernel)) rfl dX5_lineOf_4 ?_
      refine cy_topi (y := nI q) (eq) ?_
      refine lv_icmp_ge (tgt := 34) hx hb dX5_lineOf_7 (by decide) (fun h3 => absurd h3 (nI_ge (by omega) (by omega))) (fun h3 => ?_)
      refine lv_aload_n hx hb dX5_lineOf_10 rfl (lv_at hl 1 rfl) ?_
      refine cy_getT (v := .ref (ad 21)) hx hb hts hin5 hown hK hI 1 (by decide) (hts (.fieldLink RX5 7 "CustomsYardModel" "sorts" "[I") (by decide +kernel)) rfl dX5_lineOf_11 ?_
      refine lv_iload_n hx hb dX5_lineOf_14 rfl (lv_at hl 2 rfl) ?_
      refine cy_iald (f := τ.1 1) (k := k) hx hb hK.1 hI 0 (x := 21) rfl rfl (by omega) (by decide) dX5_lineOf_15 ?_
      refine lv_aload_n hx hb dX5_lineOf_16 rfl (lv_at hl 1 rfl) ?_
      refine cy_getT (v := .ref (ad 29)) hx hb hts hin5 hown hK hI 10 (by decide) (hts (.fieldLink RX5 35 "CustomsYardModel" "views" "[I") (by decide +kernel)) rfl dX5_lineOf_17 ?_
      refine lv_iload_n hx hb dX5_lineOf_20 rfl (lv_at hl 0 rfl) ?_
      refine cy_iald (f := τ.1 7) (k := i) hx hb hK.1 hI 0 (x := 29) rfl rfl (by omega) (by decide) dX5_lineOf_21 ?_
      refine cy_callp (v := .int (cy_b (cy_go (τ.1 1 k) (τ.1 7 i)))) (va_runS (As := [.int (τ.1 1 k), .int (τ.1 7 i)]) (rest := []) ⟨hx, hb, hml, hown, hts⟩ (c_X5_goes l (τ.1 1 k) (τ.1 7 i)) (va_cwS 2 hts gX5_lineOf_X5_goes rfl rfl rfl (by decide +kernel) ⟨Nat.le_of_ble_eq_true rfl, Nat.le_of_ble_eq_true rfl⟩) preEq rfl rfl hl.1 rfl (lv_room (Nat.le_of_ble_eq_true rfl)) dX5_lineOf_22 ⟨Nat.le_of_ble_eq_true rfl, Nat.le_of_ble_eq_true rfl⟩) ?_
      cases b4 : (cy_go (τ.1 1 k) (τ.1 7 i))
      · refine lv_if_ne (tgt := 34) hx hb dX5_lineOf_25 (by decide) (fun h5 => absurd (by decide) h5) (fun h5 => ?_)
        refine lv_iinc (v := nI (i + 1)) (lv' := [(2, .int (nI (i + 1))), (0, .ref (ad 20)), (1, .int (nI k))]) hx hb dX5_lineOf_28 hl (k := 0) rfl (nI_1 _) (by decide) rfl (fun ls hl => ?_)
        refine lv_goto (tgt := 2) hx hb dX5_lineOf_31 (by decide) ?_
        exact ih (i + 1) ls (by omega) (lv_sub hl [0, 1, 2] rfl) (by rw [hE]; show (if _ then _ else _) = _; rw [if_neg (by rw [b4]; decide)])
      · refine lv_if_ne (tgt := 34) hx hb dX5_lineOf_25 (by decide) (fun h6 => ?_) (fun h6 => absurd h6 (by decide))
        refine lv_iload_n hx hb dX5_lineOf_34 rfl (lv_at hl 0 rfl) ?_
        refine lv_aload_n hx hb dX5_lineOf_35 rfl (lv_at hl 1 rfl) ?_
        refine cy_getT (v := .int (τ.1 0 1)) hx hb hts hin5 hown hK hI 9 (by decide) (hts (.fieldLink RX5 122 "CustomsYardModel" "lines" "I") (by decide +kernel)) rfl dX5_lineOf_36 ?_
        refine cy_topi (y := nI q) (eq) ?_
        refine lv_icmp_ge (tgt := 46) hx hb dX5_lineOf_39 (by decide) (fun h7 => absurd h7 (nI_ge (by omega) (by omega))) (fun h7 => ?_)
        refine lv_iload_n hx hb dX5_lineOf_42 rfl (lv_at hl 0 rfl) ?_
        refine lv_goto (tgt := 47) hx hb dX5_lineOf_43 (by decide) ?_
        exact W.iret (v := nI i) hx hb hr (fun t ht hW => ⟨congrArg (fun q => Outcome.returned (some (Value.int q))) (by rw [hE]; show (nI i) = (if _ then _ else _); rw [if_pos b4]), ht⟩) (fun q h => by cases h) dX5_lineOf_47
  exact loop q 0 ls (by omega) hl (by unfold cy_li; rw [eq, nI_clamp (by omega)])

set_option maxHeartbeats 4000000 in
set_option maxRecDepth 100000 in
theorem c_X5_line (l : Launch) (D : va_G) (cI cJ cO : ClassId) (z n na : Nat) (σ τ : cy_S) (pl : Nat → Int32) (hi : Int32) (ad : Nat → Nat) (nt : Nat) (hok : cy_ok nt τ) (x : Int32)  : Met l yX5_line wsX5_line { frames := 2, cells := 0, slots := 0, locals := 43 } (cy_P D cI cJ cO (fun H => cy_W D z (cy_CT cI cJ cO n na σ τ pl hi ad) ad H) [.ref (ad 20), .int x]) (cy_M (S := Unit) z (fun _ => some (.int (cy_oLine nt τ x).1)) (fun _ H => cy_W D z (cy_CT cI cJ cO n na σ (cy_oLine nt τ x).2 pl hi ad) ad H)) 0 0 (fun q => z ≤ q) := by
  refine Met.ofW (cc := cX5_line) (maxL := 2) (ret := (some .int)) (by decide) rfl ?_
  intro p e s m args below meth c s₁ B hml hv
  obtain ⟨rfl, hK, hI⟩ := hv
  have hx := B.exec
  have hb := B.bytes
  have hr := B.returns
  have hts := atoms_spec (ws := wsX5_line) B.pre
  have hown : s.vm.findClass RX5 = some m.cls := findClass_of_methodNamed B.named
  have hlocks := B.notSynchronized
  have hS : va_S (fun q => z ≤ q) s.heap s.heap [] := va_S.rf
  have hl := lv_entry ([.ref (ad 20), .int x]) (n := 2) (Nat.le_of_ble_eq_true rfl)
  rw [lg_entry_eq]
  generalize (lg_sl ([.ref (ad 20), .int x]) ++ List.replicate (2 - (lg_sl ([.ref (ad 20), .int x])).length) Slot.unset).toArray = ls at hl ⊢
  have hl : lv_has ls 2 [(0, .ref (ad 20)), (1, .int x)] := hl
  have hin5 := hin5_X5_line
  have h0 := hok.2.1
  have hn := hok.1
  refine lv_aload_n hx hb dX5_line_0 rfl (lv_at hl 0 rfl) ?_
  refine lv_iconst (v := 0) hx hb dX5_line_1 (by decide) ?_
  refine cy_putT (v := 0) hx hb hts hin5 hown hK hI hS 12 2 (by decide) (hts (.fieldLink RX5 52 "CustomsYardModel" "refused" "I") (by decide +kernel)) rfl (by decide +kernel) rfl dX5_line_2 (fun H locs hI hS => ?_)
  refine lv_aload_n hx hb dX5_line_5 rfl (lv_at hl 0 rfl) ?_
  refine lv_iload_n hx hb dX5_line_6 rfl (lv_at hl 1 rfl) ?_
  refine cy_callp (v := .int (cy_b (cy_ld nt x))) (va_runV (As := [.int x]) (rest := []) ⟨hx, hb, hml, hown, hts⟩ (c_X5_isLoad l D cI cJ cO z n na σ (cy_i τ 0 2 0) pl hi ad nt h0 x) (cwV 1 hts gX5_line_X5_isLoad rfl rfl rfl (by decide +kernel) ⟨Nat.le_of_ble_eq_true rfl, Nat.le_of_ble_eq_true rfl⟩) (cy_preV hK hI (cy_recv hK (hI.1 20 _ cy_CR).1 rfl)) rfl rfl hl.1 rfl (lv_room (Nat.le_of_ble_eq_true rfl)) dX5_line_7 ⟨Nat.le_of_ble_eq_true rfl, Nat.le_of_ble_eq_true rfl⟩) ?_
  cases b1 : (cy_ld nt x)
  · refine lv_if_eq (tgt := 21) hx hb dX5_line_10 (by decide) (fun h2 => ?_) (fun h2 => absurd (by decide) h2)
    refine lv_aload_n hx hb dX5_line_21 rfl (lv_at hl 0 rfl) ?_
    refine lv_bipush (v := -2) hx hb dX5_line_22 (by decide) ?_
    refine cy_callm (va_runV (As := [.int (-2)]) (rest := []) ⟨hx, hb, hml, hown, hts⟩ (c_X5_no l D cI cJ cO z n na σ (cy_i τ 0 2 0) pl hi ad (-2)) (cwV 1 hts gX5_line_X5_no rfl rfl rfl (by decide +kernel) ⟨Nat.le_of_ble_eq_true rfl, Nat.le_of_ble_eq_true rfl⟩) (cy_preV hK hI (cy_recv hK (hI.1 20 _ cy_CR).1 rfl)) rfl rfl hl.1 rfl (lv_room (Nat.le_of_ble_eq_true rfl)) dX5_line_24 ⟨Nat.le_of_ble_eq_true rfl, Nat.le_of_ble_eq_true rfl⟩) hS (fun u H locs hI hz hS => ?_)
    have hI : cy_W D z (cy_CT cI cJ cO n na σ (cy_no (cy_i τ 0 2 0) (-2)) pl hi ad) ad H := hI
    refine W.eq (g2 := F0 m 27 ls [.int (-2)]) rfl ?_
    have E : cy_oLine nt τ x = ((-2), cy_no (cy_i τ 0 2 0) (-2)) := by simp [cy_oLine, cy_z, cy_li_z, b1]
    rw [E]
    exact W.iret (v := (-2)) hx hb hr (fun t ht hW => ⟨(), rfl, by rw [ht]; exact hI, hS.F ht⟩) hS.2.2 dX5_line_27
  · obtain ⟨kx, hkx, rfl⟩ := (cy_ld_iff hn _).mp b1
    refine lv_if_eq (tgt := 21) hx hb dX5_line_10 (by decide) (fun h3 => absurd h3 (by decide)) (fun h3 => ?_)
    refine lv_aload_n hx hb dX5_line_13 rfl (lv_at hl 0 rfl) ?_
    refine lv_iload_n hx hb dX5_line_14 rfl (lv_at hl 1 rfl) ?_
    refine cy_callp (v := .int (cy_li (cy_i τ 0 2 0) kx)) (va_runV (As := [.int (nI kx)]) (rest := []) ⟨hx, hb, hml, hown, hts⟩ (c_X5_lineOf l D cI cJ cO z n na σ (cy_i τ 0 2 0) pl hi ad nt hok kx (by omega)) (cwV 1 hts gX5_line_X5_lineOf rfl rfl rfl (by decide +kernel) ⟨Nat.le_of_ble_eq_true rfl, Nat.le_of_ble_eq_true rfl⟩) (cy_preV hK hI (cy_recv hK (hI.1 20 _ cy_CR).1 rfl)) rfl rfl hl.1 rfl (lv_room (Nat.le_of_ble_eq_true rfl)) dX5_line_15 ⟨Nat.le_of_ble_eq_true rfl, Nat.le_of_ble_eq_true rfl⟩) ?_
    refine lv_goto (tgt := 27) hx hb dX5_line_18 (by decide) ?_
    have E : cy_oLine nt τ (nI kx) = (cy_li (cy_i τ 0 2 0) kx, cy_i τ 0 2 0) := by simp [cy_oLine, cy_z, cy_li_z, nI_clamp (show kx < 2 ^ 31 by omega), b1]
    rw [E]
    exact W.iret (v := cy_li (cy_i τ 0 2 0) kx) hx hb hr (fun t ht hW => ⟨(), rfl, by rw [ht]; exact hI, hS.F ht⟩) hS.2.2 dX5_line_27

set_option maxHeartbeats 4000000 in
set_option maxRecDepth 100000 in
theorem c_X5_duty (l : Launch) (D : va_G) (cI cJ cO : ClassId) (z n na : Nat) (σ τ : cy_S) (pl : Nat → Int32) (hi : Int32) (ad : Nat → Nat) (nt : Nat) (hok : cy_ok nt τ) (x : Int32)  : Met l yX5_duty wsX5_duty { frames := 3, cells := 0, slots := 0, locals := 64 } (cy_P D cI cJ cO (fun H => cy_W D z (cy_CT cI cJ cO n na σ τ pl hi ad) ad H) [.ref (ad 20), .int x]) (cy_M (S := Unit) z (fun _ => some (.int (cy_oDuty nt τ x).1)) (fun _ H => cy_W D z (cy_CT cI cJ cO n na σ (cy_oDuty nt τ x).2 pl hi ad) ad H)) 0 0 (fun q => z ≤ q) := by
  refine Met.ofW (cc := cX5_duty) (maxL := 3) (ret := (some .int)) (by decide) rfl ?_
  intro p e s m args below meth c s₁ B hml hv
  obtain ⟨rfl, hK, hI⟩ := hv
  have hx := B.exec
  have hb := B.bytes
  have hr := B.returns
  have hts := atoms_spec (ws := wsX5_duty) B.pre
  have hown : s.vm.findClass RX5 = some m.cls := findClass_of_methodNamed B.named
  have hlocks := B.notSynchronized
  have hS : va_S (fun q => z ≤ q) s.heap s.heap [] := va_S.rf
  have hl := lv_entry ([.ref (ad 20), .int x]) (n := 3) (Nat.le_of_ble_eq_true rfl)
  rw [lg_entry_eq]
  generalize (lg_sl ([.ref (ad 20), .int x]) ++ List.replicate (3 - (lg_sl ([.ref (ad 20), .int x])).length) Slot.unset).toArray = ls at hl ⊢
  have hl : lv_has ls 3 [(0, .ref (ad 20)), (1, .int x)] := hl
  have hin5 := hin5_X5_duty
  have h0 := hok.2.1
  have hn := hok.1
  obtain ⟨q, hq, eq⟩ := hok.2.2.2.2
  refine lv_aload_n hx hb dX5_duty_0 rfl (lv_at hl 0 rfl) ?_
  refine lv_aload_n hx hb dX5_duty_1 rfl (lv_at hl 0 rfl) ?_
  refine lv_iload_n hx hb dX5_duty_2 rfl (lv_at hl 1 rfl) ?_
  refine cy_callp (v := .int (cy_b (cy_ld nt x))) (va_runV (As := [.int x]) (rest := [.ref (ad 20)]) ⟨hx, hb, hml, hown, hts⟩ (c_X5_isLoad l D cI cJ cO z n na σ τ pl hi ad nt h0 x) (cwV 1 hts gX5_duty_X5_isLoad rfl rfl rfl (by decide +kernel) ⟨Nat.le_of_ble_eq_true rfl, Nat.le_of_ble_eq_true rfl⟩) (cy_preV hK hI (cy_recv hK (hI.1 20 _ cy_CR).1 rfl)) rfl rfl hl.1 rfl (lv_room (Nat.le_of_ble_eq_true rfl)) dX5_duty_3 ⟨Nat.le_of_ble_eq_true rfl, Nat.le_of_ble_eq_true rfl⟩) ?_
  cases b1 : (cy_ld nt x)
  · refine lv_if_eq (tgt := 13) hx hb dX5_duty_6 (by decide) (fun h2 => ?_) (fun h2 => absurd (by decide) h2)
    refine lv_bipush (v := -2) hx hb dX5_duty_13 (by decide) ?_
    refine cy_putT (v := (-2)) hx hb hts hin5 hown hK hI hS 12 2 (by decide) (hts (.fieldLink RX5 52 "CustomsYardModel" "refused" "I") (by decide +kernel)) rfl (by decide +kernel) rfl dX5_duty_15 (fun H locs hI hS => ?_)
    refine lv_aload_n hx hb dX5_duty_18 rfl (lv_at hl 0 rfl) ?_
    refine cy_getT (v := .int (-2)) hx hb hts hin5 hown hK hI 12 (by decide) (hts (.fieldLink RX5 52 "CustomsYardModel" "refused" "I") (by decide +kernel)) rfl dX5_duty_19 ?_
    refine lv_if_ne (tgt := 33) hx hb dX5_duty_22 (by decide) (fun h3 => ?_) (fun h3 => absurd h3 (by decide))
    refine lv_iconst (v := -1) hx hb dX5_duty_33 (by decide) ?_
    refine lv_istore_n (lv' := [(2, .int (-1)), (0, .ref (ad 20)), (1, .int x)]) hx hb dX5_duty_34 rfl hl (by decide) rfl (fun ls hl => ?_)
    refine lv_iload_n hx hb dX5_duty_35 rfl (lv_at hl 0 rfl) ?_
    refine lv_iconst (v := -1) hx hb dX5_duty_36 (by decide) ?_
    refine lv_icmp_ne (tgt := 44) hx hb dX5_duty_37 (by decide) (fun h4 => absurd (by decide) h4) (fun h4 => ?_)
    refine lv_iconst (v := 0) hx hb dX5_duty_40 (by decide) ?_
    refine lv_goto (tgt := 62) hx hb dX5_duty_41 (by decide) ?_
    have E : cy_oDuty nt τ x = (0, cy_i τ 0 2 (-2)) := by simp [cy_oDuty, cy_z, cy_nb2, cy_co_z, b1]
    rw [E]
    exact W.iret (v := 0) hx hb hr (fun t ht hW => ⟨(), rfl, by rw [ht]; exact hI, hS.F ht⟩) hS.2.2 dX5_duty_62
  · obtain ⟨kx, hkx, rfl⟩ := (cy_ld_iff hn _).mp b1
    refine lv_if_eq (tgt := 13) hx hb dX5_duty_6 (by decide) (fun h5 => absurd h5 (by decide)) (fun h5 => ?_)
    refine lv_iconst (v := 0) hx hb dX5_duty_9 (by decide) ?_
    refine lv_goto (tgt := 15) hx hb dX5_duty_10 (by decide) ?_
    refine cy_putT (v := 0) hx hb hts hin5 hown hK hI hS 12 2 (by decide) (hts (.fieldLink RX5 52 "CustomsYardModel" "refused" "I") (by decide +kernel)) rfl (by decide +kernel) rfl dX5_duty_15 (fun H locs hI hS => ?_)
    refine lv_aload_n hx hb dX5_duty_18 rfl (lv_at hl 0 rfl) ?_
    refine cy_getT (v := .int 0) hx hb hts hin5 hown hK hI 12 (by decide) (hts (.fieldLink RX5 52 "CustomsYardModel" "refused" "I") (by decide +kernel)) rfl dX5_duty_19 ?_
    refine lv_if_ne (tgt := 33) hx hb dX5_duty_22 (by decide) (fun h6 => absurd (by decide) h6) (fun h6 => ?_)
    refine lv_aload_n hx hb dX5_duty_25 rfl (lv_at hl 0 rfl) ?_
    refine lv_iload_n hx hb dX5_duty_26 rfl (lv_at hl 1 rfl) ?_
    refine cy_callp (v := .int (cy_li (cy_i τ 0 2 0) kx)) (va_runV (As := [.int (nI kx)]) (rest := []) ⟨hx, hb, hml, hown, hts⟩ (c_X5_lineOf l D cI cJ cO z n na σ (cy_i τ 0 2 0) pl hi ad nt hok kx (by omega)) (cwV 1 hts gX5_duty_X5_lineOf rfl rfl rfl (by decide +kernel) ⟨Nat.le_of_ble_eq_true rfl, Nat.le_of_ble_eq_true rfl⟩) (cy_preV hK hI (cy_recv hK (hI.1 20 _ cy_CR).1 rfl)) rfl rfl hl.1 rfl (lv_room (Nat.le_of_ble_eq_true rfl)) dX5_duty_27 ⟨Nat.le_of_ble_eq_true rfl, Nat.le_of_ble_eq_true rfl⟩) ?_
    refine cy_topi (y := cy_li τ kx) (cy_li_z τ kx 0) ?_
    rcases cy_lf_cases τ kx q 0 with e7 | ⟨t0, -, ht0, e7⟩
    · have e7 : cy_li τ kx = -1 := by unfold cy_li; rw [eq, nI_clamp (by omega)]; exact e7
      refine cy_topi e7 ?_
      refine lv_goto (tgt := 34) hx hb dX5_duty_30 (by decide) ?_
      refine lv_istore_n (lv' := [(2, .int (-1)), (0, .ref (ad 20)), (1, .int (nI kx))]) hx hb dX5_duty_34 rfl hl (by decide) rfl (fun ls hl => ?_)
      refine lv_iload_n hx hb dX5_duty_35 rfl (lv_at hl 0 rfl) ?_
      refine lv_iconst (v := -1) hx hb dX5_duty_36 (by decide) ?_
      refine lv_icmp_ne (tgt := 44) hx hb dX5_duty_37 (by decide) (fun h8 => absurd (by decide) h8) (fun h8 => ?_)
      refine lv_iconst (v := 0) hx hb dX5_duty_40 (by decide) ?_
      refine lv_goto (tgt := 62) hx hb dX5_duty_41 (by decide) ?_
      have E : cy_oDuty nt τ (nI kx) = (0, cy_i τ 0 2 0) := by first | (simp [cy_oDuty, cy_z, cy_nb2, cy_co_z, nI_clamp (show kx < 2 ^ 31 by omega), b1]; done) | (simp [cy_oDuty, cy_z, cy_nb2, cy_co_z, nI_clamp (show kx < 2 ^ 31 by omega), b1]; simp [e7]; done) | (simp [cy_oDuty, cy_z, cy_nb2, cy_co_z, nI_clamp (show kx < 2 ^ 31 by omega), b1, e7]; done)
      rw [E]
      exact W.iret (v := 0) hx hb hr (fun t ht hW => ⟨(), rfl, by rw [ht]; exact hI, hS.F ht⟩) hS.2.2 dX5_duty_62
    · have e7 : cy_li τ kx = nI t0 := by unfold cy_li; rw [eq, nI_clamp (by omega)]; exact e7
      have ne0 := cy_ne1 (show t0 < 2 ^ 31 by omega)
      refine cy_topi e7 ?_
      refine lv_goto (tgt := 34) hx hb dX5_duty_30 (by decide) ?_
      refine lv_istore_n (lv' := [(2, .int (nI t0)), (0, .ref (ad 20)), (1, .int (nI kx))]) hx hb dX5_duty_34 rfl hl (by decide) rfl (fun ls hl => ?_)
      refine lv_iload_n hx hb dX5_duty_35 rfl (lv_at hl 0 rfl) ?_
      refine lv_iconst (v := -1) hx hb dX5_duty_36 (by decide) ?_
      refine lv_icmp_ne (tgt := 44) hx hb dX5_duty_37 (by decide) (fun h9 => ?_) (fun h9 => absurd h9 (ne0))
      refine lv_aload_n hx hb dX5_duty_44 rfl (lv_at hl 1 rfl) ?_
      refine cy_getT (v := .ref (ad 30)) hx hb hts hin5 hown hK hI 11 (by decide) (hts (.fieldLink RX5 38 "CustomsYardModel" "rates" "[I") (by decide +kernel)) rfl dX5_duty_45 ?_
      refine lv_iload_n hx hb dX5_duty_48 rfl (lv_at hl 0 rfl) ?_
      refine cy_iald (f := τ.1 8) (k := t0) hx hb hK.1 hI 0 (x := 30) rfl rfl (by omega) (by decide) dX5_duty_49 ?_
      refine lv_aload_n hx hb dX5_duty_50 rfl (lv_at hl 1 rfl) ?_
      refine lv_iload_n hx hb dX5_duty_51 rfl (lv_at hl 2 rfl) ?_
      refine lv_aload_n hx hb dX5_duty_52 rfl (lv_at hl 1 rfl) ?_
      refine cy_getT (v := .ref (ad 29)) hx hb hts hin5 hown hK hI 10 (by decide) (hts (.fieldLink RX5 35 "CustomsYardModel" "views" "[I") (by decide +kernel)) rfl dX5_duty_53 ?_
      refine lv_iload_n hx hb dX5_duty_56 rfl (lv_at hl 0 rfl) ?_
      refine cy_iald (f := τ.1 7) (k := t0) hx hb hK.1 hI 0 (x := 29) rfl rfl (by omega) (by decide) dX5_duty_57 ?_
      refine cy_callp (v := .int (cy_co (cy_i τ 0 2 0) kx (τ.1 7 t0))) (va_runV (As := [.int (nI kx), .int (τ.1 7 t0)]) (rest := [.int (τ.1 8 t0)]) ⟨hx, hb, hml, hown, hts⟩ (c_X5_comes l D cI cJ cO z n na σ (cy_i τ 0 2 0) pl hi ad kx (by omega) (τ.1 7 t0)) (cwV 2 hts gX5_duty_X5_comes rfl rfl rfl (by decide +kernel) ⟨Nat.le_of_ble_eq_true rfl, Nat.le_of_ble_eq_true rfl⟩) (cy_preV hK hI (cy_recv hK (hI.1 20 _ cy_CR).1 rfl)) rfl rfl hl.1 rfl (lv_room (Nat.le_of_ble_eq_true rfl)) dX5_duty_58 ⟨Nat.le_of_ble_eq_true rfl, Nat.le_of_ble_eq_true rfl⟩) ?_
      refine lv_imul hx hb dX5_duty_61 ?_
      have E : cy_oDuty nt τ (nI kx) = (((τ.1 8 t0) * (cy_co (cy_i τ 0 2 0) kx (τ.1 7 t0))), cy_i τ 0 2 0) := by first | (simp [cy_oDuty, cy_z, cy_nb2, cy_co_z, nI_clamp (show kx < 2 ^ 31 by omega), nI_clamp (show t0 < 2 ^ 31 by omega), b1]; done) | (simp [cy_oDuty, cy_z, cy_nb2, cy_co_z, nI_clamp (show kx < 2 ^ 31 by omega), nI_clamp (show t0 < 2 ^ 31 by omega), b1]; simp [e7, ne0]; done) | (simp [cy_oDuty, cy_z, cy_nb2, cy_co_z, nI_clamp (show kx < 2 ^ 31 by omega), nI_clamp (show t0 < 2 ^ 31 by omega), b1, e7, ne0]; done)
      rw [E]
      exact W.iret (v := ((τ.1 8 t0) * (cy_co (cy_i τ 0 2 0) kx (τ.1 7 t0)))) hx hb hr (fun t ht hW => ⟨(), rfl, by rw [ht]; exact hI, hS.F ht⟩) hS.2.2 dX5_duty_62
end
section
theorem cy_lt80 {q : Nat} (h : q ≤ 80) (h1 : ¬ nI q = 80) : q < 80 := by
  rcases Nat.lt_or_ge q 80 with h2 | h2
  · exact h2
  · exact absurd (show nI q = 80 by rw [show q = 80 by omega]; rfl) h1
/-- the places of load n, empty -/
def cy_clr (σ : cy_S) (n : Nat) : Nat → cy_S
  | 0 => σ
  | k + 1 => cy_i (cy_l (cy_clr σ n k) 0 (6 * n + k) 0) 4 (6 * n + k) (-1)
/-- load n, new -/
def cy_ldw (n : Nat) (σ : cy_S) (s q : Int32) : cy_S := cy_i (cy_clr (cy_i (cy_i (cy_i σ 1 n s) 2 n (if cy_sg s = true then 0 else q)) 3 n (if cy_sg s = true then q else 0)) n 6) 0 0 (nI (n + 1))
def cy_oLoad (n : Nat) (σ : cy_S) (s q : Int32) : Int32 × cy_S := if cy_isIn s 0 12 = false ∨ cy_isIn q 0 (if cy_sg s = true then 1000 else 6) = false then (-2, cy_no (cy_z σ) (-2)) else if n = 80 then (-3, cy_no (cy_z σ) (-3)) else (nI n, cy_ldw n (cy_z σ) s q)
theorem hin5_X5_load : ∀ w ∈ u_ws RX5 TX5 19, w ∈ wsX5_load := by decide +kernel
set_option maxHeartbeats 4000000 in
set_option maxRecDepth 100000 in
theorem c_X5_load (l : Launch) (D : va_G) (cI cJ cO : ClassId) (z n na : Nat) (σ τ : cy_S) (pl : Nat → Int32) (hi : Int32) (ad : Nat → Nat) (nt : Nat) (hok : cy_ok nt τ) (x q : Int32)  : Met l yX5_load wsX5_load { frames := 2, cells := 0, slots := 0, locals := 42 } (cy_P D cI cJ cO (fun H => cy_W D z (cy_CT cI cJ cO n na σ τ pl hi ad) ad H) [.ref (ad 20), .int x, .int q]) (cy_M (S := Unit) z (fun _ => some (.int (cy_oLoad nt τ x q).1)) (fun _ H => cy_W D z (cy_CT cI cJ cO n na σ (cy_oLoad nt τ x q).2 pl hi ad) ad H)) 0 0 (fun q => z ≤ q) := by
  refine Met.ofW (cc := cX5_load) (maxL := 4) (ret := (some .int)) (by decide) rfl ?_
  intro p e s m args below meth c s₁ B hml hv
  obtain ⟨rfl, hK, hI⟩ := hv
  have hx := B.exec
  have hb := B.bytes
  have hr := B.returns
  have hts := atoms_spec (ws := wsX5_load) B.pre
  have hown : s.vm.findClass RX5 = some m.cls := findClass_of_methodNamed B.named
  have hlocks := B.notSynchronized
  have hS : va_S (fun q => z ≤ q) s.heap s.heap [] := va_S.rf
  have hl := lv_entry ([.ref (ad 20), .int x, .int q]) (n := 4) (Nat.le_of_ble_eq_true rfl)
  rw [lg_entry_eq]
  generalize (lg_sl ([.ref (ad 20), .int x, .int q]) ++ List.replicate (4 - (lg_sl ([.ref (ad 20), .int x, .int q])).length) Slot.unset).toArray = ls at hl ⊢
  have hl : lv_has ls 4 [(0, .ref (ad 20)), (1, .int x), (2, .int q)] := hl
  have hin5 := hin5_X5_load
  have h0 := hok.2.1
  have hn := hok.1
  refine lv_aload_n hx hb dX5_load_0 rfl (lv_at hl 0 rfl) ?_
  refine lv_iconst (v := 0) hx hb dX5_load_1 (by decide) ?_
  refine cy_putT (v := 0) hx hb hts hin5 hown hK hI hS 12 2 (by decide) (hts (.fieldLink RX5 52 "CustomsYardModel" "refused" "I") (by decide +kernel)) rfl (by decide +kernel) rfl dX5_load_2 (fun H locs hI hS => ?_)
  refine lv_iload_n hx hb dX5_load_5 rfl (lv_at hl 1 rfl) ?_
  refine lv_iconst (v := 0) hx hb dX5_load_6 (by decide) ?_
  refine lv_bipush (v := 12) hx hb dX5_load_7 (by decide) ?_
  refine cy_callp (v := .int (cy_b (cy_isIn x 0 12))) (va_runS (As := [.int x, .int 0, .int 12]) (rest := []) ⟨hx, hb, hml, hown, hts⟩ (c_X5_isIn l x 0 12) (va_cwS 3 hts gX5_load_X5_isIn rfl rfl rfl (by decide +kernel) ⟨Nat.le_of_ble_eq_true rfl, Nat.le_of_ble_eq_true rfl⟩) preEq rfl rfl hl.1 rfl (lv_room (Nat.le_of_ble_eq_true rfl)) dX5_load_9 ⟨Nat.le_of_ble_eq_true rfl, Nat.le_of_ble_eq_true rfl⟩) ?_
  cases b1 : (cy_isIn x 0 12)
  · refine lv_if_eq (tgt := 38) hx hb dX5_load_12 (by decide) (fun h2 => ?_) (fun h2 => absurd (by decide) h2)
    refine lv_aload_n hx hb dX5_load_38 rfl (lv_at hl 0 rfl) ?_
    refine lv_bipush (v := -2) hx hb dX5_load_39 (by decide) ?_
    refine cy_callm (va_runV (As := [.int (-2)]) (rest := []) ⟨hx, hb, hml, hown, hts⟩ (c_X5_no l D cI cJ cO z n na σ (cy_i τ 0 2 0) pl hi ad (-2)) (cwV 1 hts gX5_load_X5_no rfl rfl rfl (by decide +kernel) ⟨Nat.le_of_ble_eq_true rfl, Nat.le_of_ble_eq_true rfl⟩) (cy_preV hK hI (cy_recv hK (hI.1 20 _ cy_CR).1 rfl)) rfl rfl hl.1 rfl (lv_room (Nat.le_of_ble_eq_true rfl)) dX5_load_41 ⟨Nat.le_of_ble_eq_true rfl, Nat.le_of_ble_eq_true rfl⟩) hS (fun u H locs hI hz hS => ?_)
    have hI : cy_W D z (cy_CT cI cJ cO n na σ (cy_no (cy_i τ 0 2 0) (-2)) pl hi ad) ad H := hI
    refine W.eq (g2 := F0 m 44 ls [.int (-2)]) rfl ?_
    have E : cy_oLoad nt τ x q = ((-2), cy_no (cy_i τ 0 2 0) (-2)) := by simp [cy_oLoad, cy_z, cy_ldw, cy_clr, b1]
    rw [E]
    exact W.iret (v := (-2)) hx hb hr (fun t ht hW => ⟨(), rfl, by rw [ht]; exact hI, hS.F ht⟩) hS.2.2 dX5_load_44
  · refine lv_if_eq (tgt := 38) hx hb dX5_load_12 (by decide) (fun h3 => absurd h3 (by decide)) (fun h3 => ?_)
    refine lv_iload_n hx hb dX5_load_15 rfl (lv_at hl 2 rfl) ?_
    refine lv_iconst (v := 0) hx hb dX5_load_16 (by decide) ?_
    refine lv_iload_n hx hb dX5_load_17 rfl (lv_at hl 1 rfl) ?_
    refine cy_callp (v := .int (cy_b (cy_sg x))) (va_runS (As := [.int x]) (rest := [.int 0, .int q]) ⟨hx, hb, hml, hown, hts⟩ (c_X5_isSingle l x) (va_cwS 1 hts gX5_load_X5_isSingle rfl rfl rfl (by decide +kernel) ⟨Nat.le_of_ble_eq_true rfl, Nat.le_of_ble_eq_true rfl⟩) preEq rfl rfl hl.1 rfl (lv_room (Nat.le_of_ble_eq_true rfl)) dX5_load_18 ⟨Nat.le_of_ble_eq_true rfl, Nat.le_of_ble_eq_true rfl⟩) ?_
    cases b4 : (cy_sg x)
    · refine lv_if_eq (tgt := 30) hx hb dX5_load_21 (by decide) (fun h5 => ?_) (fun h5 => absurd (by decide) h5)
      refine lv_bipush (v := 6) hx hb dX5_load_30 (by decide) ?_
      refine cy_callp (v := .int (cy_b (cy_isIn q 0 6))) (va_runS (As := [.int q, .int 0, .int 6]) (rest := []) ⟨hx, hb, hml, hown, hts⟩ (c_X5_isIn l q 0 6) (va_cwS 3 hts gX5_load_X5_isIn rfl rfl rfl (by decide +kernel) ⟨Nat.le_of_ble_eq_true rfl, Nat.le_of_ble_eq_true rfl⟩) preEq rfl rfl hl.1 rfl (lv_room (Nat.le_of_ble_eq_true rfl)) dX5_load_32 ⟨Nat.le_of_ble_eq_true rfl, Nat.le_of_ble_eq_true rfl⟩) ?_
      cases b6 : (cy_isIn q 0 6)
      · refine lv_if_ne (tgt := 45) hx hb dX5_load_35 (by decide) (fun h7 => absurd (by decide) h7) (fun h7 => ?_)
        refine lv_aload_n hx hb dX5_load_38 rfl (lv_at hl 0 rfl) ?_
        refine lv_bipush (v := -2) hx hb dX5_load_39 (by decide) ?_
        refine cy_callm (va_runV (As := [.int (-2)]) (rest := []) ⟨hx, hb, hml, hown, hts⟩ (c_X5_no l D cI cJ cO z n na σ (cy_i τ 0 2 0) pl hi ad (-2)) (cwV 1 hts gX5_load_X5_no rfl rfl rfl (by decide +kernel) ⟨Nat.le_of_ble_eq_true rfl, Nat.le_of_ble_eq_true rfl⟩) (cy_preV hK hI (cy_recv hK (hI.1 20 _ cy_CR).1 rfl)) rfl rfl hl.1 rfl (lv_room (Nat.le_of_ble_eq_true rfl)) dX5_load_41 ⟨Nat.le_of_ble_eq_true rfl, Nat.le_of_ble_eq_true rfl⟩) hS (fun u H locs hI hz hS => ?_)
        have hI : cy_W D z (cy_CT cI cJ cO n na σ (cy_no (cy_i τ 0 2 0) (-2)) pl hi ad) ad H := hI
        refine W.eq (g2 := F0 m 44 ls [.int (-2)]) rfl ?_
        have E : cy_oLoad nt τ x q = ((-2), cy_no (cy_i τ 0 2 0) (-2)) := by simp [cy_oLoad, cy_z, cy_ldw, cy_clr, b1, b4, b6]
        rw [E]
        exact W.iret (v := (-2)) hx hb hr (fun t ht hW => ⟨(), rfl, by rw [ht]; exact hI, hS.F ht⟩) hS.2.2 dX5_load_44
      · refine lv_if_ne (tgt := 45) hx hb dX5_load_35 (by decide) (fun h8 => ?_) (fun h8 => absurd h8 (by decide))
        refine lv_aload_n hx hb dX5_load_45 rfl (lv_at hl 0 rfl) ?_
        refine cy_getT (v := .int (τ.1 0 0)) hx hb hts hin5 hown hK hI 0 (by decide) (hts (.fieldLink RX5 44 "CustomsYardModel" "loads" "I") (by decide +kernel)) rfl dX5_load_46 ?_
        refine cy_topi (y := nI nt) (h0) ?_
        refine lv_bipush (v := 80) hx hb dX5_load_49 (by decide) ?_
        refine lv_icmp_ne (tgt := 61) hx hb dX5_load_51 (by decide) (fun h9 => ?_) (fun h9 => ?_)
        · refine lv_aload_n hx hb dX5_load_61 rfl (lv_at hl 0 rfl) ?_
          refine cy_getT (v := .ref (ad 21)) hx hb hts hin5 hown hK hI 1 (by decide) (hts (.fieldLink RX5 7 "CustomsYardModel" "sorts" "[I") (by decide +kernel)) rfl dX5_load_62 ?_
          refine lv_aload_n hx hb dX5_load_65 rfl (lv_at hl 0 rfl) ?_
          refine cy_getT (v := .int (τ.1 0 0)) hx hb hts hin5 hown hK hI 0 (by decide) (hts (.fieldLink RX5 44 "CustomsYardModel" "loads" "I") (by decide +kernel)) rfl dX5_load_66 ?_
          refine cy_topi (y := nI nt) (h0) ?_
          refine lv_iload_n hx hb dX5_load_69 rfl (lv_at hl 1 rfl) ?_
          refine cy_stT1 (k := nt) (v := x) hx hb hK hI hS (cy_lt80 hn (by assumption)) dX5_load_70 (fun H locs hI hS => ?_)
          refine lv_aload_n hx hb dX5_load_71 rfl (lv_at hl 0 rfl) ?_
          refine cy_getT (v := .ref (ad 22)) hx hb hts hin5 hown hK hI 2 (by decide) (hts (.fieldLink RX5 13 "CustomsYardModel" "sizes" "[I") (by decide +kernel)) rfl dX5_load_72 ?_
          refine lv_aload_n hx hb dX5_load_75 rfl (lv_at hl 0 rfl) ?_
          refine cy_getT (v := .int (τ.1 0 0)) hx hb hts hin5 hown hK hI 0 (by decide) (hts (.fieldLink RX5 44 "CustomsYardModel" "loads" "I") (by decide +kernel)) rfl dX5_load_76 ?_
          refine cy_topi (y := nI nt) (h0) ?_
          refine lv_iload_n hx hb dX5_load_79 rfl (lv_at hl 1 rfl) ?_
          refine cy_callp (v := .int (cy_b (cy_sg x))) (va_runS (As := [.int x]) (rest := [.int (nI nt), .ref (ad 22)]) ⟨hx, hb, hml, hown, hts⟩ (c_X5_isSingle l x) (va_cwS 1 hts gX5_load_X5_isSingle rfl rfl rfl (by decide +kernel) ⟨Nat.le_of_ble_eq_true rfl, Nat.le_of_ble_eq_true rfl⟩) preEq rfl rfl hl.1 rfl (lv_room (Nat.le_of_ble_eq_true rfl)) dX5_load_80 ⟨Nat.le_of_ble_eq_true rfl, Nat.le_of_ble_eq_true rfl⟩) ?_
          refine cy_topi (y := cy_b false) (congrArg cy_b b4) ?_
          refine lv_if_eq (tgt := 90) hx hb dX5_load_83 (by decide) (fun h10 => ?_) (fun h10 => absurd (by decide) h10)
          refine lv_iload_n hx hb dX5_load_90 rfl (lv_at hl 2 rfl) ?_
          refine cy_stT2 (k := nt) (v := q) hx hb hK hI hS (cy_lt80 hn (by assumption)) dX5_load_91 (fun H locs hI hS => ?_)
          refine lv_aload_n hx hb dX5_load_92 rfl (lv_at hl 0 rfl) ?_
          refine cy_getT (v := .ref (ad 23)) hx hb hts hin5 hown hK hI 3 (by decide) (hts (.fieldLink RX5 16 "CustomsYardModel" "weights" "[I") (by decide +kernel)) rfl dX5_load_93 ?_
          refine lv_aload_n hx hb dX5_load_96 rfl (lv_at hl 0 rfl) ?_
          refine cy_getT (v := .int (τ.1 0 0)) hx hb hts hin5 hown hK hI 0 (by decide) (hts (.fieldLink RX5 44 "CustomsYardModel" "loads" "I") (by decide +kernel)) rfl dX5_load_97 ?_
          refine cy_topi (y := nI nt) (h0) ?_
          refine lv_iload_n hx hb dX5_load_100 rfl (lv_at hl 1 rfl) ?_
          refine cy_callp (v := .int (cy_b (cy_sg x))) (va_runS (As := [.int x]) (rest := [.int (nI nt), .ref (ad 23)]) ⟨hx, hb, hml, hown, hts⟩ (c_X5_isSingle l x) (va_cwS 1 hts gX5_load_X5_isSingle rfl rfl rfl (by decide +kernel) ⟨Nat.le_of_ble_eq_true rfl, Nat.le_of_ble_eq_true rfl⟩) preEq rfl rfl hl.1 rfl (lv_room (Nat.le_of_ble_eq_true rfl)) dX5_load_101 ⟨Nat.le_of_ble_eq_true rfl, Nat.le_of_ble_eq_true rfl⟩) ?_
          refine cy_topi (y := cy_b false) (congrArg cy_b b4) ?_
          refine lv_if_eq (tgt := 111) hx hb dX5_load_104 (by decide) (fun h11 => ?_) (fun h11 => absurd (by decide) h11)
          refine lv_iconst (v := 0) hx hb dX5_load_111 (by decide) ?_
          refine cy_stT3 (k := nt) (v := 0) hx hb hK hI hS (cy_lt80 hn (by assumption)) dX5_load_112 (fun H locs hI hS => ?_)
          refine lv_iconst (v := 0) hx hb dX5_load_113 (by decide) ?_
          refine lv_istore_n (lv' := [(3, .int 0), (0, .ref (ad 20)), (1, .int x), (2, .int q)]) hx hb dX5_load_114 rfl hl (by decide) rfl (fun ls hl => ?_)
          refine lv_iload_n hx hb dX5_load_115 rfl (lv_at hl 0 rfl) ?_
          refine lv_bipush (v := 6) hx hb dX5_load_116 (by decide) ?_
          refine lv_icmp_ge (tgt := 157) hx hb dX5_load_118 (by decide) (fun h12 => absurd h12 (by decide)) (fun h12 => ?_)
          refine lv_aload_n hx hb dX5_load_121 rfl (lv_at hl 1 rfl) ?_
          refine cy_getT (v := .ref (ad 24)) hx hb hts hin5 hown hK hI 4 (by decide) (hts (.fieldLink RX5 19 "CustomsYardModel" "numbers" "[J") (by decide +kernel)) rfl dX5_load_122 ?_
          refine lv_bipush (v := 6) hx hb dX5_load_125 (by decide) ?_
          refine lv_aload_n hx hb dX5_load_127 rfl (lv_at hl 1 rfl) ?_
          refine cy_getT (v := .int (τ.1 0 0)) hx hb hts hin5 hown hK hI 0 (by decide) (hts (.fieldLink RX5 44 "CustomsYardModel" "loads" "I") (by decide +kernel)) rfl dX5_load_128 ?_
          refine cy_topi (y := nI nt) (h0) ?_
          refine lv_imul hx hb dX5_load_131 ?_
          refine lv_iload_n hx hb dX5_load_132 rfl (lv_at hl 0 rfl) ?_
          refine lv_iadd hx hb dX5_load_133 ?_
          refine cy_topi (y := nI (6 * nt + 0)) (cy_ix nt 0) ?_
          refine lv_lconst (v := 0) hx hb dX5_load_134 (by decide) ?_
          refine cy_stT4 (k := (6 * nt + 0)) (v := 0) hx hb hK hI hS (by have := cy_lt80 hn (by assumption); omega) dX5_load_135 (fun H locs hI hS => ?_)
          refine lv_aload_n hx hb dX5_load_136 rfl (lv_at hl 1 rfl) ?_
          refine cy_getT (v := .ref (ad 25)) hx hb hts hin5 hown hK hI 5 (by decide) (hts (.fieldLink RX5 23 "CustomsYardModel" "things" "[I") (by decide +kernel)) rfl dX5_load_137 ?_
          refine lv_bipush (v := 6) hx hb dX5_load_140 (by decide) ?_
          refine lv_aload_n hx hb dX5_load_142 rfl (lv_at hl 1 rfl) ?_
          refine cy_getT (v := .int (τ.1 0 0)) hx hb hts hin5 hown hK hI 0 (by decide) (hts (.fieldLink RX5 44 "CustomsYardModel" "loads" "I") (by decide +kernel)) rfl dX5_load_143 ?_
          refine cy_topi (y := nI nt) (h0) ?_
          refine lv_imul hx hb dX5_load_146 ?_
          refine lv_iload_n hx hb dX5_load_147 rfl (lv_at hl 0 rfl) ?_
          refine lv_iadd hx hb dX5_load_148 ?_
          refine cy_topi (y := nI (6 * nt + 0)) (cy_ix nt 0) ?_
          refine lv_iconst (v := -1) hx hb dX5_load_149 (by decide) ?_
          refine cy_stT5 (k := (6 * nt + 0)) (v := (-1)) hx hb hK hI hS (by have := cy_lt80 hn (by assumption); omega) dX5_load_150 (fun H locs hI hS => ?_)
          refine lv_iinc (v := 1) (lv' := [(3, .int 1), (0, .ref (ad 20)), (1, .int x), (2, .int q)]) hx hb dX5_load_151 hl (k := 0) rfl (by decide) (by decide) rfl (fun ls hl => ?_)
          refine lv_goto (tgt := 115) hx hb dX5_load_154 (by decide) ?_
          refine lv_iload_n hx hb dX5_load_115 rfl (lv_at hl 0 rfl) ?_
          refine lv_bipush (v := 6) hx hb dX5_load_116 (by decide) ?_
          refine lv_icmp_ge (tgt := 157) hx hb dX5_load_118 (by decide) (fun h13 => absurd h13 (by decide)) (fun h13 => ?_)
          refine lv_aload_n hx hb dX5_load_121 rfl (lv_at hl 1 rfl) ?_
          refine cy_getT (v := .ref (ad 24)) hx hb hts hin5 hown hK hI 4 (by decide) (hts (.fieldLink RX5 19 "CustomsYardModel" "numbers" "[J") (by decide +kernel)) rfl dX5_load_122 ?_
          refine lv_bipush (v := 6) hx hb dX5_load_125 (by decide) ?_
          refine lv_aload_n hx hb dX5_load_127 rfl (lv_at hl 1 rfl) ?_
          refine cy_getT (v := .int (τ.1 0 0)) hx hb hts hin5 hown hK hI 0 (by decide) (hts (.fieldLink RX5 44 "CustomsYardModel" "loads" "I") (by decide +kernel)) rfl dX5_load_128 ?_
          refine cy_topi (y := nI nt) (h0) ?_
          refine lv_imul hx hb dX5_load_131 ?_
          refine lv_iload_n hx hb dX5_load_132 rfl (lv_at hl 0 rfl) ?_
          refine lv_iadd hx hb dX5_load_133 ?_
          refine cy_topi (y := nI (6 * nt + 1)) (cy_ix nt 1) ?_
          refine lv_lconst (v := 0) hx hb dX5_load_134 (by decide) ?_
          refine cy_stT4 (k := (6 * nt + 1)) (v := 0) hx hb hK hI hS (by have := cy_lt80 hn (by assumption); omega) dX5_load_135 (fun H locs hI hS => ?_)
          refine lv_aload_n hx hb dX5_load_136 rfl (lv_at hl 1 rfl) ?_
          refine cy_getT (v := .ref (ad 25)) hx hb hts hin5 hown hK hI 5 (by decide) (hts (.fieldLink RX5 23 "CustomsYardModel" "things" "[I") (by decide +kernel)) rfl dX5_load_137 ?_
          refine lv_bipush (v := 6) hx hb dX5_load_140 (by decide) ?_
          refine lv_aload_n hx hb dX5_load_142 rfl (lv_at hl 1 rfl) ?_
          refine cy_getT (v := .int (τ.1 0 0)) hx hb hts hin5 hown hK hI 0 (by decide) (hts (.fieldLink RX5 44 "CustomsYardModel" "loads" "I") (by decide +kernel)) rfl dX5_load_143 ?_
          refine cy_topi (y := nI nt) (h0) ?_
          refine lv_imul hx hb dX5_load_146 ?_
          refine lv_iload_n hx hb dX5_load_147 rfl (lv_at hl 0 rfl) ?_
          refine lv_iadd hx hb dX5_load_148 ?_
          refine cy_topi (y := nI (6 * nt + 1)) (cy_ix nt 1) ?_
          refine lv_iconst (v := -1) hx hb dX5_load_149 (by decide) ?_
          refine cy_stT5 (k := (6 * nt + 1)) (v := (-1)) hx hb hK hI hS (by have := cy_lt80 hn (by assumption); omega) dX5_load_150 (fun H locs hI hS => ?_)
          refine lv_iinc (v := 2) (lv' := [(3, .int 2), (0, .ref (ad 20)), (1, .int x), (2, .int q)]) hx hb dX5_load_151 hl (k := 0) rfl (by decide) (by decide) rfl (fun ls hl => ?_)
          refine lv_goto (tgt := 115) hx hb dX5_load_154 (by decide) ?_
          refine lv_iload_n hx hb dX5_load_115 rfl (lv_at hl 0 rfl) ?_
          refine lv_bipush (v := 6) hx hb dX5_load_116 (by decide) ?_
          refine lv_icmp_ge (tgt := 157) hx hb dX5_load_118 (by decide) (fun h14 => absurd h14 (by decide)) (fun h14 => ?_)
          refine lv_aload_n hx hb dX5_load_121 rfl (lv_at hl 1 rfl) ?_
          refine cy_getT (v := .ref (ad 24)) hx hb hts hin5 hown hK hI 4 (by decide) (hts (.fieldLink RX5 19 "CustomsYardModel" "numbers" "[J") (by decide +kernel)) rfl dX5_load_122 ?_
          refine lv_bipush (v := 6) hx hb dX5_load_125 (by decide) ?_
          refine lv_aload_n hx hb dX5_load_127 rfl (lv_at hl 1 rfl) ?_
          refine cy_getT (v := .int (τ.1 0 0)) hx hb hts hin5 hown hK hI 0 (by decide) (hts (.fieldLink RX5 44 "CustomsYardModel" "loads" "I") (by decide +kernel)) rfl dX5_load_128 ?_
          refine cy_topi (y := nI nt) (h0) ?_
          refine lv_imul hx hb dX5_load_131 ?_
          refine lv_iload_n hx hb dX5_load_132 rfl (lv_at hl 0 rfl) ?_
          refine lv_iadd hx hb dX5_load_133 ?_
          refine cy_topi (y := nI (6 * nt + 2)) (cy_ix nt 2) ?_
          refine lv_lconst (v := 0) hx hb dX5_load_134 (by decide) ?_
          refine cy_stT4 (k := (6 * nt + 2)) (v := 0) hx hb hK hI hS (by have := cy_lt80 hn (by assumption); omega) dX5_load_135 (fun H locs hI hS => ?_)
          refine lv_aload_n hx hb dX5_load_136 rfl (lv_at hl 1 rfl) ?_
          refine cy_getT (v := .ref (ad 25)) hx hb hts hin5 hown hK hI 5 (by decide) (hts (.fieldLink RX5 23 "CustomsYardModel" "things" "[I") (by decide +kernel)) rfl dX5_load_137 ?_
          refine lv_bipush (v := 6) hx hb dX5_load_140 (by decide) ?_
          refine lv_aload_n hx hb dX5_load_142 rfl (lv_at hl 1 rfl) ?_
          refine cy_getT (v := .int (τ.1 0 0)) hx hb hts hin5 hown hK hI 0 (by decide) (hts (.fieldLink RX5 44 "CustomsYardModel" "loads" "I") (by decide +kernel)) rfl dX5_load_143 ?_
          refine cy_topi (y := nI nt) (h0) ?_
          refine lv_imul hx hb dX5_load_146 ?_
          refine lv_iload_n hx hb dX5_load_147 rfl (lv_at hl 0 rfl) ?_
          refine lv_iadd hx hb dX5_load_148 ?_
          refine cy_topi (y := nI (6 * nt + 2)) (cy_ix nt 2) ?_
          refine lv_iconst (v := -1) hx hb dX5_load_149 (by decide) ?_
          refine cy_stT5 (k := (6 * nt + 2)) (v := (-1)) hx hb hK hI hS (by have := cy_lt80 hn (by assumption); omega) dX5_load_150 (fun H locs hI hS => ?_)
          refine lv_iinc (v := 3) (lv' := [(3, .int 3), (0, .ref (ad 20)), (1, .int x), (2, .int q)]) hx hb dX5_load_151 hl (k := 0) rfl (by decide) (by decide) rfl (fun ls hl => ?_)
          refine lv_goto (tgt := 115) hx hb dX5_load_154 (by decide) ?_
          refine lv_iload_n hx hb dX5_load_115 rfl (lv_at hl 0 rfl) ?_
          refine lv_bipush (v := 6) hx hb dX5_load_116 (by decide) ?_
          refine lv_icmp_ge (tgt := 157) hx hb dX5_load_118 (by decide) (fun h15 => absurd h15 (by decide)) (fun h15 => ?_)
          refine lv_aload_n hx hb dX5_load_121 rfl (lv_at hl 1 rfl) ?_
          refine cy_getT (v := .ref (ad 24)) hx hb hts hin5 hown hK hI 4 (by decide) (hts (.fieldLink RX5 19 "CustomsYardModel" "numbers" "[J") (by decide +kernel)) rfl dX5_load_122 ?_
          refine lv_bipush (v := 6) hx hb dX5_load_125 (by decide) ?_
          refine lv_aload_n hx hb dX5_load_127 rfl (lv_at hl 1 rfl) ?_
          refine cy_getT (v := .int (τ.1 0 0)) hx hb hts hin5 hown hK hI 0 (by decide) (hts (.fieldLink RX5 44 "CustomsYardModel" "loads" "I") (by decide +kernel)) rfl dX5_load_128 ?_
          refine cy_topi (y := nI nt) (h0) ?_
          refine lv_imul hx hb dX5_load_131 ?_
          refine lv_iload_n hx hb dX5_load_132 rfl (lv_at hl 0 rfl) ?_
          refine lv_iadd hx hb dX5_load_133 ?_
          refine cy_topi (y := nI (6 * nt + 3)) (cy_ix nt 3) ?_
          refine lv_lconst (v := 0) hx hb dX5_load_134 (by decide) ?_
          refine cy_stT4 (k := (6 * nt + 3)) (v := 0) hx hb hK hI hS (by have := cy_lt80 hn (by assumption); omega) dX5_load_135 (fun H locs hI hS => ?_)
          refine lv_aload_n hx hb dX5_load_136 rfl (lv_at hl 1 rfl) ?_
          refine cy_getT (v := .ref (ad 25)) hx hb hts hin5 hown hK hI 5 (by decide) (hts (.fieldLink RX5 23 "CustomsYardModel" "things" "[I") (by decide +kernel)) rfl dX5_load_137 ?_
          refine lv_bipush (v := 6) hx hb dX5_load_140 (by decide) ?_
          refine lv_aload_n hx hb dX5_load_142 rfl (lv_at hl 1 rfl) ?_
          refine cy_getT (v := .int (τ.1 0 0)) hx hb hts hin5 hown hK hI 0 (by decide) (hts (.fieldLink RX5 44 "CustomsYardModel" "loads" "I") (by decide +kernel)) rfl dX5_load_143 ?_
          refine cy_topi (y := nI nt) (h0) ?_
          refine lv_imul hx hb dX5_load_146 ?_
          refine lv_iload_n hx hb dX5_load_147 rfl (lv_at hl 0 rfl) ?_
          refine lv_iadd hx hb dX5_load_148 ?_
          refine cy_topi (y := nI (6 * nt + 3)) (cy_ix nt 3) ?_
          refine lv_iconst (v := -1) hx hb dX5_load_149 (by decide) ?_
          refine cy_stT5 (k := (6 * nt + 3)) (v := (-1)) hx hb hK hI hS (by have := cy_lt80 hn (by assumption); omega) dX5_load_150 (fun H locs hI hS => ?_)
          refine lv_iinc (v := 4) (lv' := [(3, .int 4), (0, .ref (ad 20)), (1, .int x), (2, .int q)]) hx hb dX5_load_151 hl (k := 0) rfl (by decide) (by decide) rfl (fun ls hl => ?_)
          refine lv_goto (tgt := 115) hx hb dX5_load_154 (by decide) ?_
          refine lv_iload_n hx hb dX5_load_115 rfl (lv_at hl 0 rfl) ?_
          refine lv_bipush (v := 6) hx hb dX5_load_116 (by decide) ?_
          refine lv_icmp_ge (tgt := 157) hx hb dX5_load_118 (by decide) (fun h16 => absurd h16 (by decide)) (fun h16 => ?_)
          refine lv_aload_n hx hb dX5_load_121 rfl (lv_at hl 1 rfl) ?_
          refine cy_getT (v := .ref (ad 24)) hx hb hts hin5 hown hK hI 4 (by decide) (hts (.fieldLink RX5 19 "CustomsYardModel" "numbers" "[J") (by decide +kernel)) rfl dX5_load_122 ?_
          refine lv_bipush (v := 6) hx hb dX5_load_125 (by decide) ?_
          refine lv_aload_n hx hb dX5_load_127 rfl (lv_at hl 1 rfl) ?_
          refine cy_getT (v := .int (τ.1 0 0)) hx hb hts hin5 hown hK hI 0 (by decide) (hts (.fieldLink RX5 44 "CustomsYardModel" "loads" "I") (by decide +kernel)) rfl dX5_load_128 ?_
          refine cy_topi (y := nI nt) (h0) ?_
          refine lv_imul hx hb dX5_load_131 ?_
          refine lv_iload_n hx hb dX5_load_132 rfl (lv_at hl 0 rfl) ?_
          refine lv_iadd hx hb dX5_load_133 ?_
          refine cy_topi (y := nI (6 * nt + 4)) (cy_ix nt 4) ?_
          refine lv_lconst (v := 0) hx hb dX5_load_134 (by decide) ?_
          refine cy_stT4 (k := (6 * nt + 4)) (v := 0) hx hb hK hI hS (by have := cy_lt80 hn (by assumption); omega) dX5_load_135 (fun H locs hI hS => ?_)
          refine lv_aload_n hx hb dX5_load_136 rfl (lv_at hl 1 rfl) ?_
          refine cy_getT (v := .ref (ad 25)) hx hb hts hin5 hown hK hI 5 (by decide) (hts (.fieldLink RX5 23 "CustomsYardModel" "things" "[I") (by decide +kernel)) rfl dX5_load_137 ?_
          refine lv_bipush (v := 6) hx hb dX5_load_140 (by decide) ?_
          refine lv_aload_n hx hb dX5_load_142 rfl (lv_at hl 1 rfl) ?_
          refine cy_getT (v := .int (τ.1 0 0)) hx hb hts hin5 hown hK hI 0 (by decide) (hts (.fieldLink RX5 44 "CustomsYardModel" "loads" "I") (by decide +kernel)) rfl dX5_load_143 ?_
          refine cy_topi (y := nI nt) (h0) ?_
          refine lv_imul hx hb dX5_load_146 ?_
          refine lv_iload_n hx hb dX5_load_147 rfl (lv_at hl 0 rfl) ?_
          refine lv_iadd hx hb dX5_load_148 ?_
          refine cy_topi (y := nI (6 * nt + 4)) (cy_ix nt 4) ?_
          refine lv_iconst (v := -1) hx hb dX5_load_149 (by decide) ?_
          refine cy_stT5 (k := (6 * nt + 4)) (v := (-1)) hx hb hK hI hS (by have := cy_lt80 hn (by assumption); omega) dX5_load_150 (fun H locs hI hS => ?_)
          refine lv_iinc (v := 5) (lv' := [(3, .int 5), (0, .ref (ad 20)), (1, .int x), (2, .int q)]) hx hb dX5_load_151 hl (k := 0) rfl (by decide) (by decide) rfl (fun ls hl => ?_)
          refine lv_goto (tgt := 115) hx hb dX5_load_154 (by decide) ?_
          refine lv_iload_n hx hb dX5_load_115 rfl (lv_at hl 0 rfl) ?_
          refine lv_bipush (v := 6) hx hb dX5_load_116 (by decide) ?_
          refine lv_icmp_ge (tgt := 157) hx hb dX5_load_118 (by decide) (fun h17 => absurd h17 (by decide)) (fun h17 => ?_)
          refine lv_aload_n hx hb dX5_load_121 rfl (lv_at hl 1 rfl) ?_
          refine cy_getT (v := .ref (ad 24)) hx hb hts hin5 hown hK hI 4 (by decide) (hts (.fieldLink RX5 19 "CustomsYardModel" "numbers" "[J") (by decide +kernel)) rfl dX5_load_122 ?_
          refine lv_bipush (v := 6) hx hb dX5_load_125 (by decide) ?_
          refine lv_aload_n hx hb dX5_load_127 rfl (lv_at hl 1 rfl) ?_
          refine cy_getT (v := .int (τ.1 0 0)) hx hb hts hin5 hown hK hI 0 (by decide) (hts (.fieldLink RX5 44 "CustomsYardModel" "loads" "I") (by decide +kernel)) rfl dX5_load_128 ?_
          refine cy_topi (y := nI nt) (h0) ?_
          refine lv_imul hx hb dX5_load_131 ?_
          refine lv_iload_n hx hb dX5_load_132 rfl (lv_at hl 0 rfl) ?_
          refine lv_iadd hx hb dX5_load_133 ?_
          refine cy_topi (y := nI (6 * nt + 5)) (cy_ix nt 5) ?_
          refine lv_lconst (v := 0) hx hb dX5_load_134 (by decide) ?_
          refine cy_stT4 (k := (6 * nt + 5)) (v := 0) hx hb hK hI hS (by have := cy_lt80 hn (by assumption); omega) dX5_load_135 (fun H locs hI hS => ?_)
          refine lv_aload_n hx hb dX5_load_136 rfl (lv_at hl 1 rfl) ?_
          refine cy_getT (v := .ref (ad 25)) hx hb hts hin5 hown hK hI 5 (by decide) (hts (.fieldLink RX5 23 "CustomsYardModel" "things" "[I") (by decide +kernel)) rfl dX5_load_137 ?_
          refine lv_bipush (v := 6) hx hb dX5_load_140 (by decide) ?_
          refine lv_aload_n hx hb dX5_load_142 rfl (lv_at hl 1 rfl) ?_
          refine cy_getT (v := .int (τ.1 0 0)) hx hb hts hin5 hown hK hI 0 (by decide) (hts (.fieldLink RX5 44 "CustomsYardModel" "loads" "I") (by decide +kernel)) rfl dX5_load_143 ?_
          refine cy_topi (y := nI nt) (h0) ?_
          refine lv_imul hx hb dX5_load_146 ?_
          refine lv_iload_n hx hb dX5_load_147 rfl (lv_at hl 0 rfl) ?_
          refine lv_iadd hx hb dX5_load_148 ?_
          refine cy_topi (y := nI (6 * nt + 5)) (cy_ix nt 5) ?_
          refine lv_iconst (v := -1) hx hb dX5_load_149 (by decide) ?_
          refine cy_stT5 (k := (6 * nt + 5)) (v := (-1)) hx hb hK hI hS (by have := cy_lt80 hn (by assumption); omega) dX5_load_150 (fun H locs hI hS => ?_)
          refine lv_iinc (v := 6) (lv' := [(3, .int 6), (0, .ref (ad 20)), (1, .int x), (2, .int q)]) hx hb dX5_load_151 hl (k := 0) rfl (by decide) (by decide) rfl (fun ls hl => ?_)
          refine lv_goto (tgt := 115) hx hb dX5_load_154 (by decide) ?_
          refine lv_iload_n hx hb dX5_load_115 rfl (lv_at hl 0 rfl) ?_
          refine lv_bipush (v := 6) hx hb dX5_load_116 (by decide) ?_
          refine lv_icmp_ge (tgt := 157) hx hb dX5_load_118 (by decide) (fun h18 => ?_) (fun h18 => absurd (by decide) h18)
          refine lv_aload_n hx hb dX5_load_157 rfl (lv_at hl 1 rfl) ?_
          refine lv_dup hx hb dX5_load_158 rfl ?_
          refine cy_getT (v := .int (τ.1 0 0)) hx hb hts hin5 hown hK hI 0 (by decide) (hts (.fieldLink RX5 44 "CustomsYardModel" "loads" "I") (by decide +kernel)) rfl dX5_load_159 ?_
          refine cy_topi (y := nI nt) (h0) ?_
          refine lv_iconst (v := 1) hx hb dX5_load_162 (by decide) ?_
          refine lv_iadd hx hb dX5_load_163 ?_
          refine cy_topi (y := nI (nt + 1)) (nI_1 nt) ?_
          refine cy_putT (v := nI (nt + 1)) hx hb hts hin5 hown hK hI hS 0 0 (by decide) (hts (.fieldLink RX5 44 "CustomsYardModel" "loads" "I") (by decide +kernel)) rfl (by decide +kernel) rfl dX5_load_164 (fun H locs hI hS => ?_)
          refine lv_aload_n hx hb dX5_load_167 rfl (lv_at hl 1 rfl) ?_
          refine cy_getT (v := .int (nI (nt + 1))) hx hb hts hin5 hown hK hI 0 (by decide) (hts (.fieldLink RX5 44 "CustomsYardModel" "loads" "I") (by decide +kernel)) rfl dX5_load_168 ?_
          refine lv_iconst (v := 1) hx hb dX5_load_171 (by decide) ?_
          refine lv_isub hx hb dX5_load_172 ?_
          refine cy_topi (y := nI nt) (nI_pred nt) ?_
          have E : cy_oLoad nt τ x q = (nI nt, cy_i (cy_i (cy_l (cy_i (cy_l (cy_i (cy_l (cy_i (cy_l (cy_i (cy_l (cy_i (cy_l (cy_i (cy_i (cy_i (cy_i τ 0 2 0) 1 nt x) 2 nt q) 3 nt 0) 0 (6 * nt + 0) 0) 4 (6 * nt + 0) (-1)) 0 (6 * nt + 1) 0) 4 (6 * nt + 1) (-1)) 0 (6 * nt + 2) 0) 4 (6 * nt + 2) (-1)) 0 (6 * nt + 3) 0) 4 (6 * nt + 3) (-1)) 0 (6 * nt + 4) 0) 4 (6 * nt + 4) (-1)) 0 (6 * nt + 5) 0) 4 (6 * nt + 5) (-1)) 0 0 (nI (nt + 1))) := by simp [cy_oLoad, cy_z, cy_ldw, cy_clr, b1, b4, b6, show ¬ nt = 80 from fun q => h9 (by rw [q]; rfl)]
          rw [E]
          exact W.iret (v := nI nt) hx hb hr (fun t ht hW => ⟨(), rfl, by rw [ht]; exact hI, hS.F ht⟩) hS.2.2 dX5_load_173
        · refine lv_aload_n hx hb dX5_load_54 rfl (lv_at hl 0 rfl) ?_
          refine lv_bipush (v := -3) hx hb dX5_load_55 (by decide) ?_
          refine cy_callm (va_runV (As := [.int (-3)]) (rest := []) ⟨hx, hb, hml, hown, hts⟩ (c_X5_no l D cI cJ cO z n na σ (cy_i τ 0 2 0) pl hi ad (-3)) (cwV 1 hts gX5_load_X5_no rfl rfl rfl (by decide +kernel) ⟨Nat.le_of_ble_eq_true rfl, Nat.le_of_ble_eq_true rfl⟩) (cy_preV hK hI (cy_recv hK (hI.1 20 _ cy_CR).1 rfl)) rfl rfl hl.1 rfl (lv_room (Nat.le_of_ble_eq_true rfl)) dX5_load_57 ⟨Nat.le_of_ble_eq_true rfl, Nat.le_of_ble_eq_true rfl⟩) hS (fun u H locs hI hz hS => ?_)
          have hI : cy_W D z (cy_CT cI cJ cO n na σ (cy_no (cy_i τ 0 2 0) (-3)) pl hi ad) ad H := hI
          refine W.eq (g2 := F0 m 60 ls [.int (-3)]) rfl ?_
          have E : cy_oLoad nt τ x q = ((-3), cy_no (cy_i τ 0 2 0) (-3)) := by simp [cy_oLoad, cy_z, cy_ldw, cy_clr, b1, b4, b6, show nt = 80 from (nI_eq (by omega) (by decide)).mp h9]
          rw [E]
          exact W.iret (v := (-3)) hx hb hr (fun t ht hW => ⟨(), rfl, by rw [ht]; exact hI, hS.F ht⟩) hS.2.2 dX5_load_60
    · refine lv_if_eq (tgt := 30) hx hb dX5_load_21 (by decide) (fun h19 => absurd h19 (by decide)) (fun h19 => ?_)
      refine lv_sipush (v := 1000) hx hb dX5_load_24 (by decide) ?_
      refine lv_goto (tgt := 32) hx hb dX5_load_27 (by decide) ?_
      refine cy_callp (v := .int (cy_b (cy_isIn q 0 1000))) (va_runS (As := [.int q, .int 0, .int 1000]) (rest := []) ⟨hx, hb, hml, hown, hts⟩ (c_X5_isIn l q 0 1000) (va_cwS 3 hts gX5_load_X5_isIn rfl rfl rfl (by decide +kernel) ⟨Nat.le_of_ble_eq_true rfl, Nat.le_of_ble_eq_true rfl⟩) preEq rfl rfl hl.1 rfl (lv_room (Nat.le_of_ble_eq_true rfl)) dX5_load_32 ⟨Nat.le_of_ble_eq_true rfl, Nat.le_of_ble_eq_true rfl⟩) ?_
      cases b20 : (cy_isIn q 0 1000)
      · refine lv_if_ne (tgt := 45) hx hb dX5_load_35 (by decide) (fun h21 => absurd (by decide) h21) (fun h21 => ?_)
        refine lv_aload_n hx hb dX5_load_38 rfl (lv_at hl 0 rfl) ?_
        refine lv_bipush (v := -2) hx hb dX5_load_39 (by decide) ?_
        refine cy_callm (va_runV (As := [.int (-2)]) (rest := []) ⟨hx, hb, hml, hown, hts⟩ (c_X5_no l D cI cJ cO z n na σ (cy_i τ 0 2 0) pl hi ad (-2)) (cwV 1 hts gX5_load_X5_no rfl rfl rfl (by decide +kernel) ⟨Nat.le_of_ble_eq_true rfl, Nat.le_of_ble_eq_true rfl⟩) (cy_preV hK hI (cy_recv hK (hI.1 20 _ cy_CR).1 rfl)) rfl rfl hl.1 rfl (lv_room (Nat.le_of_ble_eq_true rfl)) dX5_load_41 ⟨Nat.le_of_ble_eq_true rfl, Nat.le_of_ble_eq_true rfl⟩) hS (fun u H locs hI hz hS => ?_)
        have hI : cy_W D z (cy_CT cI cJ cO n na σ (cy_no (cy_i τ 0 2 0) (-2)) pl hi ad) ad H := hI
        refine W.eq (g2 := F0 m 44 ls [.int (-2)]) rfl ?_
        have E : cy_oLoad nt τ x q = ((-2), cy_no (cy_i τ 0 2 0) (-2)) := by simp [cy_oLoad, cy_z, cy_ldw, cy_clr, b1, b4, b20]
        rw [E]
        exact W.iret (v := (-2)) hx hb hr (fun t ht hW => ⟨(), rfl, by rw [ht]; exact hI, hS.F ht⟩) hS.2.2 dX5_load_44
      · refine lv_if_ne (tgt := 45) hx hb dX5_load_35 (by decide) (fun h22 => ?_) (fun h22 => absurd h22 (by decide))
        refine lv_aload_n hx hb dX5_load_45 rfl (lv_at hl 0 rfl) ?_
        refine cy_getT (v := .int (τ.1 0 0)) hx hb hts hin5 hown hK hI 0 (by decide) (hts (.fieldLink RX5 44 "CustomsYardModel" "loads" "I") (by decide +kernel)) rfl dX5_load_46 ?_
        refine cy_topi (y := nI nt) (h0) ?_
        refine lv_bipush (v := 80) hx hb dX5_load_49 (by decide) ?_
        refine lv_icmp_ne (tgt := 61) hx hb dX5_load_51 (by decide) (fun h23 => ?_) (fun h23 => ?_)
        · refine lv_aload_n hx hb dX5_load_61 rfl (lv_at hl 0 rfl) ?_
          refine cy_getT (v := .ref (ad 21)) hx hb hts hin5 hown hK hI 1 (by decide) (hts (.fieldLink RX5 7 "CustomsYardModel" "sorts" "[I") (by decide +kernel)) rfl dX5_load_62 ?_
          refine lv_aload_n hx hb dX5_load_65 rfl (lv_at hl 0 rfl) ?_
          refine cy_getT (v := .int (τ.1 0 0)) hx hb hts hin5 hown hK hI 0 (by decide) (hts (.fieldLink RX5 44 "CustomsYardModel" "loads" "I") (by decide +kernel)) rfl dX5_load_66 ?_
          refine cy_topi (y := nI nt) (h0) ?_
          refine lv_iload_n hx hb dX5_load_69 rfl (lv_at hl 1 rfl) ?_
          refine cy_stT1 (k := nt) (v := x) hx hb hK hI hS (cy_lt80 hn (by assumption)) dX5_load_70 (fun H locs hI hS => ?_)
          refine lv_aload_n hx hb dX5_load_71 rfl (lv_at hl 0 rfl) ?_
          refine cy_getT (v := .ref (ad 22)) hx hb hts hin5 hown hK hI 2 (by decide) (hts (.fieldLink RX5 13 "CustomsYardModel" "sizes" "[I") (by decide +kernel)) rfl dX5_load_72 ?_
          refine lv_aload_n hx hb dX5_load_75 rfl (lv_at hl 0 rfl) ?_
          refine cy_getT (v := .int (τ.1 0 0)) hx hb hts hin5 hown hK hI 0 (by decide) (hts (.fieldLink RX5 44 "CustomsYardModel" "loads" "I") (by decide +kernel)) rfl dX5_load_76 ?_
          refine cy_topi (y := nI nt) (h0) ?_
          refine lv_iload_n hx hb dX5_load_79 rfl (lv_at hl 1 rfl) ?_
          refine cy_callp (v := .int (cy_b (cy_sg x))) (va_runS (As := [.int x]) (rest := [.int (nI nt), .ref (ad 22)]) ⟨hx, hb, hml, hown, hts⟩ (c_X5_isSingle l x) (va_cwS 1 hts gX5_load_X5_isSingle rfl rfl rfl (by decide +kernel) ⟨Nat.le_of_ble_eq_true rfl, Nat.le_of_ble_eq_true rfl⟩) preEq rfl rfl hl.1 rfl (lv_room (Nat.le_of_ble_eq_true rfl)) dX5_load_80 ⟨Nat.le_of_ble_eq_true rfl, Nat.le_of_ble_eq_true rfl⟩) ?_
          refine cy_topi (y := cy_b true) (congrArg cy_b b4) ?_
          refine lv_if_eq (tgt := 90) hx hb dX5_load_83 (by decide) (fun h24 => absurd h24 (by decide)) (fun h24 => ?_)
          refine lv_iconst (v := 0) hx hb dX5_load_86 (by decide) ?_
          refine lv_goto (tgt := 91) hx hb dX5_load_87 (by decide) ?_
          refine cy_stT2 (k := nt) (v := 0) hx hb hK hI hS (cy_lt80 hn (by assumption)) dX5_load_91 (fun H locs hI hS => ?_)
          refine lv_aload_n hx hb dX5_load_92 rfl (lv_at hl 0 rfl) ?_
          refine cy_getT (v := .ref (ad 23)) hx hb hts hin5 hown hK hI 3 (by decide) (hts (.fieldLink RX5 16 "CustomsYardModel" "weights" "[I") (by decide +kernel)) rfl dX5_load_93 ?_
          refine lv_aload_n hx hb dX5_load_96 rfl (lv_at hl 0 rfl) ?_
          refine cy_getT (v := .int (τ.1 0 0)) hx hb hts hin5 hown hK hI 0 (by decide) (hts (.fieldLink RX5 44 "CustomsYardModel" "loads" "I") (by decide +kernel)) rfl dX5_load_97 ?_
          refine cy_topi (y := nI nt) (h0) ?_
          refine lv_iload_n hx hb dX5_load_100 rfl (lv_at hl 1 rfl) ?_
          refine cy_callp (v := .int (cy_b (cy_sg x))) (va_runS (As := [.int x]) (rest := [.int (nI nt), .ref (ad 23)]) ⟨hx, hb, hml, hown, hts⟩ (c_X5_isSingle l x) (va_cwS 1 hts gX5_load_X5_isSingle rfl rfl rfl (by decide +kernel) ⟨Nat.le_of_ble_eq_true rfl, Nat.le_of_ble_eq_true rfl⟩) preEq rfl rfl hl.1 rfl (lv_room (Nat.le_of_ble_eq_true rfl)) dX5_load_101 ⟨Nat.le_of_ble_eq_true rfl, Nat.le_of_ble_eq_true rfl⟩) ?_
          refine cy_topi (y := cy_b true) (congrArg cy_b b4) ?_
          refine lv_if_eq (tgt := 111) hx hb dX5_load_104 (by decide) (fun h25 => absurd h25 (by decide)) (fun h25 => ?_)
          refine lv_iload_n hx hb dX5_load_107 rfl (lv_at hl 2 rfl) ?_
          refine lv_goto (tgt := 112) hx hb dX5_load_108 (by decide) ?_
          refine cy_stT3 (k := nt) (v := q) hx hb hK hI hS (cy_lt80 hn (by assumption)) dX5_load_112 (fun H locs hI hS => ?_)
          refine lv_iconst (v := 0) hx hb dX5_load_113 (by decide) ?_
          refine lv_istore_n (lv' := [(3, .int 0), (0, .ref (ad 20)), (1, .int x), (2, .int q)]) hx hb dX5_load_114 rfl hl (by decide) rfl (fun ls hl => ?_)
          refine lv_iload_n hx hb dX5_load_115 rfl (lv_at hl 0 rfl) ?_
          refine lv_bipush (v := 6) hx hb dX5_load_116 (by decide) ?_
          refine lv_icmp_ge (tgt := 157) hx hb dX5_load_118 (by decide) (fun h26 => absurd h26 (by decide)) (fun h26 => ?_)
          refine lv_aload_n hx hb dX5_load_121 rfl (lv_at hl 1 rfl) ?_
          refine cy_getT (v := .ref (ad 24)) hx hb hts hin5 hown hK hI 4 (by decide) (hts (.fieldLink RX5 19 "CustomsYardModel" "numbers" "[J") (by decide +kernel)) rfl dX5_load_122 ?_
          refine lv_bipush (v := 6) hx hb dX5_load_125 (by decide) ?_
          refine lv_aload_n hx hb dX5_load_127 rfl (lv_at hl 1 rfl) ?_
          refine cy_getT (v := .int (τ.1 0 0)) hx hb hts hin5 hown hK hI 0 (by decide) (hts (.fieldLink RX5 44 "CustomsYardModel" "loads" "I") (by decide +kernel)) rfl dX5_load_128 ?_
          refine cy_topi (y := nI nt) (h0) ?_
          refine lv_imul hx hb dX5_load_131 ?_
          refine lv_iload_n hx hb dX5_load_132 rfl (lv_at hl 0 rfl) ?_
          refine lv_iadd hx hb dX5_load_133 ?_
          refine cy_topi (y := nI (6 * nt + 0)) (cy_ix nt 0) ?_
          refine lv_lconst (v := 0) hx hb dX5_load_134 (by decide) ?_
          refine cy_stT4 (k := (6 * nt + 0)) (v := 0) hx hb hK hI hS (by have := cy_lt80 hn (by assumption); omega) dX5_load_135 (fun H locs hI hS => ?_)
          refine lv_aload_n hx hb dX5_load_136 rfl (lv_at hl 1 rfl) ?_
          refine cy_getT (v := .ref (ad 25)) hx hb hts hin5 hown hK hI 5 (by decide) (hts (.fieldLink RX5 23 "CustomsYardModel" "things" "[I") (by decide +kernel)) rfl dX5_load_137 ?_
          refine lv_bipush (v := 6) hx hb dX5_load_140 (by decide) ?_
          refine lv_aload_n hx hb dX5_load_142 rfl (lv_at hl 1 rfl) ?_
          refine cy_getT (v := .int (τ.1 0 0)) hx hb hts hin5 hown hK hI 0 (by decide) (hts (.fieldLink RX5 44 "CustomsYardModel" "loads" "I") (by decide +kernel)) rfl dX5_load_143 ?_
          refine cy_topi (y := nI nt) (h0) ?_
          refine lv_imul hx hb dX5_load_146 ?_
          refine lv_iload_n hx hb dX5_load_147 rfl (lv_at hl 0 rfl) ?_
          refine lv_iadd hx hb dX5_load_148 ?_
          refine cy_topi (y := nI (6 * nt + 0)) (cy_ix nt 0) ?_
          refine lv_iconst (v := -1) hx hb dX5_load_149 (by decide) ?_
          refine cy_stT5 (k := (6 * nt + 0)) (v := (-1)) hx hb hK hI hS (by have := cy_lt80 hn (by assumption); omega) dX5_load_150 (fun H locs hI hS => ?_)
          refine lv_iinc (v := 1) (lv' := [(3, .int 1), (0, .ref (ad 20)), (1, .int x), (2, .int q)]) hx hb dX5_load_151 hl (k := 0) rfl (by decide) (by decide) rfl (fun ls hl => ?_)
          refine lv_goto (tgt := 115) hx hb dX5_load_154 (by decide) ?_
          refine lv_iload_n hx hb dX5_load_115 rfl (lv_at hl 0 rfl) ?_
          refine lv_bipush (v := 6) hx hb dX5_load_116 (by decide) ?_
          refine lv_icmp_ge (tgt := 157) hx hb dX5_load_118 (by decide) (fun h27 => absurd h27 (by decide)) (fun h27 => ?_)
          refine lv_aload_n hx hb dX5_load_121 rfl (lv_at hl 1 rfl) ?_
          refine cy_getT (v := .ref (ad 24)) hx hb hts hin5 hown hK hI 4 (by decide) (hts (.fieldLink RX5 19 "CustomsYardModel" "numbers" "[J") (by decide +kernel)) rfl dX5_load_122 ?_
          refine lv_bipush (v := 6) hx hb dX5_load_125 (by decide) ?_
          refine lv_aload_n hx hb dX5_load_127 rfl (lv_at hl 1 rfl) ?_
          refine cy_getT (v := .int (τ.1 0 0)) hx hb hts hin5 hown hK hI 0 (by decide) (hts (.fieldLink RX5 44 "CustomsYardModel" "loads" "I") (by decide +kernel)) rfl dX5_load_128 ?_
          refine cy_topi (y := nI nt) (h0) ?_
          refine lv_imul hx hb dX5_load_131 ?_
          refine lv_iload_n hx hb dX5_load_132 rfl (lv_at hl 0 rfl) ?_
          refine lv_iadd hx hb dX5_load_133 ?_
          refine cy_topi (y := nI (6 * nt + 1)) (cy_ix nt 1) ?_
          refine lv_lconst (v := 0) hx hb dX5_load_134 (by decide) ?_
          refine cy_stT4 (k := (6 * nt + 1)) (v := 0) hx hb hK hI hS (by have := cy_lt80 hn (by assumption); omega) dX5_load_135 (fun H locs hI hS => ?_)
          refine lv_aload_n hx hb dX5_load_136 rfl (lv_at hl 1 rfl) ?_
          refine cy_getT (v := .ref (ad 25)) hx hb hts hin5 hown hK hI 5 (by decide) (hts (.fieldLink RX5 23 "CustomsYardModel" "things" "[I") (by decide +kernel)) rfl dX5_load_137 ?_
          refine lv_bipush (v := 6) hx hb dX5_load_140 (by decide) ?_
          refine lv_aload_n hx hb dX5_load_142 rfl (lv_at hl 1 rfl) ?_
          refine cy_getT (v := .int (τ.1 0 0)) hx hb hts hin5 hown hK hI 0 (by decide) (hts (.fieldLink RX5 44 "CustomsYardModel" "loads" "I") (by decide +kernel)) rfl dX5_load_143 ?_
          refine cy_topi (y := nI nt) (h0) ?_
          refine lv_imul hx hb dX5_load_146 ?_
          refine lv_iload_n hx hb dX5_load_147 rfl (lv_at hl 0 rfl) ?_
          refine lv_iadd hx hb dX5_load_148 ?_
          refine cy_topi (y := nI (6 * nt + 1)) (cy_ix nt 1) ?_
          refine lv_iconst (v := -1) hx hb dX5_load_149 (by decide) ?_
          refine cy_stT5 (k := (6 * nt + 1)) (v := (-1)) hx hb hK hI hS (by have := cy_lt80 hn (by assumption); omega) dX5_load_150 (fun H locs hI hS => ?_)
          refine lv_iinc (v := 2) (lv' := [(3, .int 2), (0, .ref (ad 20)), (1, .int x), (2, .int q)]) hx hb dX5_load_151 hl (k := 0) rfl (by decide) (by decide) rfl (fun ls hl => ?_)
          refine lv_goto (tgt := 115) hx hb dX5_load_154 (by decide) ?_
          refine lv_iload_n hx hb dX5_load_115 rfl (lv_at hl 0 rfl) ?_
          refine lv_bipush (v := 6) hx hb dX5_load_116 (by decide) ?_
          refine lv_icmp_ge (tgt := 157) hx hb dX5_load_118 (by decide) (fun h28 => absurd h28 (by decide)) (fun h28 => ?_)
          refine lv_aload_n hx hb dX5_load_121 rfl (lv_at hl 1 rfl) ?_
          refine cy_getT (v := .ref (ad 24)) hx hb hts hin5 hown hK hI 4 (by decide) (hts (.fieldLink RX5 19 "CustomsYardModel" "numbers" "[J") (by decide +kernel)) rfl dX5_load_122 ?_
          refine lv_bipush (v := 6) hx hb dX5_load_125 (by decide) ?_
          refine lv_aload_n hx hb dX5_load_127 rfl (lv_at hl 1 rfl) ?_
          refine cy_getT (v := .int (τ.1 0 0)) hx hb hts hin5 hown hK hI 0 (by decide) (hts (.fieldLink RX5 44 "CustomsYardModel" "loads" "I") (by decide +kernel)) rfl dX5_load_128 ?_
          refine cy_topi (y := nI nt) (h0) ?_
          refine lv_imul hx hb dX5_load_131 ?_
          refine lv_iload_n hx hb dX5_load_132 rfl (lv_at hl 0 rfl) ?_
          refine lv_iadd hx hb dX5_load_133 ?_
          refine cy_topi (y := nI (6 * nt + 2)) (cy_ix nt 2) ?_
          refine lv_lconst (v := 0) hx hb dX5_load_134 (by decide) ?_
          refine cy_stT4 (k := (6 * nt + 2)) (v := 0) hx hb hK hI hS (by have := cy_lt80 hn (by assumption); omega) dX5_load_135 (fun H locs hI hS => ?_)
          refine lv_aload_n hx hb dX5_load_136 rfl (lv_at hl 1 rfl) ?_
          refine cy_getT (v := .ref (ad 25)) hx hb hts hin5 hown hK hI 5 (by decide) (hts (.fieldLink RX5 23 "CustomsYardModel" "things" "[I") (by decide +kernel)) rfl dX5_load_137 ?_
          refine lv_bipush (v := 6) hx hb dX5_load_140 (by decide) ?_
          refine lv_aload_n hx hb dX5_load_142 rfl (lv_at hl 1 rfl) ?_
          refine cy_getT (v := .int (τ.1 0 0)) hx hb hts hin5 hown hK hI 0 (by decide) (hts (.fieldLink RX5 44 "CustomsYardModel" "loads" "I") (by decide +kernel)) rfl dX5_load_143 ?_
          refine cy_topi (y := nI nt) (h0) ?_
          refine lv_imul hx hb dX5_load_146 ?_
          refine lv_iload_n hx hb dX5_load_147 rfl (lv_at hl 0 rfl) ?_
          refine lv_iadd hx hb dX5_load_148 ?_
          refine cy_topi (y := nI (6 * nt + 2)) (cy_ix nt 2) ?_
          refine lv_iconst (v := -1) hx hb dX5_load_149 (by decide) ?_
          refine cy_stT5 (k := (6 * nt + 2)) (v := (-1)) hx hb hK hI hS (by have := cy_lt80 hn (by assumption); omega) dX5_load_150 (fun H locs hI hS => ?_)
          refine lv_iinc (v := 3) (lv' := [(3, .int 3), (0, .ref (ad 20)), (1, .int x), (2, .int q)]) hx hb dX5_load_151 hl (k := 0) rfl (by decide) (by decide) rfl (fun ls hl => ?_)
          refine lv_goto (tgt := 115) hx hb dX5_load_154 (by decide) ?_
          refine lv_iload_n hx hb dX5_load_115 rfl (lv_at hl 0 rfl) ?_
          refine lv_bipush (v := 6) hx hb dX5_load_116 (by decide) ?_
          refine lv_icmp_ge (tgt := 157) hx hb dX5_load_118 (by decide) (fun h29 => absurd h29 (by decide)) (fun h29 => ?_)
          refine lv_aload_n hx hb dX5_load_121 rfl (lv_at hl 1 rfl) ?_
          refine cy_getT (v := .ref (ad 24)) hx hb hts hin5 hown hK hI 4 (by decide) (hts (.fieldLink RX5 19 "CustomsYardModel" "numbers" "[J") (by decide +kernel)) rfl dX5_load_122 ?_
          refine lv_bipush (v := 6) hx hb dX5_load_125 (by decide) ?_
          refine lv_aload_n hx hb dX5_load_127 rfl (lv_at hl 1 rfl) ?_
          refine cy_getT (v := .int (τ.1 0 0)) hx hb hts hin5 hown hK hI 0 (by decide) (hts (.fieldLink RX5 44 "CustomsYardModel" "loads" "I") (by decide +kernel)) rfl dX5_load_128 ?_
          refine cy_topi (y := nI nt) (h0) ?_
          refine lv_imul hx hb dX5_load_131 ?_
          refine lv_iload_n hx hb dX5_load_132 rfl (lv_at hl 0 rfl) ?_
          refine lv_iadd hx hb dX5_load_133 ?_
          refine cy_topi (y := nI (6 * nt + 3)) (cy_ix nt 3) ?_
          refine lv_lconst (v := 0) hx hb dX5_load_134 (by decide) ?_
          refine cy_stT4 (k := (6 * nt + 3)) (v := 0) hx hb hK hI hS (by have := cy_lt80 hn (by assumption); omega) dX5_load_135 (fun H locs hI hS => ?_)
          refine lv_aload_n hx hb dX5_load_136 rfl (lv_at hl 1 rfl) ?_
          refine cy_getT (v := .ref (ad 25)) hx hb hts hin5 hown hK hI 5 (by decide) (hts (.fieldLink RX5 23 "CustomsYardModel" "things" "[I") (by decide +kernel)) rfl dX5_load_137 ?_
          refine lv_bipush (v := 6) hx hb dX5_load_140 (by decide) ?_
          refine lv_aload_n hx hb dX5_load_142 rfl (lv_at hl 1 rfl) ?_
          refine cy_getT (v := .int (τ.1 0 0)) hx hb hts hin5 hown hK hI 0 (by decide) (hts (.fieldLink RX5 44 "CustomsYardModel" "loads" "I") (by decide +kernel)) rfl dX5_load_143 ?_
          refine cy_topi (y := nI nt) (h0) ?_
          refine lv_imul hx hb dX5_load_146 ?_
          refine lv_iload_n hx hb dX5_load_147 rfl (lv_at hl 0 rfl) ?_
          refine lv_iadd hx hb dX5_load_148 ?_
          refine cy_topi (y := nI (6 * nt + 3)) (cy_ix nt 3) ?_
          refine lv_iconst (v := -1) hx hb dX5_load_149 (by decide) ?_
          refine cy_stT5 (k := (6 * nt + 3)) (v := (-1)) hx hb hK hI hS (by have := cy_lt80 hn (by assumption); omega) dX5_load_150 (fun H locs hI hS => ?_)
          refine lv_iinc (v := 4) (lv' := [(3, .int 4), (0, .ref (ad 20)), (1, .int x), (2, .int q)]) hx hb dX5_load_151 hl (k := 0) rfl (by decide) (by decide) rfl (fun ls hl => ?_)
          refine lv_goto (tgt := 115) hx hb dX5_load_154 (by decide) ?_
          refine lv_iload_n hx hb dX5_load_115 rfl (lv_at hl 0 rfl) ?_
          refine lv_bipush (v := 6) hx hb dX5_load_116 (by decide) ?_
          refine lv_icmp_ge (tgt := 157) hx hb dX5_load_118 (by decide) (fun h30 => absurd h30 (by decide)) (fun h30 => ?_)
          refine lv_aload_n hx hb dX5_load_121 rfl (lv_at hl 1 rfl) ?_
          refine cy_getT (v := .ref (ad 24)) hx hb hts hin5 hown hK hI 4 (by decide) (hts (.fieldLink RX5 19 "CustomsYardModel" "numbers" "[J") (by decide +kernel)) rfl dX5_load_122 ?_
          refine lv_bipush (v := 6) hx hb dX5_load_125 (by decide) ?_
          refine lv_aload_n hx hb dX5_load_127 rfl (lv_at hl 1 rfl) ?_
          refine cy_getT (v := .int (τ.1 0 0)) hx hb hts hin5 hown hK hI 0 (by decide) (hts (.fieldLink RX5 44 "CustomsYardModel" "loads" "I") (by decide +kernel)) rfl dX5_load_128 ?_
          refine cy_topi (y := nI nt) (h0) ?_
          refine lv_imul hx hb dX5_load_131 ?_
          refine lv_iload_n hx hb dX5_load_132 rfl (lv_at hl 0 rfl) ?_
          refine lv_iadd hx hb dX5_load_133 ?_
          refine cy_topi (y := nI (6 * nt + 4)) (cy_ix nt 4) ?_
          refine lv_lconst (v := 0) hx hb dX5_load_134 (by decide) ?_
          refine cy_stT4 (k := (6 * nt + 4)) (v := 0) hx hb hK hI hS (by have := cy_lt80 hn (by assumption); omega) dX5_load_135 (fun H locs hI hS => ?_)
          refine lv_aload_n hx hb dX5_load_136 rfl (lv_at hl 1 rfl) ?_
          refine cy_getT (v := .ref (ad 25)) hx hb hts hin5 hown hK hI 5 (by decide) (hts (.fieldLink RX5 23 "CustomsYardModel" "things" "[I") (by decide +kernel)) rfl dX5_load_137 ?_
          refine lv_bipush (v := 6) hx hb dX5_load_140 (by decide) ?_
          refine lv_aload_n hx hb dX5_load_142 rfl (lv_at hl 1 rfl) ?_
          refine cy_getT (v := .int (τ.1 0 0)) hx hb hts hin5 hown hK hI 0 (by decide) (hts (.fieldLink RX5 44 "CustomsYardModel" "loads" "I") (by decide +kernel)) rfl dX5_load_143 ?_
          refine cy_topi (y := nI nt) (h0) ?_
          refine lv_imul hx hb dX5_load_146 ?_
          refine lv_iload_n hx hb dX5_load_147 rfl (lv_at hl 0 rfl) ?_
          refine lv_iadd hx hb dX5_load_148 ?_
          refine cy_topi (y := nI (6 * nt + 4)) (cy_ix nt 4) ?_
          refine lv_iconst (v := -1) hx hb dX5_load_149 (by decide) ?_
          refine cy_stT5 (k := (6 * nt + 4)) (v := (-1)) hx hb hK hI hS (by have := cy_lt80 hn (by assumption); omega) dX5_load_150 (fun H locs hI hS => ?_)
          refine lv_iinc (v := 5) (lv' := [(3, .int 5), (0, .ref (ad 20)), (1, .int x), (2, .int q)]) hx hb dX5_load_151 hl (k := 0) rfl (by decide) (by decide) rfl (fun ls hl => ?_)
          refine lv_goto (tgt := 115) hx hb dX5_load_154 (by decide) ?_
          refine lv_iload_n hx hb dX5_load_115 rfl (lv_at hl 0 rfl) ?_
          refine lv_bipush (v := 6) hx hb dX5_load_116 (by decide) ?_
          refine lv_icmp_ge (tgt := 157) hx hb dX5_load_118 (by decide) (fun h31 => absurd h31 (by decide)) (fun h31 => ?_)
          refine lv_aload_n hx hb dX5_load_121 rfl (lv_at hl 1 rfl) ?_
          refine cy_getT (v := .ref (ad 24)) hx hb hts hin5 hown hK hI 4 (by decide) (hts (.fieldLink RX5 19 "CustomsYardModel" "numbers" "[J") (by decide +kernel)) rfl dX5_load_122 ?_
          refine lv_bipush (v := 6) hx hb dX5_load_125 (by decide) ?_
          refine lv_aload_n hx hb dX5_load_127 rfl (lv_at hl 1 rfl) ?_
          refine cy_getT (v := .int (τ.1 0 0)) hx hb hts hin5 hown hK hI 0 (by decide) (hts (.fieldLink RX5 44 "CustomsYardModel" "loads" "I") (by decide +kernel)) rfl dX5_load_128 ?_
          refine cy_topi (y := nI nt) (h0) ?_
          refine lv_imul hx hb dX5_load_131 ?_
          refine lv_iload_n hx hb dX5_load_132 rfl (lv_at hl 0 rfl) ?_
          refine lv_iadd hx hb dX5_load_133 ?_
          refine cy_topi (y := nI (6 * nt + 5)) (cy_ix nt 5) ?_
          refine lv_lconst (v := 0) hx hb dX5_load_134 (by decide) ?_
          refine cy_stT4 (k := (6 * nt + 5)) (v := 0) hx hb hK hI hS (by have := cy_lt80 hn (by assumption); omega) dX5_load_135 (fun H locs hI hS => ?_)
          refine lv_aload_n hx hb dX5_load_136 rfl (lv_at hl 1 rfl) ?_
          refine cy_getT (v := .ref (ad 25)) hx hb hts hin5 hown hK hI 5 (by decide) (hts (.fieldLink RX5 23 "CustomsYardModel" "things" "[I") (by decide +kernel)) rfl dX5_load_137 ?_
          refine lv_bipush (v := 6) hx hb dX5_load_140 (by decide) ?_
          refine lv_aload_n hx hb dX5_load_142 rfl (lv_at hl 1 rfl) ?_
          refine cy_getT (v := .int (τ.1 0 0)) hx hb hts hin5 hown hK hI 0 (by decide) (hts (.fieldLink RX5 44 "CustomsYardModel" "loads" "I") (by decide +kernel)) rfl dX5_load_143 ?_
          refine cy_topi (y := nI nt) (h0) ?_
          refine lv_imul hx hb dX5_load_146 ?_
          refine lv_iload_n hx hb dX5_load_147 rfl (lv_at hl 0 rfl) ?_
          refine lv_iadd hx hb dX5_load_148 ?_
          refine cy_topi (y := nI (6 * nt + 5)) (cy_ix nt 5) ?_
          refine lv_iconst (v := -1) hx hb dX5_load_149 (by decide) ?_
          refine cy_stT5 (k := (6 * nt + 5)) (v := (-1)) hx hb hK hI hS (by have := cy_lt80 hn (by assumption); omega) dX5_load_150 (fun H locs hI hS => ?_)
          refine lv_iinc (v := 6) (lv' := [(3, .int 6), (0, .ref (ad 20)), (1, .int x), (2, .int q)]) hx hb dX5_load_151 hl (k := 0) rfl (by decide) (by decide) rfl (fun ls hl => ?_)
          refine lv_goto (tgt := 115) hx hb dX5_load_154 (by decide) ?_
          refine lv_iload_n hx hb dX5_load_115 rfl (lv_at hl 0 rfl) ?_
          refine lv_bipush (v := 6) hx hb dX5_load_116 (by decide) ?_
          refine lv_icmp_ge (tgt := 157) hx hb dX5_load_118 (by decide) (fun h32 => ?_) (fun h32 => absurd (by decide) h32)
          refine lv_aload_n hx hb dX5_load_157 rfl (lv_at hl 1 rfl) ?_
          refine lv_dup hx hb dX5_load_158 rfl ?_
          refine cy_getT (v := .int (τ.1 0 0)) hx hb hts hin5 hown hK hI 0 (by decide) (hts (.fieldLink RX5 44 "CustomsYardModel" "loads" "I") (by decide +kernel)) rfl dX5_load_159 ?_
          refine cy_topi (y := nI nt) (h0) ?_
          refine lv_iconst (v := 1) hx hb dX5_load_162 (by decide) ?_
          refine lv_iadd hx hb dX5_load_163 ?_
          refine cy_topi (y := nI (nt + 1)) (nI_1 nt) ?_
          refine cy_putT (v := nI (nt + 1)) hx hb hts hin5 hown hK hI hS 0 0 (by decide) (hts (.fieldLink RX5 44 "CustomsYardModel" "loads" "I") (by decide +kernel)) rfl (by decide +kernel) rfl dX5_load_164 (fun H locs hI hS => ?_)
          refine lv_aload_n hx hb dX5_load_167 rfl (lv_at hl 1 rfl) ?_
          refine cy_getT (v := .int (nI (nt + 1))) hx hb hts hin5 hown hK hI 0 (by decide) (hts (.fieldLink RX5 44 "CustomsYardModel" "loads" "I") (by decide +kernel)) rfl dX5_load_168 ?_
          refine lv_iconst (v := 1) hx hb dX5_load_171 (by decide) ?_
          refine lv_isub hx hb dX5_load_172 ?_
          refine cy_topi (y := nI nt) (nI_pred nt) ?_
          have E : cy_oLoad nt τ x q = (nI nt, cy_i (cy_i (cy_l (cy_i (cy_l (cy_i (cy_l (cy_i (cy_l (cy_i (cy_l (cy_i (cy_l (cy_i (cy_i (cy_i (cy_i τ 0 2 0) 1 nt x) 2 nt 0) 3 nt q) 0 (6 * nt + 0) 0) 4 (6 * nt + 0) (-1)) 0 (6 * nt + 1) 0) 4 (6 * nt + 1) (-1)) 0 (6 * nt + 2) 0) 4 (6 * nt + 2) (-1)) 0 (6 * nt + 3) 0) 4 (6 * nt + 3) (-1)) 0 (6 * nt + 4) 0) 4 (6 * nt + 4) (-1)) 0 (6 * nt + 5) 0) 4 (6 * nt + 5) (-1)) 0 0 (nI (nt + 1))) := by simp [cy_oLoad, cy_z, cy_ldw, cy_clr, b1, b4, b20, show ¬ nt = 80 from fun q => h23 (by rw [q]; rfl)]
          rw [E]
          exact W.iret (v := nI nt) hx hb hr (fun t ht hW => ⟨(), rfl, by rw [ht]; exact hI, hS.F ht⟩) hS.2.2 dX5_load_173
        · refine lv_aload_n hx hb dX5_load_54 rfl (lv_at hl 0 rfl) ?_
          refine lv_bipush (v := -3) hx hb dX5_load_55 (by decide) ?_
          refine cy_callm (va_runV (As := [.int (-3)]) (rest := []) ⟨hx, hb, hml, hown, hts⟩ (c_X5_no l D cI cJ cO z n na σ (cy_i τ 0 2 0) pl hi ad (-3)) (cwV 1 hts gX5_load_X5_no rfl rfl rfl (by decide +kernel) ⟨Nat.le_of_ble_eq_true rfl, Nat.le_of_ble_eq_true rfl⟩) (cy_preV hK hI (cy_recv hK (hI.1 20 _ cy_CR).1 rfl)) rfl rfl hl.1 rfl (lv_room (Nat.le_of_ble_eq_true rfl)) dX5_load_57 ⟨Nat.le_of_ble_eq_true rfl, Nat.le_of_ble_eq_true rfl⟩) hS (fun u H locs hI hz hS => ?_)
          have hI : cy_W D z (cy_CT cI cJ cO n na σ (cy_no (cy_i τ 0 2 0) (-3)) pl hi ad) ad H := hI
          refine W.eq (g2 := F0 m 60 ls [.int (-3)]) rfl ?_
          have E : cy_oLoad nt τ x q = ((-3), cy_no (cy_i τ 0 2 0) (-3)) := by simp [cy_oLoad, cy_z, cy_ldw, cy_clr, b1, b4, b20, show nt = 80 from (nI_eq (by omega) (by decide)).mp h23]
          rw [E]
          exact W.iret (v := (-3)) hx hb hr (fun t ht hW => ⟨(), rfl, by rw [ht]; exact hI, hS.F ht⟩) hS.2.2 dX5_load_60
end
section
/-- rows from i on, f of them: their sum -/
def cy_ns (σ : cy_S) (k : Nat) : Nat → Nat → Int64
  | 0, _ => 0
  | f + 1, i => σ.2 0 (6 * k + i) + cy_ns σ k f (i + 1)
/-- what lies in load k, from place i on -/
def cy_cf (σ : cy_S) (k : Nat) : Nat → Nat → List Nat
  | 0, _ => []
  | f + 1, i => (if σ.1 4 (6 * k + i) = -1 then [] else [(σ.1 4 (6 * k + i)).toNatClampNeg]) ++ cy_cf σ k f (i + 1)
def cy_ch (σ : cy_S) (k : Nat) : List Nat := if cy_th (σ.1 1 k) = true then cy_cf σ k (σ.1 2 k).toNatClampNeg 0 else []
/-- the own weight of load k -/
def cy_bs (σ : cy_S) (k : Nat) : Int64 := (σ.1 3 k).toInt64 + cy_ns σ k (σ.1 2 k).toNatClampNeg 0
def cy_smL (h : Nat → Int64) : List Nat → Int64
  | [] => 0
  | t :: r => h t + cy_smL h r
def cy_smI (h : Nat → Int32) : List Nat → Int32
  | [] => 0
  | t :: r => h t + cy_smI h r
def cy_smN (h : Nat → Nat) : List Nat → Nat
  | [] => 0
  | t :: r => h t + cy_smN h r
theorem cy_smL_app (h : Nat → Int64) : ∀ a b : List Nat, cy_smL h (a ++ b) = cy_smL h a + cy_smL h b
  | [], b => by simp [cy_smL]
  | t :: r, b => by
    show h t + cy_smL h (r ++ b) = (h t + cy_smL h r) + cy_smL h b
    rw [cy_smL_app h r b, Int64.add_assoc]
theorem cy_smI_app (h : Nat → Int32) : ∀ a b : List Nat, cy_smI h (a ++ b) = cy_smI h a + cy_smI h b
  | [], b => by simp [cy_smI]
  | t :: r, b => by
    show h t + cy_smI h (r ++ b) = (h t + cy_smI h r) + cy_smI h b
    rw [cy_smI_app h r b, Int32.add_assoc]
theorem cy_smN_app (h : Nat → Nat) : ∀ a b : List Nat, cy_smN h (a ++ b) = cy_smN h a + cy_smN h b
  | [], b => by simp [cy_smN]
  | t :: r, b => by
    show h t + cy_smN h (r ++ b) = (h t + cy_smN h r) + cy_smN h b
    rw [cy_smN_app h r b, Nat.add_assoc]
theorem cy_smL_congr {h g : Nat → Int64} : ∀ {a : List Nat}, (∀ t, t ∈ a → h t = g t) → cy_smL h a = cy_smL g a
  | [], _ => rfl
  | t :: r, e => by
    show h t + cy_smL h r = g t + cy_smL g r
    rw [e t (by simp), cy_smL_congr (fun u hu => e u (by simp [hu]))]
theorem cy_smI_congr {h g : Nat → Int32} : ∀ {a : List Nat}, (∀ t, t ∈ a → h t = g t) → cy_smI h a = cy_smI g a
  | [], _ => rfl
  | t :: r, e => by
    show h t + cy_smI h r = g t + cy_smI g r
    rw [e t (by simp), cy_smI_congr (fun u hu => e u (by simp [hu]))]
/-- THE WEIGHT, by levels -/
def cy_wt (σ : cy_S) : Nat → Nat → Int64
  | 0, _ => 0
  | f + 1, k => cy_bs σ k + cy_smL (cy_wt σ f) (cy_ch σ k)
/-- how many go as v, by levels -/
def cy_tl (σ : cy_S) (v : Int32) : Nat → Nat → Int32
  | 0, _ => 0
  | f + 1, k => cy_b (cy_go (σ.1 1 k) v) + cy_smI (cy_tl σ v f) (cy_ch σ k)
/-- how deep a sort goes -/
def cy_rk (s : Int32) : Nat := if s = 10 ∨ s = 11 ∨ s = 12 then 2 else if s = 3 ∨ s = 7 ∨ s = 8 ∨ s = 9 then 1 else 0
theorem cy_rk_dec : ∀ a : Fin 13, ∀ b : Fin 13, cy_th (nI a.val) = true → cy_go (nI b.val) (cy_ha (nI a.val)) = true → cy_rk (nI b.val) < cy_rk (nI a.val) := by decide +kernel
theorem cy_rk_le : ∀ a : Fin 13, cy_rk (nI a.val) ≤ 2 := by decide +kernel
theorem cy_cf_mem {n : Nat} {σ : cy_S} {k : Nat} (hT : ∀ j, j < 6 → σ.1 4 (6 * k + j) = -1 ∨ ∃ t : Nat, t < n ∧ σ.1 4 (6 * k + j) = nI t ∧ cy_go (σ.1 1 t) (cy_ha (σ.1 1 k)) = true) (hn : n ≤ 80) : ∀ (f i : Nat), i + f ≤ 6 → ∀ t, t ∈ cy_cf σ k f i → t < n ∧ cy_go (σ.1 1 t) (cy_ha (σ.1 1 k)) = true
  | 0, _, _, t, h => by simp [cy_cf] at h
  | f + 1, i, hi, t, h => by
    unfold cy_cf at h
    rcases List.mem_append.mp h with h1 | h1
    · rcases hT i (by omega) with e | ⟨u, hu, e, hg⟩
      · rw [if_pos e] at h1
        simp at h1
      · rw [if_neg (by rw [e]; exact cy_ne1 (by omega)), e, nI_clamp (by omega)] at h1
        rw [List.mem_singleton.mp h1]
        exact ⟨hu, hg⟩
    · exact cy_cf_mem hT hn f (i + 1) (by omega) t h1
theorem cy_cf_len (σ : cy_S) (k : Nat) : ∀ (f i : Nat), (cy_cf σ k f i).length ≤ f
  | 0, _ => by simp [cy_cf]
  | f + 1, i => by
    unfold cy_cf
    have h := cy_cf_len σ k f (i + 1)
    by_cases e : σ.1 4 (6 * k + i) = -1
    · rw [if_pos e]
      simp
      omega
    · rw [if_neg e]
      simp
      omega
theorem cy_ch_mem {n : Nat} {σ : cy_S} (hok : cy_ok n σ) {k : Nat} (hk : k < n) : ∀ t, t ∈ cy_ch σ k → t < n ∧ cy_rk (σ.1 1 t) < cy_rk (σ.1 1 k) := by
  intro t ht
  obtain ⟨⟨a, ha, ea⟩, ⟨p, hp, ep⟩, -, -, -, hT⟩ := hok.2.2.1 k hk
  unfold cy_ch at ht
  by_cases hb : cy_th (σ.1 1 k) = true
  · rw [if_pos hb, ep, nI_clamp (by omega)] at ht
    obtain ⟨h1, h2⟩ := cy_cf_mem (hT hb) hok.1 p 0 (by omega) t ht
    refine ⟨h1, ?_⟩
    obtain ⟨⟨b, hb2, eb⟩, -⟩ := hok.2.2.1 t h1
    rw [ea, eb] at h2 ⊢
    rw [ea] at hb
    exact cy_rk_dec ⟨a, by omega⟩ ⟨b, by omega⟩ hb h2
  · rw [if_neg hb] at ht
    simp at ht
theorem cy_ch_len {n : Nat} {σ : cy_S} (hok : cy_ok n σ) {k : Nat} (hk : k < n) : (cy_ch σ k).length ≤ 6 := by
  obtain ⟨-, ⟨p, hp, ep⟩, -⟩ := hok.2.2.1 k hk
  unfold cy_ch
  by_cases hb : cy_th (σ.1 1 k) = true
  · rw [if_pos hb, ep, nI_clamp (by omega)]
    have := cy_cf_len σ k p 0
    omega
  · rw [if_neg hb]
    simp
theorem cy_rk2 {n : Nat} {σ : cy_S} (hok : cy_ok n σ) {k : Nat} (hk : k < n) : cy_rk (σ.1 1 k) ≤ 2 := by
  obtain ⟨⟨a, ha, ea⟩, -⟩ := hok.2.2.1 k hk
  rw [ea]
  exact cy_rk_le ⟨a, by omega⟩
theorem cy_wt_up {n : Nat} {σ : cy_S} (hok : cy_ok n σ) : ∀ (f k : Nat), k < n → cy_rk (σ.1 1 k) < f → cy_wt σ f k = cy_wt σ (f + 1) k
  | 0, k, _, h => absurd h (Nat.not_lt_zero _)
  | f + 1, k, hk, h => by
    show cy_bs σ k + cy_smL (cy_wt σ f) (cy_ch σ k) = cy_bs σ k + cy_smL (cy_wt σ (f + 1)) (cy_ch σ k)
    rw [cy_smL_congr (fun t ht => cy_wt_up hok f t (cy_ch_mem hok hk t ht).1 (by have := (cy_ch_mem hok hk t ht).2; omega))]
theorem cy_tl_up {n : Nat} {σ : cy_S} (v : Int32) (hok : cy_ok n σ) : ∀ (f k : Nat), k < n → cy_rk (σ.1 1 k) < f → cy_tl σ v f k = cy_tl σ v (f + 1) k
  | 0, k, _, h => absurd h (Nat.not_lt_zero _)
  | f + 1, k, hk, h => by
    show cy_b (cy_go (σ.1 1 k) v) + cy_smI (cy_tl σ v f) (cy_ch σ k) = cy_b (cy_go (σ.1 1 k) v) + cy_smI (cy_tl σ v (f + 1)) (cy_ch σ k)
    rw [cy_smI_congr (fun t ht => cy_tl_up v hok f t (cy_ch_mem hok hk t ht).1 (by have := (cy_ch_mem hok hk t ht).2; omega))]
theorem cy_wt_eq {n : Nat} {σ : cy_S} (hok : cy_ok n σ) {k : Nat} (hk : k < n) : cy_wt σ 3 k = cy_bs σ k + cy_smL (cy_wt σ 3) (cy_ch σ k) := by
  have h2 := cy_rk2 hok hk
  rw [cy_wt_up hok 3 k hk (by omega)]
  rfl
theorem cy_tl_eq {n : Nat} {σ : cy_S} (v : Int32) (hok : cy_ok n σ) {k : Nat} (hk : k < n) : cy_tl σ v 3 k = cy_b (cy_go (σ.1 1 k) v) + cy_smI (cy_tl σ v 3) (cy_ch σ k) := by
  have h2 := cy_rk2 hok hk
  rw [cy_tl_up v hok 3 k hk (by omega)]
  rfl
/-- what the pile may still cost -/
def cy_mr (r : Nat) : Nat := if r = 0 then 1 else if r = 1 then 7 else 43
def cy_ms (σ : cy_S) (k : Nat) : Nat := cy_mr (cy_rk (σ.1 1 k))
theorem cy_smN_le {h : Nat → Nat} {c : Nat} : ∀ {a : List Nat}, (∀ t, t ∈ a → h t ≤ c) → cy_smN h a ≤ a.length * c
  | [], _ => by simp [cy_smN]
  | t :: r, e => by
    show h t + cy_smN h r ≤ (r.length + 1) * c
    have h1 := e t (by simp)
    have h2 := cy_smN_le (a := r) (fun u hu => e u (by simp [hu]))
    rw [Nat.add_mul]
    omega
theorem cy_smN_len (σ : cy_S) : ∀ a : List Nat, a.length ≤ cy_smN (cy_ms σ) a
  | [] => by simp
  | t :: r => by
    show r.length + 1 ≤ cy_ms σ t + cy_smN (cy_ms σ) r
    have h1 := cy_smN_len σ r
    have h2 : 1 ≤ cy_ms σ t := by
      unfold cy_ms cy_mr
      split
      · omega
      · split <;> omega
    omega
theorem cy_ms_ch {n : Nat} {σ : cy_S} (hok : cy_ok n σ) {k : Nat} (hk : k < n) : cy_smN (cy_ms σ) (cy_ch σ k) + 1 ≤ cy_ms σ k := by
  have hl := cy_ch_len hok hk
  have hr := cy_rk2 hok hk
  rcases (show cy_rk (σ.1 1 k) = 0 ∨ cy_rk (σ.1 1 k) = 1 ∨ cy_rk (σ.1 1 k) = 2 by omega) with h | h | h
  · have : cy_ch σ k = [] := by
      cases hc : cy_ch σ k with
      | nil => rfl
      | cons t r =>
        have := (cy_ch_mem hok hk t (by rw [hc]; simp)).2
        omega
    rw [this]
    show 0 + 1 ≤ cy_ms σ k
    unfold cy_ms
    rw [h]
    decide
  · have h1 : cy_smN (cy_ms σ) (cy_ch σ k) ≤ (cy_ch σ k).length * 1 := cy_smN_le (fun t ht => by
      have h2 := (cy_ch_mem hok hk t ht).2
      unfold cy_ms
      rw [show cy_rk (σ.1 1 t) = 0 by omega]
      decide)
    have h3 : cy_ms σ k = 7 := by unfold cy_ms; rw [h]; rfl
    omega
  · have h1 : cy_smN (cy_ms σ) (cy_ch σ k) ≤ (cy_ch σ k).length * 7 := cy_smN_le (fun t ht => by
      have h2 := (cy_ch_mem hok hk t ht).2
      unfold cy_ms
      rcases (show cy_rk (σ.1 1 t) = 0 ∨ cy_rk (σ.1 1 t) = 1 by omega) with h3 | h3
      · rw [h3]; decide
      · rw [h3]; decide)
    have h3 : cy_ms σ k = 43 := by unfold cy_ms; rw [h]; rfl
    omega
theorem cy_ms_le {n : Nat} {σ : cy_S} (hok : cy_ok n σ) {k : Nat} (hk : k < n) : cy_ms σ k ≤ 43 := by
  have hr := cy_rk2 hok hk
  unfold cy_ms
  rcases (show cy_rk (σ.1 1 k) = 0 ∨ cy_rk (σ.1 1 k) = 1 ∨ cy_rk (σ.1 1 k) = 2 by omega) with h | h | h <;> rw [h] <;> decide
/-- the pile holds a list, its top last -/
def cy_sk (pl : Nat → Int32) (ps : List Nat) : Prop := ∀ j, j < ps.length → pl j = nI (ps.getD j 0)
theorem cy_sk_push {pl : Nat → Int32} {ps : List Nat} (h : cy_sk pl ps) (t : Nat) : cy_sk (va_up pl ps.length (nI t)) (ps ++ [t]) := by
  intro j hj
  rw [List.length_append] at hj
  by_cases e : j = ps.length
  · subst e
    simp [va_up]
  · have hj2 : j < ps.length := by simp at hj; omega
    unfold va_up
    rw [if_neg e, h j hj2]
    simp [List.getD_eq_getElem?_getD, List.getElem?_append_left hj2]
theorem cy_sk_pop {pl : Nat → Int32} {ps : List Nat} {t : Nat} (h : cy_sk pl (ps ++ [t])) : cy_sk pl ps ∧ pl ps.length = nI t := by
  constructor
  · intro j hj
    have h1 := h j (by simp; omega)
    rw [h1]
    simp [List.getD_eq_getElem?_getD, List.getElem?_append_left hj]
  · have h1 := h ps.length (by simp)
    rw [h1]
    simp
theorem cy_snoc (ps : List Nat) (h : 0 < ps.length) : ∃ (qs : List Nat) (t : Nat), ps = qs ++ [t] := by
  have hne : ps ≠ [] := by intro e; rw [e] at h; simp at h
  exact ⟨ps.dropLast, ps.getLast hne, (List.dropLast_concat_getLast hne).symm⟩
end
section
theorem cy_ns_cg {σ σ' : cy_S} (h5 : σ.2 0 = σ'.2 0) (k : Nat) : ∀ f i, cy_ns σ k f i = cy_ns σ' k f i
  | 0, _ => rfl
  | f + 1, i => by
    unfold cy_ns
    rw [h5, cy_ns_cg h5 k f (i + 1)]
theorem cy_cf_cg {σ σ' : cy_S} (h4 : σ.1 4 = σ'.1 4) (k : Nat) : ∀ f i, cy_cf σ k f i = cy_cf σ' k f i
  | 0, _ => rfl
  | f + 1, i => by
    unfold cy_cf
    rw [h4, cy_cf_cg h4 k f (i + 1)]
theorem cy_ch_cg {σ σ' : cy_S} (h1 : σ.1 1 = σ'.1 1) (h2 : σ.1 2 = σ'.1 2) (h4 : σ.1 4 = σ'.1 4) (k : Nat) : cy_ch σ k = cy_ch σ' k := by
  unfold cy_ch
  rw [h1, h2, cy_cf_cg h4]
theorem cy_wt_cg {σ σ' : cy_S} (h1 : σ.1 1 = σ'.1 1) (h2 : σ.1 2 = σ'.1 2) (h3 : σ.1 3 = σ'.1 3) (h4 : σ.1 4 = σ'.1 4) (h5 : σ.2 0 = σ'.2 0) : ∀ f k, cy_wt σ f k = cy_wt σ' f k
  | 0, _ => rfl
  | f + 1, k => by
    unfold cy_wt cy_bs
    rw [cy_ch_cg h1 h2 h4, cy_ns_cg h5, h2, h3, cy_smL_congr (fun t _ => cy_wt_cg h1 h2 h3 h4 h5 f t)]
theorem cy_tl_cg {σ σ' : cy_S} (v : Int32) (h1 : σ.1 1 = σ'.1 1) (h2 : σ.1 2 = σ'.1 2) (h4 : σ.1 4 = σ'.1 4) : ∀ f k, cy_tl σ v f k = cy_tl σ' v f k
  | 0, _ => rfl
  | f + 1, k => by
    unfold cy_tl
    rw [cy_ch_cg h1 h2 h4, h1, cy_smI_congr (fun t _ => cy_tl_cg v h1 h2 h4 f t)]
theorem cy_wt_z (σ : cy_S) (w : Int32) (f k : Nat) : cy_wt (cy_i σ 0 2 w) f k = cy_wt σ f k := cy_wt_cg (σ := cy_i σ 0 2 w) (σ' := σ) rfl rfl rfl rfl rfl f k
theorem cy_tl_z (σ : cy_S) (v w : Int32) (f k : Nat) : cy_tl (cy_i σ 0 2 w) v f k = cy_tl σ v f k := cy_tl_cg (σ := cy_i σ 0 2 w) (σ' := σ) v rfl rfl rfl f k
theorem cy_accL {x b r c w g : Int64} (h : x + (r + (w + 0)) = g) (hw : w = b + c) : (x + b) + (r + c) = g := by
  rw [← h, hw]
  simp only [Int64.add_zero]
  ac_rfl
theorem cy_accI {x b r c w g : Int32} (h : x + (r + (w + 0)) = g) (hw : w = b + c) : (x + b) + (r + c) = g := by
  rw [← h, hw]
  simp only [Int32.add_zero]
  ac_rfl
theorem cy_accN {x a b g : Int64} (h : x + (a + b) = g) : (x + a) + b = g := by rw [← h]; ac_rfl
def cy_oWeight (n : Nat) (σ : cy_S) (l : Int32) : Int64 × cy_S := if cy_ld n l = false then (0, cy_no (cy_z σ) (-2)) else (cy_wt σ 3 l.toNatClampNeg, cy_z σ)
def cy_oInside (n : Nat) (σ : cy_S) (l v : Int32) : Int32 × cy_S := if cy_ld n l = false ∨ cy_vw v = false then (-2, cy_no (cy_z σ) (-2)) else (cy_tl σ v 3 l.toNatClampNeg, cy_z σ)
def cy_oPass (n : Nat) (σ : cy_S) (l g : Int32) : Int32 × cy_S := if cy_ld n l = false ∨ cy_gt g = false ∨ σ.1 6 g.toNatClampNeg = -1 then (-2, cy_no (cy_z σ) (-2)) else if cy_go (σ.1 1 l.toNatClampNeg) (σ.1 6 g.toNatClampNeg) = false then (0, cy_i (cy_z σ) 0 6 (σ.1 0 6 + 1)) else (1, cy_l (cy_z σ) 1 g.toNatClampNeg (σ.2 1 g.toNatClampNeg + cy_wt σ 3 l.toNatClampNeg))
theorem hin5_X5_lay : ∀ w ∈ u_ws RX5 TX5 19, w ∈ wsX5_lay := by decide +kernel
theorem hin5_X5_next : ∀ w ∈ u_ws RX5 TX5 19, w ∈ wsX5_next := by decide +kernel
set_option maxHeartbeats 4000000 in
set_option maxRecDepth 100000 in
theorem c_X5_lay (l : Launch) (D : va_G) (cI cJ cO : ClassId) (z n na : Nat) (σ τ : cy_S) (pl : Nat → Int32) (hi : Int32) (ad : Nat → Nat) (h : Nat) (hh : h < 60) (ehi : hi = nI h) (v : Int32)  : Met l yX5_lay wsX5_lay { frames := 0, cells := 0, slots := 0, locals := 0 } (cy_P D cI cJ cO (fun H => cy_W D z (cy_CT cI cJ cO n na σ τ pl hi ad) ad H) [.ref (ad 20), .int v]) (cy_M (S := Unit) z (fun _ => none) (fun _ H => cy_W D z (cy_CT cI cJ cO n na σ τ (va_up pl h v) (nI (h + 1)) ad) ad H)) 0 0 (fun q => z ≤ q) := by
  refine Met.ofW (cc := cX5_lay) (maxL := 2) (ret := none) (by decide) rfl ?_
  intro p e s m args below meth c s₁ B hml hv
  obtain ⟨rfl, hK, hI⟩ := hv
  have hx := B.exec
  have hb := B.bytes
  have hr := B.returns
  have hts := atoms_spec (ws := wsX5_lay) B.pre
  have hown : s.vm.findClass RX5 = some m.cls := findClass_of_methodNamed B.named
  have hlocks := B.notSynchronized
  have hS : va_S (fun q => z ≤ q) s.heap s.heap [] := va_S.rf
  have hl := lv_entry ([.ref (ad 20), .int v]) (n := 2) (Nat.le_of_ble_eq_true rfl)
  rw [lg_entry_eq]
  generalize (lg_sl ([.ref (ad 20), .int v]) ++ List.replicate (2 - (lg_sl ([.ref (ad 20), .int v])).length) Slot.unset).toArray = ls at hl ⊢
  have hl : lv_has ls 2 [(0, .ref (ad 20)), (1, .int v)] := hl
  have hin5 := hin5_X5_lay
  refine lv_aload_n hx hb dX5_lay_0 rfl (lv_at hl 0 rfl) ?_
  refine cy_getT (v := .ref (ad 31)) hx hb hts hin5 hown hK hI 17 (by decide) (hts (.fieldLink RX5 41 "CustomsYardModel" "pile" "[I") (by decide +kernel)) rfl dX5_lay_1 ?_
  refine lv_aload_n hx hb dX5_lay_4 rfl (lv_at hl 0 rfl) ?_
  refine cy_getT (v := .int hi) hx hb hts hin5 hown hK hI 18 (by decide) (hts (.fieldLink RX5 101 "CustomsYardModel" "high" "I") (by decide +kernel)) rfl dX5_lay_5 ?_
  refine cy_topi (y := nI h) (ehi) ?_
  refine lv_iload_n hx hb dX5_lay_8 rfl (lv_at hl 1 rfl) ?_
  refine cy_stT11 (k := h) (v := v) hx hb hK hI hS (hh) dX5_lay_9 (fun H locs hI hS => ?_)
  refine lv_aload_n hx hb dX5_lay_10 rfl (lv_at hl 0 rfl) ?_
  refine lv_dup hx hb dX5_lay_11 rfl ?_
  refine cy_getT (v := .int hi) hx hb hts hin5 hown hK hI 18 (by decide) (hts (.fieldLink RX5 101 "CustomsYardModel" "high" "I") (by decide +kernel)) rfl dX5_lay_12 ?_
  refine cy_topi (y := nI h) (ehi) ?_
  refine lv_iconst (v := 1) hx hb dX5_lay_15 (by decide) ?_
  refine lv_iadd hx hb dX5_lay_16 ?_
  refine cy_topi (y := nI (h + 1)) (nI_1 h) ?_
  refine cy_putH hx hb hts hin5 hown hK hI hS (hts (.fieldLink RX5 101 "CustomsYardModel" "high" "I") (by decide +kernel)) dX5_lay_17 (fun H locs hI hS => ?_)
  exact W.vret hx hb hr (fun t ht hW => ⟨(), rfl, by rw [ht]; exact hI, hS.F ht⟩) hS.2.2 dX5_lay_20

set_option maxHeartbeats 4000000 in
set_option maxRecDepth 100000 in
theorem c_X5_next (l : Launch) (D : va_G) (cI cJ cO : ClassId) (z n na : Nat) (σ τ : cy_S) (pl : Nat → Int32) (hi : Int32) (ad : Nat → Nat) (nt : Nat) (hok : cy_ok nt τ) (ps : List Nat) (k : Nat) (hk : k < nt) (hsk : cy_sk pl (ps ++ [k])) (ehi : hi = nI (ps.length + 1)) (hps : ps.length ≤ 43) : Met l yX5_next wsX5_next { frames := 2, cells := 0, slots := 0, locals := 42 } (cy_P D cI cJ cO (fun H => cy_W D z (cy_CT cI cJ cO n na σ τ pl hi ad) ad H) [.ref (ad 20)]) (cy_M (S := Nat → Int32) z (fun _ => some (.int (nI k))) (fun u H => cy_sk u (ps ++ cy_ch τ k) ∧ cy_W D z (cy_CT cI cJ cO n na σ τ u (nI (ps ++ cy_ch τ k).length) ad) ad H)) 0 0 (fun q => z ≤ q) := by
  refine Met.ofW (cc := cX5_next) (maxL := 3) (ret := (some .int)) (by decide) rfl ?_
  intro p e s m args below meth c s₁ B hml hv
  obtain ⟨rfl, hK, hI⟩ := hv
  have hx := B.exec
  have hb := B.bytes
  have hr := B.returns
  have hts := atoms_spec (ws := wsX5_next) B.pre
  have hown : s.vm.findClass RX5 = some m.cls := findClass_of_methodNamed B.named
  have hlocks := B.notSynchronized
  have hS : va_S (fun q => z ≤ q) s.heap s.heap [] := va_S.rf
  have hl := lv_entry ([.ref (ad 20)]) (n := 3) (Nat.le_of_ble_eq_true rfl)
  rw [lg_entry_eq]
  generalize (lg_sl ([.ref (ad 20)]) ++ List.replicate (3 - (lg_sl ([.ref (ad 20)])).length) Slot.unset).toArray = ls at hl ⊢
  have hl : lv_has ls 3 [(0, .ref (ad 20))] := hl
  have hin5 := hin5_X5_next
  have hn := hok.1
  obtain ⟨p0, hp0, ep0⟩ := (hok.2.2.1 k hk).2.1
  have hpop := cy_sk_pop hsk
  refine lv_aload_n hx hb dX5_next_0 rfl (lv_at hl 0 rfl) ?_
  refine lv_dup hx hb dX5_next_1 rfl ?_
  refine cy_getT (v := .int hi) hx hb hts hin5 hown hK hI 18 (by decide) (hts (.fieldLink RX5 101 "CustomsYardModel" "high" "I") (by decide +kernel)) rfl dX5_next_2 ?_
  refine cy_topi (y := nI (ps.length + 1)) (ehi) ?_
  refine lv_iconst (v := 1) hx hb dX5_next_5 (by decide) ?_
  refine lv_isub hx hb dX5_next_6 ?_
  refine cy_topi (y := nI ps.length) (nI_pred _) ?_
  refine cy_putH hx hb hts hin5 hown hK hI hS (hts (.fieldLink RX5 101 "CustomsYardModel" "high" "I") (by decide +kernel)) dX5_next_7 (fun H locs hI hS => ?_)
  refine lv_aload_n hx hb dX5_next_10 rfl (lv_at hl 0 rfl) ?_
  refine cy_getT (v := .ref (ad 31)) hx hb hts hin5 hown hK hI 17 (by decide) (hts (.fieldLink RX5 41 "CustomsYardModel" "pile" "[I") (by decide +kernel)) rfl dX5_next_11 ?_
  refine lv_aload_n hx hb dX5_next_14 rfl (lv_at hl 0 rfl) ?_
  refine cy_getT (v := .int (nI ps.length)) hx hb hts hin5 hown hK hI 18 (by decide) (hts (.fieldLink RX5 101 "CustomsYardModel" "high" "I") (by decide +kernel)) rfl dX5_next_15 ?_
  refine cy_iald (f := pl) (k := ps.length) hx hb hK.1 hI 0 (x := 31) rfl rfl (by omega) (by decide) dX5_next_18 ?_
  refine cy_topi (y := nI k) (hpop.2) ?_
  refine lv_istore_n (lv' := [(1, .int (nI k)), (0, .ref (ad 20))]) hx hb dX5_next_19 rfl hl (by decide) rfl (fun ls hl => ?_)
  refine lv_iconst (v := 0) hx hb dX5_next_20 (by decide) ?_
  refine lv_istore_n (lv' := [(2, .int 0), (1, .int (nI k)), (0, .ref (ad 20))]) hx hb dX5_next_21 rfl hl (by decide) rfl (fun ls hl => ?_)
  cases hbt : cy_th (τ.1 1 k)
  · have ec : ps ++ cy_ch τ k = ps := by unfold cy_ch; rw [if_neg (by rw [hbt]; decide)]; simp
    refine lv_iload_n hx hb dX5_next_22 rfl (lv_at hl 0 rfl) ?_
    refine lv_aload_n hx hb dX5_next_23 rfl (lv_at hl 2 rfl) ?_
    refine cy_getT (v := .ref (ad 22)) hx hb hts hin5 hown hK hI 2 (by decide) (hts (.fieldLink RX5 13 "CustomsYardModel" "sizes" "[I") (by decide +kernel)) rfl dX5_next_24 ?_
    refine lv_iload_n hx hb dX5_next_27 rfl (lv_at hl 1 rfl) ?_
    refine cy_iald (f := τ.1 2) (k := k) hx hb hK.1 hI 0 (x := 22) rfl rfl (by omega) (by decide) dX5_next_28 ?_
    refine cy_topi (y := nI p0) (ep0) ?_
    refine lv_icmp_ge (tgt := 80) hx hb dX5_next_29 (by decide) (fun h51 => ?_) (fun h51 => ?_)
    · refine lv_iload_n hx hb dX5_next_80 rfl (lv_at hl 1 rfl) ?_
      exact W.iret (v := nI k) hx hb hr (fun t ht hW => ⟨pl, rfl, ⟨by rw [ec]; exact hpop.1, by rw [ht, ec]; exact hI⟩, hS.F ht⟩) hS.2.2 dX5_next_81
    · refine lv_aload_n hx hb dX5_next_32 rfl (lv_at hl 2 rfl) ?_
      refine cy_getT (v := .ref (ad 21)) hx hb hts hin5 hown hK hI 1 (by decide) (hts (.fieldLink RX5 7 "CustomsYardModel" "sorts" "[I") (by decide +kernel)) rfl dX5_next_33 ?_
      refine lv_iload_n hx hb dX5_next_36 rfl (lv_at hl 1 rfl) ?_
      refine cy_iald (f := τ.1 1) (k := k) hx hb hK.1 hI 0 (x := 21) rfl rfl (by omega) (by decide) dX5_next_37 ?_
      refine cy_callp (v := .int (cy_b (cy_th (τ.1 1 k)))) (va_runS (As := [.int (τ.1 1 k)]) (rest := []) ⟨hx, hb, hml, hown, hts⟩ (c_X5_isOfThings l (τ.1 1 k)) (va_cwS 1 hts gX5_next_X5_isOfThings rfl rfl rfl (by decide +kernel) ⟨Nat.le_of_ble_eq_true rfl, Nat.le_of_ble_eq_true rfl⟩) preEq rfl rfl hl.1 rfl (lv_room (Nat.le_of_ble_eq_true rfl)) dX5_next_38 ⟨Nat.le_of_ble_eq_true rfl, Nat.le_of_ble_eq_true rfl⟩) ?_
      refine cy_topi (y := cy_b false) (congrArg cy_b hbt) ?_
      refine lv_if_eq (tgt := 80) hx hb dX5_next_41 (by decide) (fun h52 => ?_) (fun h52 => absurd (by decide) h52)
      refine lv_iload_n hx hb dX5_next_80 rfl (lv_at hl 1 rfl) ?_
      exact W.iret (v := nI k) hx hb hr (fun t ht hW => ⟨pl, rfl, ⟨by rw [ec]; exact hpop.1, by rw [ht, ec]; exact hI⟩, hS.F ht⟩) hS.2.2 dX5_next_81
  · have hT := (hok.2.2.1 k hk).2.2.2.2.2 hbt
    have loop : ∀ (f i : Nat) (qs : List Nat) (pl' : Nat → Int32) (H : Heap) (locs : List Loc) (ls : Array Slot), i + f = p0 → qs.length ≤ ps.length + i → cy_sk pl' qs → qs ++ cy_cf τ k f i = ps ++ cy_ch τ k → cy_W D z (cy_CT cI cJ cO n na σ τ pl' (nI qs.length) ad) ad H → va_S (fun q => z ≤ q) s.heap H locs → lv_has ls 3 [(2, .int (nI i)), (1, .int (nI k)), (0, .ref (ad 20))] → W p l e (headSpec wsX5_next { frames := 2, cells := 0, slots := 0, locals := 42 }).room s m #[Value.ref (ad 20)] below meth c H locs 0 0 (MQ below (cy_M (S := Nat → Int32) z (fun _ => some (.int (nI k))) (fun u H => cy_sk u (ps ++ cy_ch τ k) ∧ cy_W D z (cy_CT cI cJ cO n na σ τ u (nI (ps ++ cy_ch τ k).length) ad) ad H)) #[Value.ref (ad 20)] s 0 0 (fun q => z ≤ q)) (F0 m 22 ls []) := by
      intro f
      induction f with
      | zero =>
        intro i qs pl' H locs ls hif hql hq hE hI hS hl
        obtain rfl : i = p0 := by omega
        obtain rfl : qs = ps ++ cy_ch τ k := by simpa [cy_cf] using hE
        refine lv_iload_n hx hb dX5_next_22 rfl (lv_at hl 0 rfl) ?_
        refine lv_aload_n hx hb dX5_next_23 rfl (lv_at hl 2 rfl) ?_
        refine cy_getT (v := .ref (ad 22)) hx hb hts hin5 hown hK hI 2 (by decide) (hts (.fieldLink RX5 13 "CustomsYardModel" "sizes" "[I") (by decide +kernel)) rfl dX5_next_24 ?_
        refine lv_iload_n hx hb dX5_next_27 rfl (lv_at hl 1 rfl) ?_
        refine cy_iald (f := τ.1 2) (k := k) hx hb hK.1 hI 0 (x := 22) rfl rfl (by omega) (by decide) dX5_next_28 ?_
        refine cy_topi (y := nI i) (ep0) ?_
        refine lv_icmp_ge (tgt := 80) hx hb dX5_next_29 (by decide) (fun h61 => ?_) (fun h61 => absurd (nI_le (Nat.le_refl _) (by omega)) h61)
        refine lv_iload_n hx hb dX5_next_80 rfl (lv_at hl 1 rfl) ?_
        exact W.iret (v := nI k) hx hb hr (fun t ht hW => ⟨pl', rfl, ⟨hq, by rw [ht]; exact hI⟩, hS.F ht⟩) hS.2.2 dX5_next_81
      | succ f ih =>
        intro i qs pl' H locs ls hif hql hq hE hI hS hl
        refine lv_iload_n hx hb dX5_next_22 rfl (lv_at hl 0 rfl) ?_
        refine lv_aload_n hx hb dX5_next_23 rfl (lv_at hl 2 rfl) ?_
        refine cy_getT (v := .ref (ad 22)) hx hb hts hin5 hown hK hI 2 (by decide) (hts (.fieldLink RX5 13 "CustomsYardModel" "sizes" "[I") (by decide +kernel)) rfl dX5_next_24 ?_
        refine lv_iload_n hx hb dX5_next_27 rfl (lv_at hl 1 rfl) ?_
        refine cy_iald (f := τ.1 2) (k := k) hx hb hK.1 hI 0 (x := 22) rfl rfl (by omega) (by decide) dX5_next_28 ?_
        refine cy_topi (y := nI p0) (ep0) ?_
        refine lv_icmp_ge (tgt := 80) hx hb dX5_next_29 (by decide) (fun h71 => absurd h71 (nI_ge (by omega) (by omega))) (fun h71 => ?_)
        refine lv_aload_n hx hb dX5_next_32 rfl (lv_at hl 2 rfl) ?_
        refine cy_getT (v := .ref (ad 21)) hx hb hts hin5 hown hK hI 1 (by decide) (hts (.fieldLink RX5 7 "CustomsYardModel" "sorts" "[I") (by decide +kernel)) rfl dX5_next_33 ?_
        refine lv_iload_n hx hb dX5_next_36 rfl (lv_at hl 1 rfl) ?_
        refine cy_iald (f := τ.1 1) (k := k) hx hb hK.1 hI 0 (x := 21) rfl rfl (by omega) (by decide) dX5_next_37 ?_
        refine cy_callp (v := .int (cy_b (cy_th (τ.1 1 k)))) (va_runS (As := [.int (τ.1 1 k)]) (rest := []) ⟨hx, hb, hml, hown, hts⟩ (c_X5_isOfThings l (τ.1 1 k)) (va_cwS 1 hts gX5_next_X5_isOfThings rfl rfl rfl (by decide +kernel) ⟨Nat.le_of_ble_eq_true rfl, Nat.le_of_ble_eq_true rfl⟩) preEq rfl rfl hl.1 rfl (lv_room (Nat.le_of_ble_eq_true rfl)) dX5_next_38 ⟨Nat.le_of_ble_eq_true rfl, Nat.le_of_ble_eq_true rfl⟩) ?_
        refine cy_topi (y := cy_b true) (congrArg cy_b hbt) ?_
        refine lv_if_eq (tgt := 80) hx hb dX5_next_41 (by decide) (fun h72 => absurd h72 (by decide)) (fun h72 => ?_)
        refine lv_aload_n hx hb dX5_next_44 rfl (lv_at hl 2 rfl) ?_
        refine cy_getT (v := .ref (ad 25)) hx hb hts hin5 hown hK hI 5 (by decide) (hts (.fieldLink RX5 23 "CustomsYardModel" "things" "[I") (by decide +kernel)) rfl dX5_next_45 ?_
        refine lv_bipush (v := 6) hx hb dX5_next_48 (by decide) ?_
        refine lv_iload_n hx hb dX5_next_50 rfl (lv_at hl 1 rfl) ?_
        refine lv_imul hx hb dX5_next_51 ?_
        refine lv_iload_n hx hb dX5_next_52 rfl (lv_at hl 0 rfl) ?_
        refine lv_iadd hx hb dX5_next_53 ?_
        refine cy_topi (y := nI (6 * k + i)) (cy_ix k i) ?_
        refine cy_iald (f := τ.1 4) (k := (6 * k + i)) hx hb hK.1 hI 0 (x := 25) rfl rfl (by omega) (by decide) dX5_next_54 ?_
        rcases hT i (by omega) with e1 | ⟨t, ht, e1, -⟩
        · refine cy_topi e1 ?_
          refine lv_iconst (v := -1) hx hb dX5_next_55 (by decide) ?_
          refine lv_icmp_eq (tgt := 74) hx hb dX5_next_56 (by decide) (fun h73 => ?_) (fun h73 => absurd (by decide) h73)
          refine lv_iinc (v := nI (i + 1)) (lv' := [(2, .int (nI (i + 1))), (1, .int (nI k)), (0, .ref (ad 20))]) hx hb dX5_next_74 hl (k := 0) rfl (nI_1 _) (by decide) rfl (fun ls hl => ?_)
          refine lv_goto (tgt := 22) hx hb dX5_next_77 (by decide) ?_
          exact ih (i + 1) qs pl' H locs ls (by omega) (by omega) hq (by rw [← hE]; show _ = qs ++ ((if _ then _ else _) ++ _); rw [if_pos e1]; rfl) hI hS (lv_sub hl [0, 1, 2] rfl)
        · have ne0 := cy_ne1 (show t < 2 ^ 31 by omega)
          refine cy_topi e1 ?_
          refine lv_iconst (v := -1) hx hb dX5_next_55 (by decide) ?_
          refine lv_icmp_eq (tgt := 74) hx hb dX5_next_56 (by decide) (fun h74 => absurd h74 (ne0)) (fun h74 => ?_)
          refine lv_aload_n hx hb dX5_next_59 rfl (lv_at hl 2 rfl) ?_
          refine lv_aload_n hx hb dX5_next_60 rfl (lv_at hl 2 rfl) ?_
          refine cy_getT (v := .ref (ad 25)) hx hb hts hin5 hown hK hI 5 (by decide) (hts (.fieldLink RX5 23 "CustomsYardModel" "things" "[I") (by decide +kernel)) rfl dX5_next_61 ?_
          refine lv_bipush (v := 6) hx hb dX5_next_64 (by decide) ?_
          refine lv_iload_n hx hb dX5_next_66 rfl (lv_at hl 1 rfl) ?_
          refine lv_imul hx hb dX5_next_67 ?_
          refine lv_iload_n hx hb dX5_next_68 rfl (lv_at hl 0 rfl) ?_
          refine lv_iadd hx hb dX5_next_69 ?_
          refine cy_topi (y := nI (6 * k + i)) (cy_ix k i) ?_
          refine cy_iald (f := τ.1 4) (k := (6 * k + i)) hx hb hK.1 hI 0 (x := 25) rfl rfl (by omega) (by decide) dX5_next_70 ?_
          refine cy_topi (y := nI t) (e1) ?_
          refine cy_callm (va_runV (As := [.int (nI t)]) (rest := []) ⟨hx, hb, hml, hown, hts⟩ (c_X5_lay l D cI cJ cO z n na σ τ (pl') (nI qs.length) ad qs.length (by omega) rfl (nI t)) (cwV 1 hts gX5_next_X5_lay rfl rfl rfl (by decide +kernel) ⟨Nat.le_of_ble_eq_true rfl, Nat.le_of_ble_eq_true rfl⟩) (cy_preV hK hI (cy_recv hK (hI.1 20 _ cy_CR).1 rfl)) rfl rfl hl.1 rfl (lv_room (Nat.le_of_ble_eq_true rfl)) dX5_next_71 ⟨Nat.le_of_ble_eq_true rfl, Nat.le_of_ble_eq_true rfl⟩) hS (fun u H locs hI hz hS => ?_)
          have hI : cy_W D z (cy_CT cI cJ cO n na σ τ (va_up (pl') qs.length (nI t)) (nI (qs.length + 1)) ad) ad H := hI
          refine W.eq (g2 := F0 m 74 ls []) rfl ?_
          refine lv_iinc (v := nI (i + 1)) (lv' := [(2, .int (nI (i + 1))), (1, .int (nI k)), (0, .ref (ad 20))]) hx hb dX5_next_74 hl (k := 0) rfl (nI_1 _) (by decide) rfl (fun ls hl => ?_)
          refine lv_goto (tgt := 22) hx hb dX5_next_77 (by decide) ?_
          exact ih (i + 1) (qs ++ [t]) (va_up pl' qs.length (nI t)) H locs ls (by omega) (by simp; omega) (cy_sk_push hq t) (by rw [← hE]; show _ = qs ++ ((if _ then _ else _) ++ _); rw [if_neg (by rw [e1]; exact ne0), e1, nI_clamp (by omega)]; simp) (by rw [show (qs ++ [t]).length = qs.length + 1 by simp]; exact hI) hS (lv_sub hl [0, 1, 2] rfl)
    exact loop p0 0 ps pl _ _ ls (by omega) (by omega) hpop.1 (by unfold cy_ch; rw [if_pos hbt, ep0, nI_clamp (by omega)]) hI hS hl
end
section
theorem hin5_X5_weightOf : ∀ w ∈ u_ws RX5 TX5 19, w ∈ wsX5_weightOf := by decide +kernel
set_option maxHeartbeats 4000000 in
set_option maxRecDepth 100000 in
theorem c_X5_weightOf (l : Launch) (D : va_G) (cI cJ cO : ClassId) (z n na : Nat) (σ τ : cy_S) (pl : Nat → Int32) (hi : Int32) (ad : Nat → Nat) (nt : Nat) (hok : cy_ok nt τ) (k0 : Nat) (hk0 : k0 < nt) : Met l yX5_weightOf wsX5_weightOf { frames := 3, cells := 0, slots := 0, locals := 64 } (cy_P D cI cJ cO (fun H => cy_W D z (cy_CT cI cJ cO n na σ τ pl hi ad) ad H) [.ref (ad 20), .int (nI k0)]) (cy_M (S := (Nat → Int32) × Int32) z (fun _ => some (.long (cy_wt τ 3 k0))) (fun u H => cy_W D z (cy_CT cI cJ cO n na σ τ u.1 u.2 ad) ad H)) 0 0 (fun q => z ≤ q) := by
  refine Met.ofW (cc := cX5_weightOf) (maxL := 6) (ret := (some .long)) (by decide) rfl ?_
  intro p e s m args below meth c s₁ B hml hv
  obtain ⟨rfl, hK, hI⟩ := hv
  have hx := B.exec
  have hb := B.bytes
  have hr := B.returns
  have hts := atoms_spec (ws := wsX5_weightOf) B.pre
  have hown : s.vm.findClass RX5 = some m.cls := findClass_of_methodNamed B.named
  have hlocks := B.notSynchronized
  have hS : va_S (fun q => z ≤ q) s.heap s.heap [] := va_S.rf
  have hl := lv_entry ([.ref (ad 20), .int (nI k0)]) (n := 6) (Nat.le_of_ble_eq_true rfl)
  rw [lg_entry_eq]
  generalize (lg_sl ([.ref (ad 20), .int (nI k0)]) ++ List.replicate (6 - (lg_sl ([.ref (ad 20), .int (nI k0)])).length) Slot.unset).toArray = ls at hl ⊢
  have hl : lv_has ls 6 [(0, .ref (ad 20)), (1, .int (nI k0))] := hl
  have hin5 := hin5_X5_weightOf
  have hn := hok.1
  refine lv_lconst (v := 0) hx hb dX5_weightOf_0 (by decide) ?_
  refine lv_lstore_n (lv' := [(2, .long 0), (0, .ref (ad 20)), (1, .int (nI k0))]) hx hb dX5_weightOf_1 rfl hl (by decide) rfl (fun ls hl => ?_)
  refine lv_aload_n hx hb dX5_weightOf_2 rfl (lv_at hl 1 rfl) ?_
  refine lv_iconst (v := 0) hx hb dX5_weightOf_3 (by decide) ?_
  refine cy_putH hx hb hts hin5 hown hK hI hS (hts (.fieldLink RX5 101 "CustomsYardModel" "high" "I") (by decide +kernel)) dX5_weightOf_4 (fun H locs hI hS => ?_)
  refine lv_aload_n hx hb dX5_weightOf_7 rfl (lv_at hl 1 rfl) ?_
  refine lv_iload_n hx hb dX5_weightOf_8 rfl (lv_at hl 2 rfl) ?_
  refine cy_callm (va_runV (As := [.int (nI k0)]) (rest := []) ⟨hx, hb, hml, hown, hts⟩ (c_X5_lay l D cI cJ cO z n na σ τ pl 0 ad 0 (by decide) rfl (nI k0)) (cwV 1 hts gX5_weightOf_X5_lay rfl rfl rfl (by decide +kernel) ⟨Nat.le_of_ble_eq_true rfl, Nat.le_of_ble_eq_true rfl⟩) (cy_preV hK hI (cy_recv hK (hI.1 20 _ cy_CR).1 rfl)) rfl rfl hl.1 rfl (lv_room (Nat.le_of_ble_eq_true rfl)) dX5_weightOf_9 ⟨Nat.le_of_ble_eq_true rfl, Nat.le_of_ble_eq_true rfl⟩) hS (fun u H locs hI hz hS => ?_)
  have hI : cy_W D z (cy_CT cI cJ cO n na σ τ (va_up pl 0 (nI k0)) (nI (0 + 1)) ad) ad H := hI
  refine W.eq (g2 := F0 m 12 ls []) rfl ?_
  have loop : ∀ (M : Nat) (qs : List Nat) (pl' : Nat → Int32) (x : Int64) (H : Heap) (locs : List Loc) (ls : Array Slot), cy_smN (cy_ms τ) qs < M → cy_smN (cy_ms τ) qs ≤ 43 → (∀ t, t ∈ qs → t < nt) → cy_sk pl' qs → x + cy_smL (cy_wt τ 3) qs = cy_wt τ 3 k0 → cy_W D z (cy_CT cI cJ cO n na σ τ pl' (nI qs.length) ad) ad H → va_S (fun q => z ≤ q) s.heap H locs → lv_has ls 6 [(2, .long x), (0, .ref (ad 20)), (1, .int (nI k0))] → W p l e (headSpec wsX5_weightOf { frames := 3, cells := 0, slots := 0, locals := 64 }).room s m #[Value.ref (ad 20), Value.int (nI k0)] below meth c H locs 0 0 (MQ below (cy_M (S := (Nat → Int32) × Int32) z (fun _ => some (.long (cy_wt τ 3 k0))) (fun u H => cy_W D z (cy_CT cI cJ cO n na σ τ u.1 u.2 ad) ad H)) #[Value.ref (ad 20), Value.int (nI k0)] s 0 0 (fun q => z ≤ q)) (F0 m 12 ls []) := by
    intro M
    induction M with
    | zero =>
      intro qs pl' x H locs ls hM
      exact absurd hM (Nat.not_lt_zero _)
    | succ M ih =>
      intro qs pl' x H locs ls hM h43 hall hq hE hI hS hl
      rcases Nat.eq_zero_or_pos qs.length with hz0 | hp
      · obtain rfl : qs = [] := List.length_eq_zero_iff.mp hz0
        refine lv_aload_n hx hb dX5_weightOf_12 rfl (lv_at hl 1 rfl) ?_
        refine cy_getT (v := .int (nI ([] : List Nat).length)) hx hb hts hin5 hown hK hI 18 (by decide) (hts (.fieldLink RX5 101 "CustomsYardModel" "high" "I") (by decide +kernel)) rfl dX5_weightOf_13 ?_
        refine lv_if_le (tgt := 76) hx hb dX5_weightOf_16 (by decide) (fun h11 => ?_) (fun h11 => absurd (by decide) h11)
        refine lv_lload_n hx hb dX5_weightOf_76 rfl (lv_at hl 0 rfl) ?_
        exact W.lret (v := x) hx hb hr (fun t ht hW => ⟨(pl', _), congrArg (fun q => Outcome.returned (some (Value.long q))) (by rw [← hE]; simp [cy_smL]), by rw [ht]; exact hI, hS.F ht⟩) hS.2.2 dX5_weightOf_77
      · obtain ⟨rs, t, rfl⟩ := cy_snoc qs hp
        have htn : t < nt := hall t (by simp)
        rw [cy_smN_app] at hM h43
        have hms := cy_ms_ch hok htn
        have e1 : cy_smN (cy_ms τ) [t] = cy_ms τ t := by simp [cy_smN]
        rw [e1] at hM h43
        have hrl := cy_smN_len τ rs
        have hI : cy_W D z (cy_CT cI cJ cO n na σ τ pl' (nI (rs.length + 1)) ad) ad H := by rw [show rs.length + 1 = (rs ++ [t]).length by simp]; exact hI
        obtain ⟨p0, hp0, ep0⟩ := (hok.2.2.1 t htn).2.1
        refine lv_aload_n hx hb dX5_weightOf_12 rfl (lv_at hl 1 rfl) ?_
        refine cy_getT (v := .int (nI (rs.length + 1))) hx hb hts hin5 hown hK hI 18 (by decide) (hts (.fieldLink RX5 101 "CustomsYardModel" "high" "I") (by decide +kernel)) rfl dX5_weightOf_13 ?_
        refine lv_if_le (tgt := 76) hx hb dX5_weightOf_16 (by decide) (fun h31 => absurd h31 (nI_nle (by omega) (by omega))) (fun h31 => ?_)
        refine lv_aload_n hx hb dX5_weightOf_19 rfl (lv_at hl 1 rfl) ?_
        refine cy_callm (va_runV (As := []) (rest := []) ⟨hx, hb, hml, hown, hts⟩ (c_X5_next l D cI cJ cO z n na σ τ (pl') (nI (rs.length + 1)) ad nt hok rs t htn hq rfl (by omega)) (cwV 0 hts gX5_weightOf_X5_next rfl rfl rfl (by decide +kernel) ⟨Nat.le_of_ble_eq_true rfl, Nat.le_of_ble_eq_true rfl⟩) (cy_preV hK hI (cy_recv hK (hI.1 20 _ cy_CR).1 rfl)) rfl rfl hl.1 rfl (lv_room (Nat.le_of_ble_eq_true rfl)) dX5_weightOf_20 ⟨Nat.le_of_ble_eq_true rfl, Nat.le_of_ble_eq_true rfl⟩) hS (fun u H locs hI hz hS => ?_)
        obtain ⟨hu, hI⟩ := hI
        have hI : cy_W D z (cy_CT cI cJ cO n na σ τ u (nI (rs ++ cy_ch τ t).length) ad) ad H := hI
        refine W.eq (g2 := F0 m 23 ls [.int (nI t)]) rfl ?_
        refine lv_istore (lv' := [(4, .int (nI t)), (2, .long x), (0, .ref (ad 20)), (1, .int (nI k0))]) hx hb dX5_weightOf_23 hl (by decide) rfl (fun ls hl => ?_)
        refine lv_lload_n hx hb dX5_weightOf_25 rfl (lv_at hl 1 rfl) ?_
        refine lv_aload_n hx hb dX5_weightOf_26 rfl (lv_at hl 2 rfl) ?_
        refine cy_getT (v := .ref (ad 23)) hx hb hts hin5 hown hK hI 3 (by decide) (hts (.fieldLink RX5 16 "CustomsYardModel" "weights" "[I") (by decide +kernel)) rfl dX5_weightOf_27 ?_
        refine lv_iload hx hb dX5_weightOf_30 (lv_at hl 0 rfl) ?_
        refine cy_iald (f := τ.1 3) (k := t) hx hb hK.1 hI 0 (x := 23) rfl rfl (by omega) (by decide) dX5_weightOf_32 ?_
        refine lv_i2l (v := (τ.1 3 t).toInt64) hx hb dX5_weightOf_33 rfl ?_
        refine lv_ladd hx hb dX5_weightOf_34 ?_
        refine lv_lstore_n (lv' := [(2, .long (x + ((τ.1 3 t).toInt64))), (4, .int (nI t)), (0, .ref (ad 20)), (1, .int (nI k0))]) hx hb dX5_weightOf_35 rfl hl (by decide) rfl (fun ls hl => ?_)
        refine lv_iconst (v := 0) hx hb dX5_weightOf_36 (by decide) ?_
        refine lv_istore (lv' := [(5, .int 0), (2, .long (x + ((τ.1 3 t).toInt64))), (4, .int (nI t)), (0, .ref (ad 20)), (1, .int (nI k0))]) hx hb dX5_weightOf_37 hl (by decide) rfl (fun ls hl => ?_)
        have inner : ∀ (f i : Nat) (y : Int64) (ls : Array Slot), i + f = p0 → y + cy_ns τ t f i = x + cy_bs τ t → lv_has ls 6 [(5, .int (nI i)), (2, .long y), (4, .int (nI t)), (0, .ref (ad 20)), (1, .int (nI k0))] → W p l e (headSpec wsX5_weightOf { frames := 3, cells := 0, slots := 0, locals := 64 }).room s m #[Value.ref (ad 20), Value.int (nI k0)] below meth c H locs (0 + 0) (0 + 0) (MQ below (cy_M (S := (Nat → Int32) × Int32) z (fun _ => some (.long (cy_wt τ 3 k0))) (fun u H => cy_W D z (cy_CT cI cJ cO n na σ τ u.1 u.2 ad) ad H)) #[Value.ref (ad 20), Value.int (nI k0)] s 0 0 (fun q => z ≤ q)) (F0 m 39 ls []) := by
          intro f
          induction f with
          | zero =>
            intro i y ls hif hy hl
            obtain rfl : i = p0 := by omega
            refine lv_iload hx hb dX5_weightOf_39 (lv_at hl 0 rfl) ?_
            refine lv_aload_n hx hb dX5_weightOf_41 rfl (lv_at hl 3 rfl) ?_
            refine cy_getT (v := .ref (ad 22)) hx hb hts hin5 hown hK hI 2 (by decide) (hts (.fieldLink RX5 13 "CustomsYardModel" "sizes" "[I") (by decide +kernel)) rfl dX5_weightOf_42 ?_
            refine lv_iload hx hb dX5_weightOf_45 (lv_at hl 2 rfl) ?_
            refine cy_iald (f := τ.1 2) (k := t) hx hb hK.1 hI 0 (x := 22) rfl rfl (by omega) (by decide) dX5_weightOf_47 ?_
            refine cy_topi (y := nI i) (ep0) ?_
            refine lv_icmp_ge (tgt := 73) hx hb dX5_weightOf_48 (by decide) (fun h101 => ?_) (fun h101 => absurd (nI_le (Nat.le_refl _) (by omega)) h101)
            refine lv_goto (tgt := 12) hx hb dX5_weightOf_73 (by decide) ?_
            have hy2 : y = x + cy_bs τ t := by rw [← hy]; simp [cy_ns]
            have hE2 : y + cy_smL (cy_wt τ 3) (rs ++ cy_ch τ t) = cy_wt τ 3 k0 := by rw [cy_smL_app] at hE ⊢; rw [hy2]; exact cy_accL hE (cy_wt_eq hok htn)
            exact ih (rs ++ cy_ch τ t) u y H locs ls (by rw [cy_smN_app]; omega) (by rw [cy_smN_app]; omega) (fun a ha => (List.mem_append.mp ha).elim (fun h => hall a (by simp [h])) (fun h => (cy_ch_mem hok htn a h).1)) hu hE2 hI hS (lv_sub hl [1, 3, 4] rfl)
          | succ f ihf =>
            intro i y ls hif hy hl
            refine lv_iload hx hb dX5_weightOf_39 (lv_at hl 0 rfl) ?_
            refine lv_aload_n hx hb dX5_weightOf_41 rfl (lv_at hl 3 rfl) ?_
            refine cy_getT (v := .ref (ad 22)) hx hb hts hin5 hown hK hI 2 (by decide) (hts (.fieldLink RX5 13 "CustomsYardModel" "sizes" "[I") (by decide +kernel)) rfl dX5_weightOf_42 ?_
            refine lv_iload hx hb dX5_weightOf_45 (lv_at hl 2 rfl) ?_
            refine cy_iald (f := τ.1 2) (k := t) hx hb hK.1 hI 0 (x := 22) rfl rfl (by omega) (by decide) dX5_weightOf_47 ?_
            refine cy_topi (y := nI p0) (ep0) ?_
            refine lv_icmp_ge (tgt := 73) hx hb dX5_weightOf_48 (by decide) (fun h121 => absurd h121 (nI_ge (by omega) (by omega))) (fun h121 => ?_)
            refine lv_lload_n hx hb dX5_weightOf_51 rfl (lv_at hl 1 rfl) ?_
            refine lv_aload_n hx hb dX5_weightOf_52 rfl (lv_at hl 3 rfl) ?_
            refine cy_getT (v := .ref (ad 24)) hx hb hts hin5 hown hK hI 4 (by decide) (hts (.fieldLink RX5 19 "CustomsYardModel" "numbers" "[J") (by decide +kernel)) rfl dX5_weightOf_53 ?_
            refine lv_bipush (v := 6) hx hb dX5_weightOf_56 (by decide) ?_
            refine lv_iload hx hb dX5_weightOf_58 (lv_at hl 2 rfl) ?_
            refine lv_imul hx hb dX5_weightOf_60 ?_
            refine lv_iload hx hb dX5_weightOf_61 (lv_at hl 0 rfl) ?_
            refine lv_iadd hx hb dX5_weightOf_63 ?_
            refine cy_topi (y := nI (6 * t + i)) (cy_ix t i) ?_
            refine cy_lald (f := τ.2 0) (k := (6 * t + i)) hx hb hK.1 hI 1 (x := 24) rfl rfl (by omega) (by decide) dX5_weightOf_64 ?_
            refine lv_ladd hx hb dX5_weightOf_65 ?_
            refine lv_lstore_n (lv' := [(2, .long (y + (τ.2 0 (6 * t + i)))), (5, .int (nI i)), (4, .int (nI t)), (0, .ref (ad 20)), (1, .int (nI k0))]) hx hb dX5_weightOf_66 rfl hl (by decide) rfl (fun ls hl => ?_)
            refine lv_iinc (v := nI (i + 1)) (lv' := [(5, .int (nI (i + 1))), (2, .long (y + (τ.2 0 (6 * t + i)))), (4, .int (nI t)), (0, .ref (ad 20)), (1, .int (nI k0))]) hx hb dX5_weightOf_67 hl (k := 1) rfl (nI_1 _) (by decide) rfl (fun ls hl => ?_)
            refine lv_goto (tgt := 39) hx hb dX5_weightOf_70 (by decide) ?_
            exact ihf (i + 1) (y + (τ.2 0 (6 * t + i))) ls (by omega) (cy_accN hy) (lv_sub hl [0, 1, 2, 3, 4] rfl)
        exact inner p0 0 _ ls (by omega) (by unfold cy_bs; rw [ep0, nI_clamp (by omega), Int64.add_assoc]) (lv_sub hl [0, 1, 2, 3, 4] rfl)
  exact loop (cy_ms τ k0 + 1) [k0] _ 0 _ _ ls (by simp [cy_smN]) (by have := cy_ms_le hok hk0; simp [cy_smN]; omega) (fun t ht => by rw [List.mem_singleton.mp ht]; exact hk0) (cy_sk_push (ps := []) (fun j hj => absurd hj (Nat.not_lt_zero _)) k0) (by simp [cy_smL]) hI hS hl
end
section
theorem hin5_X5_weight : ∀ w ∈ u_ws RX5 TX5 19, w ∈ wsX5_weight := by decide +kernel
theorem hin5_X5_pass : ∀ w ∈ u_ws RX5 TX5 19, w ∈ wsX5_pass := by decide +kernel
theorem hin5_X5_inside : ∀ w ∈ u_ws RX5 TX5 19, w ∈ wsX5_inside := by decide +kernel
set_option maxHeartbeats 4000000 in
set_option maxRecDepth 100000 in
theorem c_X5_weight (l : Launch) (D : va_G) (cI cJ cO : ClassId) (z n na : Nat) (σ τ : cy_S) (pl : Nat → Int32) (hi : Int32) (ad : Nat → Nat) (nt : Nat) (hok : cy_ok nt τ) (x : Int32)  : Met l yX5_weight wsX5_weight { frames := 4, cells := 0, slots := 0, locals := 89 } (cy_P D cI cJ cO (fun H => cy_W D z (cy_CT cI cJ cO n na σ τ pl hi ad) ad H) [.ref (ad 20), .int x]) (cy_M (S := (Nat → Int32) × Int32) z (fun _ => some (.long (cy_oWeight nt τ x).1)) (fun u H => cy_W D z (cy_CT cI cJ cO n na σ (cy_oWeight nt τ x).2 u.1 u.2 ad) ad H)) 0 0 (fun q => z ≤ q) := by
  refine Met.ofW (cc := cX5_weight) (maxL := 2) (ret := (some .long)) (by decide) rfl ?_
  intro p e s m args below meth c s₁ B hml hv
  obtain ⟨rfl, hK, hI⟩ := hv
  have hx := B.exec
  have hb := B.bytes
  have hr := B.returns
  have hts := atoms_spec (ws := wsX5_weight) B.pre
  have hown : s.vm.findClass RX5 = some m.cls := findClass_of_methodNamed B.named
  have hlocks := B.notSynchronized
  have hS : va_S (fun q => z ≤ q) s.heap s.heap [] := va_S.rf
  have hl := lv_entry ([.ref (ad 20), .int x]) (n := 2) (Nat.le_of_ble_eq_true rfl)
  rw [lg_entry_eq]
  generalize (lg_sl ([.ref (ad 20), .int x]) ++ List.replicate (2 - (lg_sl ([.ref (ad 20), .int x])).length) Slot.unset).toArray = ls at hl ⊢
  have hl : lv_has ls 2 [(0, .ref (ad 20)), (1, .int x)] := hl
  have hin5 := hin5_X5_weight
  have h0 := hok.2.1
  have hn := hok.1
  refine lv_aload_n hx hb dX5_weight_0 rfl (lv_at hl 0 rfl) ?_
  refine lv_iconst (v := 0) hx hb dX5_weight_1 (by decide) ?_
  refine cy_putT (v := 0) hx hb hts hin5 hown hK hI hS 12 2 (by decide) (hts (.fieldLink RX5 52 "CustomsYardModel" "refused" "I") (by decide +kernel)) rfl (by decide +kernel) rfl dX5_weight_2 (fun H locs hI hS => ?_)
  refine lv_aload_n hx hb dX5_weight_5 rfl (lv_at hl 0 rfl) ?_
  refine lv_iload_n hx hb dX5_weight_6 rfl (lv_at hl 1 rfl) ?_
  refine cy_callp (v := .int (cy_b (cy_ld nt x))) (va_runV (As := [.int x]) (rest := []) ⟨hx, hb, hml, hown, hts⟩ (c_X5_isLoad l D cI cJ cO z n na σ (cy_i τ 0 2 0) pl hi ad nt h0 x) (cwV 1 hts gX5_weight_X5_isLoad rfl rfl rfl (by decide +kernel) ⟨Nat.le_of_ble_eq_true rfl, Nat.le_of_ble_eq_true rfl⟩) (cy_preV hK hI (cy_recv hK (hI.1 20 _ cy_CR).1 rfl)) rfl rfl hl.1 rfl (lv_room (Nat.le_of_ble_eq_true rfl)) dX5_weight_7 ⟨Nat.le_of_ble_eq_true rfl, Nat.le_of_ble_eq_true rfl⟩) ?_
  cases b1 : (cy_ld nt x)
  · refine lv_if_ne (tgt := 21) hx hb dX5_weight_10 (by decide) (fun h2 => absurd (by decide) h2) (fun h2 => ?_)
    refine lv_aload_n hx hb dX5_weight_13 rfl (lv_at hl 0 rfl) ?_
    refine lv_bipush (v := -2) hx hb dX5_weight_14 (by decide) ?_
    refine cy_putT (v := (-2)) hx hb hts hin5 hown hK hI hS 12 2 (by decide) (hts (.fieldLink RX5 52 "CustomsYardModel" "refused" "I") (by decide +kernel)) rfl (by decide +kernel) rfl dX5_weight_16 (fun H locs hI hS => ?_)
    refine lv_lconst (v := 0) hx hb dX5_weight_19 (by decide) ?_
    have E : cy_oWeight nt τ x = (0, cy_i (cy_i τ 0 2 0) 0 2 (-2)) := by simp [cy_oWeight, cy_z, cy_i_twice, cy_nb2, cy_wt_z, b1]
    rw [E]
    exact W.lret (v := 0) hx hb hr (fun t ht hW => ⟨(pl, hi), rfl, by rw [ht]; exact hI, hS.F ht⟩) hS.2.2 dX5_weight_20
  · obtain ⟨kx, hkx, rfl⟩ := (cy_ld_iff hn _).mp b1
    refine lv_if_ne (tgt := 21) hx hb dX5_weight_10 (by decide) (fun h3 => ?_) (fun h3 => absurd h3 (by decide))
    refine lv_aload_n hx hb dX5_weight_21 rfl (lv_at hl 0 rfl) ?_
    refine lv_iload_n hx hb dX5_weight_22 rfl (lv_at hl 1 rfl) ?_
    refine cy_callm (va_runV (As := [.int (nI kx)]) (rest := []) ⟨hx, hb, hml, hown, hts⟩ (c_X5_weightOf l D cI cJ cO z n na σ (cy_i τ 0 2 0) pl hi ad nt hok kx hkx) (cwV 1 hts gX5_weight_X5_weightOf rfl rfl rfl (by decide +kernel) ⟨Nat.le_of_ble_eq_true rfl, Nat.le_of_ble_eq_true rfl⟩) (cy_preV hK hI (cy_recv hK (hI.1 20 _ cy_CR).1 rfl)) rfl rfl hl.1 rfl (lv_room (Nat.le_of_ble_eq_true rfl)) dX5_weight_23 ⟨Nat.le_of_ble_eq_true rfl, Nat.le_of_ble_eq_true rfl⟩) hS (fun u H locs hI hz hS => ?_)
    have hI : cy_W D z (cy_CT cI cJ cO n na σ (cy_i τ 0 2 0) u.1 u.2 ad) ad H := hI
    refine W.eq (g2 := F0 m 26 ls [.long (cy_wt (cy_i τ 0 2 0) 3 kx)]) rfl ?_
    have E : cy_oWeight nt τ (nI kx) = (cy_wt (cy_i τ 0 2 0) 3 kx, cy_i τ 0 2 0) := by simp [cy_oWeight, cy_z, cy_i_twice, cy_nb2, cy_wt_z, nI_clamp (show kx < 2 ^ 31 by omega), b1]
    rw [E]
    exact W.lret (v := cy_wt (cy_i τ 0 2 0) 3 kx) hx hb hr (fun t ht hW => ⟨(u.1, u.2), rfl, by rw [ht]; exact hI, hS.F ht⟩) hS.2.2 dX5_weight_26

set_option maxHeartbeats 4000000 in
set_option maxRecDepth 100000 in
theorem c_X5_pass (l : Launch) (D : va_G) (cI cJ cO : ClassId) (z n na : Nat) (σ τ : cy_S) (pl : Nat → Int32) (hi : Int32) (ad : Nat → Nat) (nt : Nat) (hok : cy_ok nt τ) (x g : Int32)  : Met l yX5_pass wsX5_pass { frames := 4, cells := 0, slots := 0, locals := 89 } (cy_P D cI cJ cO (fun H => cy_W D z (cy_CT cI cJ cO n na σ τ pl hi ad) ad H) [.ref (ad 20), .int x, .int g]) (cy_M (S := (Nat → Int32) × Int32) z (fun _ => some (.int (cy_oPass nt τ x g).1)) (fun u H => cy_W D z (cy_CT cI cJ cO n na σ (cy_oPass nt τ x g).2 u.1 u.2 ad) ad H)) 0 0 (fun q => z ≤ q) := by
  refine Met.ofW (cc := cX5_pass) (maxL := 3) (ret := (some .int)) (by decide) rfl ?_
  intro p e s m args below meth c s₁ B hml hv
  obtain ⟨rfl, hK, hI⟩ := hv
  have hx := B.exec
  have hb := B.bytes
  have hr := B.returns
  have hts := atoms_spec (ws := wsX5_pass) B.pre
  have hown : s.vm.findClass RX5 = some m.cls := findClass_of_methodNamed B.named
  have hlocks := B.notSynchronized
  have hS : va_S (fun q => z ≤ q) s.heap s.heap [] := va_S.rf
  have hl := lv_entry ([.ref (ad 20), .int x, .int g]) (n := 3) (Nat.le_of_ble_eq_true rfl)
  rw [lg_entry_eq]
  generalize (lg_sl ([.ref (ad 20), .int x, .int g]) ++ List.replicate (3 - (lg_sl ([.ref (ad 20), .int x, .int g])).length) Slot.unset).toArray = ls at hl ⊢
  have hl : lv_has ls 3 [(0, .ref (ad 20)), (1, .int x), (2, .int g)] := hl
  have hin5 := hin5_X5_pass
  have h0 := hok.2.1
  have hn := hok.1
  refine lv_aload_n hx hb dX5_pass_0 rfl (lv_at hl 0 rfl) ?_
  refine lv_iconst (v := 0) hx hb dX5_pass_1 (by decide) ?_
  refine cy_putT (v := 0) hx hb hts hin5 hown hK hI hS 12 2 (by decide) (hts (.fieldLink RX5 52 "CustomsYardModel" "refused" "I") (by decide +kernel)) rfl (by decide +kernel) rfl dX5_pass_2 (fun H locs hI hS => ?_)
  refine lv_aload_n hx hb dX5_pass_5 rfl (lv_at hl 0 rfl) ?_
  refine lv_iload_n hx hb dX5_pass_6 rfl (lv_at hl 1 rfl) ?_
  refine cy_callp (v := .int (cy_b (cy_ld nt x))) (va_runV (As := [.int x]) (rest := []) ⟨hx, hb, hml, hown, hts⟩ (c_X5_isLoad l D cI cJ cO z n na σ (cy_i τ 0 2 0) pl hi ad nt h0 x) (cwV 1 hts gX5_pass_X5_isLoad rfl rfl rfl (by decide +kernel) ⟨Nat.le_of_ble_eq_true rfl, Nat.le_of_ble_eq_true rfl⟩) (cy_preV hK hI (cy_recv hK (hI.1 20 _ cy_CR).1 rfl)) rfl rfl hl.1 rfl (lv_room (Nat.le_of_ble_eq_true rfl)) dX5_pass_7 ⟨Nat.le_of_ble_eq_true rfl, Nat.le_of_ble_eq_true rfl⟩) ?_
  cases b1 : (cy_ld nt x)
  · refine lv_if_eq (tgt := 30) hx hb dX5_pass_10 (by decide) (fun h2 => ?_) (fun h2 => absurd (by decide) h2)
    refine lv_aload_n hx hb dX5_pass_30 rfl (lv_at hl 0 rfl) ?_
    refine lv_bipush (v := -2) hx hb dX5_pass_31 (by decide) ?_
    refine cy_callm (va_runV (As := [.int (-2)]) (rest := []) ⟨hx, hb, hml, hown, hts⟩ (c_X5_no l D cI cJ cO z n na σ (cy_i τ 0 2 0) pl hi ad (-2)) (cwV 1 hts gX5_pass_X5_no rfl rfl rfl (by decide +kernel) ⟨Nat.le_of_ble_eq_true rfl, Nat.le_of_ble_eq_true rfl⟩) (cy_preV hK hI (cy_recv hK (hI.1 20 _ cy_CR).1 rfl)) rfl rfl hl.1 rfl (lv_room (Nat.le_of_ble_eq_true rfl)) dX5_pass_33 ⟨Nat.le_of_ble_eq_true rfl, Nat.le_of_ble_eq_true rfl⟩) hS (fun u H locs hI hz hS => ?_)
    have hI : cy_W D z (cy_CT cI cJ cO n na σ (cy_no (cy_i τ 0 2 0) (-2)) pl hi ad) ad H := hI
    refine W.eq (g2 := F0 m 36 ls [.int (-2)]) rfl ?_
    have E : cy_oPass nt τ x g = ((-2), cy_no (cy_i τ 0 2 0) (-2)) := by simp [cy_oPass, cy_z, cy_wt_z, b1]
    rw [E]
    exact W.iret (v := (-2)) hx hb hr (fun t ht hW => ⟨(pl, hi), rfl, by rw [ht]; exact hI, hS.F ht⟩) hS.2.2 dX5_pass_36
  · obtain ⟨kx, hkx, rfl⟩ := (cy_ld_iff hn _).mp b1
    refine lv_if_eq (tgt := 30) hx hb dX5_pass_10 (by decide) (fun h3 => absurd h3 (by decide)) (fun h3 => ?_)
    refine lv_iload_n hx hb dX5_pass_13 rfl (lv_at hl 2 rfl) ?_
    refine cy_callp (v := .int (cy_b (cy_gt g))) (va_runS (As := [.int g]) (rest := []) ⟨hx, hb, hml, hown, hts⟩ (c_X5_isGate l g) (va_cwS 1 hts gX5_pass_X5_isGate rfl rfl rfl (by decide +kernel) ⟨Nat.le_of_ble_eq_true rfl, Nat.le_of_ble_eq_true rfl⟩) preEq rfl rfl hl.1 rfl (lv_room (Nat.le_of_ble_eq_true rfl)) dX5_pass_14 ⟨Nat.le_of_ble_eq_true rfl, Nat.le_of_ble_eq_true rfl⟩) ?_
    cases b4 : (cy_gt g)
    · refine lv_if_eq (tgt := 30) hx hb dX5_pass_17 (by decide) (fun h5 => ?_) (fun h5 => absurd (by decide) h5)
      refine lv_aload_n hx hb dX5_pass_30 rfl (lv_at hl 0 rfl) ?_
      refine lv_bipush (v := -2) hx hb dX5_pass_31 (by decide) ?_
      refine cy_callm (va_runV (As := [.int (-2)]) (rest := []) ⟨hx, hb, hml, hown, hts⟩ (c_X5_no l D cI cJ cO z n na σ (cy_i τ 0 2 0) pl hi ad (-2)) (cwV 1 hts gX5_pass_X5_no rfl rfl rfl (by decide +kernel) ⟨Nat.le_of_ble_eq_true rfl, Nat.le_of_ble_eq_true rfl⟩) (cy_preV hK hI (cy_recv hK (hI.1 20 _ cy_CR).1 rfl)) rfl rfl hl.1 rfl (lv_room (Nat.le_of_ble_eq_true rfl)) dX5_pass_33 ⟨Nat.le_of_ble_eq_true rfl, Nat.le_of_ble_eq_true rfl⟩) hS (fun u H locs hI hz hS => ?_)
      have hI : cy_W D z (cy_CT cI cJ cO n na σ (cy_no (cy_i τ 0 2 0) (-2)) pl hi ad) ad H := hI
      refine W.eq (g2 := F0 m 36 ls [.int (-2)]) rfl ?_
      have E : cy_oPass nt τ (nI kx) g = ((-2), cy_no (cy_i τ 0 2 0) (-2)) := by simp [cy_oPass, cy_z, cy_wt_z, nI_clamp (show kx < 2 ^ 31 by omega), b1, b4]
      rw [E]
      exact W.iret (v := (-2)) hx hb hr (fun t ht hW => ⟨(pl, hi), rfl, by rw [ht]; exact hI, hS.F ht⟩) hS.2.2 dX5_pass_36
    · obtain ⟨j, hj, rfl⟩ := (cy_in6 _).mp b4
      refine lv_if_eq (tgt := 30) hx hb dX5_pass_17 (by decide) (fun h6 => absurd h6 (by decide)) (fun h6 => ?_)
      refine lv_aload_n hx hb dX5_pass_20 rfl (lv_at hl 0 rfl) ?_
      refine cy_getT (v := .ref (ad 27)) hx hb hts hin5 hown hK hI 7 (by decide) (hts (.fieldLink RX5 29 "CustomsYardModel" "gates" "[I") (by decide +kernel)) rfl dX5_pass_21 ?_
      refine lv_iload_n hx hb dX5_pass_24 rfl (lv_at hl 2 rfl) ?_
      refine cy_iald (f := τ.1 6) (k := j) hx hb hK.1 hI 0 (x := 27) rfl rfl (by omega) (by decide) dX5_pass_25 ?_
      refine lv_iconst (v := -1) hx hb dX5_pass_26 (by decide) ?_
      refine lv_icmp_ne (tgt := 37) hx hb dX5_pass_27 (by decide) (fun h7 => ?_) (fun h7 => ?_)
      · refine lv_aload_n hx hb dX5_pass_37 rfl (lv_at hl 0 rfl) ?_
        refine cy_getT (v := .ref (ad 21)) hx hb hts hin5 hown hK hI 1 (by decide) (hts (.fieldLink RX5 7 "CustomsYardModel" "sorts" "[I") (by decide +kernel)) rfl dX5_pass_38 ?_
        refine lv_iload_n hx hb dX5_pass_41 rfl (lv_at hl 1 rfl) ?_
        refine cy_iald (f := τ.1 1) (k := kx) hx hb hK.1 hI 0 (x := 21) rfl rfl (by omega) (by decide) dX5_pass_42 ?_
        refine lv_aload_n hx hb dX5_pass_43 rfl (lv_at hl 0 rfl) ?_
        refine cy_getT (v := .ref (ad 27)) hx hb hts hin5 hown hK hI 7 (by decide) (hts (.fieldLink RX5 29 "CustomsYardModel" "gates" "[I") (by decide +kernel)) rfl dX5_pass_44 ?_
        refine lv_iload_n hx hb dX5_pass_47 rfl (lv_at hl 2 rfl) ?_
        refine cy_iald (f := τ.1 6) (k := j) hx hb hK.1 hI 0 (x := 27) rfl rfl (by omega) (by decide) dX5_pass_48 ?_
        refine cy_callp (v := .int (cy_b (cy_go (τ.1 1 kx) (τ.1 6 j)))) (va_runS (As := [.int (τ.1 1 kx), .int (τ.1 6 j)]) (rest := []) ⟨hx, hb, hml, hown, hts⟩ (c_X5_goes l (τ.1 1 kx) (τ.1 6 j)) (va_cwS 2 hts gX5_pass_X5_goes rfl rfl rfl (by decide +kernel) ⟨Nat.le_of_ble_eq_true rfl, Nat.le_of_ble_eq_true rfl⟩) preEq rfl rfl hl.1 rfl (lv_room (Nat.le_of_ble_eq_true rfl)) dX5_pass_49 ⟨Nat.le_of_ble_eq_true rfl, Nat.le_of_ble_eq_true rfl⟩) ?_
        cases b8 : (cy_go (τ.1 1 kx) (τ.1 6 j))
        · refine lv_if_ne (tgt := 67) hx hb dX5_pass_52 (by decide) (fun h9 => absurd (by decide) h9) (fun h9 => ?_)
          refine lv_aload_n hx hb dX5_pass_55 rfl (lv_at hl 0 rfl) ?_
          refine lv_dup hx hb dX5_pass_56 rfl ?_
          refine cy_getT (v := .int (τ.1 0 6)) hx hb hts hin5 hown hK hI 16 (by decide) (hts (.fieldLink RX5 119 "CustomsYardModel" "away" "I") (by decide +kernel)) rfl dX5_pass_57 ?_
          refine lv_iconst (v := 1) hx hb dX5_pass_60 (by decide) ?_
          refine lv_iadd hx hb dX5_pass_61 ?_
          refine cy_putT (v := ((τ.1 0 6) + 1)) hx hb hts hin5 hown hK hI hS 16 6 (by decide) (hts (.fieldLink RX5 119 "CustomsYardModel" "away" "I") (by decide +kernel)) rfl (by decide +kernel) rfl dX5_pass_62 (fun H locs hI hS => ?_)
          refine lv_iconst (v := 0) hx hb dX5_pass_65 (by decide) ?_
          have E : cy_oPass nt τ (nI kx) (nI j) = (0, cy_i (cy_i τ 0 2 0) 0 6 ((τ.1 0 6) + 1)) := by first | (simp [cy_oPass, cy_z, cy_wt_z, nI_clamp (show kx < 2 ^ 31 by omega), nI_clamp (show j < 2 ^ 31 by omega), b1, b4, b8]; done) | (simp [cy_oPass, cy_z, cy_wt_z, nI_clamp (show kx < 2 ^ 31 by omega), nI_clamp (show j < 2 ^ 31 by omega), b1, b4, b8]; simp [h7]; done) | (simp [cy_oPass, cy_z, cy_wt_z, nI_clamp (show kx < 2 ^ 31 by omega), nI_clamp (show j < 2 ^ 31 by omega), b1, b4, b8, h7]; done)
          rw [E]
          exact W.iret (v := 0) hx hb hr (fun t ht hW => ⟨(pl, hi), rfl, by rw [ht]; exact hI, hS.F ht⟩) hS.2.2 dX5_pass_66
        · refine lv_if_ne (tgt := 67) hx hb dX5_pass_52 (by decide) (fun h10 => ?_) (fun h10 => absurd h10 (by decide))
          refine lv_aload_n hx hb dX5_pass_67 rfl (lv_at hl 0 rfl) ?_
          refine cy_getT (v := .ref (ad 28)) hx hb hts hin5 hown hK hI 8 (by decide) (hts (.fieldLink RX5 32 "CustomsYardModel" "sums" "[J") (by decide +kernel)) rfl dX5_pass_68 ?_
          refine lv_iload_n hx hb dX5_pass_71 rfl (lv_at hl 2 rfl) ?_
          refine lv_dup2_11 hx hb dX5_pass_72 rfl rfl ?_
          refine cy_lald (f := τ.2 1) (k := j) hx hb hK.1 hI 1 (x := 28) rfl rfl (by omega) (by decide) dX5_pass_73 ?_
          refine lv_aload_n hx hb dX5_pass_74 rfl (lv_at hl 0 rfl) ?_
          refine lv_iload_n hx hb dX5_pass_75 rfl (lv_at hl 1 rfl) ?_
          refine cy_callm (va_runV (As := [.int (nI kx)]) (rest := [.long (τ.2 1 j), .int (nI j), .ref (ad 28)]) ⟨hx, hb, hml, hown, hts⟩ (c_X5_weightOf l D cI cJ cO z n na σ (cy_i τ 0 2 0) pl hi ad nt hok kx hkx) (cwV 1 hts gX5_pass_X5_weightOf rfl rfl rfl (by decide +kernel) ⟨Nat.le_of_ble_eq_true rfl, Nat.le_of_ble_eq_true rfl⟩) (cy_preV hK hI (cy_recv hK (hI.1 20 _ cy_CR).1 rfl)) rfl rfl hl.1 rfl (lv_room (Nat.le_of_ble_eq_true rfl)) dX5_pass_76 ⟨Nat.le_of_ble_eq_true rfl, Nat.le_of_ble_eq_true rfl⟩) hS (fun u H locs hI hz hS => ?_)
          have hI : cy_W D z (cy_CT cI cJ cO n na σ (cy_i τ 0 2 0) u.1 u.2 ad) ad H := hI
          refine W.eq (g2 := F0 m 79 ls [.long (cy_wt (cy_i τ 0 2 0) 3 kx), .long (τ.2 1 j), .int (nI j), .ref (ad 28)]) rfl ?_
          refine lv_ladd hx hb dX5_pass_79 ?_
          refine cy_stT8 (k := j) (v := ((τ.2 1 j) + (cy_wt (cy_i τ 0 2 0) 3 kx))) hx hb hK hI hS (by omega) dX5_pass_80 (fun H locs hI hS => ?_)
          refine lv_iconst (v := 1) hx hb dX5_pass_81 (by decide) ?_
          have E : cy_oPass nt τ (nI kx) (nI j) = (1, cy_l (cy_i τ 0 2 0) 1 j ((τ.2 1 j) + (cy_wt (cy_i τ 0 2 0) 3 kx))) := by first | (simp [cy_oPass, cy_z, cy_wt_z, nI_clamp (show kx < 2 ^ 31 by omega), nI_clamp (show j < 2 ^ 31 by omega), b1, b4, b8]; done) | (simp [cy_oPass, cy_z, cy_wt_z, nI_clamp (show kx < 2 ^ 31 by omega), nI_clamp (show j < 2 ^ 31 by omega), b1, b4, b8]; simp [h7]; done) | (simp [cy_oPass, cy_z, cy_wt_z, nI_clamp (show kx < 2 ^ 31 by omega), nI_clamp (show j < 2 ^ 31 by omega), b1, b4, b8, h7]; done)
          rw [E]
          exact W.iret (v := 1) hx hb hr (fun t ht hW => ⟨(u.1, u.2), rfl, by rw [ht]; exact hI, hS.F ht⟩) hS.2.2 dX5_pass_82
      · refine lv_aload_n hx hb dX5_pass_30 rfl (lv_at hl 0 rfl) ?_
        refine lv_bipush (v := -2) hx hb dX5_pass_31 (by decide) ?_
        refine cy_callm (va_runV (As := [.int (-2)]) (rest := []) ⟨hx, hb, hml, hown, hts⟩ (c_X5_no l D cI cJ cO z n na σ (cy_i τ 0 2 0) pl hi ad (-2)) (cwV 1 hts gX5_pass_X5_no rfl rfl rfl (by decide +kernel) ⟨Nat.le_of_ble_eq_true rfl, Nat.le_of_ble_eq_true rfl⟩) (cy_preV hK hI (cy_recv hK (hI.1 20 _ cy_CR).1 rfl)) rfl rfl hl.1 rfl (lv_room (Nat.le_of_ble_eq_true rfl)) dX5_pass_33 ⟨Nat.le_of_ble_eq_true rfl, Nat.le_of_ble_eq_true rfl⟩) hS (fun u H locs hI hz hS => ?_)
        have hI : cy_W D z (cy_CT cI cJ cO n na σ (cy_no (cy_i τ 0 2 0) (-2)) pl hi ad) ad H := hI
        refine W.eq (g2 := F0 m 36 ls [.int (-2)]) rfl ?_
        have E : cy_oPass nt τ (nI kx) (nI j) = ((-2), cy_no (cy_i τ 0 2 0) (-2)) := by first | (simp [cy_oPass, cy_z, cy_wt_z, nI_clamp (show kx < 2 ^ 31 by omega), nI_clamp (show j < 2 ^ 31 by omega), b1, b4]; done) | (simp [cy_oPass, cy_z, cy_wt_z, nI_clamp (show kx < 2 ^ 31 by omega), nI_clamp (show j < 2 ^ 31 by omega), b1, b4]; simp [h7]; done) | (simp [cy_oPass, cy_z, cy_wt_z, nI_clamp (show kx < 2 ^ 31 by omega), nI_clamp (show j < 2 ^ 31 by omega), b1, b4, h7]; done)
        rw [E]
        exact W.iret (v := (-2)) hx hb hr (fun t ht hW => ⟨(pl, hi), rfl, by rw [ht]; exact hI, hS.F ht⟩) hS.2.2 dX5_pass_36

set_option maxHeartbeats 4000000 in
set_option maxRecDepth 100000 in
theorem c_X5_inside (l : Launch) (D : va_G) (cI cJ cO : ClassId) (z n na : Nat) (σ τ : cy_S) (pl : Nat → Int32) (hi : Int32) (ad : Nat → Nat) (nt : Nat) (hok : cy_ok nt τ) (x v : Int32)  : Met l yX5_inside wsX5_inside { frames := 3, cells := 0, slots := 0, locals := 64 } (cy_P D cI cJ cO (fun H => cy_W D z (cy_CT cI cJ cO n na σ τ pl hi ad) ad H) [.ref (ad 20), .int x, .int v]) (cy_M (S := (Nat → Int32) × Int32) z (fun _ => some (.int (cy_oInside nt τ x v).1)) (fun u H => cy_W D z (cy_CT cI cJ cO n na σ (cy_oInside nt τ x v).2 u.1 u.2 ad) ad H)) 0 0 (fun q => z ≤ q) := by
  refine Met.ofW (cc := cX5_inside) (maxL := 5) (ret := (some .int)) (by decide) rfl ?_
  intro p e s m args below meth c s₁ B hml hv
  obtain ⟨rfl, hK, hI⟩ := hv
  have hx := B.exec
  have hb := B.bytes
  have hr := B.returns
  have hts := atoms_spec (ws := wsX5_inside) B.pre
  have hown : s.vm.findClass RX5 = some m.cls := findClass_of_methodNamed B.named
  have hlocks := B.notSynchronized
  have hS : va_S (fun q => z ≤ q) s.heap s.heap [] := va_S.rf
  have hl := lv_entry ([.ref (ad 20), .int x, .int v]) (n := 5) (Nat.le_of_ble_eq_true rfl)
  rw [lg_entry_eq]
  generalize (lg_sl ([.ref (ad 20), .int x, .int v]) ++ List.replicate (5 - (lg_sl ([.ref (ad 20), .int x, .int v])).length) Slot.unset).toArray = ls at hl ⊢
  have hl : lv_has ls 5 [(0, .ref (ad 20)), (1, .int x), (2, .int v)] := hl
  have hin5 := hin5_X5_inside
  have h0 := hok.2.1
  have hn := hok.1
  refine lv_aload_n hx hb dX5_inside_0 rfl (lv_at hl 0 rfl) ?_
  refine lv_iconst (v := 0) hx hb dX5_inside_1 (by decide) ?_
  refine cy_putT (v := 0) hx hb hts hin5 hown hK hI hS 12 2 (by decide) (hts (.fieldLink RX5 52 "CustomsYardModel" "refused" "I") (by decide +kernel)) rfl (by decide +kernel) rfl dX5_inside_2 (fun H locs hI hS => ?_)
  refine lv_aload_n hx hb dX5_inside_5 rfl (lv_at hl 0 rfl) ?_
  refine lv_iload_n hx hb dX5_inside_6 rfl (lv_at hl 1 rfl) ?_
  refine cy_callp (v := .int (cy_b (cy_ld nt x))) (va_runV (As := [.int x]) (rest := []) ⟨hx, hb, hml, hown, hts⟩ (c_X5_isLoad l D cI cJ cO z n na σ (cy_i τ 0 2 0) pl hi ad nt h0 x) (cwV 1 hts gX5_inside_X5_isLoad rfl rfl rfl (by decide +kernel) ⟨Nat.le_of_ble_eq_true rfl, Nat.le_of_ble_eq_true rfl⟩) (cy_preV hK hI (cy_recv hK (hI.1 20 _ cy_CR).1 rfl)) rfl rfl hl.1 rfl (lv_room (Nat.le_of_ble_eq_true rfl)) dX5_inside_7 ⟨Nat.le_of_ble_eq_true rfl, Nat.le_of_ble_eq_true rfl⟩) ?_
  cases b1 : (cy_ld nt x)
  · refine lv_if_eq (tgt := 20) hx hb dX5_inside_10 (by decide) (fun h2 => ?_) (fun h2 => absurd (by decide) h2)
    refine lv_aload_n hx hb dX5_inside_20 rfl (lv_at hl 0 rfl) ?_
    refine lv_bipush (v := -2) hx hb dX5_inside_21 (by decide) ?_
    refine cy_callm (va_runV (As := [.int (-2)]) (rest := []) ⟨hx, hb, hml, hown, hts⟩ (c_X5_no l D cI cJ cO z n na σ (cy_i τ 0 2 0) pl hi ad (-2)) (cwV 1 hts gX5_inside_X5_no rfl rfl rfl (by decide +kernel) ⟨Nat.le_of_ble_eq_true rfl, Nat.le_of_ble_eq_true rfl⟩) (cy_preV hK hI (cy_recv hK (hI.1 20 _ cy_CR).1 rfl)) rfl rfl hl.1 rfl (lv_room (Nat.le_of_ble_eq_true rfl)) dX5_inside_23 ⟨Nat.le_of_ble_eq_true rfl, Nat.le_of_ble_eq_true rfl⟩) hS (fun u H locs hI hz hS => ?_)
    have hI : cy_W D z (cy_CT cI cJ cO n na σ (cy_no (cy_i τ 0 2 0) (-2)) pl hi ad) ad H := hI
    refine W.eq (g2 := F0 m 26 ls [.int (-2)]) rfl ?_
    have E : cy_oInside nt τ x v = ((-2), cy_no (cy_i τ 0 2 0) (-2)) := by simp [cy_oInside, cy_z, b1]
    rw [E]
    exact W.iret (v := (-2)) hx hb hr (fun t ht hW => ⟨(pl, hi), rfl, by rw [ht]; exact hI, hS.F ht⟩) hS.2.2 dX5_inside_26
  · obtain ⟨kx, hkx, rfl⟩ := (cy_ld_iff hn _).mp b1
    refine lv_if_eq (tgt := 20) hx hb dX5_inside_10 (by decide) (fun h3 => absurd h3 (by decide)) (fun h3 => ?_)
    refine lv_iload_n hx hb dX5_inside_13 rfl (lv_at hl 2 rfl) ?_
    refine cy_callp (v := .int (cy_b (cy_vw v))) (va_runS (As := [.int v]) (rest := []) ⟨hx, hb, hml, hown, hts⟩ (c_X5_isView l v) (va_cwS 1 hts gX5_inside_X5_isView rfl rfl rfl (by decide +kernel) ⟨Nat.le_of_ble_eq_true rfl, Nat.le_of_ble_eq_true rfl⟩) preEq rfl rfl hl.1 rfl (lv_room (Nat.le_of_ble_eq_true rfl)) dX5_inside_14 ⟨Nat.le_of_ble_eq_true rfl, Nat.le_of_ble_eq_true rfl⟩) ?_
    cases b4 : (cy_vw v)
    · refine lv_if_ne (tgt := 27) hx hb dX5_inside_17 (by decide) (fun h5 => absurd (by decide) h5) (fun h5 => ?_)
      refine lv_aload_n hx hb dX5_inside_20 rfl (lv_at hl 0 rfl) ?_
      refine lv_bipush (v := -2) hx hb dX5_inside_21 (by decide) ?_
      refine cy_callm (va_runV (As := [.int (-2)]) (rest := []) ⟨hx, hb, hml, hown, hts⟩ (c_X5_no l D cI cJ cO z n na σ (cy_i τ 0 2 0) pl hi ad (-2)) (cwV 1 hts gX5_inside_X5_no rfl rfl rfl (by decide +kernel) ⟨Nat.le_of_ble_eq_true rfl, Nat.le_of_ble_eq_true rfl⟩) (cy_preV hK hI (cy_recv hK (hI.1 20 _ cy_CR).1 rfl)) rfl rfl hl.1 rfl (lv_room (Nat.le_of_ble_eq_true rfl)) dX5_inside_23 ⟨Nat.le_of_ble_eq_true rfl, Nat.le_of_ble_eq_true rfl⟩) hS (fun u H locs hI hz hS => ?_)
      have hI : cy_W D z (cy_CT cI cJ cO n na σ (cy_no (cy_i τ 0 2 0) (-2)) pl hi ad) ad H := hI
      refine W.eq (g2 := F0 m 26 ls [.int (-2)]) rfl ?_
      have E : cy_oInside nt τ (nI kx) v = ((-2), cy_no (cy_i τ 0 2 0) (-2)) := by simp [cy_oInside, cy_z, nI_clamp (show kx < 2 ^ 31 by omega), b1, b4]
      rw [E]
      exact W.iret (v := (-2)) hx hb hr (fun t ht hW => ⟨(pl, hi), rfl, by rw [ht]; exact hI, hS.F ht⟩) hS.2.2 dX5_inside_26
    · refine lv_if_ne (tgt := 27) hx hb dX5_inside_17 (by decide) (fun h6 => ?_) (fun h6 => absurd h6 (by decide))
      refine lv_iconst (v := 0) hx hb dX5_inside_27 (by decide) ?_
      refine lv_istore_n (lv' := [(3, .int 0), (0, .ref (ad 20)), (1, .int (nI kx)), (2, .int v)]) hx hb dX5_inside_28 rfl hl (by decide) rfl (fun ls hl => ?_)
      refine lv_aload_n hx hb dX5_inside_29 rfl (lv_at hl 1 rfl) ?_
      refine lv_iconst (v := 0) hx hb dX5_inside_30 (by decide) ?_
      refine cy_putH hx hb hts hin5 hown hK hI hS (hts (.fieldLink RX5 101 "CustomsYardModel" "high" "I") (by decide +kernel)) dX5_inside_31 (fun H locs hI hS => ?_)
      refine lv_aload_n hx hb dX5_inside_34 rfl (lv_at hl 1 rfl) ?_
      refine lv_iload_n hx hb dX5_inside_35 rfl (lv_at hl 2 rfl) ?_
      refine cy_callm (va_runV (As := [.int (nI kx)]) (rest := []) ⟨hx, hb, hml, hown, hts⟩ (c_X5_lay l D cI cJ cO z n na σ (cy_i τ 0 2 0) pl 0 ad 0 (by decide) rfl (nI kx)) (cwV 1 hts gX5_inside_X5_lay rfl rfl rfl (by decide +kernel) ⟨Nat.le_of_ble_eq_true rfl, Nat.le_of_ble_eq_true rfl⟩) (cy_preV hK hI (cy_recv hK (hI.1 20 _ cy_CR).1 rfl)) rfl rfl hl.1 rfl (lv_room (Nat.le_of_ble_eq_true rfl)) dX5_inside_36 ⟨Nat.le_of_ble_eq_true rfl, Nat.le_of_ble_eq_true rfl⟩) hS (fun u H locs hI hz hS => ?_)
      have hI : cy_W D z (cy_CT cI cJ cO n na σ (cy_i τ 0 2 0) (va_up pl 0 (nI kx)) (nI (0 + 1)) ad) ad H := hI
      refine W.eq (g2 := F0 m 39 ls []) rfl ?_
      have E : cy_oInside nt τ (nI kx) v = (cy_tl (cy_i τ 0 2 0) v 3 kx, cy_i τ 0 2 0) := by simp [cy_oInside, cy_z, cy_tl_z, nI_clamp (show kx < 2 ^ 31 by omega), b1, b4]
      rw [E]
      have hok1 : cy_ok nt (cy_i τ 0 2 0) := hok
      generalize cy_i τ 0 2 0 = τ1 at hok1 hI ⊢
      have loop : ∀ (M : Nat) (qs : List Nat) (pl' : Nat → Int32) (y : Int32) (H : Heap) (locs : List Loc) (ls : Array Slot), cy_smN (cy_ms τ1) qs < M → cy_smN (cy_ms τ1) qs ≤ 43 → (∀ t, t ∈ qs → t < nt) → cy_sk pl' qs → y + cy_smI (cy_tl τ1 v 3) qs = cy_tl τ1 v 3 kx → cy_W D z (cy_CT cI cJ cO n na σ τ1 pl' (nI qs.length) ad) ad H → va_S (fun q => z ≤ q) s.heap H locs → lv_has ls 5 [(3, .int y), (0, .ref (ad 20)), (1, .int (nI kx)), (2, .int v)] → W p l e (headSpec wsX5_inside { frames := 3, cells := 0, slots := 0, locals := 64 }).room s m #[Value.ref (ad 20), Value.int (nI kx), Value.int v] below meth c H locs 0 0 (MQ below (cy_M (S := (Nat → Int32) × Int32) z (fun _ => some (.int ((cy_tl τ1 v 3 kx, τ1) : Int32 × cy_S).1)) (fun u H => cy_W D z (cy_CT cI cJ cO n na σ ((cy_tl τ1 v 3 kx, τ1) : Int32 × cy_S).2 u.1 u.2 ad) ad H)) #[Value.ref (ad 20), Value.int (nI kx), Value.int v] s 0 0 (fun q => z ≤ q)) (F0 m 39 ls []) := by
        intro M
        induction M with
        | zero =>
          intro qs pl' y H locs ls hM
          exact absurd hM (Nat.not_lt_zero _)
        | succ M ih =>
          intro qs pl' y H locs ls hM h43 hall hq hE hI hS hl
          rcases Nat.eq_zero_or_pos qs.length with hz0 | hp
          · obtain rfl : qs = [] := List.length_eq_zero_iff.mp hz0
            refine lv_aload_n hx hb dX5_inside_39 rfl (lv_at hl 1 rfl) ?_
            refine cy_getT (v := .int (nI ([] : List Nat).length)) hx hb hts hin5 hown hK hI 18 (by decide) (hts (.fieldLink RX5 101 "CustomsYardModel" "high" "I") (by decide +kernel)) rfl dX5_inside_40 ?_
            refine lv_if_le (tgt := 77) hx hb dX5_inside_43 (by decide) (fun h11 => ?_) (fun h11 => absurd (by decide) h11)
            refine lv_iload_n hx hb dX5_inside_77 rfl (lv_at hl 0 rfl) ?_
            exact W.iret (v := y) hx hb hr (fun t ht hW => ⟨(pl', _), congrArg (fun q => Outcome.returned (some (Value.int q))) (by rw [← hE]; simp [cy_smI]), by rw [ht]; exact hI, hS.F ht⟩) hS.2.2 dX5_inside_78
          · obtain ⟨rs, t, rfl⟩ := cy_snoc qs hp
            have htn : t < nt := hall t (by simp)
            rw [cy_smN_app] at hM h43
            have hms := cy_ms_ch hok1 htn
            have e1 : cy_smN (cy_ms τ1) [t] = cy_ms τ1 t := by simp [cy_smN]
            rw [e1] at hM h43
            have hrl := cy_smN_len τ1 rs
            have hI : cy_W D z (cy_CT cI cJ cO n na σ τ1 pl' (nI (rs.length + 1)) ad) ad H := by rw [show rs.length + 1 = (rs ++ [t]).length by simp]; exact hI
            refine lv_aload_n hx hb dX5_inside_39 rfl (lv_at hl 1 rfl) ?_
            refine cy_getT (v := .int (nI (rs.length + 1))) hx hb hts hin5 hown hK hI 18 (by decide) (hts (.fieldLink RX5 101 "CustomsYardModel" "high" "I") (by decide +kernel)) rfl dX5_inside_40 ?_
            refine lv_if_le (tgt := 77) hx hb dX5_inside_43 (by decide) (fun h31 => absurd h31 (nI_nle (by omega) (by omega))) (fun h31 => ?_)
            refine lv_aload_n hx hb dX5_inside_46 rfl (lv_at hl 1 rfl) ?_
            refine cy_callm (va_runV (As := []) (rest := []) ⟨hx, hb, hml, hown, hts⟩ (c_X5_next l D cI cJ cO z n na σ τ1 (pl') (nI (rs.length + 1)) ad nt hok1 rs t htn hq rfl (by omega)) (cwV 0 hts gX5_inside_X5_next rfl rfl rfl (by decide +kernel) ⟨Nat.le_of_ble_eq_true rfl, Nat.le_of_ble_eq_true rfl⟩) (cy_preV hK hI (cy_recv hK (hI.1 20 _ cy_CR).1 rfl)) rfl rfl hl.1 rfl (lv_room (Nat.le_of_ble_eq_true rfl)) dX5_inside_47 ⟨Nat.le_of_ble_eq_true rfl, Nat.le_of_ble_eq_true rfl⟩) hS (fun u H locs hI hz hS => ?_)
            obtain ⟨hu, hI⟩ := hI
            have hI : cy_W D z (cy_CT cI cJ cO n na σ τ1 u (nI (rs ++ cy_ch τ1 t).length) ad) ad H := hI
            refine W.eq (g2 := F0 m 50 ls [.int (nI t)]) rfl ?_
            refine lv_istore (lv' := [(4, .int (nI t)), (3, .int y), (0, .ref (ad 20)), (1, .int (nI kx)), (2, .int v)]) hx hb dX5_inside_50 hl (by decide) rfl (fun ls hl => ?_)
            refine lv_iload_n hx hb dX5_inside_52 rfl (lv_at hl 1 rfl) ?_
            refine lv_aload_n hx hb dX5_inside_53 rfl (lv_at hl 2 rfl) ?_
            refine cy_getT (v := .ref (ad 21)) hx hb hts hin5 hown hK hI 1 (by decide) (hts (.fieldLink RX5 7 "CustomsYardModel" "sorts" "[I") (by decide +kernel)) rfl dX5_inside_54 ?_
            refine lv_iload hx hb dX5_inside_57 (lv_at hl 0 rfl) ?_
            refine cy_iald (f := τ1.1 1) (k := t) hx hb hK.1 hI 0 (x := 21) rfl rfl (by omega) (by decide) dX5_inside_59 ?_
            refine lv_iload_n hx hb dX5_inside_60 rfl (lv_at hl 4 rfl) ?_
            refine cy_callp (v := .int (cy_b (cy_go (τ1.1 1 t) v))) (va_runS (As := [.int (τ1.1 1 t), .int v]) (rest := [.int y]) ⟨hx, hb, hml, hown, hts⟩ (c_X5_goes l (τ1.1 1 t) v) (va_cwS 2 hts gX5_inside_X5_goes rfl rfl rfl (by decide +kernel) ⟨Nat.le_of_ble_eq_true rfl, Nat.le_of_ble_eq_true rfl⟩) preEq rfl rfl hl.1 rfl (lv_room (Nat.le_of_ble_eq_true rfl)) dX5_inside_61 ⟨Nat.le_of_ble_eq_true rfl, Nat.le_of_ble_eq_true rfl⟩) ?_
            cases b32 : (cy_go (τ1.1 1 t) v)
            · refine lv_if_eq (tgt := 71) hx hb dX5_inside_64 (by decide) (fun h33 => ?_) (fun h33 => absurd (by decide) h33)
              refine lv_iconst (v := 0) hx hb dX5_inside_71 (by decide) ?_
              refine lv_iadd hx hb dX5_inside_72 ?_
              refine lv_istore_n (lv' := [(3, .int (y + 0)), (4, .int (nI t)), (0, .ref (ad 20)), (1, .int (nI kx)), (2, .int v)]) hx hb dX5_inside_73 rfl hl (by decide) rfl (fun ls hl => ?_)
              refine lv_goto (tgt := 39) hx hb dX5_inside_74 (by decide) ?_
              have hE2 : (y + 0) + cy_smI (cy_tl τ1 v 3) (rs ++ cy_ch τ1 t) = cy_tl τ1 v 3 kx := by rw [cy_smI_app] at hE ⊢; exact cy_accI hE (by rw [cy_tl_eq v hok1 htn, b32]; rfl)
              exact ih (rs ++ cy_ch τ1 t) u (y + 0) H locs ls (by rw [cy_smN_app]; omega) (by rw [cy_smN_app]; omega) (fun a ha => (List.mem_append.mp ha).elim (fun h => hall a (by simp [h])) (fun h => (cy_ch_mem hok1 htn a h).1)) hu hE2 hI hS (lv_sub hl [0, 2, 3, 4] rfl)
            · refine lv_if_eq (tgt := 71) hx hb dX5_inside_64 (by decide) (fun h34 => absurd h34 (by decide)) (fun h34 => ?_)
              refine lv_iconst (v := 1) hx hb dX5_inside_67 (by decide) ?_
              refine lv_goto (tgt := 72) hx hb dX5_inside_68 (by decide) ?_
              refine lv_iadd hx hb dX5_inside_72 ?_
              refine lv_istore_n (lv' := [(3, .int (y + 1)), (4, .int (nI t)), (0, .ref (ad 20)), (1, .int (nI kx)), (2, .int v)]) hx hb dX5_inside_73 rfl hl (by decide) rfl (fun ls hl => ?_)
              refine lv_goto (tgt := 39) hx hb dX5_inside_74 (by decide) ?_
              have hE2 : (y + 1) + cy_smI (cy_tl τ1 v 3) (rs ++ cy_ch τ1 t) = cy_tl τ1 v 3 kx := by rw [cy_smI_app] at hE ⊢; exact cy_accI hE (by rw [cy_tl_eq v hok1 htn, b32]; rfl)
              exact ih (rs ++ cy_ch τ1 t) u (y + 1) H locs ls (by rw [cy_smN_app]; omega) (by rw [cy_smN_app]; omega) (fun a ha => (List.mem_append.mp ha).elim (fun h => hall a (by simp [h])) (fun h => (cy_ch_mem hok1 htn a h).1)) hu hE2 hI hS (lv_sub hl [0, 2, 3, 4] rfl)
      exact loop (cy_ms τ1 kx + 1) [kx] _ 0 _ _ ls (by simp [cy_smN]) (by have := cy_ms_le hok1 hkx; simp [cy_smN]; omega) (fun t ht => by rw [List.mem_singleton.mp ht]; exact hkx) (cy_sk_push (ps := []) (fun j hj => absurd hj (Nat.not_lt_zero _)) kx) (by simp [cy_smI]) hI hS hl
end
section
theorem cy_kd_dec : ∀ a : Fin 13, (cy_kd (nI a.val) = 0 ∧ cy_nu (nI a.val) = true ∧ cy_sg (nI a.val) = false ∧ cy_th (nI a.val) = false) ∨ (cy_kd (nI a.val) = 1 ∧ cy_nu (nI a.val) = false ∧ cy_sg (nI a.val) = true ∧ cy_th (nI a.val) = false) ∨ (cy_kd (nI a.val) = 2 ∧ cy_nu (nI a.val) = false ∧ cy_sg (nI a.val) = false ∧ cy_th (nI a.val) = true) := by decide +kernel
theorem cy_kd3 {n : Nat} {σ : cy_S} (hok : cy_ok n σ) {k : Nat} (hk : k < n) : (cy_kd (σ.1 1 k) = 0 ∧ cy_nu (σ.1 1 k) = true ∧ cy_sg (σ.1 1 k) = false ∧ cy_th (σ.1 1 k) = false) ∨ (cy_kd (σ.1 1 k) = 1 ∧ cy_nu (σ.1 1 k) = false ∧ cy_sg (σ.1 1 k) = true ∧ cy_th (σ.1 1 k) = false) ∨ (cy_kd (σ.1 1 k) = 2 ∧ cy_nu (σ.1 1 k) = false ∧ cy_sg (σ.1 1 k) = false ∧ cy_th (σ.1 1 k) = true) := by
  obtain ⟨⟨a, ha, ea⟩, -⟩ := hok.2.2.1 k hk
  rw [ea]
  exact cy_kd_dec ⟨a, by omega⟩
theorem cy_kd_012 (s : Int32) : cy_kd s = 0 ∨ cy_kd s = 1 ∨ cy_kd s = 2 := by
  unfold cy_kd
  split
  · exact Or.inl rfl
  · split
    · exact Or.inr (Or.inl rfl)
    · exact Or.inr (Or.inr rfl)
theorem cy_ob0 {σ : cy_S} {ad : Nat → Nat} {k : Nat} (h : cy_kd (σ.1 1 k) = 0) : cy_ob σ ad k = .inr (0, [.int (nI k), .int (σ.1 1 k), .ref (ad (101 + 2 * k))]) := by simp [cy_ob, h]
theorem cy_ob1 {σ : cy_S} {ad : Nat → Nat} {k : Nat} (h : cy_kd (σ.1 1 k) = 1) : cy_ob σ ad k = .inr (1, [.int (nI k), .int (σ.1 1 k), .int (σ.1 3 k)]) := by simp [cy_ob, h]
theorem cy_ob2 {σ : cy_S} {ad : Nat → Nat} {k : Nat} (h : cy_kd (σ.1 1 k) = 2) : cy_ob σ ad k = .inr (2, [.int (nI k), .int (σ.1 1 k), .ref (ad (101 + 2 * k))]) := by simp [cy_ob, h]
theorem cy_ar0 {cJ cO : ClassId} {σ : cy_S} {ad : Nat → Nat} {k : Nat} (h : cy_kd (σ.1 1 k) = 0) : cy_ar cJ cO σ ad k = some (.inl (cJ, (σ.1 2 k).toNatClampNeg, .inr (.inl (fun j => if j < 6 then σ.2 0 (6 * k + j) else 0)))) := by simp [cy_ar, h]
theorem cy_ar2 {cJ cO : ClassId} {σ : cy_S} {ad : Nat → Nat} {k : Nat} (h : cy_kd (σ.1 1 k) = 2) : cy_ar cJ cO σ ad k = some (.inl (cO, (σ.1 2 k).toNatClampNeg, .inr (.inr (.inr (.inr (fun j => if j < 6 then cy_rf ad (σ.1 4 (6 * k + j)) else none)))))) := by simp [cy_ar, h]
section CYL
variable {p : Program} {l : Launch} {e : Env} {R : Room} {s : State} {m : MethodId} {args : Array Value} {below : List Frame} {meth : Method} {c : Code} {H : Heap} {locs : List Loc} {cells slots : Nat} {Q : State → Prop}
variable {cc : ByteArray} {pc : Nat} {ls : Array Slot} {rest : List Value} {D : va_G} {z : Nat} {H0 : Heap}
variable {cI cJ cO : ClassId} {n na : Nat} {σ τ : cy_S} {pl : Nat → Int32} {hi : Int32} {ad : Nat → Nat}
theorem cy_C0 {k : Nat} (hk : k < n) (h : cy_kd (σ.1 1 k) = 0) : cy_CT cI cJ cO n na σ τ pl hi ad (100 + 2 * k) = some (.inr (0, [.int (nI k), .int (σ.1 1 k), .ref (ad (101 + 2 * k))])) := by rw [cy_CT_ob _ _ _ _ _ _ _ _ _ hk, cy_ob0 h]
theorem cy_C1 {k : Nat} (hk : k < n) (h : cy_kd (σ.1 1 k) = 1) : cy_CT cI cJ cO n na σ τ pl hi ad (100 + 2 * k) = some (.inr (1, [.int (nI k), .int (σ.1 1 k), .int (σ.1 3 k)])) := by rw [cy_CT_ob _ _ _ _ _ _ _ _ _ hk, cy_ob1 h]
theorem cy_C2 {k : Nat} (hk : k < n) (h : cy_kd (σ.1 1 k) = 2) : cy_CT cI cJ cO n na σ τ pl hi ad (100 + 2 * k) = some (.inr (2, [.int (nI k), .int (σ.1 1 k), .ref (ad (101 + 2 * k))])) := by rw [cy_CT_ob _ _ _ _ _ _ _ _ _ hk, cy_ob2 h]
theorem cy_A0 {k : Nat} (hk : k < n) (h : cy_kd (σ.1 1 k) = 0) : cy_CT cI cJ cO n na σ τ pl hi ad (101 + 2 * k) = some (.inl (cJ, (σ.1 2 k).toNatClampNeg, .inr (.inl (fun j => if j < 6 then σ.2 0 (6 * k + j) else 0)))) := by rw [cy_CT_ar _ _ _ _ _ _ _ _ _ hk, cy_ar0 h]
theorem cy_A2 {k : Nat} (hk : k < n) (h : cy_kd (σ.1 1 k) = 2) : cy_CT cI cJ cO n na σ τ pl hi ad (101 + 2 * k) = some (.inl (cO, (σ.1 2 k).toNatClampNeg, .inr (.inr (.inr (.inr (fun j => if j < 6 then cy_rf ad (σ.1 4 (6 * k + j)) else none)))))) := by rw [cy_CT_ar _ _ _ _ _ _ _ _ _ hk, cy_ar2 h]
theorem cy_getNumber (hexec : p.tables.exec = Jvm.exec) (hb : c.code = cc) {own ref : String} {index : Nat} {Ts : List Cond} (hts : ∀ w ∈ Ts, w.before args s = true) (hin1 : ∀ w ∈ u_ws RX1 TX1 3, w ∈ Ts) (hin2 : ∀ w ∈ u_ws RX2 TX2 3, w ∈ Ts) (hin3 : ∀ w ∈ u_ws RX3 TX3 3, w ∈ Ts) (hown : s.vm.findClass own = some m.cls) (hK : cy_K D cI cJ cO s) (hI : cy_W D z (cy_CT cI cJ cO n na σ τ pl hi ad) ad H) {k : Nat} (hk : k < n) (hlink : (Cond.fieldLink own index ref "number" "I").before args s = true) (hsame : ∀ x, s.fieldFound? "CustomsYard$Load" "number" "I" = some x → s.fieldFound? ref "number" "I" = some x) (hdg : decode cc pc = .ok (.getfield index, 3))
    (kk : W p l e R s m args below meth c H locs cells slots Q (F0 m (pc + 3) ls (.int (nI k) :: rest))) : W p l e R s m args below meth c H locs cells slots Q (F0 m pc ls (.ref (ad (100 + 2 * k)) :: rest)) := by
  rcases cy_kd_012 (σ.1 1 k) with h | h | h
  · exact va_get (D := D) (ci := 0) (C := RX1) (T := TX1) (N := 3) hexec hb hts hin1 hown hK.1 (hI.one (cy_C0 hk h)) 0 rfl rfl 0 (by decide) hlink hsame rfl hdg kk
  · exact va_get (D := D) (ci := 1) (C := RX2) (T := TX2) (N := 3) hexec hb hts hin2 hown hK.1 (hI.one (cy_C1 hk h)) 0 rfl rfl 0 (by decide) hlink hsame rfl hdg kk
  · exact va_get (D := D) (ci := 2) (C := RX3) (T := TX3) (N := 3) hexec hb hts hin3 hown hK.1 (hI.one (cy_C2 hk h)) 0 rfl rfl 0 (by decide) hlink hsame rfl hdg kk
theorem cy_getSort (hexec : p.tables.exec = Jvm.exec) (hb : c.code = cc) {own ref : String} {index : Nat} {Ts : List Cond} (hts : ∀ w ∈ Ts, w.before args s = true) (hin1 : ∀ w ∈ u_ws RX1 TX1 3, w ∈ Ts) (hin2 : ∀ w ∈ u_ws RX2 TX2 3, w ∈ Ts) (hin3 : ∀ w ∈ u_ws RX3 TX3 3, w ∈ Ts) (hown : s.vm.findClass own = some m.cls) (hK : cy_K D cI cJ cO s) (hI : cy_W D z (cy_CT cI cJ cO n na σ τ pl hi ad) ad H) {k : Nat} (hk : k < n) (hlink : (Cond.fieldLink own index ref "sort" "I").before args s = true) (hsame : ∀ x, s.fieldFound? "CustomsYard$Load" "sort" "I" = some x → s.fieldFound? ref "sort" "I" = some x) (hdg : decode cc pc = .ok (.getfield index, 3))
    (kk : W p l e R s m args below meth c H locs cells slots Q (F0 m (pc + 3) ls (.int (σ.1 1 k) :: rest))) : W p l e R s m args below meth c H locs cells slots Q (F0 m pc ls (.ref (ad (100 + 2 * k)) :: rest)) := by
  rcases cy_kd_012 (σ.1 1 k) with h | h | h
  · exact va_get (D := D) (ci := 0) (C := RX1) (T := TX1) (N := 3) hexec hb hts hin1 hown hK.1 (hI.one (cy_C0 hk h)) 0 rfl rfl 1 (by decide) hlink hsame rfl hdg kk
  · exact va_get (D := D) (ci := 1) (C := RX2) (T := TX2) (N := 3) hexec hb hts hin2 hown hK.1 (hI.one (cy_C1 hk h)) 0 rfl rfl 1 (by decide) hlink hsame rfl hdg kk
  · exact va_get (D := D) (ci := 2) (C := RX3) (T := TX3) (N := 3) hexec hb hts hin3 hown hK.1 (hI.one (cy_C2 hk h)) 0 rfl rfl 1 (by decide) hlink hsame rfl hdg kk
theorem cy_getNp (hexec : p.tables.exec = Jvm.exec) (hb : c.code = cc) {own : String} {index : Nat} {Ts : List Cond} (hts : ∀ w ∈ Ts, w.before args s = true) (hin : ∀ w ∈ u_ws RX1 TX1 3, w ∈ Ts) (hown : s.vm.findClass own = some m.cls) (hK : cy_K D cI cJ cO s) (hI : cy_W D z (cy_CT cI cJ cO n na σ τ pl hi ad) ad H) {k : Nat} (hk : k < n) (h : cy_kd (σ.1 1 k) = 0) (hlink : (Cond.fieldLink own index (TX1 2).1 (TX1 2).2.1 (TX1 2).2.2.1).before args s = true) (hdg : decode cc pc = .ok (.getfield index, 3))
    (kk : W p l e R s m args below meth c H locs cells slots Q (F0 m (pc + 3) ls (.ref (ad (101 + 2 * k)) :: rest))) : W p l e R s m args below meth c H locs cells slots Q (F0 m pc ls (.ref (ad (100 + 2 * k)) :: rest)) :=
  va_get (D := D) (ci := 0) (C := RX1) (T := TX1) (N := 3) hexec hb hts hin hown hK.1 (hI.one (cy_C0 hk h)) 0 rfl rfl 2 (by decide) hlink (fun _ h9 => h9) rfl hdg kk
theorem cy_getPt (hexec : p.tables.exec = Jvm.exec) (hb : c.code = cc) {own : String} {index : Nat} {Ts : List Cond} (hts : ∀ w ∈ Ts, w.before args s = true) (hin : ∀ w ∈ u_ws RX2 TX2 3, w ∈ Ts) (hown : s.vm.findClass own = some m.cls) (hK : cy_K D cI cJ cO s) (hI : cy_W D z (cy_CT cI cJ cO n na σ τ pl hi ad) ad H) {k : Nat} (hk : k < n) (h : cy_kd (σ.1 1 k) = 1) (hlink : (Cond.fieldLink own index (TX2 2).1 (TX2 2).2.1 (TX2 2).2.2.1).before args s = true) (hdg : decode cc pc = .ok (.getfield index, 3))
    (kk : W p l e R s m args below meth c H locs cells slots Q (F0 m (pc + 3) ls (.int (σ.1 3 k) :: rest))) : W p l e R s m args below meth c H locs cells slots Q (F0 m pc ls (.ref (ad (100 + 2 * k)) :: rest)) :=
  va_get (D := D) (ci := 1) (C := RX2) (T := TX2) (N := 3) hexec hb hts hin hown hK.1 (hI.one (cy_C1 hk h)) 0 rfl rfl 2 (by decide) hlink (fun _ h9 => h9) rfl hdg kk
theorem cy_getTp (hexec : p.tables.exec = Jvm.exec) (hb : c.code = cc) {own : String} {index : Nat} {Ts : List Cond} (hts : ∀ w ∈ Ts, w.before args s = true) (hin : ∀ w ∈ u_ws RX3 TX3 3, w ∈ Ts) (hown : s.vm.findClass own = some m.cls) (hK : cy_K D cI cJ cO s) (hI : cy_W D z (cy_CT cI cJ cO n na σ τ pl hi ad) ad H) {k : Nat} (hk : k < n) (h : cy_kd (σ.1 1 k) = 2) (hlink : (Cond.fieldLink own index (TX3 2).1 (TX3 2).2.1 (TX3 2).2.2.1).before args s = true) (hdg : decode cc pc = .ok (.getfield index, 3))
    (kk : W p l e R s m args below meth c H locs cells slots Q (F0 m (pc + 3) ls (.ref (ad (101 + 2 * k)) :: rest))) : W p l e R s m args below meth c H locs cells slots Q (F0 m pc ls (.ref (ad (100 + 2 * k)) :: rest)) :=
  va_get (D := D) (ci := 2) (C := RX3) (T := TX3) (N := 3) hexec hb hts hin hown hK.1 (hI.one (cy_C2 hk h)) 0 rfl rfl 2 (by decide) hlink (fun _ h9 => h9) rfl hdg kk
theorem cy_alenL (hexec : p.tables.exec = Jvm.exec) (hb : c.code = cc) (hK : cy_K D cI cJ cO s) (hI : cy_W D z (cy_CT cI cJ cO n na σ τ pl hi ad) ad H) {k : Nat} (hk : k < n) (h : cy_kd (σ.1 1 k) = 0 ∨ cy_kd (σ.1 1 k) = 2) {p0 : Nat} (hp : p0 ≤ 6) (ep : σ.1 2 k = nI p0) (hdg : decode cc pc = .ok (.arraylength, 1))
    (kk : W p l e R s m args below meth c H locs cells slots Q (F0 m (pc + 1) ls (.int (nI p0) :: rest))) : W p l e R s m args below meth c H locs cells slots Q (F0 m pc ls (.ref (ad (101 + 2 * k)) :: rest)) := by
  have e1 : (σ.1 2 k).toNatClampNeg = p0 := by rw [ep, nI_clamp (by omega)]
  rcases h with h | h
  · refine cy_alen hexec hb hK.1 hI 1 (cy_A0 hk h) rfl hdg ?_
    rw [e1]
    exact kk
  · refine cy_alen hexec hb hK.1 hI 2 (cy_A2 hk h) rfl hdg ?_
    rw [e1]
    exact kk
theorem cy_laldL (hexec : p.tables.exec = Jvm.exec) (hb : c.code = cc) (hK : cy_K D cI cJ cO s) (hI : cy_W D z (cy_CT cI cJ cO n na σ τ pl hi ad) ad H) {k : Nat} (hk : k < n) (h : cy_kd (σ.1 1 k) = 0) {p0 i : Nat} (hp : p0 ≤ 6) (ep : σ.1 2 k = nI p0) (hi0 : i < p0) (hdg : decode cc pc = .ok (.laload, 1))
    (kk : W p l e R s m args below meth c H locs cells slots Q (F0 m (pc + 1) ls (.long (σ.2 0 (6 * k + i)) :: rest))) : W p l e R s m args below meth c H locs cells slots Q (F0 m pc ls (.int (nI i) :: .ref (ad (101 + 2 * k)) :: rest)) := by
  have e1 : (σ.1 2 k).toNatClampNeg = p0 := by rw [ep, nI_clamp (by omega)]
  refine cy_lald (k := i) hexec hb hK.1 hI 1 (cy_A0 hk h) rfl (by rw [e1]; exact hi0) (by rw [e1]; omega) hdg ?_
  rw [if_pos (show i < 6 by omega)]
  exact kk
theorem cy_aaldL (hexec : p.tables.exec = Jvm.exec) (hb : c.code = cc) (hK : cy_K D cI cJ cO s) (hI : cy_W D z (cy_CT cI cJ cO n na σ τ pl hi ad) ad H) {k : Nat} (hk : k < n) (h : cy_kd (σ.1 1 k) = 2) {p0 i : Nat} (hp : p0 ≤ 6) (ep : σ.1 2 k = nI p0) (hi0 : i < p0) (hdg : decode cc pc = .ok (.aaload, 1))
    (kk : W p l e R s m args below meth c H locs cells slots Q (F0 m (pc + 1) ls (va_rf (cy_rf ad (σ.1 4 (6 * k + i))) :: rest))) : W p l e R s m args below meth c H locs cells slots Q (F0 m pc ls (.int (nI i) :: .ref (ad (101 + 2 * k)) :: rest)) := by
  have e1 : (σ.1 2 k).toNatClampNeg = p0 := by rw [ep, nI_clamp (by omega)]
  refine cy_aald (k := i) hexec hb hK.1 hI 2 (cy_A2 hk h) rfl (by rw [e1]; exact hi0) (by rw [e1]; omega) hdg ?_
  rw [if_pos (show i < 6 by omega)]
  exact kk
theorem cy_topq {x y : Option Nat} (h : x = y) (k : W p l e R s m args below meth c H locs cells slots Q (F0 m pc ls (va_rf y :: rest))) : W p l e R s m args below meth c H locs cells slots Q (F0 m pc ls (va_rf x :: rest)) := h ▸ k
theorem cy_rf_n {x : Int32} (h : x = -1) : cy_rf ad x = none := by unfold cy_rf; rw [if_pos h]
theorem cy_rf_s {x : Int32} {t : Nat} (ht : t < 2 ^ 31) (h : x = nI t) : cy_rf ad x = some (ad (100 + 2 * t)) := by
  unfold cy_rf
  rw [if_neg (by rw [h]; exact cy_ne1 ht), h, nI_clamp ht]
/-- a load's object, as a receiver -/
theorem cy_rv0 (hK : cy_K D cI cJ cO s) (hI : cy_W D z (cy_CT cI cJ cO n na σ τ pl hi ad) ad H) {k : Nat} (hk : k < n) (h : cy_kd (σ.1 1 k) = 0) : ∃ cell : Cell, H[ad (100 + 2 * k)]? = some cell ∧ cell.vm.isStatics = false ∧ s.vm.findClass RX1 = some cell.cls := cy_recv (q := (RX1, TX1, 3)) hK (hI.1 _ _ (cy_C0 hk h)).1 rfl
theorem cy_rv1 (hK : cy_K D cI cJ cO s) (hI : cy_W D z (cy_CT cI cJ cO n na σ τ pl hi ad) ad H) {k : Nat} (hk : k < n) (h : cy_kd (σ.1 1 k) = 1) : ∃ cell : Cell, H[ad (100 + 2 * k)]? = some cell ∧ cell.vm.isStatics = false ∧ s.vm.findClass RX2 = some cell.cls := cy_recv (q := (RX2, TX2, 3)) hK (hI.1 _ _ (cy_C1 hk h)).1 rfl
theorem cy_rv2 (hK : cy_K D cI cJ cO s) (hI : cy_W D z (cy_CT cI cJ cO n na σ τ pl hi ad) ad H) {k : Nat} (hk : k < n) (h : cy_kd (σ.1 1 k) = 2) : ∃ cell : Cell, H[ad (100 + 2 * k)]? = some cell ∧ cell.vm.isStatics = false ∧ s.vm.findClass RX3 = some cell.cls := cy_recv (q := (RX3, TX3, 3)) hK (hI.1 _ _ (cy_C2 hk h)).1 rfl
end CYL
theorem cy_go_c (s v : Int32) : cy_go s v = (decide (v = s) || decide (s = 5 ∧ (v = 4 ∨ v = 13)) || decide (s = 6 ∧ v = 13) || decide (s = 8 ∧ (v = 7 ∨ v = 9)) || decide (s = 11 ∧ (v = 10 ∨ v = 12))) := by
  unfold cy_go
  rw [show decide (s = v) = decide (v = s) from decide_eq_decide.mpr eq_comm]
theorem cy_pl_c {p : Nat} (hp : p ≤ 6) (i : Int32) : cy_pl (nI p) i = (!decide (i < 0) && !decide (nI p ≤ i)) := by
  have e1 : (nI p - 1).toInt = (p : Int) - 1 := pk_sub_toInt (a := p) (b := 1) (by omega) (by omega)
  have e2 : (nI p - 1 < i) ↔ (nI p ≤ i) := by rw [Int32.lt_iff_toInt_lt, Int32.le_iff_toInt_le, e1, nI_toInt (by omega)]; omega
  unfold cy_pl cy_isIn
  rw [decide_eq_decide.mpr e2]
theorem cy_i_keep {σ : cy_S} {i j : Nat} {v : Int32} (h : σ.1 i j = v) : cy_i σ i j v = σ := by rw [← h, cy_i_self]
theorem cy_no4 (σ : cy_S) : cy_no σ (-4) = cy_i (cy_i σ 0 2 (-4)) 0 3 (σ.1 0 3 + 1) := by
  unfold cy_no
  rw [cy_i_keep (σ := cy_i (cy_i (cy_i σ 0 2 (-4)) 0 3 _) 0 4 _) (by simp [cy_i, cy_u, cy_b]), cy_i_keep (σ := cy_i (cy_i σ 0 2 (-4)) 0 3 _) (by simp [cy_i, cy_u, cy_b])]
  rfl
theorem cy_no5 (σ : cy_S) : cy_no σ (-5) = cy_i (cy_i σ 0 2 (-5)) 0 4 (σ.1 0 4 + 1) := by
  unfold cy_no
  rw [cy_i_keep (σ := cy_i (cy_i (cy_i σ 0 2 (-5)) 0 3 _) 0 4 _) (by simp [cy_i, cy_u, cy_b]), cy_i_keep (σ := cy_i σ 0 2 (-5)) (i := 0) (j := 3) (by simp [cy_i, cy_u, cy_b])]
  rfl
theorem cy_no6 (σ : cy_S) : cy_no σ (-6) = cy_i (cy_i σ 0 2 (-6)) 0 5 (σ.1 0 5 + 1) := by
  unfold cy_no
  rw [cy_i_keep (σ := cy_i σ 0 2 (-6)) (i := 0) (j := 3) (by simp [cy_i, cy_u, cy_b]), cy_i_keep (σ := cy_i σ 0 2 (-6)) (i := 0) (j := 4) (by simp [cy_i, cy_u, cy_b])]
  rfl
theorem cy_no0 (σ : cy_S) (w : Int32) (h4 : ¬ w = -4) (h5 : ¬ w = -5) (h6 : ¬ w = -6) : cy_no σ w = cy_i σ 0 2 w := by
  unfold cy_no
  rw [cy_i_keep (σ := cy_i σ 0 2 w) (i := 0) (j := 3) (by simp [cy_i, cy_u, cy_b, h4]), cy_i_keep (σ := cy_i σ 0 2 w) (i := 0) (j := 4) (by simp [cy_i, cy_u, cy_b, h5]), cy_i_keep (σ := cy_i σ 0 2 w) (i := 0) (j := 5) (by simp [cy_i, cy_u, cy_b, h6])]
/-- the object of a load that there is -/
def cy_fd (n : Nat) (ad : Nat → Nat) (l : Int32) : Option Nat := if cy_ld n l = true then some (ad (100 + 2 * l.toNatClampNeg)) else none
theorem cy_fd_f {n : Nat} {ad : Nat → Nat} {l : Int32} (h : cy_ld n l = false) : cy_fd n ad l = none := by simp [cy_fd, h]
theorem cy_fd_t {n : Nat} {ad : Nat → Nat} {k : Nat} (hn : n ≤ 80) (h : cy_ld n (nI k) = true) (hk : k < n) : cy_fd n ad (nI k) = some (ad (100 + 2 * k)) := by
  unfold cy_fd
  rw [if_pos h, nI_clamp (by omega)]
end
section
theorem cy_l12 (v : Int32) : 11 < v ↔ 12 ≤ v := by
  rw [Int32.lt_iff_toInt_lt, Int32.le_iff_toInt_le]
  show (11 : Int) < _ ↔ (12 : Int) ≤ _
  omega
theorem cy_l6 (v : Int32) : 5 < v ↔ 6 ≤ v := by
  rw [Int32.lt_iff_toInt_lt, Int32.le_iff_toInt_le]
  show (5 : Int) < _ ↔ (6 : Int) ≤ _
  omega
def cy_ba (v : Int32) : Bool := cy_isIn v 0 11
theorem cy_sg_c (s : Int32) : cy_sg s = decide (s = 4 ∨ s = 5 ∨ s = 6) := by
  unfold cy_sg cy_isIn
  have e : ∀ c : Int32, s = c ↔ s.toInt = c.toInt := fun c => Int32.toInt_inj.symm
  have h4 : (4 : Int32).toInt = 4 := rfl
  have h5 : (5 : Int32).toInt = 5 := rfl
  have h6 : (6 : Int32).toInt = 6 := rfl
  rw [Bool.eq_iff_iff, Bool.and_eq_true, Bool.not_eq_true', Bool.not_eq_true', decide_eq_false_iff_not, decide_eq_false_iff_not, decide_eq_true_iff, e 4, e 5, e 6, Int32.lt_iff_toInt_lt, Int32.lt_iff_toInt_lt, h4, h5, h6]
  omega
def cy_mo (s : Int32) : Int32 := if cy_sg s = true then 1000 else 6
def cy_va (s : Int32) : Int32 := if s = 3 then 0 else if s = 7 ∨ s = 8 then 4 else if s = 9 then 13 else if s = 10 ∨ s = 11 then 7 else 9
def cy_vk (s : Int32) : Int32 := if s = 8 then 5 else if s = 11 then 8 else cy_va s
theorem cy_va_dec : ∀ a : Fin 13, cy_th (nI a.val) = true → cy_va (nI a.val) = cy_wa (nI a.val) ∧ cy_vk (nI a.val) = cy_ha (nI a.val) := by decide +kernel
theorem cy_va_eq {n : Nat} {σ : cy_S} (hok : cy_ok n σ) {k : Nat} (hk : k < n) (h : cy_th (σ.1 1 k) = true) : cy_va (σ.1 1 k) = cy_wa (σ.1 1 k) ∧ cy_vk (σ.1 1 k) = cy_ha (σ.1 1 k) := by
  obtain ⟨⟨a, ha, ea⟩, -⟩ := hok.2.2.1 k hk
  rw [ea] at h ⊢
  exact cy_va_dec ⟨a, by omega⟩ h
theorem cy_ns_0 {σ : cy_S} {k : Nat} (h : ∀ j, j < 6 → σ.2 0 (6 * k + j) = 0) : ∀ f i, i + f ≤ 6 → cy_ns σ k f i = 0
  | 0, _, _ => rfl
  | f + 1, i, hf => by
    unfold cy_ns
    rw [h i (by omega), cy_ns_0 h f (i + 1) (by omega)]
    rfl
theorem cy_wt_1 {n : Nat} {σ : cy_S} (hok : cy_ok n σ) {k : Nat} (hk : k < n) (h : cy_kd (σ.1 1 k) = 1) : cy_wt σ 3 k = (σ.1 3 k).toInt64 := by
  obtain ⟨-, -, hs, -⟩ := hok.2.2.1 k hk
  rcases cy_kd3 hok hk with h1 | h1 | h1
  · rw [h1.1] at h; cases h
  · have e1 : cy_ch σ k = [] := by unfold cy_ch; rw [if_neg (by rw [h1.2.2.2]; decide)]
    show cy_bs σ k + cy_smL (cy_wt σ 2) (cy_ch σ k) = _
    rw [e1]
    unfold cy_bs
    rw [hs h1.2.2.1]
    simp [cy_smL, cy_ns]
  · rw [h1.1] at h; cases h
theorem cy_wt_0 {n : Nat} {σ : cy_S} (hok : cy_ok n σ) {k p : Nat} (hk : k < n) (h : cy_kd (σ.1 1 k) = 0) (hp : p ≤ 6) (ep : σ.1 2 k = nI p) : cy_wt σ 3 k = cy_ns σ k p 0 := by
  obtain ⟨-, -, -, hw, -⟩ := hok.2.2.1 k hk
  rcases cy_kd3 hok hk with h1 | h1 | h1
  · have e1 : cy_ch σ k = [] := by unfold cy_ch; rw [if_neg (by rw [h1.2.2.2]; decide)]
    show cy_bs σ k + cy_smL (cy_wt σ 2) (cy_ch σ k) = _
    rw [e1]
    unfold cy_bs
    rw [hw h1.2.2.1, ep, nI_clamp (by omega)]
    simp [cy_smL]
  · rw [h1.1] at h; cases h
  · rw [h1.1] at h; cases h
theorem cy_wt_2 {n : Nat} {σ : cy_S} (hok : cy_ok n σ) {k p : Nat} (hk : k < n) (h : cy_kd (σ.1 1 k) = 2) (hp : p ≤ 6) (ep : σ.1 2 k = nI p) : cy_wt σ 3 k = cy_smL (cy_wt σ 3) (cy_cf σ k p 0) := by
  obtain ⟨-, -, -, hw, hz, -⟩ := hok.2.2.1 k hk
  rcases cy_kd3 hok hk with h1 | h1 | h1
  · rw [h1.1] at h; cases h
  · rw [h1.1] at h; cases h
  · rw [cy_wt_eq hok hk]
    unfold cy_bs cy_ch
    rw [if_pos h1.2.2.2, hw h1.2.2.1, ep, nI_clamp (by omega), cy_ns_0 (hz h1.2.1) p 0 (by omega)]
    simp
theorem cy_tl_01 {n : Nat} {σ : cy_S} (v : Int32) (hok : cy_ok n σ) {k : Nat} (hk : k < n) (h : ¬ cy_kd (σ.1 1 k) = 2) : cy_tl σ v 3 k = cy_b (cy_go (σ.1 1 k) v) := by
  have e1 : cy_ch σ k = [] := by
    rcases cy_kd3 hok hk with h1 | h1 | h1
    · unfold cy_ch; rw [if_neg (by rw [h1.2.2.2]; decide)]
    · unfold cy_ch; rw [if_neg (by rw [h1.2.2.2]; decide)]
    · exact absurd h1.1 h
  rw [cy_tl_eq v hok hk, e1]
  simp [cy_smI]
theorem cy_tl_2 {n : Nat} {σ : cy_S} (v : Int32) (hok : cy_ok n σ) {k p : Nat} (hk : k < n) (h : cy_kd (σ.1 1 k) = 2) (hp : p ≤ 6) (ep : σ.1 2 k = nI p) : cy_tl σ v 3 k = cy_b (cy_go (σ.1 1 k) v) + cy_smI (cy_tl σ v 3) (cy_cf σ k p 0) := by
  rcases cy_kd3 hok hk with h1 | h1 | h1
  · rw [h1.1] at h; cases h
  · rw [h1.1] at h; cases h
  · rw [cy_tl_eq v hok hk]
    unfold cy_ch
    rw [if_pos h1.2.2.2, ep, nI_clamp (by omega)]
theorem hin1_X0_goesAs : ∀ w ∈ u_ws RX1 TX1 3, w ∈ wsX0_goesAs := by decide +kernel
theorem hin2_X0_goesAs : ∀ w ∈ u_ws RX2 TX2 3, w ∈ wsX0_goesAs := by decide +kernel
theorem hin3_X0_goesAs : ∀ w ∈ u_ws RX3 TX3 3, w ∈ wsX0_goesAs := by decide +kernel
theorem hin1_X1_hasPlace : ∀ w ∈ u_ws RX1 TX1 3, w ∈ wsX1_hasPlace := by decide +kernel
theorem hin3_X3_hasPlace : ∀ w ∈ u_ws RX3 TX3 3, w ∈ wsX3_hasPlace := by decide +kernel
theorem hin1_X1_comesAs : ∀ w ∈ u_ws RX1 TX1 3, w ∈ wsX1_comesAs := by decide +kernel
theorem hin3_X3_comesAs : ∀ w ∈ u_ws RX3 TX3 3, w ∈ wsX3_comesAs := by decide +kernel
theorem hin1_X2_declaration : ∀ w ∈ u_ws RX1 TX1 3, w ∈ wsX2_declaration := by decide +kernel
theorem hin2_X2_declaration : ∀ w ∈ u_ws RX2 TX2 3, w ∈ wsX2_declaration := by decide +kernel
theorem hin3_X2_declaration : ∀ w ∈ u_ws RX3 TX3 3, w ∈ wsX2_declaration := by decide +kernel
theorem hin1_X2_comesAs : ∀ w ∈ u_ws RX1 TX1 3, w ∈ wsX2_comesAs := by decide +kernel
theorem hin2_X2_comesAs : ∀ w ∈ u_ws RX2 TX2 3, w ∈ wsX2_comesAs := by decide +kernel
theorem hin3_X2_comesAs : ∀ w ∈ u_ws RX3 TX3 3, w ∈ wsX2_comesAs := by decide +kernel
theorem hin1_X3_viewAsked : ∀ w ∈ u_ws RX1 TX1 3, w ∈ wsX3_viewAsked := by decide +kernel
theorem hin2_X3_viewAsked : ∀ w ∈ u_ws RX2 TX2 3, w ∈ wsX3_viewAsked := by decide +kernel
theorem hin3_X3_viewAsked : ∀ w ∈ u_ws RX3 TX3 3, w ∈ wsX3_viewAsked := by decide +kernel
theorem hin1_X3_viewKept : ∀ w ∈ u_ws RX1 TX1 3, w ∈ wsX3_viewKept := by decide +kernel
theorem hin2_X3_viewKept : ∀ w ∈ u_ws RX2 TX2 3, w ∈ wsX3_viewKept := by decide +kernel
theorem hin3_X3_viewKept : ∀ w ∈ u_ws RX3 TX3 3, w ∈ wsX3_viewKept := by decide +kernel
theorem hin2_X2_weigh : ∀ w ∈ u_ws RX2 TX2 3, w ∈ wsX2_weigh := by decide +kernel
set_option maxHeartbeats 4000000 in
set_option maxRecDepth 100000 in
theorem c_X4_isView (l : Launch) (v : Int32)  : Met l yX4_isView wsX4_isView { frames := 0, cells := 0, slots := 0, locals := 0 } (fun zz _ => zz = ([.int v] : List Value).toArray) (cy_Q (.int (cy_b (cy_vw v)))) 0 0 (fun _ => False) := by
  refine Met.ofW (cc := cX4_isView) (maxL := 1) (ret := (some .boolean)) (by decide) rfl ?_
  intro p e s m args below meth c s₁ B hml hv
  have hv : args = ([.int v] : List Value).toArray := hv
  subst hv
  have hx := B.exec
  have hb := B.bytes
  have hr := B.returns
  have hts := atoms_spec (ws := wsX4_isView) B.pre
  have hown : s.vm.findClass RX4 = some m.cls := findClass_of_methodNamed B.named
  have hlocks := B.notSynchronized
  have hl := lv_entry ([.int v]) (n := 1) (Nat.le_of_ble_eq_true rfl)
  rw [lg_entry_eq]
  generalize (lg_sl ([.int v]) ++ List.replicate (1 - (lg_sl ([.int v])).length) Slot.unset).toArray = ls at hl ⊢
  have hl : lv_has ls 1 [(0, .int v)] := hl
  refine lv_iload_n hx hb dX4_isView_0 rfl (lv_at hl 0 rfl) ?_
  refine lv_if_lt (tgt := 14) hx hb dX4_isView_1 (by decide) (fun h1 => ?_) (fun h1 => ?_)
  · refine lv_iconst (v := 0) hx hb dX4_isView_14 (by decide) ?_
    exact W.zret (v := 0) hx hb hr (rfl) (fun t ht hW => ⟨congrArg (fun q => Outcome.returned (some (Value.int q))) (by simp [cy_vw, cy_isIn, cy_b, cy_l12, cy_l6, h1]), ht⟩) (fun q h => by cases h) dX4_isView_15
  · refine lv_iload_n hx hb dX4_isView_4 rfl (lv_at hl 0 rfl) ?_
    refine lv_bipush (v := 13) hx hb dX4_isView_5 (by decide) ?_
    refine lv_icmp_gt (tgt := 14) hx hb dX4_isView_7 (by decide) (fun h2 => ?_) (fun h2 => ?_)
    · refine lv_iconst (v := 0) hx hb dX4_isView_14 (by decide) ?_
      exact W.zret (v := 0) hx hb hr (rfl) (fun t ht hW => ⟨congrArg (fun q => Outcome.returned (some (Value.int q))) (by simp [cy_vw, cy_isIn, cy_b, cy_l12, cy_l6, h1, h2]), ht⟩) (fun q h => by cases h) dX4_isView_15
    · refine lv_iconst (v := 1) hx hb dX4_isView_10 (by decide) ?_
      refine lv_goto (tgt := 15) hx hb dX4_isView_11 (by decide) ?_
      exact W.zret (v := 1) hx hb hr (rfl) (fun t ht hW => ⟨congrArg (fun q => Outcome.returned (some (Value.int q))) (by simp [cy_vw, cy_isIn, cy_b, cy_l12, cy_l6, h1, h2]), ht⟩) (fun q h => by cases h) dX4_isView_15

set_option maxHeartbeats 4000000 in
set_option maxRecDepth 100000 in
theorem c_X4_isBay (l : Launch) (v : Int32)  : Met l yX4_isBay wsX4_isBay { frames := 0, cells := 0, slots := 0, locals := 0 } (fun zz _ => zz = ([.int v] : List Value).toArray) (cy_Q (.int (cy_b (cy_ba v)))) 0 0 (fun _ => False) := by
  refine Met.ofW (cc := cX4_isBay) (maxL := 1) (ret := (some .boolean)) (by decide) rfl ?_
  intro p e s m args below meth c s₁ B hml hv
  have hv : args = ([.int v] : List Value).toArray := hv
  subst hv
  have hx := B.exec
  have hb := B.bytes
  have hr := B.returns
  have hts := atoms_spec (ws := wsX4_isBay) B.pre
  have hown : s.vm.findClass RX4 = some m.cls := findClass_of_methodNamed B.named
  have hlocks := B.notSynchronized
  have hl := lv_entry ([.int v]) (n := 1) (Nat.le_of_ble_eq_true rfl)
  rw [lg_entry_eq]
  generalize (lg_sl ([.int v]) ++ List.replicate (1 - (lg_sl ([.int v])).length) Slot.unset).toArray = ls at hl ⊢
  have hl : lv_has ls 1 [(0, .int v)] := hl
  refine lv_iload_n hx hb dX4_isBay_0 rfl (lv_at hl 0 rfl) ?_
  refine lv_if_lt (tgt := 14) hx hb dX4_isBay_1 (by decide) (fun h1 => ?_) (fun h1 => ?_)
  · refine lv_iconst (v := 0) hx hb dX4_isBay_14 (by decide) ?_
    exact W.zret (v := 0) hx hb hr (rfl) (fun t ht hW => ⟨congrArg (fun q => Outcome.returned (some (Value.int q))) (by simp [cy_ba, cy_isIn, cy_b, cy_l12, cy_l6, h1]), ht⟩) (fun q h => by cases h) dX4_isBay_15
  · refine lv_iload_n hx hb dX4_isBay_4 rfl (lv_at hl 0 rfl) ?_
    refine lv_bipush (v := 12) hx hb dX4_isBay_5 (by decide) ?_
    refine lv_icmp_ge (tgt := 14) hx hb dX4_isBay_7 (by decide) (fun h2 => ?_) (fun h2 => ?_)
    · refine lv_iconst (v := 0) hx hb dX4_isBay_14 (by decide) ?_
      exact W.zret (v := 0) hx hb hr (rfl) (fun t ht hW => ⟨congrArg (fun q => Outcome.returned (some (Value.int q))) (by simp [cy_ba, cy_isIn, cy_b, cy_l12, cy_l6, h1, h2]), ht⟩) (fun q h => by cases h) dX4_isBay_15
    · refine lv_iconst (v := 1) hx hb dX4_isBay_10 (by decide) ?_
      refine lv_goto (tgt := 15) hx hb dX4_isBay_11 (by decide) ?_
      exact W.zret (v := 1) hx hb hr (rfl) (fun t ht hW => ⟨congrArg (fun q => Outcome.returned (some (Value.int q))) (by simp [cy_ba, cy_isIn, cy_b, cy_l12, cy_l6, h1, h2]), ht⟩) (fun q h => by cases h) dX4_isBay_15

set_option maxHeartbeats 4000000 in
set_option maxRecDepth 100000 in
theorem c_X4_isGate (l : Launch) (v : Int32)  : Met l yX4_isGate wsX4_isGate { frames := 0, cells := 0, slots := 0, locals := 0 } (fun zz _ => zz = ([.int v] : List Value).toArray) (cy_Q (.int (cy_b (cy_gt v)))) 0 0 (fun _ => False) := by
  refine Met.ofW (cc := cX4_isGate) (maxL := 1) (ret := (some .boolean)) (by decide) rfl ?_
  intro p e s m args below meth c s₁ B hml hv
  have hv : args = ([.int v] : List Value).toArray := hv
  subst hv
  have hx := B.exec
  have hb := B.bytes
  have hr := B.returns
  have hts := atoms_spec (ws := wsX4_isGate) B.pre
  have hown : s.vm.findClass RX4 = some m.cls := findClass_of_methodNamed B.named
  have hlocks := B.notSynchronized
  have hl := lv_entry ([.int v]) (n := 1) (Nat.le_of_ble_eq_true rfl)
  rw [lg_entry_eq]
  generalize (lg_sl ([.int v]) ++ List.replicate (1 - (lg_sl ([.int v])).length) Slot.unset).toArray = ls at hl ⊢
  have hl : lv_has ls 1 [(0, .int v)] := hl
  refine lv_iload_n hx hb dX4_isGate_0 rfl (lv_at hl 0 rfl) ?_
  refine lv_if_lt (tgt := 14) hx hb dX4_isGate_1 (by decide) (fun h1 => ?_) (fun h1 => ?_)
  · refine lv_iconst (v := 0) hx hb dX4_isGate_14 (by decide) ?_
    exact W.zret (v := 0) hx hb hr (rfl) (fun t ht hW => ⟨congrArg (fun q => Outcome.returned (some (Value.int q))) (by simp [cy_gt, cy_isIn, cy_b, cy_l12, cy_l6, h1]), ht⟩) (fun q h => by cases h) dX4_isGate_15
  · refine lv_iload_n hx hb dX4_isGate_4 rfl (lv_at hl 0 rfl) ?_
    refine lv_bipush (v := 6) hx hb dX4_isGate_5 (by decide) ?_
    refine lv_icmp_ge (tgt := 14) hx hb dX4_isGate_7 (by decide) (fun h2 => ?_) (fun h2 => ?_)
    · refine lv_iconst (v := 0) hx hb dX4_isGate_14 (by decide) ?_
      exact W.zret (v := 0) hx hb hr (rfl) (fun t ht hW => ⟨congrArg (fun q => Outcome.returned (some (Value.int q))) (by simp [cy_gt, cy_isIn, cy_b, cy_l12, cy_l6, h1, h2]), ht⟩) (fun q h => by cases h) dX4_isGate_15
    · refine lv_iconst (v := 1) hx hb dX4_isGate_10 (by decide) ?_
      refine lv_goto (tgt := 15) hx hb dX4_isGate_11 (by decide) ?_
      exact W.zret (v := 1) hx hb hr (rfl) (fun t ht hW => ⟨congrArg (fun q => Outcome.returned (some (Value.int q))) (by simp [cy_gt, cy_isIn, cy_b, cy_l12, cy_l6, h1, h2]), ht⟩) (fun q h => by cases h) dX4_isGate_15

set_option maxHeartbeats 4000000 in
set_option maxRecDepth 100000 in
theorem c_X4_hasWeightTold (l : Launch) (v : Int32)  : Met l yX4_hasWeightTold wsX4_hasWeightTold { frames := 0, cells := 0, slots := 0, locals := 0 } (fun zz _ => zz = ([.int v] : List Value).toArray) (cy_Q (.int (cy_b (cy_sg v)))) 0 0 (fun _ => False) := by
  refine Met.ofW (cc := cX4_hasWeightTold) (maxL := 1) (ret := (some .boolean)) (by decide) rfl ?_
  intro p e s m args below meth c s₁ B hml hv
  have hv : args = ([.int v] : List Value).toArray := hv
  subst hv
  have hx := B.exec
  have hb := B.bytes
  have hr := B.returns
  have hts := atoms_spec (ws := wsX4_hasWeightTold) B.pre
  have hown : s.vm.findClass RX4 = some m.cls := findClass_of_methodNamed B.named
  have hlocks := B.notSynchronized
  have hl := lv_entry ([.int v]) (n := 1) (Nat.le_of_ble_eq_true rfl)
  rw [lg_entry_eq]
  generalize (lg_sl ([.int v]) ++ List.replicate (1 - (lg_sl ([.int v])).length) Slot.unset).toArray = ls at hl ⊢
  have hl : lv_has ls 1 [(0, .int v)] := hl
  refine lv_iload_n hx hb dX4_hasWeightTold_0 rfl (lv_at hl 0 rfl) ?_
  refine lv_iconst (v := 4) hx hb dX4_hasWeightTold_1 (by decide) ?_
  refine lv_icmp_eq (tgt := 16) hx hb dX4_hasWeightTold_2 (by decide) (fun h1 => ?_) (fun h1 => ?_)
  · refine lv_iconst (v := 1) hx hb dX4_hasWeightTold_16 (by decide) ?_
    refine lv_goto (tgt := 21) hx hb dX4_hasWeightTold_17 (by decide) ?_
    exact W.zret (v := 1) hx hb hr (rfl) (fun t ht hW => ⟨congrArg (fun q => Outcome.returned (some (Value.int q))) (by rw [cy_sg_c]; simp [cy_b, h1]), ht⟩) (fun q h => by cases h) dX4_hasWeightTold_21
  · refine lv_iload_n hx hb dX4_hasWeightTold_5 rfl (lv_at hl 0 rfl) ?_
    refine lv_iconst (v := 5) hx hb dX4_hasWeightTold_6 (by decide) ?_
    refine lv_icmp_eq (tgt := 16) hx hb dX4_hasWeightTold_7 (by decide) (fun h2 => ?_) (fun h2 => ?_)
    · refine lv_iconst (v := 1) hx hb dX4_hasWeightTold_16 (by decide) ?_
      refine lv_goto (tgt := 21) hx hb dX4_hasWeightTold_17 (by decide) ?_
      exact W.zret (v := 1) hx hb hr (rfl) (fun t ht hW => ⟨congrArg (fun q => Outcome.returned (some (Value.int q))) (by rw [cy_sg_c]; simp [cy_b, h1, h2]), ht⟩) (fun q h => by cases h) dX4_hasWeightTold_21
    · refine lv_iload_n hx hb dX4_hasWeightTold_10 rfl (lv_at hl 0 rfl) ?_
      refine lv_bipush (v := 6) hx hb dX4_hasWeightTold_11 (by decide) ?_
      refine lv_icmp_ne (tgt := 20) hx hb dX4_hasWeightTold_13 (by decide) (fun h3 => ?_) (fun h3 => ?_)
      · refine lv_iconst (v := 0) hx hb dX4_hasWeightTold_20 (by decide) ?_
        exact W.zret (v := 0) hx hb hr (rfl) (fun t ht hW => ⟨congrArg (fun q => Outcome.returned (some (Value.int q))) (by rw [cy_sg_c]; simp [cy_b, h1, h2, h3]), ht⟩) (fun q h => by cases h) dX4_hasWeightTold_21
      · refine lv_iconst (v := 1) hx hb dX4_hasWeightTold_16 (by decide) ?_
        refine lv_goto (tgt := 21) hx hb dX4_hasWeightTold_17 (by decide) ?_
        exact W.zret (v := 1) hx hb hr (rfl) (fun t ht hW => ⟨congrArg (fun q => Outcome.returned (some (Value.int q))) (by rw [cy_sg_c]; simp [cy_b, h1, h2, h3]), ht⟩) (fun q h => by cases h) dX4_hasWeightTold_21

set_option maxHeartbeats 4000000 in
set_option maxRecDepth 100000 in
theorem c_X4_mostOf (l : Launch) (v : Int32)  : Met l yX4_mostOf wsX4_mostOf { frames := 1, cells := 0, slots := 0, locals := 20 } (fun zz _ => zz = ([.int v] : List Value).toArray) (cy_Q (.int (cy_mo v))) 0 0 (fun _ => False) := by
  refine Met.ofW (cc := cX4_mostOf) (maxL := 1) (ret := (some .int)) (by decide) rfl ?_
  intro p e s m args below meth c s₁ B hml hv
  have hv : args = ([.int v] : List Value).toArray := hv
  subst hv
  have hx := B.exec
  have hb := B.bytes
  have hr := B.returns
  have hts := atoms_spec (ws := wsX4_mostOf) B.pre
  have hown : s.vm.findClass RX4 = some m.cls := findClass_of_methodNamed B.named
  have hlocks := B.notSynchronized
  have hl := lv_entry ([.int v]) (n := 1) (Nat.le_of_ble_eq_true rfl)
  rw [lg_entry_eq]
  generalize (lg_sl ([.int v]) ++ List.replicate (1 - (lg_sl ([.int v])).length) Slot.unset).toArray = ls at hl ⊢
  have hl : lv_has ls 1 [(0, .int v)] := hl
  refine lv_iload_n hx hb dX4_mostOf_0 rfl (lv_at hl 0 rfl) ?_
  refine cy_callp (v := .int (cy_b (cy_sg v))) (va_runS (As := [.int v]) (rest := []) ⟨hx, hb, hml, hown, hts⟩ (c_X4_hasWeightTold l v) (va_cwS 1 hts gX4_mostOf_X4_hasWeightTold rfl rfl rfl (by decide +kernel) ⟨Nat.le_of_ble_eq_true rfl, Nat.le_of_ble_eq_true rfl⟩) preEq rfl rfl hl.1 rfl (lv_room (Nat.le_of_ble_eq_true rfl)) dX4_mostOf_1 ⟨Nat.le_of_ble_eq_true rfl, Nat.le_of_ble_eq_true rfl⟩) ?_
  cases b1 : (cy_sg v)
  · refine lv_if_eq (tgt := 13) hx hb dX4_mostOf_4 (by decide) (fun h2 => ?_) (fun h2 => absurd (by decide) h2)
    refine lv_bipush (v := 6) hx hb dX4_mostOf_13 (by decide) ?_
    exact W.iret (v := 6) hx hb hr (fun t ht hW => ⟨congrArg (fun q => Outcome.returned (some (Value.int q))) (by simp [cy_mo, b1]), ht⟩) (fun q h => by cases h) dX4_mostOf_15
  · refine lv_if_eq (tgt := 13) hx hb dX4_mostOf_4 (by decide) (fun h3 => absurd h3 (by decide)) (fun h3 => ?_)
    refine lv_sipush (v := 1000) hx hb dX4_mostOf_7 (by decide) ?_
    refine lv_goto (tgt := 15) hx hb dX4_mostOf_10 (by decide) ?_
    exact W.iret (v := 1000) hx hb hr (fun t ht hW => ⟨congrArg (fun q => Outcome.returned (some (Value.int q))) (by simp [cy_mo, b1]), ht⟩) (fun q h => by cases h) dX4_mostOf_15

set_option maxHeartbeats 4000000 in
set_option maxRecDepth 100000 in
theorem c_X0_goesAs (l : Launch) (D : va_G) (cI cJ cO : ClassId) (z n : Nat) (σ τ : cy_S) (pl : Nat → Int32) (hi : Int32) (ad : Nat → Nat) (hok : cy_ok n σ) (k : Nat) (hk : k < n) (v : Int32)  : Met l yX0_goesAs wsX0_goesAs { frames := 0, cells := 0, slots := 0, locals := 0 } (cy_P D cI cJ cO (fun H => cy_W D z (cy_CT cI cJ cO n n σ τ pl hi ad) ad H) [.ref (ad (100 + 2 * k)), .int v]) (cy_Q (.int (cy_b (cy_go (σ.1 1 k) v)))) 0 0 (fun _ => False) := by
  refine Met.ofW (cc := cX0_goesAs) (maxL := 2) (ret := (some .boolean)) (by decide) rfl ?_
  intro p e s m args below meth c s₁ B hml hv
  obtain ⟨rfl, hK, hI⟩ := hv
  have hx := B.exec
  have hb := B.bytes
  have hr := B.returns
  have hts := atoms_spec (ws := wsX0_goesAs) B.pre
  have hown : s.vm.findClass RX0 = some m.cls := findClass_of_methodNamed B.named
  have hlocks := B.notSynchronized
  have hl := lv_entry ([.ref (ad (100 + 2 * k)), .int v]) (n := 2) (Nat.le_of_ble_eq_true rfl)
  rw [lg_entry_eq]
  generalize (lg_sl ([.ref (ad (100 + 2 * k)), .int v]) ++ List.replicate (2 - (lg_sl ([.ref (ad (100 + 2 * k)), .int v])).length) Slot.unset).toArray = ls at hl ⊢
  have hl : lv_has ls 2 [(0, .ref (ad (100 + 2 * k))), (1, .int v)] := hl
  have hin1 := hin1_X0_goesAs
  have hin2 := hin2_X0_goesAs
  have hin3 := hin3_X0_goesAs
  have hn := hok.1
  obtain ⟨pk, hpk, epk⟩ := (hok.2.2.1 k hk).2.1
  refine lv_aload_n hx hb dX0_goesAs_0 rfl (lv_at hl 0 rfl) ?_
  refine cy_getSort hx hb hts hin1 hin2 hin3 hown hK hI hk (hts (.fieldLink RX0 15 "CustomsYard$Load" "sort" "I") (by decide +kernel)) (fun _ h9 => h9) dX0_goesAs_1 ?_
  rcases cy_sw5_11 (σ.1 1 k) with w1 | w1 | w1 | w1 | w1 | w1 | w1 | ⟨w1, w1n5, w1n6, w1n7, w1n8, w1n9, w1n10, w1n11⟩
  · refine lv_tableIn (off := 44) (tgt := 48) hx hb dX0_goesAs_4 (by rw [w1]; decide) (by rw [w1]; decide) (by rw [w1]; rfl) (by decide) ?_
    refine lv_iload_n hx hb dX0_goesAs_48 rfl (lv_at hl 1 rfl) ?_
    refine lv_iconst (v := 5) hx hb dX0_goesAs_49 (by decide) ?_
    refine lv_icmp_eq (tgt := 64) hx hb dX0_goesAs_50 (by decide) (fun h2 => ?_) (fun h2 => ?_)
    · refine lv_iconst (v := 1) hx hb dX0_goesAs_64 (by decide) ?_
      refine lv_goto (tgt := 69) hx hb dX0_goesAs_65 (by decide) ?_
      exact W.zret (v := 1) hx hb hr (rfl) (fun t ht hW => ⟨congrArg (fun q => Outcome.returned (some (Value.int q))) (by (try rw [w1] at h2); rw [cy_go_c]; simp [cy_b, w1, h2]), ht⟩) (fun q h => by cases h) dX0_goesAs_69
    · refine lv_iload_n hx hb dX0_goesAs_53 rfl (lv_at hl 1 rfl) ?_
      refine lv_iconst (v := 4) hx hb dX0_goesAs_54 (by decide) ?_
      refine lv_icmp_eq (tgt := 64) hx hb dX0_goesAs_55 (by decide) (fun h3 => ?_) (fun h3 => ?_)
      · refine lv_iconst (v := 1) hx hb dX0_goesAs_64 (by decide) ?_
        refine lv_goto (tgt := 69) hx hb dX0_goesAs_65 (by decide) ?_
        exact W.zret (v := 1) hx hb hr (rfl) (fun t ht hW => ⟨congrArg (fun q => Outcome.returned (some (Value.int q))) (by (try rw [w1] at h2); (try rw [w1] at h3); rw [cy_go_c]; simp [cy_b, w1, h2, h3]), ht⟩) (fun q h => by cases h) dX0_goesAs_69
      · refine lv_iload_n hx hb dX0_goesAs_58 rfl (lv_at hl 1 rfl) ?_
        refine lv_bipush (v := 13) hx hb dX0_goesAs_59 (by decide) ?_
        refine lv_icmp_ne (tgt := 68) hx hb dX0_goesAs_61 (by decide) (fun h4 => ?_) (fun h4 => ?_)
        · refine lv_iconst (v := 0) hx hb dX0_goesAs_68 (by decide) ?_
          exact W.zret (v := 0) hx hb hr (rfl) (fun t ht hW => ⟨congrArg (fun q => Outcome.returned (some (Value.int q))) (by (try rw [w1] at h2); (try rw [w1] at h3); (try rw [w1] at h4); rw [cy_go_c]; simp [cy_b, w1, h2, h3, h4]), ht⟩) (fun q h => by cases h) dX0_goesAs_69
        · refine lv_iconst (v := 1) hx hb dX0_goesAs_64 (by decide) ?_
          refine lv_goto (tgt := 69) hx hb dX0_goesAs_65 (by decide) ?_
          exact W.zret (v := 1) hx hb hr (rfl) (fun t ht hW => ⟨congrArg (fun q => Outcome.returned (some (Value.int q))) (by (try rw [w1] at h2); (try rw [w1] at h3); (try rw [w1] at h4); rw [cy_go_c]; simp [cy_b, w1, h2, h3, h4]), ht⟩) (fun q h => by cases h) dX0_goesAs_69
  · refine lv_tableIn (off := 66) (tgt := 70) hx hb dX0_goesAs_4 (by rw [w1]; decide) (by rw [w1]; decide) (by rw [w1]; rfl) (by decide) ?_
    refine lv_iload_n hx hb dX0_goesAs_70 rfl (lv_at hl 1 rfl) ?_
    refine lv_bipush (v := 6) hx hb dX0_goesAs_71 (by decide) ?_
    refine lv_icmp_eq (tgt := 82) hx hb dX0_goesAs_73 (by decide) (fun h5 => ?_) (fun h5 => ?_)
    · refine lv_iconst (v := 1) hx hb dX0_goesAs_82 (by decide) ?_
      refine lv_goto (tgt := 87) hx hb dX0_goesAs_83 (by decide) ?_
      exact W.zret (v := 1) hx hb hr (rfl) (fun t ht hW => ⟨congrArg (fun q => Outcome.returned (some (Value.int q))) (by (try rw [w1] at h5); rw [cy_go_c]; simp [cy_b, w1, h5]), ht⟩) (fun q h => by cases h) dX0_goesAs_87
    · refine lv_iload_n hx hb dX0_goesAs_76 rfl (lv_at hl 1 rfl) ?_
      refine lv_bipush (v := 13) hx hb dX0_goesAs_77 (by decide) ?_
      refine lv_icmp_ne (tgt := 86) hx hb dX0_goesAs_79 (by decide) (fun h6 => ?_) (fun h6 => ?_)
      · refine lv_iconst (v := 0) hx hb dX0_goesAs_86 (by decide) ?_
        exact W.zret (v := 0) hx hb hr (rfl) (fun t ht hW => ⟨congrArg (fun q => Outcome.returned (some (Value.int q))) (by (try rw [w1] at h5); (try rw [w1] at h6); rw [cy_go_c]; simp [cy_b, w1, h5, h6]), ht⟩) (fun q h => by cases h) dX0_goesAs_87
      · refine lv_iconst (v := 1) hx hb dX0_goesAs_82 (by decide) ?_
        refine lv_goto (tgt := 87) hx hb dX0_goesAs_83 (by decide) ?_
        exact W.zret (v := 1) hx hb hr (rfl) (fun t ht hW => ⟨congrArg (fun q => Outcome.returned (some (Value.int q))) (by (try rw [w1] at h5); (try rw [w1] at h6); rw [cy_go_c]; simp [cy_b, w1, h5, h6]), ht⟩) (fun q h => by cases h) dX0_goesAs_87
  · refine lv_tableIn (off := 132) (tgt := 136) hx hb dX0_goesAs_4 (by rw [w1]; decide) (by rw [w1]; decide) (by rw [w1]; rfl) (by decide) ?_
    refine lv_iload_n hx hb dX0_goesAs_136 rfl (lv_at hl 1 rfl) ?_
    refine lv_aload_n hx hb dX0_goesAs_137 rfl (lv_at hl 0 rfl) ?_
    refine cy_getSort hx hb hts hin1 hin2 hin3 hown hK hI hk (hts (.fieldLink RX0 15 "CustomsYard$Load" "sort" "I") (by decide +kernel)) (fun _ h9 => h9) dX0_goesAs_138 ?_
    refine lv_icmp_ne (tgt := 148) hx hb dX0_goesAs_141 (by decide) (fun h7 => ?_) (fun h7 => ?_)
    · refine lv_iconst (v := 0) hx hb dX0_goesAs_148 (by decide) ?_
      exact W.zret (v := 0) hx hb hr (rfl) (fun t ht hW => ⟨congrArg (fun q => Outcome.returned (some (Value.int q))) (by (try rw [w1] at h7); rw [cy_go_c]; simp [cy_b, w1, h7]), ht⟩) (fun q h => by cases h) dX0_goesAs_149
    · refine lv_iconst (v := 1) hx hb dX0_goesAs_144 (by decide) ?_
      refine lv_goto (tgt := 149) hx hb dX0_goesAs_145 (by decide) ?_
      exact W.zret (v := 1) hx hb hr (rfl) (fun t ht hW => ⟨congrArg (fun q => Outcome.returned (some (Value.int q))) (by (try rw [w1] at h7); rw [cy_go_c]; simp [cy_b, w1, h7]), ht⟩) (fun q h => by cases h) dX0_goesAs_149
  · refine lv_tableIn (off := 84) (tgt := 88) hx hb dX0_goesAs_4 (by rw [w1]; decide) (by rw [w1]; decide) (by rw [w1]; rfl) (by decide) ?_
    refine lv_iload_n hx hb dX0_goesAs_88 rfl (lv_at hl 1 rfl) ?_
    refine lv_bipush (v := 8) hx hb dX0_goesAs_89 (by decide) ?_
    refine lv_icmp_eq (tgt := 106) hx hb dX0_goesAs_91 (by decide) (fun h8 => ?_) (fun h8 => ?_)
    · refine lv_iconst (v := 1) hx hb dX0_goesAs_106 (by decide) ?_
      refine lv_goto (tgt := 111) hx hb dX0_goesAs_107 (by decide) ?_
      exact W.zret (v := 1) hx hb hr (rfl) (fun t ht hW => ⟨congrArg (fun q => Outcome.returned (some (Value.int q))) (by (try rw [w1] at h8); rw [cy_go_c]; simp [cy_b, w1, h8]), ht⟩) (fun q h => by cases h) dX0_goesAs_111
    · refine lv_iload_n hx hb dX0_goesAs_94 rfl (lv_at hl 1 rfl) ?_
      refine lv_bipush (v := 7) hx hb dX0_goesAs_95 (by decide) ?_
      refine lv_icmp_eq (tgt := 106) hx hb dX0_goesAs_97 (by decide) (fun h9 => ?_) (fun h9 => ?_)
      · refine lv_iconst (v := 1) hx hb dX0_goesAs_106 (by decide) ?_
        refine lv_goto (tgt := 111) hx hb dX0_goesAs_107 (by decide) ?_
        exact W.zret (v := 1) hx hb hr (rfl) (fun t ht hW => ⟨congrArg (fun q => Outcome.returned (some (Value.int q))) (by (try rw [w1] at h8); (try rw [w1] at h9); rw [cy_go_c]; simp [cy_b, w1, h8, h9]), ht⟩) (fun q h => by cases h) dX0_goesAs_111
      · refine lv_iload_n hx hb dX0_goesAs_100 rfl (lv_at hl 1 rfl) ?_
        refine lv_bipush (v := 9) hx hb dX0_goesAs_101 (by decide) ?_
        refine lv_icmp_ne (tgt := 110) hx hb dX0_goesAs_103 (by decide) (fun h10 => ?_) (fun h10 => ?_)
        · refine lv_iconst (v := 0) hx hb dX0_goesAs_110 (by decide) ?_
          exact W.zret (v := 0) hx hb hr (rfl) (fun t ht hW => ⟨congrArg (fun q => Outcome.returned (some (Value.int q))) (by (try rw [w1] at h8); (try rw [w1] at h9); (try rw [w1] at h10); rw [cy_go_c]; simp [cy_b, w1, h8, h9, h10]), ht⟩) (fun q h => by cases h) dX0_goesAs_111
        · refine lv_iconst (v := 1) hx hb dX0_goesAs_106 (by decide) ?_
          refine lv_goto (tgt := 111) hx hb dX0_goesAs_107 (by decide) ?_
          exact W.zret (v := 1) hx hb hr (rfl) (fun t ht hW => ⟨congrArg (fun q => Outcome.returned (some (Value.int q))) (by (try rw [w1] at h8); (try rw [w1] at h9); (try rw [w1] at h10); rw [cy_go_c]; simp [cy_b, w1, h8, h9, h10]), ht⟩) (fun q h => by cases h) dX0_goesAs_111
  · refine lv_tableIn (off := 132) (tgt := 136) hx hb dX0_goesAs_4 (by rw [w1]; decide) (by rw [w1]; decide) (by rw [w1]; rfl) (by decide) ?_
    refine lv_iload_n hx hb dX0_goesAs_136 rfl (lv_at hl 1 rfl) ?_
    refine lv_aload_n hx hb dX0_goesAs_137 rfl (lv_at hl 0 rfl) ?_
    refine cy_getSort hx hb hts hin1 hin2 hin3 hown hK hI hk (hts (.fieldLink RX0 15 "CustomsYard$Load" "sort" "I") (by decide +kernel)) (fun _ h9 => h9) dX0_goesAs_138 ?_
    refine lv_icmp_ne (tgt := 148) hx hb dX0_goesAs_141 (by decide) (fun h11 => ?_) (fun h11 => ?_)
    · refine lv_iconst (v := 0) hx hb dX0_goesAs_148 (by decide) ?_
      exact W.zret (v := 0) hx hb hr (rfl) (fun t ht hW => ⟨congrArg (fun q => Outcome.returned (some (Value.int q))) (by (try rw [w1] at h11); rw [cy_go_c]; simp [cy_b, w1, h11]), ht⟩) (fun q h => by cases h) dX0_goesAs_149
    · refine lv_iconst (v := 1) hx hb dX0_goesAs_144 (by decide) ?_
      refine lv_goto (tgt := 149) hx hb dX0_goesAs_145 (by decide) ?_
      exact W.zret (v := 1) hx hb hr (rfl) (fun t ht hW => ⟨congrArg (fun q => Outcome.returned (some (Value.int q))) (by (try rw [w1] at h11); rw [cy_go_c]; simp [cy_b, w1, h11]), ht⟩) (fun q h => by cases h) dX0_goesAs_149
  · refine lv_tableIn (off := 132) (tgt := 136) hx hb dX0_goesAs_4 (by rw [w1]; decide) (by rw [w1]; decide) (by rw [w1]; rfl) (by decide) ?_
    refine lv_iload_n hx hb dX0_goesAs_136 rfl (lv_at hl 1 rfl) ?_
    refine lv_aload_n hx hb dX0_goesAs_137 rfl (lv_at hl 0 rfl) ?_
    refine cy_getSort hx hb hts hin1 hin2 hin3 hown hK hI hk (hts (.fieldLink RX0 15 "CustomsYard$Load" "sort" "I") (by decide +kernel)) (fun _ h9 => h9) dX0_goesAs_138 ?_
    refine lv_icmp_ne (tgt := 148) hx hb dX0_goesAs_141 (by decide) (fun h12 => ?_) (fun h12 => ?_)
    · refine lv_iconst (v := 0) hx hb dX0_goesAs_148 (by decide) ?_
      exact W.zret (v := 0) hx hb hr (rfl) (fun t ht hW => ⟨congrArg (fun q => Outcome.returned (some (Value.int q))) (by (try rw [w1] at h12); rw [cy_go_c]; simp [cy_b, w1, h12]), ht⟩) (fun q h => by cases h) dX0_goesAs_149
    · refine lv_iconst (v := 1) hx hb dX0_goesAs_144 (by decide) ?_
      refine lv_goto (tgt := 149) hx hb dX0_goesAs_145 (by decide) ?_
      exact W.zret (v := 1) hx hb hr (rfl) (fun t ht hW => ⟨congrArg (fun q => Outcome.returned (some (Value.int q))) (by (try rw [w1] at h12); rw [cy_go_c]; simp [cy_b, w1, h12]), ht⟩) (fun q h => by cases h) dX0_goesAs_149
  · refine lv_tableIn (off := 108) (tgt := 112) hx hb dX0_goesAs_4 (by rw [w1]; decide) (by rw [w1]; decide) (by rw [w1]; rfl) (by decide) ?_
    refine lv_iload_n hx hb dX0_goesAs_112 rfl (lv_at hl 1 rfl) ?_
    refine lv_bipush (v := 11) hx hb dX0_goesAs_113 (by decide) ?_
    refine lv_icmp_eq (tgt := 130) hx hb dX0_goesAs_115 (by decide) (fun h13 => ?_) (fun h13 => ?_)
    · refine lv_iconst (v := 1) hx hb dX0_goesAs_130 (by decide) ?_
      refine lv_goto (tgt := 135) hx hb dX0_goesAs_131 (by decide) ?_
      exact W.zret (v := 1) hx hb hr (rfl) (fun t ht hW => ⟨congrArg (fun q => Outcome.returned (some (Value.int q))) (by (try rw [w1] at h13); rw [cy_go_c]; simp [cy_b, w1, h13]), ht⟩) (fun q h => by cases h) dX0_goesAs_135
    · refine lv_iload_n hx hb dX0_goesAs_118 rfl (lv_at hl 1 rfl) ?_
      refine lv_bipush (v := 10) hx hb dX0_goesAs_119 (by decide) ?_
      refine lv_icmp_eq (tgt := 130) hx hb dX0_goesAs_121 (by decide) (fun h14 => ?_) (fun h14 => ?_)
      · refine lv_iconst (v := 1) hx hb dX0_goesAs_130 (by decide) ?_
        refine lv_goto (tgt := 135) hx hb dX0_goesAs_131 (by decide) ?_
        exact W.zret (v := 1) hx hb hr (rfl) (fun t ht hW => ⟨congrArg (fun q => Outcome.returned (some (Value.int q))) (by (try rw [w1] at h13); (try rw [w1] at h14); rw [cy_go_c]; simp [cy_b, w1, h13, h14]), ht⟩) (fun q h => by cases h) dX0_goesAs_135
      · refine lv_iload_n hx hb dX0_goesAs_124 rfl (lv_at hl 1 rfl) ?_
        refine lv_bipush (v := 12) hx hb dX0_goesAs_125 (by decide) ?_
        refine lv_icmp_ne (tgt := 134) hx hb dX0_goesAs_127 (by decide) (fun h15 => ?_) (fun h15 => ?_)
        · refine lv_iconst (v := 0) hx hb dX0_goesAs_134 (by decide) ?_
          exact W.zret (v := 0) hx hb hr (rfl) (fun t ht hW => ⟨congrArg (fun q => Outcome.returned (some (Value.int q))) (by (try rw [w1] at h13); (try rw [w1] at h14); (try rw [w1] at h15); rw [cy_go_c]; simp [cy_b, w1, h13, h14, h15]), ht⟩) (fun q h => by cases h) dX0_goesAs_135
        · refine lv_iconst (v := 1) hx hb dX0_goesAs_130 (by decide) ?_
          refine lv_goto (tgt := 135) hx hb dX0_goesAs_131 (by decide) ?_
          exact W.zret (v := 1) hx hb hr (rfl) (fun t ht hW => ⟨congrArg (fun q => Outcome.returned (some (Value.int q))) (by (try rw [w1] at h13); (try rw [w1] at h14); (try rw [w1] at h15); rw [cy_go_c]; simp [cy_b, w1, h13, h14, h15]), ht⟩) (fun q h => by cases h) dX0_goesAs_135
  · refine lv_tableOut (tgt := 136) hx hb dX0_goesAs_4 w1 (by decide) ?_
    refine lv_iload_n hx hb dX0_goesAs_136 rfl (lv_at hl 1 rfl) ?_
    refine lv_aload_n hx hb dX0_goesAs_137 rfl (lv_at hl 0 rfl) ?_
    refine cy_getSort hx hb hts hin1 hin2 hin3 hown hK hI hk (hts (.fieldLink RX0 15 "CustomsYard$Load" "sort" "I") (by decide +kernel)) (fun _ h9 => h9) dX0_goesAs_138 ?_
    refine lv_icmp_ne (tgt := 148) hx hb dX0_goesAs_141 (by decide) (fun h16 => ?_) (fun h16 => ?_)
    · refine lv_iconst (v := 0) hx hb dX0_goesAs_148 (by decide) ?_
      exact W.zret (v := 0) hx hb hr (rfl) (fun t ht hW => ⟨congrArg (fun q => Outcome.returned (some (Value.int q))) (by rw [cy_go_c]; simp [cy_b, w1n5, w1n6, w1n7, w1n8, w1n9, w1n10, w1n11, h16]), ht⟩) (fun q h => by cases h) dX0_goesAs_149
    · refine lv_iconst (v := 1) hx hb dX0_goesAs_144 (by decide) ?_
      refine lv_goto (tgt := 149) hx hb dX0_goesAs_145 (by decide) ?_
      exact W.zret (v := 1) hx hb hr (rfl) (fun t ht hW => ⟨congrArg (fun q => Outcome.returned (some (Value.int q))) (by rw [cy_go_c]; simp [cy_b, w1n5, w1n6, w1n7, w1n8, w1n9, w1n10, w1n11, h16]), ht⟩) (fun q h => by cases h) dX0_goesAs_149

set_option maxHeartbeats 4000000 in
set_option maxRecDepth 100000 in
theorem c_X1_hasPlace (l : Launch) (D : va_G) (cI cJ cO : ClassId) (z n : Nat) (σ τ : cy_S) (pl : Nat → Int32) (hi : Int32) (ad : Nat → Nat) (hok : cy_ok n σ) (k : Nat) (hk : k < n) (kdk : cy_kd (σ.1 1 k) = 0) (v : Int32)  : Met l yX1_hasPlace wsX1_hasPlace { frames := 0, cells := 0, slots := 0, locals := 0 } (cy_P D cI cJ cO (fun H => cy_W D z (cy_CT cI cJ cO n n σ τ pl hi ad) ad H) [.ref (ad (100 + 2 * k)), .int v]) (cy_Q (.int (cy_b (cy_pl (σ.1 2 k) v)))) 0 0 (fun _ => False) := by
  refine Met.ofW (cc := cX1_hasPlace) (maxL := 2) (ret := (some .boolean)) (by decide) rfl ?_
  intro p e s m args below meth c s₁ B hml hv
  obtain ⟨rfl, hK, hI⟩ := hv
  have hx := B.exec
  have hb := B.bytes
  have hr := B.returns
  have hts := atoms_spec (ws := wsX1_hasPlace) B.pre
  have hown : s.vm.findClass RX1 = some m.cls := findClass_of_methodNamed B.named
  have hlocks := B.notSynchronized
  have hl := lv_entry ([.ref (ad (100 + 2 * k)), .int v]) (n := 2) (Nat.le_of_ble_eq_true rfl)
  rw [lg_entry_eq]
  generalize (lg_sl ([.ref (ad (100 + 2 * k)), .int v]) ++ List.replicate (2 - (lg_sl ([.ref (ad (100 + 2 * k)), .int v])).length) Slot.unset).toArray = ls at hl ⊢
  have hl : lv_has ls 2 [(0, .ref (ad (100 + 2 * k))), (1, .int v)] := hl
  have hin1 := hin1_X1_hasPlace
  have hn := hok.1
  obtain ⟨pk, hpk, epk⟩ := (hok.2.2.1 k hk).2.1
  refine lv_iload_n hx hb dX1_hasPlace_0 rfl (lv_at hl 1 rfl) ?_
  refine lv_if_lt (tgt := 17) hx hb dX1_hasPlace_1 (by decide) (fun h1 => ?_) (fun h1 => ?_)
  · refine lv_iconst (v := 0) hx hb dX1_hasPlace_17 (by decide) ?_
    exact W.zret (v := 0) hx hb hr (rfl) (fun t ht hW => ⟨congrArg (fun q => Outcome.returned (some (Value.int q))) (by rw [epk, cy_pl_c hpk]; simp [cy_b, h1]), ht⟩) (fun q h => by cases h) dX1_hasPlace_18
  · refine lv_iload_n hx hb dX1_hasPlace_4 rfl (lv_at hl 1 rfl) ?_
    refine lv_aload_n hx hb dX1_hasPlace_5 rfl (lv_at hl 0 rfl) ?_
    refine cy_getNp hx hb hts hin1 hown hK hI hk kdk (hts (.fieldLink RX1 7 "CustomsYard$Numbers" "places" "[J") (by decide +kernel)) dX1_hasPlace_6 ?_
    refine cy_alenL hx hb hK hI hk (Or.inl kdk) hpk epk dX1_hasPlace_9 ?_
    refine lv_icmp_ge (tgt := 17) hx hb dX1_hasPlace_10 (by decide) (fun h2 => ?_) (fun h2 => ?_)
    · refine lv_iconst (v := 0) hx hb dX1_hasPlace_17 (by decide) ?_
      exact W.zret (v := 0) hx hb hr (rfl) (fun t ht hW => ⟨congrArg (fun q => Outcome.returned (some (Value.int q))) (by rw [epk, cy_pl_c hpk]; simp [cy_b, h1, h2]), ht⟩) (fun q h => by cases h) dX1_hasPlace_18
    · refine lv_iconst (v := 1) hx hb dX1_hasPlace_13 (by decide) ?_
      refine lv_goto (tgt := 18) hx hb dX1_hasPlace_14 (by decide) ?_
      exact W.zret (v := 1) hx hb hr (rfl) (fun t ht hW => ⟨congrArg (fun q => Outcome.returned (some (Value.int q))) (by rw [epk, cy_pl_c hpk]; simp [cy_b, h1, h2]), ht⟩) (fun q h => by cases h) dX1_hasPlace_18

set_option maxHeartbeats 4000000 in
set_option maxRecDepth 100000 in
theorem c_X1_comesAs (l : Launch) (D : va_G) (cI cJ cO : ClassId) (z n : Nat) (σ τ : cy_S) (pl : Nat → Int32) (hi : Int32) (ad : Nat → Nat) (hok : cy_ok n σ) (k : Nat) (hk : k < n) (kdk : cy_kd (σ.1 1 k) = 0) (sgk : cy_sg (σ.1 1 k) = false) (v : Int32)  : Met l yX1_comesAs wsX1_comesAs { frames := 0, cells := 0, slots := 0, locals := 0 } (cy_P D cI cJ cO (fun H => cy_W D z (cy_CT cI cJ cO n n σ τ pl hi ad) ad H) [.ref (ad (100 + 2 * k)), .int v]) (cy_Q (.int (cy_co σ k v))) 0 0 (fun _ => False) := by
  refine Met.ofW (cc := cX1_comesAs) (maxL := 2) (ret := (some .int)) (by decide) rfl ?_
  intro p e s m args below meth c s₁ B hml hv
  obtain ⟨rfl, hK, hI⟩ := hv
  have hx := B.exec
  have hb := B.bytes
  have hr := B.returns
  have hts := atoms_spec (ws := wsX1_comesAs) B.pre
  have hown : s.vm.findClass RX1 = some m.cls := findClass_of_methodNamed B.named
  have hlocks := B.notSynchronized
  have hl := lv_entry ([.ref (ad (100 + 2 * k)), .int v]) (n := 2) (Nat.le_of_ble_eq_true rfl)
  rw [lg_entry_eq]
  generalize (lg_sl ([.ref (ad (100 + 2 * k)), .int v]) ++ List.replicate (2 - (lg_sl ([.ref (ad (100 + 2 * k)), .int v])).length) Slot.unset).toArray = ls at hl ⊢
  have hl : lv_has ls 2 [(0, .ref (ad (100 + 2 * k))), (1, .int v)] := hl
  have hin1 := hin1_X1_comesAs
  have hn := hok.1
  obtain ⟨pk, hpk, epk⟩ := (hok.2.2.1 k hk).2.1
  refine lv_aload_n hx hb dX1_comesAs_0 rfl (lv_at hl 0 rfl) ?_
  refine cy_getNp hx hb hts hin1 hown hK hI hk kdk (hts (.fieldLink RX1 7 "CustomsYard$Numbers" "places" "[J") (by decide +kernel)) dX1_comesAs_1 ?_
  refine cy_alenL hx hb hK hI hk (Or.inl kdk) hpk epk dX1_comesAs_4 ?_
  exact W.iret (v := nI pk) hx hb hr (fun t ht hW => ⟨congrArg (fun q => Outcome.returned (some (Value.int q))) (by unfold cy_co; rw [if_pos sgk, epk]), ht⟩) (fun q h => by cases h) dX1_comesAs_5

set_option maxHeartbeats 4000000 in
set_option maxRecDepth 100000 in
theorem c_X3_hasPlace (l : Launch) (D : va_G) (cI cJ cO : ClassId) (z n : Nat) (σ τ : cy_S) (pl : Nat → Int32) (hi : Int32) (ad : Nat → Nat) (hok : cy_ok n σ) (k : Nat) (hk : k < n) (kdk : cy_kd (σ.1 1 k) = 2) (v : Int32)  : Met l yX3_hasPlace wsX3_hasPlace { frames := 0, cells := 0, slots := 0, locals := 0 } (cy_P D cI cJ cO (fun H => cy_W D z (cy_CT cI cJ cO n n σ τ pl hi ad) ad H) [.ref (ad (100 + 2 * k)), .int v]) (cy_Q (.int (cy_b (cy_pl (σ.1 2 k) v)))) 0 0 (fun _ => False) := by
  refine Met.ofW (cc := cX3_hasPlace) (maxL := 2) (ret := (some .boolean)) (by decide) rfl ?_
  intro p e s m args below meth c s₁ B hml hv
  obtain ⟨rfl, hK, hI⟩ := hv
  have hx := B.exec
  have hb := B.bytes
  have hr := B.returns
  have hts := atoms_spec (ws := wsX3_hasPlace) B.pre
  have hown : s.vm.findClass RX3 = some m.cls := findClass_of_methodNamed B.named
  have hlocks := B.notSynchronized
  have hl := lv_entry ([.ref (ad (100 + 2 * k)), .int v]) (n := 2) (Nat.le_of_ble_eq_true rfl)
  rw [lg_entry_eq]
  generalize (lg_sl ([.ref (ad (100 + 2 * k)), .int v]) ++ List.replicate (2 - (lg_sl ([.ref (ad (100 + 2 * k)), .int v])).length) Slot.unset).toArray = ls at hl ⊢
  have hl : lv_has ls 2 [(0, .ref (ad (100 + 2 * k))), (1, .int v)] := hl
  have hin3 := hin3_X3_hasPlace
  have hn := hok.1
  obtain ⟨pk, hpk, epk⟩ := (hok.2.2.1 k hk).2.1
  refine lv_iload_n hx hb dX3_hasPlace_0 rfl (lv_at hl 1 rfl) ?_
  refine lv_if_lt (tgt := 17) hx hb dX3_hasPlace_1 (by decide) (fun h1 => ?_) (fun h1 => ?_)
  · refine lv_iconst (v := 0) hx hb dX3_hasPlace_17 (by decide) ?_
    exact W.zret (v := 0) hx hb hr (rfl) (fun t ht hW => ⟨congrArg (fun q => Outcome.returned (some (Value.int q))) (by rw [epk, cy_pl_c hpk]; simp [cy_b, h1]), ht⟩) (fun q h => by cases h) dX3_hasPlace_18
  · refine lv_iload_n hx hb dX3_hasPlace_4 rfl (lv_at hl 1 rfl) ?_
    refine lv_aload_n hx hb dX3_hasPlace_5 rfl (lv_at hl 0 rfl) ?_
    refine cy_getTp hx hb hts hin3 hown hK hI hk kdk (hts (.fieldLink RX3 9 "CustomsYard$Things" "places" "[LCustomsYard$Load;") (by decide +kernel)) dX3_hasPlace_6 ?_
    refine cy_alenL hx hb hK hI hk (Or.inr kdk) hpk epk dX3_hasPlace_9 ?_
    refine lv_icmp_ge (tgt := 17) hx hb dX3_hasPlace_10 (by decide) (fun h2 => ?_) (fun h2 => ?_)
    · refine lv_iconst (v := 0) hx hb dX3_hasPlace_17 (by decide) ?_
      exact W.zret (v := 0) hx hb hr (rfl) (fun t ht hW => ⟨congrArg (fun q => Outcome.returned (some (Value.int q))) (by rw [epk, cy_pl_c hpk]; simp [cy_b, h1, h2]), ht⟩) (fun q h => by cases h) dX3_hasPlace_18
    · refine lv_iconst (v := 1) hx hb dX3_hasPlace_13 (by decide) ?_
      refine lv_goto (tgt := 18) hx hb dX3_hasPlace_14 (by decide) ?_
      exact W.zret (v := 1) hx hb hr (rfl) (fun t ht hW => ⟨congrArg (fun q => Outcome.returned (some (Value.int q))) (by rw [epk, cy_pl_c hpk]; simp [cy_b, h1, h2]), ht⟩) (fun q h => by cases h) dX3_hasPlace_18

set_option maxHeartbeats 4000000 in
set_option maxRecDepth 100000 in
theorem c_X3_comesAs (l : Launch) (D : va_G) (cI cJ cO : ClassId) (z n : Nat) (σ τ : cy_S) (pl : Nat → Int32) (hi : Int32) (ad : Nat → Nat) (hok : cy_ok n σ) (k : Nat) (hk : k < n) (kdk : cy_kd (σ.1 1 k) = 2) (sgk : cy_sg (σ.1 1 k) = false) (v : Int32)  : Met l yX3_comesAs wsX3_comesAs { frames := 0, cells := 0, slots := 0, locals := 0 } (cy_P D cI cJ cO (fun H => cy_W D z (cy_CT cI cJ cO n n σ τ pl hi ad) ad H) [.ref (ad (100 + 2 * k)), .int v]) (cy_Q (.int (cy_co σ k v))) 0 0 (fun _ => False) := by
  refine Met.ofW (cc := cX3_comesAs) (maxL := 2) (ret := (some .int)) (by decide) rfl ?_
  intro p e s m args below meth c s₁ B hml hv
  obtain ⟨rfl, hK, hI⟩ := hv
  have hx := B.exec
  have hb := B.bytes
  have hr := B.returns
  have hts := atoms_spec (ws := wsX3_comesAs) B.pre
  have hown : s.vm.findClass RX3 = some m.cls := findClass_of_methodNamed B.named
  have hlocks := B.notSynchronized
  have hl := lv_entry ([.ref (ad (100 + 2 * k)), .int v]) (n := 2) (Nat.le_of_ble_eq_true rfl)
  rw [lg_entry_eq]
  generalize (lg_sl ([.ref (ad (100 + 2 * k)), .int v]) ++ List.replicate (2 - (lg_sl ([.ref (ad (100 + 2 * k)), .int v])).length) Slot.unset).toArray = ls at hl ⊢
  have hl : lv_has ls 2 [(0, .ref (ad (100 + 2 * k))), (1, .int v)] := hl
  have hin3 := hin3_X3_comesAs
  have hn := hok.1
  obtain ⟨pk, hpk, epk⟩ := (hok.2.2.1 k hk).2.1
  refine lv_aload_n hx hb dX3_comesAs_0 rfl (lv_at hl 0 rfl) ?_
  refine cy_getTp hx hb hts hin3 hown hK hI hk kdk (hts (.fieldLink RX3 9 "CustomsYard$Things" "places" "[LCustomsYard$Load;") (by decide +kernel)) dX3_comesAs_1 ?_
  refine cy_alenL hx hb hK hI hk (Or.inr kdk) hpk epk dX3_comesAs_4 ?_
  exact W.iret (v := nI pk) hx hb hr (fun t ht hW => ⟨congrArg (fun q => Outcome.returned (some (Value.int q))) (by unfold cy_co; rw [if_pos sgk, epk]), ht⟩) (fun q h => by cases h) dX3_comesAs_5

set_option maxHeartbeats 4000000 in
set_option maxRecDepth 100000 in
theorem c_X2_declaration (l : Launch) (D : va_G) (cI cJ cO : ClassId) (z n : Nat) (σ τ : cy_S) (pl : Nat → Int32) (hi : Int32) (ad : Nat → Nat) (hok : cy_ok n σ) (k : Nat) (hk : k < n) (kdk : cy_kd (σ.1 1 k) = 1)  : Met l yX2_declaration wsX2_declaration { frames := 0, cells := 0, slots := 0, locals := 0 } (cy_P D cI cJ cO (fun H => cy_W D z (cy_CT cI cJ cO n n σ τ pl hi ad) ad H) [.ref (ad (100 + 2 * k))]) (cy_Q (.int (if σ.1 1 k = 5 then σ.1 3 k + 1000 else 2 * σ.1 3 k))) 0 0 (fun _ => False) := by
  refine Met.ofW (cc := cX2_declaration) (maxL := 1) (ret := (some .int)) (by decide) rfl ?_
  intro p e s m args below meth c s₁ B hml hv
  obtain ⟨rfl, hK, hI⟩ := hv
  have hx := B.exec
  have hb := B.bytes
  have hr := B.returns
  have hts := atoms_spec (ws := wsX2_declaration) B.pre
  have hown : s.vm.findClass RX2 = some m.cls := findClass_of_methodNamed B.named
  have hlocks := B.notSynchronized
  have hl := lv_entry ([.ref (ad (100 + 2 * k))]) (n := 1) (Nat.le_of_ble_eq_true rfl)
  rw [lg_entry_eq]
  generalize (lg_sl ([.ref (ad (100 + 2 * k))]) ++ List.replicate (1 - (lg_sl ([.ref (ad (100 + 2 * k))])).length) Slot.unset).toArray = ls at hl ⊢
  have hl : lv_has ls 1 [(0, .ref (ad (100 + 2 * k)))] := hl
  have hin1 := hin1_X2_declaration
  have hin2 := hin2_X2_declaration
  have hin3 := hin3_X2_declaration
  have hn := hok.1
  obtain ⟨pk, hpk, epk⟩ := (hok.2.2.1 k hk).2.1
  refine lv_aload_n hx hb dX2_declaration_0 rfl (lv_at hl 0 rfl) ?_
  refine cy_getSort hx hb hts hin1 hin2 hin3 hown hK hI hk (hts (.fieldLink RX2 19 "CustomsYard$Piece" "sort" "I") (by decide +kernel)) (fun x h9 => u_same (hts (.sameField "CustomsYard$Piece" "CustomsYard$Load" "sort" "I") (by decide +kernel)) x h9) dX2_declaration_1 ?_
  refine lv_iconst (v := 5) hx hb dX2_declaration_4 (by decide) ?_
  refine lv_icmp_ne (tgt := 19) hx hb dX2_declaration_5 (by decide) (fun h1 => ?_) (fun h1 => ?_)
  · refine lv_iconst (v := 2) hx hb dX2_declaration_19 (by decide) ?_
    refine lv_aload_n hx hb dX2_declaration_20 rfl (lv_at hl 0 rfl) ?_
    refine cy_getPt hx hb hts hin2 hown hK hI hk kdk (hts (.fieldLink RX2 9 "CustomsYard$Piece" "told" "I") (by decide +kernel)) dX2_declaration_21 ?_
    refine lv_imul hx hb dX2_declaration_24 ?_
    exact W.iret (v := (2 * (σ.1 3 k))) hx hb hr (fun t ht hW => ⟨congrArg (fun q => Outcome.returned (some (Value.int q))) (by simp [h1]), ht⟩) (fun q h => by cases h) dX2_declaration_25
  · refine lv_aload_n hx hb dX2_declaration_8 rfl (lv_at hl 0 rfl) ?_
    refine cy_getPt hx hb hts hin2 hown hK hI hk kdk (hts (.fieldLink RX2 9 "CustomsYard$Piece" "told" "I") (by decide +kernel)) dX2_declaration_9 ?_
    refine lv_sipush (v := 1000) hx hb dX2_declaration_12 (by decide) ?_
    refine lv_iadd hx hb dX2_declaration_15 ?_
    refine lv_goto (tgt := 25) hx hb dX2_declaration_16 (by decide) ?_
    exact W.iret (v := ((σ.1 3 k) + 1000)) hx hb hr (fun t ht hW => ⟨congrArg (fun q => Outcome.returned (some (Value.int q))) (by simp [h1]), ht⟩) (fun q h => by cases h) dX2_declaration_25

set_option maxHeartbeats 4000000 in
set_option maxRecDepth 100000 in
theorem c_X2_comesAs (l : Launch) (D : va_G) (cI cJ cO : ClassId) (z n : Nat) (σ τ : cy_S) (pl : Nat → Int32) (hi : Int32) (ad : Nat → Nat) (hok : cy_ok n σ) (k : Nat) (hk : k < n) (kdk : cy_kd (σ.1 1 k) = 1) (sgk : cy_sg (σ.1 1 k) = true) (v : Int32)  : Met l yX2_comesAs wsX2_comesAs { frames := 1, cells := 0, slots := 0, locals := 20 } (cy_P D cI cJ cO (fun H => cy_W D z (cy_CT cI cJ cO n n σ τ pl hi ad) ad H) [.ref (ad (100 + 2 * k)), .int v]) (cy_Q (.int (cy_co σ k v))) 0 0 (fun _ => False) := by
  refine Met.ofW (cc := cX2_comesAs) (maxL := 2) (ret := (some .int)) (by decide) rfl ?_
  intro p e s m args below meth c s₁ B hml hv
  obtain ⟨rfl, hK, hI⟩ := hv
  have hx := B.exec
  have hb := B.bytes
  have hr := B.returns
  have hts := atoms_spec (ws := wsX2_comesAs) B.pre
  have hown : s.vm.findClass RX2 = some m.cls := findClass_of_methodNamed B.named
  have hlocks := B.notSynchronized
  have hl := lv_entry ([.ref (ad (100 + 2 * k)), .int v]) (n := 2) (Nat.le_of_ble_eq_true rfl)
  rw [lg_entry_eq]
  generalize (lg_sl ([.ref (ad (100 + 2 * k)), .int v]) ++ List.replicate (2 - (lg_sl ([.ref (ad (100 + 2 * k)), .int v])).length) Slot.unset).toArray = ls at hl ⊢
  have hl : lv_has ls 2 [(0, .ref (ad (100 + 2 * k))), (1, .int v)] := hl
  have hin1 := hin1_X2_comesAs
  have hin2 := hin2_X2_comesAs
  have hin3 := hin3_X2_comesAs
  have hn := hok.1
  obtain ⟨pk, hpk, epk⟩ := (hok.2.2.1 k hk).2.1
  refine lv_iload_n hx hb dX2_comesAs_0 rfl (lv_at hl 1 rfl) ?_
  refine lv_bipush (v := 13) hx hb dX2_comesAs_1 (by decide) ?_
  refine lv_icmp_ne (tgt := 13) hx hb dX2_comesAs_3 (by decide) (fun h1 => ?_) (fun h1 => ?_)
  · refine lv_aload_n hx hb dX2_comesAs_13 rfl (lv_at hl 0 rfl) ?_
    refine cy_getPt hx hb hts hin2 hown hK hI hk kdk (hts (.fieldLink RX2 9 "CustomsYard$Piece" "told" "I") (by decide +kernel)) dX2_comesAs_14 ?_
    exact W.iret (v := σ.1 3 k) hx hb hr (fun t ht hW => ⟨congrArg (fun q => Outcome.returned (some (Value.int q))) (by unfold cy_co; simp only [sgk]; simp [h1]), ht⟩) (fun q h => by cases h) dX2_comesAs_17
  · refine lv_aload_n hx hb dX2_comesAs_6 rfl (lv_at hl 0 rfl) ?_
    refine cy_callp (v := .int (if σ.1 1 k = 5 then σ.1 3 k + 1000 else 2 * σ.1 3 k)) (va_runV (As := []) (rest := []) ⟨hx, hb, hml, hown, hts⟩ (c_X2_declaration l D cI cJ cO z n σ τ pl hi ad hok k hk kdk) (cwV 0 hts gX2_comesAs_X2_declaration rfl rfl rfl (by decide +kernel) ⟨Nat.le_of_ble_eq_true rfl, Nat.le_of_ble_eq_true rfl⟩) (cy_preV hK hI (cy_rv1 hK hI hk kdk)) rfl rfl hl.1 rfl (lv_room (Nat.le_of_ble_eq_true rfl)) dX2_comesAs_7 ⟨Nat.le_of_ble_eq_true rfl, Nat.le_of_ble_eq_true rfl⟩) ?_
    refine lv_goto (tgt := 17) hx hb dX2_comesAs_10 (by decide) ?_
    exact W.iret (v := (if σ.1 1 k = 5 then σ.1 3 k + 1000 else 2 * σ.1 3 k)) hx hb hr (fun t ht hW => ⟨congrArg (fun q => Outcome.returned (some (Value.int q))) (by unfold cy_co; simp only [sgk]; simp [h1]), ht⟩) (fun q h => by cases h) dX2_comesAs_17

set_option maxHeartbeats 4000000 in
set_option maxRecDepth 100000 in
theorem c_X3_viewAsked (l : Launch) (D : va_G) (cI cJ cO : ClassId) (z n : Nat) (σ τ : cy_S) (pl : Nat → Int32) (hi : Int32) (ad : Nat → Nat) (hok : cy_ok n σ) (k : Nat) (hk : k < n) (kdk : cy_kd (σ.1 1 k) = 2)  : Met l yX3_viewAsked wsX3_viewAsked { frames := 0, cells := 0, slots := 0, locals := 0 } (cy_P D cI cJ cO (fun H => cy_W D z (cy_CT cI cJ cO n n σ τ pl hi ad) ad H) [.ref (ad (100 + 2 * k))]) (cy_Q (.int (cy_va (σ.1 1 k)))) 0 0 (fun _ => False) := by
  refine Met.ofW (cc := cX3_viewAsked) (maxL := 1) (ret := (some .int)) (by decide) rfl ?_
  intro p e s m args below meth c s₁ B hml hv
  obtain ⟨rfl, hK, hI⟩ := hv
  have hx := B.exec
  have hb := B.bytes
  have hr := B.returns
  have hts := atoms_spec (ws := wsX3_viewAsked) B.pre
  have hown : s.vm.findClass RX3 = some m.cls := findClass_of_methodNamed B.named
  have hlocks := B.notSynchronized
  have hl := lv_entry ([.ref (ad (100 + 2 * k))]) (n := 1) (Nat.le_of_ble_eq_true rfl)
  rw [lg_entry_eq]
  generalize (lg_sl ([.ref (ad (100 + 2 * k))]) ++ List.replicate (1 - (lg_sl ([.ref (ad (100 + 2 * k))])).length) Slot.unset).toArray = ls at hl ⊢
  have hl : lv_has ls 1 [(0, .ref (ad (100 + 2 * k)))] := hl
  have hin1 := hin1_X3_viewAsked
  have hin2 := hin2_X3_viewAsked
  have hin3 := hin3_X3_viewAsked
  have hn := hok.1
  obtain ⟨pk, hpk, epk⟩ := (hok.2.2.1 k hk).2.1
  refine lv_aload_n hx hb dX3_viewAsked_0 rfl (lv_at hl 0 rfl) ?_
  refine cy_getSort hx hb hts hin1 hin2 hin3 hown hK hI hk (hts (.fieldLink RX3 15 "CustomsYard$Things" "sort" "I") (by decide +kernel)) (fun x h9 => u_same (hts (.sameField "CustomsYard$Things" "CustomsYard$Load" "sort" "I") (by decide +kernel)) x h9) dX3_viewAsked_1 ?_
  rcases cy_sw3_11 (σ.1 1 k) with w1 | w1 | w1 | w1 | w1 | w1 | w1 | w1 | w1 | ⟨w1, w1n3, w1n4, w1n5, w1n6, w1n7, w1n8, w1n9, w1n10, w1n11⟩
  · refine lv_tableIn (off := 52) (tgt := 56) hx hb dX3_viewAsked_4 (by rw [w1]; decide) (by rw [w1]; decide) (by rw [w1]; rfl) (by decide) ?_
    refine lv_iconst (v := 0) hx hb dX3_viewAsked_56 (by decide) ?_
    exact W.iret (v := 0) hx hb hr (fun t ht hW => ⟨congrArg (fun q => Outcome.returned (some (Value.int q))) (by simp [cy_va, w1]), ht⟩) (fun q h => by cases h) dX3_viewAsked_57
  · refine lv_tableIn (off := 62) (tgt := 66) hx hb dX3_viewAsked_4 (by rw [w1]; decide) (by rw [w1]; decide) (by rw [w1]; rfl) (by decide) ?_
    refine lv_bipush (v := 9) hx hb dX3_viewAsked_66 (by decide) ?_
    exact W.iret (v := 9) hx hb hr (fun t ht hW => ⟨congrArg (fun q => Outcome.returned (some (Value.int q))) (by simp [cy_va, w1]), ht⟩) (fun q h => by cases h) dX3_viewAsked_68
  · refine lv_tableIn (off := 62) (tgt := 66) hx hb dX3_viewAsked_4 (by rw [w1]; decide) (by rw [w1]; decide) (by rw [w1]; rfl) (by decide) ?_
    refine lv_bipush (v := 9) hx hb dX3_viewAsked_66 (by decide) ?_
    exact W.iret (v := 9) hx hb hr (fun t ht hW => ⟨congrArg (fun q => Outcome.returned (some (Value.int q))) (by simp [cy_va, w1]), ht⟩) (fun q h => by cases h) dX3_viewAsked_68
  · refine lv_tableIn (off := 62) (tgt := 66) hx hb dX3_viewAsked_4 (by rw [w1]; decide) (by rw [w1]; decide) (by rw [w1]; rfl) (by decide) ?_
    refine lv_bipush (v := 9) hx hb dX3_viewAsked_66 (by decide) ?_
    exact W.iret (v := 9) hx hb hr (fun t ht hW => ⟨congrArg (fun q => Outcome.returned (some (Value.int q))) (by simp [cy_va, w1]), ht⟩) (fun q h => by cases h) dX3_viewAsked_68
  · refine lv_tableIn (off := 54) (tgt := 58) hx hb dX3_viewAsked_4 (by rw [w1]; decide) (by rw [w1]; decide) (by rw [w1]; rfl) (by decide) ?_
    refine lv_iconst (v := 4) hx hb dX3_viewAsked_58 (by decide) ?_
    exact W.iret (v := 4) hx hb hr (fun t ht hW => ⟨congrArg (fun q => Outcome.returned (some (Value.int q))) (by simp [cy_va, w1]), ht⟩) (fun q h => by cases h) dX3_viewAsked_59
  · refine lv_tableIn (off := 54) (tgt := 58) hx hb dX3_viewAsked_4 (by rw [w1]; decide) (by rw [w1]; decide) (by rw [w1]; rfl) (by decide) ?_
    refine lv_iconst (v := 4) hx hb dX3_viewAsked_58 (by decide) ?_
    exact W.iret (v := 4) hx hb hr (fun t ht hW => ⟨congrArg (fun q => Outcome.returned (some (Value.int q))) (by simp [cy_va, w1]), ht⟩) (fun q h => by cases h) dX3_viewAsked_59
  · refine lv_tableIn (off := 56) (tgt := 60) hx hb dX3_viewAsked_4 (by rw [w1]; decide) (by rw [w1]; decide) (by rw [w1]; rfl) (by decide) ?_
    refine lv_bipush (v := 13) hx hb dX3_viewAsked_60 (by decide) ?_
    exact W.iret (v := 13) hx hb hr (fun t ht hW => ⟨congrArg (fun q => Outcome.returned (some (Value.int q))) (by simp [cy_va, w1]), ht⟩) (fun q h => by cases h) dX3_viewAsked_62
  · refine lv_tableIn (off := 59) (tgt := 63) hx hb dX3_viewAsked_4 (by rw [w1]; decide) (by rw [w1]; decide) (by rw [w1]; rfl) (by decide) ?_
    refine lv_bipush (v := 7) hx hb dX3_viewAsked_63 (by decide) ?_
    exact W.iret (v := 7) hx hb hr (fun t ht hW => ⟨congrArg (fun q => Outcome.returned (some (Value.int q))) (by simp [cy_va, w1]), ht⟩) (fun q h => by cases h) dX3_viewAsked_65
  · refine lv_tableIn (off := 59) (tgt := 63) hx hb dX3_viewAsked_4 (by rw [w1]; decide) (by rw [w1]; decide) (by rw [w1]; rfl) (by decide) ?_
    refine lv_bipush (v := 7) hx hb dX3_viewAsked_63 (by decide) ?_
    exact W.iret (v := 7) hx hb hr (fun t ht hW => ⟨congrArg (fun q => Outcome.returned (some (Value.int q))) (by simp [cy_va, w1]), ht⟩) (fun q h => by cases h) dX3_viewAsked_65
  · refine lv_tableOut (tgt := 66) hx hb dX3_viewAsked_4 w1 (by decide) ?_
    refine lv_bipush (v := 9) hx hb dX3_viewAsked_66 (by decide) ?_
    exact W.iret (v := 9) hx hb hr (fun t ht hW => ⟨congrArg (fun q => Outcome.returned (some (Value.int q))) (by simp [cy_va, w1n3, w1n4, w1n5, w1n6, w1n7, w1n8, w1n9, w1n10, w1n11]), ht⟩) (fun q h => by cases h) dX3_viewAsked_68

set_option maxHeartbeats 4000000 in
set_option maxRecDepth 100000 in
theorem c_X3_viewKept (l : Launch) (D : va_G) (cI cJ cO : ClassId) (z n : Nat) (σ τ : cy_S) (pl : Nat → Int32) (hi : Int32) (ad : Nat → Nat) (hok : cy_ok n σ) (k : Nat) (hk : k < n) (kdk : cy_kd (σ.1 1 k) = 2)  : Met l yX3_viewKept wsX3_viewKept { frames := 1, cells := 0, slots := 0, locals := 20 } (cy_P D cI cJ cO (fun H => cy_W D z (cy_CT cI cJ cO n n σ τ pl hi ad) ad H) [.ref (ad (100 + 2 * k))]) (cy_Q (.int (cy_vk (σ.1 1 k)))) 0 0 (fun _ => False) := by
  refine Met.ofW (cc := cX3_viewKept) (maxL := 1) (ret := (some .int)) (by decide) rfl ?_
  intro p e s m args below meth c s₁ B hml hv
  obtain ⟨rfl, hK, hI⟩ := hv
  have hx := B.exec
  have hb := B.bytes
  have hr := B.returns
  have hts := atoms_spec (ws := wsX3_viewKept) B.pre
  have hown : s.vm.findClass RX3 = some m.cls := findClass_of_methodNamed B.named
  have hlocks := B.notSynchronized
  have hl := lv_entry ([.ref (ad (100 + 2 * k))]) (n := 1) (Nat.le_of_ble_eq_true rfl)
  rw [lg_entry_eq]
  generalize (lg_sl ([.ref (ad (100 + 2 * k))]) ++ List.replicate (1 - (lg_sl ([.ref (ad (100 + 2 * k))])).length) Slot.unset).toArray = ls at hl ⊢
  have hl : lv_has ls 1 [(0, .ref (ad (100 + 2 * k)))] := hl
  have hin1 := hin1_X3_viewKept
  have hin2 := hin2_X3_viewKept
  have hin3 := hin3_X3_viewKept
  have hn := hok.1
  obtain ⟨pk, hpk, epk⟩ := (hok.2.2.1 k hk).2.1
  refine lv_aload_n hx hb dX3_viewKept_0 rfl (lv_at hl 0 rfl) ?_
  refine cy_getSort hx hb hts hin1 hin2 hin3 hown hK hI hk (hts (.fieldLink RX3 15 "CustomsYard$Things" "sort" "I") (by decide +kernel)) (fun x h9 => u_same (hts (.sameField "CustomsYard$Things" "CustomsYard$Load" "sort" "I") (by decide +kernel)) x h9) dX3_viewKept_1 ?_
  by_cases w1 : (σ.1 1 k) = 8
  · refine lv_lookup (off := 28) (tgt := 32) hx hb dX3_viewKept_4 (by decide) (by rw [w1]; decide) (by decide) ?_
    refine lv_iconst (v := 5) hx hb dX3_viewKept_32 (by decide) ?_
    exact W.iret (v := 5) hx hb hr (fun t ht hW => ⟨congrArg (fun q => Outcome.returned (some (Value.int q))) (by simp [cy_vk, w1]), ht⟩) (fun q h => by cases h) dX3_viewKept_33
  · by_cases w2 : (σ.1 1 k) = 11
    · refine lv_lookup (off := 30) (tgt := 34) hx hb dX3_viewKept_4 (by decide) (by rw [w2]; decide) (by decide) ?_
      refine lv_bipush (v := 8) hx hb dX3_viewKept_34 (by decide) ?_
      exact W.iret (v := 8) hx hb hr (fun t ht hW => ⟨congrArg (fun q => Outcome.returned (some (Value.int q))) (by simp [cy_vk, w1, w2]), ht⟩) (fun q h => by cases h) dX3_viewKept_36
    · refine lv_lookup (off := 33) (tgt := 37) hx hb dX3_viewKept_4 (by decide) (by show Op.lookupswitch.offset [(8, 28), (11, 30)] _ _ = _; rw [lv_osw w1 (by decide), lv_osw w2 (by decide)]; rfl) (by decide) ?_
      refine lv_aload_n hx hb dX3_viewKept_37 rfl (lv_at hl 0 rfl) ?_
      refine cy_callp (v := .int (cy_va (σ.1 1 k))) (va_runV (As := []) (rest := []) ⟨hx, hb, hml, hown, hts⟩ (c_X3_viewAsked l D cI cJ cO z n σ τ pl hi ad hok k hk kdk) (cwV 0 hts gX3_viewKept_X3_viewAsked rfl rfl rfl (by decide +kernel) ⟨Nat.le_of_ble_eq_true rfl, Nat.le_of_ble_eq_true rfl⟩) (cy_preV hK hI (cy_rv2 hK hI hk kdk)) rfl rfl hl.1 rfl (lv_room (Nat.le_of_ble_eq_true rfl)) dX3_viewKept_38 ⟨Nat.le_of_ble_eq_true rfl, Nat.le_of_ble_eq_true rfl⟩) ?_
      exact W.iret (v := cy_va (σ.1 1 k)) hx hb hr (fun t ht hW => ⟨congrArg (fun q => Outcome.returned (some (Value.int q))) (by simp [cy_vk, w1, w2]), ht⟩) (fun q h => by cases h) dX3_viewKept_41

set_option maxHeartbeats 4000000 in
set_option maxRecDepth 100000 in
theorem c_X2_weigh (l : Launch) (D : va_G) (cI cJ cO : ClassId) (z n : Nat) (σ τ : cy_S) (pl : Nat → Int32) (hi : Int32) (ad : Nat → Nat) (hok : cy_ok n σ) (k : Nat) (hk : k < n) (kdk : cy_kd (σ.1 1 k) = 1) (v : Int32)  : Met l yX2_weigh wsX2_weigh { frames := 0, cells := 0, slots := 0, locals := 0 } (cy_P D cI cJ cO (fun H => cy_W D z (cy_CT cI cJ cO n n σ τ pl hi ad) ad H) [.ref (ad (100 + 2 * k)), .int v]) (cy_Q (.long (cy_wt σ 3 k))) 0 0 (fun _ => False) := by
  refine Met.ofW (cc := cX2_weigh) (maxL := 2) (ret := (some .long)) (by decide) rfl ?_
  intro p e s m args below meth c s₁ B hml hv
  obtain ⟨rfl, hK, hI⟩ := hv
  have hx := B.exec
  have hb := B.bytes
  have hr := B.returns
  have hts := atoms_spec (ws := wsX2_weigh) B.pre
  have hown : s.vm.findClass RX2 = some m.cls := findClass_of_methodNamed B.named
  have hlocks := B.notSynchronized
  have hl := lv_entry ([.ref (ad (100 + 2 * k)), .int v]) (n := 2) (Nat.le_of_ble_eq_true rfl)
  rw [lg_entry_eq]
  generalize (lg_sl ([.ref (ad (100 + 2 * k)), .int v]) ++ List.replicate (2 - (lg_sl ([.ref (ad (100 + 2 * k)), .int v])).length) Slot.unset).toArray = ls at hl ⊢
  have hl : lv_has ls 2 [(0, .ref (ad (100 + 2 * k))), (1, .int v)] := hl
  have hin2 := hin2_X2_weigh
  have hn := hok.1
  obtain ⟨pk, hpk, epk⟩ := (hok.2.2.1 k hk).2.1
  refine lv_aload_n hx hb dX2_weigh_0 rfl (lv_at hl 0 rfl) ?_
  refine cy_getPt hx hb hts hin2 hown hK hI hk kdk (hts (.fieldLink RX2 9 "CustomsYard$Piece" "told" "I") (by decide +kernel)) dX2_weigh_1 ?_
  refine lv_i2l (v := (σ.1 3 k).toInt64) hx hb dX2_weigh_4 rfl ?_
  exact W.lret (v := (σ.1 3 k).toInt64) hx hb hr (fun t ht hW => ⟨congrArg (fun q => Outcome.returned (some (Value.long q))) (by rw [cy_wt_1 hok hk kdk]), ht⟩) (fun q h => by cases h) dX2_weigh_5
end
section
theorem cy_K.dW {D : va_G} {cI cJ cO : ClassId} {U : State} (h : cy_K D cI cJ cO U) : va_Nw (.declares ⟨"CustomsYard$Load", "weigh", "(I)J"⟩) U := h.2.2.2.2.2.2.2.2.1
theorem cy_K.dC {D : va_G} {cI cJ cO : ClassId} {U : State} (h : cy_K D cI cJ cO U) : va_Nw (.declares ⟨"CustomsYard$Load", "comesAs", "(I)I"⟩) U := h.2.2.2.2.2.2.2.2.2
theorem cy_rk_2d : ∀ a : Fin 13, cy_kd (nI a.val) = 2 → 1 ≤ cy_rk (nI a.val) := by decide +kernel
theorem cy_rk_2 {n : Nat} {σ : cy_S} (hok : cy_ok n σ) {k : Nat} (hk : k < n) (h : cy_kd (σ.1 1 k) = 2) : 1 ≤ cy_rk (σ.1 1 k) := by
  obtain ⟨⟨a, ha, ea⟩, -⟩ := hok.2.2.1 k hk
  rw [ea] at h ⊢
  exact cy_rk_2d ⟨a, by omega⟩ h
theorem cy_cf_rk {n : Nat} {σ : cy_S} (hok : cy_ok n σ) {k t : Nat} (hk : k < n) (hb : cy_th (σ.1 1 k) = true) (ht : t < n) (hg : cy_go (σ.1 1 t) (cy_ha (σ.1 1 k)) = true) : cy_rk (σ.1 1 t) < cy_rk (σ.1 1 k) := by
  obtain ⟨⟨a, ha, ea⟩, -⟩ := hok.2.2.1 k hk
  obtain ⟨⟨b, hb2, eb⟩, -⟩ := hok.2.2.1 t ht
  rw [ea] at hb ⊢
  rw [ea, eb] at hg
  rw [eb]
  exact cy_rk_dec ⟨a, by omega⟩ ⟨b, by omega⟩ hb hg
theorem hin1_X1_weigh : ∀ w ∈ u_ws RX1 TX1 3, w ∈ wsX1_weigh := by decide +kernel
theorem hin1_X0_tally : ∀ w ∈ u_ws RX1 TX1 3, w ∈ wsX0_tally := by decide +kernel
theorem hin2_X0_tally : ∀ w ∈ u_ws RX2 TX2 3, w ∈ wsX0_tally := by decide +kernel
theorem hin3_X0_tally : ∀ w ∈ u_ws RX3 TX3 3, w ∈ wsX0_tally := by decide +kernel
theorem hin1_X3_weigh : ∀ w ∈ u_ws RX1 TX1 3, w ∈ wsX3_weigh := by decide +kernel
theorem hin2_X3_weigh : ∀ w ∈ u_ws RX2 TX2 3, w ∈ wsX3_weigh := by decide +kernel
theorem hin3_X3_weigh : ∀ w ∈ u_ws RX3 TX3 3, w ∈ wsX3_weigh := by decide +kernel
theorem hin1_X3_tally : ∀ w ∈ u_ws RX1 TX1 3, w ∈ wsX3_tally := by decide +kernel
theorem hin2_X3_tally : ∀ w ∈ u_ws RX2 TX2 3, w ∈ wsX3_tally := by decide +kernel
theorem hin3_X3_tally : ∀ w ∈ u_ws RX3 TX3 3, w ∈ wsX3_tally := by decide +kernel
set_option maxHeartbeats 4000000 in
set_option maxRecDepth 100000 in
theorem c_X1_weigh (l : Launch) (D : va_G) (cI cJ cO : ClassId) (z n : Nat) (σ τ : cy_S) (pl : Nat → Int32) (hi : Int32) (ad : Nat → Nat) (hok : cy_ok n σ) (k : Nat) (hk : k < n) (kdk : cy_kd (σ.1 1 k) = 0) (v : Int32) : Met l yX1_weigh wsX1_weigh { frames := 0, cells := 0, slots := 0, locals := 0 } (cy_P D cI cJ cO (fun H => cy_W D z (cy_CT cI cJ cO n n σ τ pl hi ad) ad H) [.ref (ad (100 + 2 * k)), .int v]) (cy_Q (.long (cy_wt σ 3 k))) 0 0 (fun _ => False) := by
  refine Met.ofW (cc := cX1_weigh) (maxL := 9) (ret := (some .long)) (by decide) rfl ?_
  intro p e s m args below meth c s₁ B hml hv
  obtain ⟨rfl, hK, hI⟩ := hv
  have hx := B.exec
  have hb := B.bytes
  have hr := B.returns
  have hts := atoms_spec (ws := wsX1_weigh) B.pre
  have hown : s.vm.findClass RX1 = some m.cls := findClass_of_methodNamed B.named
  have hlocks := B.notSynchronized
  have hl := lv_entry ([.ref (ad (100 + 2 * k)), .int v]) (n := 9) (Nat.le_of_ble_eq_true rfl)
  rw [lg_entry_eq]
  generalize (lg_sl ([.ref (ad (100 + 2 * k)), .int v]) ++ List.replicate (9 - (lg_sl ([.ref (ad (100 + 2 * k)), .int v])).length) Slot.unset).toArray = ls at hl ⊢
  have hl : lv_has ls 9 [(0, .ref (ad (100 + 2 * k))), (1, .int v)] := hl
  have hin1 := hin1_X1_weigh
  have hn := hok.1
  obtain ⟨pk, hpk, epk⟩ := (hok.2.2.1 k hk).2.1
  refine lv_lconst (v := 0) hx hb dX1_weigh_0 (by decide) ?_
  refine lv_lstore_n (lv' := [(2, .long 0), (0, .ref (ad (100 + 2 * k))), (1, .int v)]) hx hb dX1_weigh_1 rfl hl (by decide) rfl (fun ls hl => ?_)
  refine lv_aload_n hx hb dX1_weigh_2 rfl (lv_at hl 1 rfl) ?_
  refine cy_getNp hx hb hts hin1 hown hK hI hk kdk (hts (.fieldLink RX1 7 "CustomsYard$Numbers" "places" "[J") (by decide +kernel)) dX1_weigh_3 ?_
  refine lv_astore (lv' := [(4, .ref (ad (101 + 2 * k))), (2, .long 0), (0, .ref (ad (100 + 2 * k))), (1, .int v)]) hx hb dX1_weigh_6 hl (by decide) rfl (fun ls hl => ?_)
  refine lv_aload hx hb dX1_weigh_8 (lv_at hl 0 rfl) ?_
  refine cy_alenL hx hb hK hI hk (Or.inl kdk) hpk epk dX1_weigh_10 ?_
  refine lv_istore (lv' := [(5, .int (nI pk)), (4, .ref (ad (101 + 2 * k))), (2, .long 0), (0, .ref (ad (100 + 2 * k))), (1, .int v)]) hx hb dX1_weigh_11 hl (by decide) rfl (fun ls hl => ?_)
  refine lv_iconst (v := 0) hx hb dX1_weigh_13 (by decide) ?_
  refine lv_istore (lv' := [(6, .int 0), (5, .int (nI pk)), (4, .ref (ad (101 + 2 * k))), (2, .long 0), (0, .ref (ad (100 + 2 * k))), (1, .int v)]) hx hb dX1_weigh_14 hl (by decide) rfl (fun ls hl => ?_)
  have loop : ∀ (f i : Nat) (x : Int64) (ls : Array Slot), i + f = pk → x + cy_ns σ k f i = cy_wt σ 3 k → lv_has ls 9 [(6, .int (nI i)), (5, .int (nI pk)), (4, .ref (ad (101 + 2 * k))), (2, .long x), (0, .ref (ad (100 + 2 * k))), (1, .int v)] → W p l e (headSpec wsX1_weigh { frames := 0, cells := 0, slots := 0, locals := 0 }).room s m #[Value.ref (ad (100 + 2 * k)), Value.int v] below meth c s.heap [] 0 0 (MQ below (cy_Q (.long (cy_wt σ 3 k))) #[Value.ref (ad (100 + 2 * k)), Value.int v] s 0 0 (fun _ => False)) (F0 m 16 ls []) := by
    intro f
    induction f with
    | zero =>
      intro i x ls hif hE hl
      obtain rfl : i = pk := by omega
      refine lv_iload hx hb dX1_weigh_16 (lv_at hl 0 rfl) ?_
      refine lv_iload hx hb dX1_weigh_18 (lv_at hl 1 rfl) ?_
      refine lv_icmp_ge (tgt := 41) hx hb dX1_weigh_20 (by decide) (fun h11 => ?_) (fun h11 => absurd (nI_le (Nat.le_refl _) (by omega)) h11)
      refine lv_lload_n hx hb dX1_weigh_41 rfl (lv_at hl 3 rfl) ?_
      exact W.lret (v := x) hx hb hr (fun t ht hW => ⟨congrArg (fun q => Outcome.returned (some (Value.long q))) (by rw [← hE]; simp [cy_ns]), ht⟩) (fun q h => by cases h) dX1_weigh_42
    | succ f ih =>
      intro i x ls hif hE hl
      refine lv_iload hx hb dX1_weigh_16 (lv_at hl 0 rfl) ?_
      refine lv_iload hx hb dX1_weigh_18 (lv_at hl 1 rfl) ?_
      refine lv_icmp_ge (tgt := 41) hx hb dX1_weigh_20 (by decide) (fun h21 => absurd h21 (nI_ge (by omega) (by omega))) (fun h21 => ?_)
      refine lv_aload hx hb dX1_weigh_23 (lv_at hl 2 rfl) ?_
      refine lv_iload hx hb dX1_weigh_25 (lv_at hl 0 rfl) ?_
      refine cy_laldL (i := i) hx hb hK hI hk kdk hpk epk (by omega) dX1_weigh_27 ?_
      refine lv_lstore (lv' := [(7, .long (σ.2 0 (6 * k + i))), (6, .int (nI i)), (5, .int (nI pk)), (4, .ref (ad (101 + 2 * k))), (2, .long x), (0, .ref (ad (100 + 2 * k))), (1, .int v)]) hx hb dX1_weigh_28 hl (by decide) rfl (fun ls hl => ?_)
      refine lv_lload_n hx hb dX1_weigh_30 rfl (lv_at hl 4 rfl) ?_
      refine lv_lload hx hb dX1_weigh_31 (lv_at hl 0 rfl) ?_
      refine lv_ladd hx hb dX1_weigh_33 ?_
      refine lv_lstore_n (lv' := [(2, .long (x + (σ.2 0 (6 * k + i)))), (7, .long (σ.2 0 (6 * k + i))), (6, .int (nI i)), (5, .int (nI pk)), (4, .ref (ad (101 + 2 * k))), (0, .ref (ad (100 + 2 * k))), (1, .int v)]) hx hb dX1_weigh_34 rfl hl (by decide) rfl (fun ls hl => ?_)
      refine lv_iinc (v := nI (i + 1)) (lv' := [(6, .int (nI (i + 1))), (2, .long (x + (σ.2 0 (6 * k + i)))), (7, .long (σ.2 0 (6 * k + i))), (5, .int (nI pk)), (4, .ref (ad (101 + 2 * k))), (0, .ref (ad (100 + 2 * k))), (1, .int v)]) hx hb dX1_weigh_35 hl (k := 2) rfl (nI_1 _) (by decide) rfl (fun ls hl => ?_)
      refine lv_goto (tgt := 16) hx hb dX1_weigh_38 (by decide) ?_
      exact ih (i + 1) (x + (σ.2 0 (6 * k + i))) ls (by omega) (cy_accN hE) (lv_sub hl [0, 3, 4, 1, 5, 6] rfl)
  exact loop pk 0 0 ls (by omega) (by rw [cy_wt_0 hok hk kdk hpk epk]; simp) (lv_sub hl [0, 1, 2, 3, 4, 5] rfl)

set_option maxHeartbeats 4000000 in
set_option maxRecDepth 100000 in
theorem c_X0_tally (l : Launch) (D : va_G) (cI cJ cO : ClassId) (z n : Nat) (σ τ : cy_S) (pl : Nat → Int32) (hi : Int32) (ad : Nat → Nat) (hok : cy_ok n σ) (k : Nat) (hk : k < n) (hk2 : ¬ cy_kd (σ.1 1 k) = 2) (v lv : Int32)  : Met l yX0_tally wsX0_tally { frames := 1, cells := 0, slots := 0, locals := 21 } (cy_P D cI cJ cO (fun H => cy_W D z (cy_CT cI cJ cO n n σ τ pl hi ad) ad H) [.ref (ad (100 + 2 * k)), .int v, .int lv]) (cy_Q (.int (cy_tl σ v 3 k))) 0 0 (fun _ => False) := by
  refine Met.ofW (cc := cX0_tally) (maxL := 3) (ret := (some .int)) (by decide) rfl ?_
  intro p e s m args below meth c s₁ B hml hv
  obtain ⟨rfl, hK, hI⟩ := hv
  have hx := B.exec
  have hb := B.bytes
  have hr := B.returns
  have hts := atoms_spec (ws := wsX0_tally) B.pre
  have hown : s.vm.findClass RX0 = some m.cls := findClass_of_methodNamed B.named
  have hlocks := B.notSynchronized
  have hl := lv_entry ([.ref (ad (100 + 2 * k)), .int v, .int lv]) (n := 3) (Nat.le_of_ble_eq_true rfl)
  rw [lg_entry_eq]
  generalize (lg_sl ([.ref (ad (100 + 2 * k)), .int v, .int lv]) ++ List.replicate (3 - (lg_sl ([.ref (ad (100 + 2 * k)), .int v, .int lv])).length) Slot.unset).toArray = ls at hl ⊢
  have hl : lv_has ls 3 [(0, .ref (ad (100 + 2 * k))), (1, .int v), (2, .int lv)] := hl
  have hin1 := hin1_X0_tally
  have hin2 := hin2_X0_tally
  have hin3 := hin3_X0_tally
  have hn := hok.1
  obtain ⟨pk, hpk, epk⟩ := (hok.2.2.1 k hk).2.1
  refine lv_aload_n hx hb dX0_tally_0 rfl (lv_at hl 0 rfl) ?_
  refine lv_iload_n hx hb dX0_tally_1 rfl (lv_at hl 1 rfl) ?_
  refine cy_callp (v := .int (cy_b (cy_go (σ.1 1 k) v))) (rest := []) (a := (.ref (ad (100 + 2 * k)) :: [.int v] : List Value).toArray) (by 
      rcases cy_kd3 hok hk with hq | hq | hq
      · exact va_runU (As := [.int v]) (rest := []) ⟨hx, hb, hml, hown, hts⟩ (c_X0_goesAs l D cI cJ cO z n σ τ pl hi ad hok k hk v) (va_cwU 1 hts gX0_tally_X0_goesAs_u18X1 rfl rfl rfl rfl (by decide +kernel) ⟨Nat.le_of_ble_eq_true rfl, Nat.le_of_ble_eq_true rfl⟩) (cy_preV hK hI (cy_rv0 hK hI hk hq.1)) rfl rfl hl.1 rfl (lv_room (Nat.le_of_ble_eq_true rfl)) dX0_tally_2 ⟨Nat.le_of_ble_eq_true rfl, Nat.le_of_ble_eq_true rfl⟩
      · exact va_runU (As := [.int v]) (rest := []) ⟨hx, hb, hml, hown, hts⟩ (c_X0_goesAs l D cI cJ cO z n σ τ pl hi ad hok k hk v) (va_cwU 1 hts gX0_tally_X0_goesAs_u18X2 rfl rfl rfl rfl (by decide +kernel) ⟨Nat.le_of_ble_eq_true rfl, Nat.le_of_ble_eq_true rfl⟩) (cy_preV hK hI (cy_rv1 hK hI hk hq.1)) rfl rfl hl.1 rfl (lv_room (Nat.le_of_ble_eq_true rfl)) dX0_tally_2 ⟨Nat.le_of_ble_eq_true rfl, Nat.le_of_ble_eq_true rfl⟩
      · exact absurd hq.1 hk2) ?_
  cases b1 : (cy_go (σ.1 1 k) v)
  · refine lv_if_eq (tgt := 12) hx hb dX0_tally_5 (by decide) (fun h2 => ?_) (fun h2 => absurd (by decide) h2)
    refine lv_iconst (v := 0) hx hb dX0_tally_12 (by decide) ?_
    exact W.iret (v := 0) hx hb hr (fun t ht hW => ⟨congrArg (fun q => Outcome.returned (some (Value.int q))) (by rw [cy_tl_01 v hok hk hk2, b1]; rfl), ht⟩) (fun q h => by cases h) dX0_tally_13
  · refine lv_if_eq (tgt := 12) hx hb dX0_tally_5 (by decide) (fun h3 => absurd h3 (by decide)) (fun h3 => ?_)
    refine lv_iconst (v := 1) hx hb dX0_tally_8 (by decide) ?_
    refine lv_goto (tgt := 13) hx hb dX0_tally_9 (by decide) ?_
    exact W.iret (v := 1) hx hb hr (fun t ht hW => ⟨congrArg (fun q => Outcome.returned (some (Value.int q))) (by rw [cy_tl_01 v hok hk hk2, b1]; rfl), ht⟩) (fun q h => by cases h) dX0_tally_13

set_option maxHeartbeats 4000000 in
set_option maxRecDepth 100000 in
theorem c_X3_weigh2 (l : Launch) (D : va_G) (cI cJ cO : ClassId) (z n : Nat) (σ τ : cy_S) (pl : Nat → Int32) (hi : Int32) (ad : Nat → Nat) (hok : cy_ok n σ) (k : Nat) (hk : k < n) (kdk : cy_kd (σ.1 1 k) = 2) (hrk0 : cy_rk (σ.1 1 k) < 2) : Met l yX3_weigh wsX3_weigh { frames := 1, cells := 0, slots := 0, locals := 28 } (cy_P D cI cJ cO (fun H => cy_W D z (cy_CT cI cJ cO n n σ τ pl hi ad) ad H) [.ref (ad (100 + 2 * k)), .int 2]) (cy_Q (.long (cy_wt σ 3 k))) 0 0 (fun _ => False) := by
  refine Met.ofW (cc := cX3_weigh) (maxL := 8) (ret := (some .long)) (by decide) rfl ?_
  intro p e s m args below meth c s₁ B hml hv
  obtain ⟨rfl, hK, hI⟩ := hv
  have hx := B.exec
  have hb := B.bytes
  have hr := B.returns
  have hts := atoms_spec (ws := wsX3_weigh) B.pre
  have hown : s.vm.findClass RX3 = some m.cls := findClass_of_methodNamed B.named
  have hlocks := B.notSynchronized
  have hl := lv_entry ([.ref (ad (100 + 2 * k)), .int 2]) (n := 8) (Nat.le_of_ble_eq_true rfl)
  rw [lg_entry_eq]
  generalize (lg_sl ([.ref (ad (100 + 2 * k)), .int 2]) ++ List.replicate (8 - (lg_sl ([.ref (ad (100 + 2 * k)), .int 2])).length) Slot.unset).toArray = ls at hl ⊢
  have hl : lv_has ls 8 [(0, .ref (ad (100 + 2 * k))), (1, .int 2)] := hl
  have hin1 := hin1_X3_weigh
  have hin2 := hin2_X3_weigh
  have hin3 := hin3_X3_weigh
  have hn := hok.1
  obtain ⟨pk, hpk, epk⟩ := (hok.2.2.1 k hk).2.1
  rcases cy_kd3 hok hk with hkx | hkx | hkx
  · rw [hkx.1] at kdk; cases kdk
  · rw [hkx.1] at kdk; cases kdk
  have hT := (hok.2.2.1 k hk).2.2.2.2.2 hkx.2.2.2
  refine lv_lconst (v := 0) hx hb dX3_weigh_0 (by decide) ?_
  refine lv_lstore_n (lv' := [(2, .long 0), (0, .ref (ad (100 + 2 * k))), (1, .int 2)]) hx hb dX3_weigh_1 rfl hl (by decide) rfl (fun ls hl => ?_)
  refine lv_iload_n hx hb dX3_weigh_2 rfl (lv_at hl 2 rfl) ?_
  refine lv_iconst (v := 1) hx hb dX3_weigh_3 (by decide) ?_
  refine lv_icmp_gt (tgt := 9) hx hb dX3_weigh_4 (by decide) (fun h1 => ?_) (fun h1 => absurd (by decide) h1)
  refine lv_aload_n hx hb dX3_weigh_9 rfl (lv_at hl 1 rfl) ?_
  refine cy_getTp hx hb hts hin3 hown hK hI hk kdk (hts (.fieldLink RX3 9 "CustomsYard$Things" "places" "[LCustomsYard$Load;") (by decide +kernel)) dX3_weigh_10 ?_
  refine lv_astore (lv' := [(4, .ref (ad (101 + 2 * k))), (2, .long 0), (0, .ref (ad (100 + 2 * k))), (1, .int 2)]) hx hb dX3_weigh_13 hl (by decide) rfl (fun ls hl => ?_)
  refine lv_aload hx hb dX3_weigh_15 (lv_at hl 0 rfl) ?_
  refine cy_alenL hx hb hK hI hk (Or.inr kdk) hpk epk dX3_weigh_17 ?_
  refine lv_istore (lv' := [(5, .int (nI pk)), (4, .ref (ad (101 + 2 * k))), (2, .long 0), (0, .ref (ad (100 + 2 * k))), (1, .int 2)]) hx hb dX3_weigh_18 hl (by decide) rfl (fun ls hl => ?_)
  refine lv_iconst (v := 0) hx hb dX3_weigh_20 (by decide) ?_
  refine lv_istore (lv' := [(6, .int 0), (5, .int (nI pk)), (4, .ref (ad (101 + 2 * k))), (2, .long 0), (0, .ref (ad (100 + 2 * k))), (1, .int 2)]) hx hb dX3_weigh_21 hl (by decide) rfl (fun ls hl => ?_)
  have loop : ∀ (f i : Nat) (x : Int64) (ls : Array Slot), i + f = pk → x + cy_smL (cy_wt σ 3) (cy_cf σ k f i) = cy_wt σ 3 k → lv_has ls 8 [(6, .int (nI i)), (5, .int (nI pk)), (4, .ref (ad (101 + 2 * k))), (2, .long x), (0, .ref (ad (100 + 2 * k))), (1, .int 2)] → W p l e (headSpec wsX3_weigh { frames := 1, cells := 0, slots := 0, locals := 28 }).room s m #[Value.ref (ad (100 + 2 * k)), Value.int 2] below meth c s.heap [] 0 0 (MQ below (cy_Q (.long (cy_wt σ 3 k))) #[Value.ref (ad (100 + 2 * k)), Value.int 2] s 0 0 (fun _ => False)) (F0 m 23 ls []) := by
    intro f
    induction f with
    | zero =>
      intro i x ls hif hE hl
      obtain rfl : i = pk := by omega
      refine lv_iload hx hb dX3_weigh_23 (lv_at hl 0 rfl) ?_
      refine lv_iload hx hb dX3_weigh_25 (lv_at hl 1 rfl) ?_
      refine lv_icmp_ge (tgt := 59) hx hb dX3_weigh_27 (by decide) (fun h11 => ?_) (fun h11 => absurd (nI_le (Nat.le_refl _) (by omega)) h11)
      refine lv_lload_n hx hb dX3_weigh_59 rfl (lv_at hl 3 rfl) ?_
      exact W.lret (v := x) hx hb hr (fun t ht hW => ⟨congrArg (fun q => Outcome.returned (some (Value.long q))) (by rw [← hE]; simp [cy_cf, cy_smL]), ht⟩) (fun q h => by cases h) dX3_weigh_60
    | succ f ih =>
      intro i x ls hif hE hl
      refine lv_iload hx hb dX3_weigh_23 (lv_at hl 0 rfl) ?_
      refine lv_iload hx hb dX3_weigh_25 (lv_at hl 1 rfl) ?_
      refine lv_icmp_ge (tgt := 59) hx hb dX3_weigh_27 (by decide) (fun h21 => absurd h21 (nI_ge (by omega) (by omega))) (fun h21 => ?_)
      refine lv_aload hx hb dX3_weigh_30 (lv_at hl 2 rfl) ?_
      refine lv_iload hx hb dX3_weigh_32 (lv_at hl 0 rfl) ?_
      refine cy_aaldL (i := i) hx hb hK hI hk kdk hpk epk (by omega) dX3_weigh_34 ?_
      rcases hT i (by omega) with e1 | ⟨t, ht, e1, hgt⟩
      · refine cy_topq (cy_rf_n e1) ?_
        refine lv_astoreN (lv' := [(7, .null), (6, .int (nI i)), (5, .int (nI pk)), (4, .ref (ad (101 + 2 * k))), (2, .long x), (0, .ref (ad (100 + 2 * k))), (1, .int 2)]) hx hb dX3_weigh_35 hl (by decide) rfl (fun ls hl => ?_)
        refine lv_aloadN hx hb dX3_weigh_37 (lv_at hl 0 rfl) ?_
        refine lv_ifnullN (tgt := 53) hx hb dX3_weigh_39 (by decide) ?_
        refine lv_iinc (v := nI (i + 1)) (lv' := [(6, .int (nI (i + 1))), (7, .null), (5, .int (nI pk)), (4, .ref (ad (101 + 2 * k))), (2, .long x), (0, .ref (ad (100 + 2 * k))), (1, .int 2)]) hx hb dX3_weigh_53 hl (k := 1) rfl (nI_1 _) (by decide) rfl (fun ls hl => ?_)
        refine lv_goto (tgt := 23) hx hb dX3_weigh_56 (by decide) ?_
        exact ih (i + 1) x ls (by omega) (by rw [← hE]; show _ = x + cy_smL _ ((if _ then _ else _) ++ _); rw [if_pos e1]; rfl) (lv_sub hl [0, 2, 3, 4, 5, 6] rfl)
      · have hrk := cy_cf_rk hok hk hkx.2.2.2 ht hgt
        refine cy_topq (cy_rf_s (by omega) e1) ?_
        refine lv_astore (lv' := [(7, .ref (ad (100 + 2 * t))), (6, .int (nI i)), (5, .int (nI pk)), (4, .ref (ad (101 + 2 * k))), (2, .long x), (0, .ref (ad (100 + 2 * k))), (1, .int 2)]) hx hb dX3_weigh_35 hl (by decide) rfl (fun ls hl => ?_)
        refine lv_aload hx hb dX3_weigh_37 (lv_at hl 0 rfl) ?_
        refine lv_ifnull hx hb dX3_weigh_39 ?_
        refine lv_lload_n hx hb dX3_weigh_42 rfl (lv_at hl 4 rfl) ?_
        refine lv_aload hx hb dX3_weigh_43 (lv_at hl 0 rfl) ?_
        refine lv_iload_n hx hb dX3_weigh_45 rfl (lv_at hl 6 rfl) ?_
        refine lv_iconst (v := 1) hx hb dX3_weigh_46 (by decide) ?_
        refine lv_isub hx hb dX3_weigh_47 ?_
        refine cy_topi (y := 1) (by decide) ?_
        refine cy_callp (v := .long (cy_wt σ 3 t)) (rest := [.long x]) (a := (.ref (ad (100 + 2 * t)) :: [.int 1] : List Value).toArray) (by 
            rcases cy_kd3 hok ht with hq | hq | hq
            · exact va_runU (As := [.int 1]) (rest := [.long x]) ⟨hx, hb, hml, hown, hts⟩ (c_X1_weigh l D cI cJ cO z n σ τ pl hi ad hok t ht hq.1 1) (va_cwA 1 hts gX3_weigh_X1_weigh_u23X1 rfl rfl rfl hK.dW (by decide +kernel) ⟨Nat.le_of_ble_eq_true rfl, Nat.le_of_ble_eq_true rfl⟩) (cy_preV hK hI (cy_rv0 hK hI ht hq.1)) rfl rfl hl.1 rfl (lv_room (Nat.le_of_ble_eq_true rfl)) dX3_weigh_48 ⟨Nat.le_of_ble_eq_true rfl, Nat.le_of_ble_eq_true rfl⟩
            · exact va_runU (As := [.int 1]) (rest := [.long x]) ⟨hx, hb, hml, hown, hts⟩ (c_X2_weigh l D cI cJ cO z n σ τ pl hi ad hok t ht hq.1 1) (va_cwA 1 hts gX3_weigh_X2_weigh_u23X2 rfl rfl rfl hK.dW (by decide +kernel) ⟨Nat.le_of_ble_eq_true rfl, Nat.le_of_ble_eq_true rfl⟩) (cy_preV hK hI (cy_rv1 hK hI ht hq.1)) rfl rfl hl.1 rfl (lv_room (Nat.le_of_ble_eq_true rfl)) dX3_weigh_48 ⟨Nat.le_of_ble_eq_true rfl, Nat.le_of_ble_eq_true rfl⟩
            · exact absurd (cy_rk_2 hok ht hq.1) (by omega)) ?_
        refine lv_ladd hx hb dX3_weigh_51 ?_
        refine lv_lstore_n (lv' := [(2, .long (x + (cy_wt σ 3 t))), (7, .ref (ad (100 + 2 * t))), (6, .int (nI i)), (5, .int (nI pk)), (4, .ref (ad (101 + 2 * k))), (0, .ref (ad (100 + 2 * k))), (1, .int 2)]) hx hb dX3_weigh_52 rfl hl (by decide) rfl (fun ls hl => ?_)
        refine lv_iinc (v := nI (i + 1)) (lv' := [(6, .int (nI (i + 1))), (2, .long (x + (cy_wt σ 3 t))), (7, .ref (ad (100 + 2 * t))), (5, .int (nI pk)), (4, .ref (ad (101 + 2 * k))), (0, .ref (ad (100 + 2 * k))), (1, .int 2)]) hx hb dX3_weigh_53 hl (k := 2) rfl (nI_1 _) (by decide) rfl (fun ls hl => ?_)
        refine lv_goto (tgt := 23) hx hb dX3_weigh_56 (by decide) ?_
        exact ih (i + 1) (x + (cy_wt σ 3 t)) ls (by omega) (by rw [← hE]; show _ = x + cy_smL _ ((if _ then _ else _) ++ _); rw [if_neg (by rw [e1]; exact cy_ne1 (by omega)), e1, nI_clamp (by omega)]; show _ = x + (_ + _); ac_rfl) (lv_sub hl [0, 3, 4, 1, 5, 6] rfl)
  exact loop pk 0 0 ls (by omega) (by rw [cy_wt_2 hok hk kdk hpk epk]; simp) (lv_sub hl [0, 1, 2, 3, 4, 5] rfl)

set_option maxHeartbeats 4000000 in
set_option maxRecDepth 100000 in
theorem c_X3_weigh3 (l : Launch) (D : va_G) (cI cJ cO : ClassId) (z n : Nat) (σ τ : cy_S) (pl : Nat → Int32) (hi : Int32) (ad : Nat → Nat) (hok : cy_ok n σ) (k : Nat) (hk : k < n) (kdk : cy_kd (σ.1 1 k) = 2) (hrk0 : cy_rk (σ.1 1 k) < 3) : Met l yX3_weigh wsX3_weigh { frames := 2, cells := 0, slots := 0, locals := 55 } (cy_P D cI cJ cO (fun H => cy_W D z (cy_CT cI cJ cO n n σ τ pl hi ad) ad H) [.ref (ad (100 + 2 * k)), .int 3]) (cy_Q (.long (cy_wt σ 3 k))) 0 0 (fun _ => False) := by
  refine Met.ofW (cc := cX3_weigh) (maxL := 8) (ret := (some .long)) (by decide) rfl ?_
  intro p e s m args below meth c s₁ B hml hv
  obtain ⟨rfl, hK, hI⟩ := hv
  have hx := B.exec
  have hb := B.bytes
  have hr := B.returns
  have hts := atoms_spec (ws := wsX3_weigh) B.pre
  have hown : s.vm.findClass RX3 = some m.cls := findClass_of_methodNamed B.named
  have hlocks := B.notSynchronized
  have hl := lv_entry ([.ref (ad (100 + 2 * k)), .int 3]) (n := 8) (Nat.le_of_ble_eq_true rfl)
  rw [lg_entry_eq]
  generalize (lg_sl ([.ref (ad (100 + 2 * k)), .int 3]) ++ List.replicate (8 - (lg_sl ([.ref (ad (100 + 2 * k)), .int 3])).length) Slot.unset).toArray = ls at hl ⊢
  have hl : lv_has ls 8 [(0, .ref (ad (100 + 2 * k))), (1, .int 3)] := hl
  have hin1 := hin1_X3_weigh
  have hin2 := hin2_X3_weigh
  have hin3 := hin3_X3_weigh
  have hn := hok.1
  obtain ⟨pk, hpk, epk⟩ := (hok.2.2.1 k hk).2.1
  rcases cy_kd3 hok hk with hkx | hkx | hkx
  · rw [hkx.1] at kdk; cases kdk
  · rw [hkx.1] at kdk; cases kdk
  have hT := (hok.2.2.1 k hk).2.2.2.2.2 hkx.2.2.2
  refine lv_lconst (v := 0) hx hb dX3_weigh_0 (by decide) ?_
  refine lv_lstore_n (lv' := [(2, .long 0), (0, .ref (ad (100 + 2 * k))), (1, .int 3)]) hx hb dX3_weigh_1 rfl hl (by decide) rfl (fun ls hl => ?_)
  refine lv_iload_n hx hb dX3_weigh_2 rfl (lv_at hl 2 rfl) ?_
  refine lv_iconst (v := 1) hx hb dX3_weigh_3 (by decide) ?_
  refine lv_icmp_gt (tgt := 9) hx hb dX3_weigh_4 (by decide) (fun h1 => ?_) (fun h1 => absurd (by decide) h1)
  refine lv_aload_n hx hb dX3_weigh_9 rfl (lv_at hl 1 rfl) ?_
  refine cy_getTp hx hb hts hin3 hown hK hI hk kdk (hts (.fieldLink RX3 9 "CustomsYard$Things" "places" "[LCustomsYard$Load;") (by decide +kernel)) dX3_weigh_10 ?_
  refine lv_astore (lv' := [(4, .ref (ad (101 + 2 * k))), (2, .long 0), (0, .ref (ad (100 + 2 * k))), (1, .int 3)]) hx hb dX3_weigh_13 hl (by decide) rfl (fun ls hl => ?_)
  refine lv_aload hx hb dX3_weigh_15 (lv_at hl 0 rfl) ?_
  refine cy_alenL hx hb hK hI hk (Or.inr kdk) hpk epk dX3_weigh_17 ?_
  refine lv_istore (lv' := [(5, .int (nI pk)), (4, .ref (ad (101 + 2 * k))), (2, .long 0), (0, .ref (ad (100 + 2 * k))), (1, .int 3)]) hx hb dX3_weigh_18 hl (by decide) rfl (fun ls hl => ?_)
  refine lv_iconst (v := 0) hx hb dX3_weigh_20 (by decide) ?_
  refine lv_istore (lv' := [(6, .int 0), (5, .int (nI pk)), (4, .ref (ad (101 + 2 * k))), (2, .long 0), (0, .ref (ad (100 + 2 * k))), (1, .int 3)]) hx hb dX3_weigh_21 hl (by decide) rfl (fun ls hl => ?_)
  have loop : ∀ (f i : Nat) (x : Int64) (ls : Array Slot), i + f = pk → x + cy_smL (cy_wt σ 3) (cy_cf σ k f i) = cy_wt σ 3 k → lv_has ls 8 [(6, .int (nI i)), (5, .int (nI pk)), (4, .ref (ad (101 + 2 * k))), (2, .long x), (0, .ref (ad (100 + 2 * k))), (1, .int 3)] → W p l e (headSpec wsX3_weigh { frames := 2, cells := 0, slots := 0, locals := 55 }).room s m #[Value.ref (ad (100 + 2 * k)), Value.int 3] below meth c s.heap [] 0 0 (MQ below (cy_Q (.long (cy_wt σ 3 k))) #[Value.ref (ad (100 + 2 * k)), Value.int 3] s 0 0 (fun _ => False)) (F0 m 23 ls []) := by
    intro f
    induction f with
    | zero =>
      intro i x ls hif hE hl
      obtain rfl : i = pk := by omega
      refine lv_iload hx hb dX3_weigh_23 (lv_at hl 0 rfl) ?_
      refine lv_iload hx hb dX3_weigh_25 (lv_at hl 1 rfl) ?_
      refine lv_icmp_ge (tgt := 59) hx hb dX3_weigh_27 (by decide) (fun h11 => ?_) (fun h11 => absurd (nI_le (Nat.le_refl _) (by omega)) h11)
      refine lv_lload_n hx hb dX3_weigh_59 rfl (lv_at hl 3 rfl) ?_
      exact W.lret (v := x) hx hb hr (fun t ht hW => ⟨congrArg (fun q => Outcome.returned (some (Value.long q))) (by rw [← hE]; simp [cy_cf, cy_smL]), ht⟩) (fun q h => by cases h) dX3_weigh_60
    | succ f ih =>
      intro i x ls hif hE hl
      refine lv_iload hx hb dX3_weigh_23 (lv_at hl 0 rfl) ?_
      refine lv_iload hx hb dX3_weigh_25 (lv_at hl 1 rfl) ?_
      refine lv_icmp_ge (tgt := 59) hx hb dX3_weigh_27 (by decide) (fun h21 => absurd h21 (nI_ge (by omega) (by omega))) (fun h21 => ?_)
      refine lv_aload hx hb dX3_weigh_30 (lv_at hl 2 rfl) ?_
      refine lv_iload hx hb dX3_weigh_32 (lv_at hl 0 rfl) ?_
      refine cy_aaldL (i := i) hx hb hK hI hk kdk hpk epk (by omega) dX3_weigh_34 ?_
      rcases hT i (by omega) with e1 | ⟨t, ht, e1, hgt⟩
      · refine cy_topq (cy_rf_n e1) ?_
        refine lv_astoreN (lv' := [(7, .null), (6, .int (nI i)), (5, .int (nI pk)), (4, .ref (ad (101 + 2 * k))), (2, .long x), (0, .ref (ad (100 + 2 * k))), (1, .int 3)]) hx hb dX3_weigh_35 hl (by decide) rfl (fun ls hl => ?_)
        refine lv_aloadN hx hb dX3_weigh_37 (lv_at hl 0 rfl) ?_
        refine lv_ifnullN (tgt := 53) hx hb dX3_weigh_39 (by decide) ?_
        refine lv_iinc (v := nI (i + 1)) (lv' := [(6, .int (nI (i + 1))), (7, .null), (5, .int (nI pk)), (4, .ref (ad (101 + 2 * k))), (2, .long x), (0, .ref (ad (100 + 2 * k))), (1, .int 3)]) hx hb dX3_weigh_53 hl (k := 1) rfl (nI_1 _) (by decide) rfl (fun ls hl => ?_)
        refine lv_goto (tgt := 23) hx hb dX3_weigh_56 (by decide) ?_
        exact ih (i + 1) x ls (by omega) (by rw [← hE]; show _ = x + cy_smL _ ((if _ then _ else _) ++ _); rw [if_pos e1]; rfl) (lv_sub hl [0, 2, 3, 4, 5, 6] rfl)
      · have hrk := cy_cf_rk hok hk hkx.2.2.2 ht hgt
        refine cy_topq (cy_rf_s (by omega) e1) ?_
        refine lv_astore (lv' := [(7, .ref (ad (100 + 2 * t))), (6, .int (nI i)), (5, .int (nI pk)), (4, .ref (ad (101 + 2 * k))), (2, .long x), (0, .ref (ad (100 + 2 * k))), (1, .int 3)]) hx hb dX3_weigh_35 hl (by decide) rfl (fun ls hl => ?_)
        refine lv_aload hx hb dX3_weigh_37 (lv_at hl 0 rfl) ?_
        refine lv_ifnull hx hb dX3_weigh_39 ?_
        refine lv_lload_n hx hb dX3_weigh_42 rfl (lv_at hl 4 rfl) ?_
        refine lv_aload hx hb dX3_weigh_43 (lv_at hl 0 rfl) ?_
        refine lv_iload_n hx hb dX3_weigh_45 rfl (lv_at hl 6 rfl) ?_
        refine lv_iconst (v := 1) hx hb dX3_weigh_46 (by decide) ?_
        refine lv_isub hx hb dX3_weigh_47 ?_
        refine cy_topi (y := 2) (by decide) ?_
        refine cy_callp (v := .long (cy_wt σ 3 t)) (rest := [.long x]) (a := (.ref (ad (100 + 2 * t)) :: [.int 2] : List Value).toArray) (by 
            rcases cy_kd3 hok ht with hq | hq | hq
            · exact va_runU (As := [.int 2]) (rest := [.long x]) ⟨hx, hb, hml, hown, hts⟩ (c_X1_weigh l D cI cJ cO z n σ τ pl hi ad hok t ht hq.1 2) (va_cwA 1 hts gX3_weigh_X1_weigh_u23X1 rfl rfl rfl hK.dW (by decide +kernel) ⟨Nat.le_of_ble_eq_true rfl, Nat.le_of_ble_eq_true rfl⟩) (cy_preV hK hI (cy_rv0 hK hI ht hq.1)) rfl rfl hl.1 rfl (lv_room (Nat.le_of_ble_eq_true rfl)) dX3_weigh_48 ⟨Nat.le_of_ble_eq_true rfl, Nat.le_of_ble_eq_true rfl⟩
            · exact va_runU (As := [.int 2]) (rest := [.long x]) ⟨hx, hb, hml, hown, hts⟩ (c_X2_weigh l D cI cJ cO z n σ τ pl hi ad hok t ht hq.1 2) (va_cwA 1 hts gX3_weigh_X2_weigh_u23X2 rfl rfl rfl hK.dW (by decide +kernel) ⟨Nat.le_of_ble_eq_true rfl, Nat.le_of_ble_eq_true rfl⟩) (cy_preV hK hI (cy_rv1 hK hI ht hq.1)) rfl rfl hl.1 rfl (lv_room (Nat.le_of_ble_eq_true rfl)) dX3_weigh_48 ⟨Nat.le_of_ble_eq_true rfl, Nat.le_of_ble_eq_true rfl⟩
            · exact va_runU (As := [.int 2]) (rest := [.long x]) ⟨hx, hb, hml, hown, hts⟩ (c_X3_weigh2 l D cI cJ cO z n σ τ pl hi ad hok t ht hq.1 (by omega)) (va_cwA 1 hts gX3_weigh_X3_weigh_u23X3 rfl rfl rfl hK.dW (by decide +kernel) ⟨Nat.le_of_ble_eq_true rfl, Nat.le_of_ble_eq_true rfl⟩) (cy_preV hK hI (cy_rv2 hK hI ht hq.1)) rfl rfl hl.1 rfl (lv_room (Nat.le_of_ble_eq_true rfl)) dX3_weigh_48 ⟨Nat.le_of_ble_eq_true rfl, Nat.le_of_ble_eq_true rfl⟩) ?_
        refine lv_ladd hx hb dX3_weigh_51 ?_
        refine lv_lstore_n (lv' := [(2, .long (x + (cy_wt σ 3 t))), (7, .ref (ad (100 + 2 * t))), (6, .int (nI i)), (5, .int (nI pk)), (4, .ref (ad (101 + 2 * k))), (0, .ref (ad (100 + 2 * k))), (1, .int 3)]) hx hb dX3_weigh_52 rfl hl (by decide) rfl (fun ls hl => ?_)
        refine lv_iinc (v := nI (i + 1)) (lv' := [(6, .int (nI (i + 1))), (2, .long (x + (cy_wt σ 3 t))), (7, .ref (ad (100 + 2 * t))), (5, .int (nI pk)), (4, .ref (ad (101 + 2 * k))), (0, .ref (ad (100 + 2 * k))), (1, .int 3)]) hx hb dX3_weigh_53 hl (k := 2) rfl (nI_1 _) (by decide) rfl (fun ls hl => ?_)
        refine lv_goto (tgt := 23) hx hb dX3_weigh_56 (by decide) ?_
        exact ih (i + 1) (x + (cy_wt σ 3 t)) ls (by omega) (by rw [← hE]; show _ = x + cy_smL _ ((if _ then _ else _) ++ _); rw [if_neg (by rw [e1]; exact cy_ne1 (by omega)), e1, nI_clamp (by omega)]; show _ = x + (_ + _); ac_rfl) (lv_sub hl [0, 3, 4, 1, 5, 6] rfl)
  exact loop pk 0 0 ls (by omega) (by rw [cy_wt_2 hok hk kdk hpk epk]; simp) (lv_sub hl [0, 1, 2, 3, 4, 5] rfl)

set_option maxHeartbeats 4000000 in
set_option maxRecDepth 100000 in
theorem c_X3_tally2 (l : Launch) (D : va_G) (cI cJ cO : ClassId) (z n : Nat) (σ τ : cy_S) (pl : Nat → Int32) (hi : Int32) (ad : Nat → Nat) (hok : cy_ok n σ) (k : Nat) (hk : k < n) (kdk : cy_kd (σ.1 1 k) = 2) (hrk0 : cy_rk (σ.1 1 k) < 2) (v : Int32) : Met l yX3_tally wsX3_tally { frames := 2, cells := 0, slots := 0, locals := 43 } (cy_P D cI cJ cO (fun H => cy_W D z (cy_CT cI cJ cO n n σ τ pl hi ad) ad H) [.ref (ad (100 + 2 * k)), .int v, .int 2]) (cy_Q (.int (cy_tl σ v 3 k))) 0 0 (fun _ => False) := by
  refine Met.ofW (cc := cX3_tally) (maxL := 8) (ret := (some .int)) (by decide) rfl ?_
  intro p e s m args below meth c s₁ B hml hv
  obtain ⟨rfl, hK, hI⟩ := hv
  have hx := B.exec
  have hb := B.bytes
  have hr := B.returns
  have hts := atoms_spec (ws := wsX3_tally) B.pre
  have hown : s.vm.findClass RX3 = some m.cls := findClass_of_methodNamed B.named
  have hlocks := B.notSynchronized
  have hl := lv_entry ([.ref (ad (100 + 2 * k)), .int v, .int 2]) (n := 8) (Nat.le_of_ble_eq_true rfl)
  rw [lg_entry_eq]
  generalize (lg_sl ([.ref (ad (100 + 2 * k)), .int v, .int 2]) ++ List.replicate (8 - (lg_sl ([.ref (ad (100 + 2 * k)), .int v, .int 2])).length) Slot.unset).toArray = ls at hl ⊢
  have hl : lv_has ls 8 [(0, .ref (ad (100 + 2 * k))), (1, .int v), (2, .int 2)] := hl
  have hin1 := hin1_X3_tally
  have hin2 := hin2_X3_tally
  have hin3 := hin3_X3_tally
  have hn := hok.1
  obtain ⟨pk, hpk, epk⟩ := (hok.2.2.1 k hk).2.1
  rcases cy_kd3 hok hk with hkx | hkx | hkx
  · rw [hkx.1] at kdk; cases kdk
  · rw [hkx.1] at kdk; cases kdk
  have hT := (hok.2.2.1 k hk).2.2.2.2.2 hkx.2.2.2
  refine lv_aload_n hx hb dX3_tally_0 rfl (lv_at hl 0 rfl) ?_
  refine lv_iload_n hx hb dX3_tally_1 rfl (lv_at hl 1 rfl) ?_
  refine cy_callp (v := .int (cy_b (cy_go (σ.1 1 k) v))) (rest := []) (a := (.ref (ad (100 + 2 * k)) :: [.int v] : List Value).toArray) (by exact va_runU (As := [.int v]) (rest := []) ⟨hx, hb, hml, hown, hts⟩ (c_X0_goesAs l D cI cJ cO z n σ τ pl hi ad hok k hk v) (va_cwU 1 hts gX3_tally_X0_goesAs_u27X3 rfl rfl rfl rfl (by decide +kernel) ⟨Nat.le_of_ble_eq_true rfl, Nat.le_of_ble_eq_true rfl⟩) (cy_preV hK hI (cy_rv2 hK hI hk kdk)) rfl rfl hl.1 rfl (lv_room (Nat.le_of_ble_eq_true rfl)) dX3_tally_2 ⟨Nat.le_of_ble_eq_true rfl, Nat.le_of_ble_eq_true rfl⟩) ?_
  have ow : ∀ (x0 : Int32), x0 = cy_b (cy_go (σ.1 1 k) v) → ∀ (ls : Array Slot), lv_has ls 8 [(3, .int x0), (0, .ref (ad (100 + 2 * k))), (1, .int v), (2, .int 2)] → W p l e (headSpec wsX3_tally { frames := 2, cells := 0, slots := 0, locals := 43 }).room s m #[Value.ref (ad (100 + 2 * k)), Value.int v, Value.int 2] below meth c s.heap [] 0 0 (MQ below (cy_Q (.int (cy_tl σ v 3 k))) #[Value.ref (ad (100 + 2 * k)), Value.int v, Value.int 2] s 0 0 (fun _ => False)) (F0 m 14 ls []) := ?_
  · cases bg : cy_go (σ.1 1 k) v
    · refine lv_if_eq (tgt := 12) hx hb dX3_tally_5 (by decide) (fun h6 => ?_) (fun h6 => absurd (by decide) h6)
      refine lv_iconst (v := 0) hx hb dX3_tally_12 (by decide) ?_
      refine lv_istore_n (lv' := [(3, .int 0), (0, .ref (ad (100 + 2 * k))), (1, .int v), (2, .int 2)]) hx hb dX3_tally_13 rfl hl (by decide) rfl (fun ls hl => ?_)
      exact ow _ (by rw [bg]; rfl) ls hl
    · refine lv_if_eq (tgt := 12) hx hb dX3_tally_5 (by decide) (fun h6 => absurd h6 (by decide)) (fun h6 => ?_)
      refine lv_iconst (v := 1) hx hb dX3_tally_8 (by decide) ?_
      refine lv_goto (tgt := 13) hx hb dX3_tally_9 (by decide) ?_
      refine lv_istore_n (lv' := [(3, .int 1), (0, .ref (ad (100 + 2 * k))), (1, .int v), (2, .int 2)]) hx hb dX3_tally_13 rfl hl (by decide) rfl (fun ls hl => ?_)
      exact ow _ (by rw [bg]; rfl) ls hl
  intro x0 ex0 ls hl
  refine lv_iload_n hx hb dX3_tally_14 rfl (lv_at hl 3 rfl) ?_
  refine lv_iconst (v := 1) hx hb dX3_tally_15 (by decide) ?_
  refine lv_icmp_gt (tgt := 21) hx hb dX3_tally_16 (by decide) (fun h1 => ?_) (fun h1 => absurd (by decide) h1)
  refine lv_aload_n hx hb dX3_tally_21 rfl (lv_at hl 1 rfl) ?_
  refine cy_getTp hx hb hts hin3 hown hK hI hk kdk (hts (.fieldLink RX3 9 "CustomsYard$Things" "places" "[LCustomsYard$Load;") (by decide +kernel)) dX3_tally_22 ?_
  refine lv_astore (lv' := [(4, .ref (ad (101 + 2 * k))), (3, .int x0), (0, .ref (ad (100 + 2 * k))), (1, .int v), (2, .int 2)]) hx hb dX3_tally_25 hl (by decide) rfl (fun ls hl => ?_)
  refine lv_aload hx hb dX3_tally_27 (lv_at hl 0 rfl) ?_
  refine cy_alenL hx hb hK hI hk (Or.inr kdk) hpk epk dX3_tally_29 ?_
  refine lv_istore (lv' := [(5, .int (nI pk)), (4, .ref (ad (101 + 2 * k))), (3, .int x0), (0, .ref (ad (100 + 2 * k))), (1, .int v), (2, .int 2)]) hx hb dX3_tally_30 hl (by decide) rfl (fun ls hl => ?_)
  refine lv_iconst (v := 0) hx hb dX3_tally_32 (by decide) ?_
  refine lv_istore (lv' := [(6, .int 0), (5, .int (nI pk)), (4, .ref (ad (101 + 2 * k))), (3, .int x0), (0, .ref (ad (100 + 2 * k))), (1, .int v), (2, .int 2)]) hx hb dX3_tally_33 hl (by decide) rfl (fun ls hl => ?_)
  have loop : ∀ (f i : Nat) (x : Int32) (ls : Array Slot), i + f = pk → x + cy_smI (cy_tl σ v 3) (cy_cf σ k f i) = cy_tl σ v 3 k → lv_has ls 8 [(6, .int (nI i)), (5, .int (nI pk)), (4, .ref (ad (101 + 2 * k))), (3, .int x), (0, .ref (ad (100 + 2 * k))), (1, .int v), (2, .int 2)] → W p l e (headSpec wsX3_tally { frames := 2, cells := 0, slots := 0, locals := 43 }).room s m #[Value.ref (ad (100 + 2 * k)), Value.int v, Value.int 2] below meth c s.heap [] 0 0 (MQ below (cy_Q (.int (cy_tl σ v 3 k))) #[Value.ref (ad (100 + 2 * k)), Value.int v, Value.int 2] s 0 0 (fun _ => False)) (F0 m 35 ls []) := by
    intro f
    induction f with
    | zero =>
      intro i x ls hif hE hl
      obtain rfl : i = pk := by omega
      refine lv_iload hx hb dX3_tally_35 (lv_at hl 0 rfl) ?_
      refine lv_iload hx hb dX3_tally_37 (lv_at hl 1 rfl) ?_
      refine lv_icmp_ge (tgt := 72) hx hb dX3_tally_39 (by decide) (fun h11 => ?_) (fun h11 => absurd (nI_le (Nat.le_refl _) (by omega)) h11)
      refine lv_iload_n hx hb dX3_tally_72 rfl (lv_at hl 3 rfl) ?_
      exact W.iret (v := x) hx hb hr (fun t ht hW => ⟨congrArg (fun q => Outcome.returned (some (Value.int q))) (by rw [← hE]; simp [cy_cf, cy_smI]), ht⟩) (fun q h => by cases h) dX3_tally_73
    | succ f ih =>
      intro i x ls hif hE hl
      refine lv_iload hx hb dX3_tally_35 (lv_at hl 0 rfl) ?_
      refine lv_iload hx hb dX3_tally_37 (lv_at hl 1 rfl) ?_
      refine lv_icmp_ge (tgt := 72) hx hb dX3_tally_39 (by decide) (fun h21 => absurd h21 (nI_ge (by omega) (by omega))) (fun h21 => ?_)
      refine lv_aload hx hb dX3_tally_42 (lv_at hl 2 rfl) ?_
      refine lv_iload hx hb dX3_tally_44 (lv_at hl 0 rfl) ?_
      refine cy_aaldL (i := i) hx hb hK hI hk kdk hpk epk (by omega) dX3_tally_46 ?_
      rcases hT i (by omega) with e1 | ⟨t, ht, e1, hgt⟩
      · refine cy_topq (cy_rf_n e1) ?_
        refine lv_astoreN (lv' := [(7, .null), (6, .int (nI i)), (5, .int (nI pk)), (4, .ref (ad (101 + 2 * k))), (3, .int x), (0, .ref (ad (100 + 2 * k))), (1, .int v), (2, .int 2)]) hx hb dX3_tally_47 hl (by decide) rfl (fun ls hl => ?_)
        refine lv_aloadN hx hb dX3_tally_49 (lv_at hl 0 rfl) ?_
        refine lv_ifnullN (tgt := 66) hx hb dX3_tally_51 (by decide) ?_
        refine lv_iinc (v := nI (i + 1)) (lv' := [(6, .int (nI (i + 1))), (7, .null), (5, .int (nI pk)), (4, .ref (ad (101 + 2 * k))), (3, .int x), (0, .ref (ad (100 + 2 * k))), (1, .int v), (2, .int 2)]) hx hb dX3_tally_66 hl (k := 1) rfl (nI_1 _) (by decide) rfl (fun ls hl => ?_)
        refine lv_goto (tgt := 35) hx hb dX3_tally_69 (by decide) ?_
        exact ih (i + 1) x ls (by omega) (by rw [← hE]; show _ = x + cy_smI _ ((if _ then _ else _) ++ _); rw [if_pos e1]; rfl) (lv_sub hl [0, 2, 3, 4, 5, 6, 7] rfl)
      · have hrk := cy_cf_rk hok hk hkx.2.2.2 ht hgt
        refine cy_topq (cy_rf_s (by omega) e1) ?_
        refine lv_astore (lv' := [(7, .ref (ad (100 + 2 * t))), (6, .int (nI i)), (5, .int (nI pk)), (4, .ref (ad (101 + 2 * k))), (3, .int x), (0, .ref (ad (100 + 2 * k))), (1, .int v), (2, .int 2)]) hx hb dX3_tally_47 hl (by decide) rfl (fun ls hl => ?_)
        refine lv_aload hx hb dX3_tally_49 (lv_at hl 0 rfl) ?_
        refine lv_ifnull hx hb dX3_tally_51 ?_
        refine lv_iload_n hx hb dX3_tally_54 rfl (lv_at hl 4 rfl) ?_
        refine lv_aload hx hb dX3_tally_55 (lv_at hl 0 rfl) ?_
        refine lv_iload_n hx hb dX3_tally_57 rfl (lv_at hl 6 rfl) ?_
        refine lv_iload_n hx hb dX3_tally_58 rfl (lv_at hl 7 rfl) ?_
        refine lv_iconst (v := 1) hx hb dX3_tally_59 (by decide) ?_
        refine lv_isub hx hb dX3_tally_60 ?_
        refine cy_topi (y := 1) (by decide) ?_
        refine cy_callp (v := .int (cy_tl σ v 3 t)) (rest := [.int x]) (a := (.ref (ad (100 + 2 * t)) :: [.int v, .int 1] : List Value).toArray) (by 
            rcases cy_kd3 hok ht with hq | hq | hq
            · exact va_runU (As := [.int v, .int 1]) (rest := [.int x]) ⟨hx, hb, hml, hown, hts⟩ (c_X0_tally l D cI cJ cO z n σ τ pl hi ad hok t ht (by rw [hq.1]; decide) v 1) (va_cwU 2 hts gX3_tally_X0_tally_u31X1 rfl rfl rfl rfl (by decide +kernel) ⟨Nat.le_of_ble_eq_true rfl, Nat.le_of_ble_eq_true rfl⟩) (cy_preV hK hI (cy_rv0 hK hI ht hq.1)) rfl rfl hl.1 rfl (lv_room (Nat.le_of_ble_eq_true rfl)) dX3_tally_61 ⟨Nat.le_of_ble_eq_true rfl, Nat.le_of_ble_eq_true rfl⟩
            · exact va_runU (As := [.int v, .int 1]) (rest := [.int x]) ⟨hx, hb, hml, hown, hts⟩ (c_X0_tally l D cI cJ cO z n σ τ pl hi ad hok t ht (by rw [hq.1]; decide) v 1) (va_cwU 2 hts gX3_tally_X0_tally_u31X2 rfl rfl rfl rfl (by decide +kernel) ⟨Nat.le_of_ble_eq_true rfl, Nat.le_of_ble_eq_true rfl⟩) (cy_preV hK hI (cy_rv1 hK hI ht hq.1)) rfl rfl hl.1 rfl (lv_room (Nat.le_of_ble_eq_true rfl)) dX3_tally_61 ⟨Nat.le_of_ble_eq_true rfl, Nat.le_of_ble_eq_true rfl⟩
            · exact absurd (cy_rk_2 hok ht hq.1) (by omega)) ?_
        refine lv_iadd hx hb dX3_tally_64 ?_
        refine lv_istore_n (lv' := [(3, .int (x + (cy_tl σ v 3 t))), (7, .ref (ad (100 + 2 * t))), (6, .int (nI i)), (5, .int (nI pk)), (4, .ref (ad (101 + 2 * k))), (0, .ref (ad (100 + 2 * k))), (1, .int v), (2, .int 2)]) hx hb dX3_tally_65 rfl hl (by decide) rfl (fun ls hl => ?_)
        refine lv_iinc (v := nI (i + 1)) (lv' := [(6, .int (nI (i + 1))), (3, .int (x + (cy_tl σ v 3 t))), (7, .ref (ad (100 + 2 * t))), (5, .int (nI pk)), (4, .ref (ad (101 + 2 * k))), (0, .ref (ad (100 + 2 * k))), (1, .int v), (2, .int 2)]) hx hb dX3_tally_66 hl (k := 2) rfl (nI_1 _) (by decide) rfl (fun ls hl => ?_)
        refine lv_goto (tgt := 35) hx hb dX3_tally_69 (by decide) ?_
        exact ih (i + 1) (x + (cy_tl σ v 3 t)) ls (by omega) (by rw [← hE]; show _ = x + cy_smI _ ((if _ then _ else _) ++ _); rw [if_neg (by rw [e1]; exact cy_ne1 (by omega)), e1, nI_clamp (by omega)]; show _ = x + (_ + _); ac_rfl) (lv_sub hl [0, 3, 4, 1, 5, 6, 7] rfl)
  exact loop pk 0 x0 ls (by omega) (by rw [cy_tl_2 v hok hk kdk hpk epk, ex0]) (lv_sub hl [0, 1, 2, 3, 4, 5, 6] rfl)

set_option maxHeartbeats 4000000 in
set_option maxRecDepth 100000 in
theorem c_X3_tally3 (l : Launch) (D : va_G) (cI cJ cO : ClassId) (z n : Nat) (σ τ : cy_S) (pl : Nat → Int32) (hi : Int32) (ad : Nat → Nat) (hok : cy_ok n σ) (k : Nat) (hk : k < n) (kdk : cy_kd (σ.1 1 k) = 2) (hrk0 : cy_rk (σ.1 1 k) < 3) (v : Int32) : Met l yX3_tally wsX3_tally { frames := 3, cells := 0, slots := 0, locals := 70 } (cy_P D cI cJ cO (fun H => cy_W D z (cy_CT cI cJ cO n n σ τ pl hi ad) ad H) [.ref (ad (100 + 2 * k)), .int v, .int 3]) (cy_Q (.int (cy_tl σ v 3 k))) 0 0 (fun _ => False) := by
  refine Met.ofW (cc := cX3_tally) (maxL := 8) (ret := (some .int)) (by decide) rfl ?_
  intro p e s m args below meth c s₁ B hml hv
  obtain ⟨rfl, hK, hI⟩ := hv
  have hx := B.exec
  have hb := B.bytes
  have hr := B.returns
  have hts := atoms_spec (ws := wsX3_tally) B.pre
  have hown : s.vm.findClass RX3 = some m.cls := findClass_of_methodNamed B.named
  have hlocks := B.notSynchronized
  have hl := lv_entry ([.ref (ad (100 + 2 * k)), .int v, .int 3]) (n := 8) (Nat.le_of_ble_eq_true rfl)
  rw [lg_entry_eq]
  generalize (lg_sl ([.ref (ad (100 + 2 * k)), .int v, .int 3]) ++ List.replicate (8 - (lg_sl ([.ref (ad (100 + 2 * k)), .int v, .int 3])).length) Slot.unset).toArray = ls at hl ⊢
  have hl : lv_has ls 8 [(0, .ref (ad (100 + 2 * k))), (1, .int v), (2, .int 3)] := hl
  have hin1 := hin1_X3_tally
  have hin2 := hin2_X3_tally
  have hin3 := hin3_X3_tally
  have hn := hok.1
  obtain ⟨pk, hpk, epk⟩ := (hok.2.2.1 k hk).2.1
  rcases cy_kd3 hok hk with hkx | hkx | hkx
  · rw [hkx.1] at kdk; cases kdk
  · rw [hkx.1] at kdk; cases kdk
  have hT := (hok.2.2.1 k hk).2.2.2.2.2 hkx.2.2.2
  refine lv_aload_n hx hb dX3_tally_0 rfl (lv_at hl 0 rfl) ?_
  refine lv_iload_n hx hb dX3_tally_1 rfl (lv_at hl 1 rfl) ?_
  refine cy_callp (v := .int (cy_b (cy_go (σ.1 1 k) v))) (rest := []) (a := (.ref (ad (100 + 2 * k)) :: [.int v] : List Value).toArray) (by exact va_runU (As := [.int v]) (rest := []) ⟨hx, hb, hml, hown, hts⟩ (c_X0_goesAs l D cI cJ cO z n σ τ pl hi ad hok k hk v) (va_cwU 1 hts gX3_tally_X0_goesAs_u27X3 rfl rfl rfl rfl (by decide +kernel) ⟨Nat.le_of_ble_eq_true rfl, Nat.le_of_ble_eq_true rfl⟩) (cy_preV hK hI (cy_rv2 hK hI hk kdk)) rfl rfl hl.1 rfl (lv_room (Nat.le_of_ble_eq_true rfl)) dX3_tally_2 ⟨Nat.le_of_ble_eq_true rfl, Nat.le_of_ble_eq_true rfl⟩) ?_
  have ow : ∀ (x0 : Int32), x0 = cy_b (cy_go (σ.1 1 k) v) → ∀ (ls : Array Slot), lv_has ls 8 [(3, .int x0), (0, .ref (ad (100 + 2 * k))), (1, .int v), (2, .int 3)] → W p l e (headSpec wsX3_tally { frames := 3, cells := 0, slots := 0, locals := 70 }).room s m #[Value.ref (ad (100 + 2 * k)), Value.int v, Value.int 3] below meth c s.heap [] 0 0 (MQ below (cy_Q (.int (cy_tl σ v 3 k))) #[Value.ref (ad (100 + 2 * k)), Value.int v, Value.int 3] s 0 0 (fun _ => False)) (F0 m 14 ls []) := ?_
  · cases bg : cy_go (σ.1 1 k) v
    · refine lv_if_eq (tgt := 12) hx hb dX3_tally_5 (by decide) (fun h6 => ?_) (fun h6 => absurd (by decide) h6)
      refine lv_iconst (v := 0) hx hb dX3_tally_12 (by decide) ?_
      refine lv_istore_n (lv' := [(3, .int 0), (0, .ref (ad (100 + 2 * k))), (1, .int v), (2, .int 3)]) hx hb dX3_tally_13 rfl hl (by decide) rfl (fun ls hl => ?_)
      exact ow _ (by rw [bg]; rfl) ls hl
    · refine lv_if_eq (tgt := 12) hx hb dX3_tally_5 (by decide) (fun h6 => absurd h6 (by decide)) (fun h6 => ?_)
      refine lv_iconst (v := 1) hx hb dX3_tally_8 (by decide) ?_
      refine lv_goto (tgt := 13) hx hb dX3_tally_9 (by decide) ?_
      refine lv_istore_n (lv' := [(3, .int 1), (0, .ref (ad (100 + 2 * k))), (1, .int v), (2, .int 3)]) hx hb dX3_tally_13 rfl hl (by decide) rfl (fun ls hl => ?_)
      exact ow _ (by rw [bg]; rfl) ls hl
  intro x0 ex0 ls hl
  refine lv_iload_n hx hb dX3_tally_14 rfl (lv_at hl 3 rfl) ?_
  refine lv_iconst (v := 1) hx hb dX3_tally_15 (by decide) ?_
  refine lv_icmp_gt (tgt := 21) hx hb dX3_tally_16 (by decide) (fun h1 => ?_) (fun h1 => absurd (by decide) h1)
  refine lv_aload_n hx hb dX3_tally_21 rfl (lv_at hl 1 rfl) ?_
  refine cy_getTp hx hb hts hin3 hown hK hI hk kdk (hts (.fieldLink RX3 9 "CustomsYard$Things" "places" "[LCustomsYard$Load;") (by decide +kernel)) dX3_tally_22 ?_
  refine lv_astore (lv' := [(4, .ref (ad (101 + 2 * k))), (3, .int x0), (0, .ref (ad (100 + 2 * k))), (1, .int v), (2, .int 3)]) hx hb dX3_tally_25 hl (by decide) rfl (fun ls hl => ?_)
  refine lv_aload hx hb dX3_tally_27 (lv_at hl 0 rfl) ?_
  refine cy_alenL hx hb hK hI hk (Or.inr kdk) hpk epk dX3_tally_29 ?_
  refine lv_istore (lv' := [(5, .int (nI pk)), (4, .ref (ad (101 + 2 * k))), (3, .int x0), (0, .ref (ad (100 + 2 * k))), (1, .int v), (2, .int 3)]) hx hb dX3_tally_30 hl (by decide) rfl (fun ls hl => ?_)
  refine lv_iconst (v := 0) hx hb dX3_tally_32 (by decide) ?_
  refine lv_istore (lv' := [(6, .int 0), (5, .int (nI pk)), (4, .ref (ad (101 + 2 * k))), (3, .int x0), (0, .ref (ad (100 + 2 * k))), (1, .int v), (2, .int 3)]) hx hb dX3_tally_33 hl (by decide) rfl (fun ls hl => ?_)
  have loop : ∀ (f i : Nat) (x : Int32) (ls : Array Slot), i + f = pk → x + cy_smI (cy_tl σ v 3) (cy_cf σ k f i) = cy_tl σ v 3 k → lv_has ls 8 [(6, .int (nI i)), (5, .int (nI pk)), (4, .ref (ad (101 + 2 * k))), (3, .int x), (0, .ref (ad (100 + 2 * k))), (1, .int v), (2, .int 3)] → W p l e (headSpec wsX3_tally { frames := 3, cells := 0, slots := 0, locals := 70 }).room s m #[Value.ref (ad (100 + 2 * k)), Value.int v, Value.int 3] below meth c s.heap [] 0 0 (MQ below (cy_Q (.int (cy_tl σ v 3 k))) #[Value.ref (ad (100 + 2 * k)), Value.int v, Value.int 3] s 0 0 (fun _ => False)) (F0 m 35 ls []) := by
    intro f
    induction f with
    | zero =>
      intro i x ls hif hE hl
      obtain rfl : i = pk := by omega
      refine lv_iload hx hb dX3_tally_35 (lv_at hl 0 rfl) ?_
      refine lv_iload hx hb dX3_tally_37 (lv_at hl 1 rfl) ?_
      refine lv_icmp_ge (tgt := 72) hx hb dX3_tally_39 (by decide) (fun h11 => ?_) (fun h11 => absurd (nI_le (Nat.le_refl _) (by omega)) h11)
      refine lv_iload_n hx hb dX3_tally_72 rfl (lv_at hl 3 rfl) ?_
      exact W.iret (v := x) hx hb hr (fun t ht hW => ⟨congrArg (fun q => Outcome.returned (some (Value.int q))) (by rw [← hE]; simp [cy_cf, cy_smI]), ht⟩) (fun q h => by cases h) dX3_tally_73
    | succ f ih =>
      intro i x ls hif hE hl
      refine lv_iload hx hb dX3_tally_35 (lv_at hl 0 rfl) ?_
      refine lv_iload hx hb dX3_tally_37 (lv_at hl 1 rfl) ?_
      refine lv_icmp_ge (tgt := 72) hx hb dX3_tally_39 (by decide) (fun h21 => absurd h21 (nI_ge (by omega) (by omega))) (fun h21 => ?_)
      refine lv_aload hx hb dX3_tally_42 (lv_at hl 2 rfl) ?_
      refine lv_iload hx hb dX3_tally_44 (lv_at hl 0 rfl) ?_
      refine cy_aaldL (i := i) hx hb hK hI hk kdk hpk epk (by omega) dX3_tally_46 ?_
      rcases hT i (by omega) with e1 | ⟨t, ht, e1, hgt⟩
      · refine cy_topq (cy_rf_n e1) ?_
        refine lv_astoreN (lv' := [(7, .null), (6, .int (nI i)), (5, .int (nI pk)), (4, .ref (ad (101 + 2 * k))), (3, .int x), (0, .ref (ad (100 + 2 * k))), (1, .int v), (2, .int 3)]) hx hb dX3_tally_47 hl (by decide) rfl (fun ls hl => ?_)
        refine lv_aloadN hx hb dX3_tally_49 (lv_at hl 0 rfl) ?_
        refine lv_ifnullN (tgt := 66) hx hb dX3_tally_51 (by decide) ?_
        refine lv_iinc (v := nI (i + 1)) (lv' := [(6, .int (nI (i + 1))), (7, .null), (5, .int (nI pk)), (4, .ref (ad (101 + 2 * k))), (3, .int x), (0, .ref (ad (100 + 2 * k))), (1, .int v), (2, .int 3)]) hx hb dX3_tally_66 hl (k := 1) rfl (nI_1 _) (by decide) rfl (fun ls hl => ?_)
        refine lv_goto (tgt := 35) hx hb dX3_tally_69 (by decide) ?_
        exact ih (i + 1) x ls (by omega) (by rw [← hE]; show _ = x + cy_smI _ ((if _ then _ else _) ++ _); rw [if_pos e1]; rfl) (lv_sub hl [0, 2, 3, 4, 5, 6, 7] rfl)
      · have hrk := cy_cf_rk hok hk hkx.2.2.2 ht hgt
        refine cy_topq (cy_rf_s (by omega) e1) ?_
        refine lv_astore (lv' := [(7, .ref (ad (100 + 2 * t))), (6, .int (nI i)), (5, .int (nI pk)), (4, .ref (ad (101 + 2 * k))), (3, .int x), (0, .ref (ad (100 + 2 * k))), (1, .int v), (2, .int 3)]) hx hb dX3_tally_47 hl (by decide) rfl (fun ls hl => ?_)
        refine lv_aload hx hb dX3_tally_49 (lv_at hl 0 rfl) ?_
        refine lv_ifnull hx hb dX3_tally_51 ?_
        refine lv_iload_n hx hb dX3_tally_54 rfl (lv_at hl 4 rfl) ?_
        refine lv_aload hx hb dX3_tally_55 (lv_at hl 0 rfl) ?_
        refine lv_iload_n hx hb dX3_tally_57 rfl (lv_at hl 6 rfl) ?_
        refine lv_iload_n hx hb dX3_tally_58 rfl (lv_at hl 7 rfl) ?_
        refine lv_iconst (v := 1) hx hb dX3_tally_59 (by decide) ?_
        refine lv_isub hx hb dX3_tally_60 ?_
        refine cy_topi (y := 2) (by decide) ?_
        refine cy_callp (v := .int (cy_tl σ v 3 t)) (rest := [.int x]) (a := (.ref (ad (100 + 2 * t)) :: [.int v, .int 2] : List Value).toArray) (by 
            rcases cy_kd3 hok ht with hq | hq | hq
            · exact va_runU (As := [.int v, .int 2]) (rest := [.int x]) ⟨hx, hb, hml, hown, hts⟩ (c_X0_tally l D cI cJ cO z n σ τ pl hi ad hok t ht (by rw [hq.1]; decide) v 2) (va_cwU 2 hts gX3_tally_X0_tally_u31X1 rfl rfl rfl rfl (by decide +kernel) ⟨Nat.le_of_ble_eq_true rfl, Nat.le_of_ble_eq_true rfl⟩) (cy_preV hK hI (cy_rv0 hK hI ht hq.1)) rfl rfl hl.1 rfl (lv_room (Nat.le_of_ble_eq_true rfl)) dX3_tally_61 ⟨Nat.le_of_ble_eq_true rfl, Nat.le_of_ble_eq_true rfl⟩
            · exact va_runU (As := [.int v, .int 2]) (rest := [.int x]) ⟨hx, hb, hml, hown, hts⟩ (c_X0_tally l D cI cJ cO z n σ τ pl hi ad hok t ht (by rw [hq.1]; decide) v 2) (va_cwU 2 hts gX3_tally_X0_tally_u31X2 rfl rfl rfl rfl (by decide +kernel) ⟨Nat.le_of_ble_eq_true rfl, Nat.le_of_ble_eq_true rfl⟩) (cy_preV hK hI (cy_rv1 hK hI ht hq.1)) rfl rfl hl.1 rfl (lv_room (Nat.le_of_ble_eq_true rfl)) dX3_tally_61 ⟨Nat.le_of_ble_eq_true rfl, Nat.le_of_ble_eq_true rfl⟩
            · exact va_runU (As := [.int v, .int 2]) (rest := [.int x]) ⟨hx, hb, hml, hown, hts⟩ (c_X3_tally2 l D cI cJ cO z n σ τ pl hi ad hok t ht hq.1 (by omega) v) (va_cwO 2 hts gX3_tally_X3_tally_u31X3 rfl rfl rfl (b0 := cX0_tally) (m0 := 3) (r0 := some .int) (by decide +kernel) (by decide +kernel) ⟨Nat.le_of_ble_eq_true rfl, Nat.le_of_ble_eq_true rfl⟩) (cy_preV hK hI (cy_rv2 hK hI ht hq.1)) rfl rfl hl.1 rfl (lv_room (Nat.le_of_ble_eq_true rfl)) dX3_tally_61 ⟨Nat.le_of_ble_eq_true rfl, Nat.le_of_ble_eq_true rfl⟩) ?_
        refine lv_iadd hx hb dX3_tally_64 ?_
        refine lv_istore_n (lv' := [(3, .int (x + (cy_tl σ v 3 t))), (7, .ref (ad (100 + 2 * t))), (6, .int (nI i)), (5, .int (nI pk)), (4, .ref (ad (101 + 2 * k))), (0, .ref (ad (100 + 2 * k))), (1, .int v), (2, .int 3)]) hx hb dX3_tally_65 rfl hl (by decide) rfl (fun ls hl => ?_)
        refine lv_iinc (v := nI (i + 1)) (lv' := [(6, .int (nI (i + 1))), (3, .int (x + (cy_tl σ v 3 t))), (7, .ref (ad (100 + 2 * t))), (5, .int (nI pk)), (4, .ref (ad (101 + 2 * k))), (0, .ref (ad (100 + 2 * k))), (1, .int v), (2, .int 3)]) hx hb dX3_tally_66 hl (k := 2) rfl (nI_1 _) (by decide) rfl (fun ls hl => ?_)
        refine lv_goto (tgt := 35) hx hb dX3_tally_69 (by decide) ?_
        exact ih (i + 1) (x + (cy_tl σ v 3 t)) ls (by omega) (by rw [← hE]; show _ = x + cy_smI _ ((if _ then _ else _) ++ _); rw [if_neg (by rw [e1]; exact cy_ne1 (by omega)), e1, nI_clamp (by omega)]; show _ = x + (_ + _); ac_rfl) (lv_sub hl [0, 3, 4, 1, 5, 6, 7] rfl)
  exact loop pk 0 x0 ls (by omega) (by rw [cy_tl_2 v hok hk kdk hpk epk, ex0]) (lv_sub hl [0, 1, 2, 3, 4, 5, 6] rfl)
end
