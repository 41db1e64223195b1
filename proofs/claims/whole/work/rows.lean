section
/-- a private method of a class that the tables say can be made, by its rows of tables_1 -/
def lw_okq (q : MethodName × Nat) : Prop := (q.1.cls ≠ "java/lang/invoke/MethodHandle" ∧ q.1.cls ≠ "java/lang/invoke/VarHandle") ∧ Cond.instantiable q.1.cls q.2 ∈ tables_1 ∧ Cond.privateMethod q.1 ∈ tables_1 ∧ Cond.instanceMethod q.1 ∈ tables_1
theorem lw_p0 : lw_okq (⟨"HairLine", "rank", "(Z)V"⟩, 6) := ⟨⟨by decide +kernel, by decide +kernel⟩, List.mem_of_getElem? (i := 14) (by decide +kernel), List.mem_of_getElem? (i := 356) (by decide +kernel), List.mem_of_getElem? (i := 357) (by decide +kernel)⟩
theorem lw_p1 : lw_okq (⟨"HairLineModel", "isRunner", "(I)Z"⟩, 28) := ⟨⟨by decide +kernel, by decide +kernel⟩, List.mem_of_getElem? (i := 581) (by decide +kernel), List.mem_of_getElem? (i := 686) (by decide +kernel), List.mem_of_getElem? (i := 687) (by decide +kernel)⟩
theorem lw_p2 : lw_okq (⟨"HairLineModel", "numberOf", "(I)I"⟩, 28) := ⟨⟨by decide +kernel, by decide +kernel⟩, List.mem_of_getElem? (i := 581) (by decide +kernel), List.mem_of_getElem? (i := 706) (by decide +kernel), List.mem_of_getElem? (i := 707) (by decide +kernel)⟩
theorem lw_p3 : lw_okq (⟨"HairLineModel", "shown", "(III)I"⟩, 28) := ⟨⟨by decide +kernel, by decide +kernel⟩, List.mem_of_getElem? (i := 581) (by decide +kernel), List.mem_of_getElem? (i := 715) (by decide +kernel), List.mem_of_getElem? (i := 716) (by decide +kernel)⟩
theorem lw_p4 : lw_okq (⟨"HairLineModel", "covers", "(IIII)Z"⟩, 28) := ⟨⟨by decide +kernel, by decide +kernel⟩, List.mem_of_getElem? (i := 581) (by decide +kernel), List.mem_of_getElem? (i := 719) (by decide +kernel), List.mem_of_getElem? (i := 720) (by decide +kernel)⟩
theorem lw_p5 : lw_okq (⟨"HairLineModel", "findFirst", "()V"⟩, 28) := ⟨⟨by decide +kernel, by decide +kernel⟩, List.mem_of_getElem? (i := 581) (by decide +kernel), List.mem_of_getElem? (i := 727) (by decide +kernel), List.mem_of_getElem? (i := 728) (by decide +kernel)⟩
theorem lw_p6 : lw_okq (⟨"HairLineModel", "firstOf", "(III)I"⟩, 28) := ⟨⟨by decide +kernel, by decide +kernel⟩, List.mem_of_getElem? (i := 581) (by decide +kernel), List.mem_of_getElem? (i := 731) (by decide +kernel), List.mem_of_getElem? (i := 732) (by decide +kernel)⟩
theorem lw_p7 : lw_okq (⟨"HairLineModel", "joinedOf", "(I)I"⟩, 28) := ⟨⟨by decide +kernel, by decide +kernel⟩, List.mem_of_getElem? (i := 581) (by decide +kernel), List.mem_of_getElem? (i := 738) (by decide +kernel), List.mem_of_getElem? (i := 739) (by decide +kernel)⟩
theorem lw_p8 : lw_okq (⟨"HairLineModel", "crossed", "(II)I"⟩, 28) := ⟨⟨by decide +kernel, by decide +kernel⟩, List.mem_of_getElem? (i := 581) (by decide +kernel), List.mem_of_getElem? (i := 742) (by decide +kernel), List.mem_of_getElem? (i := 743) (by decide +kernel)⟩
theorem lw_p9 : lw_okq (⟨"HairLineModel", "isHidden", "(I)Z"⟩, 28) := ⟨⟨by decide +kernel, by decide +kernel⟩, List.mem_of_getElem? (i := 581) (by decide +kernel), List.mem_of_getElem? (i := 746) (by decide +kernel), List.mem_of_getElem? (i := 747) (by decide +kernel)⟩
theorem lw_p10 : lw_okq (⟨"HairLineModel", "hasTorso", "(I)Z"⟩, 28) := ⟨⟨by decide +kernel, by decide +kernel⟩, List.mem_of_getElem? (i := 581) (by decide +kernel), List.mem_of_getElem? (i := 750) (by decide +kernel), List.mem_of_getElem? (i := 751) (by decide +kernel)⟩
theorem lw_p11 : lw_okq (⟨"HairLineModel", "hearsOf", "(I)I"⟩, 28) := ⟨⟨by decide +kernel, by decide +kernel⟩, List.mem_of_getElem? (i := 581) (by decide +kernel), List.mem_of_getElem? (i := 754) (by decide +kernel), List.mem_of_getElem? (i := 755) (by decide +kernel)⟩
theorem lw_p12 : lw_okq (⟨"HairLineModel", "findOrder", "(Z)V"⟩, 28) := ⟨⟨by decide +kernel, by decide +kernel⟩, List.mem_of_getElem? (i := 581) (by decide +kernel), List.mem_of_getElem? (i := 769) (by decide +kernel), List.mem_of_getElem? (i := 770) (by decide +kernel)⟩
theorem lw_p13 : lw_okq (⟨"HairLineModel", "timeOf", "(IZ)I"⟩, 28) := ⟨⟨by decide +kernel, by decide +kernel⟩, List.mem_of_getElem? (i := 581) (by decide +kernel), List.mem_of_getElem? (i := 773) (by decide +kernel), List.mem_of_getElem? (i := 774) (by decide +kernel)⟩
theorem lw_p14 : lw_okq (⟨"HairLineModel", "findTrue", "()I"⟩, 28) := ⟨⟨by decide +kernel, by decide +kernel⟩, List.mem_of_getElem? (i := 581) (by decide +kernel), List.mem_of_getElem? (i := 832) (by decide +kernel), List.mem_of_getElem? (i := 833) (by decide +kernel)⟩
theorem lw_p15 : lw_okq (⟨"HairLineModel", "seenBy", "(I)I"⟩, 28) := ⟨⟨by decide +kernel, by decide +kernel⟩, List.mem_of_getElem? (i := 581) (by decide +kernel), List.mem_of_getElem? (i := 889) (by decide +kernel), List.mem_of_getElem? (i := 890) (by decide +kernel)⟩
def lw_privs_1 : List (MethodName × Nat) := [(⟨"HairLine", "rank", "(Z)V"⟩, 6), (⟨"HairLineModel", "isRunner", "(I)Z"⟩, 28), (⟨"HairLineModel", "numberOf", "(I)I"⟩, 28), (⟨"HairLineModel", "shown", "(III)I"⟩, 28), (⟨"HairLineModel", "covers", "(IIII)Z"⟩, 28), (⟨"HairLineModel", "findFirst", "()V"⟩, 28), (⟨"HairLineModel", "firstOf", "(III)I"⟩, 28), (⟨"HairLineModel", "joinedOf", "(I)I"⟩, 28), (⟨"HairLineModel", "crossed", "(II)I"⟩, 28), (⟨"HairLineModel", "isHidden", "(I)Z"⟩, 28), (⟨"HairLineModel", "hasTorso", "(I)Z"⟩, 28), (⟨"HairLineModel", "hearsOf", "(I)I"⟩, 28), (⟨"HairLineModel", "findOrder", "(Z)V"⟩, 28), (⟨"HairLineModel", "timeOf", "(IZ)I"⟩, 28), (⟨"HairLineModel", "findTrue", "()I"⟩, 28), (⟨"HairLineModel", "seenBy", "(I)I"⟩, 28)]
theorem lw_r1 : ∀ q ∈ lw_privs_1, lw_okq q := List.forall_mem_cons.mpr ⟨lw_p0, List.forall_mem_cons.mpr ⟨lw_p1, List.forall_mem_cons.mpr ⟨lw_p2, List.forall_mem_cons.mpr ⟨lw_p3, List.forall_mem_cons.mpr ⟨lw_p4, List.forall_mem_cons.mpr ⟨lw_p5, List.forall_mem_cons.mpr ⟨lw_p6, List.forall_mem_cons.mpr ⟨lw_p7, List.forall_mem_cons.mpr ⟨lw_p8, List.forall_mem_cons.mpr ⟨lw_p9, List.forall_mem_cons.mpr ⟨lw_p10, List.forall_mem_cons.mpr ⟨lw_p11, List.forall_mem_cons.mpr ⟨lw_p12, List.forall_mem_cons.mpr ⟨lw_p13, List.forall_mem_cons.mpr ⟨lw_p14, List.forall_mem_cons.mpr ⟨lw_p15, fun _ h => absurd h List.not_mem_nil⟩⟩⟩⟩⟩⟩⟩⟩⟩⟩⟩⟩⟩⟩⟩⟩
theorem lw_p16 : lw_okq (⟨"HairLineModel", "untold", "(I)I"⟩, 28) := ⟨⟨by decide +kernel, by decide +kernel⟩, List.mem_of_getElem? (i := 581) (by decide +kernel), List.mem_of_getElem? (i := 893) (by decide +kernel), List.mem_of_getElem? (i := 894) (by decide +kernel)⟩
def lw_privs_2 : List (MethodName × Nat) := [(⟨"HairLineModel", "untold", "(I)I"⟩, 28)]
theorem lw_r2 : ∀ q ∈ lw_privs_2, lw_okq q := List.forall_mem_cons.mpr ⟨lw_p16, fun _ h => absurd h List.not_mem_nil⟩
def lw_privs : List (MethodName × Nat) := lw_privs_1 ++ (lw_privs_2)
def lw_tbl : List Cond := k2_sels lw_privs ++ tables_1
theorem lw_privs_ok : ∀ q ∈ lw_privs, lw_okq q := by
  show ∀ q ∈ lw_privs_1 ++ (lw_privs_2), lw_okq q
  exact List.forall_mem_append.mpr ⟨lw_r1, lw_r2⟩
end
section
def RX0 : String := "HairLine$Lines"
def TX0 : u_T := fun k => match k with
  | 0 => ("HairLine$Lines", "fact", "[I", true)
  | 1 => ("HairLine$Lines", "relation", "[I", true)
  | 2 => ("HairLine$Lines", "factor", "[I", true)
  | 3 => ("HairLine$Lines", "bound", "[I", true)
  | _ => ("HairLine$Lines", "count", "I", false)
def tyX0 : Nat → FieldType := fun k => match k with
  | 0 => .array .int
  | 1 => .array .int
  | 2 => .array .int
  | 3 => .array .int
  | _ => .int
theorem nmX0 : ∀ a, a < 5 → ∀ b, b < 5 → a ≠ b → (TX0 a).2.1 ≠ (TX0 b).2.1 := by decide +kernel
theorem tyX0_ok : ∀ k, k < 5 → parseFieldDescriptor (TX0 k).2.2.1 = some (tyX0 k) := by decide +kernel
abbrev cX0_init : ByteArray := prog_2_method_1_code
def yX0_init : MethodName := ⟨RX0, "<init>", "()V"⟩
abbrev cX0_read : ByteArray := prog_2_method_2_code
def yX0_read : MethodName := ⟨RX0, "read", "(LHairLine$Signs;)V"⟩
abbrev cX0_take : ByteArray := prog_2_method_3_code
def yX0_take : MethodName := ⟨RX0, "take", "(I)V"⟩
abbrev cX0_open : ByteArray := prog_2_method_4_code
def yX0_open : MethodName := ⟨RX0, "open", "(I)V"⟩
abbrev cX0_isSo : ByteArray := prog_2_method_5_code
def yX0_isSo : MethodName := ⟨RX0, "isSo", "(II)Z"⟩
def RX1 : String := "HairLine$Panel"
def TX1 : u_T := fun k => match k with
  | 0 => ("HairLine$Panel", "spans", "[LHairLine$Span;", true)
  | 1 => ("HairLine$Panel", "said", "[I", true)
  | _ => ("HairLine$Panel", "truth", "LHairLine$Span;", true)
def tyX1 : Nat → FieldType := fun k => match k with
  | 0 => .array (.object "HairLine$Span")
  | 1 => .array .int
  | _ => .object "HairLine$Span"
theorem nmX1 : ∀ a, a < 3 → ∀ b, b < 3 → a ≠ b → (TX1 a).2.1 ≠ (TX1 b).2.1 := by decide +kernel
theorem tyX1_ok : ∀ k, k < 3 → parseFieldDescriptor (TX1 k).2.2.1 = some (tyX1 k) := by decide +kernel
abbrev cX1_init : ByteArray := prog_3_method_1_code
def yX1_init : MethodName := ⟨RX1, "<init>", "()V"⟩
abbrev cX1_agree : ByteArray := prog_3_method_2_code
def yX1_agree : MethodName := ⟨RX1, "agree", "()I"⟩
def RX2 : String := "HairLine$Rack"
def TX2 : u_T := fun k => match k with
  | 0 => ("HairLine$Rack", "sides", "[I", true)
  | 1 => ("HairLine$Rack", "rows", "[I", true)
  | 2 => ("HairLine$Rack", "lanesSeen", "[I", true)
  | _ => ("HairLine$Rack", "count", "I", false)
def tyX2 : Nat → FieldType := fun k => match k with
  | 0 => .array .int
  | 1 => .array .int
  | 2 => .array .int
  | _ => .int
theorem nmX2 : ∀ a, a < 4 → ∀ b, b < 4 → a ≠ b → (TX2 a).2.1 ≠ (TX2 b).2.1 := by decide +kernel
theorem tyX2_ok : ∀ k, k < 4 → parseFieldDescriptor (TX2 k).2.2.1 = some (tyX2 k) := by decide +kernel
abbrev cX2_init : ByteArray := prog_4_method_1_code
def yX2_init : MethodName := ⟨RX2, "<init>", "()V"⟩
abbrev cX2_add : ByteArray := prog_4_method_2_code
def yX2_add : MethodName := ⟨RX2, "add", "(II)I"⟩
abbrev cX2_look : ByteArray := prog_4_method_3_code
def yX2_look : MethodName := ⟨RX2, "look", "(LHairLine$Track;)V"⟩
abbrev cX2_catches : ByteArray := prog_4_method_4_code
def yX2_catches : MethodName := ⟨RX2, "catches", "(IILHairLine$Track;)Z"⟩
abbrev cX2_seenBy : ByteArray := prog_4_method_5_code
def yX2_seenBy : MethodName := ⟨RX2, "seenBy", "(I)I"⟩
def RX3 : String := "HairLine$Ranking"
def TX3 : u_T := fun k => match k with
  | 0 => ("HairLine$Ranking", "lanes", "[I", true)
  | 1 => ("HairLine$Ranking", "keys", "[I", true)
  | _ => ("HairLine$Ranking", "size", "I", false)
def tyX3 : Nat → FieldType := fun k => match k with
  | 0 => .array .int
  | 1 => .array .int
  | _ => .int
theorem nmX3 : ∀ a, a < 3 → ∀ b, b < 3 → a ≠ b → (TX3 a).2.1 ≠ (TX3 b).2.1 := by decide +kernel
theorem tyX3_ok : ∀ k, k < 3 → parseFieldDescriptor (TX3 k).2.2.1 = some (tyX3 k) := by decide +kernel
abbrev cX3_init : ByteArray := prog_5_method_1_code
def yX3_init : MethodName := ⟨RX3, "<init>", "()V"⟩
abbrev cX3_add : ByteArray := prog_5_method_2_code
def yX3_add : MethodName := ⟨RX3, "add", "(II)V"⟩
abbrev cX3_at : ByteArray := prog_5_method_3_code
def yX3_at : MethodName := ⟨RX3, "at", "(I)I"⟩
abbrev cX3_placeOf : ByteArray := prog_5_method_4_code
def yX3_placeOf : MethodName := ⟨RX3, "placeOf", "(III)I"⟩
def RX4 : String := "HairLine$Runner"
def TX4 : u_T := fun k => match k with
  | 0 => ("HairLine$Runner", "from", "[I", true)
  | 1 => ("HairLine$Runner", "to", "[I", true)
  | 2 => ("HairLine$Runner", "begin", "I", false)
  | 3 => ("HairLine$Runner", "speed", "I", false)
  | _ => ("HairLine$Runner", "pushed", "I", false)
def tyX4 : Nat → FieldType := fun k => match k with
  | 0 => .array .int
  | 1 => .array .int
  | 2 => .int
  | 3 => .int
  | _ => .int
theorem nmX4 : ∀ a, a < 5 → ∀ b, b < 5 → a ≠ b → (TX4 a).2.1 ≠ (TX4 b).2.1 := by decide +kernel
theorem tyX4_ok : ∀ k, k < 5 → parseFieldDescriptor (TX4 k).2.2.1 = some (tyX4 k) := by decide +kernel
abbrev cX4_init : ByteArray := prog_6_method_1_code
def yX4_init : MethodName := ⟨RX4, "<init>", "()V"⟩
abbrev cX4_grow : ByteArray := prog_6_method_2_code
def yX4_grow : MethodName := ⟨RX4, "grow", "(IIII)V"⟩
abbrev cX4_covers : ByteArray := prog_6_method_3_code
def yX4_covers : MethodName := ⟨RX4, "covers", "(IIII)Z"⟩
abbrev cX4_hasTorso : ByteArray := prog_6_method_4_code
def yX4_hasTorso : MethodName := ⟨RX4, "hasTorso", "()Z"⟩
abbrev cX4_firstOver : ByteArray := prog_6_method_5_code
def yX4_firstOver : MethodName := ⟨RX4, "firstOver", "(III)I"⟩
abbrev cX4_lastOver : ByteArray := prog_6_method_6_code
def yX4_lastOver : MethodName := ⟨RX4, "lastOver", "(III)I"⟩
abbrev cX4_columnsOver : ByteArray := prog_6_method_7_code
def yX4_columnsOver : MethodName := ⟨RX4, "columnsOver", "(III)I"⟩
abbrev cX4_crossing : ByteArray := prog_6_method_8_code
def yX4_crossing : MethodName := ⟨RX4, "crossing", "(I)I"⟩
def RX5 : String := "HairLine$Signs"
def TX5 : u_T := fun k => match k with
  | 0 => ("HairLine$Signs", "codes", "[I", true)
  | _ => ("HairLine$Signs", "count", "I", false)
def tyX5 : Nat → FieldType := fun k => match k with
  | 0 => .array .int
  | _ => .int
theorem nmX5 : ∀ a, a < 2 → ∀ b, b < 2 → a ≠ b → (TX5 a).2.1 ≠ (TX5 b).2.1 := by decide +kernel
theorem tyX5_ok : ∀ k, k < 2 → parseFieldDescriptor (TX5 k).2.2.1 = some (tyX5 k) := by decide +kernel
abbrev cX5_init : ByteArray := prog_7_method_1_code
def yX5_init : MethodName := ⟨RX5, "<init>", "()V"⟩
abbrev cX5_add : ByteArray := prog_7_method_2_code
def yX5_add : MethodName := ⟨RX5, "add", "(I)I"⟩
abbrev cX5_firstFault : ByteArray := prog_7_method_3_code
def yX5_firstFault : MethodName := ⟨RX5, "firstFault", "()I"⟩
abbrev cX5_next : ByteArray := prog_7_method_4_code
def yX5_next : MethodName := ⟨RX5, "next", "(II)I"⟩
abbrev cX5_afterDigit : ByteArray := prog_7_method_5_code
def yX5_afterDigit : MethodName := ⟨RX5, "afterDigit", "(II)I"⟩
abbrev cX5_isFactSign : ByteArray := prog_7_method_6_code
def yX5_isFactSign : MethodName := ⟨RX5, "isFactSign", "(I)Z"⟩
abbrev cX5_isRelation : ByteArray := prog_7_method_7_code
def yX5_isRelation : MethodName := ⟨RX5, "isRelation", "(I)Z"⟩
abbrev cX5_isDigit : ByteArray := prog_7_method_8_code
def yX5_isDigit : MethodName := ⟨RX5, "isDigit", "(I)Z"⟩
def RX6 : String := "HairLine$Span"
def TX6 : u_T := fun k => match k with
  | 0 => ("HairLine$Span", "least", "I", false)
  | _ => ("HairLine$Span", "greatest", "I", false)
def tyX6 : Nat → FieldType := fun k => match k with
  | 0 => .int
  | _ => .int
theorem nmX6 : ∀ a, a < 2 → ∀ b, b < 2 → a ≠ b → (TX6 a).2.1 ≠ (TX6 b).2.1 := by decide +kernel
theorem tyX6_ok : ∀ k, k < 2 → parseFieldDescriptor (TX6 k).2.2.1 = some (tyX6 k) := by decide +kernel
abbrev cX6_init : ByteArray := prog_8_method_1_code
def yX6_init : MethodName := ⟨RX6, "<init>", "()V"⟩
abbrev cX6_put : ByteArray := prog_8_method_2_code
def yX6_put : MethodName := ⟨RX6, "put", "(II)V"⟩
abbrev cX6_narrow : ByteArray := prog_8_method_3_code
def yX6_narrow : MethodName := ⟨RX6, "narrow", "(II)Z"⟩
abbrev cX6_end : ByteArray := prog_8_method_4_code
def yX6_end : MethodName := ⟨RX6, "end", "(I)I"⟩
def RX7 : String := "HairLine$Track"
def TX7 : u_T := fun k => match k with
  | 0 => ("HairLine$Track", "runners", "[LHairLine$Runner;", true)
  | 1 => ("HairLine$Track", "settings", "[I", true)
  | _ => ("HairLine$Track", "count", "I", false)
def tyX7 : Nat → FieldType := fun k => match k with
  | 0 => .array (.object "HairLine$Runner")
  | 1 => .array .int
  | _ => .int
theorem nmX7 : ∀ a, a < 3 → ∀ b, b < 3 → a ≠ b → (TX7 a).2.1 ≠ (TX7 b).2.1 := by decide +kernel
theorem tyX7_ok : ∀ k, k < 3 → parseFieldDescriptor (TX7 k).2.2.1 = some (tyX7 k) := by decide +kernel
abbrev cX7_init : ByteArray := prog_9_method_1_code
def yX7_init : MethodName := ⟨RX7, "<init>", "()V"⟩
abbrev cX7_has : ByteArray := prog_9_method_2_code
def yX7_has : MethodName := ⟨RX7, "has", "(I)Z"⟩
abbrev cX7_enter : ByteArray := prog_9_method_3_code
def yX7_enter : MethodName := ⟨RX7, "enter", "(II)I"⟩
abbrev cX7_slitPlace : ByteArray := prog_9_method_4_code
def yX7_slitPlace : MethodName := ⟨RX7, "slitPlace", "(I)I"⟩
abbrev cX7_film : ByteArray := prog_9_method_5_code
def yX7_film : MethodName := ⟨RX7, "film", "(III)I"⟩
abbrev cX7_hair : ByteArray := prog_9_method_6_code
def yX7_hair : MethodName := ⟨RX7, "hair", "(II)I"⟩
abbrev cX7_firstShown : ByteArray := prog_9_method_7_code
def yX7_firstShown : MethodName := ⟨RX7, "firstShown", "(III)I"⟩
abbrev cX7_joined : ByteArray := prog_9_method_8_code
def yX7_joined : MethodName := ⟨RX7, "joined", "(I)I"⟩
abbrev cX7_leaned : ByteArray := prog_9_method_9_code
def yX7_leaned : MethodName := ⟨RX7, "leaned", "(I)I"⟩
abbrev cX7_isHidden : ByteArray := prog_9_method_10_code
def yX7_isHidden : MethodName := ⟨RX7, "isHidden", "(I)Z"⟩
abbrev cX7_hears : ByteArray := prog_9_method_11_code
def yX7_hears : MethodName := ⟨RX7, "hears", "(I)I"⟩
abbrev cX7_early : ByteArray := prog_9_method_12_code
def yX7_early : MethodName := ⟨RX7, "early", "(I)I"⟩
abbrev cX7_areMoved : ByteArray := prog_9_method_13_code
def yX7_areMoved : MethodName := ⟨RX7, "areMoved", "(II)Z"⟩
abbrev cX7_countTorsos : ByteArray := prog_9_method_14_code
def yX7_countTorsos : MethodName := ⟨RX7, "countTorsos", "()I"⟩
def RX8 : String := "HairLine"
def TX8 : u_T := fun k => match k with
  | 0 => ("HairLine", "track", "LHairLine$Track;", true)
  | 1 => ("HairLine", "ranking", "LHairLine$Ranking;", true)
  | 2 => ("HairLine", "panel", "LHairLine$Panel;", true)
  | 3 => ("HairLine", "signs", "LHairLine$Signs;", true)
  | 4 => ("HairLine", "lines", "LHairLine$Lines;", true)
  | _ => ("HairLine", "rack", "LHairLine$Rack;", true)
def tyX8 : Nat → FieldType := fun k => match k with
  | 0 => .object "HairLine$Track"
  | 1 => .object "HairLine$Ranking"
  | 2 => .object "HairLine$Panel"
  | 3 => .object "HairLine$Signs"
  | 4 => .object "HairLine$Lines"
  | _ => .object "HairLine$Rack"
theorem nmX8 : ∀ a, a < 6 → ∀ b, b < 6 → a ≠ b → (TX8 a).2.1 ≠ (TX8 b).2.1 := by decide +kernel
theorem tyX8_ok : ∀ k, k < 6 → parseFieldDescriptor (TX8 k).2.2.1 = some (tyX8 k) := by decide +kernel
abbrev cX8_init : ByteArray := prog_1_method_1_code
def yX8_init : MethodName := ⟨RX8, "<init>", "()V"⟩
abbrev cX8_runner : ByteArray := prog_1_method_2_code
def yX8_runner : MethodName := ⟨RX8, "runner", "(II)I"⟩
abbrev cX8_shape : ByteArray := prog_1_method_3_code
def yX8_shape : MethodName := ⟨RX8, "shape", "(IIIII)I"⟩
abbrev cX8_set : ByteArray := prog_1_method_4_code
def yX8_set : MethodName := ⟨RX8, "set", "(II)I"⟩
abbrev cX8_shows : ByteArray := prog_1_method_5_code
def yX8_shows : MethodName := ⟨RX8, "shows", "(III)I"⟩
abbrev cX8_of : ByteArray := prog_1_method_6_code
def yX8_of : MethodName := ⟨RX8, "of", "(II)I"⟩
abbrev cX8_moved : ByteArray := prog_1_method_7_code
def yX8_moved : MethodName := ⟨RX8, "moved", "(I)I"⟩
abbrev cX8_order : ByteArray := prog_1_method_8_code
def yX8_order : MethodName := ⟨RX8, "order", "(I)I"⟩
abbrev cX8_place : ByteArray := prog_1_method_9_code
def yX8_place : MethodName := ⟨RX8, "place", "(II)I"⟩
abbrev cX8_stretch : ByteArray := prog_1_method_10_code
def yX8_stretch : MethodName := ⟨RX8, "stretch", "(II)I"⟩
abbrev cX8_speeds : ByteArray := prog_1_method_11_code
def yX8_speeds : MethodName := ⟨RX8, "speeds", "(III)I"⟩
abbrev cX8_push : ByteArray := prog_1_method_12_code
def yX8_push : MethodName := ⟨RX8, "push", "(II)I"⟩
abbrev cX8_mended : ByteArray := prog_1_method_13_code
def yX8_mended : MethodName := ⟨RX8, "mended", "(I)I"⟩
abbrev cX8_wrong : ByteArray := prog_1_method_14_code
def yX8_wrong : MethodName := ⟨RX8, "wrong", "(IIII)J"⟩
abbrev cX8_known : ByteArray := prog_1_method_15_code
def yX8_known : MethodName := ⟨RX8, "known", "(III)I"⟩
abbrev cX8_late : ByteArray := prog_1_method_16_code
def yX8_late : MethodName := ⟨RX8, "late", "(II)I"⟩
abbrev cX8_tell : ByteArray := prog_1_method_17_code
def yX8_tell : MethodName := ⟨RX8, "tell", "(II)I"⟩
abbrev cX8_time : ByteArray := prog_1_method_18_code
def yX8_time : MethodName := ⟨RX8, "time", "(I)I"⟩
abbrev cX8_old : ByteArray := prog_1_method_19_code
def yX8_old : MethodName := ⟨RX8, "old", "(I)I"⟩
abbrev cX8_say : ByteArray := prog_1_method_20_code
def yX8_say : MethodName := ⟨RX8, "say", "(I)I"⟩
abbrev cX8_wipe : ByteArray := prog_1_method_21_code
def yX8_wipe : MethodName := ⟨RX8, "wipe", "()I"⟩
abbrev cX8_fault : ByteArray := prog_1_method_22_code
def yX8_fault : MethodName := ⟨RX8, "fault", "()I"⟩
abbrev cX8_rule : ByteArray := prog_1_method_23_code
def yX8_rule : MethodName := ⟨RX8, "rule", "()I"⟩
abbrev cX8_record : ByteArray := prog_1_method_24_code
def yX8_record : MethodName := ⟨RX8, "record", "(IIII)I"⟩
abbrev cX8_slit : ByteArray := prog_1_method_25_code
def yX8_slit : MethodName := ⟨RX8, "slit", "(II)I"⟩
abbrev cX8_seen : ByteArray := prog_1_method_26_code
def yX8_seen : MethodName := ⟨RX8, "seen", "(II)I"⟩
abbrev cX8_best : ByteArray := prog_1_method_27_code
def yX8_best : MethodName := ⟨RX8, "best", "(II)I"⟩
abbrev cX8_told : ByteArray := prog_1_method_28_code
def yX8_told : MethodName := ⟨RX8, "told", "(I)I"⟩
abbrev cX8_within : ByteArray := prog_1_method_29_code
def yX8_within : MethodName := ⟨RX8, "within", "(III)Z"⟩
abbrev cX8_isEither : ByteArray := prog_1_method_30_code
def yX8_isEither : MethodName := ⟨RX8, "isEither", "(I)Z"⟩
abbrev cX8_isRow : ByteArray := prog_1_method_31_code
def yX8_isRow : MethodName := ⟨RX8, "isRow", "(I)Z"⟩
abbrev cX8_isJudge : ByteArray := prog_1_method_32_code
def yX8_isJudge : MethodName := ⟨RX8, "isJudge", "(I)Z"⟩
abbrev cX8_isFact : ByteArray := prog_1_method_33_code
def yX8_isFact : MethodName := ⟨RX8, "isFact", "(I)Z"⟩
abbrev cX8_orNone : ByteArray := prog_1_method_34_code
def yX8_orNone : MethodName := ⟨RX8, "orNone", "(I)I"⟩
abbrev cX8_torsoMark : ByteArray := prog_1_method_35_code
def yX8_torsoMark : MethodName := ⟨RX8, "torsoMark", "(I)I"⟩
abbrev cX8_floorQuotient : ByteArray := prog_1_method_36_code
def yX8_floorQuotient : MethodName := ⟨RX8, "floorQuotient", "(II)I"⟩
abbrev cX8_ceilQuotient : ByteArray := prog_1_method_37_code
def yX8_ceilQuotient : MethodName := ⟨RX8, "ceilQuotient", "(II)I"⟩
abbrev cX8_power : ByteArray := prog_1_method_38_code
def yX8_power : MethodName := ⟨RX8, "power", "(JI)J"⟩
abbrev cX8_commonDivisor : ByteArray := prog_1_method_39_code
def yX8_commonDivisor : MethodName := ⟨RX8, "commonDivisor", "(JJ)J"⟩
abbrev cX8_canStretch : ByteArray := prog_1_method_40_code
def yX8_canStretch : MethodName := ⟨RX8, "canStretch", "(III)Z"⟩
abbrev cX8_chosen : ByteArray := prog_1_method_41_code
def yX8_chosen : MethodName := ⟨RX8, "chosen", "(IIIII)I"⟩
abbrev cX8_pairsOf : ByteArray := prog_1_method_42_code
def yX8_pairsOf : MethodName := ⟨RX8, "pairsOf", "(I)I"⟩
abbrev cX8_untold : ByteArray := prog_1_method_43_code
def yX8_untold : MethodName := ⟨RX8, "untold", "(II)I"⟩
abbrev cX8_rank : ByteArray := prog_1_method_44_code
def yX8_rank : MethodName := ⟨RX8, "rank", "(Z)V"⟩
def RX9 : String := "HairLineModel"
def TX9 : u_T := fun k => match k with
  | 0 => ("HairLineModel", "begins", "[I", true)
  | 1 => ("HairLineModel", "speedOf", "[I", true)
  | 2 => ("HairLineModel", "isShape", "[Z", true)
  | 3 => ("HairLineModel", "shapeFrom", "[I", true)
  | 4 => ("HairLineModel", "shapeTo", "[I", true)
  | 5 => ("HairLineModel", "pushes", "[I", true)
  | 6 => ("HairLineModel", "runners", "I", false)
  | 7 => ("HairLineModel", "leanIs", "I", false)
  | 8 => ("HairLineModel", "readIs", "I", false)
  | 9 => ("HairLineModel", "earIs", "I", false)
  | 10 => ("HairLineModel", "gunIs", "I", false)
  | 11 => ("HairLineModel", "firstAt", "[I", true)
  | 12 => ("HairLineModel", "ordered", "[I", true)
  | 13 => ("HairLineModel", "orderMany", "I", false)
  | 14 => ("HairLineModel", "lateFrom", "[I", true)
  | 15 => ("HairLineModel", "lateTo", "[I", true)
  | 16 => ("HairLineModel", "told", "[I", true)
  | 17 => ("HairLineModel", "trueFrom", "I", false)
  | 18 => ("HairLineModel", "trueTo", "I", false)
  | 19 => ("HairLineModel", "signs", "[I", true)
  | 20 => ("HairLineModel", "signMany", "I", false)
  | 21 => ("HairLineModel", "factOf", "[I", true)
  | 22 => ("HairLineModel", "howOf", "[I", true)
  | 23 => ("HairLineModel", "numberIs", "[I", true)
  | 24 => ("HairLineModel", "lines", "I", false)
  | 25 => ("HairLineModel", "slitSide", "[I", true)
  | 26 => ("HairLineModel", "slitRows", "[I", true)
  | _ => ("HairLineModel", "slits", "I", false)
def tyX9 : Nat → FieldType := fun k => match k with
  | 0 => .array .int
  | 1 => .array .int
  | 2 => .array .boolean
  | 3 => .array .int
  | 4 => .array .int
  | 5 => .array .int
  | 6 => .int
  | 7 => .int
  | 8 => .int
  | 9 => .int
  | 10 => .int
  | 11 => .array .int
  | 12 => .array .int
  | 13 => .int
  | 14 => .array .int
  | 15 => .array .int
  | 16 => .array .int
  | 17 => .int
  | 18 => .int
  | 19 => .array .int
  | 20 => .int
  | 21 => .array .int
  | 22 => .array .int
  | 23 => .array .int
  | 24 => .int
  | 25 => .array .int
  | 26 => .array .int
  | _ => .int
theorem nmX9 : ∀ a, a < 28 → ∀ b, b < 28 → a ≠ b → (TX9 a).2.1 ≠ (TX9 b).2.1 := by decide +kernel
theorem tyX9_ok : ∀ k, k < 28 → parseFieldDescriptor (TX9 k).2.2.1 = some (tyX9 k) := by decide +kernel
abbrev cX9_init : ByteArray := prog_11_method_1_code
def yX9_init : MethodName := ⟨RX9, "<init>", "()V"⟩
abbrev cX9_in : ByteArray := prog_11_method_3_code
def yX9_in : MethodName := ⟨RX9, "in", "(JJJ)Z"⟩
abbrev cX9_ones : ByteArray := prog_11_method_4_code
def yX9_ones : MethodName := ⟨RX9, "ones", "(I)I"⟩
abbrev cX9_isRunner : ByteArray := prog_11_method_5_code
def yX9_isRunner : MethodName := ⟨RX9, "isRunner", "(I)Z"⟩
abbrev cX9_isRow : ByteArray := prog_11_method_6_code
def yX9_isRow : MethodName := ⟨RX9, "isRow", "(I)Z"⟩
abbrev cX9_shapeAt : ByteArray := prog_11_method_7_code
def yX9_shapeAt : MethodName := ⟨RX9, "shapeAt", "(III)I"⟩
abbrev cX9_runner : ByteArray := prog_11_method_8_code
def yX9_runner : MethodName := ⟨RX9, "runner", "(II)I"⟩
abbrev cX9_shape : ByteArray := prog_11_method_9_code
def yX9_shape : MethodName := ⟨RX9, "shape", "(IIIII)I"⟩
abbrev cX9_numberOf : ByteArray := prog_11_method_10_code
def yX9_numberOf : MethodName := ⟨RX9, "numberOf", "(I)I"⟩
abbrev cX9_set : ByteArray := prog_11_method_11_code
def yX9_set : MethodName := ⟨RX9, "set", "(II)I"⟩
abbrev cX9_covers : ByteArray := prog_11_method_12_code
def yX9_covers : MethodName := ⟨RX9, "covers", "(IIII)Z"⟩
abbrev cX9_shown : ByteArray := prog_11_method_13_code
def yX9_shown : MethodName := ⟨RX9, "shown", "(III)I"⟩
abbrev cX9_shows : ByteArray := prog_11_method_14_code
def yX9_shows : MethodName := ⟨RX9, "shows", "(III)I"⟩
abbrev cX9_findFirst : ByteArray := prog_11_method_15_code
def yX9_findFirst : MethodName := ⟨RX9, "findFirst", "()V"⟩
abbrev cX9_sooner : ByteArray := prog_11_method_16_code
def yX9_sooner : MethodName := ⟨RX9, "sooner", "(II)I"⟩
abbrev cX9_firstOf : ByteArray := prog_11_method_17_code
def yX9_firstOf : MethodName := ⟨RX9, "firstOf", "(III)I"⟩
abbrev cX9_joinedOf : ByteArray := prog_11_method_18_code
def yX9_joinedOf : MethodName := ⟨RX9, "joinedOf", "(I)I"⟩
abbrev cX9_crossed : ByteArray := prog_11_method_19_code
def yX9_crossed : MethodName := ⟨RX9, "crossed", "(II)I"⟩
abbrev cX9_hasTorso : ByteArray := prog_11_method_20_code
def yX9_hasTorso : MethodName := ⟨RX9, "hasTorso", "(I)Z"⟩
abbrev cX9_isHidden : ByteArray := prog_11_method_21_code
def yX9_isHidden : MethodName := ⟨RX9, "isHidden", "(I)Z"⟩
abbrev cX9_hearsOf : ByteArray := prog_11_method_22_code
def yX9_hearsOf : MethodName := ⟨RX9, "hearsOf", "(I)I"⟩
abbrev cX9_of : ByteArray := prog_11_method_23_code
def yX9_of : MethodName := ⟨RX9, "of", "(II)I"⟩
abbrev cX9_sign : ByteArray := prog_11_method_24_code
def yX9_sign : MethodName := ⟨RX9, "sign", "(I)I"⟩
abbrev cX9_moved : ByteArray := prog_11_method_25_code
def yX9_moved : MethodName := ⟨RX9, "moved", "(I)I"⟩
abbrev cX9_findOrder : ByteArray := prog_11_method_26_code
def yX9_findOrder : MethodName := ⟨RX9, "findOrder", "(Z)V"⟩
abbrev cX9_timeOf : ByteArray := prog_11_method_27_code
def yX9_timeOf : MethodName := ⟨RX9, "timeOf", "(IZ)I"⟩
abbrev cX9_order : ByteArray := prog_11_method_28_code
def yX9_order : MethodName := ⟨RX9, "order", "(I)I"⟩
abbrev cX9_place : ByteArray := prog_11_method_29_code
def yX9_place : MethodName := ⟨RX9, "place", "(II)I"⟩
abbrev cX9_stretch : ByteArray := prog_11_method_30_code
def yX9_stretch : MethodName := ⟨RX9, "stretch", "(II)I"⟩
abbrev cX9_speeds : ByteArray := prog_11_method_31_code
def yX9_speeds : MethodName := ⟨RX9, "speeds", "(III)I"⟩
abbrev cX9_push : ByteArray := prog_11_method_32_code
def yX9_push : MethodName := ⟨RX9, "push", "(II)I"⟩
abbrev cX9_mended : ByteArray := prog_11_method_33_code
def yX9_mended : MethodName := ⟨RX9, "mended", "(I)I"⟩
abbrev cX9_power : ByteArray := prog_11_method_34_code
def yX9_power : MethodName := ⟨RX9, "power", "(JI)J"⟩
abbrev cX9_wrong : ByteArray := prog_11_method_35_code
def yX9_wrong : MethodName := ⟨RX9, "wrong", "(IIII)J"⟩
abbrev cX9_isJudge : ByteArray := prog_11_method_36_code
def yX9_isJudge : MethodName := ⟨RX9, "isJudge", "(I)Z"⟩
abbrev cX9_isTime : ByteArray := prog_11_method_37_code
def yX9_isTime : MethodName := ⟨RX9, "isTime", "(I)Z"⟩
abbrev cX9_known : ByteArray := prog_11_method_38_code
def yX9_known : MethodName := ⟨RX9, "known", "(III)I"⟩
abbrev cX9_late : ByteArray := prog_11_method_39_code
def yX9_late : MethodName := ⟨RX9, "late", "(II)I"⟩
abbrev cX9_tell : ByteArray := prog_11_method_40_code
def yX9_tell : MethodName := ⟨RX9, "tell", "(II)I"⟩
abbrev cX9_findTrue : ByteArray := prog_11_method_41_code
def yX9_findTrue : MethodName := ⟨RX9, "findTrue", "()I"⟩
abbrev cX9_time : ByteArray := prog_11_method_42_code
def yX9_time : MethodName := ⟨RX9, "time", "(I)I"⟩
abbrev cX9_old : ByteArray := prog_11_method_43_code
def yX9_old : MethodName := ⟨RX9, "old", "(I)I"⟩
abbrev cX9_say : ByteArray := prog_11_method_44_code
def yX9_say : MethodName := ⟨RX9, "say", "(I)I"⟩
abbrev cX9_wipe : ByteArray := prog_11_method_45_code
def yX9_wipe : MethodName := ⟨RX9, "wipe", "()I"⟩
abbrev cX9_isFact : ByteArray := prog_11_method_46_code
def yX9_isFact : MethodName := ⟨RX9, "isFact", "(I)Z"⟩
abbrev cX9_isHow : ByteArray := prog_11_method_47_code
def yX9_isHow : MethodName := ⟨RX9, "isHow", "(I)Z"⟩
abbrev cX9_stepOf : ByteArray := prog_11_method_48_code
def yX9_stepOf : MethodName := ⟨RX9, "stepOf", "(II)I"⟩
abbrev cX9_fault : ByteArray := prog_11_method_49_code
def yX9_fault : MethodName := ⟨RX9, "fault", "()I"⟩
abbrev cX9_rule : ByteArray := prog_11_method_50_code
def yX9_rule : MethodName := ⟨RX9, "rule", "()I"⟩
abbrev cX9_isNumber : ByteArray := prog_11_method_51_code
def yX9_isNumber : MethodName := ⟨RX9, "isNumber", "(I)Z"⟩
abbrev cX9_record : ByteArray := prog_11_method_52_code
def yX9_record : MethodName := ⟨RX9, "record", "(IIII)I"⟩
abbrev cX9_slit : ByteArray := prog_11_method_53_code
def yX9_slit : MethodName := ⟨RX9, "slit", "(II)I"⟩
abbrev cX9_seenBy : ByteArray := prog_11_method_54_code
def yX9_seenBy : MethodName := ⟨RX9, "seenBy", "(I)I"⟩
abbrev cX9_untold : ByteArray := prog_11_method_55_code
def yX9_untold : MethodName := ⟨RX9, "untold", "(I)I"⟩
abbrev cX9_seen : ByteArray := prog_11_method_56_code
def yX9_seen : MethodName := ⟨RX9, "seen", "(II)I"⟩
abbrev cX9_best : ByteArray := prog_11_method_57_code
def yX9_best : MethodName := ⟨RX9, "best", "(II)I"⟩
abbrev cX9_told : ByteArray := prog_11_method_58_code
def yX9_told : MethodName := ⟨RX9, "told", "(I)I"⟩
def RJ6 : String := "java/lang/Integer"
def TJ6 : u_T := fun k => match k with
  | _ => ("", "", "", false)
def tyJ6 : Nat → FieldType := fun k => match k with
  | _ => .int
theorem nmJ6 : ∀ a, a < 0 → ∀ b, b < 0 → a ≠ b → (TJ6 a).2.1 ≠ (TJ6 b).2.1 := by decide +kernel
theorem tyJ6_ok : ∀ k, k < 0 → parseFieldDescriptor (TJ6 k).2.2.1 = some (tyJ6 k) := by decide +kernel
abbrev cJ6_compare_7cf53 : ByteArray := prog_12_method_40_code
def yJ6_compare_7cf53 : MethodName := ⟨RJ6, "compare", "(II)I"⟩
abbrev cJ6_bitCount_0f7a4 : ByteArray := prog_12_method_49_code
def yJ6_bitCount_0f7a4 : MethodName := ⟨RJ6, "bitCount", "(I)I"⟩
def RJ9 : String := "java/lang/Math"
def TJ9 : u_T := fun k => match k with
  | _ => ("", "", "", false)
def tyJ9 : Nat → FieldType := fun k => match k with
  | _ => .int
theorem nmJ9 : ∀ a, a < 0 → ∀ b, b < 0 → a ≠ b → (TJ9 a).2.1 ≠ (TJ9 b).2.1 := by decide +kernel
theorem tyJ9_ok : ∀ k, k < 0 → parseFieldDescriptor (TJ9 k).2.2.1 = some (tyJ9 k) := by decide +kernel
abbrev cJ9_floorDiv_7cf53 : ByteArray := prog_13_method_47_code
def yJ9_floorDiv_7cf53 : MethodName := ⟨RJ9, "floorDiv", "(II)I"⟩
abbrev cJ9_max_7cf53 : ByteArray := prog_13_method_65_code
def yJ9_max_7cf53 : MethodName := ⟨RJ9, "max", "(II)I"⟩
abbrev cJ9_min_7cf53 : ByteArray := prog_13_method_69_code
def yJ9_min_7cf53 : MethodName := ⟨RJ9, "min", "(II)I"⟩
def RL : String := "HairLineLaw"
abbrev cL_law : ByteArray := code
def yL_law : MethodName := ⟨RL, "law", "([I)Z"⟩
abbrev vwCl : List vw_C := [(RX0, TX0, 5), (RX1, TX1, 3), (RX2, TX2, 4), (RX3, TX3, 3), (RX4, TX4, 5), (RX5, TX5, 2), (RX6, TX6, 2), (RX7, TX7, 3), (RX8, TX8, 6), (RX9, TX9, 28)]
end
section
theorem dX0_init_0 : decode cX0_init 0 = .ok (.aload_n 0, 1) := by decide +kernel
theorem dX0_init_1 : decode cX0_init 1 = .ok (.invokespecial 3, 3) := by decide +kernel
theorem dX0_init_4 : decode cX0_init 4 = .ok (.aload_n 0, 1) := by decide +kernel
theorem dX0_init_5 : decode cX0_init 5 = .ok (.bipush 8, 2) := by decide +kernel
theorem dX0_init_7 : decode cX0_init 7 = .ok (.newarray .int, 2) := by decide +kernel
theorem dX0_init_9 : decode cX0_init 9 = .ok (.putfield 9, 3) := by decide +kernel
theorem dX0_init_12 : decode cX0_init 12 = .ok (.aload_n 0, 1) := by decide +kernel
theorem dX0_init_13 : decode cX0_init 13 = .ok (.bipush 8, 2) := by decide +kernel
theorem dX0_init_15 : decode cX0_init 15 = .ok (.newarray .int, 2) := by decide +kernel
theorem dX0_init_17 : decode cX0_init 17 = .ok (.putfield 15, 3) := by decide +kernel
theorem dX0_init_20 : decode cX0_init 20 = .ok (.aload_n 0, 1) := by decide +kernel
theorem dX0_init_21 : decode cX0_init 21 = .ok (.bipush 8, 2) := by decide +kernel
theorem dX0_init_23 : decode cX0_init 23 = .ok (.newarray .int, 2) := by decide +kernel
theorem dX0_init_25 : decode cX0_init 25 = .ok (.putfield 18, 3) := by decide +kernel
theorem dX0_init_28 : decode cX0_init 28 = .ok (.aload_n 0, 1) := by decide +kernel
theorem dX0_init_29 : decode cX0_init 29 = .ok (.bipush 8, 2) := by decide +kernel
theorem dX0_init_31 : decode cX0_init 31 = .ok (.newarray .int, 2) := by decide +kernel
theorem dX0_init_33 : decode cX0_init 33 = .ok (.putfield 21, 3) := by decide +kernel
theorem dX0_init_36 : decode cX0_init 36 = .ok (.return_, 1) := by decide +kernel
theorem dX0_read_0 : decode cX0_read 0 = .ok (.aload_n 0, 1) := by decide +kernel
theorem dX0_read_1 : decode cX0_read 1 = .ok (.iconst 0, 1) := by decide +kernel
theorem dX0_read_2 : decode cX0_read 2 = .ok (.putfield 24, 3) := by decide +kernel
theorem dX0_read_5 : decode cX0_read 5 = .ok (.iconst 0, 1) := by decide +kernel
theorem dX0_read_6 : decode cX0_read 6 = .ok (.istore_n 2, 1) := by decide +kernel
theorem dX0_read_7 : decode cX0_read 7 = .ok (.iload_n 2, 1) := by decide +kernel
theorem dX0_read_8 : decode cX0_read 8 = .ok (.aload_n 1, 1) := by decide +kernel
theorem dX0_read_9 : decode cX0_read 9 = .ok (.getfield 28, 3) := by decide +kernel
theorem dX0_read_12 : decode cX0_read 12 = .ok (.if_icmp .ge 19, 3) := by decide +kernel
theorem dX0_read_15 : decode cX0_read 15 = .ok (.aload_n 0, 1) := by decide +kernel
theorem dX0_read_16 : decode cX0_read 16 = .ok (.aload_n 1, 1) := by decide +kernel
theorem dX0_read_17 : decode cX0_read 17 = .ok (.getfield 31, 3) := by decide +kernel
theorem dX0_read_20 : decode cX0_read 20 = .ok (.iload_n 2, 1) := by decide +kernel
theorem dX0_read_21 : decode cX0_read 21 = .ok (.iaload, 1) := by decide +kernel
theorem dX0_read_22 : decode cX0_read 22 = .ok (.invokevirtual 34, 3) := by decide +kernel
theorem dX0_read_25 : decode cX0_read 25 = .ok (.iinc 2 1, 3) := by decide +kernel
theorem dX0_read_28 : decode cX0_read 28 = .ok (.goto (-21), 3) := by decide +kernel
theorem dX0_read_31 : decode cX0_read 31 = .ok (.return_, 1) := by decide +kernel
theorem dX0_take_0 : decode cX0_take 0 = .ok (.iload_n 1, 1) := by decide +kernel
theorem dX0_take_1 : decode cX0_take 1 = .ok (.invokestatic 38, 3) := by decide +kernel
theorem dX0_take_4 : decode cX0_take 4 = .ok (.ifCond .eq 9, 3) := by decide +kernel
theorem dX0_take_7 : decode cX0_take 7 = .ok (.aload_n 0, 1) := by decide +kernel
theorem dX0_take_8 : decode cX0_take 8 = .ok (.iload_n 1, 1) := by decide +kernel
theorem dX0_take_9 : decode cX0_take 9 = .ok (.invokevirtual 42, 3) := by decide +kernel
theorem dX0_take_12 : decode cX0_take 12 = .ok (.return_, 1) := by decide +kernel
theorem dX0_take_13 : decode cX0_take 13 = .ok (.aload_n 0, 1) := by decide +kernel
theorem dX0_take_14 : decode cX0_take 14 = .ok (.getfield 24, 3) := by decide +kernel
theorem dX0_take_17 : decode cX0_take 17 = .ok (.iconst 1, 1) := by decide +kernel
theorem dX0_take_18 : decode cX0_take 18 = .ok (.isub, 1) := by decide +kernel
theorem dX0_take_19 : decode cX0_take 19 = .ok (.istore_n 2, 1) := by decide +kernel
theorem dX0_take_20 : decode cX0_take 20 = .ok (.iload_n 2, 1) := by decide +kernel
theorem dX0_take_21 : decode cX0_take 21 = .ok (.ifCond .ge 4, 3) := by decide +kernel
theorem dX0_take_24 : decode cX0_take 24 = .ok (.return_, 1) := by decide +kernel
theorem dX0_take_25 : decode cX0_take 25 = .ok (.iload_n 1, 1) := by decide +kernel
theorem dX0_take_26 : decode cX0_take 26 = .ok (.invokestatic 45, 3) := by decide +kernel
theorem dX0_take_29 : decode cX0_take 29 = .ok (.ifCond .eq 13, 3) := by decide +kernel
theorem dX0_take_32 : decode cX0_take 32 = .ok (.aload_n 0, 1) := by decide +kernel
theorem dX0_take_33 : decode cX0_take 33 = .ok (.getfield 15, 3) := by decide +kernel
theorem dX0_take_36 : decode cX0_take 36 = .ok (.iload_n 2, 1) := by decide +kernel
theorem dX0_take_37 : decode cX0_take 37 = .ok (.iload_n 1, 1) := by decide +kernel
theorem dX0_take_38 : decode cX0_take 38 = .ok (.iastore, 1) := by decide +kernel
theorem dX0_take_39 : decode cX0_take 39 = .ok (.goto 46, 3) := by decide +kernel
theorem dX0_take_42 : decode cX0_take 42 = .ok (.iload_n 1, 1) := by decide +kernel
theorem dX0_take_43 : decode cX0_take 43 = .ok (.bipush 45, 2) := by decide +kernel
theorem dX0_take_45 : decode cX0_take 45 = .ok (.if_icmp .ne 13, 3) := by decide +kernel
theorem dX0_take_48 : decode cX0_take 48 = .ok (.aload_n 0, 1) := by decide +kernel
theorem dX0_take_49 : decode cX0_take 49 = .ok (.getfield 18, 3) := by decide +kernel
theorem dX0_take_52 : decode cX0_take 52 = .ok (.iload_n 2, 1) := by decide +kernel
theorem dX0_take_53 : decode cX0_take 53 = .ok (.iconst (-1), 1) := by decide +kernel
theorem dX0_take_54 : decode cX0_take 54 = .ok (.iastore, 1) := by decide +kernel
theorem dX0_take_55 : decode cX0_take 55 = .ok (.goto 30, 3) := by decide +kernel
theorem dX0_take_58 : decode cX0_take 58 = .ok (.iload_n 1, 1) := by decide +kernel
theorem dX0_take_59 : decode cX0_take 59 = .ok (.invokestatic 48, 3) := by decide +kernel
theorem dX0_take_62 : decode cX0_take 62 = .ok (.ifCond .eq 23, 3) := by decide +kernel
theorem dX0_take_65 : decode cX0_take 65 = .ok (.aload_n 0, 1) := by decide +kernel
theorem dX0_take_66 : decode cX0_take 66 = .ok (.getfield 21, 3) := by decide +kernel
theorem dX0_take_69 : decode cX0_take 69 = .ok (.iload_n 2, 1) := by decide +kernel
theorem dX0_take_70 : decode cX0_take 70 = .ok (.bipush 10, 2) := by decide +kernel
theorem dX0_take_72 : decode cX0_take 72 = .ok (.aload_n 0, 1) := by decide +kernel
theorem dX0_take_73 : decode cX0_take 73 = .ok (.getfield 21, 3) := by decide +kernel
theorem dX0_take_76 : decode cX0_take 76 = .ok (.iload_n 2, 1) := by decide +kernel
theorem dX0_take_77 : decode cX0_take 77 = .ok (.iaload, 1) := by decide +kernel
theorem dX0_take_78 : decode cX0_take 78 = .ok (.imul, 1) := by decide +kernel
theorem dX0_take_79 : decode cX0_take 79 = .ok (.iload_n 1, 1) := by decide +kernel
theorem dX0_take_80 : decode cX0_take 80 = .ok (.iadd, 1) := by decide +kernel
theorem dX0_take_81 : decode cX0_take 81 = .ok (.bipush 48, 2) := by decide +kernel
theorem dX0_take_83 : decode cX0_take 83 = .ok (.isub, 1) := by decide +kernel
theorem dX0_take_84 : decode cX0_take 84 = .ok (.iastore, 1) := by decide +kernel
theorem dX0_take_85 : decode cX0_take 85 = .ok (.return_, 1) := by decide +kernel
theorem dX0_open_0 : decode cX0_open 0 = .ok (.aload_n 0, 1) := by decide +kernel
theorem dX0_open_1 : decode cX0_open 1 = .ok (.getfield 24, 3) := by decide +kernel
theorem dX0_open_4 : decode cX0_open 4 = .ok (.bipush 8, 2) := by decide +kernel
theorem dX0_open_6 : decode cX0_open 6 = .ok (.if_icmp .lt 4, 3) := by decide +kernel
theorem dX0_open_9 : decode cX0_open 9 = .ok (.return_, 1) := by decide +kernel
theorem dX0_open_10 : decode cX0_open 10 = .ok (.aload_n 0, 1) := by decide +kernel
theorem dX0_open_11 : decode cX0_open 11 = .ok (.getfield 9, 3) := by decide +kernel
theorem dX0_open_14 : decode cX0_open 14 = .ok (.aload_n 0, 1) := by decide +kernel
theorem dX0_open_15 : decode cX0_open 15 = .ok (.getfield 24, 3) := by decide +kernel
theorem dX0_open_18 : decode cX0_open 18 = .ok (.iload_n 1, 1) := by decide +kernel
theorem dX0_open_19 : decode cX0_open 19 = .ok (.iastore, 1) := by decide +kernel
theorem dX0_open_20 : decode cX0_open 20 = .ok (.aload_n 0, 1) := by decide +kernel
theorem dX0_open_21 : decode cX0_open 21 = .ok (.getfield 18, 3) := by decide +kernel
theorem dX0_open_24 : decode cX0_open 24 = .ok (.aload_n 0, 1) := by decide +kernel
theorem dX0_open_25 : decode cX0_open 25 = .ok (.getfield 24, 3) := by decide +kernel
theorem dX0_open_28 : decode cX0_open 28 = .ok (.iconst 1, 1) := by decide +kernel
theorem dX0_open_29 : decode cX0_open 29 = .ok (.iastore, 1) := by decide +kernel
theorem dX0_open_30 : decode cX0_open 30 = .ok (.aload_n 0, 1) := by decide +kernel
theorem dX0_open_31 : decode cX0_open 31 = .ok (.getfield 21, 3) := by decide +kernel
theorem dX0_open_34 : decode cX0_open 34 = .ok (.aload_n 0, 1) := by decide +kernel
theorem dX0_open_35 : decode cX0_open 35 = .ok (.getfield 24, 3) := by decide +kernel
theorem dX0_open_38 : decode cX0_open 38 = .ok (.iconst 0, 1) := by decide +kernel
theorem dX0_open_39 : decode cX0_open 39 = .ok (.iastore, 1) := by decide +kernel
theorem dX0_open_40 : decode cX0_open 40 = .ok (.aload_n 0, 1) := by decide +kernel
theorem dX0_open_41 : decode cX0_open 41 = .ok (.dup, 1) := by decide +kernel
theorem dX0_open_42 : decode cX0_open 42 = .ok (.getfield 24, 3) := by decide +kernel
theorem dX0_open_45 : decode cX0_open 45 = .ok (.iconst 1, 1) := by decide +kernel
theorem dX0_open_46 : decode cX0_open 46 = .ok (.iadd, 1) := by decide +kernel
theorem dX0_open_47 : decode cX0_open 47 = .ok (.putfield 24, 3) := by decide +kernel
theorem dX0_open_50 : decode cX0_open 50 = .ok (.return_, 1) := by decide +kernel
theorem dX0_isSo_0 : decode cX0_isSo 0 = .ok (.aload_n 0, 1) := by decide +kernel
theorem dX0_isSo_1 : decode cX0_isSo 1 = .ok (.getfield 18, 3) := by decide +kernel
theorem dX0_isSo_4 : decode cX0_isSo 4 = .ok (.iload_n 1, 1) := by decide +kernel
theorem dX0_isSo_5 : decode cX0_isSo 5 = .ok (.iaload, 1) := by decide +kernel
theorem dX0_isSo_6 : decode cX0_isSo 6 = .ok (.aload_n 0, 1) := by decide +kernel
theorem dX0_isSo_7 : decode cX0_isSo 7 = .ok (.getfield 21, 3) := by decide +kernel
theorem dX0_isSo_10 : decode cX0_isSo 10 = .ok (.iload_n 1, 1) := by decide +kernel
theorem dX0_isSo_11 : decode cX0_isSo 11 = .ok (.iaload, 1) := by decide +kernel
theorem dX0_isSo_12 : decode cX0_isSo 12 = .ok (.imul, 1) := by decide +kernel
theorem dX0_isSo_13 : decode cX0_isSo 13 = .ok (.istore_n 3, 1) := by decide +kernel
theorem dX0_isSo_14 : decode cX0_isSo 14 = .ok (.aload_n 0, 1) := by decide +kernel
theorem dX0_isSo_15 : decode cX0_isSo 15 = .ok (.getfield 15, 3) := by decide +kernel
theorem dX0_isSo_18 : decode cX0_isSo 18 = .ok (.iload_n 1, 1) := by decide +kernel
theorem dX0_isSo_19 : decode cX0_isSo 19 = .ok (.iaload, 1) := by decide +kernel
theorem dX0_isSo_20 : decode cX0_isSo 20 = .ok (.lookupswitch 50 #[(60, 28), (62, 39)], 28) := by decide +kernel
theorem dX0_isSo_48 : decode cX0_isSo 48 = .ok (.iload_n 2, 1) := by decide +kernel
theorem dX0_isSo_49 : decode cX0_isSo 49 = .ok (.iload_n 3, 1) := by decide +kernel
theorem dX0_isSo_50 : decode cX0_isSo 50 = .ok (.if_icmp .ge 7, 3) := by decide +kernel
theorem dX0_isSo_53 : decode cX0_isSo 53 = .ok (.iconst 1, 1) := by decide +kernel
theorem dX0_isSo_54 : decode cX0_isSo 54 = .ok (.goto 4, 3) := by decide +kernel
theorem dX0_isSo_57 : decode cX0_isSo 57 = .ok (.iconst 0, 1) := by decide +kernel
theorem dX0_isSo_58 : decode cX0_isSo 58 = .ok (.ireturn, 1) := by decide +kernel
theorem dX0_isSo_59 : decode cX0_isSo 59 = .ok (.iload_n 2, 1) := by decide +kernel
theorem dX0_isSo_60 : decode cX0_isSo 60 = .ok (.iload_n 3, 1) := by decide +kernel
theorem dX0_isSo_61 : decode cX0_isSo 61 = .ok (.if_icmp .le 7, 3) := by decide +kernel
theorem dX0_isSo_64 : decode cX0_isSo 64 = .ok (.iconst 1, 1) := by decide +kernel
theorem dX0_isSo_65 : decode cX0_isSo 65 = .ok (.goto 4, 3) := by decide +kernel
theorem dX0_isSo_68 : decode cX0_isSo 68 = .ok (.iconst 0, 1) := by decide +kernel
theorem dX0_isSo_69 : decode cX0_isSo 69 = .ok (.ireturn, 1) := by decide +kernel
theorem dX0_isSo_70 : decode cX0_isSo 70 = .ok (.iload_n 2, 1) := by decide +kernel
theorem dX0_isSo_71 : decode cX0_isSo 71 = .ok (.iload_n 3, 1) := by decide +kernel
theorem dX0_isSo_72 : decode cX0_isSo 72 = .ok (.if_icmp .ne 7, 3) := by decide +kernel
theorem dX0_isSo_75 : decode cX0_isSo 75 = .ok (.iconst 1, 1) := by decide +kernel
theorem dX0_isSo_76 : decode cX0_isSo 76 = .ok (.goto 4, 3) := by decide +kernel
theorem dX0_isSo_79 : decode cX0_isSo 79 = .ok (.iconst 0, 1) := by decide +kernel
theorem dX0_isSo_80 : decode cX0_isSo 80 = .ok (.ireturn, 1) := by decide +kernel
theorem dX1_init_0 : decode cX1_init 0 = .ok (.aload_n 0, 1) := by decide +kernel
theorem dX1_init_1 : decode cX1_init 1 = .ok (.invokespecial 3, 3) := by decide +kernel
theorem dX1_init_4 : decode cX1_init 4 = .ok (.aload_n 0, 1) := by decide +kernel
theorem dX1_init_5 : decode cX1_init 5 = .ok (.iconst 4, 1) := by decide +kernel
theorem dX1_init_6 : decode cX1_init 6 = .ok (.anewarray 9, 3) := by decide +kernel
theorem dX1_init_9 : decode cX1_init 9 = .ok (.putfield 11, 3) := by decide +kernel
theorem dX1_init_12 : decode cX1_init 12 = .ok (.aload_n 0, 1) := by decide +kernel
theorem dX1_init_13 : decode cX1_init 13 = .ok (.iconst 4, 1) := by decide +kernel
theorem dX1_init_14 : decode cX1_init 14 = .ok (.newarray .int, 2) := by decide +kernel
theorem dX1_init_16 : decode cX1_init 16 = .ok (.putfield 17, 3) := by decide +kernel
theorem dX1_init_19 : decode cX1_init 19 = .ok (.aload_n 0, 1) := by decide +kernel
theorem dX1_init_20 : decode cX1_init 20 = .ok (.new 9, 3) := by decide +kernel
theorem dX1_init_23 : decode cX1_init 23 = .ok (.dup, 1) := by decide +kernel
theorem dX1_init_24 : decode cX1_init 24 = .ok (.invokespecial 21, 3) := by decide +kernel
theorem dX1_init_27 : decode cX1_init 27 = .ok (.putfield 22, 3) := by decide +kernel
theorem dX1_init_30 : decode cX1_init 30 = .ok (.iconst 0, 1) := by decide +kernel
theorem dX1_init_31 : decode cX1_init 31 = .ok (.istore_n 1, 1) := by decide +kernel
theorem dX1_init_32 : decode cX1_init 32 = .ok (.iload_n 1, 1) := by decide +kernel
theorem dX1_init_33 : decode cX1_init 33 = .ok (.iconst 4, 1) := by decide +kernel
theorem dX1_init_34 : decode cX1_init 34 = .ok (.if_icmp .ge 42, 3) := by decide +kernel
theorem dX1_init_37 : decode cX1_init 37 = .ok (.aload_n 0, 1) := by decide +kernel
theorem dX1_init_38 : decode cX1_init 38 = .ok (.getfield 11, 3) := by decide +kernel
theorem dX1_init_41 : decode cX1_init 41 = .ok (.iload_n 1, 1) := by decide +kernel
theorem dX1_init_42 : decode cX1_init 42 = .ok (.new 9, 3) := by decide +kernel
theorem dX1_init_45 : decode cX1_init 45 = .ok (.dup, 1) := by decide +kernel
theorem dX1_init_46 : decode cX1_init 46 = .ok (.invokespecial 21, 3) := by decide +kernel
theorem dX1_init_49 : decode cX1_init 49 = .ok (.aastore, 1) := by decide +kernel
theorem dX1_init_50 : decode cX1_init 50 = .ok (.aload_n 0, 1) := by decide +kernel
theorem dX1_init_51 : decode cX1_init 51 = .ok (.getfield 11, 3) := by decide +kernel
theorem dX1_init_54 : decode cX1_init 54 = .ok (.iload_n 1, 1) := by decide +kernel
theorem dX1_init_55 : decode cX1_init 55 = .ok (.aaload, 1) := by decide +kernel
theorem dX1_init_56 : decode cX1_init 56 = .ok (.iconst 0, 1) := by decide +kernel
theorem dX1_init_57 : decode cX1_init 57 = .ok (.bipush 50, 2) := by decide +kernel
theorem dX1_init_59 : decode cX1_init 59 = .ok (.invokevirtual 26, 3) := by decide +kernel
theorem dX1_init_62 : decode cX1_init 62 = .ok (.aload_n 0, 1) := by decide +kernel
theorem dX1_init_63 : decode cX1_init 63 = .ok (.getfield 17, 3) := by decide +kernel
theorem dX1_init_66 : decode cX1_init 66 = .ok (.iload_n 1, 1) := by decide +kernel
theorem dX1_init_67 : decode cX1_init 67 = .ok (.bipush (-6), 2) := by decide +kernel
theorem dX1_init_69 : decode cX1_init 69 = .ok (.iastore, 1) := by decide +kernel
theorem dX1_init_70 : decode cX1_init 70 = .ok (.iinc 1 1, 3) := by decide +kernel
theorem dX1_init_73 : decode cX1_init 73 = .ok (.goto (-41), 3) := by decide +kernel
theorem dX1_init_76 : decode cX1_init 76 = .ok (.return_, 1) := by decide +kernel
theorem dX1_agree_0 : decode cX1_agree 0 = .ok (.iconst 0, 1) := by decide +kernel
theorem dX1_agree_1 : decode cX1_agree 1 = .ok (.istore_n 1, 1) := by decide +kernel
theorem dX1_agree_2 : decode cX1_agree 2 = .ok (.aload_n 0, 1) := by decide +kernel
theorem dX1_agree_3 : decode cX1_agree 3 = .ok (.getfield 22, 3) := by decide +kernel
theorem dX1_agree_6 : decode cX1_agree 6 = .ok (.ldc 30, 2) := by decide +kernel
theorem dX1_agree_8 : decode cX1_agree 8 = .ok (.ldc 31, 2) := by decide +kernel
theorem dX1_agree_10 : decode cX1_agree 10 = .ok (.invokevirtual 26, 3) := by decide +kernel
theorem dX1_agree_13 : decode cX1_agree 13 = .ok (.iconst 0, 1) := by decide +kernel
theorem dX1_agree_14 : decode cX1_agree 14 = .ok (.istore_n 2, 1) := by decide +kernel
theorem dX1_agree_15 : decode cX1_agree 15 = .ok (.iload_n 2, 1) := by decide +kernel
theorem dX1_agree_16 : decode cX1_agree 16 = .ok (.iconst 4, 1) := by decide +kernel
theorem dX1_agree_17 : decode cX1_agree 17 = .ok (.if_icmp .ge 65, 3) := by decide +kernel
theorem dX1_agree_20 : decode cX1_agree 20 = .ok (.aload_n 0, 1) := by decide +kernel
theorem dX1_agree_21 : decode cX1_agree 21 = .ok (.getfield 17, 3) := by decide +kernel
theorem dX1_agree_24 : decode cX1_agree 24 = .ok (.iload_n 2, 1) := by decide +kernel
theorem dX1_agree_25 : decode cX1_agree 25 = .ok (.iaload, 1) := by decide +kernel
theorem dX1_agree_26 : decode cX1_agree 26 = .ok (.bipush (-6), 2) := by decide +kernel
theorem dX1_agree_28 : decode cX1_agree 28 = .ok (.if_icmp .eq 48, 3) := by decide +kernel
theorem dX1_agree_31 : decode cX1_agree 31 = .ok (.iinc 1 1, 3) := by decide +kernel
theorem dX1_agree_34 : decode cX1_agree 34 = .ok (.aload_n 0, 1) := by decide +kernel
theorem dX1_agree_35 : decode cX1_agree 35 = .ok (.getfield 11, 3) := by decide +kernel
theorem dX1_agree_38 : decode cX1_agree 38 = .ok (.iload_n 2, 1) := by decide +kernel
theorem dX1_agree_39 : decode cX1_agree 39 = .ok (.aaload, 1) := by decide +kernel
theorem dX1_agree_40 : decode cX1_agree 40 = .ok (.astore_n 3, 1) := by decide +kernel
theorem dX1_agree_41 : decode cX1_agree 41 = .ok (.aload_n 0, 1) := by decide +kernel
theorem dX1_agree_42 : decode cX1_agree 42 = .ok (.getfield 22, 3) := by decide +kernel
theorem dX1_agree_45 : decode cX1_agree 45 = .ok (.aload_n 0, 1) := by decide +kernel
theorem dX1_agree_46 : decode cX1_agree 46 = .ok (.getfield 17, 3) := by decide +kernel
theorem dX1_agree_49 : decode cX1_agree 49 = .ok (.iload_n 2, 1) := by decide +kernel
theorem dX1_agree_50 : decode cX1_agree 50 = .ok (.iaload, 1) := by decide +kernel
theorem dX1_agree_51 : decode cX1_agree 51 = .ok (.aload_n 3, 1) := by decide +kernel
theorem dX1_agree_52 : decode cX1_agree 52 = .ok (.getfield 32, 3) := by decide +kernel
theorem dX1_agree_55 : decode cX1_agree 55 = .ok (.isub, 1) := by decide +kernel
theorem dX1_agree_56 : decode cX1_agree 56 = .ok (.aload_n 0, 1) := by decide +kernel
theorem dX1_agree_57 : decode cX1_agree 57 = .ok (.getfield 17, 3) := by decide +kernel
theorem dX1_agree_60 : decode cX1_agree 60 = .ok (.iload_n 2, 1) := by decide +kernel
theorem dX1_agree_61 : decode cX1_agree 61 = .ok (.iaload, 1) := by decide +kernel
theorem dX1_agree_62 : decode cX1_agree 62 = .ok (.aload_n 3, 1) := by decide +kernel
theorem dX1_agree_63 : decode cX1_agree 63 = .ok (.getfield 36, 3) := by decide +kernel
theorem dX1_agree_66 : decode cX1_agree 66 = .ok (.isub, 1) := by decide +kernel
theorem dX1_agree_67 : decode cX1_agree 67 = .ok (.invokevirtual 39, 3) := by decide +kernel
theorem dX1_agree_70 : decode cX1_agree 70 = .ok (.ifCond .ne 6, 3) := by decide +kernel
theorem dX1_agree_73 : decode cX1_agree 73 = .ok (.bipush (-5), 2) := by decide +kernel
theorem dX1_agree_75 : decode cX1_agree 75 = .ok (.ireturn, 1) := by decide +kernel
theorem dX1_agree_76 : decode cX1_agree 76 = .ok (.iinc 2 1, 3) := by decide +kernel
theorem dX1_agree_79 : decode cX1_agree 79 = .ok (.goto (-64), 3) := by decide +kernel
theorem dX1_agree_82 : decode cX1_agree 82 = .ok (.iload_n 1, 1) := by decide +kernel
theorem dX1_agree_83 : decode cX1_agree 83 = .ok (.ifCond .ne 8, 3) := by decide +kernel
theorem dX1_agree_86 : decode cX1_agree 86 = .ok (.bipush (-3), 2) := by decide +kernel
theorem dX1_agree_88 : decode cX1_agree 88 = .ok (.goto 5, 3) := by decide +kernel
theorem dX1_agree_91 : decode cX1_agree 91 = .ok (.bipush (-6), 2) := by decide +kernel
theorem dX1_agree_93 : decode cX1_agree 93 = .ok (.ireturn, 1) := by decide +kernel
theorem dX2_init_0 : decode cX2_init 0 = .ok (.aload_n 0, 1) := by decide +kernel
theorem dX2_init_1 : decode cX2_init 1 = .ok (.invokespecial 3, 3) := by decide +kernel
theorem dX2_init_4 : decode cX2_init 4 = .ok (.aload_n 0, 1) := by decide +kernel
theorem dX2_init_5 : decode cX2_init 5 = .ok (.bipush 8, 2) := by decide +kernel
theorem dX2_init_7 : decode cX2_init 7 = .ok (.newarray .int, 2) := by decide +kernel
theorem dX2_init_9 : decode cX2_init 9 = .ok (.putfield 9, 3) := by decide +kernel
theorem dX2_init_12 : decode cX2_init 12 = .ok (.aload_n 0, 1) := by decide +kernel
theorem dX2_init_13 : decode cX2_init 13 = .ok (.bipush 8, 2) := by decide +kernel
theorem dX2_init_15 : decode cX2_init 15 = .ok (.newarray .int, 2) := by decide +kernel
theorem dX2_init_17 : decode cX2_init 17 = .ok (.putfield 15, 3) := by decide +kernel
theorem dX2_init_20 : decode cX2_init 20 = .ok (.aload_n 0, 1) := by decide +kernel
theorem dX2_init_21 : decode cX2_init 21 = .ok (.bipush 8, 2) := by decide +kernel
theorem dX2_init_23 : decode cX2_init 23 = .ok (.newarray .int, 2) := by decide +kernel
theorem dX2_init_25 : decode cX2_init 25 = .ok (.putfield 18, 3) := by decide +kernel
theorem dX2_init_28 : decode cX2_init 28 = .ok (.return_, 1) := by decide +kernel
theorem dX2_add_0 : decode cX2_add 0 = .ok (.aload_n 0, 1) := by decide +kernel
theorem dX2_add_1 : decode cX2_add 1 = .ok (.getfield 21, 3) := by decide +kernel
theorem dX2_add_4 : decode cX2_add 4 = .ok (.bipush 8, 2) := by decide +kernel
theorem dX2_add_6 : decode cX2_add 6 = .ok (.if_icmp .lt 6, 3) := by decide +kernel
theorem dX2_add_9 : decode cX2_add 9 = .ok (.bipush (-4), 2) := by decide +kernel
theorem dX2_add_11 : decode cX2_add 11 = .ok (.ireturn, 1) := by decide +kernel
theorem dX2_add_12 : decode cX2_add 12 = .ok (.aload_n 0, 1) := by decide +kernel
theorem dX2_add_13 : decode cX2_add 13 = .ok (.getfield 9, 3) := by decide +kernel
theorem dX2_add_16 : decode cX2_add 16 = .ok (.aload_n 0, 1) := by decide +kernel
theorem dX2_add_17 : decode cX2_add 17 = .ok (.getfield 21, 3) := by decide +kernel
theorem dX2_add_20 : decode cX2_add 20 = .ok (.iload_n 1, 1) := by decide +kernel
theorem dX2_add_21 : decode cX2_add 21 = .ok (.iastore, 1) := by decide +kernel
theorem dX2_add_22 : decode cX2_add 22 = .ok (.aload_n 0, 1) := by decide +kernel
theorem dX2_add_23 : decode cX2_add 23 = .ok (.getfield 15, 3) := by decide +kernel
theorem dX2_add_26 : decode cX2_add 26 = .ok (.aload_n 0, 1) := by decide +kernel
theorem dX2_add_27 : decode cX2_add 27 = .ok (.getfield 21, 3) := by decide +kernel
theorem dX2_add_30 : decode cX2_add 30 = .ok (.iload_n 2, 1) := by decide +kernel
theorem dX2_add_31 : decode cX2_add 31 = .ok (.iastore, 1) := by decide +kernel
theorem dX2_add_32 : decode cX2_add 32 = .ok (.aload_n 0, 1) := by decide +kernel
theorem dX2_add_33 : decode cX2_add 33 = .ok (.dup, 1) := by decide +kernel
theorem dX2_add_34 : decode cX2_add 34 = .ok (.getfield 21, 3) := by decide +kernel
theorem dX2_add_37 : decode cX2_add 37 = .ok (.iconst 1, 1) := by decide +kernel
theorem dX2_add_38 : decode cX2_add 38 = .ok (.iadd, 1) := by decide +kernel
theorem dX2_add_39 : decode cX2_add 39 = .ok (.putfield 21, 3) := by decide +kernel
theorem dX2_add_42 : decode cX2_add 42 = .ok (.aload_n 0, 1) := by decide +kernel
theorem dX2_add_43 : decode cX2_add 43 = .ok (.getfield 21, 3) := by decide +kernel
theorem dX2_add_46 : decode cX2_add 46 = .ok (.iconst 1, 1) := by decide +kernel
theorem dX2_add_47 : decode cX2_add 47 = .ok (.isub, 1) := by decide +kernel
theorem dX2_add_48 : decode cX2_add 48 = .ok (.ireturn, 1) := by decide +kernel
theorem dX2_look_0 : decode cX2_look 0 = .ok (.iconst 0, 1) := by decide +kernel
theorem dX2_look_1 : decode cX2_look 1 = .ok (.istore_n 2, 1) := by decide +kernel
theorem dX2_look_2 : decode cX2_look 2 = .ok (.iload_n 2, 1) := by decide +kernel
theorem dX2_look_3 : decode cX2_look 3 = .ok (.aload_n 0, 1) := by decide +kernel
theorem dX2_look_4 : decode cX2_look 4 = .ok (.getfield 21, 3) := by decide +kernel
theorem dX2_look_7 : decode cX2_look 7 = .ok (.if_icmp .ge 54, 3) := by decide +kernel
theorem dX2_look_10 : decode cX2_look 10 = .ok (.aload_n 0, 1) := by decide +kernel
theorem dX2_look_11 : decode cX2_look 11 = .ok (.getfield 18, 3) := by decide +kernel
theorem dX2_look_14 : decode cX2_look 14 = .ok (.iload_n 2, 1) := by decide +kernel
theorem dX2_look_15 : decode cX2_look 15 = .ok (.iconst 0, 1) := by decide +kernel
theorem dX2_look_16 : decode cX2_look 16 = .ok (.iastore, 1) := by decide +kernel
theorem dX2_look_17 : decode cX2_look 17 = .ok (.iconst 0, 1) := by decide +kernel
theorem dX2_look_18 : decode cX2_look 18 = .ok (.istore_n 3, 1) := by decide +kernel
theorem dX2_look_19 : decode cX2_look 19 = .ok (.iload_n 3, 1) := by decide +kernel
theorem dX2_look_20 : decode cX2_look 20 = .ok (.aload_n 1, 1) := by decide +kernel
theorem dX2_look_21 : decode cX2_look 21 = .ok (.getfield 25, 3) := by decide +kernel
theorem dX2_look_24 : decode cX2_look 24 = .ok (.if_icmp .ge 31, 3) := by decide +kernel
theorem dX2_look_27 : decode cX2_look 27 = .ok (.aload_n 0, 1) := by decide +kernel
theorem dX2_look_28 : decode cX2_look 28 = .ok (.iload_n 2, 1) := by decide +kernel
theorem dX2_look_29 : decode cX2_look 29 = .ok (.iload_n 3, 1) := by decide +kernel
theorem dX2_look_30 : decode cX2_look 30 = .ok (.aload_n 1, 1) := by decide +kernel
theorem dX2_look_31 : decode cX2_look 31 = .ok (.invokevirtual 28, 3) := by decide +kernel
theorem dX2_look_34 : decode cX2_look 34 = .ok (.ifCond .eq 15, 3) := by decide +kernel
theorem dX2_look_37 : decode cX2_look 37 = .ok (.aload_n 0, 1) := by decide +kernel
theorem dX2_look_38 : decode cX2_look 38 = .ok (.getfield 18, 3) := by decide +kernel
theorem dX2_look_41 : decode cX2_look 41 = .ok (.iload_n 2, 1) := by decide +kernel
theorem dX2_look_42 : decode cX2_look 42 = .ok (.dup2, 1) := by decide +kernel
theorem dX2_look_43 : decode cX2_look 43 = .ok (.iaload, 1) := by decide +kernel
theorem dX2_look_44 : decode cX2_look 44 = .ok (.iconst 1, 1) := by decide +kernel
theorem dX2_look_45 : decode cX2_look 45 = .ok (.iload_n 3, 1) := by decide +kernel
theorem dX2_look_46 : decode cX2_look 46 = .ok (.ishl, 1) := by decide +kernel
theorem dX2_look_47 : decode cX2_look 47 = .ok (.ior, 1) := by decide +kernel
theorem dX2_look_48 : decode cX2_look 48 = .ok (.iastore, 1) := by decide +kernel
theorem dX2_look_49 : decode cX2_look 49 = .ok (.iinc 3 1, 3) := by decide +kernel
theorem dX2_look_52 : decode cX2_look 52 = .ok (.goto (-33), 3) := by decide +kernel
theorem dX2_look_55 : decode cX2_look 55 = .ok (.iinc 2 1, 3) := by decide +kernel
theorem dX2_look_58 : decode cX2_look 58 = .ok (.goto (-56), 3) := by decide +kernel
theorem dX2_look_61 : decode cX2_look 61 = .ok (.return_, 1) := by decide +kernel
theorem dX2_catches_0 : decode cX2_catches 0 = .ok (.aload_n 3, 1) := by decide +kernel
theorem dX2_catches_1 : decode cX2_catches 1 = .ok (.iload_n 2, 1) := by decide +kernel
theorem dX2_catches_2 : decode cX2_catches 2 = .ok (.invokevirtual 32, 3) := by decide +kernel
theorem dX2_catches_5 : decode cX2_catches 5 = .ok (.istore 4, 2) := by decide +kernel
theorem dX2_catches_7 : decode cX2_catches 7 = .ok (.iload 4, 2) := by decide +kernel
theorem dX2_catches_9 : decode cX2_catches 9 = .ok (.sipush 300, 3) := by decide +kernel
theorem dX2_catches_12 : decode cX2_catches 12 = .ok (.if_icmp .lt 5, 3) := by decide +kernel
theorem dX2_catches_15 : decode cX2_catches 15 = .ok (.iconst 0, 1) := by decide +kernel
theorem dX2_catches_16 : decode cX2_catches 16 = .ok (.ireturn, 1) := by decide +kernel
theorem dX2_catches_17 : decode cX2_catches 17 = .ok (.iconst 0, 1) := by decide +kernel
theorem dX2_catches_18 : decode cX2_catches 18 = .ok (.istore 5, 2) := by decide +kernel
theorem dX2_catches_20 : decode cX2_catches 20 = .ok (.iload 5, 2) := by decide +kernel
theorem dX2_catches_22 : decode cX2_catches 22 = .ok (.bipush 6, 2) := by decide +kernel
theorem dX2_catches_24 : decode cX2_catches 24 = .ok (.if_icmp .ge 59, 3) := by decide +kernel
theorem dX2_catches_27 : decode cX2_catches 27 = .ok (.aload_n 0, 1) := by decide +kernel
theorem dX2_catches_28 : decode cX2_catches 28 = .ok (.getfield 15, 3) := by decide +kernel
theorem dX2_catches_31 : decode cX2_catches 31 = .ok (.iload_n 1, 1) := by decide +kernel
theorem dX2_catches_32 : decode cX2_catches 32 = .ok (.iaload, 1) := by decide +kernel
theorem dX2_catches_33 : decode cX2_catches 33 = .ok (.iload 5, 2) := by decide +kernel
theorem dX2_catches_35 : decode cX2_catches 35 = .ok (.ishr, 1) := by decide +kernel
theorem dX2_catches_36 : decode cX2_catches 36 = .ok (.iconst 1, 1) := by decide +kernel
theorem dX2_catches_37 : decode cX2_catches 37 = .ok (.iand, 1) := by decide +kernel
theorem dX2_catches_38 : decode cX2_catches 38 = .ok (.iconst 1, 1) := by decide +kernel
theorem dX2_catches_39 : decode cX2_catches 39 = .ok (.if_icmp .ne 7, 3) := by decide +kernel
theorem dX2_catches_42 : decode cX2_catches 42 = .ok (.iconst 1, 1) := by decide +kernel
theorem dX2_catches_43 : decode cX2_catches 43 = .ok (.goto 4, 3) := by decide +kernel
theorem dX2_catches_46 : decode cX2_catches 46 = .ok (.iconst 0, 1) := by decide +kernel
theorem dX2_catches_47 : decode cX2_catches 47 = .ok (.istore 6, 2) := by decide +kernel
theorem dX2_catches_49 : decode cX2_catches 49 = .ok (.iload 6, 2) := by decide +kernel
theorem dX2_catches_51 : decode cX2_catches 51 = .ok (.ifCond .eq 26, 3) := by decide +kernel
theorem dX2_catches_54 : decode cX2_catches 54 = .ok (.aload_n 3, 1) := by decide +kernel
theorem dX2_catches_55 : decode cX2_catches 55 = .ok (.aload_n 0, 1) := by decide +kernel
theorem dX2_catches_56 : decode cX2_catches 56 = .ok (.getfield 9, 3) := by decide +kernel
theorem dX2_catches_59 : decode cX2_catches 59 = .ok (.iload_n 1, 1) := by decide +kernel
theorem dX2_catches_60 : decode cX2_catches 60 = .ok (.iaload, 1) := by decide +kernel
theorem dX2_catches_61 : decode cX2_catches 61 = .ok (.iload 4, 2) := by decide +kernel
theorem dX2_catches_63 : decode cX2_catches 63 = .ok (.iload 5, 2) := by decide +kernel
theorem dX2_catches_65 : decode cX2_catches 65 = .ok (.invokevirtual 36, 3) := by decide +kernel
theorem dX2_catches_68 : decode cX2_catches 68 = .ok (.iload_n 2, 1) := by decide +kernel
theorem dX2_catches_69 : decode cX2_catches 69 = .ok (.invokestatic 40, 3) := by decide +kernel
theorem dX2_catches_72 : decode cX2_catches 72 = .ok (.if_icmp .ne 5, 3) := by decide +kernel
theorem dX2_catches_75 : decode cX2_catches 75 = .ok (.iconst 1, 1) := by decide +kernel
theorem dX2_catches_76 : decode cX2_catches 76 = .ok (.ireturn, 1) := by decide +kernel
theorem dX2_catches_77 : decode cX2_catches 77 = .ok (.iinc 5 1, 3) := by decide +kernel
theorem dX2_catches_80 : decode cX2_catches 80 = .ok (.goto (-60), 3) := by decide +kernel
theorem dX2_catches_83 : decode cX2_catches 83 = .ok (.iconst 0, 1) := by decide +kernel
theorem dX2_catches_84 : decode cX2_catches 84 = .ok (.ireturn, 1) := by decide +kernel
theorem dX2_seenBy_0 : decode cX2_seenBy 0 = .ok (.iconst 0, 1) := by decide +kernel
theorem dX2_seenBy_1 : decode cX2_seenBy 1 = .ok (.istore_n 2, 1) := by decide +kernel
theorem dX2_seenBy_2 : decode cX2_seenBy 2 = .ok (.iconst 0, 1) := by decide +kernel
theorem dX2_seenBy_3 : decode cX2_seenBy 3 = .ok (.istore_n 3, 1) := by decide +kernel
theorem dX2_seenBy_4 : decode cX2_seenBy 4 = .ok (.iload_n 3, 1) := by decide +kernel
theorem dX2_seenBy_5 : decode cX2_seenBy 5 = .ok (.aload_n 0, 1) := by decide +kernel
theorem dX2_seenBy_6 : decode cX2_seenBy 6 = .ok (.getfield 21, 3) := by decide +kernel
theorem dX2_seenBy_9 : decode cX2_seenBy 9 = .ok (.if_icmp .ge 27, 3) := by decide +kernel
theorem dX2_seenBy_12 : decode cX2_seenBy 12 = .ok (.iload_n 1, 1) := by decide +kernel
theorem dX2_seenBy_13 : decode cX2_seenBy 13 = .ok (.iload_n 3, 1) := by decide +kernel
theorem dX2_seenBy_14 : decode cX2_seenBy 14 = .ok (.ishr, 1) := by decide +kernel
theorem dX2_seenBy_15 : decode cX2_seenBy 15 = .ok (.iconst 1, 1) := by decide +kernel
theorem dX2_seenBy_16 : decode cX2_seenBy 16 = .ok (.iand, 1) := by decide +kernel
theorem dX2_seenBy_17 : decode cX2_seenBy 17 = .ok (.iconst 1, 1) := by decide +kernel
theorem dX2_seenBy_18 : decode cX2_seenBy 18 = .ok (.if_icmp .ne 12, 3) := by decide +kernel
theorem dX2_seenBy_21 : decode cX2_seenBy 21 = .ok (.iload_n 2, 1) := by decide +kernel
theorem dX2_seenBy_22 : decode cX2_seenBy 22 = .ok (.aload_n 0, 1) := by decide +kernel
theorem dX2_seenBy_23 : decode cX2_seenBy 23 = .ok (.getfield 18, 3) := by decide +kernel
theorem dX2_seenBy_26 : decode cX2_seenBy 26 = .ok (.iload_n 3, 1) := by decide +kernel
theorem dX2_seenBy_27 : decode cX2_seenBy 27 = .ok (.iaload, 1) := by decide +kernel
theorem dX2_seenBy_28 : decode cX2_seenBy 28 = .ok (.ior, 1) := by decide +kernel
theorem dX2_seenBy_29 : decode cX2_seenBy 29 = .ok (.istore_n 2, 1) := by decide +kernel
theorem dX2_seenBy_30 : decode cX2_seenBy 30 = .ok (.iinc 3 1, 3) := by decide +kernel
theorem dX2_seenBy_33 : decode cX2_seenBy 33 = .ok (.goto (-29), 3) := by decide +kernel
theorem dX2_seenBy_36 : decode cX2_seenBy 36 = .ok (.iload_n 2, 1) := by decide +kernel
theorem dX2_seenBy_37 : decode cX2_seenBy 37 = .ok (.ireturn, 1) := by decide +kernel
theorem dX3_init_0 : decode cX3_init 0 = .ok (.aload_n 0, 1) := by decide +kernel
theorem dX3_init_1 : decode cX3_init 1 = .ok (.invokespecial 3, 3) := by decide +kernel
theorem dX3_init_4 : decode cX3_init 4 = .ok (.aload_n 0, 1) := by decide +kernel
theorem dX3_init_5 : decode cX3_init 5 = .ok (.bipush 6, 2) := by decide +kernel
theorem dX3_init_7 : decode cX3_init 7 = .ok (.newarray .int, 2) := by decide +kernel
theorem dX3_init_9 : decode cX3_init 9 = .ok (.putfield 9, 3) := by decide +kernel
theorem dX3_init_12 : decode cX3_init 12 = .ok (.aload_n 0, 1) := by decide +kernel
theorem dX3_init_13 : decode cX3_init 13 = .ok (.bipush 6, 2) := by decide +kernel
theorem dX3_init_15 : decode cX3_init 15 = .ok (.newarray .int, 2) := by decide +kernel
theorem dX3_init_17 : decode cX3_init 17 = .ok (.putfield 15, 3) := by decide +kernel
theorem dX3_init_20 : decode cX3_init 20 = .ok (.return_, 1) := by decide +kernel
theorem dX3_add_0 : decode cX3_add 0 = .ok (.aload_n 0, 1) := by decide +kernel
theorem dX3_add_1 : decode cX3_add 1 = .ok (.getfield 18, 3) := by decide +kernel
theorem dX3_add_4 : decode cX3_add 4 = .ok (.aload_n 0, 1) := by decide +kernel
theorem dX3_add_5 : decode cX3_add 5 = .ok (.getfield 9, 3) := by decide +kernel
theorem dX3_add_8 : decode cX3_add 8 = .ok (.arraylength, 1) := by decide +kernel
theorem dX3_add_9 : decode cX3_add 9 = .ok (.if_icmp .lt 4, 3) := by decide +kernel
theorem dX3_add_12 : decode cX3_add 12 = .ok (.return_, 1) := by decide +kernel
theorem dX3_add_13 : decode cX3_add 13 = .ok (.aload_n 0, 1) := by decide +kernel
theorem dX3_add_14 : decode cX3_add 14 = .ok (.getfield 18, 3) := by decide +kernel
theorem dX3_add_17 : decode cX3_add 17 = .ok (.istore_n 3, 1) := by decide +kernel
theorem dX3_add_18 : decode cX3_add 18 = .ok (.iload_n 3, 1) := by decide +kernel
theorem dX3_add_19 : decode cX3_add 19 = .ok (.ifCond .le 49, 3) := by decide +kernel
theorem dX3_add_22 : decode cX3_add 22 = .ok (.aload_n 0, 1) := by decide +kernel
theorem dX3_add_23 : decode cX3_add 23 = .ok (.getfield 15, 3) := by decide +kernel
theorem dX3_add_26 : decode cX3_add 26 = .ok (.iload_n 3, 1) := by decide +kernel
theorem dX3_add_27 : decode cX3_add 27 = .ok (.iconst 1, 1) := by decide +kernel
theorem dX3_add_28 : decode cX3_add 28 = .ok (.isub, 1) := by decide +kernel
theorem dX3_add_29 : decode cX3_add 29 = .ok (.iaload, 1) := by decide +kernel
theorem dX3_add_30 : decode cX3_add 30 = .ok (.iload_n 2, 1) := by decide +kernel
theorem dX3_add_31 : decode cX3_add 31 = .ok (.if_icmp .le 37, 3) := by decide +kernel
theorem dX3_add_34 : decode cX3_add 34 = .ok (.aload_n 0, 1) := by decide +kernel
theorem dX3_add_35 : decode cX3_add 35 = .ok (.getfield 15, 3) := by decide +kernel
theorem dX3_add_38 : decode cX3_add 38 = .ok (.iload_n 3, 1) := by decide +kernel
theorem dX3_add_39 : decode cX3_add 39 = .ok (.aload_n 0, 1) := by decide +kernel
theorem dX3_add_40 : decode cX3_add 40 = .ok (.getfield 15, 3) := by decide +kernel
theorem dX3_add_43 : decode cX3_add 43 = .ok (.iload_n 3, 1) := by decide +kernel
theorem dX3_add_44 : decode cX3_add 44 = .ok (.iconst 1, 1) := by decide +kernel
theorem dX3_add_45 : decode cX3_add 45 = .ok (.isub, 1) := by decide +kernel
theorem dX3_add_46 : decode cX3_add 46 = .ok (.iaload, 1) := by decide +kernel
theorem dX3_add_47 : decode cX3_add 47 = .ok (.iastore, 1) := by decide +kernel
theorem dX3_add_48 : decode cX3_add 48 = .ok (.aload_n 0, 1) := by decide +kernel
theorem dX3_add_49 : decode cX3_add 49 = .ok (.getfield 9, 3) := by decide +kernel
theorem dX3_add_52 : decode cX3_add 52 = .ok (.iload_n 3, 1) := by decide +kernel
theorem dX3_add_53 : decode cX3_add 53 = .ok (.aload_n 0, 1) := by decide +kernel
theorem dX3_add_54 : decode cX3_add 54 = .ok (.getfield 9, 3) := by decide +kernel
theorem dX3_add_57 : decode cX3_add 57 = .ok (.iload_n 3, 1) := by decide +kernel
theorem dX3_add_58 : decode cX3_add 58 = .ok (.iconst 1, 1) := by decide +kernel
theorem dX3_add_59 : decode cX3_add 59 = .ok (.isub, 1) := by decide +kernel
theorem dX3_add_60 : decode cX3_add 60 = .ok (.iaload, 1) := by decide +kernel
theorem dX3_add_61 : decode cX3_add 61 = .ok (.iastore, 1) := by decide +kernel
theorem dX3_add_62 : decode cX3_add 62 = .ok (.iinc 3 (-1), 3) := by decide +kernel
theorem dX3_add_65 : decode cX3_add 65 = .ok (.goto (-47), 3) := by decide +kernel
theorem dX3_add_68 : decode cX3_add 68 = .ok (.aload_n 0, 1) := by decide +kernel
theorem dX3_add_69 : decode cX3_add 69 = .ok (.getfield 15, 3) := by decide +kernel
theorem dX3_add_72 : decode cX3_add 72 = .ok (.iload_n 3, 1) := by decide +kernel
theorem dX3_add_73 : decode cX3_add 73 = .ok (.iload_n 2, 1) := by decide +kernel
theorem dX3_add_74 : decode cX3_add 74 = .ok (.iastore, 1) := by decide +kernel
theorem dX3_add_75 : decode cX3_add 75 = .ok (.aload_n 0, 1) := by decide +kernel
theorem dX3_add_76 : decode cX3_add 76 = .ok (.getfield 9, 3) := by decide +kernel
theorem dX3_add_79 : decode cX3_add 79 = .ok (.iload_n 3, 1) := by decide +kernel
theorem dX3_add_80 : decode cX3_add 80 = .ok (.iload_n 1, 1) := by decide +kernel
theorem dX3_add_81 : decode cX3_add 81 = .ok (.iastore, 1) := by decide +kernel
theorem dX3_add_82 : decode cX3_add 82 = .ok (.aload_n 0, 1) := by decide +kernel
theorem dX3_add_83 : decode cX3_add 83 = .ok (.dup, 1) := by decide +kernel
theorem dX3_add_84 : decode cX3_add 84 = .ok (.getfield 18, 3) := by decide +kernel
theorem dX3_add_87 : decode cX3_add 87 = .ok (.iconst 1, 1) := by decide +kernel
theorem dX3_add_88 : decode cX3_add 88 = .ok (.iadd, 1) := by decide +kernel
theorem dX3_add_89 : decode cX3_add 89 = .ok (.putfield 18, 3) := by decide +kernel
theorem dX3_add_92 : decode cX3_add 92 = .ok (.return_, 1) := by decide +kernel
theorem dX3_at_0 : decode cX3_at 0 = .ok (.iload_n 1, 1) := by decide +kernel
theorem dX3_at_1 : decode cX3_at 1 = .ok (.iconst 0, 1) := by decide +kernel
theorem dX3_at_2 : decode cX3_at 2 = .ok (.aload_n 0, 1) := by decide +kernel
theorem dX3_at_3 : decode cX3_at 3 = .ok (.getfield 18, 3) := by decide +kernel
theorem dX3_at_6 : decode cX3_at 6 = .ok (.iconst 1, 1) := by decide +kernel
theorem dX3_at_7 : decode cX3_at 7 = .ok (.isub, 1) := by decide +kernel
theorem dX3_at_8 : decode cX3_at 8 = .ok (.invokestatic 22, 3) := by decide +kernel
theorem dX3_at_11 : decode cX3_at 11 = .ok (.ifCond .eq 12, 3) := by decide +kernel
theorem dX3_at_14 : decode cX3_at 14 = .ok (.aload_n 0, 1) := by decide +kernel
theorem dX3_at_15 : decode cX3_at 15 = .ok (.getfield 9, 3) := by decide +kernel
theorem dX3_at_18 : decode cX3_at 18 = .ok (.iload_n 1, 1) := by decide +kernel
theorem dX3_at_19 : decode cX3_at 19 = .ok (.iaload, 1) := by decide +kernel
theorem dX3_at_20 : decode cX3_at 20 = .ok (.goto 5, 3) := by decide +kernel
theorem dX3_at_23 : decode cX3_at 23 = .ok (.bipush (-6), 2) := by decide +kernel
theorem dX3_at_25 : decode cX3_at 25 = .ok (.ireturn, 1) := by decide +kernel
theorem dX3_placeOf_0 : decode cX3_placeOf 0 = .ok (.iconst 0, 1) := by decide +kernel
theorem dX3_placeOf_1 : decode cX3_placeOf 1 = .ok (.istore 4, 2) := by decide +kernel
theorem dX3_placeOf_3 : decode cX3_placeOf 3 = .ok (.iconst 0, 1) := by decide +kernel
theorem dX3_placeOf_4 : decode cX3_placeOf 4 = .ok (.istore 5, 2) := by decide +kernel
theorem dX3_placeOf_6 : decode cX3_placeOf 6 = .ok (.iload 5, 2) := by decide +kernel
theorem dX3_placeOf_8 : decode cX3_placeOf 8 = .ok (.aload_n 0, 1) := by decide +kernel
theorem dX3_placeOf_9 : decode cX3_placeOf 9 = .ok (.getfield 18, 3) := by decide +kernel
theorem dX3_placeOf_12 : decode cX3_placeOf 12 = .ok (.if_icmp .ge 67, 3) := by decide +kernel
theorem dX3_placeOf_15 : decode cX3_placeOf 15 = .ok (.iload_n 2, 1) := by decide +kernel
theorem dX3_placeOf_16 : decode cX3_placeOf 16 = .ok (.ifCond .ne 14, 3) := by decide +kernel
theorem dX3_placeOf_19 : decode cX3_placeOf 19 = .ok (.iconst 0, 1) := by decide +kernel
theorem dX3_placeOf_20 : decode cX3_placeOf 20 = .ok (.iload 5, 2) := by decide +kernel
theorem dX3_placeOf_22 : decode cX3_placeOf 22 = .ok (.iconst 1, 1) := by decide +kernel
theorem dX3_placeOf_23 : decode cX3_placeOf 23 = .ok (.isub, 1) := by decide +kernel
theorem dX3_placeOf_24 : decode cX3_placeOf 24 = .ok (.invokestatic 26, 3) := by decide +kernel
theorem dX3_placeOf_27 : decode cX3_placeOf 27 = .ok (.goto 5, 3) := by decide +kernel
theorem dX3_placeOf_30 : decode cX3_placeOf 30 = .ok (.iload 4, 2) := by decide +kernel
theorem dX3_placeOf_32 : decode cX3_placeOf 32 = .ok (.istore 6, 2) := by decide +kernel
theorem dX3_placeOf_34 : decode cX3_placeOf 34 = .ok (.aload_n 0, 1) := by decide +kernel
theorem dX3_placeOf_35 : decode cX3_placeOf 35 = .ok (.getfield 15, 3) := by decide +kernel
theorem dX3_placeOf_38 : decode cX3_placeOf 38 = .ok (.iload 5, 2) := by decide +kernel
theorem dX3_placeOf_40 : decode cX3_placeOf 40 = .ok (.iaload, 1) := by decide +kernel
theorem dX3_placeOf_41 : decode cX3_placeOf 41 = .ok (.aload_n 0, 1) := by decide +kernel
theorem dX3_placeOf_42 : decode cX3_placeOf 42 = .ok (.getfield 15, 3) := by decide +kernel
theorem dX3_placeOf_45 : decode cX3_placeOf 45 = .ok (.iload 6, 2) := by decide +kernel
theorem dX3_placeOf_47 : decode cX3_placeOf 47 = .ok (.iaload, 1) := by decide +kernel
theorem dX3_placeOf_48 : decode cX3_placeOf 48 = .ok (.isub, 1) := by decide +kernel
theorem dX3_placeOf_49 : decode cX3_placeOf 49 = .ok (.iload_n 3, 1) := by decide +kernel
theorem dX3_placeOf_50 : decode cX3_placeOf 50 = .ok (.if_icmp .le 7, 3) := by decide +kernel
theorem dX3_placeOf_53 : decode cX3_placeOf 53 = .ok (.iload 5, 2) := by decide +kernel
theorem dX3_placeOf_55 : decode cX3_placeOf 55 = .ok (.istore 4, 2) := by decide +kernel
theorem dX3_placeOf_57 : decode cX3_placeOf 57 = .ok (.aload_n 0, 1) := by decide +kernel
theorem dX3_placeOf_58 : decode cX3_placeOf 58 = .ok (.getfield 9, 3) := by decide +kernel
theorem dX3_placeOf_61 : decode cX3_placeOf 61 = .ok (.iload 5, 2) := by decide +kernel
theorem dX3_placeOf_63 : decode cX3_placeOf 63 = .ok (.iaload, 1) := by decide +kernel
theorem dX3_placeOf_64 : decode cX3_placeOf 64 = .ok (.iload_n 1, 1) := by decide +kernel
theorem dX3_placeOf_65 : decode cX3_placeOf 65 = .ok (.if_icmp .ne 8, 3) := by decide +kernel
theorem dX3_placeOf_68 : decode cX3_placeOf 68 = .ok (.iload 4, 2) := by decide +kernel
theorem dX3_placeOf_70 : decode cX3_placeOf 70 = .ok (.iconst 1, 1) := by decide +kernel
theorem dX3_placeOf_71 : decode cX3_placeOf 71 = .ok (.iadd, 1) := by decide +kernel
theorem dX3_placeOf_72 : decode cX3_placeOf 72 = .ok (.ireturn, 1) := by decide +kernel
theorem dX3_placeOf_73 : decode cX3_placeOf 73 = .ok (.iinc 5 1, 3) := by decide +kernel
theorem dX3_placeOf_76 : decode cX3_placeOf 76 = .ok (.goto (-70), 3) := by decide +kernel
theorem dX3_placeOf_79 : decode cX3_placeOf 79 = .ok (.bipush (-6), 2) := by decide +kernel
theorem dX3_placeOf_81 : decode cX3_placeOf 81 = .ok (.ireturn, 1) := by decide +kernel
theorem dX4_init_0 : decode cX4_init 0 = .ok (.aload_n 0, 1) := by decide +kernel
theorem dX4_init_1 : decode cX4_init 1 = .ok (.invokespecial 3, 3) := by decide +kernel
theorem dX4_init_4 : decode cX4_init 4 = .ok (.aload_n 0, 1) := by decide +kernel
theorem dX4_init_5 : decode cX4_init 5 = .ok (.bipush 12, 2) := by decide +kernel
theorem dX4_init_7 : decode cX4_init 7 = .ok (.newarray .int, 2) := by decide +kernel
theorem dX4_init_9 : decode cX4_init 9 = .ok (.putfield 9, 3) := by decide +kernel
theorem dX4_init_12 : decode cX4_init 12 = .ok (.aload_n 0, 1) := by decide +kernel
theorem dX4_init_13 : decode cX4_init 13 = .ok (.bipush 12, 2) := by decide +kernel
theorem dX4_init_15 : decode cX4_init 15 = .ok (.newarray .int, 2) := by decide +kernel
theorem dX4_init_17 : decode cX4_init 17 = .ok (.putfield 15, 3) := by decide +kernel
theorem dX4_init_20 : decode cX4_init 20 = .ok (.aload_n 0, 1) := by decide +kernel
theorem dX4_init_21 : decode cX4_init 21 = .ok (.iconst 1, 1) := by decide +kernel
theorem dX4_init_22 : decode cX4_init 22 = .ok (.putfield 18, 3) := by decide +kernel
theorem dX4_init_25 : decode cX4_init 25 = .ok (.aload_n 0, 1) := by decide +kernel
theorem dX4_init_26 : decode cX4_init 26 = .ok (.bipush (-6), 2) := by decide +kernel
theorem dX4_init_28 : decode cX4_init 28 = .ok (.putfield 22, 3) := by decide +kernel
theorem dX4_init_31 : decode cX4_init 31 = .ok (.iconst 0, 1) := by decide +kernel
theorem dX4_init_32 : decode cX4_init 32 = .ok (.istore_n 1, 1) := by decide +kernel
theorem dX4_init_33 : decode cX4_init 33 = .ok (.iload_n 1, 1) := by decide +kernel
theorem dX4_init_34 : decode cX4_init 34 = .ok (.aload_n 0, 1) := by decide +kernel
theorem dX4_init_35 : decode cX4_init 35 = .ok (.getfield 9, 3) := by decide +kernel
theorem dX4_init_38 : decode cX4_init 38 = .ok (.arraylength, 1) := by decide +kernel
theorem dX4_init_39 : decode cX4_init 39 = .ok (.if_icmp .ge 16, 3) := by decide +kernel
theorem dX4_init_42 : decode cX4_init 42 = .ok (.aload_n 0, 1) := by decide +kernel
theorem dX4_init_43 : decode cX4_init 43 = .ok (.getfield 9, 3) := by decide +kernel
theorem dX4_init_46 : decode cX4_init 46 = .ok (.iload_n 1, 1) := by decide +kernel
theorem dX4_init_47 : decode cX4_init 47 = .ok (.iconst 1, 1) := by decide +kernel
theorem dX4_init_48 : decode cX4_init 48 = .ok (.iastore, 1) := by decide +kernel
theorem dX4_init_49 : decode cX4_init 49 = .ok (.iinc 1 1, 3) := by decide +kernel
theorem dX4_init_52 : decode cX4_init 52 = .ok (.goto (-19), 3) := by decide +kernel
theorem dX4_init_55 : decode cX4_init 55 = .ok (.return_, 1) := by decide +kernel
theorem dX4_grow_0 : decode cX4_grow 0 = .ok (.iload_n 1, 1) := by decide +kernel
theorem dX4_grow_1 : decode cX4_grow 1 = .ok (.bipush 6, 2) := by decide +kernel
theorem dX4_grow_3 : decode cX4_grow 3 = .ok (.imul, 1) := by decide +kernel
theorem dX4_grow_4 : decode cX4_grow 4 = .ok (.iload_n 2, 1) := by decide +kernel
theorem dX4_grow_5 : decode cX4_grow 5 = .ok (.iadd, 1) := by decide +kernel
theorem dX4_grow_6 : decode cX4_grow 6 = .ok (.istore 5, 2) := by decide +kernel
theorem dX4_grow_8 : decode cX4_grow 8 = .ok (.aload_n 0, 1) := by decide +kernel
theorem dX4_grow_9 : decode cX4_grow 9 = .ok (.getfield 9, 3) := by decide +kernel
theorem dX4_grow_12 : decode cX4_grow 12 = .ok (.iload 5, 2) := by decide +kernel
theorem dX4_grow_14 : decode cX4_grow 14 = .ok (.iload_n 3, 1) := by decide +kernel
theorem dX4_grow_15 : decode cX4_grow 15 = .ok (.iastore, 1) := by decide +kernel
theorem dX4_grow_16 : decode cX4_grow 16 = .ok (.aload_n 0, 1) := by decide +kernel
theorem dX4_grow_17 : decode cX4_grow 17 = .ok (.getfield 15, 3) := by decide +kernel
theorem dX4_grow_20 : decode cX4_grow 20 = .ok (.iload 5, 2) := by decide +kernel
theorem dX4_grow_22 : decode cX4_grow 22 = .ok (.iload 4, 2) := by decide +kernel
theorem dX4_grow_24 : decode cX4_grow 24 = .ok (.iastore, 1) := by decide +kernel
theorem dX4_grow_25 : decode cX4_grow 25 = .ok (.return_, 1) := by decide +kernel
theorem dX4_covers_0 : decode cX4_covers 0 = .ok (.iload_n 1, 1) := by decide +kernel
theorem dX4_covers_1 : decode cX4_covers 1 = .ok (.bipush 6, 2) := by decide +kernel
theorem dX4_covers_3 : decode cX4_covers 3 = .ok (.imul, 1) := by decide +kernel
theorem dX4_covers_4 : decode cX4_covers 4 = .ok (.iload_n 2, 1) := by decide +kernel
theorem dX4_covers_5 : decode cX4_covers 5 = .ok (.iadd, 1) := by decide +kernel
theorem dX4_covers_6 : decode cX4_covers 6 = .ok (.istore 5, 2) := by decide +kernel
theorem dX4_covers_8 : decode cX4_covers 8 = .ok (.iload 4, 2) := by decide +kernel
theorem dX4_covers_10 : decode cX4_covers 10 = .ok (.aload_n 0, 1) := by decide +kernel
theorem dX4_covers_11 : decode cX4_covers 11 = .ok (.getfield 25, 3) := by decide +kernel
theorem dX4_covers_14 : decode cX4_covers 14 = .ok (.aload_n 0, 1) := by decide +kernel
theorem dX4_covers_15 : decode cX4_covers 15 = .ok (.getfield 18, 3) := by decide +kernel
theorem dX4_covers_18 : decode cX4_covers 18 = .ok (.iload_n 3, 1) := by decide +kernel
theorem dX4_covers_19 : decode cX4_covers 19 = .ok (.imul, 1) := by decide +kernel
theorem dX4_covers_20 : decode cX4_covers 20 = .ok (.iadd, 1) := by decide +kernel
theorem dX4_covers_21 : decode cX4_covers 21 = .ok (.isub, 1) := by decide +kernel
theorem dX4_covers_22 : decode cX4_covers 22 = .ok (.istore 6, 2) := by decide +kernel
theorem dX4_covers_24 : decode cX4_covers 24 = .ok (.aload_n 0, 1) := by decide +kernel
theorem dX4_covers_25 : decode cX4_covers 25 = .ok (.getfield 9, 3) := by decide +kernel
theorem dX4_covers_28 : decode cX4_covers 28 = .ok (.iload 5, 2) := by decide +kernel
theorem dX4_covers_30 : decode cX4_covers 30 = .ok (.iaload, 1) := by decide +kernel
theorem dX4_covers_31 : decode cX4_covers 31 = .ok (.iload 6, 2) := by decide +kernel
theorem dX4_covers_33 : decode cX4_covers 33 = .ok (.if_icmp .gt 19, 3) := by decide +kernel
theorem dX4_covers_36 : decode cX4_covers 36 = .ok (.iload 6, 2) := by decide +kernel
theorem dX4_covers_38 : decode cX4_covers 38 = .ok (.aload_n 0, 1) := by decide +kernel
theorem dX4_covers_39 : decode cX4_covers 39 = .ok (.getfield 15, 3) := by decide +kernel
theorem dX4_covers_42 : decode cX4_covers 42 = .ok (.iload 5, 2) := by decide +kernel
theorem dX4_covers_44 : decode cX4_covers 44 = .ok (.iaload, 1) := by decide +kernel
theorem dX4_covers_45 : decode cX4_covers 45 = .ok (.if_icmp .gt 7, 3) := by decide +kernel
theorem dX4_covers_48 : decode cX4_covers 48 = .ok (.iconst 1, 1) := by decide +kernel
theorem dX4_covers_49 : decode cX4_covers 49 = .ok (.goto 4, 3) := by decide +kernel
theorem dX4_covers_52 : decode cX4_covers 52 = .ok (.iconst 0, 1) := by decide +kernel
theorem dX4_covers_53 : decode cX4_covers 53 = .ok (.ireturn, 1) := by decide +kernel
theorem dX4_hasTorso_0 : decode cX4_hasTorso 0 = .ok (.iconst 0, 1) := by decide +kernel
theorem dX4_hasTorso_1 : decode cX4_hasTorso 1 = .ok (.istore_n 1, 1) := by decide +kernel
theorem dX4_hasTorso_2 : decode cX4_hasTorso 2 = .ok (.iload_n 1, 1) := by decide +kernel
theorem dX4_hasTorso_3 : decode cX4_hasTorso 3 = .ok (.bipush 6, 2) := by decide +kernel
theorem dX4_hasTorso_5 : decode cX4_hasTorso 5 = .ok (.if_icmp .ge 26, 3) := by decide +kernel
theorem dX4_hasTorso_8 : decode cX4_hasTorso 8 = .ok (.aload_n 0, 1) := by decide +kernel
theorem dX4_hasTorso_9 : decode cX4_hasTorso 9 = .ok (.getfield 9, 3) := by decide +kernel
theorem dX4_hasTorso_12 : decode cX4_hasTorso 12 = .ok (.iload_n 1, 1) := by decide +kernel
theorem dX4_hasTorso_13 : decode cX4_hasTorso 13 = .ok (.iaload, 1) := by decide +kernel
theorem dX4_hasTorso_14 : decode cX4_hasTorso 14 = .ok (.aload_n 0, 1) := by decide +kernel
theorem dX4_hasTorso_15 : decode cX4_hasTorso 15 = .ok (.getfield 15, 3) := by decide +kernel
theorem dX4_hasTorso_18 : decode cX4_hasTorso 18 = .ok (.iload_n 1, 1) := by decide +kernel
theorem dX4_hasTorso_19 : decode cX4_hasTorso 19 = .ok (.iaload, 1) := by decide +kernel
theorem dX4_hasTorso_20 : decode cX4_hasTorso 20 = .ok (.if_icmp .gt 5, 3) := by decide +kernel
theorem dX4_hasTorso_23 : decode cX4_hasTorso 23 = .ok (.iconst 1, 1) := by decide +kernel
theorem dX4_hasTorso_24 : decode cX4_hasTorso 24 = .ok (.ireturn, 1) := by decide +kernel
theorem dX4_hasTorso_25 : decode cX4_hasTorso 25 = .ok (.iinc 1 1, 3) := by decide +kernel
theorem dX4_hasTorso_28 : decode cX4_hasTorso 28 = .ok (.goto (-26), 3) := by decide +kernel
theorem dX4_hasTorso_31 : decode cX4_hasTorso 31 = .ok (.iconst 0, 1) := by decide +kernel
theorem dX4_hasTorso_32 : decode cX4_hasTorso 32 = .ok (.ireturn, 1) := by decide +kernel
theorem dX4_firstOver_0 : decode cX4_firstOver 0 = .ok (.iconst 0, 1) := by decide +kernel
theorem dX4_firstOver_1 : decode cX4_firstOver 1 = .ok (.iload_n 3, 1) := by decide +kernel
theorem dX4_firstOver_2 : decode cX4_firstOver 2 = .ok (.aload_n 0, 1) := by decide +kernel
theorem dX4_firstOver_3 : decode cX4_firstOver 3 = .ok (.getfield 15, 3) := by decide +kernel
theorem dX4_firstOver_6 : decode cX4_firstOver 6 = .ok (.iload_n 1, 1) := by decide +kernel
theorem dX4_firstOver_7 : decode cX4_firstOver 7 = .ok (.bipush 6, 2) := by decide +kernel
theorem dX4_firstOver_9 : decode cX4_firstOver 9 = .ok (.imul, 1) := by decide +kernel
theorem dX4_firstOver_10 : decode cX4_firstOver 10 = .ok (.iload_n 2, 1) := by decide +kernel
theorem dX4_firstOver_11 : decode cX4_firstOver 11 = .ok (.iadd, 1) := by decide +kernel
theorem dX4_firstOver_12 : decode cX4_firstOver 12 = .ok (.iaload, 1) := by decide +kernel
theorem dX4_firstOver_13 : decode cX4_firstOver 13 = .ok (.isub, 1) := by decide +kernel
theorem dX4_firstOver_14 : decode cX4_firstOver 14 = .ok (.aload_n 0, 1) := by decide +kernel
theorem dX4_firstOver_15 : decode cX4_firstOver 15 = .ok (.getfield 25, 3) := by decide +kernel
theorem dX4_firstOver_18 : decode cX4_firstOver 18 = .ok (.isub, 1) := by decide +kernel
theorem dX4_firstOver_19 : decode cX4_firstOver 19 = .ok (.aload_n 0, 1) := by decide +kernel
theorem dX4_firstOver_20 : decode cX4_firstOver 20 = .ok (.getfield 18, 3) := by decide +kernel
theorem dX4_firstOver_23 : decode cX4_firstOver 23 = .ok (.invokestatic 28, 3) := by decide +kernel
theorem dX4_firstOver_26 : decode cX4_firstOver 26 = .ok (.invokestatic 32, 3) := by decide +kernel
theorem dX4_firstOver_29 : decode cX4_firstOver 29 = .ok (.ireturn, 1) := by decide +kernel
theorem dX4_lastOver_0 : decode cX4_lastOver 0 = .ok (.sipush 299, 3) := by decide +kernel
theorem dX4_lastOver_3 : decode cX4_lastOver 3 = .ok (.iload_n 3, 1) := by decide +kernel
theorem dX4_lastOver_4 : decode cX4_lastOver 4 = .ok (.aload_n 0, 1) := by decide +kernel
theorem dX4_lastOver_5 : decode cX4_lastOver 5 = .ok (.getfield 9, 3) := by decide +kernel
theorem dX4_lastOver_8 : decode cX4_lastOver 8 = .ok (.iload_n 1, 1) := by decide +kernel
theorem dX4_lastOver_9 : decode cX4_lastOver 9 = .ok (.bipush 6, 2) := by decide +kernel
theorem dX4_lastOver_11 : decode cX4_lastOver 11 = .ok (.imul, 1) := by decide +kernel
theorem dX4_lastOver_12 : decode cX4_lastOver 12 = .ok (.iload_n 2, 1) := by decide +kernel
theorem dX4_lastOver_13 : decode cX4_lastOver 13 = .ok (.iadd, 1) := by decide +kernel
theorem dX4_lastOver_14 : decode cX4_lastOver 14 = .ok (.iaload, 1) := by decide +kernel
theorem dX4_lastOver_15 : decode cX4_lastOver 15 = .ok (.isub, 1) := by decide +kernel
theorem dX4_lastOver_16 : decode cX4_lastOver 16 = .ok (.aload_n 0, 1) := by decide +kernel
theorem dX4_lastOver_17 : decode cX4_lastOver 17 = .ok (.getfield 25, 3) := by decide +kernel
theorem dX4_lastOver_20 : decode cX4_lastOver 20 = .ok (.isub, 1) := by decide +kernel
theorem dX4_lastOver_21 : decode cX4_lastOver 21 = .ok (.aload_n 0, 1) := by decide +kernel
theorem dX4_lastOver_22 : decode cX4_lastOver 22 = .ok (.getfield 18, 3) := by decide +kernel
theorem dX4_lastOver_25 : decode cX4_lastOver 25 = .ok (.invokestatic 37, 3) := by decide +kernel
theorem dX4_lastOver_28 : decode cX4_lastOver 28 = .ok (.invokestatic 40, 3) := by decide +kernel
theorem dX4_lastOver_31 : decode cX4_lastOver 31 = .ok (.ireturn, 1) := by decide +kernel
theorem dX4_columnsOver_0 : decode cX4_columnsOver 0 = .ok (.iconst 0, 1) := by decide +kernel
theorem dX4_columnsOver_1 : decode cX4_columnsOver 1 = .ok (.aload_n 0, 1) := by decide +kernel
theorem dX4_columnsOver_2 : decode cX4_columnsOver 2 = .ok (.iload_n 1, 1) := by decide +kernel
theorem dX4_columnsOver_3 : decode cX4_columnsOver 3 = .ok (.iload_n 2, 1) := by decide +kernel
theorem dX4_columnsOver_4 : decode cX4_columnsOver 4 = .ok (.iload_n 3, 1) := by decide +kernel
theorem dX4_columnsOver_5 : decode cX4_columnsOver 5 = .ok (.invokevirtual 43, 3) := by decide +kernel
theorem dX4_columnsOver_8 : decode cX4_columnsOver 8 = .ok (.aload_n 0, 1) := by decide +kernel
theorem dX4_columnsOver_9 : decode cX4_columnsOver 9 = .ok (.iload_n 1, 1) := by decide +kernel
theorem dX4_columnsOver_10 : decode cX4_columnsOver 10 = .ok (.iload_n 2, 1) := by decide +kernel
theorem dX4_columnsOver_11 : decode cX4_columnsOver 11 = .ok (.iload_n 3, 1) := by decide +kernel
theorem dX4_columnsOver_12 : decode cX4_columnsOver 12 = .ok (.invokevirtual 47, 3) := by decide +kernel
theorem dX4_columnsOver_15 : decode cX4_columnsOver 15 = .ok (.isub, 1) := by decide +kernel
theorem dX4_columnsOver_16 : decode cX4_columnsOver 16 = .ok (.iconst 1, 1) := by decide +kernel
theorem dX4_columnsOver_17 : decode cX4_columnsOver 17 = .ok (.iadd, 1) := by decide +kernel
theorem dX4_columnsOver_18 : decode cX4_columnsOver 18 = .ok (.invokestatic 32, 3) := by decide +kernel
theorem dX4_columnsOver_21 : decode cX4_columnsOver 21 = .ok (.ireturn, 1) := by decide +kernel
theorem dX4_crossing_0 : decode cX4_crossing 0 = .ok (.ldc 50, 2) := by decide +kernel
theorem dX4_crossing_2 : decode cX4_crossing 2 = .ok (.istore_n 2, 1) := by decide +kernel
theorem dX4_crossing_3 : decode cX4_crossing 3 = .ok (.iconst 0, 1) := by decide +kernel
theorem dX4_crossing_4 : decode cX4_crossing 4 = .ok (.istore_n 3, 1) := by decide +kernel
theorem dX4_crossing_5 : decode cX4_crossing 5 = .ok (.iload_n 3, 1) := by decide +kernel
theorem dX4_crossing_6 : decode cX4_crossing 6 = .ok (.bipush 6, 2) := by decide +kernel
theorem dX4_crossing_8 : decode cX4_crossing 8 = .ok (.if_icmp .ge 38, 3) := by decide +kernel
theorem dX4_crossing_11 : decode cX4_crossing 11 = .ok (.aload_n 0, 1) := by decide +kernel
theorem dX4_crossing_12 : decode cX4_crossing 12 = .ok (.getfield 9, 3) := by decide +kernel
theorem dX4_crossing_15 : decode cX4_crossing 15 = .ok (.iload_n 3, 1) := by decide +kernel
theorem dX4_crossing_16 : decode cX4_crossing 16 = .ok (.iaload, 1) := by decide +kernel
theorem dX4_crossing_17 : decode cX4_crossing 17 = .ok (.aload_n 0, 1) := by decide +kernel
theorem dX4_crossing_18 : decode cX4_crossing 18 = .ok (.getfield 15, 3) := by decide +kernel
theorem dX4_crossing_21 : decode cX4_crossing 21 = .ok (.iload_n 3, 1) := by decide +kernel
theorem dX4_crossing_22 : decode cX4_crossing 22 = .ok (.iaload, 1) := by decide +kernel
theorem dX4_crossing_23 : decode cX4_crossing 23 = .ok (.if_icmp .gt 17, 3) := by decide +kernel
theorem dX4_crossing_26 : decode cX4_crossing 26 = .ok (.iload_n 2, 1) := by decide +kernel
theorem dX4_crossing_27 : decode cX4_crossing 27 = .ok (.aload_n 0, 1) := by decide +kernel
theorem dX4_crossing_28 : decode cX4_crossing 28 = .ok (.iconst 0, 1) := by decide +kernel
theorem dX4_crossing_29 : decode cX4_crossing 29 = .ok (.iload_n 3, 1) := by decide +kernel
theorem dX4_crossing_30 : decode cX4_crossing 30 = .ok (.iload_n 1, 1) := by decide +kernel
theorem dX4_crossing_31 : decode cX4_crossing 31 = .ok (.iload_n 3, 1) := by decide +kernel
theorem dX4_crossing_32 : decode cX4_crossing 32 = .ok (.imul, 1) := by decide +kernel
theorem dX4_crossing_33 : decode cX4_crossing 33 = .ok (.invokevirtual 47, 3) := by decide +kernel
theorem dX4_crossing_36 : decode cX4_crossing 36 = .ok (.invokestatic 40, 3) := by decide +kernel
theorem dX4_crossing_39 : decode cX4_crossing 39 = .ok (.istore_n 2, 1) := by decide +kernel
theorem dX4_crossing_40 : decode cX4_crossing 40 = .ok (.iinc 3 1, 3) := by decide +kernel
theorem dX4_crossing_43 : decode cX4_crossing 43 = .ok (.goto (-38), 3) := by decide +kernel
theorem dX4_crossing_46 : decode cX4_crossing 46 = .ok (.iload_n 2, 1) := by decide +kernel
theorem dX4_crossing_47 : decode cX4_crossing 47 = .ok (.ireturn, 1) := by decide +kernel
theorem dX5_init_0 : decode cX5_init 0 = .ok (.aload_n 0, 1) := by decide +kernel
theorem dX5_init_1 : decode cX5_init 1 = .ok (.invokespecial 3, 3) := by decide +kernel
theorem dX5_init_4 : decode cX5_init 4 = .ok (.aload_n 0, 1) := by decide +kernel
theorem dX5_init_5 : decode cX5_init 5 = .ok (.bipush 30, 2) := by decide +kernel
theorem dX5_init_7 : decode cX5_init 7 = .ok (.newarray .int, 2) := by decide +kernel
theorem dX5_init_9 : decode cX5_init 9 = .ok (.putfield 9, 3) := by decide +kernel
theorem dX5_init_12 : decode cX5_init 12 = .ok (.return_, 1) := by decide +kernel
theorem dX5_add_0 : decode cX5_add 0 = .ok (.aload_n 0, 1) := by decide +kernel
theorem dX5_add_1 : decode cX5_add 1 = .ok (.getfield 15, 3) := by decide +kernel
theorem dX5_add_4 : decode cX5_add 4 = .ok (.bipush 30, 2) := by decide +kernel
theorem dX5_add_6 : decode cX5_add 6 = .ok (.if_icmp .lt 6, 3) := by decide +kernel
theorem dX5_add_9 : decode cX5_add 9 = .ok (.bipush (-4), 2) := by decide +kernel
theorem dX5_add_11 : decode cX5_add 11 = .ok (.ireturn, 1) := by decide +kernel
theorem dX5_add_12 : decode cX5_add 12 = .ok (.aload_n 0, 1) := by decide +kernel
theorem dX5_add_13 : decode cX5_add 13 = .ok (.getfield 9, 3) := by decide +kernel
theorem dX5_add_16 : decode cX5_add 16 = .ok (.aload_n 0, 1) := by decide +kernel
theorem dX5_add_17 : decode cX5_add 17 = .ok (.getfield 15, 3) := by decide +kernel
theorem dX5_add_20 : decode cX5_add 20 = .ok (.iload_n 1, 1) := by decide +kernel
theorem dX5_add_21 : decode cX5_add 21 = .ok (.iastore, 1) := by decide +kernel
theorem dX5_add_22 : decode cX5_add 22 = .ok (.aload_n 0, 1) := by decide +kernel
theorem dX5_add_23 : decode cX5_add 23 = .ok (.dup, 1) := by decide +kernel
theorem dX5_add_24 : decode cX5_add 24 = .ok (.getfield 15, 3) := by decide +kernel
theorem dX5_add_27 : decode cX5_add 27 = .ok (.iconst 1, 1) := by decide +kernel
theorem dX5_add_28 : decode cX5_add 28 = .ok (.iadd, 1) := by decide +kernel
theorem dX5_add_29 : decode cX5_add 29 = .ok (.putfield 15, 3) := by decide +kernel
theorem dX5_add_32 : decode cX5_add 32 = .ok (.aload_n 0, 1) := by decide +kernel
theorem dX5_add_33 : decode cX5_add 33 = .ok (.getfield 15, 3) := by decide +kernel
theorem dX5_add_36 : decode cX5_add 36 = .ok (.ireturn, 1) := by decide +kernel
theorem dX5_firstFault_0 : decode cX5_firstFault 0 = .ok (.iconst 0, 1) := by decide +kernel
theorem dX5_firstFault_1 : decode cX5_firstFault 1 = .ok (.istore_n 1, 1) := by decide +kernel
theorem dX5_firstFault_2 : decode cX5_firstFault 2 = .ok (.iconst 0, 1) := by decide +kernel
theorem dX5_firstFault_3 : decode cX5_firstFault 3 = .ok (.istore_n 2, 1) := by decide +kernel
theorem dX5_firstFault_4 : decode cX5_firstFault 4 = .ok (.iload_n 2, 1) := by decide +kernel
theorem dX5_firstFault_5 : decode cX5_firstFault 5 = .ok (.aload_n 0, 1) := by decide +kernel
theorem dX5_firstFault_6 : decode cX5_firstFault 6 = .ok (.getfield 15, 3) := by decide +kernel
theorem dX5_firstFault_9 : decode cX5_firstFault 9 = .ok (.if_icmp .ge 27, 3) := by decide +kernel
theorem dX5_firstFault_12 : decode cX5_firstFault 12 = .ok (.iload_n 1, 1) := by decide +kernel
theorem dX5_firstFault_13 : decode cX5_firstFault 13 = .ok (.aload_n 0, 1) := by decide +kernel
theorem dX5_firstFault_14 : decode cX5_firstFault 14 = .ok (.getfield 9, 3) := by decide +kernel
theorem dX5_firstFault_17 : decode cX5_firstFault 17 = .ok (.iload_n 2, 1) := by decide +kernel
theorem dX5_firstFault_18 : decode cX5_firstFault 18 = .ok (.iaload, 1) := by decide +kernel
theorem dX5_firstFault_19 : decode cX5_firstFault 19 = .ok (.invokestatic 19, 3) := by decide +kernel
theorem dX5_firstFault_22 : decode cX5_firstFault 22 = .ok (.istore_n 1, 1) := by decide +kernel
theorem dX5_firstFault_23 : decode cX5_firstFault 23 = .ok (.iload_n 1, 1) := by decide +kernel
theorem dX5_firstFault_24 : decode cX5_firstFault 24 = .ok (.iconst (-1), 1) := by decide +kernel
theorem dX5_firstFault_25 : decode cX5_firstFault 25 = .ok (.if_icmp .ne 5, 3) := by decide +kernel
theorem dX5_firstFault_28 : decode cX5_firstFault 28 = .ok (.iload_n 2, 1) := by decide +kernel
theorem dX5_firstFault_29 : decode cX5_firstFault 29 = .ok (.ireturn, 1) := by decide +kernel
theorem dX5_firstFault_30 : decode cX5_firstFault 30 = .ok (.iinc 2 1, 3) := by decide +kernel
theorem dX5_firstFault_33 : decode cX5_firstFault 33 = .ok (.goto (-29), 3) := by decide +kernel
theorem dX5_firstFault_36 : decode cX5_firstFault 36 = .ok (.iload_n 1, 1) := by decide +kernel
theorem dX5_firstFault_37 : decode cX5_firstFault 37 = .ok (.iconst 4, 1) := by decide +kernel
theorem dX5_firstFault_38 : decode cX5_firstFault 38 = .ok (.if_icmp .lt 8, 3) := by decide +kernel
theorem dX5_firstFault_41 : decode cX5_firstFault 41 = .ok (.bipush (-6), 2) := by decide +kernel
theorem dX5_firstFault_43 : decode cX5_firstFault 43 = .ok (.goto 7, 3) := by decide +kernel
theorem dX5_firstFault_46 : decode cX5_firstFault 46 = .ok (.aload_n 0, 1) := by decide +kernel
theorem dX5_firstFault_47 : decode cX5_firstFault 47 = .ok (.getfield 15, 3) := by decide +kernel
theorem dX5_firstFault_50 : decode cX5_firstFault 50 = .ok (.ireturn, 1) := by decide +kernel
theorem dX5_next_0 : decode cX5_next 0 = .ok (.iload_n 0, 1) := by decide +kernel
theorem dX5_next_1 : decode cX5_next 1 = .ok (.tableswitch 93 0 3 #[31, 44, 57, 80], 31) := by decide +kernel
theorem dX5_next_32 : decode cX5_next 32 = .ok (.iload_n 1, 1) := by decide +kernel
theorem dX5_next_33 : decode cX5_next 33 = .ok (.invokestatic 23, 3) := by decide +kernel
theorem dX5_next_36 : decode cX5_next 36 = .ok (.ifCond .eq 7, 3) := by decide +kernel
theorem dX5_next_39 : decode cX5_next 39 = .ok (.iconst 1, 1) := by decide +kernel
theorem dX5_next_40 : decode cX5_next 40 = .ok (.goto 4, 3) := by decide +kernel
theorem dX5_next_43 : decode cX5_next 43 = .ok (.iconst (-1), 1) := by decide +kernel
theorem dX5_next_44 : decode cX5_next 44 = .ok (.ireturn, 1) := by decide +kernel
theorem dX5_next_45 : decode cX5_next 45 = .ok (.iload_n 1, 1) := by decide +kernel
theorem dX5_next_46 : decode cX5_next 46 = .ok (.invokestatic 27, 3) := by decide +kernel
theorem dX5_next_49 : decode cX5_next 49 = .ok (.ifCond .eq 7, 3) := by decide +kernel
theorem dX5_next_52 : decode cX5_next 52 = .ok (.iconst 2, 1) := by decide +kernel
theorem dX5_next_53 : decode cX5_next 53 = .ok (.goto 4, 3) := by decide +kernel
theorem dX5_next_56 : decode cX5_next 56 = .ok (.iconst (-1), 1) := by decide +kernel
theorem dX5_next_57 : decode cX5_next 57 = .ok (.ireturn, 1) := by decide +kernel
theorem dX5_next_58 : decode cX5_next 58 = .ok (.iload_n 1, 1) := by decide +kernel
theorem dX5_next_59 : decode cX5_next 59 = .ok (.bipush 45, 2) := by decide +kernel
theorem dX5_next_61 : decode cX5_next 61 = .ok (.if_icmp .ne 7, 3) := by decide +kernel
theorem dX5_next_64 : decode cX5_next 64 = .ok (.iconst 3, 1) := by decide +kernel
theorem dX5_next_65 : decode cX5_next 65 = .ok (.goto 15, 3) := by decide +kernel
theorem dX5_next_68 : decode cX5_next 68 = .ok (.iload_n 1, 1) := by decide +kernel
theorem dX5_next_69 : decode cX5_next 69 = .ok (.invokestatic 30, 3) := by decide +kernel
theorem dX5_next_72 : decode cX5_next 72 = .ok (.ifCond .eq 7, 3) := by decide +kernel
theorem dX5_next_75 : decode cX5_next 75 = .ok (.iconst 4, 1) := by decide +kernel
theorem dX5_next_76 : decode cX5_next 76 = .ok (.goto 4, 3) := by decide +kernel
theorem dX5_next_79 : decode cX5_next 79 = .ok (.iconst (-1), 1) := by decide +kernel
theorem dX5_next_80 : decode cX5_next 80 = .ok (.ireturn, 1) := by decide +kernel
theorem dX5_next_81 : decode cX5_next 81 = .ok (.iload_n 1, 1) := by decide +kernel
theorem dX5_next_82 : decode cX5_next 82 = .ok (.invokestatic 30, 3) := by decide +kernel
theorem dX5_next_85 : decode cX5_next 85 = .ok (.ifCond .eq 7, 3) := by decide +kernel
theorem dX5_next_88 : decode cX5_next 88 = .ok (.iconst 4, 1) := by decide +kernel
theorem dX5_next_89 : decode cX5_next 89 = .ok (.goto 4, 3) := by decide +kernel
theorem dX5_next_92 : decode cX5_next 92 = .ok (.iconst (-1), 1) := by decide +kernel
theorem dX5_next_93 : decode cX5_next 93 = .ok (.ireturn, 1) := by decide +kernel
theorem dX5_next_94 : decode cX5_next 94 = .ok (.iload_n 0, 1) := by decide +kernel
theorem dX5_next_95 : decode cX5_next 95 = .ok (.iload_n 1, 1) := by decide +kernel
theorem dX5_next_96 : decode cX5_next 96 = .ok (.invokestatic 33, 3) := by decide +kernel
theorem dX5_next_99 : decode cX5_next 99 = .ok (.ireturn, 1) := by decide +kernel
theorem dX5_afterDigit_0 : decode cX5_afterDigit 0 = .ok (.iload_n 1, 1) := by decide +kernel
theorem dX5_afterDigit_1 : decode cX5_afterDigit 1 = .ok (.bipush 59, 2) := by decide +kernel
theorem dX5_afterDigit_3 : decode cX5_afterDigit 3 = .ok (.if_icmp .ne 5, 3) := by decide +kernel
theorem dX5_afterDigit_6 : decode cX5_afterDigit 6 = .ok (.iconst 0, 1) := by decide +kernel
theorem dX5_afterDigit_7 : decode cX5_afterDigit 7 = .ok (.ireturn, 1) := by decide +kernel
theorem dX5_afterDigit_8 : decode cX5_afterDigit 8 = .ok (.iload_n 1, 1) := by decide +kernel
theorem dX5_afterDigit_9 : decode cX5_afterDigit 9 = .ok (.invokestatic 30, 3) := by decide +kernel
theorem dX5_afterDigit_12 : decode cX5_afterDigit 12 = .ok (.ifCond .eq 15, 3) := by decide +kernel
theorem dX5_afterDigit_15 : decode cX5_afterDigit 15 = .ok (.iload_n 0, 1) := by decide +kernel
theorem dX5_afterDigit_16 : decode cX5_afterDigit 16 = .ok (.bipush 7, 2) := by decide +kernel
theorem dX5_afterDigit_18 : decode cX5_afterDigit 18 = .ok (.if_icmp .ge 9, 3) := by decide +kernel
theorem dX5_afterDigit_21 : decode cX5_afterDigit 21 = .ok (.iload_n 0, 1) := by decide +kernel
theorem dX5_afterDigit_22 : decode cX5_afterDigit 22 = .ok (.iconst 1, 1) := by decide +kernel
theorem dX5_afterDigit_23 : decode cX5_afterDigit 23 = .ok (.iadd, 1) := by decide +kernel
theorem dX5_afterDigit_24 : decode cX5_afterDigit 24 = .ok (.goto 4, 3) := by decide +kernel
theorem dX5_afterDigit_27 : decode cX5_afterDigit 27 = .ok (.iconst (-1), 1) := by decide +kernel
theorem dX5_afterDigit_28 : decode cX5_afterDigit 28 = .ok (.ireturn, 1) := by decide +kernel
theorem dX5_isFactSign_0 : decode cX5_isFactSign 0 = .ok (.iload_n 0, 1) := by decide +kernel
theorem dX5_isFactSign_1 : decode cX5_isFactSign 1 = .ok (.bipush 116, 2) := by decide +kernel
theorem dX5_isFactSign_3 : decode cX5_isFactSign 3 = .ok (.if_icmp .eq 21, 3) := by decide +kernel
theorem dX5_isFactSign_6 : decode cX5_isFactSign 6 = .ok (.iload_n 0, 1) := by decide +kernel
theorem dX5_isFactSign_7 : decode cX5_isFactSign 7 = .ok (.bipush 119, 2) := by decide +kernel
theorem dX5_isFactSign_9 : decode cX5_isFactSign 9 = .ok (.if_icmp .eq 15, 3) := by decide +kernel
theorem dX5_isFactSign_12 : decode cX5_isFactSign 12 = .ok (.iload_n 0, 1) := by decide +kernel
theorem dX5_isFactSign_13 : decode cX5_isFactSign 13 = .ok (.bipush 104, 2) := by decide +kernel
theorem dX5_isFactSign_15 : decode cX5_isFactSign 15 = .ok (.if_icmp .eq 9, 3) := by decide +kernel
theorem dX5_isFactSign_18 : decode cX5_isFactSign 18 = .ok (.iload_n 0, 1) := by decide +kernel
theorem dX5_isFactSign_19 : decode cX5_isFactSign 19 = .ok (.bipush 101, 2) := by decide +kernel
theorem dX5_isFactSign_21 : decode cX5_isFactSign 21 = .ok (.if_icmp .ne 7, 3) := by decide +kernel
theorem dX5_isFactSign_24 : decode cX5_isFactSign 24 = .ok (.iconst 1, 1) := by decide +kernel
theorem dX5_isFactSign_25 : decode cX5_isFactSign 25 = .ok (.goto 4, 3) := by decide +kernel
theorem dX5_isFactSign_28 : decode cX5_isFactSign 28 = .ok (.iconst 0, 1) := by decide +kernel
theorem dX5_isFactSign_29 : decode cX5_isFactSign 29 = .ok (.ireturn, 1) := by decide +kernel
theorem dX5_isRelation_0 : decode cX5_isRelation 0 = .ok (.iload_n 0, 1) := by decide +kernel
theorem dX5_isRelation_1 : decode cX5_isRelation 1 = .ok (.bipush 60, 2) := by decide +kernel
theorem dX5_isRelation_3 : decode cX5_isRelation 3 = .ok (.if_icmp .eq 15, 3) := by decide +kernel
theorem dX5_isRelation_6 : decode cX5_isRelation 6 = .ok (.iload_n 0, 1) := by decide +kernel
theorem dX5_isRelation_7 : decode cX5_isRelation 7 = .ok (.bipush 62, 2) := by decide +kernel
theorem dX5_isRelation_9 : decode cX5_isRelation 9 = .ok (.if_icmp .eq 9, 3) := by decide +kernel
theorem dX5_isRelation_12 : decode cX5_isRelation 12 = .ok (.iload_n 0, 1) := by decide +kernel
theorem dX5_isRelation_13 : decode cX5_isRelation 13 = .ok (.bipush 61, 2) := by decide +kernel
theorem dX5_isRelation_15 : decode cX5_isRelation 15 = .ok (.if_icmp .ne 7, 3) := by decide +kernel
theorem dX5_isRelation_18 : decode cX5_isRelation 18 = .ok (.iconst 1, 1) := by decide +kernel
theorem dX5_isRelation_19 : decode cX5_isRelation 19 = .ok (.goto 4, 3) := by decide +kernel
theorem dX5_isRelation_22 : decode cX5_isRelation 22 = .ok (.iconst 0, 1) := by decide +kernel
theorem dX5_isRelation_23 : decode cX5_isRelation 23 = .ok (.ireturn, 1) := by decide +kernel
theorem dX5_isDigit_0 : decode cX5_isDigit 0 = .ok (.iload_n 0, 1) := by decide +kernel
theorem dX5_isDigit_1 : decode cX5_isDigit 1 = .ok (.bipush 48, 2) := by decide +kernel
theorem dX5_isDigit_3 : decode cX5_isDigit 3 = .ok (.bipush 57, 2) := by decide +kernel
theorem dX5_isDigit_5 : decode cX5_isDigit 5 = .ok (.invokestatic 36, 3) := by decide +kernel
theorem dX5_isDigit_8 : decode cX5_isDigit 8 = .ok (.ireturn, 1) := by decide +kernel
theorem dX6_init_0 : decode cX6_init 0 = .ok (.aload_n 0, 1) := by decide +kernel
theorem dX6_init_1 : decode cX6_init 1 = .ok (.invokespecial 1, 3) := by decide +kernel
theorem dX6_init_4 : decode cX6_init 4 = .ok (.return_, 1) := by decide +kernel
theorem dX6_put_0 : decode cX6_put 0 = .ok (.aload_n 0, 1) := by decide +kernel
theorem dX6_put_1 : decode cX6_put 1 = .ok (.iload_n 1, 1) := by decide +kernel
theorem dX6_put_2 : decode cX6_put 2 = .ok (.putfield 7, 3) := by decide +kernel
theorem dX6_put_5 : decode cX6_put 5 = .ok (.aload_n 0, 1) := by decide +kernel
theorem dX6_put_6 : decode cX6_put 6 = .ok (.iload_n 2, 1) := by decide +kernel
theorem dX6_put_7 : decode cX6_put 7 = .ok (.putfield 13, 3) := by decide +kernel
theorem dX6_put_10 : decode cX6_put 10 = .ok (.return_, 1) := by decide +kernel
theorem dX6_narrow_0 : decode cX6_narrow 0 = .ok (.aload_n 0, 1) := by decide +kernel
theorem dX6_narrow_1 : decode cX6_narrow 1 = .ok (.getfield 7, 3) := by decide +kernel
theorem dX6_narrow_4 : decode cX6_narrow 4 = .ok (.iload_n 1, 1) := by decide +kernel
theorem dX6_narrow_5 : decode cX6_narrow 5 = .ok (.invokestatic 16, 3) := by decide +kernel
theorem dX6_narrow_8 : decode cX6_narrow 8 = .ok (.istore_n 3, 1) := by decide +kernel
theorem dX6_narrow_9 : decode cX6_narrow 9 = .ok (.aload_n 0, 1) := by decide +kernel
theorem dX6_narrow_10 : decode cX6_narrow 10 = .ok (.getfield 13, 3) := by decide +kernel
theorem dX6_narrow_13 : decode cX6_narrow 13 = .ok (.iload_n 2, 1) := by decide +kernel
theorem dX6_narrow_14 : decode cX6_narrow 14 = .ok (.invokestatic 22, 3) := by decide +kernel
theorem dX6_narrow_17 : decode cX6_narrow 17 = .ok (.istore 4, 2) := by decide +kernel
theorem dX6_narrow_19 : decode cX6_narrow 19 = .ok (.iload_n 3, 1) := by decide +kernel
theorem dX6_narrow_20 : decode cX6_narrow 20 = .ok (.iload 4, 2) := by decide +kernel
theorem dX6_narrow_22 : decode cX6_narrow 22 = .ok (.if_icmp .le 5, 3) := by decide +kernel
theorem dX6_narrow_25 : decode cX6_narrow 25 = .ok (.iconst 0, 1) := by decide +kernel
theorem dX6_narrow_26 : decode cX6_narrow 26 = .ok (.ireturn, 1) := by decide +kernel
theorem dX6_narrow_27 : decode cX6_narrow 27 = .ok (.aload_n 0, 1) := by decide +kernel
theorem dX6_narrow_28 : decode cX6_narrow 28 = .ok (.iload_n 3, 1) := by decide +kernel
theorem dX6_narrow_29 : decode cX6_narrow 29 = .ok (.iload 4, 2) := by decide +kernel
theorem dX6_narrow_31 : decode cX6_narrow 31 = .ok (.invokevirtual 25, 3) := by decide +kernel
theorem dX6_narrow_34 : decode cX6_narrow 34 = .ok (.iconst 1, 1) := by decide +kernel
theorem dX6_narrow_35 : decode cX6_narrow 35 = .ok (.ireturn, 1) := by decide +kernel
theorem dX6_end_0 : decode cX6_end 0 = .ok (.iload_n 1, 1) := by decide +kernel
theorem dX6_end_1 : decode cX6_end 1 = .ok (.ifCond .ne 10, 3) := by decide +kernel
theorem dX6_end_4 : decode cX6_end 4 = .ok (.aload_n 0, 1) := by decide +kernel
theorem dX6_end_5 : decode cX6_end 5 = .ok (.getfield 7, 3) := by decide +kernel
theorem dX6_end_8 : decode cX6_end 8 = .ok (.goto 7, 3) := by decide +kernel
theorem dX6_end_11 : decode cX6_end 11 = .ok (.aload_n 0, 1) := by decide +kernel
theorem dX6_end_12 : decode cX6_end 12 = .ok (.getfield 13, 3) := by decide +kernel
theorem dX6_end_15 : decode cX6_end 15 = .ok (.ireturn, 1) := by decide +kernel
theorem dX7_init_0 : decode cX7_init 0 = .ok (.aload_n 0, 1) := by decide +kernel
theorem dX7_init_1 : decode cX7_init 1 = .ok (.invokespecial 3, 3) := by decide +kernel
theorem dX7_init_4 : decode cX7_init 4 = .ok (.aload_n 0, 1) := by decide +kernel
theorem dX7_init_5 : decode cX7_init 5 = .ok (.bipush 6, 2) := by decide +kernel
theorem dX7_init_7 : decode cX7_init 7 = .ok (.anewarray 9, 3) := by decide +kernel
theorem dX7_init_10 : decode cX7_init 10 = .ok (.putfield 11, 3) := by decide +kernel
theorem dX7_init_13 : decode cX7_init 13 = .ok (.aload_n 0, 1) := by decide +kernel
theorem dX7_init_14 : decode cX7_init 14 = .ok (.iconst 4, 1) := by decide +kernel
theorem dX7_init_15 : decode cX7_init 15 = .ok (.newarray .int, 2) := by decide +kernel
theorem dX7_init_17 : decode cX7_init 17 = .ok (.putfield 17, 3) := by decide +kernel
theorem dX7_init_20 : decode cX7_init 20 = .ok (.iconst 0, 1) := by decide +kernel
theorem dX7_init_21 : decode cX7_init 21 = .ok (.istore_n 1, 1) := by decide +kernel
theorem dX7_init_22 : decode cX7_init 22 = .ok (.iload_n 1, 1) := by decide +kernel
theorem dX7_init_23 : decode cX7_init 23 = .ok (.bipush 6, 2) := by decide +kernel
theorem dX7_init_25 : decode cX7_init 25 = .ok (.if_icmp .ge 22, 3) := by decide +kernel
theorem dX7_init_28 : decode cX7_init 28 = .ok (.aload_n 0, 1) := by decide +kernel
theorem dX7_init_29 : decode cX7_init 29 = .ok (.getfield 11, 3) := by decide +kernel
theorem dX7_init_32 : decode cX7_init 32 = .ok (.iload_n 1, 1) := by decide +kernel
theorem dX7_init_33 : decode cX7_init 33 = .ok (.new 9, 3) := by decide +kernel
theorem dX7_init_36 : decode cX7_init 36 = .ok (.dup, 1) := by decide +kernel
theorem dX7_init_37 : decode cX7_init 37 = .ok (.invokespecial 21, 3) := by decide +kernel
theorem dX7_init_40 : decode cX7_init 40 = .ok (.aastore, 1) := by decide +kernel
theorem dX7_init_41 : decode cX7_init 41 = .ok (.iinc 1 1, 3) := by decide +kernel
theorem dX7_init_44 : decode cX7_init 44 = .ok (.goto (-22), 3) := by decide +kernel
theorem dX7_init_47 : decode cX7_init 47 = .ok (.aload_n 0, 1) := by decide +kernel
theorem dX7_init_48 : decode cX7_init 48 = .ok (.getfield 17, 3) := by decide +kernel
theorem dX7_init_51 : decode cX7_init 51 = .ok (.iconst 2, 1) := by decide +kernel
theorem dX7_init_52 : decode cX7_init 52 = .ok (.bipush 100, 2) := by decide +kernel
theorem dX7_init_54 : decode cX7_init 54 = .ok (.iastore, 1) := by decide +kernel
theorem dX7_init_55 : decode cX7_init 55 = .ok (.return_, 1) := by decide +kernel
theorem dX7_has_0 : decode cX7_has 0 = .ok (.iload_n 1, 1) := by decide +kernel
theorem dX7_has_1 : decode cX7_has 1 = .ok (.iconst 0, 1) := by decide +kernel
theorem dX7_has_2 : decode cX7_has 2 = .ok (.aload_n 0, 1) := by decide +kernel
theorem dX7_has_3 : decode cX7_has 3 = .ok (.getfield 22, 3) := by decide +kernel
theorem dX7_has_6 : decode cX7_has 6 = .ok (.iconst 1, 1) := by decide +kernel
theorem dX7_has_7 : decode cX7_has 7 = .ok (.isub, 1) := by decide +kernel
theorem dX7_has_8 : decode cX7_has 8 = .ok (.invokestatic 26, 3) := by decide +kernel
theorem dX7_has_11 : decode cX7_has 11 = .ok (.ireturn, 1) := by decide +kernel
theorem dX7_enter_0 : decode cX7_enter 0 = .ok (.aload_n 0, 1) := by decide +kernel
theorem dX7_enter_1 : decode cX7_enter 1 = .ok (.getfield 22, 3) := by decide +kernel
theorem dX7_enter_4 : decode cX7_enter 4 = .ok (.bipush 6, 2) := by decide +kernel
theorem dX7_enter_6 : decode cX7_enter 6 = .ok (.if_icmp .lt 6, 3) := by decide +kernel
theorem dX7_enter_9 : decode cX7_enter 9 = .ok (.bipush (-4), 2) := by decide +kernel
theorem dX7_enter_11 : decode cX7_enter 11 = .ok (.ireturn, 1) := by decide +kernel
theorem dX7_enter_12 : decode cX7_enter 12 = .ok (.aload_n 0, 1) := by decide +kernel
theorem dX7_enter_13 : decode cX7_enter 13 = .ok (.getfield 11, 3) := by decide +kernel
theorem dX7_enter_16 : decode cX7_enter 16 = .ok (.aload_n 0, 1) := by decide +kernel
theorem dX7_enter_17 : decode cX7_enter 17 = .ok (.getfield 22, 3) := by decide +kernel
theorem dX7_enter_20 : decode cX7_enter 20 = .ok (.aaload, 1) := by decide +kernel
theorem dX7_enter_21 : decode cX7_enter 21 = .ok (.iload_n 1, 1) := by decide +kernel
theorem dX7_enter_22 : decode cX7_enter 22 = .ok (.putfield 30, 3) := by decide +kernel
theorem dX7_enter_25 : decode cX7_enter 25 = .ok (.aload_n 0, 1) := by decide +kernel
theorem dX7_enter_26 : decode cX7_enter 26 = .ok (.getfield 11, 3) := by decide +kernel
theorem dX7_enter_29 : decode cX7_enter 29 = .ok (.aload_n 0, 1) := by decide +kernel
theorem dX7_enter_30 : decode cX7_enter 30 = .ok (.getfield 22, 3) := by decide +kernel
theorem dX7_enter_33 : decode cX7_enter 33 = .ok (.aaload, 1) := by decide +kernel
theorem dX7_enter_34 : decode cX7_enter 34 = .ok (.iload_n 2, 1) := by decide +kernel
theorem dX7_enter_35 : decode cX7_enter 35 = .ok (.putfield 33, 3) := by decide +kernel
theorem dX7_enter_38 : decode cX7_enter 38 = .ok (.aload_n 0, 1) := by decide +kernel
theorem dX7_enter_39 : decode cX7_enter 39 = .ok (.dup, 1) := by decide +kernel
theorem dX7_enter_40 : decode cX7_enter 40 = .ok (.getfield 22, 3) := by decide +kernel
theorem dX7_enter_43 : decode cX7_enter 43 = .ok (.iconst 1, 1) := by decide +kernel
theorem dX7_enter_44 : decode cX7_enter 44 = .ok (.iadd, 1) := by decide +kernel
theorem dX7_enter_45 : decode cX7_enter 45 = .ok (.putfield 22, 3) := by decide +kernel
theorem dX7_enter_48 : decode cX7_enter 48 = .ok (.aload_n 0, 1) := by decide +kernel
theorem dX7_enter_49 : decode cX7_enter 49 = .ok (.getfield 22, 3) := by decide +kernel
theorem dX7_enter_52 : decode cX7_enter 52 = .ok (.iconst 1, 1) := by decide +kernel
theorem dX7_enter_53 : decode cX7_enter 53 = .ok (.isub, 1) := by decide +kernel
theorem dX7_enter_54 : decode cX7_enter 54 = .ok (.ireturn, 1) := by decide +kernel
theorem dX7_slitPlace_0 : decode cX7_slitPlace 0 = .ok (.aload_n 0, 1) := by decide +kernel
theorem dX7_slitPlace_1 : decode cX7_slitPlace 1 = .ok (.getfield 17, 3) := by decide +kernel
theorem dX7_slitPlace_4 : decode cX7_slitPlace 4 = .ok (.iconst 0, 1) := by decide +kernel
theorem dX7_slitPlace_5 : decode cX7_slitPlace 5 = .ok (.iaload, 1) := by decide +kernel
theorem dX7_slitPlace_6 : decode cX7_slitPlace 6 = .ok (.iload_n 1, 1) := by decide +kernel
theorem dX7_slitPlace_7 : decode cX7_slitPlace 7 = .ok (.imul, 1) := by decide +kernel
theorem dX7_slitPlace_8 : decode cX7_slitPlace 8 = .ok (.ireturn, 1) := by decide +kernel
theorem dX7_film_0 : decode cX7_film 0 = .ok (.aload_n 0, 1) := by decide +kernel
theorem dX7_film_1 : decode cX7_film 1 = .ok (.iload_n 3, 1) := by decide +kernel
theorem dX7_film_2 : decode cX7_film 2 = .ok (.invokevirtual 36, 3) := by decide +kernel
theorem dX7_film_5 : decode cX7_film 5 = .ok (.istore 4, 2) := by decide +kernel
theorem dX7_film_7 : decode cX7_film 7 = .ok (.iconst 0, 1) := by decide +kernel
theorem dX7_film_8 : decode cX7_film 8 = .ok (.istore 5, 2) := by decide +kernel
theorem dX7_film_10 : decode cX7_film 10 = .ok (.iload 5, 2) := by decide +kernel
theorem dX7_film_12 : decode cX7_film 12 = .ok (.aload_n 0, 1) := by decide +kernel
theorem dX7_film_13 : decode cX7_film 13 = .ok (.getfield 22, 3) := by decide +kernel
theorem dX7_film_16 : decode cX7_film 16 = .ok (.if_icmp .ge 79, 3) := by decide +kernel
theorem dX7_film_19 : decode cX7_film 19 = .ok (.iload_n 1, 1) := by decide +kernel
theorem dX7_film_20 : decode cX7_film 20 = .ok (.ifCond .ne 8, 3) := by decide +kernel
theorem dX7_film_23 : decode cX7_film 23 = .ok (.iload 5, 2) := by decide +kernel
theorem dX7_film_25 : decode cX7_film 25 = .ok (.goto 12, 3) := by decide +kernel
theorem dX7_film_28 : decode cX7_film 28 = .ok (.aload_n 0, 1) := by decide +kernel
theorem dX7_film_29 : decode cX7_film 29 = .ok (.getfield 22, 3) := by decide +kernel
theorem dX7_film_32 : decode cX7_film 32 = .ok (.iconst 1, 1) := by decide +kernel
theorem dX7_film_33 : decode cX7_film 33 = .ok (.isub, 1) := by decide +kernel
theorem dX7_film_34 : decode cX7_film 34 = .ok (.iload 5, 2) := by decide +kernel
theorem dX7_film_36 : decode cX7_film 36 = .ok (.isub, 1) := by decide +kernel
theorem dX7_film_37 : decode cX7_film 37 = .ok (.istore 6, 2) := by decide +kernel
theorem dX7_film_39 : decode cX7_film 39 = .ok (.aload_n 0, 1) := by decide +kernel
theorem dX7_film_40 : decode cX7_film 40 = .ok (.getfield 11, 3) := by decide +kernel
theorem dX7_film_43 : decode cX7_film 43 = .ok (.iload 6, 2) := by decide +kernel
theorem dX7_film_45 : decode cX7_film 45 = .ok (.aaload, 1) := by decide +kernel
theorem dX7_film_46 : decode cX7_film 46 = .ok (.iconst 0, 1) := by decide +kernel
theorem dX7_film_47 : decode cX7_film 47 = .ok (.iload_n 3, 1) := by decide +kernel
theorem dX7_film_48 : decode cX7_film 48 = .ok (.iload_n 2, 1) := by decide +kernel
theorem dX7_film_49 : decode cX7_film 49 = .ok (.iload 4, 2) := by decide +kernel
theorem dX7_film_51 : decode cX7_film 51 = .ok (.invokevirtual 40, 3) := by decide +kernel
theorem dX7_film_54 : decode cX7_film 54 = .ok (.ifCond .eq 9, 3) := by decide +kernel
theorem dX7_film_57 : decode cX7_film 57 = .ok (.iload 6, 2) := by decide +kernel
theorem dX7_film_59 : decode cX7_film 59 = .ok (.invokestatic 44, 3) := by decide +kernel
theorem dX7_film_62 : decode cX7_film 62 = .ok (.ireturn, 1) := by decide +kernel
theorem dX7_film_63 : decode cX7_film 63 = .ok (.aload_n 0, 1) := by decide +kernel
theorem dX7_film_64 : decode cX7_film 64 = .ok (.getfield 11, 3) := by decide +kernel
theorem dX7_film_67 : decode cX7_film 67 = .ok (.iload 6, 2) := by decide +kernel
theorem dX7_film_69 : decode cX7_film 69 = .ok (.aaload, 1) := by decide +kernel
theorem dX7_film_70 : decode cX7_film 70 = .ok (.iconst 1, 1) := by decide +kernel
theorem dX7_film_71 : decode cX7_film 71 = .ok (.iload_n 3, 1) := by decide +kernel
theorem dX7_film_72 : decode cX7_film 72 = .ok (.iload_n 2, 1) := by decide +kernel
theorem dX7_film_73 : decode cX7_film 73 = .ok (.iload 4, 2) := by decide +kernel
theorem dX7_film_75 : decode cX7_film 75 = .ok (.invokevirtual 40, 3) := by decide +kernel
theorem dX7_film_78 : decode cX7_film 78 = .ok (.ifCond .eq 11, 3) := by decide +kernel
theorem dX7_film_81 : decode cX7_film 81 = .ok (.iload 6, 2) := by decide +kernel
theorem dX7_film_83 : decode cX7_film 83 = .ok (.invokestatic 44, 3) := by decide +kernel
theorem dX7_film_86 : decode cX7_film 86 = .ok (.iconst 1, 1) := by decide +kernel
theorem dX7_film_87 : decode cX7_film 87 = .ok (.iadd, 1) := by decide +kernel
theorem dX7_film_88 : decode cX7_film 88 = .ok (.ireturn, 1) := by decide +kernel
theorem dX7_film_89 : decode cX7_film 89 = .ok (.iinc 5 1, 3) := by decide +kernel
theorem dX7_film_92 : decode cX7_film 92 = .ok (.goto (-82), 3) := by decide +kernel
theorem dX7_film_95 : decode cX7_film 95 = .ok (.iconst 0, 1) := by decide +kernel
theorem dX7_film_96 : decode cX7_film 96 = .ok (.ireturn, 1) := by decide +kernel
theorem dX7_hair_0 : decode cX7_hair 0 = .ok (.ldc 47, 2) := by decide +kernel
theorem dX7_hair_2 : decode cX7_hair 2 = .ok (.istore_n 3, 1) := by decide +kernel
theorem dX7_hair_3 : decode cX7_hair 3 = .ok (.iconst 0, 1) := by decide +kernel
theorem dX7_hair_4 : decode cX7_hair 4 = .ok (.istore 4, 2) := by decide +kernel
theorem dX7_hair_6 : decode cX7_hair 6 = .ok (.iload 4, 2) := by decide +kernel
theorem dX7_hair_8 : decode cX7_hair 8 = .ok (.bipush 6, 2) := by decide +kernel
theorem dX7_hair_10 : decode cX7_hair 10 = .ok (.if_icmp .ge 22, 3) := by decide +kernel
theorem dX7_hair_13 : decode cX7_hair 13 = .ok (.iload_n 3, 1) := by decide +kernel
theorem dX7_hair_14 : decode cX7_hair 14 = .ok (.aload_n 0, 1) := by decide +kernel
theorem dX7_hair_15 : decode cX7_hair 15 = .ok (.iload_n 1, 1) := by decide +kernel
theorem dX7_hair_16 : decode cX7_hair 16 = .ok (.iload_n 2, 1) := by decide +kernel
theorem dX7_hair_17 : decode cX7_hair 17 = .ok (.iload 4, 2) := by decide +kernel
theorem dX7_hair_19 : decode cX7_hair 19 = .ok (.invokevirtual 48, 3) := by decide +kernel
theorem dX7_hair_22 : decode cX7_hair 22 = .ok (.invokestatic 52, 3) := by decide +kernel
theorem dX7_hair_25 : decode cX7_hair 25 = .ok (.istore_n 3, 1) := by decide +kernel
theorem dX7_hair_26 : decode cX7_hair 26 = .ok (.iinc 4 1, 3) := by decide +kernel
theorem dX7_hair_29 : decode cX7_hair 29 = .ok (.goto (-23), 3) := by decide +kernel
theorem dX7_hair_32 : decode cX7_hair 32 = .ok (.iload_n 3, 1) := by decide +kernel
theorem dX7_hair_33 : decode cX7_hair 33 = .ok (.ireturn, 1) := by decide +kernel
theorem dX7_firstShown_0 : decode cX7_firstShown 0 = .ok (.aload_n 0, 1) := by decide +kernel
theorem dX7_firstShown_1 : decode cX7_firstShown 1 = .ok (.iload_n 3, 1) := by decide +kernel
theorem dX7_firstShown_2 : decode cX7_firstShown 2 = .ok (.invokevirtual 36, 3) := by decide +kernel
theorem dX7_firstShown_5 : decode cX7_firstShown 5 = .ok (.istore 4, 2) := by decide +kernel
theorem dX7_firstShown_7 : decode cX7_firstShown 7 = .ok (.aload_n 0, 1) := by decide +kernel
theorem dX7_firstShown_8 : decode cX7_firstShown 8 = .ok (.getfield 11, 3) := by decide +kernel
theorem dX7_firstShown_11 : decode cX7_firstShown 11 = .ok (.iload_n 2, 1) := by decide +kernel
theorem dX7_firstShown_12 : decode cX7_firstShown 12 = .ok (.aaload, 1) := by decide +kernel
theorem dX7_firstShown_13 : decode cX7_firstShown 13 = .ok (.iconst 0, 1) := by decide +kernel
theorem dX7_firstShown_14 : decode cX7_firstShown 14 = .ok (.iload_n 3, 1) := by decide +kernel
theorem dX7_firstShown_15 : decode cX7_firstShown 15 = .ok (.iload 4, 2) := by decide +kernel
theorem dX7_firstShown_17 : decode cX7_firstShown 17 = .ok (.invokevirtual 58, 3) := by decide +kernel
theorem dX7_firstShown_20 : decode cX7_firstShown 20 = .ok (.istore 5, 2) := by decide +kernel
theorem dX7_firstShown_22 : decode cX7_firstShown 22 = .ok (.aload_n 0, 1) := by decide +kernel
theorem dX7_firstShown_23 : decode cX7_firstShown 23 = .ok (.getfield 11, 3) := by decide +kernel
theorem dX7_firstShown_26 : decode cX7_firstShown 26 = .ok (.iload_n 2, 1) := by decide +kernel
theorem dX7_firstShown_27 : decode cX7_firstShown 27 = .ok (.aaload, 1) := by decide +kernel
theorem dX7_firstShown_28 : decode cX7_firstShown 28 = .ok (.iconst 0, 1) := by decide +kernel
theorem dX7_firstShown_29 : decode cX7_firstShown 29 = .ok (.iload_n 3, 1) := by decide +kernel
theorem dX7_firstShown_30 : decode cX7_firstShown 30 = .ok (.iload 4, 2) := by decide +kernel
theorem dX7_firstShown_32 : decode cX7_firstShown 32 = .ok (.invokevirtual 61, 3) := by decide +kernel
theorem dX7_firstShown_35 : decode cX7_firstShown 35 = .ok (.istore 6, 2) := by decide +kernel
theorem dX7_firstShown_37 : decode cX7_firstShown 37 = .ok (.iload 6, 2) := by decide +kernel
theorem dX7_firstShown_39 : decode cX7_firstShown 39 = .ok (.iload 5, 2) := by decide +kernel
theorem dX7_firstShown_41 : decode cX7_firstShown 41 = .ok (.if_icmp .gt 27, 3) := by decide +kernel
theorem dX7_firstShown_44 : decode cX7_firstShown 44 = .ok (.aload_n 0, 1) := by decide +kernel
theorem dX7_firstShown_45 : decode cX7_firstShown 45 = .ok (.iload_n 1, 1) := by decide +kernel
theorem dX7_firstShown_46 : decode cX7_firstShown 46 = .ok (.iload 6, 2) := by decide +kernel
theorem dX7_firstShown_48 : decode cX7_firstShown 48 = .ok (.iload_n 3, 1) := by decide +kernel
theorem dX7_firstShown_49 : decode cX7_firstShown 49 = .ok (.invokevirtual 64, 3) := by decide +kernel
theorem dX7_firstShown_52 : decode cX7_firstShown 52 = .ok (.iload_n 2, 1) := by decide +kernel
theorem dX7_firstShown_53 : decode cX7_firstShown 53 = .ok (.invokestatic 44, 3) := by decide +kernel
theorem dX7_firstShown_56 : decode cX7_firstShown 56 = .ok (.if_icmp .ne 6, 3) := by decide +kernel
theorem dX7_firstShown_59 : decode cX7_firstShown 59 = .ok (.iload 6, 2) := by decide +kernel
theorem dX7_firstShown_61 : decode cX7_firstShown 61 = .ok (.ireturn, 1) := by decide +kernel
theorem dX7_firstShown_62 : decode cX7_firstShown 62 = .ok (.iinc 6 1, 3) := by decide +kernel
theorem dX7_firstShown_65 : decode cX7_firstShown 65 = .ok (.goto (-28), 3) := by decide +kernel
theorem dX7_firstShown_68 : decode cX7_firstShown 68 = .ok (.ldc 47, 2) := by decide +kernel
theorem dX7_firstShown_70 : decode cX7_firstShown 70 = .ok (.ireturn, 1) := by decide +kernel
theorem dX7_joined_0 : decode cX7_joined 0 = .ok (.aload_n 0, 1) := by decide +kernel
theorem dX7_joined_1 : decode cX7_joined 1 = .ok (.iconst 0, 1) := by decide +kernel
theorem dX7_joined_2 : decode cX7_joined 2 = .ok (.iload_n 1, 1) := by decide +kernel
theorem dX7_joined_3 : decode cX7_joined 3 = .ok (.invokevirtual 67, 3) := by decide +kernel
theorem dX7_joined_6 : decode cX7_joined 6 = .ok (.aload_n 0, 1) := by decide +kernel
theorem dX7_joined_7 : decode cX7_joined 7 = .ok (.iconst 1, 1) := by decide +kernel
theorem dX7_joined_8 : decode cX7_joined 8 = .ok (.iload_n 1, 1) := by decide +kernel
theorem dX7_joined_9 : decode cX7_joined 9 = .ok (.invokevirtual 67, 3) := by decide +kernel
theorem dX7_joined_12 : decode cX7_joined 12 = .ok (.invokestatic 52, 3) := by decide +kernel
theorem dX7_joined_15 : decode cX7_joined 15 = .ok (.ireturn, 1) := by decide +kernel
theorem dX7_leaned_0 : decode cX7_leaned 0 = .ok (.aload_n 0, 1) := by decide +kernel
theorem dX7_leaned_1 : decode cX7_leaned 1 = .ok (.getfield 11, 3) := by decide +kernel
theorem dX7_leaned_4 : decode cX7_leaned 4 = .ok (.iload_n 1, 1) := by decide +kernel
theorem dX7_leaned_5 : decode cX7_leaned 5 = .ok (.aaload, 1) := by decide +kernel
theorem dX7_leaned_6 : decode cX7_leaned 6 = .ok (.aload_n 0, 1) := by decide +kernel
theorem dX7_leaned_7 : decode cX7_leaned 7 = .ok (.getfield 17, 3) := by decide +kernel
theorem dX7_leaned_10 : decode cX7_leaned 10 = .ok (.iconst 0, 1) := by decide +kernel
theorem dX7_leaned_11 : decode cX7_leaned 11 = .ok (.iaload, 1) := by decide +kernel
theorem dX7_leaned_12 : decode cX7_leaned 12 = .ok (.invokevirtual 70, 3) := by decide +kernel
theorem dX7_leaned_15 : decode cX7_leaned 15 = .ok (.ireturn, 1) := by decide +kernel
theorem dX7_isHidden_0 : decode cX7_isHidden 0 = .ok (.aload_n 0, 1) := by decide +kernel
theorem dX7_isHidden_1 : decode cX7_isHidden 1 = .ok (.getfield 11, 3) := by decide +kernel
theorem dX7_isHidden_4 : decode cX7_isHidden 4 = .ok (.iload_n 1, 1) := by decide +kernel
theorem dX7_isHidden_5 : decode cX7_isHidden 5 = .ok (.aaload, 1) := by decide +kernel
theorem dX7_isHidden_6 : decode cX7_isHidden 6 = .ok (.invokevirtual 73, 3) := by decide +kernel
theorem dX7_isHidden_9 : decode cX7_isHidden 9 = .ok (.ifCond .eq 20, 3) := by decide +kernel
theorem dX7_isHidden_12 : decode cX7_isHidden 12 = .ok (.aload_n 0, 1) := by decide +kernel
theorem dX7_isHidden_13 : decode cX7_isHidden 13 = .ok (.iload_n 1, 1) := by decide +kernel
theorem dX7_isHidden_14 : decode cX7_isHidden 14 = .ok (.invokevirtual 77, 3) := by decide +kernel
theorem dX7_isHidden_17 : decode cX7_isHidden 17 = .ok (.aload_n 0, 1) := by decide +kernel
theorem dX7_isHidden_18 : decode cX7_isHidden 18 = .ok (.iload_n 1, 1) := by decide +kernel
theorem dX7_isHidden_19 : decode cX7_isHidden 19 = .ok (.invokevirtual 80, 3) := by decide +kernel
theorem dX7_isHidden_22 : decode cX7_isHidden 22 = .ok (.if_icmp .le 7, 3) := by decide +kernel
theorem dX7_isHidden_25 : decode cX7_isHidden 25 = .ok (.iconst 1, 1) := by decide +kernel
theorem dX7_isHidden_26 : decode cX7_isHidden 26 = .ok (.goto 4, 3) := by decide +kernel
theorem dX7_isHidden_29 : decode cX7_isHidden 29 = .ok (.iconst 0, 1) := by decide +kernel
theorem dX7_isHidden_30 : decode cX7_isHidden 30 = .ok (.ireturn, 1) := by decide +kernel
theorem dX7_hears_0 : decode cX7_hears 0 = .ok (.aload_n 0, 1) := by decide +kernel
theorem dX7_hears_1 : decode cX7_hears 1 = .ok (.getfield 17, 3) := by decide +kernel
theorem dX7_hears_4 : decode cX7_hears 4 = .ok (.iconst 3, 1) := by decide +kernel
theorem dX7_hears_5 : decode cX7_hears 5 = .ok (.iaload, 1) := by decide +kernel
theorem dX7_hears_6 : decode cX7_hears 6 = .ok (.iconst 1, 1) := by decide +kernel
theorem dX7_hears_7 : decode cX7_hears 7 = .ok (.if_icmp .ne 18, 3) := by decide +kernel
theorem dX7_hears_10 : decode cX7_hears 10 = .ok (.iload_n 1, 1) := by decide +kernel
theorem dX7_hears_11 : decode cX7_hears 11 = .ok (.aload_n 0, 1) := by decide +kernel
theorem dX7_hears_12 : decode cX7_hears 12 = .ok (.getfield 22, 3) := by decide +kernel
theorem dX7_hears_15 : decode cX7_hears 15 = .ok (.iconst 1, 1) := by decide +kernel
theorem dX7_hears_16 : decode cX7_hears 16 = .ok (.isub, 1) := by decide +kernel
theorem dX7_hears_17 : decode cX7_hears 17 = .ok (.iload_n 1, 1) := by decide +kernel
theorem dX7_hears_18 : decode cX7_hears 18 = .ok (.isub, 1) := by decide +kernel
theorem dX7_hears_19 : decode cX7_hears 19 = .ok (.invokestatic 52, 3) := by decide +kernel
theorem dX7_hears_22 : decode cX7_hears 22 = .ok (.goto 4, 3) := by decide +kernel
theorem dX7_hears_25 : decode cX7_hears 25 = .ok (.iload_n 1, 1) := by decide +kernel
theorem dX7_hears_26 : decode cX7_hears 26 = .ok (.istore_n 2, 1) := by decide +kernel
theorem dX7_hears_27 : decode cX7_hears 27 = .ok (.iconst 3, 1) := by decide +kernel
theorem dX7_hears_28 : decode cX7_hears 28 = .ok (.iload_n 2, 1) := by decide +kernel
theorem dX7_hears_29 : decode cX7_hears 29 = .ok (.imul, 1) := by decide +kernel
theorem dX7_hears_30 : decode cX7_hears 30 = .ok (.ireturn, 1) := by decide +kernel
theorem dX7_early_0 : decode cX7_early 0 = .ok (.aload_n 0, 1) := by decide +kernel
theorem dX7_early_1 : decode cX7_early 1 = .ok (.getfield 11, 3) := by decide +kernel
theorem dX7_early_4 : decode cX7_early 4 = .ok (.iload_n 1, 1) := by decide +kernel
theorem dX7_early_5 : decode cX7_early 5 = .ok (.aaload, 1) := by decide +kernel
theorem dX7_early_6 : decode cX7_early 6 = .ok (.getfield 83, 3) := by decide +kernel
theorem dX7_early_9 : decode cX7_early 9 = .ok (.istore_n 2, 1) := by decide +kernel
theorem dX7_early_10 : decode cX7_early 10 = .ok (.iload_n 2, 1) := by decide +kernel
theorem dX7_early_11 : decode cX7_early 11 = .ok (.bipush (-6), 2) := by decide +kernel
theorem dX7_early_13 : decode cX7_early 13 = .ok (.if_icmp .ne 6, 3) := by decide +kernel
theorem dX7_early_16 : decode cX7_early 16 = .ok (.bipush (-6), 2) := by decide +kernel
theorem dX7_early_18 : decode cX7_early 18 = .ok (.ireturn, 1) := by decide +kernel
theorem dX7_early_19 : decode cX7_early 19 = .ok (.iload_n 2, 1) := by decide +kernel
theorem dX7_early_20 : decode cX7_early 20 = .ok (.aload_n 0, 1) := by decide +kernel
theorem dX7_early_21 : decode cX7_early 21 = .ok (.iload_n 1, 1) := by decide +kernel
theorem dX7_early_22 : decode cX7_early 22 = .ok (.invokevirtual 86, 3) := by decide +kernel
theorem dX7_early_25 : decode cX7_early 25 = .ok (.aload_n 0, 1) := by decide +kernel
theorem dX7_early_26 : decode cX7_early 26 = .ok (.getfield 17, 3) := by decide +kernel
theorem dX7_early_29 : decode cX7_early 29 = .ok (.iconst 2, 1) := by decide +kernel
theorem dX7_early_30 : decode cX7_early 30 = .ok (.iaload, 1) := by decide +kernel
theorem dX7_early_31 : decode cX7_early 31 = .ok (.iadd, 1) := by decide +kernel
theorem dX7_early_32 : decode cX7_early 32 = .ok (.if_icmp .ge 7, 3) := by decide +kernel
theorem dX7_early_35 : decode cX7_early 35 = .ok (.iconst 1, 1) := by decide +kernel
theorem dX7_early_36 : decode cX7_early 36 = .ok (.goto 4, 3) := by decide +kernel
theorem dX7_early_39 : decode cX7_early 39 = .ok (.iconst 0, 1) := by decide +kernel
theorem dX7_early_40 : decode cX7_early 40 = .ok (.ireturn, 1) := by decide +kernel
theorem dX7_areMoved_0 : decode cX7_areMoved 0 = .ok (.aload_n 0, 1) := by decide +kernel
theorem dX7_areMoved_1 : decode cX7_areMoved 1 = .ok (.getfield 11, 3) := by decide +kernel
theorem dX7_areMoved_4 : decode cX7_areMoved 4 = .ok (.iload_n 1, 1) := by decide +kernel
theorem dX7_areMoved_5 : decode cX7_areMoved 5 = .ok (.aaload, 1) := by decide +kernel
theorem dX7_areMoved_6 : decode cX7_areMoved 6 = .ok (.astore_n 3, 1) := by decide +kernel
theorem dX7_areMoved_7 : decode cX7_areMoved 7 = .ok (.aload_n 0, 1) := by decide +kernel
theorem dX7_areMoved_8 : decode cX7_areMoved 8 = .ok (.getfield 11, 3) := by decide +kernel
theorem dX7_areMoved_11 : decode cX7_areMoved 11 = .ok (.iload_n 2, 1) := by decide +kernel
theorem dX7_areMoved_12 : decode cX7_areMoved 12 = .ok (.aaload, 1) := by decide +kernel
theorem dX7_areMoved_13 : decode cX7_areMoved 13 = .ok (.astore 4, 2) := by decide +kernel
theorem dX7_areMoved_15 : decode cX7_areMoved 15 = .ok (.aload_n 3, 1) := by decide +kernel
theorem dX7_areMoved_16 : decode cX7_areMoved 16 = .ok (.invokevirtual 73, 3) := by decide +kernel
theorem dX7_areMoved_19 : decode cX7_areMoved 19 = .ok (.ifCond .eq 11, 3) := by decide +kernel
theorem dX7_areMoved_22 : decode cX7_areMoved 22 = .ok (.aload 4, 2) := by decide +kernel
theorem dX7_areMoved_24 : decode cX7_areMoved 24 = .ok (.invokevirtual 73, 3) := by decide +kernel
theorem dX7_areMoved_27 : decode cX7_areMoved 27 = .ok (.ifCond .ne 5, 3) := by decide +kernel
theorem dX7_areMoved_30 : decode cX7_areMoved 30 = .ok (.iconst 0, 1) := by decide +kernel
theorem dX7_areMoved_31 : decode cX7_areMoved 31 = .ok (.ireturn, 1) := by decide +kernel
theorem dX7_areMoved_32 : decode cX7_areMoved 32 = .ok (.aload_n 3, 1) := by decide +kernel
theorem dX7_areMoved_33 : decode cX7_areMoved 33 = .ok (.iconst 0, 1) := by decide +kernel
theorem dX7_areMoved_34 : decode cX7_areMoved 34 = .ok (.invokevirtual 70, 3) := by decide +kernel
theorem dX7_areMoved_37 : decode cX7_areMoved 37 = .ok (.aload 4, 2) := by decide +kernel
theorem dX7_areMoved_39 : decode cX7_areMoved 39 = .ok (.iconst 0, 1) := by decide +kernel
theorem dX7_areMoved_40 : decode cX7_areMoved 40 = .ok (.invokevirtual 70, 3) := by decide +kernel
theorem dX7_areMoved_43 : decode cX7_areMoved 43 = .ok (.invokestatic 89, 3) := by decide +kernel
theorem dX7_areMoved_46 : decode cX7_areMoved 46 = .ok (.istore 5, 2) := by decide +kernel
theorem dX7_areMoved_48 : decode cX7_areMoved 48 = .ok (.iload 5, 2) := by decide +kernel
theorem dX7_areMoved_50 : decode cX7_areMoved 50 = .ok (.aload_n 0, 1) := by decide +kernel
theorem dX7_areMoved_51 : decode cX7_areMoved 51 = .ok (.iload_n 1, 1) := by decide +kernel
theorem dX7_areMoved_52 : decode cX7_areMoved 52 = .ok (.invokevirtual 80, 3) := by decide +kernel
theorem dX7_areMoved_55 : decode cX7_areMoved 55 = .ok (.aload_n 0, 1) := by decide +kernel
theorem dX7_areMoved_56 : decode cX7_areMoved 56 = .ok (.iload_n 2, 1) := by decide +kernel
theorem dX7_areMoved_57 : decode cX7_areMoved 57 = .ok (.invokevirtual 80, 3) := by decide +kernel
theorem dX7_areMoved_60 : decode cX7_areMoved 60 = .ok (.invokestatic 89, 3) := by decide +kernel
theorem dX7_areMoved_63 : decode cX7_areMoved 63 = .ok (.if_icmp .eq 7, 3) := by decide +kernel
theorem dX7_areMoved_66 : decode cX7_areMoved 66 = .ok (.iconst 1, 1) := by decide +kernel
theorem dX7_areMoved_67 : decode cX7_areMoved 67 = .ok (.goto 4, 3) := by decide +kernel
theorem dX7_areMoved_70 : decode cX7_areMoved 70 = .ok (.iconst 0, 1) := by decide +kernel
theorem dX7_areMoved_71 : decode cX7_areMoved 71 = .ok (.ireturn, 1) := by decide +kernel
theorem dX7_countTorsos_0 : decode cX7_countTorsos 0 = .ok (.iconst 0, 1) := by decide +kernel
theorem dX7_countTorsos_1 : decode cX7_countTorsos 1 = .ok (.istore_n 1, 1) := by decide +kernel
theorem dX7_countTorsos_2 : decode cX7_countTorsos 2 = .ok (.iconst 0, 1) := by decide +kernel
theorem dX7_countTorsos_3 : decode cX7_countTorsos 3 = .ok (.istore_n 2, 1) := by decide +kernel
theorem dX7_countTorsos_4 : decode cX7_countTorsos 4 = .ok (.iload_n 2, 1) := by decide +kernel
theorem dX7_countTorsos_5 : decode cX7_countTorsos 5 = .ok (.aload_n 0, 1) := by decide +kernel
theorem dX7_countTorsos_6 : decode cX7_countTorsos 6 = .ok (.getfield 22, 3) := by decide +kernel
theorem dX7_countTorsos_9 : decode cX7_countTorsos 9 = .ok (.if_icmp .ge 24, 3) := by decide +kernel
theorem dX7_countTorsos_12 : decode cX7_countTorsos 12 = .ok (.aload_n 0, 1) := by decide +kernel
theorem dX7_countTorsos_13 : decode cX7_countTorsos 13 = .ok (.getfield 11, 3) := by decide +kernel
theorem dX7_countTorsos_16 : decode cX7_countTorsos 16 = .ok (.iload_n 2, 1) := by decide +kernel
theorem dX7_countTorsos_17 : decode cX7_countTorsos 17 = .ok (.aaload, 1) := by decide +kernel
theorem dX7_countTorsos_18 : decode cX7_countTorsos 18 = .ok (.invokevirtual 73, 3) := by decide +kernel
theorem dX7_countTorsos_21 : decode cX7_countTorsos 21 = .ok (.ifCond .eq 6, 3) := by decide +kernel
theorem dX7_countTorsos_24 : decode cX7_countTorsos 24 = .ok (.iinc 1 1, 3) := by decide +kernel
theorem dX7_countTorsos_27 : decode cX7_countTorsos 27 = .ok (.iinc 2 1, 3) := by decide +kernel
theorem dX7_countTorsos_30 : decode cX7_countTorsos 30 = .ok (.goto (-26), 3) := by decide +kernel
theorem dX7_countTorsos_33 : decode cX7_countTorsos 33 = .ok (.iload_n 1, 1) := by decide +kernel
theorem dX7_countTorsos_34 : decode cX7_countTorsos 34 = .ok (.ireturn, 1) := by decide +kernel
theorem dJ6_compare_7cf53_0 : decode cJ6_compare_7cf53 0 = .ok (.iload_n 0, 1) := by decide +kernel
theorem dJ6_compare_7cf53_1 : decode cJ6_compare_7cf53 1 = .ok (.iload_n 1, 1) := by decide +kernel
theorem dJ6_compare_7cf53_2 : decode cJ6_compare_7cf53 2 = .ok (.if_icmp .ge 7, 3) := by decide +kernel
theorem dJ6_compare_7cf53_5 : decode cJ6_compare_7cf53 5 = .ok (.iconst (-1), 1) := by decide +kernel
theorem dJ6_compare_7cf53_6 : decode cJ6_compare_7cf53 6 = .ok (.goto 13, 3) := by decide +kernel
theorem dJ6_compare_7cf53_9 : decode cJ6_compare_7cf53 9 = .ok (.iload_n 0, 1) := by decide +kernel
theorem dJ6_compare_7cf53_10 : decode cJ6_compare_7cf53 10 = .ok (.iload_n 1, 1) := by decide +kernel
theorem dJ6_compare_7cf53_11 : decode cJ6_compare_7cf53 11 = .ok (.if_icmp .ne 7, 3) := by decide +kernel
theorem dJ6_compare_7cf53_14 : decode cJ6_compare_7cf53 14 = .ok (.iconst 0, 1) := by decide +kernel
theorem dJ6_compare_7cf53_15 : decode cJ6_compare_7cf53 15 = .ok (.goto 4, 3) := by decide +kernel
theorem dJ6_compare_7cf53_18 : decode cJ6_compare_7cf53 18 = .ok (.iconst 1, 1) := by decide +kernel
theorem dJ6_compare_7cf53_19 : decode cJ6_compare_7cf53 19 = .ok (.ireturn, 1) := by decide +kernel
theorem dJ6_bitCount_0f7a4_0 : decode cJ6_bitCount_0f7a4 0 = .ok (.iload_n 0, 1) := by decide +kernel
theorem dJ6_bitCount_0f7a4_1 : decode cJ6_bitCount_0f7a4 1 = .ok (.iload_n 0, 1) := by decide +kernel
theorem dJ6_bitCount_0f7a4_2 : decode cJ6_bitCount_0f7a4 2 = .ok (.iconst 1, 1) := by decide +kernel
theorem dJ6_bitCount_0f7a4_3 : decode cJ6_bitCount_0f7a4 3 = .ok (.iushr, 1) := by decide +kernel
theorem dJ6_bitCount_0f7a4_4 : decode cJ6_bitCount_0f7a4 4 = .ok (.ldc_w 265, 3) := by decide +kernel
theorem dJ6_bitCount_0f7a4_7 : decode cJ6_bitCount_0f7a4 7 = .ok (.iand, 1) := by decide +kernel
theorem dJ6_bitCount_0f7a4_8 : decode cJ6_bitCount_0f7a4 8 = .ok (.isub, 1) := by decide +kernel
theorem dJ6_bitCount_0f7a4_9 : decode cJ6_bitCount_0f7a4 9 = .ok (.istore_n 0, 1) := by decide +kernel
theorem dJ6_bitCount_0f7a4_10 : decode cJ6_bitCount_0f7a4 10 = .ok (.iload_n 0, 1) := by decide +kernel
theorem dJ6_bitCount_0f7a4_11 : decode cJ6_bitCount_0f7a4 11 = .ok (.ldc_w 266, 3) := by decide +kernel
theorem dJ6_bitCount_0f7a4_14 : decode cJ6_bitCount_0f7a4 14 = .ok (.iand, 1) := by decide +kernel
theorem dJ6_bitCount_0f7a4_15 : decode cJ6_bitCount_0f7a4 15 = .ok (.iload_n 0, 1) := by decide +kernel
theorem dJ6_bitCount_0f7a4_16 : decode cJ6_bitCount_0f7a4 16 = .ok (.iconst 2, 1) := by decide +kernel
theorem dJ6_bitCount_0f7a4_17 : decode cJ6_bitCount_0f7a4 17 = .ok (.iushr, 1) := by decide +kernel
theorem dJ6_bitCount_0f7a4_18 : decode cJ6_bitCount_0f7a4 18 = .ok (.ldc_w 266, 3) := by decide +kernel
theorem dJ6_bitCount_0f7a4_21 : decode cJ6_bitCount_0f7a4 21 = .ok (.iand, 1) := by decide +kernel
theorem dJ6_bitCount_0f7a4_22 : decode cJ6_bitCount_0f7a4 22 = .ok (.iadd, 1) := by decide +kernel
theorem dJ6_bitCount_0f7a4_23 : decode cJ6_bitCount_0f7a4 23 = .ok (.istore_n 0, 1) := by decide +kernel
theorem dJ6_bitCount_0f7a4_24 : decode cJ6_bitCount_0f7a4 24 = .ok (.iload_n 0, 1) := by decide +kernel
theorem dJ6_bitCount_0f7a4_25 : decode cJ6_bitCount_0f7a4 25 = .ok (.iload_n 0, 1) := by decide +kernel
theorem dJ6_bitCount_0f7a4_26 : decode cJ6_bitCount_0f7a4 26 = .ok (.iconst 4, 1) := by decide +kernel
theorem dJ6_bitCount_0f7a4_27 : decode cJ6_bitCount_0f7a4 27 = .ok (.iushr, 1) := by decide +kernel
theorem dJ6_bitCount_0f7a4_28 : decode cJ6_bitCount_0f7a4 28 = .ok (.iadd, 1) := by decide +kernel
theorem dJ6_bitCount_0f7a4_29 : decode cJ6_bitCount_0f7a4 29 = .ok (.ldc_w 267, 3) := by decide +kernel
theorem dJ6_bitCount_0f7a4_32 : decode cJ6_bitCount_0f7a4 32 = .ok (.iand, 1) := by decide +kernel
theorem dJ6_bitCount_0f7a4_33 : decode cJ6_bitCount_0f7a4 33 = .ok (.istore_n 0, 1) := by decide +kernel
theorem dJ6_bitCount_0f7a4_34 : decode cJ6_bitCount_0f7a4 34 = .ok (.iload_n 0, 1) := by decide +kernel
theorem dJ6_bitCount_0f7a4_35 : decode cJ6_bitCount_0f7a4 35 = .ok (.iload_n 0, 1) := by decide +kernel
theorem dJ6_bitCount_0f7a4_36 : decode cJ6_bitCount_0f7a4 36 = .ok (.bipush 8, 2) := by decide +kernel
theorem dJ6_bitCount_0f7a4_38 : decode cJ6_bitCount_0f7a4 38 = .ok (.iushr, 1) := by decide +kernel
theorem dJ6_bitCount_0f7a4_39 : decode cJ6_bitCount_0f7a4 39 = .ok (.iadd, 1) := by decide +kernel
theorem dJ6_bitCount_0f7a4_40 : decode cJ6_bitCount_0f7a4 40 = .ok (.istore_n 0, 1) := by decide +kernel
theorem dJ6_bitCount_0f7a4_41 : decode cJ6_bitCount_0f7a4 41 = .ok (.iload_n 0, 1) := by decide +kernel
theorem dJ6_bitCount_0f7a4_42 : decode cJ6_bitCount_0f7a4 42 = .ok (.iload_n 0, 1) := by decide +kernel
theorem dJ6_bitCount_0f7a4_43 : decode cJ6_bitCount_0f7a4 43 = .ok (.bipush 16, 2) := by decide +kernel
theorem dJ6_bitCount_0f7a4_45 : decode cJ6_bitCount_0f7a4 45 = .ok (.iushr, 1) := by decide +kernel
theorem dJ6_bitCount_0f7a4_46 : decode cJ6_bitCount_0f7a4 46 = .ok (.iadd, 1) := by decide +kernel
theorem dJ6_bitCount_0f7a4_47 : decode cJ6_bitCount_0f7a4 47 = .ok (.istore_n 0, 1) := by decide +kernel
theorem dJ6_bitCount_0f7a4_48 : decode cJ6_bitCount_0f7a4 48 = .ok (.iload_n 0, 1) := by decide +kernel
theorem dJ6_bitCount_0f7a4_49 : decode cJ6_bitCount_0f7a4 49 = .ok (.bipush 63, 2) := by decide +kernel
theorem dJ6_bitCount_0f7a4_51 : decode cJ6_bitCount_0f7a4 51 = .ok (.iand, 1) := by decide +kernel
theorem dJ6_bitCount_0f7a4_52 : decode cJ6_bitCount_0f7a4 52 = .ok (.ireturn, 1) := by decide +kernel
theorem dJ9_floorDiv_7cf53_0 : decode cJ9_floorDiv_7cf53 0 = .ok (.iload_n 0, 1) := by decide +kernel
theorem dJ9_floorDiv_7cf53_1 : decode cJ9_floorDiv_7cf53 1 = .ok (.iload_n 1, 1) := by decide +kernel
theorem dJ9_floorDiv_7cf53_2 : decode cJ9_floorDiv_7cf53 2 = .ok (.idiv, 1) := by decide +kernel
theorem dJ9_floorDiv_7cf53_3 : decode cJ9_floorDiv_7cf53 3 = .ok (.istore_n 2, 1) := by decide +kernel
theorem dJ9_floorDiv_7cf53_4 : decode cJ9_floorDiv_7cf53 4 = .ok (.iload_n 0, 1) := by decide +kernel
theorem dJ9_floorDiv_7cf53_5 : decode cJ9_floorDiv_7cf53 5 = .ok (.iload_n 1, 1) := by decide +kernel
theorem dJ9_floorDiv_7cf53_6 : decode cJ9_floorDiv_7cf53 6 = .ok (.ixor, 1) := by decide +kernel
theorem dJ9_floorDiv_7cf53_7 : decode cJ9_floorDiv_7cf53 7 = .ok (.ifCond .ge 14, 3) := by decide +kernel
theorem dJ9_floorDiv_7cf53_10 : decode cJ9_floorDiv_7cf53 10 = .ok (.iload_n 2, 1) := by decide +kernel
theorem dJ9_floorDiv_7cf53_11 : decode cJ9_floorDiv_7cf53 11 = .ok (.iload_n 1, 1) := by decide +kernel
theorem dJ9_floorDiv_7cf53_12 : decode cJ9_floorDiv_7cf53 12 = .ok (.imul, 1) := by decide +kernel
theorem dJ9_floorDiv_7cf53_13 : decode cJ9_floorDiv_7cf53 13 = .ok (.iload_n 0, 1) := by decide +kernel
theorem dJ9_floorDiv_7cf53_14 : decode cJ9_floorDiv_7cf53 14 = .ok (.if_icmp .eq 7, 3) := by decide +kernel
theorem dJ9_floorDiv_7cf53_17 : decode cJ9_floorDiv_7cf53 17 = .ok (.iload_n 2, 1) := by decide +kernel
theorem dJ9_floorDiv_7cf53_18 : decode cJ9_floorDiv_7cf53 18 = .ok (.iconst 1, 1) := by decide +kernel
theorem dJ9_floorDiv_7cf53_19 : decode cJ9_floorDiv_7cf53 19 = .ok (.isub, 1) := by decide +kernel
theorem dJ9_floorDiv_7cf53_20 : decode cJ9_floorDiv_7cf53 20 = .ok (.ireturn, 1) := by decide +kernel
theorem dJ9_floorDiv_7cf53_21 : decode cJ9_floorDiv_7cf53 21 = .ok (.iload_n 2, 1) := by decide +kernel
theorem dJ9_floorDiv_7cf53_22 : decode cJ9_floorDiv_7cf53 22 = .ok (.ireturn, 1) := by decide +kernel
theorem dJ9_max_7cf53_0 : decode cJ9_max_7cf53 0 = .ok (.iload_n 0, 1) := by decide +kernel
theorem dJ9_max_7cf53_1 : decode cJ9_max_7cf53 1 = .ok (.iload_n 1, 1) := by decide +kernel
theorem dJ9_max_7cf53_2 : decode cJ9_max_7cf53 2 = .ok (.if_icmp .lt 7, 3) := by decide +kernel
theorem dJ9_max_7cf53_5 : decode cJ9_max_7cf53 5 = .ok (.iload_n 0, 1) := by decide +kernel
theorem dJ9_max_7cf53_6 : decode cJ9_max_7cf53 6 = .ok (.goto 4, 3) := by decide +kernel
theorem dJ9_max_7cf53_9 : decode cJ9_max_7cf53 9 = .ok (.iload_n 1, 1) := by decide +kernel
theorem dJ9_max_7cf53_10 : decode cJ9_max_7cf53 10 = .ok (.ireturn, 1) := by decide +kernel
theorem dJ9_min_7cf53_0 : decode cJ9_min_7cf53 0 = .ok (.iload_n 0, 1) := by decide +kernel
theorem dJ9_min_7cf53_1 : decode cJ9_min_7cf53 1 = .ok (.iload_n 1, 1) := by decide +kernel
theorem dJ9_min_7cf53_2 : decode cJ9_min_7cf53 2 = .ok (.if_icmp .gt 7, 3) := by decide +kernel
theorem dJ9_min_7cf53_5 : decode cJ9_min_7cf53 5 = .ok (.iload_n 0, 1) := by decide +kernel
theorem dJ9_min_7cf53_6 : decode cJ9_min_7cf53 6 = .ok (.goto 4, 3) := by decide +kernel
theorem dJ9_min_7cf53_9 : decode cJ9_min_7cf53 9 = .ok (.iload_n 1, 1) := by decide +kernel
theorem dJ9_min_7cf53_10 : decode cJ9_min_7cf53 10 = .ok (.ireturn, 1) := by decide +kernel
end
section
theorem dX8_init_0 : decode cX8_init 0 = .ok (.aload_n 0, 1) := by decide +kernel
theorem dX8_init_1 : decode cX8_init 1 = .ok (.invokespecial 1, 3) := by decide +kernel
theorem dX8_init_4 : decode cX8_init 4 = .ok (.aload_n 0, 1) := by decide +kernel
theorem dX8_init_5 : decode cX8_init 5 = .ok (.new 7, 3) := by decide +kernel
theorem dX8_init_8 : decode cX8_init 8 = .ok (.dup, 1) := by decide +kernel
theorem dX8_init_9 : decode cX8_init 9 = .ok (.invokespecial 9, 3) := by decide +kernel
theorem dX8_init_12 : decode cX8_init 12 = .ok (.putfield 10, 3) := by decide +kernel
theorem dX8_init_15 : decode cX8_init 15 = .ok (.aload_n 0, 1) := by decide +kernel
theorem dX8_init_16 : decode cX8_init 16 = .ok (.new 16, 3) := by decide +kernel
theorem dX8_init_19 : decode cX8_init 19 = .ok (.dup, 1) := by decide +kernel
theorem dX8_init_20 : decode cX8_init 20 = .ok (.invokespecial 18, 3) := by decide +kernel
theorem dX8_init_23 : decode cX8_init 23 = .ok (.putfield 19, 3) := by decide +kernel
theorem dX8_init_26 : decode cX8_init 26 = .ok (.aload_n 0, 1) := by decide +kernel
theorem dX8_init_27 : decode cX8_init 27 = .ok (.new 23, 3) := by decide +kernel
theorem dX8_init_30 : decode cX8_init 30 = .ok (.dup, 1) := by decide +kernel
theorem dX8_init_31 : decode cX8_init 31 = .ok (.invokespecial 25, 3) := by decide +kernel
theorem dX8_init_34 : decode cX8_init 34 = .ok (.putfield 26, 3) := by decide +kernel
theorem dX8_init_37 : decode cX8_init 37 = .ok (.aload_n 0, 1) := by decide +kernel
theorem dX8_init_38 : decode cX8_init 38 = .ok (.new 30, 3) := by decide +kernel
theorem dX8_init_41 : decode cX8_init 41 = .ok (.dup, 1) := by decide +kernel
theorem dX8_init_42 : decode cX8_init 42 = .ok (.invokespecial 32, 3) := by decide +kernel
theorem dX8_init_45 : decode cX8_init 45 = .ok (.putfield 33, 3) := by decide +kernel
theorem dX8_init_48 : decode cX8_init 48 = .ok (.aload_n 0, 1) := by decide +kernel
theorem dX8_init_49 : decode cX8_init 49 = .ok (.new 37, 3) := by decide +kernel
theorem dX8_init_52 : decode cX8_init 52 = .ok (.dup, 1) := by decide +kernel
theorem dX8_init_53 : decode cX8_init 53 = .ok (.invokespecial 39, 3) := by decide +kernel
theorem dX8_init_56 : decode cX8_init 56 = .ok (.putfield 40, 3) := by decide +kernel
theorem dX8_init_59 : decode cX8_init 59 = .ok (.aload_n 0, 1) := by decide +kernel
theorem dX8_init_60 : decode cX8_init 60 = .ok (.new 44, 3) := by decide +kernel
theorem dX8_init_63 : decode cX8_init 63 = .ok (.dup, 1) := by decide +kernel
theorem dX8_init_64 : decode cX8_init 64 = .ok (.invokespecial 46, 3) := by decide +kernel
theorem dX8_init_67 : decode cX8_init 67 = .ok (.putfield 47, 3) := by decide +kernel
theorem dX8_init_70 : decode cX8_init 70 = .ok (.return_, 1) := by decide +kernel
theorem dX8_runner_0 : decode cX8_runner 0 = .ok (.iload_n 1, 1) := by decide +kernel
theorem dX8_runner_1 : decode cX8_runner 1 = .ok (.sipush (-3000), 3) := by decide +kernel
theorem dX8_runner_4 : decode cX8_runner 4 = .ok (.iconst 0, 1) := by decide +kernel
theorem dX8_runner_5 : decode cX8_runner 5 = .ok (.invokestatic 51, 3) := by decide +kernel
theorem dX8_runner_8 : decode cX8_runner 8 = .ok (.ifCond .eq 13, 3) := by decide +kernel
theorem dX8_runner_11 : decode cX8_runner 11 = .ok (.iload_n 2, 1) := by decide +kernel
theorem dX8_runner_12 : decode cX8_runner 12 = .ok (.iconst 1, 1) := by decide +kernel
theorem dX8_runner_13 : decode cX8_runner 13 = .ok (.bipush 20, 2) := by decide +kernel
theorem dX8_runner_15 : decode cX8_runner 15 = .ok (.invokestatic 51, 3) := by decide +kernel
theorem dX8_runner_18 : decode cX8_runner 18 = .ok (.ifCond .ne 6, 3) := by decide +kernel
theorem dX8_runner_21 : decode cX8_runner 21 = .ok (.bipush (-2), 2) := by decide +kernel
theorem dX8_runner_23 : decode cX8_runner 23 = .ok (.ireturn, 1) := by decide +kernel
theorem dX8_runner_24 : decode cX8_runner 24 = .ok (.aload_n 0, 1) := by decide +kernel
theorem dX8_runner_25 : decode cX8_runner 25 = .ok (.getfield 10, 3) := by decide +kernel
theorem dX8_runner_28 : decode cX8_runner 28 = .ok (.iload_n 1, 1) := by decide +kernel
theorem dX8_runner_29 : decode cX8_runner 29 = .ok (.iload_n 2, 1) := by decide +kernel
theorem dX8_runner_30 : decode cX8_runner 30 = .ok (.invokevirtual 55, 3) := by decide +kernel
theorem dX8_runner_33 : decode cX8_runner 33 = .ok (.ireturn, 1) := by decide +kernel
theorem dX8_shape_0 : decode cX8_shape 0 = .ok (.aload_n 0, 1) := by decide +kernel
theorem dX8_shape_1 : decode cX8_shape 1 = .ok (.getfield 10, 3) := by decide +kernel
theorem dX8_shape_4 : decode cX8_shape 4 = .ok (.iload_n 1, 1) := by decide +kernel
theorem dX8_shape_5 : decode cX8_shape 5 = .ok (.invokevirtual 59, 3) := by decide +kernel
theorem dX8_shape_8 : decode cX8_shape 8 = .ok (.ifCond .eq 10, 3) := by decide +kernel
theorem dX8_shape_11 : decode cX8_shape 11 = .ok (.iload_n 2, 1) := by decide +kernel
theorem dX8_shape_12 : decode cX8_shape 12 = .ok (.invokestatic 63, 3) := by decide +kernel
theorem dX8_shape_15 : decode cX8_shape 15 = .ok (.ifCond .ne 5, 3) := by decide +kernel
theorem dX8_shape_18 : decode cX8_shape 18 = .ok (.iconst (-1), 1) := by decide +kernel
theorem dX8_shape_19 : decode cX8_shape 19 = .ok (.ireturn, 1) := by decide +kernel
theorem dX8_shape_20 : decode cX8_shape 20 = .ok (.iload_n 3, 1) := by decide +kernel
theorem dX8_shape_21 : decode cX8_shape 21 = .ok (.iconst 0, 1) := by decide +kernel
theorem dX8_shape_22 : decode cX8_shape 22 = .ok (.iconst 1, 1) := by decide +kernel
theorem dX8_shape_23 : decode cX8_shape 23 = .ok (.invokestatic 51, 3) := by decide +kernel
theorem dX8_shape_26 : decode cX8_shape 26 = .ok (.ifCond .eq 27, 3) := by decide +kernel
theorem dX8_shape_29 : decode cX8_shape 29 = .ok (.iload 4, 2) := by decide +kernel
theorem dX8_shape_31 : decode cX8_shape 31 = .ok (.bipush (-9), 2) := by decide +kernel
theorem dX8_shape_33 : decode cX8_shape 33 = .ok (.bipush 9, 2) := by decide +kernel
theorem dX8_shape_35 : decode cX8_shape 35 = .ok (.invokestatic 51, 3) := by decide +kernel
theorem dX8_shape_38 : decode cX8_shape 38 = .ok (.ifCond .eq 15, 3) := by decide +kernel
theorem dX8_shape_41 : decode cX8_shape 41 = .ok (.iload 5, 2) := by decide +kernel
theorem dX8_shape_43 : decode cX8_shape 43 = .ok (.bipush (-9), 2) := by decide +kernel
theorem dX8_shape_45 : decode cX8_shape 45 = .ok (.bipush 9, 2) := by decide +kernel
theorem dX8_shape_47 : decode cX8_shape 47 = .ok (.invokestatic 51, 3) := by decide +kernel
theorem dX8_shape_50 : decode cX8_shape 50 = .ok (.ifCond .ne 6, 3) := by decide +kernel
theorem dX8_shape_53 : decode cX8_shape 53 = .ok (.bipush (-2), 2) := by decide +kernel
theorem dX8_shape_55 : decode cX8_shape 55 = .ok (.ireturn, 1) := by decide +kernel
theorem dX8_shape_56 : decode cX8_shape 56 = .ok (.aload_n 0, 1) := by decide +kernel
theorem dX8_shape_57 : decode cX8_shape 57 = .ok (.getfield 10, 3) := by decide +kernel
theorem dX8_shape_60 : decode cX8_shape 60 = .ok (.getfield 66, 3) := by decide +kernel
theorem dX8_shape_63 : decode cX8_shape 63 = .ok (.iload_n 1, 1) := by decide +kernel
theorem dX8_shape_64 : decode cX8_shape 64 = .ok (.aaload, 1) := by decide +kernel
theorem dX8_shape_65 : decode cX8_shape 65 = .ok (.iload_n 3, 1) := by decide +kernel
theorem dX8_shape_66 : decode cX8_shape 66 = .ok (.iload_n 2, 1) := by decide +kernel
theorem dX8_shape_67 : decode cX8_shape 67 = .ok (.iload 4, 2) := by decide +kernel
theorem dX8_shape_69 : decode cX8_shape 69 = .ok (.iload 5, 2) := by decide +kernel
theorem dX8_shape_71 : decode cX8_shape 71 = .ok (.invokevirtual 70, 3) := by decide +kernel
theorem dX8_shape_74 : decode cX8_shape 74 = .ok (.iconst 1, 1) := by decide +kernel
theorem dX8_shape_75 : decode cX8_shape 75 = .ok (.ireturn, 1) := by decide +kernel
theorem dX8_set_0 : decode cX8_set 0 = .ok (.iload_n 1, 1) := by decide +kernel
theorem dX8_set_1 : decode cX8_set 1 = .ok (.iconst 0, 1) := by decide +kernel
theorem dX8_set_2 : decode cX8_set 2 = .ok (.iconst 3, 1) := by decide +kernel
theorem dX8_set_3 : decode cX8_set 3 = .ok (.invokestatic 51, 3) := by decide +kernel
theorem dX8_set_6 : decode cX8_set 6 = .ok (.ifCond .eq 20, 3) := by decide +kernel
theorem dX8_set_9 : decode cX8_set 9 = .ok (.iload_n 2, 1) := by decide +kernel
theorem dX8_set_10 : decode cX8_set 10 = .ok (.getstatic 76, 3) := by decide +kernel
theorem dX8_set_13 : decode cX8_set 13 = .ok (.iload_n 1, 1) := by decide +kernel
theorem dX8_set_14 : decode cX8_set 14 = .ok (.iaload, 1) := by decide +kernel
theorem dX8_set_15 : decode cX8_set 15 = .ok (.getstatic 80, 3) := by decide +kernel
theorem dX8_set_18 : decode cX8_set 18 = .ok (.iload_n 1, 1) := by decide +kernel
theorem dX8_set_19 : decode cX8_set 19 = .ok (.iaload, 1) := by decide +kernel
theorem dX8_set_20 : decode cX8_set 20 = .ok (.invokestatic 51, 3) := by decide +kernel
theorem dX8_set_23 : decode cX8_set 23 = .ok (.ifCond .ne 6, 3) := by decide +kernel
theorem dX8_set_26 : decode cX8_set 26 = .ok (.bipush (-2), 2) := by decide +kernel
theorem dX8_set_28 : decode cX8_set 28 = .ok (.ireturn, 1) := by decide +kernel
theorem dX8_set_29 : decode cX8_set 29 = .ok (.aload_n 0, 1) := by decide +kernel
theorem dX8_set_30 : decode cX8_set 30 = .ok (.getfield 10, 3) := by decide +kernel
theorem dX8_set_33 : decode cX8_set 33 = .ok (.getfield 83, 3) := by decide +kernel
theorem dX8_set_36 : decode cX8_set 36 = .ok (.iload_n 1, 1) := by decide +kernel
theorem dX8_set_37 : decode cX8_set 37 = .ok (.iaload, 1) := by decide +kernel
theorem dX8_set_38 : decode cX8_set 38 = .ok (.istore_n 3, 1) := by decide +kernel
theorem dX8_set_39 : decode cX8_set 39 = .ok (.aload_n 0, 1) := by decide +kernel
theorem dX8_set_40 : decode cX8_set 40 = .ok (.getfield 10, 3) := by decide +kernel
theorem dX8_set_43 : decode cX8_set 43 = .ok (.getfield 83, 3) := by decide +kernel
theorem dX8_set_46 : decode cX8_set 46 = .ok (.iload_n 1, 1) := by decide +kernel
theorem dX8_set_47 : decode cX8_set 47 = .ok (.iload_n 2, 1) := by decide +kernel
theorem dX8_set_48 : decode cX8_set 48 = .ok (.iastore, 1) := by decide +kernel
theorem dX8_set_49 : decode cX8_set 49 = .ok (.iload_n 3, 1) := by decide +kernel
theorem dX8_set_50 : decode cX8_set 50 = .ok (.ireturn, 1) := by decide +kernel
theorem dX8_shows_0 : decode cX8_shows 0 = .ok (.iload_n 3, 1) := by decide +kernel
theorem dX8_shows_1 : decode cX8_shows 1 = .ok (.invokestatic 63, 3) := by decide +kernel
theorem dX8_shows_4 : decode cX8_shows 4 = .ok (.ifCond .ne 5, 3) := by decide +kernel
theorem dX8_shows_7 : decode cX8_shows 7 = .ok (.iconst (-1), 1) := by decide +kernel
theorem dX8_shows_8 : decode cX8_shows 8 = .ok (.ireturn, 1) := by decide +kernel
theorem dX8_shows_9 : decode cX8_shows 9 = .ok (.iload_n 1, 1) := by decide +kernel
theorem dX8_shows_10 : decode cX8_shows 10 = .ok (.invokestatic 86, 3) := by decide +kernel
theorem dX8_shows_13 : decode cX8_shows 13 = .ok (.ifCond .eq 14, 3) := by decide +kernel
theorem dX8_shows_16 : decode cX8_shows 16 = .ok (.iload_n 2, 1) := by decide +kernel
theorem dX8_shows_17 : decode cX8_shows 17 = .ok (.iconst 0, 1) := by decide +kernel
theorem dX8_shows_18 : decode cX8_shows 18 = .ok (.sipush 299, 3) := by decide +kernel
theorem dX8_shows_21 : decode cX8_shows 21 = .ok (.invokestatic 51, 3) := by decide +kernel
theorem dX8_shows_24 : decode cX8_shows 24 = .ok (.ifCond .ne 6, 3) := by decide +kernel
theorem dX8_shows_27 : decode cX8_shows 27 = .ok (.bipush (-2), 2) := by decide +kernel
theorem dX8_shows_29 : decode cX8_shows 29 = .ok (.ireturn, 1) := by decide +kernel
theorem dX8_shows_30 : decode cX8_shows 30 = .ok (.aload_n 0, 1) := by decide +kernel
theorem dX8_shows_31 : decode cX8_shows 31 = .ok (.getfield 10, 3) := by decide +kernel
theorem dX8_shows_34 : decode cX8_shows 34 = .ok (.iload_n 1, 1) := by decide +kernel
theorem dX8_shows_35 : decode cX8_shows 35 = .ok (.iload_n 2, 1) := by decide +kernel
theorem dX8_shows_36 : decode cX8_shows 36 = .ok (.iload_n 3, 1) := by decide +kernel
theorem dX8_shows_37 : decode cX8_shows 37 = .ok (.invokevirtual 89, 3) := by decide +kernel
theorem dX8_shows_40 : decode cX8_shows 40 = .ok (.ireturn, 1) := by decide +kernel
theorem dX8_of_0 : decode cX8_of 0 = .ok (.aload_n 0, 1) := by decide +kernel
theorem dX8_of_1 : decode cX8_of 1 = .ok (.getfield 10, 3) := by decide +kernel
theorem dX8_of_4 : decode cX8_of 4 = .ok (.iload_n 1, 1) := by decide +kernel
theorem dX8_of_5 : decode cX8_of 5 = .ok (.invokevirtual 59, 3) := by decide +kernel
theorem dX8_of_8 : decode cX8_of 8 = .ok (.ifCond .ne 5, 3) := by decide +kernel
theorem dX8_of_11 : decode cX8_of 11 = .ok (.iconst (-1), 1) := by decide +kernel
theorem dX8_of_12 : decode cX8_of 12 = .ok (.ireturn, 1) := by decide +kernel
theorem dX8_of_13 : decode cX8_of 13 = .ok (.iload_n 2, 1) := by decide +kernel
theorem dX8_of_14 : decode cX8_of 14 = .ok (.tableswitch 135 0 7 #[46, 46, 59, 71, 88, 100, 117, 126], 46) := by decide +kernel
theorem dX8_of_60 : decode cX8_of 60 = .ok (.aload_n 0, 1) := by decide +kernel
theorem dX8_of_61 : decode cX8_of 61 = .ok (.getfield 10, 3) := by decide +kernel
theorem dX8_of_64 : decode cX8_of 64 = .ok (.iload_n 2, 1) := by decide +kernel
theorem dX8_of_65 : decode cX8_of 65 = .ok (.iload_n 1, 1) := by decide +kernel
theorem dX8_of_66 : decode cX8_of 66 = .ok (.invokevirtual 93, 3) := by decide +kernel
theorem dX8_of_69 : decode cX8_of 69 = .ok (.invokestatic 96, 3) := by decide +kernel
theorem dX8_of_72 : decode cX8_of 72 = .ok (.ireturn, 1) := by decide +kernel
theorem dX8_of_73 : decode cX8_of 73 = .ok (.aload_n 0, 1) := by decide +kernel
theorem dX8_of_74 : decode cX8_of 74 = .ok (.getfield 10, 3) := by decide +kernel
theorem dX8_of_77 : decode cX8_of 77 = .ok (.iload_n 1, 1) := by decide +kernel
theorem dX8_of_78 : decode cX8_of 78 = .ok (.invokevirtual 100, 3) := by decide +kernel
theorem dX8_of_81 : decode cX8_of 81 = .ok (.invokestatic 96, 3) := by decide +kernel
theorem dX8_of_84 : decode cX8_of 84 = .ok (.ireturn, 1) := by decide +kernel
theorem dX8_of_85 : decode cX8_of 85 = .ok (.aload_n 0, 1) := by decide +kernel
theorem dX8_of_86 : decode cX8_of 86 = .ok (.getfield 10, 3) := by decide +kernel
theorem dX8_of_89 : decode cX8_of 89 = .ok (.getfield 66, 3) := by decide +kernel
theorem dX8_of_92 : decode cX8_of 92 = .ok (.iload_n 1, 1) := by decide +kernel
theorem dX8_of_93 : decode cX8_of 93 = .ok (.aaload, 1) := by decide +kernel
theorem dX8_of_94 : decode cX8_of 94 = .ok (.iconst 0, 1) := by decide +kernel
theorem dX8_of_95 : decode cX8_of 95 = .ok (.invokevirtual 103, 3) := by decide +kernel
theorem dX8_of_98 : decode cX8_of 98 = .ok (.invokestatic 96, 3) := by decide +kernel
theorem dX8_of_101 : decode cX8_of 101 = .ok (.ireturn, 1) := by decide +kernel
theorem dX8_of_102 : decode cX8_of 102 = .ok (.aload_n 0, 1) := by decide +kernel
theorem dX8_of_103 : decode cX8_of 103 = .ok (.getfield 10, 3) := by decide +kernel
theorem dX8_of_106 : decode cX8_of 106 = .ok (.iload_n 1, 1) := by decide +kernel
theorem dX8_of_107 : decode cX8_of 107 = .ok (.invokevirtual 106, 3) := by decide +kernel
theorem dX8_of_110 : decode cX8_of 110 = .ok (.invokestatic 96, 3) := by decide +kernel
theorem dX8_of_113 : decode cX8_of 113 = .ok (.ireturn, 1) := by decide +kernel
theorem dX8_of_114 : decode cX8_of 114 = .ok (.aload_n 0, 1) := by decide +kernel
theorem dX8_of_115 : decode cX8_of 115 = .ok (.getfield 10, 3) := by decide +kernel
theorem dX8_of_118 : decode cX8_of 118 = .ok (.iload_n 1, 1) := by decide +kernel
theorem dX8_of_119 : decode cX8_of 119 = .ok (.invokevirtual 109, 3) := by decide +kernel
theorem dX8_of_122 : decode cX8_of 122 = .ok (.ifCond .eq 7, 3) := by decide +kernel
theorem dX8_of_125 : decode cX8_of 125 = .ok (.iconst 1, 1) := by decide +kernel
theorem dX8_of_126 : decode cX8_of 126 = .ok (.goto 4, 3) := by decide +kernel
theorem dX8_of_129 : decode cX8_of 129 = .ok (.iconst 0, 1) := by decide +kernel
theorem dX8_of_130 : decode cX8_of 130 = .ok (.ireturn, 1) := by decide +kernel
theorem dX8_of_131 : decode cX8_of 131 = .ok (.aload_n 0, 1) := by decide +kernel
theorem dX8_of_132 : decode cX8_of 132 = .ok (.getfield 10, 3) := by decide +kernel
theorem dX8_of_135 : decode cX8_of 135 = .ok (.iload_n 1, 1) := by decide +kernel
theorem dX8_of_136 : decode cX8_of 136 = .ok (.invokevirtual 112, 3) := by decide +kernel
theorem dX8_of_139 : decode cX8_of 139 = .ok (.ireturn, 1) := by decide +kernel
theorem dX8_of_140 : decode cX8_of 140 = .ok (.aload_n 0, 1) := by decide +kernel
theorem dX8_of_141 : decode cX8_of 141 = .ok (.getfield 10, 3) := by decide +kernel
theorem dX8_of_144 : decode cX8_of 144 = .ok (.iload_n 1, 1) := by decide +kernel
theorem dX8_of_145 : decode cX8_of 145 = .ok (.invokevirtual 115, 3) := by decide +kernel
theorem dX8_of_148 : decode cX8_of 148 = .ok (.ireturn, 1) := by decide +kernel
theorem dX8_of_149 : decode cX8_of 149 = .ok (.bipush (-2), 2) := by decide +kernel
theorem dX8_of_151 : decode cX8_of 151 = .ok (.ireturn, 1) := by decide +kernel
theorem dX8_moved_0 : decode cX8_moved 0 = .ok (.iconst 0, 1) := by decide +kernel
theorem dX8_moved_1 : decode cX8_moved 1 = .ok (.istore_n 2, 1) := by decide +kernel
theorem dX8_moved_2 : decode cX8_moved 2 = .ok (.iconst 0, 1) := by decide +kernel
theorem dX8_moved_3 : decode cX8_moved 3 = .ok (.istore_n 3, 1) := by decide +kernel
theorem dX8_moved_4 : decode cX8_moved 4 = .ok (.iload_n 3, 1) := by decide +kernel
theorem dX8_moved_5 : decode cX8_moved 5 = .ok (.aload_n 0, 1) := by decide +kernel
theorem dX8_moved_6 : decode cX8_moved 6 = .ok (.getfield 10, 3) := by decide +kernel
theorem dX8_moved_9 : decode cX8_moved 9 = .ok (.getfield 118, 3) := by decide +kernel
theorem dX8_moved_12 : decode cX8_moved 12 = .ok (.if_icmp .ge 61, 3) := by decide +kernel
theorem dX8_moved_15 : decode cX8_moved 15 = .ok (.iload_n 3, 1) := by decide +kernel
theorem dX8_moved_16 : decode cX8_moved 16 = .ok (.iconst 1, 1) := by decide +kernel
theorem dX8_moved_17 : decode cX8_moved 17 = .ok (.iadd, 1) := by decide +kernel
theorem dX8_moved_18 : decode cX8_moved 18 = .ok (.istore 4, 2) := by decide +kernel
theorem dX8_moved_20 : decode cX8_moved 20 = .ok (.iload 4, 2) := by decide +kernel
theorem dX8_moved_22 : decode cX8_moved 22 = .ok (.aload_n 0, 1) := by decide +kernel
theorem dX8_moved_23 : decode cX8_moved 23 = .ok (.getfield 10, 3) := by decide +kernel
theorem dX8_moved_26 : decode cX8_moved 26 = .ok (.getfield 118, 3) := by decide +kernel
theorem dX8_moved_29 : decode cX8_moved 29 = .ok (.if_icmp .ge 38, 3) := by decide +kernel
theorem dX8_moved_32 : decode cX8_moved 32 = .ok (.aload_n 0, 1) := by decide +kernel
theorem dX8_moved_33 : decode cX8_moved 33 = .ok (.getfield 10, 3) := by decide +kernel
theorem dX8_moved_36 : decode cX8_moved 36 = .ok (.iload_n 3, 1) := by decide +kernel
theorem dX8_moved_37 : decode cX8_moved 37 = .ok (.iload 4, 2) := by decide +kernel
theorem dX8_moved_39 : decode cX8_moved 39 = .ok (.invokevirtual 122, 3) := by decide +kernel
theorem dX8_moved_42 : decode cX8_moved 42 = .ok (.ifCond .eq 19, 3) := by decide +kernel
theorem dX8_moved_45 : decode cX8_moved 45 = .ok (.iload_n 2, 1) := by decide +kernel
theorem dX8_moved_46 : decode cX8_moved 46 = .ok (.iload_n 1, 1) := by decide +kernel
theorem dX8_moved_47 : decode cX8_moved 47 = .ok (.if_icmp .ne 11, 3) := by decide +kernel
theorem dX8_moved_50 : decode cX8_moved 50 = .ok (.bipush 10, 2) := by decide +kernel
theorem dX8_moved_52 : decode cX8_moved 52 = .ok (.iload_n 3, 1) := by decide +kernel
theorem dX8_moved_53 : decode cX8_moved 53 = .ok (.imul, 1) := by decide +kernel
theorem dX8_moved_54 : decode cX8_moved 54 = .ok (.iload 4, 2) := by decide +kernel
theorem dX8_moved_56 : decode cX8_moved 56 = .ok (.iadd, 1) := by decide +kernel
theorem dX8_moved_57 : decode cX8_moved 57 = .ok (.ireturn, 1) := by decide +kernel
theorem dX8_moved_58 : decode cX8_moved 58 = .ok (.iinc 2 1, 3) := by decide +kernel
theorem dX8_moved_61 : decode cX8_moved 61 = .ok (.iinc 4 1, 3) := by decide +kernel
theorem dX8_moved_64 : decode cX8_moved 64 = .ok (.goto (-44), 3) := by decide +kernel
theorem dX8_moved_67 : decode cX8_moved 67 = .ok (.iinc 3 1, 3) := by decide +kernel
theorem dX8_moved_70 : decode cX8_moved 70 = .ok (.goto (-66), 3) := by decide +kernel
theorem dX8_moved_73 : decode cX8_moved 73 = .ok (.iload_n 1, 1) := by decide +kernel
theorem dX8_moved_74 : decode cX8_moved 74 = .ok (.iconst (-1), 1) := by decide +kernel
theorem dX8_moved_75 : decode cX8_moved 75 = .ok (.if_icmp .ne 7, 3) := by decide +kernel
theorem dX8_moved_78 : decode cX8_moved 78 = .ok (.iload_n 2, 1) := by decide +kernel
theorem dX8_moved_79 : decode cX8_moved 79 = .ok (.goto 5, 3) := by decide +kernel
theorem dX8_moved_82 : decode cX8_moved 82 = .ok (.bipush (-6), 2) := by decide +kernel
theorem dX8_moved_84 : decode cX8_moved 84 = .ok (.ireturn, 1) := by decide +kernel
theorem dX8_order_0 : decode cX8_order 0 = .ok (.aload_n 0, 1) := by decide +kernel
theorem dX8_order_1 : decode cX8_order 1 = .ok (.iconst 0, 1) := by decide +kernel
theorem dX8_order_2 : decode cX8_order 2 = .ok (.invokevirtual 126, 3) := by decide +kernel
theorem dX8_order_5 : decode cX8_order 5 = .ok (.iload_n 1, 1) := by decide +kernel
theorem dX8_order_6 : decode cX8_order 6 = .ok (.iconst (-1), 1) := by decide +kernel
theorem dX8_order_7 : decode cX8_order 7 = .ok (.if_icmp .ne 13, 3) := by decide +kernel
theorem dX8_order_10 : decode cX8_order 10 = .ok (.aload_n 0, 1) := by decide +kernel
theorem dX8_order_11 : decode cX8_order 11 = .ok (.getfield 19, 3) := by decide +kernel
theorem dX8_order_14 : decode cX8_order 14 = .ok (.getfield 130, 3) := by decide +kernel
theorem dX8_order_17 : decode cX8_order 17 = .ok (.goto 11, 3) := by decide +kernel
theorem dX8_order_20 : decode cX8_order 20 = .ok (.aload_n 0, 1) := by decide +kernel
theorem dX8_order_21 : decode cX8_order 21 = .ok (.getfield 19, 3) := by decide +kernel
theorem dX8_order_24 : decode cX8_order 24 = .ok (.iload_n 1, 1) := by decide +kernel
theorem dX8_order_25 : decode cX8_order 25 = .ok (.invokevirtual 133, 3) := by decide +kernel
theorem dX8_order_28 : decode cX8_order 28 = .ok (.ireturn, 1) := by decide +kernel
theorem dX8_place_0 : decode cX8_place 0 = .ok (.aload_n 0, 1) := by decide +kernel
theorem dX8_place_1 : decode cX8_place 1 = .ok (.getfield 10, 3) := by decide +kernel
theorem dX8_place_4 : decode cX8_place 4 = .ok (.iload_n 1, 1) := by decide +kernel
theorem dX8_place_5 : decode cX8_place 5 = .ok (.invokevirtual 59, 3) := by decide +kernel
theorem dX8_place_8 : decode cX8_place 8 = .ok (.ifCond .ne 5, 3) := by decide +kernel
theorem dX8_place_11 : decode cX8_place 11 = .ok (.iconst (-1), 1) := by decide +kernel
theorem dX8_place_12 : decode cX8_place 12 = .ok (.ireturn, 1) := by decide +kernel
theorem dX8_place_13 : decode cX8_place 13 = .ok (.iload_n 2, 1) := by decide +kernel
theorem dX8_place_14 : decode cX8_place 14 = .ok (.invokestatic 86, 3) := by decide +kernel
theorem dX8_place_17 : decode cX8_place 17 = .ok (.ifCond .ne 6, 3) := by decide +kernel
theorem dX8_place_20 : decode cX8_place 20 = .ok (.bipush (-2), 2) := by decide +kernel
theorem dX8_place_22 : decode cX8_place 22 = .ok (.ireturn, 1) := by decide +kernel
theorem dX8_place_23 : decode cX8_place 23 = .ok (.aload_n 0, 1) := by decide +kernel
theorem dX8_place_24 : decode cX8_place 24 = .ok (.iconst 0, 1) := by decide +kernel
theorem dX8_place_25 : decode cX8_place 25 = .ok (.invokevirtual 126, 3) := by decide +kernel
theorem dX8_place_28 : decode cX8_place 28 = .ok (.aload_n 0, 1) := by decide +kernel
theorem dX8_place_29 : decode cX8_place 29 = .ok (.getfield 19, 3) := by decide +kernel
theorem dX8_place_32 : decode cX8_place 32 = .ok (.iload_n 1, 1) := by decide +kernel
theorem dX8_place_33 : decode cX8_place 33 = .ok (.iload_n 2, 1) := by decide +kernel
theorem dX8_place_34 : decode cX8_place 34 = .ok (.aload_n 0, 1) := by decide +kernel
theorem dX8_place_35 : decode cX8_place 35 = .ok (.getfield 10, 3) := by decide +kernel
theorem dX8_place_38 : decode cX8_place 38 = .ok (.getfield 83, 3) := by decide +kernel
theorem dX8_place_41 : decode cX8_place 41 = .ok (.iconst 1, 1) := by decide +kernel
theorem dX8_place_42 : decode cX8_place 42 = .ok (.iaload, 1) := by decide +kernel
theorem dX8_place_43 : decode cX8_place 43 = .ok (.invokevirtual 136, 3) := by decide +kernel
theorem dX8_place_46 : decode cX8_place 46 = .ok (.ireturn, 1) := by decide +kernel
theorem dX8_stretch_0 : decode cX8_stretch 0 = .ok (.aload_n 0, 1) := by decide +kernel
theorem dX8_stretch_1 : decode cX8_stretch 1 = .ok (.getfield 10, 3) := by decide +kernel
theorem dX8_stretch_4 : decode cX8_stretch 4 = .ok (.iload_n 1, 1) := by decide +kernel
theorem dX8_stretch_5 : decode cX8_stretch 5 = .ok (.invokevirtual 59, 3) := by decide +kernel
theorem dX8_stretch_8 : decode cX8_stretch 8 = .ok (.ifCond .eq 10, 3) := by decide +kernel
theorem dX8_stretch_11 : decode cX8_stretch 11 = .ok (.iload_n 2, 1) := by decide +kernel
theorem dX8_stretch_12 : decode cX8_stretch 12 = .ok (.invokestatic 63, 3) := by decide +kernel
theorem dX8_stretch_15 : decode cX8_stretch 15 = .ok (.ifCond .ne 5, 3) := by decide +kernel
theorem dX8_stretch_18 : decode cX8_stretch 18 = .ok (.iconst (-1), 1) := by decide +kernel
theorem dX8_stretch_19 : decode cX8_stretch 19 = .ok (.ireturn, 1) := by decide +kernel
theorem dX8_stretch_20 : decode cX8_stretch 20 = .ok (.aload_n 0, 1) := by decide +kernel
theorem dX8_stretch_21 : decode cX8_stretch 21 = .ok (.getfield 10, 3) := by decide +kernel
theorem dX8_stretch_24 : decode cX8_stretch 24 = .ok (.getfield 66, 3) := by decide +kernel
theorem dX8_stretch_27 : decode cX8_stretch 27 = .ok (.iload_n 1, 1) := by decide +kernel
theorem dX8_stretch_28 : decode cX8_stretch 28 = .ok (.aaload, 1) := by decide +kernel
theorem dX8_stretch_29 : decode cX8_stretch 29 = .ok (.iconst 1, 1) := by decide +kernel
theorem dX8_stretch_30 : decode cX8_stretch 30 = .ok (.iload_n 2, 1) := by decide +kernel
theorem dX8_stretch_31 : decode cX8_stretch 31 = .ok (.aload_n 0, 1) := by decide +kernel
theorem dX8_stretch_32 : decode cX8_stretch 32 = .ok (.getfield 10, 3) := by decide +kernel
theorem dX8_stretch_35 : decode cX8_stretch 35 = .ok (.iload_n 2, 1) := by decide +kernel
theorem dX8_stretch_36 : decode cX8_stretch 36 = .ok (.invokevirtual 139, 3) := by decide +kernel
theorem dX8_stretch_39 : decode cX8_stretch 39 = .ok (.invokevirtual 142, 3) := by decide +kernel
theorem dX8_stretch_42 : decode cX8_stretch 42 = .ok (.ireturn, 1) := by decide +kernel
theorem dX8_speeds_0 : decode cX8_speeds 0 = .ok (.iload_n 1, 1) := by decide +kernel
theorem dX8_speeds_1 : decode cX8_speeds 1 = .ok (.iconst 1, 1) := by decide +kernel
theorem dX8_speeds_2 : decode cX8_speeds 2 = .ok (.bipush 19, 2) := by decide +kernel
theorem dX8_speeds_4 : decode cX8_speeds 4 = .ok (.invokestatic 51, 3) := by decide +kernel
theorem dX8_speeds_7 : decode cX8_speeds 7 = .ok (.ifCond .eq 20, 3) := by decide +kernel
theorem dX8_speeds_10 : decode cX8_speeds 10 = .ok (.iload_n 2, 1) := by decide +kernel
theorem dX8_speeds_11 : decode cX8_speeds 11 = .ok (.iconst 0, 1) := by decide +kernel
theorem dX8_speeds_12 : decode cX8_speeds 12 = .ok (.bipush 30, 2) := by decide +kernel
theorem dX8_speeds_14 : decode cX8_speeds 14 = .ok (.invokestatic 51, 3) := by decide +kernel
theorem dX8_speeds_17 : decode cX8_speeds 17 = .ok (.ifCond .eq 10, 3) := by decide +kernel
theorem dX8_speeds_20 : decode cX8_speeds 20 = .ok (.iload_n 3, 1) := by decide +kernel
theorem dX8_speeds_21 : decode cX8_speeds 21 = .ok (.invokestatic 86, 3) := by decide +kernel
theorem dX8_speeds_24 : decode cX8_speeds 24 = .ok (.ifCond .ne 6, 3) := by decide +kernel
theorem dX8_speeds_27 : decode cX8_speeds 27 = .ok (.bipush (-2), 2) := by decide +kernel
theorem dX8_speeds_29 : decode cX8_speeds 29 = .ok (.ireturn, 1) := by decide +kernel
theorem dX8_speeds_30 : decode cX8_speeds 30 = .ok (.bipush (-6), 2) := by decide +kernel
theorem dX8_speeds_32 : decode cX8_speeds 32 = .ok (.istore 4, 2) := by decide +kernel
theorem dX8_speeds_34 : decode cX8_speeds 34 = .ok (.iconst 1, 1) := by decide +kernel
theorem dX8_speeds_35 : decode cX8_speeds 35 = .ok (.istore 5, 2) := by decide +kernel
theorem dX8_speeds_37 : decode cX8_speeds 37 = .ok (.iload 5, 2) := by decide +kernel
theorem dX8_speeds_39 : decode cX8_speeds 39 = .ok (.bipush 20, 2) := by decide +kernel
theorem dX8_speeds_41 : decode cX8_speeds 41 = .ok (.if_icmp .gt 30, 3) := by decide +kernel
theorem dX8_speeds_44 : decode cX8_speeds 44 = .ok (.iload_n 1, 1) := by decide +kernel
theorem dX8_speeds_45 : decode cX8_speeds 45 = .ok (.iload_n 2, 1) := by decide +kernel
theorem dX8_speeds_46 : decode cX8_speeds 46 = .ok (.iload 5, 2) := by decide +kernel
theorem dX8_speeds_48 : decode cX8_speeds 48 = .ok (.invokestatic 145, 3) := by decide +kernel
theorem dX8_speeds_51 : decode cX8_speeds 51 = .ok (.ifCond .eq 14, 3) := by decide +kernel
theorem dX8_speeds_54 : decode cX8_speeds 54 = .ok (.iload_n 3, 1) := by decide +kernel
theorem dX8_speeds_55 : decode cX8_speeds 55 = .ok (.ifCond .ne 6, 3) := by decide +kernel
theorem dX8_speeds_58 : decode cX8_speeds 58 = .ok (.iload 5, 2) := by decide +kernel
theorem dX8_speeds_60 : decode cX8_speeds 60 = .ok (.ireturn, 1) := by decide +kernel
theorem dX8_speeds_61 : decode cX8_speeds 61 = .ok (.iload 5, 2) := by decide +kernel
theorem dX8_speeds_63 : decode cX8_speeds 63 = .ok (.istore 4, 2) := by decide +kernel
theorem dX8_speeds_65 : decode cX8_speeds 65 = .ok (.iinc 5 1, 3) := by decide +kernel
theorem dX8_speeds_68 : decode cX8_speeds 68 = .ok (.goto (-31), 3) := by decide +kernel
theorem dX8_speeds_71 : decode cX8_speeds 71 = .ok (.iload 4, 2) := by decide +kernel
theorem dX8_speeds_73 : decode cX8_speeds 73 = .ok (.ireturn, 1) := by decide +kernel
theorem dX8_push_0 : decode cX8_push 0 = .ok (.aload_n 0, 1) := by decide +kernel
theorem dX8_push_1 : decode cX8_push 1 = .ok (.getfield 10, 3) := by decide +kernel
theorem dX8_push_4 : decode cX8_push 4 = .ok (.iload_n 1, 1) := by decide +kernel
theorem dX8_push_5 : decode cX8_push 5 = .ok (.invokevirtual 59, 3) := by decide +kernel
theorem dX8_push_8 : decode cX8_push 8 = .ok (.ifCond .ne 5, 3) := by decide +kernel
theorem dX8_push_11 : decode cX8_push 11 = .ok (.iconst (-1), 1) := by decide +kernel
theorem dX8_push_12 : decode cX8_push 12 = .ok (.ireturn, 1) := by decide +kernel
theorem dX8_push_13 : decode cX8_push 13 = .ok (.iload_n 2, 1) := by decide +kernel
theorem dX8_push_14 : decode cX8_push 14 = .ok (.iconst (-1), 1) := by decide +kernel
theorem dX8_push_15 : decode cX8_push 15 = .ok (.sipush 299, 3) := by decide +kernel
theorem dX8_push_18 : decode cX8_push 18 = .ok (.invokestatic 51, 3) := by decide +kernel
theorem dX8_push_21 : decode cX8_push 21 = .ok (.ifCond .ne 6, 3) := by decide +kernel
theorem dX8_push_24 : decode cX8_push 24 = .ok (.bipush (-2), 2) := by decide +kernel
theorem dX8_push_26 : decode cX8_push 26 = .ok (.ireturn, 1) := by decide +kernel
theorem dX8_push_27 : decode cX8_push 27 = .ok (.aload_n 0, 1) := by decide +kernel
theorem dX8_push_28 : decode cX8_push 28 = .ok (.getfield 10, 3) := by decide +kernel
theorem dX8_push_31 : decode cX8_push 31 = .ok (.getfield 66, 3) := by decide +kernel
theorem dX8_push_34 : decode cX8_push 34 = .ok (.iload_n 1, 1) := by decide +kernel
theorem dX8_push_35 : decode cX8_push 35 = .ok (.aaload, 1) := by decide +kernel
theorem dX8_push_36 : decode cX8_push 36 = .ok (.astore_n 3, 1) := by decide +kernel
theorem dX8_push_37 : decode cX8_push 37 = .ok (.aload_n 3, 1) := by decide +kernel
theorem dX8_push_38 : decode cX8_push 38 = .ok (.getfield 148, 3) := by decide +kernel
theorem dX8_push_41 : decode cX8_push 41 = .ok (.istore 4, 2) := by decide +kernel
theorem dX8_push_43 : decode cX8_push 43 = .ok (.aload_n 3, 1) := by decide +kernel
theorem dX8_push_44 : decode cX8_push 44 = .ok (.iload_n 2, 1) := by decide +kernel
theorem dX8_push_45 : decode cX8_push 45 = .ok (.iconst (-1), 1) := by decide +kernel
theorem dX8_push_46 : decode cX8_push 46 = .ok (.if_icmp .ne 8, 3) := by decide +kernel
theorem dX8_push_49 : decode cX8_push 49 = .ok (.bipush (-6), 2) := by decide +kernel
theorem dX8_push_51 : decode cX8_push 51 = .ok (.goto 4, 3) := by decide +kernel
theorem dX8_push_54 : decode cX8_push 54 = .ok (.iload_n 2, 1) := by decide +kernel
theorem dX8_push_55 : decode cX8_push 55 = .ok (.putfield 148, 3) := by decide +kernel
theorem dX8_push_58 : decode cX8_push 58 = .ok (.iload 4, 2) := by decide +kernel
theorem dX8_push_60 : decode cX8_push 60 = .ok (.ireturn, 1) := by decide +kernel
theorem dX8_mended_0 : decode cX8_mended 0 = .ok (.aload_n 0, 1) := by decide +kernel
theorem dX8_mended_1 : decode cX8_mended 1 = .ok (.iconst 1, 1) := by decide +kernel
theorem dX8_mended_2 : decode cX8_mended 2 = .ok (.invokevirtual 126, 3) := by decide +kernel
theorem dX8_mended_5 : decode cX8_mended 5 = .ok (.aload_n 0, 1) := by decide +kernel
theorem dX8_mended_6 : decode cX8_mended 6 = .ok (.getfield 19, 3) := by decide +kernel
theorem dX8_mended_9 : decode cX8_mended 9 = .ok (.iload_n 1, 1) := by decide +kernel
theorem dX8_mended_10 : decode cX8_mended 10 = .ok (.invokevirtual 133, 3) := by decide +kernel
theorem dX8_mended_13 : decode cX8_mended 13 = .ok (.ireturn, 1) := by decide +kernel
theorem dX8_wrong_0 : decode cX8_wrong 0 = .ok (.iload_n 1, 1) := by decide +kernel
theorem dX8_wrong_1 : decode cX8_wrong 1 = .ok (.iconst 0, 1) := by decide +kernel
theorem dX8_wrong_2 : decode cX8_wrong 2 = .ok (.sipush 200, 3) := by decide +kernel
theorem dX8_wrong_5 : decode cX8_wrong 5 = .ok (.invokestatic 51, 3) := by decide +kernel
theorem dX8_wrong_8 : decode cX8_wrong 8 = .ok (.ifCond .eq 14, 3) := by decide +kernel
theorem dX8_wrong_11 : decode cX8_wrong 11 = .ok (.iload_n 2, 1) := by decide +kernel
theorem dX8_wrong_12 : decode cX8_wrong 12 = .ok (.iload_n 1, 1) := by decide +kernel
theorem dX8_wrong_13 : decode cX8_wrong 13 = .ok (.sipush 200, 3) := by decide +kernel
theorem dX8_wrong_16 : decode cX8_wrong 16 = .ok (.invokestatic 51, 3) := by decide +kernel
theorem dX8_wrong_19 : decode cX8_wrong 19 = .ok (.ifCond .ne 7, 3) := by decide +kernel
theorem dX8_wrong_22 : decode cX8_wrong 22 = .ok (.ldc2_w 151, 3) := by decide +kernel
theorem dX8_wrong_25 : decode cX8_wrong 25 = .ok (.lreturn, 1) := by decide +kernel
theorem dX8_wrong_26 : decode cX8_wrong 26 = .ok (.iload_n 3, 1) := by decide +kernel
theorem dX8_wrong_27 : decode cX8_wrong 27 = .ok (.iconst 1, 1) := by decide +kernel
theorem dX8_wrong_28 : decode cX8_wrong 28 = .ok (.bipush 6, 2) := by decide +kernel
theorem dX8_wrong_30 : decode cX8_wrong 30 = .ok (.invokestatic 51, 3) := by decide +kernel
theorem dX8_wrong_33 : decode cX8_wrong 33 = .ok (.ifCond .eq 11, 3) := by decide +kernel
theorem dX8_wrong_36 : decode cX8_wrong 36 = .ok (.iload 4, 2) := by decide +kernel
theorem dX8_wrong_38 : decode cX8_wrong 38 = .ok (.invokestatic 86, 3) := by decide +kernel
theorem dX8_wrong_41 : decode cX8_wrong 41 = .ok (.ifCond .ne 7, 3) := by decide +kernel
theorem dX8_wrong_44 : decode cX8_wrong 44 = .ok (.ldc2_w 151, 3) := by decide +kernel
theorem dX8_wrong_47 : decode cX8_wrong 47 = .ok (.lreturn, 1) := by decide +kernel
theorem dX8_wrong_48 : decode cX8_wrong 48 = .ok (.iload_n 2, 1) := by decide +kernel
theorem dX8_wrong_49 : decode cX8_wrong 49 = .ok (.iload_n 1, 1) := by decide +kernel
theorem dX8_wrong_50 : decode cX8_wrong 50 = .ok (.isub, 1) := by decide +kernel
theorem dX8_wrong_51 : decode cX8_wrong 51 = .ok (.iconst 1, 1) := by decide +kernel
theorem dX8_wrong_52 : decode cX8_wrong 52 = .ok (.iadd, 1) := by decide +kernel
theorem dX8_wrong_53 : decode cX8_wrong 53 = .ok (.istore 5, 2) := by decide +kernel
theorem dX8_wrong_55 : decode cX8_wrong 55 = .ok (.iconst 0, 1) := by decide +kernel
theorem dX8_wrong_56 : decode cX8_wrong 56 = .ok (.iload_n 2, 1) := by decide +kernel
theorem dX8_wrong_57 : decode cX8_wrong 57 = .ok (.aload_n 0, 1) := by decide +kernel
theorem dX8_wrong_58 : decode cX8_wrong 58 = .ok (.getfield 10, 3) := by decide +kernel
theorem dX8_wrong_61 : decode cX8_wrong 61 = .ok (.getfield 83, 3) := by decide +kernel
theorem dX8_wrong_64 : decode cX8_wrong 64 = .ok (.iconst 2, 1) := by decide +kernel
theorem dX8_wrong_65 : decode cX8_wrong 65 = .ok (.iaload, 1) := by decide +kernel
theorem dX8_wrong_66 : decode cX8_wrong 66 = .ok (.iconst 1, 1) := by decide +kernel
theorem dX8_wrong_67 : decode cX8_wrong 67 = .ok (.isub, 1) := by decide +kernel
theorem dX8_wrong_68 : decode cX8_wrong 68 = .ok (.invokestatic 153, 3) := by decide +kernel
theorem dX8_wrong_71 : decode cX8_wrong 71 = .ok (.iload_n 1, 1) := by decide +kernel
theorem dX8_wrong_72 : decode cX8_wrong 72 = .ok (.isub, 1) := by decide +kernel
theorem dX8_wrong_73 : decode cX8_wrong 73 = .ok (.iconst 1, 1) := by decide +kernel
theorem dX8_wrong_74 : decode cX8_wrong 74 = .ok (.iadd, 1) := by decide +kernel
theorem dX8_wrong_75 : decode cX8_wrong 75 = .ok (.invokestatic 158, 3) := by decide +kernel
theorem dX8_wrong_78 : decode cX8_wrong 78 = .ok (.istore 6, 2) := by decide +kernel
theorem dX8_wrong_80 : decode cX8_wrong 80 = .ok (.iload 5, 2) := by decide +kernel
theorem dX8_wrong_82 : decode cX8_wrong 82 = .ok (.i2l, 1) := by decide +kernel
theorem dX8_wrong_83 : decode cX8_wrong 83 = .ok (.iload_n 3, 1) := by decide +kernel
theorem dX8_wrong_84 : decode cX8_wrong 84 = .ok (.invokestatic 161, 3) := by decide +kernel
theorem dX8_wrong_87 : decode cX8_wrong 87 = .ok (.lstore 7, 2) := by decide +kernel
theorem dX8_wrong_89 : decode cX8_wrong 89 = .ok (.lload 7, 2) := by decide +kernel
theorem dX8_wrong_91 : decode cX8_wrong 91 = .ok (.iload 5, 2) := by decide +kernel
theorem dX8_wrong_93 : decode cX8_wrong 93 = .ok (.iload 6, 2) := by decide +kernel
theorem dX8_wrong_95 : decode cX8_wrong 95 = .ok (.isub, 1) := by decide +kernel
theorem dX8_wrong_96 : decode cX8_wrong 96 = .ok (.i2l, 1) := by decide +kernel
theorem dX8_wrong_97 : decode cX8_wrong 97 = .ok (.iload_n 3, 1) := by decide +kernel
theorem dX8_wrong_98 : decode cX8_wrong 98 = .ok (.invokestatic 161, 3) := by decide +kernel
theorem dX8_wrong_101 : decode cX8_wrong 101 = .ok (.lsub, 1) := by decide +kernel
theorem dX8_wrong_102 : decode cX8_wrong 102 = .ok (.lstore 9, 2) := by decide +kernel
theorem dX8_wrong_104 : decode cX8_wrong 104 = .ok (.iload 4, 2) := by decide +kernel
theorem dX8_wrong_106 : decode cX8_wrong 106 = .ok (.ifCond .ne 8, 3) := by decide +kernel
theorem dX8_wrong_109 : decode cX8_wrong 109 = .ok (.lload 9, 2) := by decide +kernel
theorem dX8_wrong_111 : decode cX8_wrong 111 = .ok (.goto 5, 3) := by decide +kernel
theorem dX8_wrong_114 : decode cX8_wrong 114 = .ok (.lload 7, 2) := by decide +kernel
theorem dX8_wrong_116 : decode cX8_wrong 116 = .ok (.lstore 11, 2) := by decide +kernel
theorem dX8_wrong_118 : decode cX8_wrong 118 = .ok (.lload 9, 2) := by decide +kernel
theorem dX8_wrong_120 : decode cX8_wrong 120 = .ok (.lload 7, 2) := by decide +kernel
theorem dX8_wrong_122 : decode cX8_wrong 122 = .ok (.invokestatic 165, 3) := by decide +kernel
theorem dX8_wrong_125 : decode cX8_wrong 125 = .ok (.lstore 13, 2) := by decide +kernel
theorem dX8_wrong_127 : decode cX8_wrong 127 = .ok (.lload 13, 2) := by decide +kernel
theorem dX8_wrong_129 : decode cX8_wrong 129 = .ok (.lconst 1, 1) := by decide +kernel
theorem dX8_wrong_130 : decode cX8_wrong 130 = .ok (.lcmp, 1) := by decide +kernel
theorem dX8_wrong_131 : decode cX8_wrong 131 = .ok (.ifCond .ge 8, 3) := by decide +kernel
theorem dX8_wrong_134 : decode cX8_wrong 134 = .ok (.lload 11, 2) := by decide +kernel
theorem dX8_wrong_136 : decode cX8_wrong 136 = .ok (.goto 8, 3) := by decide +kernel
theorem dX8_wrong_139 : decode cX8_wrong 139 = .ok (.lload 11, 2) := by decide +kernel
theorem dX8_wrong_141 : decode cX8_wrong 141 = .ok (.lload 13, 2) := by decide +kernel
theorem dX8_wrong_143 : decode cX8_wrong 143 = .ok (.ldiv, 1) := by decide +kernel
theorem dX8_wrong_144 : decode cX8_wrong 144 = .ok (.lreturn, 1) := by decide +kernel
theorem dX8_known_0 : decode cX8_known 0 = .ok (.iload_n 1, 1) := by decide +kernel
theorem dX8_known_1 : decode cX8_known 1 = .ok (.invokestatic 169, 3) := by decide +kernel
theorem dX8_known_4 : decode cX8_known 4 = .ok (.ifCond .ne 5, 3) := by decide +kernel
theorem dX8_known_7 : decode cX8_known 7 = .ok (.iconst (-1), 1) := by decide +kernel
theorem dX8_known_8 : decode cX8_known 8 = .ok (.ireturn, 1) := by decide +kernel
theorem dX8_known_9 : decode cX8_known 9 = .ok (.iload_n 2, 1) := by decide +kernel
theorem dX8_known_10 : decode cX8_known 10 = .ok (.iconst 0, 1) := by decide +kernel
theorem dX8_known_11 : decode cX8_known 11 = .ok (.ldc 172, 2) := by decide +kernel
theorem dX8_known_13 : decode cX8_known 13 = .ok (.invokestatic 51, 3) := by decide +kernel
theorem dX8_known_16 : decode cX8_known 16 = .ok (.ifCond .eq 13, 3) := by decide +kernel
theorem dX8_known_19 : decode cX8_known 19 = .ok (.iload_n 3, 1) := by decide +kernel
theorem dX8_known_20 : decode cX8_known 20 = .ok (.iconst 0, 1) := by decide +kernel
theorem dX8_known_21 : decode cX8_known 21 = .ok (.ldc 172, 2) := by decide +kernel
theorem dX8_known_23 : decode cX8_known 23 = .ok (.invokestatic 51, 3) := by decide +kernel
theorem dX8_known_26 : decode cX8_known 26 = .ok (.ifCond .ne 6, 3) := by decide +kernel
theorem dX8_known_29 : decode cX8_known 29 = .ok (.bipush (-2), 2) := by decide +kernel
theorem dX8_known_31 : decode cX8_known 31 = .ok (.ireturn, 1) := by decide +kernel
theorem dX8_known_32 : decode cX8_known 32 = .ok (.iload_n 2, 1) := by decide +kernel
theorem dX8_known_33 : decode cX8_known 33 = .ok (.iload_n 3, 1) := by decide +kernel
theorem dX8_known_34 : decode cX8_known 34 = .ok (.isub, 1) := by decide +kernel
theorem dX8_known_35 : decode cX8_known 35 = .ok (.istore 4, 2) := by decide +kernel
theorem dX8_known_37 : decode cX8_known 37 = .ok (.aload_n 0, 1) := by decide +kernel
theorem dX8_known_38 : decode cX8_known 38 = .ok (.getfield 26, 3) := by decide +kernel
theorem dX8_known_41 : decode cX8_known 41 = .ok (.getfield 173, 3) := by decide +kernel
theorem dX8_known_44 : decode cX8_known 44 = .ok (.iload_n 1, 1) := by decide +kernel
theorem dX8_known_45 : decode cX8_known 45 = .ok (.aaload, 1) := by decide +kernel
theorem dX8_known_46 : decode cX8_known 46 = .ok (.iload 4, 2) := by decide +kernel
theorem dX8_known_48 : decode cX8_known 48 = .ok (.iconst 1, 1) := by decide +kernel
theorem dX8_known_49 : decode cX8_known 49 = .ok (.isub, 1) := by decide +kernel
theorem dX8_known_50 : decode cX8_known 50 = .ok (.iload 4, 2) := by decide +kernel
theorem dX8_known_52 : decode cX8_known 52 = .ok (.iconst 1, 1) := by decide +kernel
theorem dX8_known_53 : decode cX8_known 53 = .ok (.iadd, 1) := by decide +kernel
theorem dX8_known_54 : decode cX8_known 54 = .ok (.invokevirtual 177, 3) := by decide +kernel
theorem dX8_known_57 : decode cX8_known 57 = .ok (.ifCond .eq 7, 3) := by decide +kernel
theorem dX8_known_60 : decode cX8_known 60 = .ok (.iconst 1, 1) := by decide +kernel
theorem dX8_known_61 : decode cX8_known 61 = .ok (.goto 5, 3) := by decide +kernel
theorem dX8_known_64 : decode cX8_known 64 = .ok (.bipush (-5), 2) := by decide +kernel
theorem dX8_known_66 : decode cX8_known 66 = .ok (.ireturn, 1) := by decide +kernel
theorem dX8_late_0 : decode cX8_late 0 = .ok (.iload_n 1, 1) := by decide +kernel
theorem dX8_late_1 : decode cX8_late 1 = .ok (.invokestatic 169, 3) := by decide +kernel
theorem dX8_late_4 : decode cX8_late 4 = .ok (.ifCond .ne 5, 3) := by decide +kernel
theorem dX8_late_7 : decode cX8_late 7 = .ok (.iconst (-1), 1) := by decide +kernel
theorem dX8_late_8 : decode cX8_late 8 = .ok (.ireturn, 1) := by decide +kernel
theorem dX8_late_9 : decode cX8_late 9 = .ok (.iload_n 2, 1) := by decide +kernel
theorem dX8_late_10 : decode cX8_late 10 = .ok (.invokestatic 86, 3) := by decide +kernel
theorem dX8_late_13 : decode cX8_late 13 = .ok (.ifCond .ne 6, 3) := by decide +kernel
theorem dX8_late_16 : decode cX8_late 16 = .ok (.bipush (-2), 2) := by decide +kernel
theorem dX8_late_18 : decode cX8_late 18 = .ok (.ireturn, 1) := by decide +kernel
theorem dX8_late_19 : decode cX8_late 19 = .ok (.aload_n 0, 1) := by decide +kernel
theorem dX8_late_20 : decode cX8_late 20 = .ok (.getfield 26, 3) := by decide +kernel
theorem dX8_late_23 : decode cX8_late 23 = .ok (.getfield 173, 3) := by decide +kernel
theorem dX8_late_26 : decode cX8_late 26 = .ok (.iload_n 1, 1) := by decide +kernel
theorem dX8_late_27 : decode cX8_late 27 = .ok (.aaload, 1) := by decide +kernel
theorem dX8_late_28 : decode cX8_late 28 = .ok (.iload_n 2, 1) := by decide +kernel
theorem dX8_late_29 : decode cX8_late 29 = .ok (.invokevirtual 182, 3) := by decide +kernel
theorem dX8_late_32 : decode cX8_late 32 = .ok (.ireturn, 1) := by decide +kernel
theorem dX8_tell_0 : decode cX8_tell 0 = .ok (.iload_n 1, 1) := by decide +kernel
theorem dX8_tell_1 : decode cX8_tell 1 = .ok (.invokestatic 169, 3) := by decide +kernel
theorem dX8_tell_4 : decode cX8_tell 4 = .ok (.ifCond .ne 5, 3) := by decide +kernel
theorem dX8_tell_7 : decode cX8_tell 7 = .ok (.iconst (-1), 1) := by decide +kernel
theorem dX8_tell_8 : decode cX8_tell 8 = .ok (.ireturn, 1) := by decide +kernel
theorem dX8_tell_9 : decode cX8_tell 9 = .ok (.iload_n 2, 1) := by decide +kernel
theorem dX8_tell_10 : decode cX8_tell 10 = .ok (.iconst (-1), 1) := by decide +kernel
theorem dX8_tell_11 : decode cX8_tell 11 = .ok (.ldc 172, 2) := by decide +kernel
theorem dX8_tell_13 : decode cX8_tell 13 = .ok (.invokestatic 51, 3) := by decide +kernel
theorem dX8_tell_16 : decode cX8_tell 16 = .ok (.ifCond .ne 6, 3) := by decide +kernel
theorem dX8_tell_19 : decode cX8_tell 19 = .ok (.bipush (-2), 2) := by decide +kernel
theorem dX8_tell_21 : decode cX8_tell 21 = .ok (.ireturn, 1) := by decide +kernel
theorem dX8_tell_22 : decode cX8_tell 22 = .ok (.aload_n 0, 1) := by decide +kernel
theorem dX8_tell_23 : decode cX8_tell 23 = .ok (.getfield 26, 3) := by decide +kernel
theorem dX8_tell_26 : decode cX8_tell 26 = .ok (.getfield 185, 3) := by decide +kernel
theorem dX8_tell_29 : decode cX8_tell 29 = .ok (.iload_n 1, 1) := by decide +kernel
theorem dX8_tell_30 : decode cX8_tell 30 = .ok (.iaload, 1) := by decide +kernel
theorem dX8_tell_31 : decode cX8_tell 31 = .ok (.istore_n 3, 1) := by decide +kernel
theorem dX8_tell_32 : decode cX8_tell 32 = .ok (.aload_n 0, 1) := by decide +kernel
theorem dX8_tell_33 : decode cX8_tell 33 = .ok (.getfield 26, 3) := by decide +kernel
theorem dX8_tell_36 : decode cX8_tell 36 = .ok (.getfield 185, 3) := by decide +kernel
theorem dX8_tell_39 : decode cX8_tell 39 = .ok (.iload_n 1, 1) := by decide +kernel
theorem dX8_tell_40 : decode cX8_tell 40 = .ok (.iload_n 2, 1) := by decide +kernel
theorem dX8_tell_41 : decode cX8_tell 41 = .ok (.iconst (-1), 1) := by decide +kernel
theorem dX8_tell_42 : decode cX8_tell 42 = .ok (.if_icmp .ne 8, 3) := by decide +kernel
theorem dX8_tell_45 : decode cX8_tell 45 = .ok (.bipush (-6), 2) := by decide +kernel
theorem dX8_tell_47 : decode cX8_tell 47 = .ok (.goto 4, 3) := by decide +kernel
theorem dX8_tell_50 : decode cX8_tell 50 = .ok (.iload_n 2, 1) := by decide +kernel
theorem dX8_tell_51 : decode cX8_tell 51 = .ok (.iastore, 1) := by decide +kernel
theorem dX8_tell_52 : decode cX8_tell 52 = .ok (.iload_n 3, 1) := by decide +kernel
theorem dX8_tell_53 : decode cX8_tell 53 = .ok (.ireturn, 1) := by decide +kernel
theorem dX8_time_0 : decode cX8_time 0 = .ok (.iload_n 1, 1) := by decide +kernel
theorem dX8_time_1 : decode cX8_time 1 = .ok (.invokestatic 86, 3) := by decide +kernel
theorem dX8_time_4 : decode cX8_time 4 = .ok (.ifCond .ne 6, 3) := by decide +kernel
theorem dX8_time_7 : decode cX8_time 7 = .ok (.bipush (-2), 2) := by decide +kernel
theorem dX8_time_9 : decode cX8_time 9 = .ok (.ireturn, 1) := by decide +kernel
theorem dX8_time_10 : decode cX8_time 10 = .ok (.aload_n 0, 1) := by decide +kernel
theorem dX8_time_11 : decode cX8_time 11 = .ok (.getfield 26, 3) := by decide +kernel
theorem dX8_time_14 : decode cX8_time 14 = .ok (.invokevirtual 188, 3) := by decide +kernel
theorem dX8_time_17 : decode cX8_time 17 = .ok (.istore_n 2, 1) := by decide +kernel
theorem dX8_time_18 : decode cX8_time 18 = .ok (.iload_n 2, 1) := by decide +kernel
theorem dX8_time_19 : decode cX8_time 19 = .ok (.bipush (-6), 2) := by decide +kernel
theorem dX8_time_21 : decode cX8_time 21 = .ok (.if_icmp .eq 7, 3) := by decide +kernel
theorem dX8_time_24 : decode cX8_time 24 = .ok (.iload_n 2, 1) := by decide +kernel
theorem dX8_time_25 : decode cX8_time 25 = .ok (.goto 17, 3) := by decide +kernel
theorem dX8_time_28 : decode cX8_time 28 = .ok (.ldc 192, 2) := by decide +kernel
theorem dX8_time_30 : decode cX8_time 30 = .ok (.aload_n 0, 1) := by decide +kernel
theorem dX8_time_31 : decode cX8_time 31 = .ok (.getfield 26, 3) := by decide +kernel
theorem dX8_time_34 : decode cX8_time 34 = .ok (.getfield 193, 3) := by decide +kernel
theorem dX8_time_37 : decode cX8_time 37 = .ok (.iload_n 1, 1) := by decide +kernel
theorem dX8_time_38 : decode cX8_time 38 = .ok (.invokevirtual 182, 3) := by decide +kernel
theorem dX8_time_41 : decode cX8_time 41 = .ok (.iadd, 1) := by decide +kernel
theorem dX8_time_42 : decode cX8_time 42 = .ok (.ireturn, 1) := by decide +kernel
theorem dX8_old_0 : decode cX8_old 0 = .ok (.iload_n 1, 1) := by decide +kernel
theorem dX8_old_1 : decode cX8_old 1 = .ok (.iconst 0, 1) := by decide +kernel
theorem dX8_old_2 : decode cX8_old 2 = .ok (.ldc 172, 2) := by decide +kernel
theorem dX8_old_4 : decode cX8_old 4 = .ok (.invokestatic 51, 3) := by decide +kernel
theorem dX8_old_7 : decode cX8_old 7 = .ok (.ifCond .ne 6, 3) := by decide +kernel
theorem dX8_old_10 : decode cX8_old 10 = .ok (.bipush (-2), 2) := by decide +kernel
theorem dX8_old_12 : decode cX8_old 12 = .ok (.ireturn, 1) := by decide +kernel
theorem dX8_old_13 : decode cX8_old 13 = .ok (.aload_n 0, 1) := by decide +kernel
theorem dX8_old_14 : decode cX8_old 14 = .ok (.getfield 26, 3) := by decide +kernel
theorem dX8_old_17 : decode cX8_old 17 = .ok (.invokevirtual 188, 3) := by decide +kernel
theorem dX8_old_20 : decode cX8_old 20 = .ok (.istore_n 2, 1) := by decide +kernel
theorem dX8_old_21 : decode cX8_old 21 = .ok (.iload_n 2, 1) := by decide +kernel
theorem dX8_old_22 : decode cX8_old 22 = .ok (.bipush (-6), 2) := by decide +kernel
theorem dX8_old_24 : decode cX8_old 24 = .ok (.if_icmp .eq 5, 3) := by decide +kernel
theorem dX8_old_27 : decode cX8_old 27 = .ok (.iload_n 2, 1) := by decide +kernel
theorem dX8_old_28 : decode cX8_old 28 = .ok (.ireturn, 1) := by decide +kernel
theorem dX8_old_29 : decode cX8_old 29 = .ok (.aload_n 0, 1) := by decide +kernel
theorem dX8_old_30 : decode cX8_old 30 = .ok (.getfield 26, 3) := by decide +kernel
theorem dX8_old_33 : decode cX8_old 33 = .ok (.getfield 193, 3) := by decide +kernel
theorem dX8_old_36 : decode cX8_old 36 = .ok (.getfield 197, 3) := by decide +kernel
theorem dX8_old_39 : decode cX8_old 39 = .ok (.iload_n 1, 1) := by decide +kernel
theorem dX8_old_40 : decode cX8_old 40 = .ok (.if_icmp .ge 5, 3) := by decide +kernel
theorem dX8_old_43 : decode cX8_old 43 = .ok (.iconst 1, 1) := by decide +kernel
theorem dX8_old_44 : decode cX8_old 44 = .ok (.ireturn, 1) := by decide +kernel
theorem dX8_old_45 : decode cX8_old 45 = .ok (.aload_n 0, 1) := by decide +kernel
theorem dX8_old_46 : decode cX8_old 46 = .ok (.getfield 26, 3) := by decide +kernel
theorem dX8_old_49 : decode cX8_old 49 = .ok (.getfield 193, 3) := by decide +kernel
theorem dX8_old_52 : decode cX8_old 52 = .ok (.getfield 200, 3) := by decide +kernel
theorem dX8_old_55 : decode cX8_old 55 = .ok (.iload_n 1, 1) := by decide +kernel
theorem dX8_old_56 : decode cX8_old 56 = .ok (.if_icmp .lt 7, 3) := by decide +kernel
theorem dX8_old_59 : decode cX8_old 59 = .ok (.iconst 0, 1) := by decide +kernel
theorem dX8_old_60 : decode cX8_old 60 = .ok (.goto 4, 3) := by decide +kernel
theorem dX8_old_63 : decode cX8_old 63 = .ok (.iconst 2, 1) := by decide +kernel
theorem dX8_old_64 : decode cX8_old 64 = .ok (.ireturn, 1) := by decide +kernel
theorem dX8_say_0 : decode cX8_say 0 = .ok (.iload_n 1, 1) := by decide +kernel
theorem dX8_say_1 : decode cX8_say 1 = .ok (.bipush 33, 2) := by decide +kernel
theorem dX8_say_3 : decode cX8_say 3 = .ok (.bipush 126, 2) := by decide +kernel
theorem dX8_say_5 : decode cX8_say 5 = .ok (.invokestatic 51, 3) := by decide +kernel
theorem dX8_say_8 : decode cX8_say 8 = .ok (.ifCond .ne 6, 3) := by decide +kernel
theorem dX8_say_11 : decode cX8_say 11 = .ok (.bipush (-2), 2) := by decide +kernel
theorem dX8_say_13 : decode cX8_say 13 = .ok (.ireturn, 1) := by decide +kernel
theorem dX8_say_14 : decode cX8_say 14 = .ok (.aload_n 0, 1) := by decide +kernel
theorem dX8_say_15 : decode cX8_say 15 = .ok (.getfield 33, 3) := by decide +kernel
theorem dX8_say_18 : decode cX8_say 18 = .ok (.iload_n 1, 1) := by decide +kernel
theorem dX8_say_19 : decode cX8_say 19 = .ok (.invokevirtual 203, 3) := by decide +kernel
theorem dX8_say_22 : decode cX8_say 22 = .ok (.ireturn, 1) := by decide +kernel
theorem dX8_wipe_0 : decode cX8_wipe 0 = .ok (.aload_n 0, 1) := by decide +kernel
theorem dX8_wipe_1 : decode cX8_wipe 1 = .ok (.getfield 33, 3) := by decide +kernel
theorem dX8_wipe_4 : decode cX8_wipe 4 = .ok (.getfield 206, 3) := by decide +kernel
theorem dX8_wipe_7 : decode cX8_wipe 7 = .ok (.istore_n 1, 1) := by decide +kernel
theorem dX8_wipe_8 : decode cX8_wipe 8 = .ok (.aload_n 0, 1) := by decide +kernel
theorem dX8_wipe_9 : decode cX8_wipe 9 = .ok (.getfield 33, 3) := by decide +kernel
theorem dX8_wipe_12 : decode cX8_wipe 12 = .ok (.iconst 0, 1) := by decide +kernel
theorem dX8_wipe_13 : decode cX8_wipe 13 = .ok (.putfield 206, 3) := by decide +kernel
theorem dX8_wipe_16 : decode cX8_wipe 16 = .ok (.iload_n 1, 1) := by decide +kernel
theorem dX8_wipe_17 : decode cX8_wipe 17 = .ok (.ireturn, 1) := by decide +kernel
theorem dX8_fault_0 : decode cX8_fault 0 = .ok (.aload_n 0, 1) := by decide +kernel
theorem dX8_fault_1 : decode cX8_fault 1 = .ok (.getfield 33, 3) := by decide +kernel
theorem dX8_fault_4 : decode cX8_fault 4 = .ok (.invokevirtual 207, 3) := by decide +kernel
theorem dX8_fault_7 : decode cX8_fault 7 = .ok (.ireturn, 1) := by decide +kernel
theorem dX8_rule_0 : decode cX8_rule 0 = .ok (.aload_n 0, 1) := by decide +kernel
theorem dX8_rule_1 : decode cX8_rule 1 = .ok (.getfield 33, 3) := by decide +kernel
theorem dX8_rule_4 : decode cX8_rule 4 = .ok (.invokevirtual 207, 3) := by decide +kernel
theorem dX8_rule_7 : decode cX8_rule 7 = .ok (.bipush (-6), 2) := by decide +kernel
theorem dX8_rule_9 : decode cX8_rule 9 = .ok (.if_icmp .eq 6, 3) := by decide +kernel
theorem dX8_rule_12 : decode cX8_rule 12 = .ok (.bipush (-5), 2) := by decide +kernel
theorem dX8_rule_14 : decode cX8_rule 14 = .ok (.ireturn, 1) := by decide +kernel
theorem dX8_rule_15 : decode cX8_rule 15 = .ok (.aload_n 0, 1) := by decide +kernel
theorem dX8_rule_16 : decode cX8_rule 16 = .ok (.getfield 40, 3) := by decide +kernel
theorem dX8_rule_19 : decode cX8_rule 19 = .ok (.aload_n 0, 1) := by decide +kernel
theorem dX8_rule_20 : decode cX8_rule 20 = .ok (.getfield 33, 3) := by decide +kernel
theorem dX8_rule_23 : decode cX8_rule 23 = .ok (.invokevirtual 210, 3) := by decide +kernel
theorem dX8_rule_26 : decode cX8_rule 26 = .ok (.aload_n 0, 1) := by decide +kernel
theorem dX8_rule_27 : decode cX8_rule 27 = .ok (.getfield 33, 3) := by decide +kernel
theorem dX8_rule_30 : decode cX8_rule 30 = .ok (.iconst 0, 1) := by decide +kernel
theorem dX8_rule_31 : decode cX8_rule 31 = .ok (.putfield 206, 3) := by decide +kernel
theorem dX8_rule_34 : decode cX8_rule 34 = .ok (.aload_n 0, 1) := by decide +kernel
theorem dX8_rule_35 : decode cX8_rule 35 = .ok (.getfield 40, 3) := by decide +kernel
theorem dX8_rule_38 : decode cX8_rule 38 = .ok (.getfield 214, 3) := by decide +kernel
theorem dX8_rule_41 : decode cX8_rule 41 = .ok (.ireturn, 1) := by decide +kernel
theorem dX8_record_0 : decode cX8_record 0 = .ok (.iload_n 1, 1) := by decide +kernel
theorem dX8_record_1 : decode cX8_record 1 = .ok (.invokestatic 215, 3) := by decide +kernel
theorem dX8_record_4 : decode cX8_record 4 = .ok (.ifCond .eq 25, 3) := by decide +kernel
theorem dX8_record_7 : decode cX8_record 7 = .ok (.iload_n 2, 1) := by decide +kernel
theorem dX8_record_8 : decode cX8_record 8 = .ok (.invokestatic 215, 3) := by decide +kernel
theorem dX8_record_11 : decode cX8_record 11 = .ok (.ifCond .eq 18, 3) := by decide +kernel
theorem dX8_record_14 : decode cX8_record 14 = .ok (.iload_n 3, 1) := by decide +kernel
theorem dX8_record_15 : decode cX8_record 15 = .ok (.invokestatic 215, 3) := by decide +kernel
theorem dX8_record_18 : decode cX8_record 18 = .ok (.ifCond .eq 11, 3) := by decide +kernel
theorem dX8_record_21 : decode cX8_record 21 = .ok (.iload 4, 2) := by decide +kernel
theorem dX8_record_23 : decode cX8_record 23 = .ok (.invokestatic 215, 3) := by decide +kernel
theorem dX8_record_26 : decode cX8_record 26 = .ok (.ifCond .ne 6, 3) := by decide +kernel
theorem dX8_record_29 : decode cX8_record 29 = .ok (.bipush (-2), 2) := by decide +kernel
theorem dX8_record_31 : decode cX8_record 31 = .ok (.ireturn, 1) := by decide +kernel
theorem dX8_record_32 : decode cX8_record 32 = .ok (.aload_n 0, 1) := by decide +kernel
theorem dX8_record_33 : decode cX8_record 33 = .ok (.getfield 40, 3) := by decide +kernel
theorem dX8_record_36 : decode cX8_record 36 = .ok (.getfield 214, 3) := by decide +kernel
theorem dX8_record_39 : decode cX8_record 39 = .ok (.ifCond .ne 6, 3) := by decide +kernel
theorem dX8_record_42 : decode cX8_record 42 = .ok (.bipush (-3), 2) := by decide +kernel
theorem dX8_record_44 : decode cX8_record 44 = .ok (.ireturn, 1) := by decide +kernel
theorem dX8_record_45 : decode cX8_record 45 = .ok (.iconst 0, 1) := by decide +kernel
theorem dX8_record_46 : decode cX8_record 46 = .ok (.istore 5, 2) := by decide +kernel
theorem dX8_record_48 : decode cX8_record 48 = .ok (.iload 5, 2) := by decide +kernel
theorem dX8_record_50 : decode cX8_record 50 = .ok (.aload_n 0, 1) := by decide +kernel
theorem dX8_record_51 : decode cX8_record 51 = .ok (.getfield 40, 3) := by decide +kernel
theorem dX8_record_54 : decode cX8_record 54 = .ok (.getfield 214, 3) := by decide +kernel
theorem dX8_record_57 : decode cX8_record 57 = .ok (.if_icmp .ge 46, 3) := by decide +kernel
theorem dX8_record_60 : decode cX8_record 60 = .ok (.aload_n 0, 1) := by decide +kernel
theorem dX8_record_61 : decode cX8_record 61 = .ok (.getfield 40, 3) := by decide +kernel
theorem dX8_record_64 : decode cX8_record 64 = .ok (.getfield 218, 3) := by decide +kernel
theorem dX8_record_67 : decode cX8_record 67 = .ok (.iload 5, 2) := by decide +kernel
theorem dX8_record_69 : decode cX8_record 69 = .ok (.iaload, 1) := by decide +kernel
theorem dX8_record_70 : decode cX8_record 70 = .ok (.iload_n 1, 1) := by decide +kernel
theorem dX8_record_71 : decode cX8_record 71 = .ok (.iload_n 2, 1) := by decide +kernel
theorem dX8_record_72 : decode cX8_record 72 = .ok (.iload_n 3, 1) := by decide +kernel
theorem dX8_record_73 : decode cX8_record 73 = .ok (.iload 4, 2) := by decide +kernel
theorem dX8_record_75 : decode cX8_record 75 = .ok (.invokestatic 221, 3) := by decide +kernel
theorem dX8_record_78 : decode cX8_record 78 = .ok (.istore 6, 2) := by decide +kernel
theorem dX8_record_80 : decode cX8_record 80 = .ok (.aload_n 0, 1) := by decide +kernel
theorem dX8_record_81 : decode cX8_record 81 = .ok (.getfield 40, 3) := by decide +kernel
theorem dX8_record_84 : decode cX8_record 84 = .ok (.iload 5, 2) := by decide +kernel
theorem dX8_record_86 : decode cX8_record 86 = .ok (.iload 6, 2) := by decide +kernel
theorem dX8_record_88 : decode cX8_record 88 = .ok (.invokevirtual 225, 3) := by decide +kernel
theorem dX8_record_91 : decode cX8_record 91 = .ok (.ifCond .ne 6, 3) := by decide +kernel
theorem dX8_record_94 : decode cX8_record 94 = .ok (.iload 5, 2) := by decide +kernel
theorem dX8_record_96 : decode cX8_record 96 = .ok (.ireturn, 1) := by decide +kernel
theorem dX8_record_97 : decode cX8_record 97 = .ok (.iinc 5 1, 3) := by decide +kernel
theorem dX8_record_100 : decode cX8_record 100 = .ok (.goto (-52), 3) := by decide +kernel
theorem dX8_record_103 : decode cX8_record 103 = .ok (.bipush (-6), 2) := by decide +kernel
theorem dX8_record_105 : decode cX8_record 105 = .ok (.ireturn, 1) := by decide +kernel
theorem dX8_slit_0 : decode cX8_slit 0 = .ok (.iload_n 1, 1) := by decide +kernel
theorem dX8_slit_1 : decode cX8_slit 1 = .ok (.invokestatic 86, 3) := by decide +kernel
theorem dX8_slit_4 : decode cX8_slit 4 = .ok (.ifCond .eq 13, 3) := by decide +kernel
theorem dX8_slit_7 : decode cX8_slit 7 = .ok (.iload_n 2, 1) := by decide +kernel
theorem dX8_slit_8 : decode cX8_slit 8 = .ok (.iconst 1, 1) := by decide +kernel
theorem dX8_slit_9 : decode cX8_slit 9 = .ok (.bipush 63, 2) := by decide +kernel
theorem dX8_slit_11 : decode cX8_slit 11 = .ok (.invokestatic 51, 3) := by decide +kernel
theorem dX8_slit_14 : decode cX8_slit 14 = .ok (.ifCond .ne 6, 3) := by decide +kernel
theorem dX8_slit_17 : decode cX8_slit 17 = .ok (.bipush (-2), 2) := by decide +kernel
theorem dX8_slit_19 : decode cX8_slit 19 = .ok (.ireturn, 1) := by decide +kernel
theorem dX8_slit_20 : decode cX8_slit 20 = .ok (.aload_n 0, 1) := by decide +kernel
theorem dX8_slit_21 : decode cX8_slit 21 = .ok (.getfield 47, 3) := by decide +kernel
theorem dX8_slit_24 : decode cX8_slit 24 = .ok (.iload_n 1, 1) := by decide +kernel
theorem dX8_slit_25 : decode cX8_slit 25 = .ok (.iload_n 2, 1) := by decide +kernel
theorem dX8_slit_26 : decode cX8_slit 26 = .ok (.invokevirtual 228, 3) := by decide +kernel
theorem dX8_slit_29 : decode cX8_slit 29 = .ok (.ireturn, 1) := by decide +kernel
theorem dX8_seen_0 : decode cX8_seen 0 = .ok (.iload_n 1, 1) := by decide +kernel
theorem dX8_seen_1 : decode cX8_seen 1 = .ok (.iconst 0, 1) := by decide +kernel
theorem dX8_seen_2 : decode cX8_seen 2 = .ok (.iconst 1, 1) := by decide +kernel
theorem dX8_seen_3 : decode cX8_seen 3 = .ok (.aload_n 0, 1) := by decide +kernel
theorem dX8_seen_4 : decode cX8_seen 4 = .ok (.getfield 47, 3) := by decide +kernel
theorem dX8_seen_7 : decode cX8_seen 7 = .ok (.getfield 230, 3) := by decide +kernel
theorem dX8_seen_10 : decode cX8_seen 10 = .ok (.ishl, 1) := by decide +kernel
theorem dX8_seen_11 : decode cX8_seen 11 = .ok (.iconst 1, 1) := by decide +kernel
theorem dX8_seen_12 : decode cX8_seen 12 = .ok (.isub, 1) := by decide +kernel
theorem dX8_seen_13 : decode cX8_seen 13 = .ok (.invokestatic 51, 3) := by decide +kernel
theorem dX8_seen_16 : decode cX8_seen 16 = .ok (.ifCond .eq 10, 3) := by decide +kernel
theorem dX8_seen_19 : decode cX8_seen 19 = .ok (.iload_n 2, 1) := by decide +kernel
theorem dX8_seen_20 : decode cX8_seen 20 = .ok (.invokestatic 86, 3) := by decide +kernel
theorem dX8_seen_23 : decode cX8_seen 23 = .ok (.ifCond .ne 6, 3) := by decide +kernel
theorem dX8_seen_26 : decode cX8_seen 26 = .ok (.bipush (-2), 2) := by decide +kernel
theorem dX8_seen_28 : decode cX8_seen 28 = .ok (.ireturn, 1) := by decide +kernel
theorem dX8_seen_29 : decode cX8_seen 29 = .ok (.aload_n 0, 1) := by decide +kernel
theorem dX8_seen_30 : decode cX8_seen 30 = .ok (.getfield 47, 3) := by decide +kernel
theorem dX8_seen_33 : decode cX8_seen 33 = .ok (.aload_n 0, 1) := by decide +kernel
theorem dX8_seen_34 : decode cX8_seen 34 = .ok (.getfield 10, 3) := by decide +kernel
theorem dX8_seen_37 : decode cX8_seen 37 = .ok (.invokevirtual 231, 3) := by decide +kernel
theorem dX8_seen_40 : decode cX8_seen 40 = .ok (.aload_n 0, 1) := by decide +kernel
theorem dX8_seen_41 : decode cX8_seen 41 = .ok (.getfield 47, 3) := by decide +kernel
theorem dX8_seen_44 : decode cX8_seen 44 = .ok (.iload_n 1, 1) := by decide +kernel
theorem dX8_seen_45 : decode cX8_seen 45 = .ok (.invokevirtual 235, 3) := by decide +kernel
theorem dX8_seen_48 : decode cX8_seen 48 = .ok (.istore_n 3, 1) := by decide +kernel
theorem dX8_seen_49 : decode cX8_seen 49 = .ok (.iload_n 2, 1) := by decide +kernel
theorem dX8_seen_50 : decode cX8_seen 50 = .ok (.ifCond .ne 7, 3) := by decide +kernel
theorem dX8_seen_53 : decode cX8_seen 53 = .ok (.iload_n 3, 1) := by decide +kernel
theorem dX8_seen_54 : decode cX8_seen 54 = .ok (.goto 14, 3) := by decide +kernel
theorem dX8_seen_57 : decode cX8_seen 57 = .ok (.aload_n 0, 1) := by decide +kernel
theorem dX8_seen_58 : decode cX8_seen 58 = .ok (.getfield 10, 3) := by decide +kernel
theorem dX8_seen_61 : decode cX8_seen 61 = .ok (.invokevirtual 238, 3) := by decide +kernel
theorem dX8_seen_64 : decode cX8_seen 64 = .ok (.iload_n 3, 1) := by decide +kernel
theorem dX8_seen_65 : decode cX8_seen 65 = .ok (.invokestatic 241, 3) := by decide +kernel
theorem dX8_seen_68 : decode cX8_seen 68 = .ok (.ireturn, 1) := by decide +kernel
theorem dX8_best_0 : decode cX8_best 0 = .ok (.iload_n 1, 1) := by decide +kernel
theorem dX8_best_1 : decode cX8_best 1 = .ok (.iconst 0, 1) := by decide +kernel
theorem dX8_best_2 : decode cX8_best 2 = .ok (.bipush 8, 2) := by decide +kernel
theorem dX8_best_4 : decode cX8_best 4 = .ok (.invokestatic 51, 3) := by decide +kernel
theorem dX8_best_7 : decode cX8_best 7 = .ok (.ifCond .eq 10, 3) := by decide +kernel
theorem dX8_best_10 : decode cX8_best 10 = .ok (.iload_n 2, 1) := by decide +kernel
theorem dX8_best_11 : decode cX8_best 11 = .ok (.invokestatic 86, 3) := by decide +kernel
theorem dX8_best_14 : decode cX8_best 14 = .ok (.ifCond .ne 6, 3) := by decide +kernel
theorem dX8_best_17 : decode cX8_best 17 = .ok (.bipush (-2), 2) := by decide +kernel
theorem dX8_best_19 : decode cX8_best 19 = .ok (.ireturn, 1) := by decide +kernel
theorem dX8_best_20 : decode cX8_best 20 = .ok (.aload_n 0, 1) := by decide +kernel
theorem dX8_best_21 : decode cX8_best 21 = .ok (.getfield 47, 3) := by decide +kernel
theorem dX8_best_24 : decode cX8_best 24 = .ok (.aload_n 0, 1) := by decide +kernel
theorem dX8_best_25 : decode cX8_best 25 = .ok (.getfield 10, 3) := by decide +kernel
theorem dX8_best_28 : decode cX8_best 28 = .ok (.invokevirtual 231, 3) := by decide +kernel
theorem dX8_best_31 : decode cX8_best 31 = .ok (.iconst 0, 1) := by decide +kernel
theorem dX8_best_32 : decode cX8_best 32 = .ok (.istore_n 3, 1) := by decide +kernel
theorem dX8_best_33 : decode cX8_best 33 = .ok (.aload_n 0, 1) := by decide +kernel
theorem dX8_best_34 : decode cX8_best 34 = .ok (.getfield 10, 3) := by decide +kernel
theorem dX8_best_37 : decode cX8_best 37 = .ok (.invokevirtual 238, 3) := by decide +kernel
theorem dX8_best_40 : decode cX8_best 40 = .ok (.istore 4, 2) := by decide +kernel
theorem dX8_best_42 : decode cX8_best 42 = .ok (.iload 4, 2) := by decide +kernel
theorem dX8_best_44 : decode cX8_best 44 = .ok (.iconst 0, 1) := by decide +kernel
theorem dX8_best_45 : decode cX8_best 45 = .ok (.invokestatic 241, 3) := by decide +kernel
theorem dX8_best_48 : decode cX8_best 48 = .ok (.istore 5, 2) := by decide +kernel
theorem dX8_best_50 : decode cX8_best 50 = .ok (.iconst 1, 1) := by decide +kernel
theorem dX8_best_51 : decode cX8_best 51 = .ok (.istore 6, 2) := by decide +kernel
theorem dX8_best_53 : decode cX8_best 53 = .ok (.iload 6, 2) := by decide +kernel
theorem dX8_best_55 : decode cX8_best 55 = .ok (.iconst 1, 1) := by decide +kernel
theorem dX8_best_56 : decode cX8_best 56 = .ok (.aload_n 0, 1) := by decide +kernel
theorem dX8_best_57 : decode cX8_best 57 = .ok (.getfield 47, 3) := by decide +kernel
theorem dX8_best_60 : decode cX8_best 60 = .ok (.getfield 230, 3) := by decide +kernel
theorem dX8_best_63 : decode cX8_best 63 = .ok (.ishl, 1) := by decide +kernel
theorem dX8_best_64 : decode cX8_best 64 = .ok (.if_icmp .ge 80, 3) := by decide +kernel
theorem dX8_best_67 : decode cX8_best 67 = .ok (.iload 6, 2) := by decide +kernel
theorem dX8_best_69 : decode cX8_best 69 = .ok (.invokestatic 244, 3) := by decide +kernel
theorem dX8_best_72 : decode cX8_best 72 = .ok (.istore 7, 2) := by decide +kernel
theorem dX8_best_74 : decode cX8_best 74 = .ok (.iload 4, 2) := by decide +kernel
theorem dX8_best_76 : decode cX8_best 76 = .ok (.aload_n 0, 1) := by decide +kernel
theorem dX8_best_77 : decode cX8_best 77 = .ok (.getfield 47, 3) := by decide +kernel
theorem dX8_best_80 : decode cX8_best 80 = .ok (.iload 6, 2) := by decide +kernel
theorem dX8_best_82 : decode cX8_best 82 = .ok (.invokevirtual 235, 3) := by decide +kernel
theorem dX8_best_85 : decode cX8_best 85 = .ok (.invokestatic 241, 3) := by decide +kernel
theorem dX8_best_88 : decode cX8_best 88 = .ok (.istore 8, 2) := by decide +kernel
theorem dX8_best_90 : decode cX8_best 90 = .ok (.iload 8, 2) := by decide +kernel
theorem dX8_best_92 : decode cX8_best 92 = .ok (.iload 5, 2) := by decide +kernel
theorem dX8_best_94 : decode cX8_best 94 = .ok (.if_icmp .lt 19, 3) := by decide +kernel
theorem dX8_best_97 : decode cX8_best 97 = .ok (.iload 8, 2) := by decide +kernel
theorem dX8_best_99 : decode cX8_best 99 = .ok (.iload 5, 2) := by decide +kernel
theorem dX8_best_101 : decode cX8_best 101 = .ok (.if_icmp .ne 16, 3) := by decide +kernel
theorem dX8_best_104 : decode cX8_best 104 = .ok (.iload 7, 2) := by decide +kernel
theorem dX8_best_106 : decode cX8_best 106 = .ok (.iload_n 3, 1) := by decide +kernel
theorem dX8_best_107 : decode cX8_best 107 = .ok (.invokestatic 244, 3) := by decide +kernel
theorem dX8_best_110 : decode cX8_best 110 = .ok (.if_icmp .ge 7, 3) := by decide +kernel
theorem dX8_best_113 : decode cX8_best 113 = .ok (.iconst 1, 1) := by decide +kernel
theorem dX8_best_114 : decode cX8_best 114 = .ok (.goto 4, 3) := by decide +kernel
theorem dX8_best_117 : decode cX8_best 117 = .ok (.iconst 0, 1) := by decide +kernel
theorem dX8_best_118 : decode cX8_best 118 = .ok (.istore 9, 2) := by decide +kernel
theorem dX8_best_120 : decode cX8_best 120 = .ok (.iload 7, 2) := by decide +kernel
theorem dX8_best_122 : decode cX8_best 122 = .ok (.iload_n 1, 1) := by decide +kernel
theorem dX8_best_123 : decode cX8_best 123 = .ok (.if_icmp .gt 15, 3) := by decide +kernel
theorem dX8_best_126 : decode cX8_best 126 = .ok (.iload 9, 2) := by decide +kernel
theorem dX8_best_128 : decode cX8_best 128 = .ok (.ifCond .eq 10, 3) := by decide +kernel
theorem dX8_best_131 : decode cX8_best 131 = .ok (.iload 6, 2) := by decide +kernel
theorem dX8_best_133 : decode cX8_best 133 = .ok (.istore_n 3, 1) := by decide +kernel
theorem dX8_best_134 : decode cX8_best 134 = .ok (.iload 8, 2) := by decide +kernel
theorem dX8_best_136 : decode cX8_best 136 = .ok (.istore 5, 2) := by decide +kernel
theorem dX8_best_138 : decode cX8_best 138 = .ok (.iinc 6 1, 3) := by decide +kernel
theorem dX8_best_141 : decode cX8_best 141 = .ok (.goto (-88), 3) := by decide +kernel
theorem dX8_best_144 : decode cX8_best 144 = .ok (.iload_n 2, 1) := by decide +kernel
theorem dX8_best_145 : decode cX8_best 145 = .ok (.ifCond .ne 7, 3) := by decide +kernel
theorem dX8_best_148 : decode cX8_best 148 = .ok (.iload_n 3, 1) := by decide +kernel
theorem dX8_best_149 : decode cX8_best 149 = .ok (.goto 5, 3) := by decide +kernel
theorem dX8_best_152 : decode cX8_best 152 = .ok (.iload 5, 2) := by decide +kernel
theorem dX8_best_154 : decode cX8_best 154 = .ok (.ireturn, 1) := by decide +kernel
theorem dX8_told_0 : decode cX8_told 0 = .ok (.iload_n 1, 1) := by decide +kernel
theorem dX8_told_1 : decode cX8_told 1 = .ok (.tableswitch 63 0 3 #[31, 39, 47, 55], 31) := by decide +kernel
theorem dX8_told_32 : decode cX8_told 32 = .ok (.aload_n 0, 1) := by decide +kernel
theorem dX8_told_33 : decode cX8_told 33 = .ok (.getfield 10, 3) := by decide +kernel
theorem dX8_told_36 : decode cX8_told 36 = .ok (.getfield 118, 3) := by decide +kernel
theorem dX8_told_39 : decode cX8_told 39 = .ok (.ireturn, 1) := by decide +kernel
theorem dX8_told_40 : decode cX8_told 40 = .ok (.aload_n 0, 1) := by decide +kernel
theorem dX8_told_41 : decode cX8_told 41 = .ok (.getfield 47, 3) := by decide +kernel
theorem dX8_told_44 : decode cX8_told 44 = .ok (.getfield 230, 3) := by decide +kernel
theorem dX8_told_47 : decode cX8_told 47 = .ok (.ireturn, 1) := by decide +kernel
theorem dX8_told_48 : decode cX8_told 48 = .ok (.aload_n 0, 1) := by decide +kernel
theorem dX8_told_49 : decode cX8_told 49 = .ok (.getfield 33, 3) := by decide +kernel
theorem dX8_told_52 : decode cX8_told 52 = .ok (.getfield 206, 3) := by decide +kernel
theorem dX8_told_55 : decode cX8_told 55 = .ok (.ireturn, 1) := by decide +kernel
theorem dX8_told_56 : decode cX8_told 56 = .ok (.aload_n 0, 1) := by decide +kernel
theorem dX8_told_57 : decode cX8_told 57 = .ok (.getfield 40, 3) := by decide +kernel
theorem dX8_told_60 : decode cX8_told 60 = .ok (.getfield 214, 3) := by decide +kernel
theorem dX8_told_63 : decode cX8_told 63 = .ok (.ireturn, 1) := by decide +kernel
theorem dX8_told_64 : decode cX8_told 64 = .ok (.iload_n 1, 1) := by decide +kernel
theorem dX8_told_65 : decode cX8_told 65 = .ok (.bipush 10, 2) := by decide +kernel
theorem dX8_told_67 : decode cX8_told 67 = .ok (.bipush 13, 2) := by decide +kernel
theorem dX8_told_69 : decode cX8_told 69 = .ok (.invokestatic 51, 3) := by decide +kernel
theorem dX8_told_72 : decode cX8_told 72 = .ok (.ifCond .eq 18, 3) := by decide +kernel
theorem dX8_told_75 : decode cX8_told 75 = .ok (.aload_n 0, 1) := by decide +kernel
theorem dX8_told_76 : decode cX8_told 76 = .ok (.getfield 10, 3) := by decide +kernel
theorem dX8_told_79 : decode cX8_told 79 = .ok (.getfield 83, 3) := by decide +kernel
theorem dX8_told_82 : decode cX8_told 82 = .ok (.iload_n 1, 1) := by decide +kernel
theorem dX8_told_83 : decode cX8_told 83 = .ok (.bipush 10, 2) := by decide +kernel
theorem dX8_told_85 : decode cX8_told 85 = .ok (.isub, 1) := by decide +kernel
theorem dX8_told_86 : decode cX8_told 86 = .ok (.iaload, 1) := by decide +kernel
theorem dX8_told_87 : decode cX8_told 87 = .ok (.goto 5, 3) := by decide +kernel
theorem dX8_told_90 : decode cX8_told 90 = .ok (.bipush (-2), 2) := by decide +kernel
theorem dX8_told_92 : decode cX8_told 92 = .ok (.ireturn, 1) := by decide +kernel
theorem dX8_within_0 : decode cX8_within 0 = .ok (.iload_n 1, 1) := by decide +kernel
theorem dX8_within_1 : decode cX8_within 1 = .ok (.iload_n 0, 1) := by decide +kernel
theorem dX8_within_2 : decode cX8_within 2 = .ok (.if_icmp .gt 12, 3) := by decide +kernel
theorem dX8_within_5 : decode cX8_within 5 = .ok (.iload_n 0, 1) := by decide +kernel
theorem dX8_within_6 : decode cX8_within 6 = .ok (.iload_n 2, 1) := by decide +kernel
theorem dX8_within_7 : decode cX8_within 7 = .ok (.if_icmp .gt 7, 3) := by decide +kernel
theorem dX8_within_10 : decode cX8_within 10 = .ok (.iconst 1, 1) := by decide +kernel
theorem dX8_within_11 : decode cX8_within 11 = .ok (.goto 4, 3) := by decide +kernel
theorem dX8_within_14 : decode cX8_within 14 = .ok (.iconst 0, 1) := by decide +kernel
theorem dX8_within_15 : decode cX8_within 15 = .ok (.ireturn, 1) := by decide +kernel
theorem dX8_isEither_0 : decode cX8_isEither 0 = .ok (.iload_n 0, 1) := by decide +kernel
theorem dX8_isEither_1 : decode cX8_isEither 1 = .ok (.ifCond .eq 8, 3) := by decide +kernel
theorem dX8_isEither_4 : decode cX8_isEither 4 = .ok (.iload_n 0, 1) := by decide +kernel
theorem dX8_isEither_5 : decode cX8_isEither 5 = .ok (.iconst 1, 1) := by decide +kernel
theorem dX8_isEither_6 : decode cX8_isEither 6 = .ok (.if_icmp .ne 7, 3) := by decide +kernel
theorem dX8_isEither_9 : decode cX8_isEither 9 = .ok (.iconst 1, 1) := by decide +kernel
theorem dX8_isEither_10 : decode cX8_isEither 10 = .ok (.goto 4, 3) := by decide +kernel
theorem dX8_isEither_13 : decode cX8_isEither 13 = .ok (.iconst 0, 1) := by decide +kernel
theorem dX8_isEither_14 : decode cX8_isEither 14 = .ok (.ireturn, 1) := by decide +kernel
theorem dX8_isRow_0 : decode cX8_isRow 0 = .ok (.iload_n 0, 1) := by decide +kernel
theorem dX8_isRow_1 : decode cX8_isRow 1 = .ok (.iconst 0, 1) := by decide +kernel
theorem dX8_isRow_2 : decode cX8_isRow 2 = .ok (.iconst 5, 1) := by decide +kernel
theorem dX8_isRow_3 : decode cX8_isRow 3 = .ok (.invokestatic 51, 3) := by decide +kernel
theorem dX8_isRow_6 : decode cX8_isRow 6 = .ok (.ireturn, 1) := by decide +kernel
theorem dX8_isJudge_0 : decode cX8_isJudge 0 = .ok (.iload_n 0, 1) := by decide +kernel
theorem dX8_isJudge_1 : decode cX8_isJudge 1 = .ok (.iconst 0, 1) := by decide +kernel
theorem dX8_isJudge_2 : decode cX8_isJudge 2 = .ok (.iconst 3, 1) := by decide +kernel
theorem dX8_isJudge_3 : decode cX8_isJudge 3 = .ok (.invokestatic 51, 3) := by decide +kernel
theorem dX8_isJudge_6 : decode cX8_isJudge 6 = .ok (.ireturn, 1) := by decide +kernel
theorem dX8_isFact_0 : decode cX8_isFact 0 = .ok (.iload_n 0, 1) := by decide +kernel
theorem dX8_isFact_1 : decode cX8_isFact 1 = .ok (.sipush (-9999), 3) := by decide +kernel
theorem dX8_isFact_4 : decode cX8_isFact 4 = .ok (.sipush 9999, 3) := by decide +kernel
theorem dX8_isFact_7 : decode cX8_isFact 7 = .ok (.invokestatic 51, 3) := by decide +kernel
theorem dX8_isFact_10 : decode cX8_isFact 10 = .ok (.ireturn, 1) := by decide +kernel
theorem dX8_orNone_0 : decode cX8_orNone 0 = .ok (.iload_n 0, 1) := by decide +kernel
theorem dX8_orNone_1 : decode cX8_orNone 1 = .ok (.ldc 249, 2) := by decide +kernel
theorem dX8_orNone_3 : decode cX8_orNone 3 = .ok (.if_icmp .lt 8, 3) := by decide +kernel
theorem dX8_orNone_6 : decode cX8_orNone 6 = .ok (.bipush (-6), 2) := by decide +kernel
theorem dX8_orNone_8 : decode cX8_orNone 8 = .ok (.goto 4, 3) := by decide +kernel
theorem dX8_orNone_11 : decode cX8_orNone 11 = .ok (.iload_n 0, 1) := by decide +kernel
theorem dX8_orNone_12 : decode cX8_orNone 12 = .ok (.ireturn, 1) := by decide +kernel
theorem dX8_torsoMark_0 : decode cX8_torsoMark 0 = .ok (.bipush 10, 2) := by decide +kernel
theorem dX8_torsoMark_2 : decode cX8_torsoMark 2 = .ok (.iload_n 0, 1) := by decide +kernel
theorem dX8_torsoMark_3 : decode cX8_torsoMark 3 = .ok (.imul, 1) := by decide +kernel
theorem dX8_torsoMark_4 : decode cX8_torsoMark 4 = .ok (.iconst 1, 1) := by decide +kernel
theorem dX8_torsoMark_5 : decode cX8_torsoMark 5 = .ok (.iadd, 1) := by decide +kernel
theorem dX8_torsoMark_6 : decode cX8_torsoMark 6 = .ok (.ireturn, 1) := by decide +kernel
theorem dX8_floorQuotient_0 : decode cX8_floorQuotient 0 = .ok (.iload_n 1, 1) := by decide +kernel
theorem dX8_floorQuotient_1 : decode cX8_floorQuotient 1 = .ok (.iconst 1, 1) := by decide +kernel
theorem dX8_floorQuotient_2 : decode cX8_floorQuotient 2 = .ok (.if_icmp .ge 7, 3) := by decide +kernel
theorem dX8_floorQuotient_5 : decode cX8_floorQuotient 5 = .ok (.iconst 0, 1) := by decide +kernel
theorem dX8_floorQuotient_6 : decode cX8_floorQuotient 6 = .ok (.goto 8, 3) := by decide +kernel
theorem dX8_floorQuotient_9 : decode cX8_floorQuotient 9 = .ok (.iload_n 0, 1) := by decide +kernel
theorem dX8_floorQuotient_10 : decode cX8_floorQuotient 10 = .ok (.iload_n 1, 1) := by decide +kernel
theorem dX8_floorQuotient_11 : decode cX8_floorQuotient 11 = .ok (.invokestatic 250, 3) := by decide +kernel
theorem dX8_floorQuotient_14 : decode cX8_floorQuotient 14 = .ok (.ireturn, 1) := by decide +kernel
theorem dX8_ceilQuotient_0 : decode cX8_ceilQuotient 0 = .ok (.iload_n 1, 1) := by decide +kernel
theorem dX8_ceilQuotient_1 : decode cX8_ceilQuotient 1 = .ok (.iconst 1, 1) := by decide +kernel
theorem dX8_ceilQuotient_2 : decode cX8_ceilQuotient 2 = .ok (.if_icmp .ge 7, 3) := by decide +kernel
theorem dX8_ceilQuotient_5 : decode cX8_ceilQuotient 5 = .ok (.iconst 0, 1) := by decide +kernel
theorem dX8_ceilQuotient_6 : decode cX8_ceilQuotient 6 = .ok (.goto 10, 3) := by decide +kernel
theorem dX8_ceilQuotient_9 : decode cX8_ceilQuotient 9 = .ok (.iload_n 0, 1) := by decide +kernel
theorem dX8_ceilQuotient_10 : decode cX8_ceilQuotient 10 = .ok (.ineg, 1) := by decide +kernel
theorem dX8_ceilQuotient_11 : decode cX8_ceilQuotient 11 = .ok (.iload_n 1, 1) := by decide +kernel
theorem dX8_ceilQuotient_12 : decode cX8_ceilQuotient 12 = .ok (.invokestatic 250, 3) := by decide +kernel
theorem dX8_ceilQuotient_15 : decode cX8_ceilQuotient 15 = .ok (.ineg, 1) := by decide +kernel
theorem dX8_ceilQuotient_16 : decode cX8_ceilQuotient 16 = .ok (.ireturn, 1) := by decide +kernel
theorem dX8_power_0 : decode cX8_power 0 = .ok (.lconst 1, 1) := by decide +kernel
theorem dX8_power_1 : decode cX8_power 1 = .ok (.lstore_n 3, 1) := by decide +kernel
theorem dX8_power_2 : decode cX8_power 2 = .ok (.iconst 0, 1) := by decide +kernel
theorem dX8_power_3 : decode cX8_power 3 = .ok (.istore 5, 2) := by decide +kernel
theorem dX8_power_5 : decode cX8_power 5 = .ok (.iload 5, 2) := by decide +kernel
theorem dX8_power_7 : decode cX8_power 7 = .ok (.iload_n 2, 1) := by decide +kernel
theorem dX8_power_8 : decode cX8_power 8 = .ok (.if_icmp .ge 13, 3) := by decide +kernel
theorem dX8_power_11 : decode cX8_power 11 = .ok (.lload_n 3, 1) := by decide +kernel
theorem dX8_power_12 : decode cX8_power 12 = .ok (.lload_n 0, 1) := by decide +kernel
theorem dX8_power_13 : decode cX8_power 13 = .ok (.lmul, 1) := by decide +kernel
theorem dX8_power_14 : decode cX8_power 14 = .ok (.lstore_n 3, 1) := by decide +kernel
theorem dX8_power_15 : decode cX8_power 15 = .ok (.iinc 5 1, 3) := by decide +kernel
theorem dX8_power_18 : decode cX8_power 18 = .ok (.goto (-13), 3) := by decide +kernel
theorem dX8_power_21 : decode cX8_power 21 = .ok (.lload_n 3, 1) := by decide +kernel
theorem dX8_power_22 : decode cX8_power 22 = .ok (.lreturn, 1) := by decide +kernel
theorem dX8_commonDivisor_0 : decode cX8_commonDivisor 0 = .ok (.lload_n 0, 1) := by decide +kernel
theorem dX8_commonDivisor_1 : decode cX8_commonDivisor 1 = .ok (.lstore 4, 2) := by decide +kernel
theorem dX8_commonDivisor_3 : decode cX8_commonDivisor 3 = .ok (.lload_n 2, 1) := by decide +kernel
theorem dX8_commonDivisor_4 : decode cX8_commonDivisor 4 = .ok (.lstore 6, 2) := by decide +kernel
theorem dX8_commonDivisor_6 : decode cX8_commonDivisor 6 = .ok (.iconst 0, 1) := by decide +kernel
theorem dX8_commonDivisor_7 : decode cX8_commonDivisor 7 = .ok (.istore 8, 2) := by decide +kernel
theorem dX8_commonDivisor_9 : decode cX8_commonDivisor 9 = .ok (.iload 8, 2) := by decide +kernel
theorem dX8_commonDivisor_11 : decode cX8_commonDivisor 11 = .ok (.bipush 100, 2) := by decide +kernel
theorem dX8_commonDivisor_13 : decode cX8_commonDivisor 13 = .ok (.if_icmp .ge 31, 3) := by decide +kernel
theorem dX8_commonDivisor_16 : decode cX8_commonDivisor 16 = .ok (.lload 6, 2) := by decide +kernel
theorem dX8_commonDivisor_18 : decode cX8_commonDivisor 18 = .ok (.lconst 0, 1) := by decide +kernel
theorem dX8_commonDivisor_19 : decode cX8_commonDivisor 19 = .ok (.lcmp, 1) := by decide +kernel
theorem dX8_commonDivisor_20 : decode cX8_commonDivisor 20 = .ok (.ifCond .le 24, 3) := by decide +kernel
theorem dX8_commonDivisor_23 : decode cX8_commonDivisor 23 = .ok (.lload 4, 2) := by decide +kernel
theorem dX8_commonDivisor_25 : decode cX8_commonDivisor 25 = .ok (.lload 6, 2) := by decide +kernel
theorem dX8_commonDivisor_27 : decode cX8_commonDivisor 27 = .ok (.lrem, 1) := by decide +kernel
theorem dX8_commonDivisor_28 : decode cX8_commonDivisor 28 = .ok (.lstore 9, 2) := by decide +kernel
theorem dX8_commonDivisor_30 : decode cX8_commonDivisor 30 = .ok (.lload 6, 2) := by decide +kernel
theorem dX8_commonDivisor_32 : decode cX8_commonDivisor 32 = .ok (.lstore 4, 2) := by decide +kernel
theorem dX8_commonDivisor_34 : decode cX8_commonDivisor 34 = .ok (.lload 9, 2) := by decide +kernel
theorem dX8_commonDivisor_36 : decode cX8_commonDivisor 36 = .ok (.lstore 6, 2) := by decide +kernel
theorem dX8_commonDivisor_38 : decode cX8_commonDivisor 38 = .ok (.iinc 8 1, 3) := by decide +kernel
theorem dX8_commonDivisor_41 : decode cX8_commonDivisor 41 = .ok (.goto (-32), 3) := by decide +kernel
theorem dX8_commonDivisor_44 : decode cX8_commonDivisor 44 = .ok (.lload 4, 2) := by decide +kernel
theorem dX8_commonDivisor_46 : decode cX8_commonDivisor 46 = .ok (.lreturn, 1) := by decide +kernel
theorem dX8_canStretch_0 : decode cX8_canStretch 0 = .ok (.iload_n 1, 1) := by decide +kernel
theorem dX8_canStretch_1 : decode cX8_canStretch 1 = .ok (.iload_n 0, 1) := by decide +kernel
theorem dX8_canStretch_2 : decode cX8_canStretch 2 = .ok (.iload_n 2, 1) := by decide +kernel
theorem dX8_canStretch_3 : decode cX8_canStretch 3 = .ok (.invokestatic 253, 3) := by decide +kernel
theorem dX8_canStretch_6 : decode cX8_canStretch 6 = .ok (.iload_n 0, 1) := by decide +kernel
theorem dX8_canStretch_7 : decode cX8_canStretch 7 = .ok (.iload_n 2, 1) := by decide +kernel
theorem dX8_canStretch_8 : decode cX8_canStretch 8 = .ok (.invokestatic 256, 3) := by decide +kernel
theorem dX8_canStretch_11 : decode cX8_canStretch 11 = .ok (.invokestatic 51, 3) := by decide +kernel
theorem dX8_canStretch_14 : decode cX8_canStretch 14 = .ok (.ireturn, 1) := by decide +kernel
theorem dX8_chosen_0 : decode cX8_chosen 0 = .ok (.iload_n 0, 1) := by decide +kernel
theorem dX8_chosen_1 : decode cX8_chosen 1 = .ok (.lookupswitch 41 #[(104, 39), (116, 35), (119, 37)], 35) := by decide +kernel
theorem dX8_chosen_36 : decode cX8_chosen 36 = .ok (.iload_n 1, 1) := by decide +kernel
theorem dX8_chosen_37 : decode cX8_chosen 37 = .ok (.ireturn, 1) := by decide +kernel
theorem dX8_chosen_38 : decode cX8_chosen 38 = .ok (.iload_n 2, 1) := by decide +kernel
theorem dX8_chosen_39 : decode cX8_chosen 39 = .ok (.ireturn, 1) := by decide +kernel
theorem dX8_chosen_40 : decode cX8_chosen 40 = .ok (.iload_n 3, 1) := by decide +kernel
theorem dX8_chosen_41 : decode cX8_chosen 41 = .ok (.ireturn, 1) := by decide +kernel
theorem dX8_chosen_42 : decode cX8_chosen 42 = .ok (.iload 4, 2) := by decide +kernel
theorem dX8_chosen_44 : decode cX8_chosen 44 = .ok (.ireturn, 1) := by decide +kernel
theorem dX8_pairsOf_0 : decode cX8_pairsOf 0 = .ok (.iload_n 0, 1) := by decide +kernel
theorem dX8_pairsOf_1 : decode cX8_pairsOf 1 = .ok (.iload_n 0, 1) := by decide +kernel
theorem dX8_pairsOf_2 : decode cX8_pairsOf 2 = .ok (.iconst 1, 1) := by decide +kernel
theorem dX8_pairsOf_3 : decode cX8_pairsOf 3 = .ok (.isub, 1) := by decide +kernel
theorem dX8_pairsOf_4 : decode cX8_pairsOf 4 = .ok (.imul, 1) := by decide +kernel
theorem dX8_pairsOf_5 : decode cX8_pairsOf 5 = .ok (.iconst 2, 1) := by decide +kernel
theorem dX8_pairsOf_6 : decode cX8_pairsOf 6 = .ok (.idiv, 1) := by decide +kernel
theorem dX8_pairsOf_7 : decode cX8_pairsOf 7 = .ok (.ireturn, 1) := by decide +kernel
theorem dX8_untold_0 : decode cX8_untold 0 = .ok (.iload_n 0, 1) := by decide +kernel
theorem dX8_untold_1 : decode cX8_untold 1 = .ok (.invokestatic 259, 3) := by decide +kernel
theorem dX8_untold_4 : decode cX8_untold 4 = .ok (.iload_n 1, 1) := by decide +kernel
theorem dX8_untold_5 : decode cX8_untold 5 = .ok (.invokestatic 244, 3) := by decide +kernel
theorem dX8_untold_8 : decode cX8_untold 8 = .ok (.invokestatic 259, 3) := by decide +kernel
theorem dX8_untold_11 : decode cX8_untold 11 = .ok (.isub, 1) := by decide +kernel
theorem dX8_untold_12 : decode cX8_untold 12 = .ok (.ireturn, 1) := by decide +kernel
theorem dX8_rank_0 : decode cX8_rank 0 = .ok (.aload_n 0, 1) := by decide +kernel
theorem dX8_rank_1 : decode cX8_rank 1 = .ok (.getfield 19, 3) := by decide +kernel
theorem dX8_rank_4 : decode cX8_rank 4 = .ok (.iconst 0, 1) := by decide +kernel
theorem dX8_rank_5 : decode cX8_rank 5 = .ok (.putfield 130, 3) := by decide +kernel
theorem dX8_rank_8 : decode cX8_rank 8 = .ok (.iconst 0, 1) := by decide +kernel
theorem dX8_rank_9 : decode cX8_rank 9 = .ok (.istore_n 2, 1) := by decide +kernel
theorem dX8_rank_10 : decode cX8_rank 10 = .ok (.iload_n 2, 1) := by decide +kernel
theorem dX8_rank_11 : decode cX8_rank 11 = .ok (.aload_n 0, 1) := by decide +kernel
theorem dX8_rank_12 : decode cX8_rank 12 = .ok (.getfield 10, 3) := by decide +kernel
theorem dX8_rank_15 : decode cX8_rank 15 = .ok (.getfield 118, 3) := by decide +kernel
theorem dX8_rank_18 : decode cX8_rank 18 = .ok (.if_icmp .ge 50, 3) := by decide +kernel
theorem dX8_rank_21 : decode cX8_rank 21 = .ok (.aload_n 0, 1) := by decide +kernel
theorem dX8_rank_22 : decode cX8_rank 22 = .ok (.getfield 10, 3) := by decide +kernel
theorem dX8_rank_25 : decode cX8_rank 25 = .ok (.iload_n 2, 1) := by decide +kernel
theorem dX8_rank_26 : decode cX8_rank 26 = .ok (.invokevirtual 100, 3) := by decide +kernel
theorem dX8_rank_29 : decode cX8_rank 29 = .ok (.istore_n 3, 1) := by decide +kernel
theorem dX8_rank_30 : decode cX8_rank 30 = .ok (.iload_n 3, 1) := by decide +kernel
theorem dX8_rank_31 : decode cX8_rank 31 = .ok (.ldc 249, 2) := by decide +kernel
theorem dX8_rank_33 : decode cX8_rank 33 = .ok (.if_icmp .ge 29, 3) := by decide +kernel
theorem dX8_rank_36 : decode cX8_rank 36 = .ok (.aload_n 0, 1) := by decide +kernel
theorem dX8_rank_37 : decode cX8_rank 37 = .ok (.getfield 19, 3) := by decide +kernel
theorem dX8_rank_40 : decode cX8_rank 40 = .ok (.iload_n 2, 1) := by decide +kernel
theorem dX8_rank_41 : decode cX8_rank 41 = .ok (.iload_n 1, 1) := by decide +kernel
theorem dX8_rank_42 : decode cX8_rank 42 = .ok (.ifCond .eq 16, 3) := by decide +kernel
theorem dX8_rank_45 : decode cX8_rank 45 = .ok (.iload_n 3, 1) := by decide +kernel
theorem dX8_rank_46 : decode cX8_rank 46 = .ok (.aload_n 0, 1) := by decide +kernel
theorem dX8_rank_47 : decode cX8_rank 47 = .ok (.getfield 10, 3) := by decide +kernel
theorem dX8_rank_50 : decode cX8_rank 50 = .ok (.iload_n 2, 1) := by decide +kernel
theorem dX8_rank_51 : decode cX8_rank 51 = .ok (.invokevirtual 112, 3) := by decide +kernel
theorem dX8_rank_54 : decode cX8_rank 54 = .ok (.isub, 1) := by decide +kernel
theorem dX8_rank_55 : decode cX8_rank 55 = .ok (.goto 4, 3) := by decide +kernel
theorem dX8_rank_58 : decode cX8_rank 58 = .ok (.iload_n 3, 1) := by decide +kernel
theorem dX8_rank_59 : decode cX8_rank 59 = .ok (.invokevirtual 262, 3) := by decide +kernel
theorem dX8_rank_62 : decode cX8_rank 62 = .ok (.iinc 2 1, 3) := by decide +kernel
theorem dX8_rank_65 : decode cX8_rank 65 = .ok (.goto (-55), 3) := by decide +kernel
theorem dX8_rank_68 : decode cX8_rank 68 = .ok (.return_, 1) := by decide +kernel
end
section
theorem dX9_init_0 : decode cX9_init 0 = .ok (.aload_n 0, 1) := by decide +kernel
theorem dX9_init_1 : decode cX9_init 1 = .ok (.invokespecial 1, 3) := by decide +kernel
theorem dX9_init_4 : decode cX9_init 4 = .ok (.aload_n 0, 1) := by decide +kernel
theorem dX9_init_5 : decode cX9_init 5 = .ok (.bipush 6, 2) := by decide +kernel
theorem dX9_init_7 : decode cX9_init 7 = .ok (.newarray .int, 2) := by decide +kernel
theorem dX9_init_9 : decode cX9_init 9 = .ok (.putfield 7, 3) := by decide +kernel
theorem dX9_init_12 : decode cX9_init 12 = .ok (.aload_n 0, 1) := by decide +kernel
theorem dX9_init_13 : decode cX9_init 13 = .ok (.bipush 6, 2) := by decide +kernel
theorem dX9_init_15 : decode cX9_init 15 = .ok (.newarray .int, 2) := by decide +kernel
theorem dX9_init_17 : decode cX9_init 17 = .ok (.putfield 13, 3) := by decide +kernel
theorem dX9_init_20 : decode cX9_init 20 = .ok (.aload_n 0, 1) := by decide +kernel
theorem dX9_init_21 : decode cX9_init 21 = .ok (.bipush 72, 2) := by decide +kernel
theorem dX9_init_23 : decode cX9_init 23 = .ok (.newarray .boolean, 2) := by decide +kernel
theorem dX9_init_25 : decode cX9_init 25 = .ok (.putfield 16, 3) := by decide +kernel
theorem dX9_init_28 : decode cX9_init 28 = .ok (.aload_n 0, 1) := by decide +kernel
theorem dX9_init_29 : decode cX9_init 29 = .ok (.bipush 72, 2) := by decide +kernel
theorem dX9_init_31 : decode cX9_init 31 = .ok (.newarray .int, 2) := by decide +kernel
theorem dX9_init_33 : decode cX9_init 33 = .ok (.putfield 20, 3) := by decide +kernel
theorem dX9_init_36 : decode cX9_init 36 = .ok (.aload_n 0, 1) := by decide +kernel
theorem dX9_init_37 : decode cX9_init 37 = .ok (.bipush 72, 2) := by decide +kernel
theorem dX9_init_39 : decode cX9_init 39 = .ok (.newarray .int, 2) := by decide +kernel
theorem dX9_init_41 : decode cX9_init 41 = .ok (.putfield 23, 3) := by decide +kernel
theorem dX9_init_44 : decode cX9_init 44 = .ok (.aload_n 0, 1) := by decide +kernel
theorem dX9_init_45 : decode cX9_init 45 = .ok (.bipush 6, 2) := by decide +kernel
theorem dX9_init_47 : decode cX9_init 47 = .ok (.newarray .int, 2) := by decide +kernel
theorem dX9_init_49 : decode cX9_init 49 = .ok (.putfield 26, 3) := by decide +kernel
theorem dX9_init_52 : decode cX9_init 52 = .ok (.aload_n 0, 1) := by decide +kernel
theorem dX9_init_53 : decode cX9_init 53 = .ok (.bipush 72, 2) := by decide +kernel
theorem dX9_init_55 : decode cX9_init 55 = .ok (.newarray .int, 2) := by decide +kernel
theorem dX9_init_57 : decode cX9_init 57 = .ok (.putfield 29, 3) := by decide +kernel
theorem dX9_init_60 : decode cX9_init 60 = .ok (.aload_n 0, 1) := by decide +kernel
theorem dX9_init_61 : decode cX9_init 61 = .ok (.bipush 6, 2) := by decide +kernel
theorem dX9_init_63 : decode cX9_init 63 = .ok (.newarray .int, 2) := by decide +kernel
theorem dX9_init_65 : decode cX9_init 65 = .ok (.putfield 32, 3) := by decide +kernel
theorem dX9_init_68 : decode cX9_init 68 = .ok (.aload_n 0, 1) := by decide +kernel
theorem dX9_init_69 : decode cX9_init 69 = .ok (.iconst 4, 1) := by decide +kernel
theorem dX9_init_70 : decode cX9_init 70 = .ok (.newarray .int, 2) := by decide +kernel
theorem dX9_init_72 : decode cX9_init 72 = .ok (.putfield 35, 3) := by decide +kernel
theorem dX9_init_75 : decode cX9_init 75 = .ok (.aload_n 0, 1) := by decide +kernel
theorem dX9_init_76 : decode cX9_init 76 = .ok (.iconst 4, 1) := by decide +kernel
theorem dX9_init_77 : decode cX9_init 77 = .ok (.newarray .int, 2) := by decide +kernel
theorem dX9_init_79 : decode cX9_init 79 = .ok (.putfield 38, 3) := by decide +kernel
theorem dX9_init_82 : decode cX9_init 82 = .ok (.aload_n 0, 1) := by decide +kernel
theorem dX9_init_83 : decode cX9_init 83 = .ok (.iconst 4, 1) := by decide +kernel
theorem dX9_init_84 : decode cX9_init 84 = .ok (.newarray .int, 2) := by decide +kernel
theorem dX9_init_86 : decode cX9_init 86 = .ok (.putfield 41, 3) := by decide +kernel
theorem dX9_init_89 : decode cX9_init 89 = .ok (.aload_n 0, 1) := by decide +kernel
theorem dX9_init_90 : decode cX9_init 90 = .ok (.bipush 30, 2) := by decide +kernel
theorem dX9_init_92 : decode cX9_init 92 = .ok (.newarray .int, 2) := by decide +kernel
theorem dX9_init_94 : decode cX9_init 94 = .ok (.putfield 44, 3) := by decide +kernel
theorem dX9_init_97 : decode cX9_init 97 = .ok (.aload_n 0, 1) := by decide +kernel
theorem dX9_init_98 : decode cX9_init 98 = .ok (.bipush 10, 2) := by decide +kernel
theorem dX9_init_100 : decode cX9_init 100 = .ok (.newarray .int, 2) := by decide +kernel
theorem dX9_init_102 : decode cX9_init 102 = .ok (.putfield 47, 3) := by decide +kernel
theorem dX9_init_105 : decode cX9_init 105 = .ok (.aload_n 0, 1) := by decide +kernel
theorem dX9_init_106 : decode cX9_init 106 = .ok (.bipush 10, 2) := by decide +kernel
theorem dX9_init_108 : decode cX9_init 108 = .ok (.newarray .int, 2) := by decide +kernel
theorem dX9_init_110 : decode cX9_init 110 = .ok (.putfield 50, 3) := by decide +kernel
theorem dX9_init_113 : decode cX9_init 113 = .ok (.aload_n 0, 1) := by decide +kernel
theorem dX9_init_114 : decode cX9_init 114 = .ok (.bipush 10, 2) := by decide +kernel
theorem dX9_init_116 : decode cX9_init 116 = .ok (.newarray .int, 2) := by decide +kernel
theorem dX9_init_118 : decode cX9_init 118 = .ok (.putfield 53, 3) := by decide +kernel
theorem dX9_init_121 : decode cX9_init 121 = .ok (.aload_n 0, 1) := by decide +kernel
theorem dX9_init_122 : decode cX9_init 122 = .ok (.bipush 8, 2) := by decide +kernel
theorem dX9_init_124 : decode cX9_init 124 = .ok (.newarray .int, 2) := by decide +kernel
theorem dX9_init_126 : decode cX9_init 126 = .ok (.putfield 56, 3) := by decide +kernel
theorem dX9_init_129 : decode cX9_init 129 = .ok (.aload_n 0, 1) := by decide +kernel
theorem dX9_init_130 : decode cX9_init 130 = .ok (.bipush 8, 2) := by decide +kernel
theorem dX9_init_132 : decode cX9_init 132 = .ok (.newarray .int, 2) := by decide +kernel
theorem dX9_init_134 : decode cX9_init 134 = .ok (.putfield 59, 3) := by decide +kernel
theorem dX9_init_137 : decode cX9_init 137 = .ok (.aload_n 0, 1) := by decide +kernel
theorem dX9_init_138 : decode cX9_init 138 = .ok (.bipush 100, 2) := by decide +kernel
theorem dX9_init_140 : decode cX9_init 140 = .ok (.putfield 62, 3) := by decide +kernel
theorem dX9_init_143 : decode cX9_init 143 = .ok (.iconst 0, 1) := by decide +kernel
theorem dX9_init_144 : decode cX9_init 144 = .ok (.istore_n 1, 1) := by decide +kernel
theorem dX9_init_145 : decode cX9_init 145 = .ok (.iload_n 1, 1) := by decide +kernel
theorem dX9_init_146 : decode cX9_init 146 = .ok (.iconst 4, 1) := by decide +kernel
theorem dX9_init_147 : decode cX9_init 147 = .ok (.if_icmp .ge 25, 3) := by decide +kernel
theorem dX9_init_150 : decode cX9_init 150 = .ok (.aload_n 0, 1) := by decide +kernel
theorem dX9_init_151 : decode cX9_init 151 = .ok (.getfield 38, 3) := by decide +kernel
theorem dX9_init_154 : decode cX9_init 154 = .ok (.iload_n 1, 1) := by decide +kernel
theorem dX9_init_155 : decode cX9_init 155 = .ok (.bipush 50, 2) := by decide +kernel
theorem dX9_init_157 : decode cX9_init 157 = .ok (.iastore, 1) := by decide +kernel
theorem dX9_init_158 : decode cX9_init 158 = .ok (.aload_n 0, 1) := by decide +kernel
theorem dX9_init_159 : decode cX9_init 159 = .ok (.getfield 41, 3) := by decide +kernel
theorem dX9_init_162 : decode cX9_init 162 = .ok (.iload_n 1, 1) := by decide +kernel
theorem dX9_init_163 : decode cX9_init 163 = .ok (.bipush (-6), 2) := by decide +kernel
theorem dX9_init_165 : decode cX9_init 165 = .ok (.iastore, 1) := by decide +kernel
theorem dX9_init_166 : decode cX9_init 166 = .ok (.iinc 1 1, 3) := by decide +kernel
theorem dX9_init_169 : decode cX9_init 169 = .ok (.goto (-24), 3) := by decide +kernel
theorem dX9_init_172 : decode cX9_init 172 = .ok (.return_, 1) := by decide +kernel
theorem dX9_in_0 : decode cX9_in 0 = .ok (.lload_n 0, 1) := by decide +kernel
theorem dX9_in_1 : decode cX9_in 1 = .ok (.lload_n 2, 1) := by decide +kernel
theorem dX9_in_2 : decode cX9_in 2 = .ok (.lcmp, 1) := by decide +kernel
theorem dX9_in_3 : decode cX9_in 3 = .ok (.ifCond .lt 14, 3) := by decide +kernel
theorem dX9_in_6 : decode cX9_in 6 = .ok (.lload_n 0, 1) := by decide +kernel
theorem dX9_in_7 : decode cX9_in 7 = .ok (.lload 4, 2) := by decide +kernel
theorem dX9_in_9 : decode cX9_in 9 = .ok (.lcmp, 1) := by decide +kernel
theorem dX9_in_10 : decode cX9_in 10 = .ok (.ifCond .gt 7, 3) := by decide +kernel
theorem dX9_in_13 : decode cX9_in 13 = .ok (.iconst 1, 1) := by decide +kernel
theorem dX9_in_14 : decode cX9_in 14 = .ok (.goto 4, 3) := by decide +kernel
theorem dX9_in_17 : decode cX9_in 17 = .ok (.iconst 0, 1) := by decide +kernel
theorem dX9_in_18 : decode cX9_in 18 = .ok (.ireturn, 1) := by decide +kernel
theorem dX9_ones_0 : decode cX9_ones 0 = .ok (.iconst 0, 1) := by decide +kernel
theorem dX9_ones_1 : decode cX9_ones 1 = .ok (.istore_n 1, 1) := by decide +kernel
theorem dX9_ones_2 : decode cX9_ones 2 = .ok (.iconst 0, 1) := by decide +kernel
theorem dX9_ones_3 : decode cX9_ones 3 = .ok (.istore_n 2, 1) := by decide +kernel
theorem dX9_ones_4 : decode cX9_ones 4 = .ok (.iload_n 2, 1) := by decide +kernel
theorem dX9_ones_5 : decode cX9_ones 5 = .ok (.bipush 8, 2) := by decide +kernel
theorem dX9_ones_7 : decode cX9_ones 7 = .ok (.if_icmp .ge 17, 3) := by decide +kernel
theorem dX9_ones_10 : decode cX9_ones 10 = .ok (.iload_n 1, 1) := by decide +kernel
theorem dX9_ones_11 : decode cX9_ones 11 = .ok (.iload_n 0, 1) := by decide +kernel
theorem dX9_ones_12 : decode cX9_ones 12 = .ok (.iload_n 2, 1) := by decide +kernel
theorem dX9_ones_13 : decode cX9_ones 13 = .ok (.ishr, 1) := by decide +kernel
theorem dX9_ones_14 : decode cX9_ones 14 = .ok (.iconst 1, 1) := by decide +kernel
theorem dX9_ones_15 : decode cX9_ones 15 = .ok (.iand, 1) := by decide +kernel
theorem dX9_ones_16 : decode cX9_ones 16 = .ok (.iadd, 1) := by decide +kernel
theorem dX9_ones_17 : decode cX9_ones 17 = .ok (.istore_n 1, 1) := by decide +kernel
theorem dX9_ones_18 : decode cX9_ones 18 = .ok (.iinc 2 1, 3) := by decide +kernel
theorem dX9_ones_21 : decode cX9_ones 21 = .ok (.goto (-17), 3) := by decide +kernel
theorem dX9_ones_24 : decode cX9_ones 24 = .ok (.iload_n 1, 1) := by decide +kernel
theorem dX9_ones_25 : decode cX9_ones 25 = .ok (.ireturn, 1) := by decide +kernel
theorem dX9_isRunner_0 : decode cX9_isRunner 0 = .ok (.iload_n 1, 1) := by decide +kernel
theorem dX9_isRunner_1 : decode cX9_isRunner 1 = .ok (.i2l, 1) := by decide +kernel
theorem dX9_isRunner_2 : decode cX9_isRunner 2 = .ok (.lconst 0, 1) := by decide +kernel
theorem dX9_isRunner_3 : decode cX9_isRunner 3 = .ok (.aload_n 0, 1) := by decide +kernel
theorem dX9_isRunner_4 : decode cX9_isRunner 4 = .ok (.getfield 66, 3) := by decide +kernel
theorem dX9_isRunner_7 : decode cX9_isRunner 7 = .ok (.iconst 1, 1) := by decide +kernel
theorem dX9_isRunner_8 : decode cX9_isRunner 8 = .ok (.isub, 1) := by decide +kernel
theorem dX9_isRunner_9 : decode cX9_isRunner 9 = .ok (.i2l, 1) := by decide +kernel
theorem dX9_isRunner_10 : decode cX9_isRunner 10 = .ok (.invokestatic 69, 3) := by decide +kernel
theorem dX9_isRunner_13 : decode cX9_isRunner 13 = .ok (.ireturn, 1) := by decide +kernel
theorem dX9_isRow_0 : decode cX9_isRow 0 = .ok (.iload_n 0, 1) := by decide +kernel
theorem dX9_isRow_1 : decode cX9_isRow 1 = .ok (.i2l, 1) := by decide +kernel
theorem dX9_isRow_2 : decode cX9_isRow 2 = .ok (.lconst 0, 1) := by decide +kernel
theorem dX9_isRow_3 : decode cX9_isRow 3 = .ok (.ldc2_w 73, 3) := by decide +kernel
theorem dX9_isRow_6 : decode cX9_isRow 6 = .ok (.invokestatic 69, 3) := by decide +kernel
theorem dX9_isRow_9 : decode cX9_isRow 9 = .ok (.ireturn, 1) := by decide +kernel
theorem dX9_shapeAt_0 : decode cX9_shapeAt 0 = .ok (.iconst 2, 1) := by decide +kernel
theorem dX9_shapeAt_1 : decode cX9_shapeAt 1 = .ok (.bipush 6, 2) := by decide +kernel
theorem dX9_shapeAt_3 : decode cX9_shapeAt 3 = .ok (.iload_n 0, 1) := by decide +kernel
theorem dX9_shapeAt_4 : decode cX9_shapeAt 4 = .ok (.imul, 1) := by decide +kernel
theorem dX9_shapeAt_5 : decode cX9_shapeAt 5 = .ok (.iload_n 1, 1) := by decide +kernel
theorem dX9_shapeAt_6 : decode cX9_shapeAt 6 = .ok (.iadd, 1) := by decide +kernel
theorem dX9_shapeAt_7 : decode cX9_shapeAt 7 = .ok (.imul, 1) := by decide +kernel
theorem dX9_shapeAt_8 : decode cX9_shapeAt 8 = .ok (.iload_n 2, 1) := by decide +kernel
theorem dX9_shapeAt_9 : decode cX9_shapeAt 9 = .ok (.iadd, 1) := by decide +kernel
theorem dX9_shapeAt_10 : decode cX9_shapeAt 10 = .ok (.ireturn, 1) := by decide +kernel
theorem dX9_runner_0 : decode cX9_runner 0 = .ok (.iload_n 1, 1) := by decide +kernel
theorem dX9_runner_1 : decode cX9_runner 1 = .ok (.i2l, 1) := by decide +kernel
theorem dX9_runner_2 : decode cX9_runner 2 = .ok (.ldc2_w 75, 3) := by decide +kernel
theorem dX9_runner_5 : decode cX9_runner 5 = .ok (.lconst 0, 1) := by decide +kernel
theorem dX9_runner_6 : decode cX9_runner 6 = .ok (.invokestatic 69, 3) := by decide +kernel
theorem dX9_runner_9 : decode cX9_runner 9 = .ok (.ifCond .eq 15, 3) := by decide +kernel
theorem dX9_runner_12 : decode cX9_runner 12 = .ok (.iload_n 2, 1) := by decide +kernel
theorem dX9_runner_13 : decode cX9_runner 13 = .ok (.i2l, 1) := by decide +kernel
theorem dX9_runner_14 : decode cX9_runner 14 = .ok (.lconst 1, 1) := by decide +kernel
theorem dX9_runner_15 : decode cX9_runner 15 = .ok (.ldc2_w 77, 3) := by decide +kernel
theorem dX9_runner_18 : decode cX9_runner 18 = .ok (.invokestatic 69, 3) := by decide +kernel
theorem dX9_runner_21 : decode cX9_runner 21 = .ok (.ifCond .ne 6, 3) := by decide +kernel
theorem dX9_runner_24 : decode cX9_runner 24 = .ok (.bipush (-2), 2) := by decide +kernel
theorem dX9_runner_26 : decode cX9_runner 26 = .ok (.ireturn, 1) := by decide +kernel
theorem dX9_runner_27 : decode cX9_runner 27 = .ok (.aload_n 0, 1) := by decide +kernel
theorem dX9_runner_28 : decode cX9_runner 28 = .ok (.getfield 66, 3) := by decide +kernel
theorem dX9_runner_31 : decode cX9_runner 31 = .ok (.bipush 6, 2) := by decide +kernel
theorem dX9_runner_33 : decode cX9_runner 33 = .ok (.if_icmp .ne 6, 3) := by decide +kernel
theorem dX9_runner_36 : decode cX9_runner 36 = .ok (.bipush (-4), 2) := by decide +kernel
theorem dX9_runner_38 : decode cX9_runner 38 = .ok (.ireturn, 1) := by decide +kernel
theorem dX9_runner_39 : decode cX9_runner 39 = .ok (.aload_n 0, 1) := by decide +kernel
theorem dX9_runner_40 : decode cX9_runner 40 = .ok (.getfield 7, 3) := by decide +kernel
theorem dX9_runner_43 : decode cX9_runner 43 = .ok (.aload_n 0, 1) := by decide +kernel
theorem dX9_runner_44 : decode cX9_runner 44 = .ok (.getfield 66, 3) := by decide +kernel
theorem dX9_runner_47 : decode cX9_runner 47 = .ok (.iload_n 1, 1) := by decide +kernel
theorem dX9_runner_48 : decode cX9_runner 48 = .ok (.iastore, 1) := by decide +kernel
theorem dX9_runner_49 : decode cX9_runner 49 = .ok (.aload_n 0, 1) := by decide +kernel
theorem dX9_runner_50 : decode cX9_runner 50 = .ok (.getfield 13, 3) := by decide +kernel
theorem dX9_runner_53 : decode cX9_runner 53 = .ok (.aload_n 0, 1) := by decide +kernel
theorem dX9_runner_54 : decode cX9_runner 54 = .ok (.getfield 66, 3) := by decide +kernel
theorem dX9_runner_57 : decode cX9_runner 57 = .ok (.iload_n 2, 1) := by decide +kernel
theorem dX9_runner_58 : decode cX9_runner 58 = .ok (.iastore, 1) := by decide +kernel
theorem dX9_runner_59 : decode cX9_runner 59 = .ok (.aload_n 0, 1) := by decide +kernel
theorem dX9_runner_60 : decode cX9_runner 60 = .ok (.getfield 26, 3) := by decide +kernel
theorem dX9_runner_63 : decode cX9_runner 63 = .ok (.aload_n 0, 1) := by decide +kernel
theorem dX9_runner_64 : decode cX9_runner 64 = .ok (.getfield 66, 3) := by decide +kernel
theorem dX9_runner_67 : decode cX9_runner 67 = .ok (.bipush (-6), 2) := by decide +kernel
theorem dX9_runner_69 : decode cX9_runner 69 = .ok (.iastore, 1) := by decide +kernel
theorem dX9_runner_70 : decode cX9_runner 70 = .ok (.aload_n 0, 1) := by decide +kernel
theorem dX9_runner_71 : decode cX9_runner 71 = .ok (.dup, 1) := by decide +kernel
theorem dX9_runner_72 : decode cX9_runner 72 = .ok (.getfield 66, 3) := by decide +kernel
theorem dX9_runner_75 : decode cX9_runner 75 = .ok (.iconst 1, 1) := by decide +kernel
theorem dX9_runner_76 : decode cX9_runner 76 = .ok (.iadd, 1) := by decide +kernel
theorem dX9_runner_77 : decode cX9_runner 77 = .ok (.putfield 66, 3) := by decide +kernel
theorem dX9_runner_80 : decode cX9_runner 80 = .ok (.aload_n 0, 1) := by decide +kernel
theorem dX9_runner_81 : decode cX9_runner 81 = .ok (.getfield 66, 3) := by decide +kernel
theorem dX9_runner_84 : decode cX9_runner 84 = .ok (.iconst 1, 1) := by decide +kernel
theorem dX9_runner_85 : decode cX9_runner 85 = .ok (.isub, 1) := by decide +kernel
theorem dX9_runner_86 : decode cX9_runner 86 = .ok (.ireturn, 1) := by decide +kernel
theorem dX9_shape_0 : decode cX9_shape 0 = .ok (.aload_n 0, 1) := by decide +kernel
theorem dX9_shape_1 : decode cX9_shape 1 = .ok (.iload_n 1, 1) := by decide +kernel
theorem dX9_shape_2 : decode cX9_shape 2 = .ok (.invokevirtual 79, 3) := by decide +kernel
theorem dX9_shape_5 : decode cX9_shape 5 = .ok (.ifCond .eq 10, 3) := by decide +kernel
theorem dX9_shape_8 : decode cX9_shape 8 = .ok (.iload_n 2, 1) := by decide +kernel
theorem dX9_shape_9 : decode cX9_shape 9 = .ok (.invokestatic 83, 3) := by decide +kernel
theorem dX9_shape_12 : decode cX9_shape 12 = .ok (.ifCond .ne 5, 3) := by decide +kernel
theorem dX9_shape_15 : decode cX9_shape 15 = .ok (.iconst (-1), 1) := by decide +kernel
theorem dX9_shape_16 : decode cX9_shape 16 = .ok (.ireturn, 1) := by decide +kernel
theorem dX9_shape_17 : decode cX9_shape 17 = .ok (.iload_n 3, 1) := by decide +kernel
theorem dX9_shape_18 : decode cX9_shape 18 = .ok (.i2l, 1) := by decide +kernel
theorem dX9_shape_19 : decode cX9_shape 19 = .ok (.lconst 0, 1) := by decide +kernel
theorem dX9_shape_20 : decode cX9_shape 20 = .ok (.lconst 1, 1) := by decide +kernel
theorem dX9_shape_21 : decode cX9_shape 21 = .ok (.invokestatic 69, 3) := by decide +kernel
theorem dX9_shape_24 : decode cX9_shape 24 = .ok (.ifCond .eq 33, 3) := by decide +kernel
theorem dX9_shape_27 : decode cX9_shape 27 = .ok (.iload 4, 2) := by decide +kernel
theorem dX9_shape_29 : decode cX9_shape 29 = .ok (.i2l, 1) := by decide +kernel
theorem dX9_shape_30 : decode cX9_shape 30 = .ok (.ldc2_w 86, 3) := by decide +kernel
theorem dX9_shape_33 : decode cX9_shape 33 = .ok (.ldc2_w 88, 3) := by decide +kernel
theorem dX9_shape_36 : decode cX9_shape 36 = .ok (.invokestatic 69, 3) := by decide +kernel
theorem dX9_shape_39 : decode cX9_shape 39 = .ok (.ifCond .eq 18, 3) := by decide +kernel
theorem dX9_shape_42 : decode cX9_shape 42 = .ok (.iload 5, 2) := by decide +kernel
theorem dX9_shape_44 : decode cX9_shape 44 = .ok (.i2l, 1) := by decide +kernel
theorem dX9_shape_45 : decode cX9_shape 45 = .ok (.ldc2_w 86, 3) := by decide +kernel
theorem dX9_shape_48 : decode cX9_shape 48 = .ok (.ldc2_w 88, 3) := by decide +kernel
theorem dX9_shape_51 : decode cX9_shape 51 = .ok (.invokestatic 69, 3) := by decide +kernel
theorem dX9_shape_54 : decode cX9_shape 54 = .ok (.ifCond .ne 6, 3) := by decide +kernel
theorem dX9_shape_57 : decode cX9_shape 57 = .ok (.bipush (-2), 2) := by decide +kernel
theorem dX9_shape_59 : decode cX9_shape 59 = .ok (.ireturn, 1) := by decide +kernel
theorem dX9_shape_60 : decode cX9_shape 60 = .ok (.iload_n 1, 1) := by decide +kernel
theorem dX9_shape_61 : decode cX9_shape 61 = .ok (.iload_n 2, 1) := by decide +kernel
theorem dX9_shape_62 : decode cX9_shape 62 = .ok (.iload_n 3, 1) := by decide +kernel
theorem dX9_shape_63 : decode cX9_shape 63 = .ok (.invokestatic 90, 3) := by decide +kernel
theorem dX9_shape_66 : decode cX9_shape 66 = .ok (.istore 6, 2) := by decide +kernel
theorem dX9_shape_68 : decode cX9_shape 68 = .ok (.aload_n 0, 1) := by decide +kernel
theorem dX9_shape_69 : decode cX9_shape 69 = .ok (.getfield 16, 3) := by decide +kernel
theorem dX9_shape_72 : decode cX9_shape 72 = .ok (.iload 6, 2) := by decide +kernel
theorem dX9_shape_74 : decode cX9_shape 74 = .ok (.iload 4, 2) := by decide +kernel
theorem dX9_shape_76 : decode cX9_shape 76 = .ok (.iload 5, 2) := by decide +kernel
theorem dX9_shape_78 : decode cX9_shape 78 = .ok (.if_icmp .gt 7, 3) := by decide +kernel
theorem dX9_shape_81 : decode cX9_shape 81 = .ok (.iconst 1, 1) := by decide +kernel
theorem dX9_shape_82 : decode cX9_shape 82 = .ok (.goto 4, 3) := by decide +kernel
theorem dX9_shape_85 : decode cX9_shape 85 = .ok (.iconst 0, 1) := by decide +kernel
theorem dX9_shape_86 : decode cX9_shape 86 = .ok (.bastore, 1) := by decide +kernel
theorem dX9_shape_87 : decode cX9_shape 87 = .ok (.aload_n 0, 1) := by decide +kernel
theorem dX9_shape_88 : decode cX9_shape 88 = .ok (.getfield 20, 3) := by decide +kernel
theorem dX9_shape_91 : decode cX9_shape 91 = .ok (.iload 6, 2) := by decide +kernel
theorem dX9_shape_93 : decode cX9_shape 93 = .ok (.iload 4, 2) := by decide +kernel
theorem dX9_shape_95 : decode cX9_shape 95 = .ok (.iastore, 1) := by decide +kernel
theorem dX9_shape_96 : decode cX9_shape 96 = .ok (.aload_n 0, 1) := by decide +kernel
theorem dX9_shape_97 : decode cX9_shape 97 = .ok (.getfield 23, 3) := by decide +kernel
theorem dX9_shape_100 : decode cX9_shape 100 = .ok (.iload 6, 2) := by decide +kernel
theorem dX9_shape_102 : decode cX9_shape 102 = .ok (.iload 5, 2) := by decide +kernel
theorem dX9_shape_104 : decode cX9_shape 104 = .ok (.iastore, 1) := by decide +kernel
theorem dX9_shape_105 : decode cX9_shape 105 = .ok (.iconst 1, 1) := by decide +kernel
theorem dX9_shape_106 : decode cX9_shape 106 = .ok (.ireturn, 1) := by decide +kernel
theorem dX9_numberOf_0 : decode cX9_numberOf 0 = .ok (.iload_n 1, 1) := by decide +kernel
theorem dX9_numberOf_1 : decode cX9_numberOf 1 = .ok (.ifCond .ne 10, 3) := by decide +kernel
theorem dX9_numberOf_4 : decode cX9_numberOf 4 = .ok (.aload_n 0, 1) := by decide +kernel
theorem dX9_numberOf_5 : decode cX9_numberOf 5 = .ok (.getfield 94, 3) := by decide +kernel
theorem dX9_numberOf_8 : decode cX9_numberOf 8 = .ok (.goto 31, 3) := by decide +kernel
theorem dX9_numberOf_11 : decode cX9_numberOf 11 = .ok (.iload_n 1, 1) := by decide +kernel
theorem dX9_numberOf_12 : decode cX9_numberOf 12 = .ok (.iconst 1, 1) := by decide +kernel
theorem dX9_numberOf_13 : decode cX9_numberOf 13 = .ok (.if_icmp .ne 10, 3) := by decide +kernel
theorem dX9_numberOf_16 : decode cX9_numberOf 16 = .ok (.aload_n 0, 1) := by decide +kernel
theorem dX9_numberOf_17 : decode cX9_numberOf 17 = .ok (.getfield 97, 3) := by decide +kernel
theorem dX9_numberOf_20 : decode cX9_numberOf 20 = .ok (.goto 19, 3) := by decide +kernel
theorem dX9_numberOf_23 : decode cX9_numberOf 23 = .ok (.iload_n 1, 1) := by decide +kernel
theorem dX9_numberOf_24 : decode cX9_numberOf 24 = .ok (.iconst 2, 1) := by decide +kernel
theorem dX9_numberOf_25 : decode cX9_numberOf 25 = .ok (.if_icmp .ne 10, 3) := by decide +kernel
theorem dX9_numberOf_28 : decode cX9_numberOf 28 = .ok (.aload_n 0, 1) := by decide +kernel
theorem dX9_numberOf_29 : decode cX9_numberOf 29 = .ok (.getfield 62, 3) := by decide +kernel
theorem dX9_numberOf_32 : decode cX9_numberOf 32 = .ok (.goto 7, 3) := by decide +kernel
theorem dX9_numberOf_35 : decode cX9_numberOf 35 = .ok (.aload_n 0, 1) := by decide +kernel
theorem dX9_numberOf_36 : decode cX9_numberOf 36 = .ok (.getfield 100, 3) := by decide +kernel
theorem dX9_numberOf_39 : decode cX9_numberOf 39 = .ok (.ireturn, 1) := by decide +kernel
theorem dX9_set_0 : decode cX9_set 0 = .ok (.iload_n 1, 1) := by decide +kernel
theorem dX9_set_1 : decode cX9_set 1 = .ok (.i2l, 1) := by decide +kernel
theorem dX9_set_2 : decode cX9_set 2 = .ok (.lconst 0, 1) := by decide +kernel
theorem dX9_set_3 : decode cX9_set 3 = .ok (.ldc2_w 103, 3) := by decide +kernel
theorem dX9_set_6 : decode cX9_set 6 = .ok (.invokestatic 69, 3) := by decide +kernel
theorem dX9_set_9 : decode cX9_set 9 = .ok (.ifCond .eq 55, 3) := by decide +kernel
theorem dX9_set_12 : decode cX9_set 12 = .ok (.iload_n 2, 1) := by decide +kernel
theorem dX9_set_13 : decode cX9_set 13 = .ok (.i2l, 1) := by decide +kernel
theorem dX9_set_14 : decode cX9_set 14 = .ok (.iload_n 1, 1) := by decide +kernel
theorem dX9_set_15 : decode cX9_set 15 = .ok (.ifCond .ne 9, 3) := by decide +kernel
theorem dX9_set_18 : decode cX9_set 18 = .ok (.ldc2_w 105, 3) := by decide +kernel
theorem dX9_set_21 : decode cX9_set 21 = .ok (.goto 4, 3) := by decide +kernel
theorem dX9_set_24 : decode cX9_set 24 = .ok (.lconst 0, 1) := by decide +kernel
theorem dX9_set_25 : decode cX9_set 25 = .ok (.iload_n 1, 1) := by decide +kernel
theorem dX9_set_26 : decode cX9_set 26 = .ok (.ifCond .ne 9, 3) := by decide +kernel
theorem dX9_set_29 : decode cX9_set 29 = .ok (.ldc2_w 103, 3) := by decide +kernel
theorem dX9_set_32 : decode cX9_set 32 = .ok (.goto 26, 3) := by decide +kernel
theorem dX9_set_35 : decode cX9_set 35 = .ok (.iload_n 1, 1) := by decide +kernel
theorem dX9_set_36 : decode cX9_set 36 = .ok (.iconst 1, 1) := by decide +kernel
theorem dX9_set_37 : decode cX9_set 37 = .ok (.if_icmp .ne 9, 3) := by decide +kernel
theorem dX9_set_40 : decode cX9_set 40 = .ok (.ldc2_w 88, 3) := by decide +kernel
theorem dX9_set_43 : decode cX9_set 43 = .ok (.goto 15, 3) := by decide +kernel
theorem dX9_set_46 : decode cX9_set 46 = .ok (.iload_n 1, 1) := by decide +kernel
theorem dX9_set_47 : decode cX9_set 47 = .ok (.iconst 2, 1) := by decide +kernel
theorem dX9_set_48 : decode cX9_set 48 = .ok (.if_icmp .ne 9, 3) := by decide +kernel
theorem dX9_set_51 : decode cX9_set 51 = .ok (.ldc2_w 107, 3) := by decide +kernel
theorem dX9_set_54 : decode cX9_set 54 = .ok (.goto 4, 3) := by decide +kernel
theorem dX9_set_57 : decode cX9_set 57 = .ok (.lconst 1, 1) := by decide +kernel
theorem dX9_set_58 : decode cX9_set 58 = .ok (.invokestatic 69, 3) := by decide +kernel
theorem dX9_set_61 : decode cX9_set 61 = .ok (.ifCond .ne 6, 3) := by decide +kernel
theorem dX9_set_64 : decode cX9_set 64 = .ok (.bipush (-2), 2) := by decide +kernel
theorem dX9_set_66 : decode cX9_set 66 = .ok (.ireturn, 1) := by decide +kernel
theorem dX9_set_67 : decode cX9_set 67 = .ok (.aload_n 0, 1) := by decide +kernel
theorem dX9_set_68 : decode cX9_set 68 = .ok (.iload_n 1, 1) := by decide +kernel
theorem dX9_set_69 : decode cX9_set 69 = .ok (.invokevirtual 109, 3) := by decide +kernel
theorem dX9_set_72 : decode cX9_set 72 = .ok (.istore_n 3, 1) := by decide +kernel
theorem dX9_set_73 : decode cX9_set 73 = .ok (.iload_n 1, 1) := by decide +kernel
theorem dX9_set_74 : decode cX9_set 74 = .ok (.ifCond .ne 11, 3) := by decide +kernel
theorem dX9_set_77 : decode cX9_set 77 = .ok (.aload_n 0, 1) := by decide +kernel
theorem dX9_set_78 : decode cX9_set 78 = .ok (.iload_n 2, 1) := by decide +kernel
theorem dX9_set_79 : decode cX9_set 79 = .ok (.putfield 94, 3) := by decide +kernel
theorem dX9_set_82 : decode cX9_set 82 = .ok (.goto 34, 3) := by decide +kernel
theorem dX9_set_85 : decode cX9_set 85 = .ok (.iload_n 1, 1) := by decide +kernel
theorem dX9_set_86 : decode cX9_set 86 = .ok (.iconst 1, 1) := by decide +kernel
theorem dX9_set_87 : decode cX9_set 87 = .ok (.if_icmp .ne 11, 3) := by decide +kernel
theorem dX9_set_90 : decode cX9_set 90 = .ok (.aload_n 0, 1) := by decide +kernel
theorem dX9_set_91 : decode cX9_set 91 = .ok (.iload_n 2, 1) := by decide +kernel
theorem dX9_set_92 : decode cX9_set 92 = .ok (.putfield 97, 3) := by decide +kernel
theorem dX9_set_95 : decode cX9_set 95 = .ok (.goto 21, 3) := by decide +kernel
theorem dX9_set_98 : decode cX9_set 98 = .ok (.iload_n 1, 1) := by decide +kernel
theorem dX9_set_99 : decode cX9_set 99 = .ok (.iconst 2, 1) := by decide +kernel
theorem dX9_set_100 : decode cX9_set 100 = .ok (.if_icmp .ne 11, 3) := by decide +kernel
theorem dX9_set_103 : decode cX9_set 103 = .ok (.aload_n 0, 1) := by decide +kernel
theorem dX9_set_104 : decode cX9_set 104 = .ok (.iload_n 2, 1) := by decide +kernel
theorem dX9_set_105 : decode cX9_set 105 = .ok (.putfield 62, 3) := by decide +kernel
theorem dX9_set_108 : decode cX9_set 108 = .ok (.goto 8, 3) := by decide +kernel
theorem dX9_set_111 : decode cX9_set 111 = .ok (.aload_n 0, 1) := by decide +kernel
theorem dX9_set_112 : decode cX9_set 112 = .ok (.iload_n 2, 1) := by decide +kernel
theorem dX9_set_113 : decode cX9_set 113 = .ok (.putfield 100, 3) := by decide +kernel
theorem dX9_set_116 : decode cX9_set 116 = .ok (.iload_n 3, 1) := by decide +kernel
theorem dX9_set_117 : decode cX9_set 117 = .ok (.ireturn, 1) := by decide +kernel
theorem dX9_covers_0 : decode cX9_covers 0 = .ok (.iload_n 1, 1) := by decide +kernel
theorem dX9_covers_1 : decode cX9_covers 1 = .ok (.iload_n 2, 1) := by decide +kernel
theorem dX9_covers_2 : decode cX9_covers 2 = .ok (.iload_n 3, 1) := by decide +kernel
theorem dX9_covers_3 : decode cX9_covers 3 = .ok (.invokestatic 90, 3) := by decide +kernel
theorem dX9_covers_6 : decode cX9_covers 6 = .ok (.istore 5, 2) := by decide +kernel
theorem dX9_covers_8 : decode cX9_covers 8 = .ok (.aload_n 0, 1) := by decide +kernel
theorem dX9_covers_9 : decode cX9_covers 9 = .ok (.getfield 7, 3) := by decide +kernel
theorem dX9_covers_12 : decode cX9_covers 12 = .ok (.iload_n 1, 1) := by decide +kernel
theorem dX9_covers_13 : decode cX9_covers 13 = .ok (.iaload, 1) := by decide +kernel
theorem dX9_covers_14 : decode cX9_covers 14 = .ok (.aload_n 0, 1) := by decide +kernel
theorem dX9_covers_15 : decode cX9_covers 15 = .ok (.getfield 13, 3) := by decide +kernel
theorem dX9_covers_18 : decode cX9_covers 18 = .ok (.iload_n 1, 1) := by decide +kernel
theorem dX9_covers_19 : decode cX9_covers 19 = .ok (.iaload, 1) := by decide +kernel
theorem dX9_covers_20 : decode cX9_covers 20 = .ok (.iload 4, 2) := by decide +kernel
theorem dX9_covers_22 : decode cX9_covers 22 = .ok (.imul, 1) := by decide +kernel
theorem dX9_covers_23 : decode cX9_covers 23 = .ok (.iadd, 1) := by decide +kernel
theorem dX9_covers_24 : decode cX9_covers 24 = .ok (.istore 6, 2) := by decide +kernel
theorem dX9_covers_26 : decode cX9_covers 26 = .ok (.aload_n 0, 1) := by decide +kernel
theorem dX9_covers_27 : decode cX9_covers 27 = .ok (.getfield 16, 3) := by decide +kernel
theorem dX9_covers_30 : decode cX9_covers 30 = .ok (.iload 5, 2) := by decide +kernel
theorem dX9_covers_32 : decode cX9_covers 32 = .ok (.baload, 1) := by decide +kernel
theorem dX9_covers_33 : decode cX9_covers 33 = .ok (.ifCond .eq 42, 3) := by decide +kernel
theorem dX9_covers_36 : decode cX9_covers 36 = .ok (.aload_n 0, 1) := by decide +kernel
theorem dX9_covers_37 : decode cX9_covers 37 = .ok (.getfield 94, 3) := by decide +kernel
theorem dX9_covers_40 : decode cX9_covers 40 = .ok (.iload_n 2, 1) := by decide +kernel
theorem dX9_covers_41 : decode cX9_covers 41 = .ok (.imul, 1) := by decide +kernel
theorem dX9_covers_42 : decode cX9_covers 42 = .ok (.i2l, 1) := by decide +kernel
theorem dX9_covers_43 : decode cX9_covers 43 = .ok (.iload 6, 2) := by decide +kernel
theorem dX9_covers_45 : decode cX9_covers 45 = .ok (.aload_n 0, 1) := by decide +kernel
theorem dX9_covers_46 : decode cX9_covers 46 = .ok (.getfield 20, 3) := by decide +kernel
theorem dX9_covers_49 : decode cX9_covers 49 = .ok (.iload 5, 2) := by decide +kernel
theorem dX9_covers_51 : decode cX9_covers 51 = .ok (.iaload, 1) := by decide +kernel
theorem dX9_covers_52 : decode cX9_covers 52 = .ok (.iadd, 1) := by decide +kernel
theorem dX9_covers_53 : decode cX9_covers 53 = .ok (.i2l, 1) := by decide +kernel
theorem dX9_covers_54 : decode cX9_covers 54 = .ok (.iload 6, 2) := by decide +kernel
theorem dX9_covers_56 : decode cX9_covers 56 = .ok (.aload_n 0, 1) := by decide +kernel
theorem dX9_covers_57 : decode cX9_covers 57 = .ok (.getfield 23, 3) := by decide +kernel
theorem dX9_covers_60 : decode cX9_covers 60 = .ok (.iload 5, 2) := by decide +kernel
theorem dX9_covers_62 : decode cX9_covers 62 = .ok (.iaload, 1) := by decide +kernel
theorem dX9_covers_63 : decode cX9_covers 63 = .ok (.iadd, 1) := by decide +kernel
theorem dX9_covers_64 : decode cX9_covers 64 = .ok (.i2l, 1) := by decide +kernel
theorem dX9_covers_65 : decode cX9_covers 65 = .ok (.invokestatic 69, 3) := by decide +kernel
theorem dX9_covers_68 : decode cX9_covers 68 = .ok (.ifCond .eq 7, 3) := by decide +kernel
theorem dX9_covers_71 : decode cX9_covers 71 = .ok (.iconst 1, 1) := by decide +kernel
theorem dX9_covers_72 : decode cX9_covers 72 = .ok (.goto 4, 3) := by decide +kernel
theorem dX9_covers_75 : decode cX9_covers 75 = .ok (.iconst 0, 1) := by decide +kernel
theorem dX9_covers_76 : decode cX9_covers 76 = .ok (.ireturn, 1) := by decide +kernel
theorem dX9_shown_0 : decode cX9_shown 0 = .ok (.iconst 0, 1) := by decide +kernel
theorem dX9_shown_1 : decode cX9_shown 1 = .ok (.istore 4, 2) := by decide +kernel
theorem dX9_shown_3 : decode cX9_shown 3 = .ok (.iload 4, 2) := by decide +kernel
theorem dX9_shown_5 : decode cX9_shown 5 = .ok (.aload_n 0, 1) := by decide +kernel
theorem dX9_shown_6 : decode cX9_shown 6 = .ok (.getfield 66, 3) := by decide +kernel
theorem dX9_shown_9 : decode cX9_shown 9 = .ok (.if_icmp .ge 69, 3) := by decide +kernel
theorem dX9_shown_12 : decode cX9_shown 12 = .ok (.iload_n 1, 1) := by decide +kernel
theorem dX9_shown_13 : decode cX9_shown 13 = .ok (.ifCond .ne 8, 3) := by decide +kernel
theorem dX9_shown_16 : decode cX9_shown 16 = .ok (.iload 4, 2) := by decide +kernel
theorem dX9_shown_18 : decode cX9_shown 18 = .ok (.goto 12, 3) := by decide +kernel
theorem dX9_shown_21 : decode cX9_shown 21 = .ok (.aload_n 0, 1) := by decide +kernel
theorem dX9_shown_22 : decode cX9_shown 22 = .ok (.getfield 66, 3) := by decide +kernel
theorem dX9_shown_25 : decode cX9_shown 25 = .ok (.iconst 1, 1) := by decide +kernel
theorem dX9_shown_26 : decode cX9_shown 26 = .ok (.isub, 1) := by decide +kernel
theorem dX9_shown_27 : decode cX9_shown 27 = .ok (.iload 4, 2) := by decide +kernel
theorem dX9_shown_29 : decode cX9_shown 29 = .ok (.isub, 1) := by decide +kernel
theorem dX9_shown_30 : decode cX9_shown 30 = .ok (.istore 5, 2) := by decide +kernel
theorem dX9_shown_32 : decode cX9_shown 32 = .ok (.aload_n 0, 1) := by decide +kernel
theorem dX9_shown_33 : decode cX9_shown 33 = .ok (.iload 5, 2) := by decide +kernel
theorem dX9_shown_35 : decode cX9_shown 35 = .ok (.iload_n 3, 1) := by decide +kernel
theorem dX9_shown_36 : decode cX9_shown 36 = .ok (.iconst 0, 1) := by decide +kernel
theorem dX9_shown_37 : decode cX9_shown 37 = .ok (.iload_n 2, 1) := by decide +kernel
theorem dX9_shown_38 : decode cX9_shown 38 = .ok (.invokevirtual 113, 3) := by decide +kernel
theorem dX9_shown_41 : decode cX9_shown 41 = .ok (.ifCond .eq 11, 3) := by decide +kernel
theorem dX9_shown_44 : decode cX9_shown 44 = .ok (.bipush 10, 2) := by decide +kernel
theorem dX9_shown_46 : decode cX9_shown 46 = .ok (.iload 5, 2) := by decide +kernel
theorem dX9_shown_48 : decode cX9_shown 48 = .ok (.imul, 1) := by decide +kernel
theorem dX9_shown_49 : decode cX9_shown 49 = .ok (.iconst 1, 1) := by decide +kernel
theorem dX9_shown_50 : decode cX9_shown 50 = .ok (.iadd, 1) := by decide +kernel
theorem dX9_shown_51 : decode cX9_shown 51 = .ok (.ireturn, 1) := by decide +kernel
theorem dX9_shown_52 : decode cX9_shown 52 = .ok (.aload_n 0, 1) := by decide +kernel
theorem dX9_shown_53 : decode cX9_shown 53 = .ok (.iload 5, 2) := by decide +kernel
theorem dX9_shown_55 : decode cX9_shown 55 = .ok (.iload_n 3, 1) := by decide +kernel
theorem dX9_shown_56 : decode cX9_shown 56 = .ok (.iconst 1, 1) := by decide +kernel
theorem dX9_shown_57 : decode cX9_shown 57 = .ok (.iload_n 2, 1) := by decide +kernel
theorem dX9_shown_58 : decode cX9_shown 58 = .ok (.invokevirtual 113, 3) := by decide +kernel
theorem dX9_shown_61 : decode cX9_shown 61 = .ok (.ifCond .eq 11, 3) := by decide +kernel
theorem dX9_shown_64 : decode cX9_shown 64 = .ok (.bipush 10, 2) := by decide +kernel
theorem dX9_shown_66 : decode cX9_shown 66 = .ok (.iload 5, 2) := by decide +kernel
theorem dX9_shown_68 : decode cX9_shown 68 = .ok (.imul, 1) := by decide +kernel
theorem dX9_shown_69 : decode cX9_shown 69 = .ok (.iconst 2, 1) := by decide +kernel
theorem dX9_shown_70 : decode cX9_shown 70 = .ok (.iadd, 1) := by decide +kernel
theorem dX9_shown_71 : decode cX9_shown 71 = .ok (.ireturn, 1) := by decide +kernel
theorem dX9_shown_72 : decode cX9_shown 72 = .ok (.iinc 4 1, 3) := by decide +kernel
theorem dX9_shown_75 : decode cX9_shown 75 = .ok (.goto (-72), 3) := by decide +kernel
theorem dX9_shown_78 : decode cX9_shown 78 = .ok (.iconst 0, 1) := by decide +kernel
theorem dX9_shown_79 : decode cX9_shown 79 = .ok (.ireturn, 1) := by decide +kernel
theorem dX9_shows_0 : decode cX9_shows 0 = .ok (.iload_n 3, 1) := by decide +kernel
theorem dX9_shows_1 : decode cX9_shows 1 = .ok (.invokestatic 83, 3) := by decide +kernel
theorem dX9_shows_4 : decode cX9_shows 4 = .ok (.ifCond .ne 5, 3) := by decide +kernel
theorem dX9_shows_7 : decode cX9_shows 7 = .ok (.iconst (-1), 1) := by decide +kernel
theorem dX9_shows_8 : decode cX9_shows 8 = .ok (.ireturn, 1) := by decide +kernel
theorem dX9_shows_9 : decode cX9_shows 9 = .ok (.iload_n 1, 1) := by decide +kernel
theorem dX9_shows_10 : decode cX9_shows 10 = .ok (.i2l, 1) := by decide +kernel
theorem dX9_shows_11 : decode cX9_shows 11 = .ok (.lconst 0, 1) := by decide +kernel
theorem dX9_shows_12 : decode cX9_shows 12 = .ok (.lconst 1, 1) := by decide +kernel
theorem dX9_shows_13 : decode cX9_shows 13 = .ok (.invokestatic 69, 3) := by decide +kernel
theorem dX9_shows_16 : decode cX9_shows 16 = .ok (.ifCond .eq 25, 3) := by decide +kernel
theorem dX9_shows_19 : decode cX9_shows 19 = .ok (.iload_n 2, 1) := by decide +kernel
theorem dX9_shows_20 : decode cX9_shows 20 = .ok (.i2l, 1) := by decide +kernel
theorem dX9_shows_21 : decode cX9_shows 21 = .ok (.lconst 0, 1) := by decide +kernel
theorem dX9_shows_22 : decode cX9_shows 22 = .ok (.ldc2_w 117, 3) := by decide +kernel
theorem dX9_shows_25 : decode cX9_shows 25 = .ok (.invokestatic 69, 3) := by decide +kernel
theorem dX9_shows_28 : decode cX9_shows 28 = .ok (.ifCond .eq 13, 3) := by decide +kernel
theorem dX9_shows_31 : decode cX9_shows 31 = .ok (.aload_n 0, 1) := by decide +kernel
theorem dX9_shows_32 : decode cX9_shows 32 = .ok (.iload_n 1, 1) := by decide +kernel
theorem dX9_shows_33 : decode cX9_shows 33 = .ok (.iload_n 2, 1) := by decide +kernel
theorem dX9_shows_34 : decode cX9_shows 34 = .ok (.iload_n 3, 1) := by decide +kernel
theorem dX9_shows_35 : decode cX9_shows 35 = .ok (.invokevirtual 119, 3) := by decide +kernel
theorem dX9_shows_38 : decode cX9_shows 38 = .ok (.goto 5, 3) := by decide +kernel
theorem dX9_shows_41 : decode cX9_shows 41 = .ok (.bipush (-2), 2) := by decide +kernel
theorem dX9_shows_43 : decode cX9_shows 43 = .ok (.ireturn, 1) := by decide +kernel
theorem dX9_findFirst_0 : decode cX9_findFirst 0 = .ok (.iconst 0, 1) := by decide +kernel
theorem dX9_findFirst_1 : decode cX9_findFirst 1 = .ok (.istore_n 1, 1) := by decide +kernel
theorem dX9_findFirst_2 : decode cX9_findFirst 2 = .ok (.iload_n 1, 1) := by decide +kernel
theorem dX9_findFirst_3 : decode cX9_findFirst 3 = .ok (.bipush 72, 2) := by decide +kernel
theorem dX9_findFirst_5 : decode cX9_findFirst 5 = .ok (.if_icmp .ge 17, 3) := by decide +kernel
theorem dX9_findFirst_8 : decode cX9_findFirst 8 = .ok (.aload_n 0, 1) := by decide +kernel
theorem dX9_findFirst_9 : decode cX9_findFirst 9 = .ok (.getfield 29, 3) := by decide +kernel
theorem dX9_findFirst_12 : decode cX9_findFirst 12 = .ok (.iload_n 1, 1) := by decide +kernel
theorem dX9_findFirst_13 : decode cX9_findFirst 13 = .ok (.bipush (-6), 2) := by decide +kernel
theorem dX9_findFirst_15 : decode cX9_findFirst 15 = .ok (.iastore, 1) := by decide +kernel
theorem dX9_findFirst_16 : decode cX9_findFirst 16 = .ok (.iinc 1 1, 3) := by decide +kernel
theorem dX9_findFirst_19 : decode cX9_findFirst 19 = .ok (.goto (-17), 3) := by decide +kernel
theorem dX9_findFirst_22 : decode cX9_findFirst 22 = .ok (.iconst 0, 1) := by decide +kernel
theorem dX9_findFirst_23 : decode cX9_findFirst 23 = .ok (.istore_n 1, 1) := by decide +kernel
theorem dX9_findFirst_24 : decode cX9_findFirst 24 = .ok (.iload_n 1, 1) := by decide +kernel
theorem dX9_findFirst_25 : decode cX9_findFirst 25 = .ok (.iconst 2, 1) := by decide +kernel
theorem dX9_findFirst_26 : decode cX9_findFirst 26 = .ok (.if_icmp .ge 76, 3) := by decide +kernel
theorem dX9_findFirst_29 : decode cX9_findFirst 29 = .ok (.iconst 0, 1) := by decide +kernel
theorem dX9_findFirst_30 : decode cX9_findFirst 30 = .ok (.istore_n 2, 1) := by decide +kernel
theorem dX9_findFirst_31 : decode cX9_findFirst 31 = .ok (.iload_n 2, 1) := by decide +kernel
theorem dX9_findFirst_32 : decode cX9_findFirst 32 = .ok (.bipush 6, 2) := by decide +kernel
theorem dX9_findFirst_34 : decode cX9_findFirst 34 = .ok (.if_icmp .ge 62, 3) := by decide +kernel
theorem dX9_findFirst_37 : decode cX9_findFirst 37 = .ok (.sipush 299, 3) := by decide +kernel
theorem dX9_findFirst_40 : decode cX9_findFirst 40 = .ok (.istore_n 3, 1) := by decide +kernel
theorem dX9_findFirst_41 : decode cX9_findFirst 41 = .ok (.iload_n 3, 1) := by decide +kernel
theorem dX9_findFirst_42 : decode cX9_findFirst 42 = .ok (.ifCond .lt 48, 3) := by decide +kernel
theorem dX9_findFirst_45 : decode cX9_findFirst 45 = .ok (.aload_n 0, 1) := by decide +kernel
theorem dX9_findFirst_46 : decode cX9_findFirst 46 = .ok (.iload_n 1, 1) := by decide +kernel
theorem dX9_findFirst_47 : decode cX9_findFirst 47 = .ok (.iload_n 3, 1) := by decide +kernel
theorem dX9_findFirst_48 : decode cX9_findFirst 48 = .ok (.iload_n 2, 1) := by decide +kernel
theorem dX9_findFirst_49 : decode cX9_findFirst 49 = .ok (.invokevirtual 119, 3) := by decide +kernel
theorem dX9_findFirst_52 : decode cX9_findFirst 52 = .ok (.istore 4, 2) := by decide +kernel
theorem dX9_findFirst_54 : decode cX9_findFirst 54 = .ok (.iload 4, 2) := by decide +kernel
theorem dX9_findFirst_56 : decode cX9_findFirst 56 = .ok (.bipush 10, 2) := by decide +kernel
theorem dX9_findFirst_58 : decode cX9_findFirst 58 = .ok (.irem, 1) := by decide +kernel
theorem dX9_findFirst_59 : decode cX9_findFirst 59 = .ok (.iconst 1, 1) := by decide +kernel
theorem dX9_findFirst_60 : decode cX9_findFirst 60 = .ok (.if_icmp .ne 24, 3) := by decide +kernel
theorem dX9_findFirst_63 : decode cX9_findFirst 63 = .ok (.aload_n 0, 1) := by decide +kernel
theorem dX9_findFirst_64 : decode cX9_findFirst 64 = .ok (.getfield 29, 3) := by decide +kernel
theorem dX9_findFirst_67 : decode cX9_findFirst 67 = .ok (.bipush 6, 2) := by decide +kernel
theorem dX9_findFirst_69 : decode cX9_findFirst 69 = .ok (.bipush 6, 2) := by decide +kernel
theorem dX9_findFirst_71 : decode cX9_findFirst 71 = .ok (.iload_n 1, 1) := by decide +kernel
theorem dX9_findFirst_72 : decode cX9_findFirst 72 = .ok (.imul, 1) := by decide +kernel
theorem dX9_findFirst_73 : decode cX9_findFirst 73 = .ok (.iload_n 2, 1) := by decide +kernel
theorem dX9_findFirst_74 : decode cX9_findFirst 74 = .ok (.iadd, 1) := by decide +kernel
theorem dX9_findFirst_75 : decode cX9_findFirst 75 = .ok (.imul, 1) := by decide +kernel
theorem dX9_findFirst_76 : decode cX9_findFirst 76 = .ok (.iload 4, 2) := by decide +kernel
theorem dX9_findFirst_78 : decode cX9_findFirst 78 = .ok (.bipush 10, 2) := by decide +kernel
theorem dX9_findFirst_80 : decode cX9_findFirst 80 = .ok (.idiv, 1) := by decide +kernel
theorem dX9_findFirst_81 : decode cX9_findFirst 81 = .ok (.iadd, 1) := by decide +kernel
theorem dX9_findFirst_82 : decode cX9_findFirst 82 = .ok (.iload_n 3, 1) := by decide +kernel
theorem dX9_findFirst_83 : decode cX9_findFirst 83 = .ok (.iastore, 1) := by decide +kernel
theorem dX9_findFirst_84 : decode cX9_findFirst 84 = .ok (.iinc 3 (-1), 3) := by decide +kernel
theorem dX9_findFirst_87 : decode cX9_findFirst 87 = .ok (.goto (-46), 3) := by decide +kernel
theorem dX9_findFirst_90 : decode cX9_findFirst 90 = .ok (.iinc 2 1, 3) := by decide +kernel
theorem dX9_findFirst_93 : decode cX9_findFirst 93 = .ok (.goto (-62), 3) := by decide +kernel
theorem dX9_findFirst_96 : decode cX9_findFirst 96 = .ok (.iinc 1 1, 3) := by decide +kernel
theorem dX9_findFirst_99 : decode cX9_findFirst 99 = .ok (.goto (-75), 3) := by decide +kernel
theorem dX9_findFirst_102 : decode cX9_findFirst 102 = .ok (.return_, 1) := by decide +kernel
theorem dX9_sooner_0 : decode cX9_sooner 0 = .ok (.iload_n 0, 1) := by decide +kernel
theorem dX9_sooner_1 : decode cX9_sooner 1 = .ok (.ifCond .ge 7, 3) := by decide +kernel
theorem dX9_sooner_4 : decode cX9_sooner 4 = .ok (.iload_n 1, 1) := by decide +kernel
theorem dX9_sooner_5 : decode cX9_sooner 5 = .ok (.goto 17, 3) := by decide +kernel
theorem dX9_sooner_8 : decode cX9_sooner 8 = .ok (.iload_n 1, 1) := by decide +kernel
theorem dX9_sooner_9 : decode cX9_sooner 9 = .ok (.ifCond .lt 8, 3) := by decide +kernel
theorem dX9_sooner_12 : decode cX9_sooner 12 = .ok (.iload_n 0, 1) := by decide +kernel
theorem dX9_sooner_13 : decode cX9_sooner 13 = .ok (.iload_n 1, 1) := by decide +kernel
theorem dX9_sooner_14 : decode cX9_sooner 14 = .ok (.if_icmp .ge 7, 3) := by decide +kernel
theorem dX9_sooner_17 : decode cX9_sooner 17 = .ok (.iload_n 0, 1) := by decide +kernel
theorem dX9_sooner_18 : decode cX9_sooner 18 = .ok (.goto 4, 3) := by decide +kernel
theorem dX9_sooner_21 : decode cX9_sooner 21 = .ok (.iload_n 1, 1) := by decide +kernel
theorem dX9_sooner_22 : decode cX9_sooner 22 = .ok (.ireturn, 1) := by decide +kernel
theorem dX9_firstOf_0 : decode cX9_firstOf 0 = .ok (.bipush (-6), 2) := by decide +kernel
theorem dX9_firstOf_2 : decode cX9_firstOf 2 = .ok (.istore 4, 2) := by decide +kernel
theorem dX9_firstOf_4 : decode cX9_firstOf 4 = .ok (.iconst 0, 1) := by decide +kernel
theorem dX9_firstOf_5 : decode cX9_firstOf 5 = .ok (.istore 5, 2) := by decide +kernel
theorem dX9_firstOf_7 : decode cX9_firstOf 7 = .ok (.iload 5, 2) := by decide +kernel
theorem dX9_firstOf_9 : decode cX9_firstOf 9 = .ok (.bipush 6, 2) := by decide +kernel
theorem dX9_firstOf_11 : decode cX9_firstOf 11 = .ok (.if_icmp .ge 48, 3) := by decide +kernel
theorem dX9_firstOf_14 : decode cX9_firstOf 14 = .ok (.iload_n 3, 1) := by decide +kernel
theorem dX9_firstOf_15 : decode cX9_firstOf 15 = .ok (.iload 5, 2) := by decide +kernel
theorem dX9_firstOf_17 : decode cX9_firstOf 17 = .ok (.ishr, 1) := by decide +kernel
theorem dX9_firstOf_18 : decode cX9_firstOf 18 = .ok (.iconst 1, 1) := by decide +kernel
theorem dX9_firstOf_19 : decode cX9_firstOf 19 = .ok (.iand, 1) := by decide +kernel
theorem dX9_firstOf_20 : decode cX9_firstOf 20 = .ok (.iconst 1, 1) := by decide +kernel
theorem dX9_firstOf_21 : decode cX9_firstOf 21 = .ok (.if_icmp .ne 28, 3) := by decide +kernel
theorem dX9_firstOf_24 : decode cX9_firstOf 24 = .ok (.iload 4, 2) := by decide +kernel
theorem dX9_firstOf_26 : decode cX9_firstOf 26 = .ok (.aload_n 0, 1) := by decide +kernel
theorem dX9_firstOf_27 : decode cX9_firstOf 27 = .ok (.getfield 29, 3) := by decide +kernel
theorem dX9_firstOf_30 : decode cX9_firstOf 30 = .ok (.bipush 6, 2) := by decide +kernel
theorem dX9_firstOf_32 : decode cX9_firstOf 32 = .ok (.bipush 6, 2) := by decide +kernel
theorem dX9_firstOf_34 : decode cX9_firstOf 34 = .ok (.iload_n 2, 1) := by decide +kernel
theorem dX9_firstOf_35 : decode cX9_firstOf 35 = .ok (.imul, 1) := by decide +kernel
theorem dX9_firstOf_36 : decode cX9_firstOf 36 = .ok (.iload 5, 2) := by decide +kernel
theorem dX9_firstOf_38 : decode cX9_firstOf 38 = .ok (.iadd, 1) := by decide +kernel
theorem dX9_firstOf_39 : decode cX9_firstOf 39 = .ok (.imul, 1) := by decide +kernel
theorem dX9_firstOf_40 : decode cX9_firstOf 40 = .ok (.iload_n 1, 1) := by decide +kernel
theorem dX9_firstOf_41 : decode cX9_firstOf 41 = .ok (.iadd, 1) := by decide +kernel
theorem dX9_firstOf_42 : decode cX9_firstOf 42 = .ok (.iaload, 1) := by decide +kernel
theorem dX9_firstOf_43 : decode cX9_firstOf 43 = .ok (.invokestatic 122, 3) := by decide +kernel
theorem dX9_firstOf_46 : decode cX9_firstOf 46 = .ok (.goto 5, 3) := by decide +kernel
theorem dX9_firstOf_49 : decode cX9_firstOf 49 = .ok (.iload 4, 2) := by decide +kernel
theorem dX9_firstOf_51 : decode cX9_firstOf 51 = .ok (.istore 4, 2) := by decide +kernel
theorem dX9_firstOf_53 : decode cX9_firstOf 53 = .ok (.iinc 5 1, 3) := by decide +kernel
theorem dX9_firstOf_56 : decode cX9_firstOf 56 = .ok (.goto (-49), 3) := by decide +kernel
theorem dX9_firstOf_59 : decode cX9_firstOf 59 = .ok (.iload 4, 2) := by decide +kernel
theorem dX9_firstOf_61 : decode cX9_firstOf 61 = .ok (.ireturn, 1) := by decide +kernel
theorem dX9_joinedOf_0 : decode cX9_joinedOf 0 = .ok (.aload_n 0, 1) := by decide +kernel
theorem dX9_joinedOf_1 : decode cX9_joinedOf 1 = .ok (.iload_n 1, 1) := by decide +kernel
theorem dX9_joinedOf_2 : decode cX9_joinedOf 2 = .ok (.iconst 0, 1) := by decide +kernel
theorem dX9_joinedOf_3 : decode cX9_joinedOf 3 = .ok (.bipush 63, 2) := by decide +kernel
theorem dX9_joinedOf_5 : decode cX9_joinedOf 5 = .ok (.invokevirtual 126, 3) := by decide +kernel
theorem dX9_joinedOf_8 : decode cX9_joinedOf 8 = .ok (.aload_n 0, 1) := by decide +kernel
theorem dX9_joinedOf_9 : decode cX9_joinedOf 9 = .ok (.iload_n 1, 1) := by decide +kernel
theorem dX9_joinedOf_10 : decode cX9_joinedOf 10 = .ok (.iconst 1, 1) := by decide +kernel
theorem dX9_joinedOf_11 : decode cX9_joinedOf 11 = .ok (.bipush 63, 2) := by decide +kernel
theorem dX9_joinedOf_13 : decode cX9_joinedOf 13 = .ok (.invokevirtual 126, 3) := by decide +kernel
theorem dX9_joinedOf_16 : decode cX9_joinedOf 16 = .ok (.invokestatic 122, 3) := by decide +kernel
theorem dX9_joinedOf_19 : decode cX9_joinedOf 19 = .ok (.ireturn, 1) := by decide +kernel
theorem dX9_crossed_0 : decode cX9_crossed 0 = .ok (.bipush (-6), 2) := by decide +kernel
theorem dX9_crossed_2 : decode cX9_crossed 2 = .ok (.istore_n 3, 1) := by decide +kernel
theorem dX9_crossed_3 : decode cX9_crossed 3 = .ok (.iconst 0, 1) := by decide +kernel
theorem dX9_crossed_4 : decode cX9_crossed 4 = .ok (.istore 4, 2) := by decide +kernel
theorem dX9_crossed_6 : decode cX9_crossed 6 = .ok (.iload 4, 2) := by decide +kernel
theorem dX9_crossed_8 : decode cX9_crossed 8 = .ok (.bipush 6, 2) := by decide +kernel
theorem dX9_crossed_10 : decode cX9_crossed 10 = .ok (.if_icmp .ge 81, 3) := by decide +kernel
theorem dX9_crossed_13 : decode cX9_crossed 13 = .ok (.iload_n 1, 1) := by decide +kernel
theorem dX9_crossed_14 : decode cX9_crossed 14 = .ok (.iload 4, 2) := by decide +kernel
theorem dX9_crossed_16 : decode cX9_crossed 16 = .ok (.iconst 0, 1) := by decide +kernel
theorem dX9_crossed_17 : decode cX9_crossed 17 = .ok (.invokestatic 90, 3) := by decide +kernel
theorem dX9_crossed_20 : decode cX9_crossed 20 = .ok (.istore 5, 2) := by decide +kernel
theorem dX9_crossed_22 : decode cX9_crossed 22 = .ok (.aload_n 0, 1) := by decide +kernel
theorem dX9_crossed_23 : decode cX9_crossed 23 = .ok (.getfield 16, 3) := by decide +kernel
theorem dX9_crossed_26 : decode cX9_crossed 26 = .ok (.iload 5, 2) := by decide +kernel
theorem dX9_crossed_28 : decode cX9_crossed 28 = .ok (.baload, 1) := by decide +kernel
theorem dX9_crossed_29 : decode cX9_crossed 29 = .ok (.ifCond .eq 56, 3) := by decide +kernel
theorem dX9_crossed_32 : decode cX9_crossed 32 = .ok (.iload_n 2, 1) := by decide +kernel
theorem dX9_crossed_33 : decode cX9_crossed 33 = .ok (.iload 4, 2) := by decide +kernel
theorem dX9_crossed_35 : decode cX9_crossed 35 = .ok (.imul, 1) := by decide +kernel
theorem dX9_crossed_36 : decode cX9_crossed 36 = .ok (.aload_n 0, 1) := by decide +kernel
theorem dX9_crossed_37 : decode cX9_crossed 37 = .ok (.getfield 23, 3) := by decide +kernel
theorem dX9_crossed_40 : decode cX9_crossed 40 = .ok (.iload 5, 2) := by decide +kernel
theorem dX9_crossed_42 : decode cX9_crossed 42 = .ok (.iaload, 1) := by decide +kernel
theorem dX9_crossed_43 : decode cX9_crossed 43 = .ok (.isub, 1) := by decide +kernel
theorem dX9_crossed_44 : decode cX9_crossed 44 = .ok (.aload_n 0, 1) := by decide +kernel
theorem dX9_crossed_45 : decode cX9_crossed 45 = .ok (.getfield 7, 3) := by decide +kernel
theorem dX9_crossed_48 : decode cX9_crossed 48 = .ok (.iload_n 1, 1) := by decide +kernel
theorem dX9_crossed_49 : decode cX9_crossed 49 = .ok (.iaload, 1) := by decide +kernel
theorem dX9_crossed_50 : decode cX9_crossed 50 = .ok (.isub, 1) := by decide +kernel
theorem dX9_crossed_51 : decode cX9_crossed 51 = .ok (.istore 6, 2) := by decide +kernel
theorem dX9_crossed_53 : decode cX9_crossed 53 = .ok (.iload_n 3, 1) := by decide +kernel
theorem dX9_crossed_54 : decode cX9_crossed 54 = .ok (.iload 6, 2) := by decide +kernel
theorem dX9_crossed_56 : decode cX9_crossed 56 = .ok (.ifCond .gt 7, 3) := by decide +kernel
theorem dX9_crossed_59 : decode cX9_crossed 59 = .ok (.iconst 0, 1) := by decide +kernel
theorem dX9_crossed_60 : decode cX9_crossed 60 = .ok (.goto 21, 3) := by decide +kernel
theorem dX9_crossed_63 : decode cX9_crossed 63 = .ok (.iload 6, 2) := by decide +kernel
theorem dX9_crossed_65 : decode cX9_crossed 65 = .ok (.aload_n 0, 1) := by decide +kernel
theorem dX9_crossed_66 : decode cX9_crossed 66 = .ok (.getfield 13, 3) := by decide +kernel
theorem dX9_crossed_69 : decode cX9_crossed 69 = .ok (.iload_n 1, 1) := by decide +kernel
theorem dX9_crossed_70 : decode cX9_crossed 70 = .ok (.iaload, 1) := by decide +kernel
theorem dX9_crossed_71 : decode cX9_crossed 71 = .ok (.iadd, 1) := by decide +kernel
theorem dX9_crossed_72 : decode cX9_crossed 72 = .ok (.iconst 1, 1) := by decide +kernel
theorem dX9_crossed_73 : decode cX9_crossed 73 = .ok (.isub, 1) := by decide +kernel
theorem dX9_crossed_74 : decode cX9_crossed 74 = .ok (.aload_n 0, 1) := by decide +kernel
theorem dX9_crossed_75 : decode cX9_crossed 75 = .ok (.getfield 13, 3) := by decide +kernel
theorem dX9_crossed_78 : decode cX9_crossed 78 = .ok (.iload_n 1, 1) := by decide +kernel
theorem dX9_crossed_79 : decode cX9_crossed 79 = .ok (.iaload, 1) := by decide +kernel
theorem dX9_crossed_80 : decode cX9_crossed 80 = .ok (.idiv, 1) := by decide +kernel
theorem dX9_crossed_81 : decode cX9_crossed 81 = .ok (.invokestatic 122, 3) := by decide +kernel
theorem dX9_crossed_84 : decode cX9_crossed 84 = .ok (.istore_n 3, 1) := by decide +kernel
theorem dX9_crossed_85 : decode cX9_crossed 85 = .ok (.iinc 4 1, 3) := by decide +kernel
theorem dX9_crossed_88 : decode cX9_crossed 88 = .ok (.goto (-82), 3) := by decide +kernel
theorem dX9_crossed_91 : decode cX9_crossed 91 = .ok (.iload_n 3, 1) := by decide +kernel
theorem dX9_crossed_92 : decode cX9_crossed 92 = .ok (.ireturn, 1) := by decide +kernel
theorem dX9_hasTorso_0 : decode cX9_hasTorso 0 = .ok (.aload_n 0, 1) := by decide +kernel
theorem dX9_hasTorso_1 : decode cX9_hasTorso 1 = .ok (.iload_n 1, 1) := by decide +kernel
theorem dX9_hasTorso_2 : decode cX9_hasTorso 2 = .ok (.iconst 0, 1) := by decide +kernel
theorem dX9_hasTorso_3 : decode cX9_hasTorso 3 = .ok (.invokevirtual 129, 3) := by decide +kernel
theorem dX9_hasTorso_6 : decode cX9_hasTorso 6 = .ok (.ifCond .lt 7, 3) := by decide +kernel
theorem dX9_hasTorso_9 : decode cX9_hasTorso 9 = .ok (.iconst 1, 1) := by decide +kernel
theorem dX9_hasTorso_10 : decode cX9_hasTorso 10 = .ok (.goto 4, 3) := by decide +kernel
theorem dX9_hasTorso_13 : decode cX9_hasTorso 13 = .ok (.iconst 0, 1) := by decide +kernel
theorem dX9_hasTorso_14 : decode cX9_hasTorso 14 = .ok (.ireturn, 1) := by decide +kernel
theorem dX9_isHidden_0 : decode cX9_isHidden 0 = .ok (.aload_n 0, 1) := by decide +kernel
theorem dX9_isHidden_1 : decode cX9_isHidden 1 = .ok (.iload_n 1, 1) := by decide +kernel
theorem dX9_isHidden_2 : decode cX9_isHidden 2 = .ok (.invokevirtual 132, 3) := by decide +kernel
theorem dX9_isHidden_5 : decode cX9_isHidden 5 = .ok (.istore_n 2, 1) := by decide +kernel
theorem dX9_isHidden_6 : decode cX9_isHidden 6 = .ok (.aload_n 0, 1) := by decide +kernel
theorem dX9_isHidden_7 : decode cX9_isHidden 7 = .ok (.iload_n 1, 1) := by decide +kernel
theorem dX9_isHidden_8 : decode cX9_isHidden 8 = .ok (.invokevirtual 135, 3) := by decide +kernel
theorem dX9_isHidden_11 : decode cX9_isHidden 11 = .ok (.ifCond .eq 24, 3) := by decide +kernel
theorem dX9_isHidden_14 : decode cX9_isHidden 14 = .ok (.iload_n 2, 1) := by decide +kernel
theorem dX9_isHidden_15 : decode cX9_isHidden 15 = .ok (.ifCond .lt 16, 3) := by decide +kernel
theorem dX9_isHidden_18 : decode cX9_isHidden 18 = .ok (.iload_n 2, 1) := by decide +kernel
theorem dX9_isHidden_19 : decode cX9_isHidden 19 = .ok (.aload_n 0, 1) := by decide +kernel
theorem dX9_isHidden_20 : decode cX9_isHidden 20 = .ok (.iload_n 1, 1) := by decide +kernel
theorem dX9_isHidden_21 : decode cX9_isHidden 21 = .ok (.aload_n 0, 1) := by decide +kernel
theorem dX9_isHidden_22 : decode cX9_isHidden 22 = .ok (.getfield 94, 3) := by decide +kernel
theorem dX9_isHidden_25 : decode cX9_isHidden 25 = .ok (.invokevirtual 129, 3) := by decide +kernel
theorem dX9_isHidden_28 : decode cX9_isHidden 28 = .ok (.if_icmp .le 7, 3) := by decide +kernel
theorem dX9_isHidden_31 : decode cX9_isHidden 31 = .ok (.iconst 1, 1) := by decide +kernel
theorem dX9_isHidden_32 : decode cX9_isHidden 32 = .ok (.goto 4, 3) := by decide +kernel
theorem dX9_isHidden_35 : decode cX9_isHidden 35 = .ok (.iconst 0, 1) := by decide +kernel
theorem dX9_isHidden_36 : decode cX9_isHidden 36 = .ok (.ireturn, 1) := by decide +kernel
theorem dX9_hearsOf_0 : decode cX9_hearsOf 0 = .ok (.aload_n 0, 1) := by decide +kernel
theorem dX9_hearsOf_1 : decode cX9_hearsOf 1 = .ok (.getfield 66, 3) := by decide +kernel
theorem dX9_hearsOf_4 : decode cX9_hearsOf 4 = .ok (.iconst 1, 1) := by decide +kernel
theorem dX9_hearsOf_5 : decode cX9_hearsOf 5 = .ok (.isub, 1) := by decide +kernel
theorem dX9_hearsOf_6 : decode cX9_hearsOf 6 = .ok (.iload_n 1, 1) := by decide +kernel
theorem dX9_hearsOf_7 : decode cX9_hearsOf 7 = .ok (.isub, 1) := by decide +kernel
theorem dX9_hearsOf_8 : decode cX9_hearsOf 8 = .ok (.istore_n 2, 1) := by decide +kernel
theorem dX9_hearsOf_9 : decode cX9_hearsOf 9 = .ok (.iconst 3, 1) := by decide +kernel
theorem dX9_hearsOf_10 : decode cX9_hearsOf 10 = .ok (.aload_n 0, 1) := by decide +kernel
theorem dX9_hearsOf_11 : decode cX9_hearsOf 11 = .ok (.getfield 100, 3) := by decide +kernel
theorem dX9_hearsOf_14 : decode cX9_hearsOf 14 = .ok (.iconst 1, 1) := by decide +kernel
theorem dX9_hearsOf_15 : decode cX9_hearsOf 15 = .ok (.if_icmp .ne 12, 3) := by decide +kernel
theorem dX9_hearsOf_18 : decode cX9_hearsOf 18 = .ok (.iload_n 2, 1) := by decide +kernel
theorem dX9_hearsOf_19 : decode cX9_hearsOf 19 = .ok (.iload_n 1, 1) := by decide +kernel
theorem dX9_hearsOf_20 : decode cX9_hearsOf 20 = .ok (.if_icmp .ge 7, 3) := by decide +kernel
theorem dX9_hearsOf_23 : decode cX9_hearsOf 23 = .ok (.iload_n 2, 1) := by decide +kernel
theorem dX9_hearsOf_24 : decode cX9_hearsOf 24 = .ok (.goto 4, 3) := by decide +kernel
theorem dX9_hearsOf_27 : decode cX9_hearsOf 27 = .ok (.iload_n 1, 1) := by decide +kernel
theorem dX9_hearsOf_28 : decode cX9_hearsOf 28 = .ok (.imul, 1) := by decide +kernel
theorem dX9_hearsOf_29 : decode cX9_hearsOf 29 = .ok (.ireturn, 1) := by decide +kernel
theorem dX9_of_0 : decode cX9_of 0 = .ok (.aload_n 0, 1) := by decide +kernel
theorem dX9_of_1 : decode cX9_of 1 = .ok (.iload_n 1, 1) := by decide +kernel
theorem dX9_of_2 : decode cX9_of 2 = .ok (.invokevirtual 79, 3) := by decide +kernel
theorem dX9_of_5 : decode cX9_of 5 = .ok (.ifCond .ne 5, 3) := by decide +kernel
theorem dX9_of_8 : decode cX9_of 8 = .ok (.iconst (-1), 1) := by decide +kernel
theorem dX9_of_9 : decode cX9_of 9 = .ok (.ireturn, 1) := by decide +kernel
theorem dX9_of_10 : decode cX9_of 10 = .ok (.aload_n 0, 1) := by decide +kernel
theorem dX9_of_11 : decode cX9_of 11 = .ok (.invokevirtual 138, 3) := by decide +kernel
theorem dX9_of_14 : decode cX9_of 14 = .ok (.iload_n 2, 1) := by decide +kernel
theorem dX9_of_15 : decode cX9_of 15 = .ok (.tableswitch 136 0 7 #[45, 45, 54, 60, 67, 77, 91, 97], 45) := by decide +kernel
theorem dX9_of_60 : decode cX9_of 60 = .ok (.aload_n 0, 1) := by decide +kernel
theorem dX9_of_61 : decode cX9_of 61 = .ok (.iload_n 1, 1) := by decide +kernel
theorem dX9_of_62 : decode cX9_of 62 = .ok (.iload_n 2, 1) := by decide +kernel
theorem dX9_of_63 : decode cX9_of 63 = .ok (.bipush 63, 2) := by decide +kernel
theorem dX9_of_65 : decode cX9_of 65 = .ok (.invokevirtual 126, 3) := by decide +kernel
theorem dX9_of_68 : decode cX9_of 68 = .ok (.ireturn, 1) := by decide +kernel
theorem dX9_of_69 : decode cX9_of 69 = .ok (.aload_n 0, 1) := by decide +kernel
theorem dX9_of_70 : decode cX9_of 70 = .ok (.iload_n 1, 1) := by decide +kernel
theorem dX9_of_71 : decode cX9_of 71 = .ok (.invokevirtual 132, 3) := by decide +kernel
theorem dX9_of_74 : decode cX9_of 74 = .ok (.ireturn, 1) := by decide +kernel
theorem dX9_of_75 : decode cX9_of 75 = .ok (.aload_n 0, 1) := by decide +kernel
theorem dX9_of_76 : decode cX9_of 76 = .ok (.iload_n 1, 1) := by decide +kernel
theorem dX9_of_77 : decode cX9_of 77 = .ok (.iconst 0, 1) := by decide +kernel
theorem dX9_of_78 : decode cX9_of 78 = .ok (.invokevirtual 129, 3) := by decide +kernel
theorem dX9_of_81 : decode cX9_of 81 = .ok (.ireturn, 1) := by decide +kernel
theorem dX9_of_82 : decode cX9_of 82 = .ok (.aload_n 0, 1) := by decide +kernel
theorem dX9_of_83 : decode cX9_of 83 = .ok (.iload_n 1, 1) := by decide +kernel
theorem dX9_of_84 : decode cX9_of 84 = .ok (.aload_n 0, 1) := by decide +kernel
theorem dX9_of_85 : decode cX9_of 85 = .ok (.getfield 94, 3) := by decide +kernel
theorem dX9_of_88 : decode cX9_of 88 = .ok (.invokevirtual 129, 3) := by decide +kernel
theorem dX9_of_91 : decode cX9_of 91 = .ok (.ireturn, 1) := by decide +kernel
theorem dX9_of_92 : decode cX9_of 92 = .ok (.aload_n 0, 1) := by decide +kernel
theorem dX9_of_93 : decode cX9_of 93 = .ok (.iload_n 1, 1) := by decide +kernel
theorem dX9_of_94 : decode cX9_of 94 = .ok (.invokevirtual 141, 3) := by decide +kernel
theorem dX9_of_97 : decode cX9_of 97 = .ok (.ifCond .eq 7, 3) := by decide +kernel
theorem dX9_of_100 : decode cX9_of 100 = .ok (.iconst 1, 1) := by decide +kernel
theorem dX9_of_101 : decode cX9_of 101 = .ok (.goto 4, 3) := by decide +kernel
theorem dX9_of_104 : decode cX9_of 104 = .ok (.iconst 0, 1) := by decide +kernel
theorem dX9_of_105 : decode cX9_of 105 = .ok (.ireturn, 1) := by decide +kernel
theorem dX9_of_106 : decode cX9_of 106 = .ok (.aload_n 0, 1) := by decide +kernel
theorem dX9_of_107 : decode cX9_of 107 = .ok (.iload_n 1, 1) := by decide +kernel
theorem dX9_of_108 : decode cX9_of 108 = .ok (.invokevirtual 144, 3) := by decide +kernel
theorem dX9_of_111 : decode cX9_of 111 = .ok (.ireturn, 1) := by decide +kernel
theorem dX9_of_112 : decode cX9_of 112 = .ok (.aload_n 0, 1) := by decide +kernel
theorem dX9_of_113 : decode cX9_of 113 = .ok (.getfield 26, 3) := by decide +kernel
theorem dX9_of_116 : decode cX9_of 116 = .ok (.iload_n 1, 1) := by decide +kernel
theorem dX9_of_117 : decode cX9_of 117 = .ok (.iaload, 1) := by decide +kernel
theorem dX9_of_118 : decode cX9_of 118 = .ok (.ifCond .ge 8, 3) := by decide +kernel
theorem dX9_of_121 : decode cX9_of 121 = .ok (.bipush (-6), 2) := by decide +kernel
theorem dX9_of_123 : decode cX9_of 123 = .ok (.goto 27, 3) := by decide +kernel
theorem dX9_of_126 : decode cX9_of 126 = .ok (.aload_n 0, 1) := by decide +kernel
theorem dX9_of_127 : decode cX9_of 127 = .ok (.getfield 26, 3) := by decide +kernel
theorem dX9_of_130 : decode cX9_of 130 = .ok (.iload_n 1, 1) := by decide +kernel
theorem dX9_of_131 : decode cX9_of 131 = .ok (.iaload, 1) := by decide +kernel
theorem dX9_of_132 : decode cX9_of 132 = .ok (.aload_n 0, 1) := by decide +kernel
theorem dX9_of_133 : decode cX9_of 133 = .ok (.iload_n 1, 1) := by decide +kernel
theorem dX9_of_134 : decode cX9_of 134 = .ok (.invokevirtual 144, 3) := by decide +kernel
theorem dX9_of_137 : decode cX9_of 137 = .ok (.aload_n 0, 1) := by decide +kernel
theorem dX9_of_138 : decode cX9_of 138 = .ok (.getfield 62, 3) := by decide +kernel
theorem dX9_of_141 : decode cX9_of 141 = .ok (.iadd, 1) := by decide +kernel
theorem dX9_of_142 : decode cX9_of 142 = .ok (.if_icmp .ge 7, 3) := by decide +kernel
theorem dX9_of_145 : decode cX9_of 145 = .ok (.iconst 1, 1) := by decide +kernel
theorem dX9_of_146 : decode cX9_of 146 = .ok (.goto 4, 3) := by decide +kernel
theorem dX9_of_149 : decode cX9_of 149 = .ok (.iconst 0, 1) := by decide +kernel
theorem dX9_of_150 : decode cX9_of 150 = .ok (.ireturn, 1) := by decide +kernel
theorem dX9_of_151 : decode cX9_of 151 = .ok (.bipush (-2), 2) := by decide +kernel
theorem dX9_of_153 : decode cX9_of 153 = .ok (.ireturn, 1) := by decide +kernel
theorem dX9_sign_0 : decode cX9_sign 0 = .ok (.iload_n 0, 1) := by decide +kernel
theorem dX9_sign_1 : decode cX9_sign 1 = .ok (.ifCond .le 7, 3) := by decide +kernel
theorem dX9_sign_4 : decode cX9_sign 4 = .ok (.iconst 1, 1) := by decide +kernel
theorem dX9_sign_5 : decode cX9_sign 5 = .ok (.goto 12, 3) := by decide +kernel
theorem dX9_sign_8 : decode cX9_sign 8 = .ok (.iload_n 0, 1) := by decide +kernel
theorem dX9_sign_9 : decode cX9_sign 9 = .ok (.ifCond .ge 7, 3) := by decide +kernel
theorem dX9_sign_12 : decode cX9_sign 12 = .ok (.iconst (-1), 1) := by decide +kernel
theorem dX9_sign_13 : decode cX9_sign 13 = .ok (.goto 4, 3) := by decide +kernel
theorem dX9_sign_16 : decode cX9_sign 16 = .ok (.iconst 0, 1) := by decide +kernel
theorem dX9_sign_17 : decode cX9_sign 17 = .ok (.ireturn, 1) := by decide +kernel
theorem dX9_moved_0 : decode cX9_moved 0 = .ok (.iconst 0, 1) := by decide +kernel
theorem dX9_moved_1 : decode cX9_moved 1 = .ok (.istore_n 2, 1) := by decide +kernel
theorem dX9_moved_2 : decode cX9_moved 2 = .ok (.iconst 0, 1) := by decide +kernel
theorem dX9_moved_3 : decode cX9_moved 3 = .ok (.istore_n 3, 1) := by decide +kernel
theorem dX9_moved_4 : decode cX9_moved 4 = .ok (.iload_n 3, 1) := by decide +kernel
theorem dX9_moved_5 : decode cX9_moved 5 = .ok (.aload_n 0, 1) := by decide +kernel
theorem dX9_moved_6 : decode cX9_moved 6 = .ok (.getfield 66, 3) := by decide +kernel
theorem dX9_moved_9 : decode cX9_moved 9 = .ok (.if_icmp .ge 125, 3) := by decide +kernel
theorem dX9_moved_12 : decode cX9_moved 12 = .ok (.iload_n 3, 1) := by decide +kernel
theorem dX9_moved_13 : decode cX9_moved 13 = .ok (.iconst 1, 1) := by decide +kernel
theorem dX9_moved_14 : decode cX9_moved 14 = .ok (.iadd, 1) := by decide +kernel
theorem dX9_moved_15 : decode cX9_moved 15 = .ok (.istore 4, 2) := by decide +kernel
theorem dX9_moved_17 : decode cX9_moved 17 = .ok (.iload 4, 2) := by decide +kernel
theorem dX9_moved_19 : decode cX9_moved 19 = .ok (.aload_n 0, 1) := by decide +kernel
theorem dX9_moved_20 : decode cX9_moved 20 = .ok (.getfield 66, 3) := by decide +kernel
theorem dX9_moved_23 : decode cX9_moved 23 = .ok (.if_icmp .ge 105, 3) := by decide +kernel
theorem dX9_moved_26 : decode cX9_moved 26 = .ok (.aload_n 0, 1) := by decide +kernel
theorem dX9_moved_27 : decode cX9_moved 27 = .ok (.iload_n 3, 1) := by decide +kernel
theorem dX9_moved_28 : decode cX9_moved 28 = .ok (.invokevirtual 135, 3) := by decide +kernel
theorem dX9_moved_31 : decode cX9_moved 31 = .ok (.ifCond .eq 16, 3) := by decide +kernel
theorem dX9_moved_34 : decode cX9_moved 34 = .ok (.aload_n 0, 1) := by decide +kernel
theorem dX9_moved_35 : decode cX9_moved 35 = .ok (.iload 4, 2) := by decide +kernel
theorem dX9_moved_37 : decode cX9_moved 37 = .ok (.invokevirtual 135, 3) := by decide +kernel
theorem dX9_moved_40 : decode cX9_moved 40 = .ok (.ifCond .eq 7, 3) := by decide +kernel
theorem dX9_moved_43 : decode cX9_moved 43 = .ok (.iconst 1, 1) := by decide +kernel
theorem dX9_moved_44 : decode cX9_moved 44 = .ok (.goto 4, 3) := by decide +kernel
theorem dX9_moved_47 : decode cX9_moved 47 = .ok (.iconst 0, 1) := by decide +kernel
theorem dX9_moved_48 : decode cX9_moved 48 = .ok (.istore 5, 2) := by decide +kernel
theorem dX9_moved_50 : decode cX9_moved 50 = .ok (.aload_n 0, 1) := by decide +kernel
theorem dX9_moved_51 : decode cX9_moved 51 = .ok (.iload_n 3, 1) := by decide +kernel
theorem dX9_moved_52 : decode cX9_moved 52 = .ok (.iconst 0, 1) := by decide +kernel
theorem dX9_moved_53 : decode cX9_moved 53 = .ok (.invokevirtual 129, 3) := by decide +kernel
theorem dX9_moved_56 : decode cX9_moved 56 = .ok (.aload_n 0, 1) := by decide +kernel
theorem dX9_moved_57 : decode cX9_moved 57 = .ok (.iload 4, 2) := by decide +kernel
theorem dX9_moved_59 : decode cX9_moved 59 = .ok (.iconst 0, 1) := by decide +kernel
theorem dX9_moved_60 : decode cX9_moved 60 = .ok (.invokevirtual 129, 3) := by decide +kernel
theorem dX9_moved_63 : decode cX9_moved 63 = .ok (.isub, 1) := by decide +kernel
theorem dX9_moved_64 : decode cX9_moved 64 = .ok (.invokestatic 147, 3) := by decide +kernel
theorem dX9_moved_67 : decode cX9_moved 67 = .ok (.istore 6, 2) := by decide +kernel
theorem dX9_moved_69 : decode cX9_moved 69 = .ok (.aload_n 0, 1) := by decide +kernel
theorem dX9_moved_70 : decode cX9_moved 70 = .ok (.iload_n 3, 1) := by decide +kernel
theorem dX9_moved_71 : decode cX9_moved 71 = .ok (.aload_n 0, 1) := by decide +kernel
theorem dX9_moved_72 : decode cX9_moved 72 = .ok (.getfield 94, 3) := by decide +kernel
theorem dX9_moved_75 : decode cX9_moved 75 = .ok (.invokevirtual 129, 3) := by decide +kernel
theorem dX9_moved_78 : decode cX9_moved 78 = .ok (.aload_n 0, 1) := by decide +kernel
theorem dX9_moved_79 : decode cX9_moved 79 = .ok (.iload 4, 2) := by decide +kernel
theorem dX9_moved_81 : decode cX9_moved 81 = .ok (.aload_n 0, 1) := by decide +kernel
theorem dX9_moved_82 : decode cX9_moved 82 = .ok (.getfield 94, 3) := by decide +kernel
theorem dX9_moved_85 : decode cX9_moved 85 = .ok (.invokevirtual 129, 3) := by decide +kernel
theorem dX9_moved_88 : decode cX9_moved 88 = .ok (.isub, 1) := by decide +kernel
theorem dX9_moved_89 : decode cX9_moved 89 = .ok (.invokestatic 147, 3) := by decide +kernel
theorem dX9_moved_92 : decode cX9_moved 92 = .ok (.istore 7, 2) := by decide +kernel
theorem dX9_moved_94 : decode cX9_moved 94 = .ok (.iload 5, 2) := by decide +kernel
theorem dX9_moved_96 : decode cX9_moved 96 = .ok (.ifCond .eq 26, 3) := by decide +kernel
theorem dX9_moved_99 : decode cX9_moved 99 = .ok (.iload 6, 2) := by decide +kernel
theorem dX9_moved_101 : decode cX9_moved 101 = .ok (.iload 7, 2) := by decide +kernel
theorem dX9_moved_103 : decode cX9_moved 103 = .ok (.if_icmp .eq 19, 3) := by decide +kernel
theorem dX9_moved_106 : decode cX9_moved 106 = .ok (.iload_n 2, 1) := by decide +kernel
theorem dX9_moved_107 : decode cX9_moved 107 = .ok (.iload_n 1, 1) := by decide +kernel
theorem dX9_moved_108 : decode cX9_moved 108 = .ok (.if_icmp .ne 11, 3) := by decide +kernel
theorem dX9_moved_111 : decode cX9_moved 111 = .ok (.bipush 10, 2) := by decide +kernel
theorem dX9_moved_113 : decode cX9_moved 113 = .ok (.iload_n 3, 1) := by decide +kernel
theorem dX9_moved_114 : decode cX9_moved 114 = .ok (.imul, 1) := by decide +kernel
theorem dX9_moved_115 : decode cX9_moved 115 = .ok (.iload 4, 2) := by decide +kernel
theorem dX9_moved_117 : decode cX9_moved 117 = .ok (.iadd, 1) := by decide +kernel
theorem dX9_moved_118 : decode cX9_moved 118 = .ok (.ireturn, 1) := by decide +kernel
theorem dX9_moved_119 : decode cX9_moved 119 = .ok (.iinc 2 1, 3) := by decide +kernel
theorem dX9_moved_122 : decode cX9_moved 122 = .ok (.iinc 4 1, 3) := by decide +kernel
theorem dX9_moved_125 : decode cX9_moved 125 = .ok (.goto (-108), 3) := by decide +kernel
theorem dX9_moved_128 : decode cX9_moved 128 = .ok (.iinc 3 1, 3) := by decide +kernel
theorem dX9_moved_131 : decode cX9_moved 131 = .ok (.goto (-127), 3) := by decide +kernel
theorem dX9_moved_134 : decode cX9_moved 134 = .ok (.iload_n 1, 1) := by decide +kernel
theorem dX9_moved_135 : decode cX9_moved 135 = .ok (.iconst (-1), 1) := by decide +kernel
theorem dX9_moved_136 : decode cX9_moved 136 = .ok (.if_icmp .ne 7, 3) := by decide +kernel
theorem dX9_moved_139 : decode cX9_moved 139 = .ok (.iload_n 2, 1) := by decide +kernel
theorem dX9_moved_140 : decode cX9_moved 140 = .ok (.goto 5, 3) := by decide +kernel
theorem dX9_moved_143 : decode cX9_moved 143 = .ok (.bipush (-6), 2) := by decide +kernel
theorem dX9_moved_145 : decode cX9_moved 145 = .ok (.ireturn, 1) := by decide +kernel
theorem dX9_findOrder_0 : decode cX9_findOrder 0 = .ok (.aload_n 0, 1) := by decide +kernel
theorem dX9_findOrder_1 : decode cX9_findOrder 1 = .ok (.invokevirtual 138, 3) := by decide +kernel
theorem dX9_findOrder_4 : decode cX9_findOrder 4 = .ok (.aload_n 0, 1) := by decide +kernel
theorem dX9_findOrder_5 : decode cX9_findOrder 5 = .ok (.iconst 0, 1) := by decide +kernel
theorem dX9_findOrder_6 : decode cX9_findOrder 6 = .ok (.putfield 150, 3) := by decide +kernel
theorem dX9_findOrder_9 : decode cX9_findOrder 9 = .ok (.iconst 0, 1) := by decide +kernel
theorem dX9_findOrder_10 : decode cX9_findOrder 10 = .ok (.istore_n 2, 1) := by decide +kernel
theorem dX9_findOrder_11 : decode cX9_findOrder 11 = .ok (.iload_n 2, 1) := by decide +kernel
theorem dX9_findOrder_12 : decode cX9_findOrder 12 = .ok (.aload_n 0, 1) := by decide +kernel
theorem dX9_findOrder_13 : decode cX9_findOrder 13 = .ok (.getfield 66, 3) := by decide +kernel
theorem dX9_findOrder_16 : decode cX9_findOrder 16 = .ok (.if_icmp .ge 85, 3) := by decide +kernel
theorem dX9_findOrder_19 : decode cX9_findOrder 19 = .ok (.aload_n 0, 1) := by decide +kernel
theorem dX9_findOrder_20 : decode cX9_findOrder 20 = .ok (.iload_n 2, 1) := by decide +kernel
theorem dX9_findOrder_21 : decode cX9_findOrder 21 = .ok (.invokevirtual 132, 3) := by decide +kernel
theorem dX9_findOrder_24 : decode cX9_findOrder 24 = .ok (.ifCond .lt 71, 3) := by decide +kernel
theorem dX9_findOrder_27 : decode cX9_findOrder 27 = .ok (.aload_n 0, 1) := by decide +kernel
theorem dX9_findOrder_28 : decode cX9_findOrder 28 = .ok (.getfield 150, 3) := by decide +kernel
theorem dX9_findOrder_31 : decode cX9_findOrder 31 = .ok (.istore_n 3, 1) := by decide +kernel
theorem dX9_findOrder_32 : decode cX9_findOrder 32 = .ok (.iload_n 3, 1) := by decide +kernel
theorem dX9_findOrder_33 : decode cX9_findOrder 33 = .ok (.ifCond .le 45, 3) := by decide +kernel
theorem dX9_findOrder_36 : decode cX9_findOrder 36 = .ok (.aload_n 0, 1) := by decide +kernel
theorem dX9_findOrder_37 : decode cX9_findOrder 37 = .ok (.aload_n 0, 1) := by decide +kernel
theorem dX9_findOrder_38 : decode cX9_findOrder 38 = .ok (.getfield 32, 3) := by decide +kernel
theorem dX9_findOrder_41 : decode cX9_findOrder 41 = .ok (.iload_n 3, 1) := by decide +kernel
theorem dX9_findOrder_42 : decode cX9_findOrder 42 = .ok (.iconst 1, 1) := by decide +kernel
theorem dX9_findOrder_43 : decode cX9_findOrder 43 = .ok (.isub, 1) := by decide +kernel
theorem dX9_findOrder_44 : decode cX9_findOrder 44 = .ok (.iaload, 1) := by decide +kernel
theorem dX9_findOrder_45 : decode cX9_findOrder 45 = .ok (.iload_n 1, 1) := by decide +kernel
theorem dX9_findOrder_46 : decode cX9_findOrder 46 = .ok (.invokevirtual 153, 3) := by decide +kernel
theorem dX9_findOrder_49 : decode cX9_findOrder 49 = .ok (.aload_n 0, 1) := by decide +kernel
theorem dX9_findOrder_50 : decode cX9_findOrder 50 = .ok (.iload_n 2, 1) := by decide +kernel
theorem dX9_findOrder_51 : decode cX9_findOrder 51 = .ok (.iload_n 1, 1) := by decide +kernel
theorem dX9_findOrder_52 : decode cX9_findOrder 52 = .ok (.invokevirtual 153, 3) := by decide +kernel
theorem dX9_findOrder_55 : decode cX9_findOrder 55 = .ok (.if_icmp .le 23, 3) := by decide +kernel
theorem dX9_findOrder_58 : decode cX9_findOrder 58 = .ok (.aload_n 0, 1) := by decide +kernel
theorem dX9_findOrder_59 : decode cX9_findOrder 59 = .ok (.getfield 32, 3) := by decide +kernel
theorem dX9_findOrder_62 : decode cX9_findOrder 62 = .ok (.iload_n 3, 1) := by decide +kernel
theorem dX9_findOrder_63 : decode cX9_findOrder 63 = .ok (.aload_n 0, 1) := by decide +kernel
theorem dX9_findOrder_64 : decode cX9_findOrder 64 = .ok (.getfield 32, 3) := by decide +kernel
theorem dX9_findOrder_67 : decode cX9_findOrder 67 = .ok (.iload_n 3, 1) := by decide +kernel
theorem dX9_findOrder_68 : decode cX9_findOrder 68 = .ok (.iconst 1, 1) := by decide +kernel
theorem dX9_findOrder_69 : decode cX9_findOrder 69 = .ok (.isub, 1) := by decide +kernel
theorem dX9_findOrder_70 : decode cX9_findOrder 70 = .ok (.iaload, 1) := by decide +kernel
theorem dX9_findOrder_71 : decode cX9_findOrder 71 = .ok (.iastore, 1) := by decide +kernel
theorem dX9_findOrder_72 : decode cX9_findOrder 72 = .ok (.iinc 3 (-1), 3) := by decide +kernel
theorem dX9_findOrder_75 : decode cX9_findOrder 75 = .ok (.goto (-43), 3) := by decide +kernel
theorem dX9_findOrder_78 : decode cX9_findOrder 78 = .ok (.aload_n 0, 1) := by decide +kernel
theorem dX9_findOrder_79 : decode cX9_findOrder 79 = .ok (.getfield 32, 3) := by decide +kernel
theorem dX9_findOrder_82 : decode cX9_findOrder 82 = .ok (.iload_n 3, 1) := by decide +kernel
theorem dX9_findOrder_83 : decode cX9_findOrder 83 = .ok (.iload_n 2, 1) := by decide +kernel
theorem dX9_findOrder_84 : decode cX9_findOrder 84 = .ok (.iastore, 1) := by decide +kernel
theorem dX9_findOrder_85 : decode cX9_findOrder 85 = .ok (.aload_n 0, 1) := by decide +kernel
theorem dX9_findOrder_86 : decode cX9_findOrder 86 = .ok (.dup, 1) := by decide +kernel
theorem dX9_findOrder_87 : decode cX9_findOrder 87 = .ok (.getfield 150, 3) := by decide +kernel
theorem dX9_findOrder_90 : decode cX9_findOrder 90 = .ok (.iconst 1, 1) := by decide +kernel
theorem dX9_findOrder_91 : decode cX9_findOrder 91 = .ok (.iadd, 1) := by decide +kernel
theorem dX9_findOrder_92 : decode cX9_findOrder 92 = .ok (.putfield 150, 3) := by decide +kernel
theorem dX9_findOrder_95 : decode cX9_findOrder 95 = .ok (.iinc 2 1, 3) := by decide +kernel
theorem dX9_findOrder_98 : decode cX9_findOrder 98 = .ok (.goto (-87), 3) := by decide +kernel
theorem dX9_findOrder_101 : decode cX9_findOrder 101 = .ok (.return_, 1) := by decide +kernel
theorem dX9_timeOf_0 : decode cX9_timeOf 0 = .ok (.aload_n 0, 1) := by decide +kernel
theorem dX9_timeOf_1 : decode cX9_timeOf 1 = .ok (.iload_n 1, 1) := by decide +kernel
theorem dX9_timeOf_2 : decode cX9_timeOf 2 = .ok (.invokevirtual 132, 3) := by decide +kernel
theorem dX9_timeOf_5 : decode cX9_timeOf 5 = .ok (.iload_n 2, 1) := by decide +kernel
theorem dX9_timeOf_6 : decode cX9_timeOf 6 = .ok (.ifCond .eq 11, 3) := by decide +kernel
theorem dX9_timeOf_9 : decode cX9_timeOf 9 = .ok (.aload_n 0, 1) := by decide +kernel
theorem dX9_timeOf_10 : decode cX9_timeOf 10 = .ok (.iload_n 1, 1) := by decide +kernel
theorem dX9_timeOf_11 : decode cX9_timeOf 11 = .ok (.invokevirtual 144, 3) := by decide +kernel
theorem dX9_timeOf_14 : decode cX9_timeOf 14 = .ok (.goto 4, 3) := by decide +kernel
theorem dX9_timeOf_17 : decode cX9_timeOf 17 = .ok (.iconst 0, 1) := by decide +kernel
theorem dX9_timeOf_18 : decode cX9_timeOf 18 = .ok (.isub, 1) := by decide +kernel
theorem dX9_timeOf_19 : decode cX9_timeOf 19 = .ok (.ireturn, 1) := by decide +kernel
theorem dX9_order_0 : decode cX9_order 0 = .ok (.aload_n 0, 1) := by decide +kernel
theorem dX9_order_1 : decode cX9_order 1 = .ok (.iconst 0, 1) := by decide +kernel
theorem dX9_order_2 : decode cX9_order 2 = .ok (.invokevirtual 157, 3) := by decide +kernel
theorem dX9_order_5 : decode cX9_order 5 = .ok (.iload_n 1, 1) := by decide +kernel
theorem dX9_order_6 : decode cX9_order 6 = .ok (.iconst (-1), 1) := by decide +kernel
theorem dX9_order_7 : decode cX9_order 7 = .ok (.if_icmp .ne 10, 3) := by decide +kernel
theorem dX9_order_10 : decode cX9_order 10 = .ok (.aload_n 0, 1) := by decide +kernel
theorem dX9_order_11 : decode cX9_order 11 = .ok (.getfield 150, 3) := by decide +kernel
theorem dX9_order_14 : decode cX9_order 14 = .ok (.goto 30, 3) := by decide +kernel
theorem dX9_order_17 : decode cX9_order 17 = .ok (.iload_n 1, 1) := by decide +kernel
theorem dX9_order_18 : decode cX9_order 18 = .ok (.i2l, 1) := by decide +kernel
theorem dX9_order_19 : decode cX9_order 19 = .ok (.lconst 0, 1) := by decide +kernel
theorem dX9_order_20 : decode cX9_order 20 = .ok (.aload_n 0, 1) := by decide +kernel
theorem dX9_order_21 : decode cX9_order 21 = .ok (.getfield 150, 3) := by decide +kernel
theorem dX9_order_24 : decode cX9_order 24 = .ok (.iconst 1, 1) := by decide +kernel
theorem dX9_order_25 : decode cX9_order 25 = .ok (.isub, 1) := by decide +kernel
theorem dX9_order_26 : decode cX9_order 26 = .ok (.i2l, 1) := by decide +kernel
theorem dX9_order_27 : decode cX9_order 27 = .ok (.invokestatic 69, 3) := by decide +kernel
theorem dX9_order_30 : decode cX9_order 30 = .ok (.ifCond .eq 12, 3) := by decide +kernel
theorem dX9_order_33 : decode cX9_order 33 = .ok (.aload_n 0, 1) := by decide +kernel
theorem dX9_order_34 : decode cX9_order 34 = .ok (.getfield 32, 3) := by decide +kernel
theorem dX9_order_37 : decode cX9_order 37 = .ok (.iload_n 1, 1) := by decide +kernel
theorem dX9_order_38 : decode cX9_order 38 = .ok (.iaload, 1) := by decide +kernel
theorem dX9_order_39 : decode cX9_order 39 = .ok (.goto 5, 3) := by decide +kernel
theorem dX9_order_42 : decode cX9_order 42 = .ok (.bipush (-6), 2) := by decide +kernel
theorem dX9_order_44 : decode cX9_order 44 = .ok (.ireturn, 1) := by decide +kernel
theorem dX9_place_0 : decode cX9_place 0 = .ok (.aload_n 0, 1) := by decide +kernel
theorem dX9_place_1 : decode cX9_place 1 = .ok (.iload_n 1, 1) := by decide +kernel
theorem dX9_place_2 : decode cX9_place 2 = .ok (.invokevirtual 79, 3) := by decide +kernel
theorem dX9_place_5 : decode cX9_place 5 = .ok (.ifCond .ne 5, 3) := by decide +kernel
theorem dX9_place_8 : decode cX9_place 8 = .ok (.iconst (-1), 1) := by decide +kernel
theorem dX9_place_9 : decode cX9_place 9 = .ok (.ireturn, 1) := by decide +kernel
theorem dX9_place_10 : decode cX9_place 10 = .ok (.iload_n 2, 1) := by decide +kernel
theorem dX9_place_11 : decode cX9_place 11 = .ok (.i2l, 1) := by decide +kernel
theorem dX9_place_12 : decode cX9_place 12 = .ok (.lconst 0, 1) := by decide +kernel
theorem dX9_place_13 : decode cX9_place 13 = .ok (.lconst 1, 1) := by decide +kernel
theorem dX9_place_14 : decode cX9_place 14 = .ok (.invokestatic 69, 3) := by decide +kernel
theorem dX9_place_17 : decode cX9_place 17 = .ok (.ifCond .ne 6, 3) := by decide +kernel
theorem dX9_place_20 : decode cX9_place 20 = .ok (.bipush (-2), 2) := by decide +kernel
theorem dX9_place_22 : decode cX9_place 22 = .ok (.ireturn, 1) := by decide +kernel
theorem dX9_place_23 : decode cX9_place 23 = .ok (.aload_n 0, 1) := by decide +kernel
theorem dX9_place_24 : decode cX9_place 24 = .ok (.iconst 0, 1) := by decide +kernel
theorem dX9_place_25 : decode cX9_place 25 = .ok (.invokevirtual 157, 3) := by decide +kernel
theorem dX9_place_28 : decode cX9_place 28 = .ok (.iconst 0, 1) := by decide +kernel
theorem dX9_place_29 : decode cX9_place 29 = .ok (.istore_n 3, 1) := by decide +kernel
theorem dX9_place_30 : decode cX9_place 30 = .ok (.iconst 0, 1) := by decide +kernel
theorem dX9_place_31 : decode cX9_place 31 = .ok (.istore 4, 2) := by decide +kernel
theorem dX9_place_33 : decode cX9_place 33 = .ok (.iload 4, 2) := by decide +kernel
theorem dX9_place_35 : decode cX9_place 35 = .ok (.aload_n 0, 1) := by decide +kernel
theorem dX9_place_36 : decode cX9_place 36 = .ok (.getfield 150, 3) := by decide +kernel
theorem dX9_place_39 : decode cX9_place 39 = .ok (.if_icmp .ge 84, 3) := by decide +kernel
theorem dX9_place_42 : decode cX9_place 42 = .ok (.iload 4, 2) := by decide +kernel
theorem dX9_place_44 : decode cX9_place 44 = .ok (.ifCond .ne 7, 3) := by decide +kernel
theorem dX9_place_47 : decode cX9_place 47 = .ok (.iconst 0, 1) := by decide +kernel
theorem dX9_place_48 : decode cX9_place 48 = .ok (.goto 15, 3) := by decide +kernel
theorem dX9_place_51 : decode cX9_place 51 = .ok (.iload_n 2, 1) := by decide +kernel
theorem dX9_place_52 : decode cX9_place 52 = .ok (.ifCond .ne 10, 3) := by decide +kernel
theorem dX9_place_55 : decode cX9_place 55 = .ok (.iload 4, 2) := by decide +kernel
theorem dX9_place_57 : decode cX9_place 57 = .ok (.iconst 1, 1) := by decide +kernel
theorem dX9_place_58 : decode cX9_place 58 = .ok (.isub, 1) := by decide +kernel
theorem dX9_place_59 : decode cX9_place 59 = .ok (.goto 4, 3) := by decide +kernel
theorem dX9_place_62 : decode cX9_place 62 = .ok (.iload_n 3, 1) := by decide +kernel
theorem dX9_place_63 : decode cX9_place 63 = .ok (.istore 5, 2) := by decide +kernel
theorem dX9_place_65 : decode cX9_place 65 = .ok (.aload_n 0, 1) := by decide +kernel
theorem dX9_place_66 : decode cX9_place 66 = .ok (.aload_n 0, 1) := by decide +kernel
theorem dX9_place_67 : decode cX9_place 67 = .ok (.getfield 32, 3) := by decide +kernel
theorem dX9_place_70 : decode cX9_place 70 = .ok (.iload 4, 2) := by decide +kernel
theorem dX9_place_72 : decode cX9_place 72 = .ok (.iaload, 1) := by decide +kernel
theorem dX9_place_73 : decode cX9_place 73 = .ok (.invokevirtual 132, 3) := by decide +kernel
theorem dX9_place_76 : decode cX9_place 76 = .ok (.aload_n 0, 1) := by decide +kernel
theorem dX9_place_77 : decode cX9_place 77 = .ok (.aload_n 0, 1) := by decide +kernel
theorem dX9_place_78 : decode cX9_place 78 = .ok (.getfield 32, 3) := by decide +kernel
theorem dX9_place_81 : decode cX9_place 81 = .ok (.iload 5, 2) := by decide +kernel
theorem dX9_place_83 : decode cX9_place 83 = .ok (.iaload, 1) := by decide +kernel
theorem dX9_place_84 : decode cX9_place 84 = .ok (.invokevirtual 132, 3) := by decide +kernel
theorem dX9_place_87 : decode cX9_place 87 = .ok (.isub, 1) := by decide +kernel
theorem dX9_place_88 : decode cX9_place 88 = .ok (.aload_n 0, 1) := by decide +kernel
theorem dX9_place_89 : decode cX9_place 89 = .ok (.getfield 97, 3) := by decide +kernel
theorem dX9_place_92 : decode cX9_place 92 = .ok (.if_icmp .le 8, 3) := by decide +kernel
theorem dX9_place_95 : decode cX9_place 95 = .ok (.iload 4, 2) := by decide +kernel
theorem dX9_place_97 : decode cX9_place 97 = .ok (.goto 4, 3) := by decide +kernel
theorem dX9_place_100 : decode cX9_place 100 = .ok (.iload_n 3, 1) := by decide +kernel
theorem dX9_place_101 : decode cX9_place 101 = .ok (.istore_n 3, 1) := by decide +kernel
theorem dX9_place_102 : decode cX9_place 102 = .ok (.aload_n 0, 1) := by decide +kernel
theorem dX9_place_103 : decode cX9_place 103 = .ok (.getfield 32, 3) := by decide +kernel
theorem dX9_place_106 : decode cX9_place 106 = .ok (.iload 4, 2) := by decide +kernel
theorem dX9_place_108 : decode cX9_place 108 = .ok (.iaload, 1) := by decide +kernel
theorem dX9_place_109 : decode cX9_place 109 = .ok (.iload_n 1, 1) := by decide +kernel
theorem dX9_place_110 : decode cX9_place 110 = .ok (.if_icmp .ne 7, 3) := by decide +kernel
theorem dX9_place_113 : decode cX9_place 113 = .ok (.iload_n 3, 1) := by decide +kernel
theorem dX9_place_114 : decode cX9_place 114 = .ok (.iconst 1, 1) := by decide +kernel
theorem dX9_place_115 : decode cX9_place 115 = .ok (.iadd, 1) := by decide +kernel
theorem dX9_place_116 : decode cX9_place 116 = .ok (.ireturn, 1) := by decide +kernel
theorem dX9_place_117 : decode cX9_place 117 = .ok (.iinc 4 1, 3) := by decide +kernel
theorem dX9_place_120 : decode cX9_place 120 = .ok (.goto (-87), 3) := by decide +kernel
theorem dX9_place_123 : decode cX9_place 123 = .ok (.bipush (-6), 2) := by decide +kernel
theorem dX9_place_125 : decode cX9_place 125 = .ok (.ireturn, 1) := by decide +kernel
theorem dX9_stretch_0 : decode cX9_stretch 0 = .ok (.aload_n 0, 1) := by decide +kernel
theorem dX9_stretch_1 : decode cX9_stretch 1 = .ok (.iload_n 1, 1) := by decide +kernel
theorem dX9_stretch_2 : decode cX9_stretch 2 = .ok (.invokevirtual 79, 3) := by decide +kernel
theorem dX9_stretch_5 : decode cX9_stretch 5 = .ok (.ifCond .eq 10, 3) := by decide +kernel
theorem dX9_stretch_8 : decode cX9_stretch 8 = .ok (.iload_n 2, 1) := by decide +kernel
theorem dX9_stretch_9 : decode cX9_stretch 9 = .ok (.invokestatic 83, 3) := by decide +kernel
theorem dX9_stretch_12 : decode cX9_stretch 12 = .ok (.ifCond .ne 5, 3) := by decide +kernel
theorem dX9_stretch_15 : decode cX9_stretch 15 = .ok (.iconst (-1), 1) := by decide +kernel
theorem dX9_stretch_16 : decode cX9_stretch 16 = .ok (.ireturn, 1) := by decide +kernel
theorem dX9_stretch_17 : decode cX9_stretch 17 = .ok (.iconst 0, 1) := by decide +kernel
theorem dX9_stretch_18 : decode cX9_stretch 18 = .ok (.istore_n 3, 1) := by decide +kernel
theorem dX9_stretch_19 : decode cX9_stretch 19 = .ok (.iconst 0, 1) := by decide +kernel
theorem dX9_stretch_20 : decode cX9_stretch 20 = .ok (.istore 4, 2) := by decide +kernel
theorem dX9_stretch_22 : decode cX9_stretch 22 = .ok (.iload 4, 2) := by decide +kernel
theorem dX9_stretch_24 : decode cX9_stretch 24 = .ok (.sipush 300, 3) := by decide +kernel
theorem dX9_stretch_27 : decode cX9_stretch 27 = .ok (.if_icmp .ge 29, 3) := by decide +kernel
theorem dX9_stretch_30 : decode cX9_stretch 30 = .ok (.iload_n 3, 1) := by decide +kernel
theorem dX9_stretch_31 : decode cX9_stretch 31 = .ok (.aload_n 0, 1) := by decide +kernel
theorem dX9_stretch_32 : decode cX9_stretch 32 = .ok (.iload_n 1, 1) := by decide +kernel
theorem dX9_stretch_33 : decode cX9_stretch 33 = .ok (.iload_n 2, 1) := by decide +kernel
theorem dX9_stretch_34 : decode cX9_stretch 34 = .ok (.iconst 1, 1) := by decide +kernel
theorem dX9_stretch_35 : decode cX9_stretch 35 = .ok (.iload 4, 2) := by decide +kernel
theorem dX9_stretch_37 : decode cX9_stretch 37 = .ok (.invokevirtual 113, 3) := by decide +kernel
theorem dX9_stretch_40 : decode cX9_stretch 40 = .ok (.ifCond .eq 7, 3) := by decide +kernel
theorem dX9_stretch_43 : decode cX9_stretch 43 = .ok (.iconst 1, 1) := by decide +kernel
theorem dX9_stretch_44 : decode cX9_stretch 44 = .ok (.goto 4, 3) := by decide +kernel
theorem dX9_stretch_47 : decode cX9_stretch 47 = .ok (.iconst 0, 1) := by decide +kernel
theorem dX9_stretch_48 : decode cX9_stretch 48 = .ok (.iadd, 1) := by decide +kernel
theorem dX9_stretch_49 : decode cX9_stretch 49 = .ok (.istore_n 3, 1) := by decide +kernel
theorem dX9_stretch_50 : decode cX9_stretch 50 = .ok (.iinc 4 1, 3) := by decide +kernel
theorem dX9_stretch_53 : decode cX9_stretch 53 = .ok (.goto (-31), 3) := by decide +kernel
theorem dX9_stretch_56 : decode cX9_stretch 56 = .ok (.iload_n 3, 1) := by decide +kernel
theorem dX9_stretch_57 : decode cX9_stretch 57 = .ok (.ireturn, 1) := by decide +kernel
theorem dX9_speeds_0 : decode cX9_speeds 0 = .ok (.iload_n 1, 1) := by decide +kernel
theorem dX9_speeds_1 : decode cX9_speeds 1 = .ok (.i2l, 1) := by decide +kernel
theorem dX9_speeds_2 : decode cX9_speeds 2 = .ok (.lconst 1, 1) := by decide +kernel
theorem dX9_speeds_3 : decode cX9_speeds 3 = .ok (.ldc2_w 161, 3) := by decide +kernel
theorem dX9_speeds_6 : decode cX9_speeds 6 = .ok (.invokestatic 69, 3) := by decide +kernel
theorem dX9_speeds_9 : decode cX9_speeds 9 = .ok (.ifCond .eq 25, 3) := by decide +kernel
theorem dX9_speeds_12 : decode cX9_speeds 12 = .ok (.iload_n 2, 1) := by decide +kernel
theorem dX9_speeds_13 : decode cX9_speeds 13 = .ok (.i2l, 1) := by decide +kernel
theorem dX9_speeds_14 : decode cX9_speeds 14 = .ok (.lconst 0, 1) := by decide +kernel
theorem dX9_speeds_15 : decode cX9_speeds 15 = .ok (.ldc2_w 163, 3) := by decide +kernel
theorem dX9_speeds_18 : decode cX9_speeds 18 = .ok (.invokestatic 69, 3) := by decide +kernel
theorem dX9_speeds_21 : decode cX9_speeds 21 = .ok (.ifCond .eq 13, 3) := by decide +kernel
theorem dX9_speeds_24 : decode cX9_speeds 24 = .ok (.iload_n 3, 1) := by decide +kernel
theorem dX9_speeds_25 : decode cX9_speeds 25 = .ok (.i2l, 1) := by decide +kernel
theorem dX9_speeds_26 : decode cX9_speeds 26 = .ok (.lconst 0, 1) := by decide +kernel
theorem dX9_speeds_27 : decode cX9_speeds 27 = .ok (.lconst 1, 1) := by decide +kernel
theorem dX9_speeds_28 : decode cX9_speeds 28 = .ok (.invokestatic 69, 3) := by decide +kernel
theorem dX9_speeds_31 : decode cX9_speeds 31 = .ok (.ifCond .ne 6, 3) := by decide +kernel
theorem dX9_speeds_34 : decode cX9_speeds 34 = .ok (.bipush (-2), 2) := by decide +kernel
theorem dX9_speeds_36 : decode cX9_speeds 36 = .ok (.ireturn, 1) := by decide +kernel
theorem dX9_speeds_37 : decode cX9_speeds 37 = .ok (.bipush (-6), 2) := by decide +kernel
theorem dX9_speeds_39 : decode cX9_speeds 39 = .ok (.istore 4, 2) := by decide +kernel
theorem dX9_speeds_41 : decode cX9_speeds 41 = .ok (.bipush (-6), 2) := by decide +kernel
theorem dX9_speeds_43 : decode cX9_speeds 43 = .ok (.istore 5, 2) := by decide +kernel
theorem dX9_speeds_45 : decode cX9_speeds 45 = .ok (.iconst 1, 1) := by decide +kernel
theorem dX9_speeds_46 : decode cX9_speeds 46 = .ok (.istore 6, 2) := by decide +kernel
theorem dX9_speeds_48 : decode cX9_speeds 48 = .ok (.iload 6, 2) := by decide +kernel
theorem dX9_speeds_50 : decode cX9_speeds 50 = .ok (.bipush 20, 2) := by decide +kernel
theorem dX9_speeds_52 : decode cX9_speeds 52 = .ok (.if_icmp .gt 48, 3) := by decide +kernel
theorem dX9_speeds_55 : decode cX9_speeds 55 = .ok (.iload_n 2, 1) := by decide +kernel
theorem dX9_speeds_56 : decode cX9_speeds 56 = .ok (.iload_n 1, 1) := by decide +kernel
theorem dX9_speeds_57 : decode cX9_speeds 57 = .ok (.iload 6, 2) := by decide +kernel
theorem dX9_speeds_59 : decode cX9_speeds 59 = .ok (.idiv, 1) := by decide +kernel
theorem dX9_speeds_60 : decode cX9_speeds 60 = .ok (.if_icmp .eq 16, 3) := by decide +kernel
theorem dX9_speeds_63 : decode cX9_speeds 63 = .ok (.iload_n 2, 1) := by decide +kernel
theorem dX9_speeds_64 : decode cX9_speeds 64 = .ok (.iload_n 1, 1) := by decide +kernel
theorem dX9_speeds_65 : decode cX9_speeds 65 = .ok (.iload 6, 2) := by decide +kernel
theorem dX9_speeds_67 : decode cX9_speeds 67 = .ok (.iadd, 1) := by decide +kernel
theorem dX9_speeds_68 : decode cX9_speeds 68 = .ok (.iconst 1, 1) := by decide +kernel
theorem dX9_speeds_69 : decode cX9_speeds 69 = .ok (.isub, 1) := by decide +kernel
theorem dX9_speeds_70 : decode cX9_speeds 70 = .ok (.iload 6, 2) := by decide +kernel
theorem dX9_speeds_72 : decode cX9_speeds 72 = .ok (.idiv, 1) := by decide +kernel
theorem dX9_speeds_73 : decode cX9_speeds 73 = .ok (.if_icmp .ne 21, 3) := by decide +kernel
theorem dX9_speeds_76 : decode cX9_speeds 76 = .ok (.iload 4, 2) := by decide +kernel
theorem dX9_speeds_78 : decode cX9_speeds 78 = .ok (.ifCond .ge 8, 3) := by decide +kernel
theorem dX9_speeds_81 : decode cX9_speeds 81 = .ok (.iload 6, 2) := by decide +kernel
theorem dX9_speeds_83 : decode cX9_speeds 83 = .ok (.goto 5, 3) := by decide +kernel
theorem dX9_speeds_86 : decode cX9_speeds 86 = .ok (.iload 4, 2) := by decide +kernel
theorem dX9_speeds_88 : decode cX9_speeds 88 = .ok (.istore 4, 2) := by decide +kernel
theorem dX9_speeds_90 : decode cX9_speeds 90 = .ok (.iload 6, 2) := by decide +kernel
theorem dX9_speeds_92 : decode cX9_speeds 92 = .ok (.istore 5, 2) := by decide +kernel
theorem dX9_speeds_94 : decode cX9_speeds 94 = .ok (.iinc 6 1, 3) := by decide +kernel
theorem dX9_speeds_97 : decode cX9_speeds 97 = .ok (.goto (-49), 3) := by decide +kernel
theorem dX9_speeds_100 : decode cX9_speeds 100 = .ok (.iload_n 3, 1) := by decide +kernel
theorem dX9_speeds_101 : decode cX9_speeds 101 = .ok (.ifCond .ne 8, 3) := by decide +kernel
theorem dX9_speeds_104 : decode cX9_speeds 104 = .ok (.iload 4, 2) := by decide +kernel
theorem dX9_speeds_106 : decode cX9_speeds 106 = .ok (.goto 5, 3) := by decide +kernel
theorem dX9_speeds_109 : decode cX9_speeds 109 = .ok (.iload 5, 2) := by decide +kernel
theorem dX9_speeds_111 : decode cX9_speeds 111 = .ok (.ireturn, 1) := by decide +kernel
theorem dX9_push_0 : decode cX9_push 0 = .ok (.aload_n 0, 1) := by decide +kernel
theorem dX9_push_1 : decode cX9_push 1 = .ok (.iload_n 1, 1) := by decide +kernel
theorem dX9_push_2 : decode cX9_push 2 = .ok (.invokevirtual 79, 3) := by decide +kernel
theorem dX9_push_5 : decode cX9_push 5 = .ok (.ifCond .ne 5, 3) := by decide +kernel
theorem dX9_push_8 : decode cX9_push 8 = .ok (.iconst (-1), 1) := by decide +kernel
theorem dX9_push_9 : decode cX9_push 9 = .ok (.ireturn, 1) := by decide +kernel
theorem dX9_push_10 : decode cX9_push 10 = .ok (.iload_n 2, 1) := by decide +kernel
theorem dX9_push_11 : decode cX9_push 11 = .ok (.i2l, 1) := by decide +kernel
theorem dX9_push_12 : decode cX9_push 12 = .ok (.ldc2_w 165, 3) := by decide +kernel
theorem dX9_push_15 : decode cX9_push 15 = .ok (.ldc2_w 117, 3) := by decide +kernel
theorem dX9_push_18 : decode cX9_push 18 = .ok (.invokestatic 69, 3) := by decide +kernel
theorem dX9_push_21 : decode cX9_push 21 = .ok (.ifCond .ne 6, 3) := by decide +kernel
theorem dX9_push_24 : decode cX9_push 24 = .ok (.bipush (-2), 2) := by decide +kernel
theorem dX9_push_26 : decode cX9_push 26 = .ok (.ireturn, 1) := by decide +kernel
theorem dX9_push_27 : decode cX9_push 27 = .ok (.aload_n 0, 1) := by decide +kernel
theorem dX9_push_28 : decode cX9_push 28 = .ok (.getfield 26, 3) := by decide +kernel
theorem dX9_push_31 : decode cX9_push 31 = .ok (.iload_n 1, 1) := by decide +kernel
theorem dX9_push_32 : decode cX9_push 32 = .ok (.iaload, 1) := by decide +kernel
theorem dX9_push_33 : decode cX9_push 33 = .ok (.istore_n 3, 1) := by decide +kernel
theorem dX9_push_34 : decode cX9_push 34 = .ok (.aload_n 0, 1) := by decide +kernel
theorem dX9_push_35 : decode cX9_push 35 = .ok (.getfield 26, 3) := by decide +kernel
theorem dX9_push_38 : decode cX9_push 38 = .ok (.iload_n 1, 1) := by decide +kernel
theorem dX9_push_39 : decode cX9_push 39 = .ok (.iload_n 2, 1) := by decide +kernel
theorem dX9_push_40 : decode cX9_push 40 = .ok (.ifCond .ge 8, 3) := by decide +kernel
theorem dX9_push_43 : decode cX9_push 43 = .ok (.bipush (-6), 2) := by decide +kernel
theorem dX9_push_45 : decode cX9_push 45 = .ok (.goto 4, 3) := by decide +kernel
theorem dX9_push_48 : decode cX9_push 48 = .ok (.iload_n 2, 1) := by decide +kernel
theorem dX9_push_49 : decode cX9_push 49 = .ok (.iastore, 1) := by decide +kernel
theorem dX9_push_50 : decode cX9_push 50 = .ok (.iload_n 3, 1) := by decide +kernel
theorem dX9_push_51 : decode cX9_push 51 = .ok (.ireturn, 1) := by decide +kernel
theorem dX9_mended_0 : decode cX9_mended 0 = .ok (.aload_n 0, 1) := by decide +kernel
theorem dX9_mended_1 : decode cX9_mended 1 = .ok (.iconst 1, 1) := by decide +kernel
theorem dX9_mended_2 : decode cX9_mended 2 = .ok (.invokevirtual 157, 3) := by decide +kernel
theorem dX9_mended_5 : decode cX9_mended 5 = .ok (.iload_n 1, 1) := by decide +kernel
theorem dX9_mended_6 : decode cX9_mended 6 = .ok (.i2l, 1) := by decide +kernel
theorem dX9_mended_7 : decode cX9_mended 7 = .ok (.lconst 0, 1) := by decide +kernel
theorem dX9_mended_8 : decode cX9_mended 8 = .ok (.aload_n 0, 1) := by decide +kernel
theorem dX9_mended_9 : decode cX9_mended 9 = .ok (.getfield 150, 3) := by decide +kernel
theorem dX9_mended_12 : decode cX9_mended 12 = .ok (.iconst 1, 1) := by decide +kernel
theorem dX9_mended_13 : decode cX9_mended 13 = .ok (.isub, 1) := by decide +kernel
theorem dX9_mended_14 : decode cX9_mended 14 = .ok (.i2l, 1) := by decide +kernel
theorem dX9_mended_15 : decode cX9_mended 15 = .ok (.invokestatic 69, 3) := by decide +kernel
theorem dX9_mended_18 : decode cX9_mended 18 = .ok (.ifCond .eq 12, 3) := by decide +kernel
theorem dX9_mended_21 : decode cX9_mended 21 = .ok (.aload_n 0, 1) := by decide +kernel
theorem dX9_mended_22 : decode cX9_mended 22 = .ok (.getfield 32, 3) := by decide +kernel
theorem dX9_mended_25 : decode cX9_mended 25 = .ok (.iload_n 1, 1) := by decide +kernel
theorem dX9_mended_26 : decode cX9_mended 26 = .ok (.iaload, 1) := by decide +kernel
theorem dX9_mended_27 : decode cX9_mended 27 = .ok (.goto 5, 3) := by decide +kernel
theorem dX9_mended_30 : decode cX9_mended 30 = .ok (.bipush (-6), 2) := by decide +kernel
theorem dX9_mended_32 : decode cX9_mended 32 = .ok (.ireturn, 1) := by decide +kernel
theorem dX9_power_0 : decode cX9_power 0 = .ok (.lconst 1, 1) := by decide +kernel
theorem dX9_power_1 : decode cX9_power 1 = .ok (.lstore_n 3, 1) := by decide +kernel
theorem dX9_power_2 : decode cX9_power 2 = .ok (.iconst 0, 1) := by decide +kernel
theorem dX9_power_3 : decode cX9_power 3 = .ok (.istore 5, 2) := by decide +kernel
theorem dX9_power_5 : decode cX9_power 5 = .ok (.iload 5, 2) := by decide +kernel
theorem dX9_power_7 : decode cX9_power 7 = .ok (.iload_n 2, 1) := by decide +kernel
theorem dX9_power_8 : decode cX9_power 8 = .ok (.if_icmp .ge 13, 3) := by decide +kernel
theorem dX9_power_11 : decode cX9_power 11 = .ok (.lload_n 3, 1) := by decide +kernel
theorem dX9_power_12 : decode cX9_power 12 = .ok (.lload_n 0, 1) := by decide +kernel
theorem dX9_power_13 : decode cX9_power 13 = .ok (.lmul, 1) := by decide +kernel
theorem dX9_power_14 : decode cX9_power 14 = .ok (.lstore_n 3, 1) := by decide +kernel
theorem dX9_power_15 : decode cX9_power 15 = .ok (.iinc 5 1, 3) := by decide +kernel
theorem dX9_power_18 : decode cX9_power 18 = .ok (.goto (-13), 3) := by decide +kernel
theorem dX9_power_21 : decode cX9_power 21 = .ok (.lload_n 3, 1) := by decide +kernel
theorem dX9_power_22 : decode cX9_power 22 = .ok (.lreturn, 1) := by decide +kernel
theorem dX9_wrong_0 : decode cX9_wrong 0 = .ok (.iload_n 1, 1) := by decide +kernel
theorem dX9_wrong_1 : decode cX9_wrong 1 = .ok (.i2l, 1) := by decide +kernel
theorem dX9_wrong_2 : decode cX9_wrong 2 = .ok (.lconst 0, 1) := by decide +kernel
theorem dX9_wrong_3 : decode cX9_wrong 3 = .ok (.iload_n 2, 1) := by decide +kernel
theorem dX9_wrong_4 : decode cX9_wrong 4 = .ok (.i2l, 1) := by decide +kernel
theorem dX9_wrong_5 : decode cX9_wrong 5 = .ok (.invokestatic 69, 3) := by decide +kernel
theorem dX9_wrong_8 : decode cX9_wrong 8 = .ok (.ifCond .eq 38, 3) := by decide +kernel
theorem dX9_wrong_11 : decode cX9_wrong 11 = .ok (.iload_n 2, 1) := by decide +kernel
theorem dX9_wrong_12 : decode cX9_wrong 12 = .ok (.i2l, 1) := by decide +kernel
theorem dX9_wrong_13 : decode cX9_wrong 13 = .ok (.lconst 0, 1) := by decide +kernel
theorem dX9_wrong_14 : decode cX9_wrong 14 = .ok (.ldc2_w 107, 3) := by decide +kernel
theorem dX9_wrong_17 : decode cX9_wrong 17 = .ok (.invokestatic 69, 3) := by decide +kernel
theorem dX9_wrong_20 : decode cX9_wrong 20 = .ok (.ifCond .eq 26, 3) := by decide +kernel
theorem dX9_wrong_23 : decode cX9_wrong 23 = .ok (.iload_n 3, 1) := by decide +kernel
theorem dX9_wrong_24 : decode cX9_wrong 24 = .ok (.i2l, 1) := by decide +kernel
theorem dX9_wrong_25 : decode cX9_wrong 25 = .ok (.lconst 1, 1) := by decide +kernel
theorem dX9_wrong_26 : decode cX9_wrong 26 = .ok (.ldc2_w 167, 3) := by decide +kernel
theorem dX9_wrong_29 : decode cX9_wrong 29 = .ok (.invokestatic 69, 3) := by decide +kernel
theorem dX9_wrong_32 : decode cX9_wrong 32 = .ok (.ifCond .eq 14, 3) := by decide +kernel
theorem dX9_wrong_35 : decode cX9_wrong 35 = .ok (.iload 4, 2) := by decide +kernel
theorem dX9_wrong_37 : decode cX9_wrong 37 = .ok (.i2l, 1) := by decide +kernel
theorem dX9_wrong_38 : decode cX9_wrong 38 = .ok (.lconst 0, 1) := by decide +kernel
theorem dX9_wrong_39 : decode cX9_wrong 39 = .ok (.lconst 1, 1) := by decide +kernel
theorem dX9_wrong_40 : decode cX9_wrong 40 = .ok (.invokestatic 69, 3) := by decide +kernel
theorem dX9_wrong_43 : decode cX9_wrong 43 = .ok (.ifCond .ne 7, 3) := by decide +kernel
theorem dX9_wrong_46 : decode cX9_wrong 46 = .ok (.ldc2_w 169, 3) := by decide +kernel
theorem dX9_wrong_49 : decode cX9_wrong 49 = .ok (.lreturn, 1) := by decide +kernel
theorem dX9_wrong_50 : decode cX9_wrong 50 = .ok (.iload_n 2, 1) := by decide +kernel
theorem dX9_wrong_51 : decode cX9_wrong 51 = .ok (.iload_n 1, 1) := by decide +kernel
theorem dX9_wrong_52 : decode cX9_wrong 52 = .ok (.isub, 1) := by decide +kernel
theorem dX9_wrong_53 : decode cX9_wrong 53 = .ok (.iconst 1, 1) := by decide +kernel
theorem dX9_wrong_54 : decode cX9_wrong 54 = .ok (.iadd, 1) := by decide +kernel
theorem dX9_wrong_55 : decode cX9_wrong 55 = .ok (.i2l, 1) := by decide +kernel
theorem dX9_wrong_56 : decode cX9_wrong 56 = .ok (.lstore 5, 2) := by decide +kernel
theorem dX9_wrong_58 : decode cX9_wrong 58 = .ok (.lconst 0, 1) := by decide +kernel
theorem dX9_wrong_59 : decode cX9_wrong 59 = .ok (.lstore 7, 2) := by decide +kernel
theorem dX9_wrong_61 : decode cX9_wrong 61 = .ok (.iload_n 1, 1) := by decide +kernel
theorem dX9_wrong_62 : decode cX9_wrong 62 = .ok (.istore 9, 2) := by decide +kernel
theorem dX9_wrong_64 : decode cX9_wrong 64 = .ok (.iload 9, 2) := by decide +kernel
theorem dX9_wrong_66 : decode cX9_wrong 66 = .ok (.iload_n 2, 1) := by decide +kernel
theorem dX9_wrong_67 : decode cX9_wrong 67 = .ok (.if_icmp .gt 28, 3) := by decide +kernel
theorem dX9_wrong_70 : decode cX9_wrong 70 = .ok (.lload 7, 2) := by decide +kernel
theorem dX9_wrong_72 : decode cX9_wrong 72 = .ok (.iload 9, 2) := by decide +kernel
theorem dX9_wrong_74 : decode cX9_wrong 74 = .ok (.aload_n 0, 1) := by decide +kernel
theorem dX9_wrong_75 : decode cX9_wrong 75 = .ok (.getfield 62, 3) := by decide +kernel
theorem dX9_wrong_78 : decode cX9_wrong 78 = .ok (.if_icmp .ge 7, 3) := by decide +kernel
theorem dX9_wrong_81 : decode cX9_wrong 81 = .ok (.lconst 1, 1) := by decide +kernel
theorem dX9_wrong_82 : decode cX9_wrong 82 = .ok (.goto 4, 3) := by decide +kernel
theorem dX9_wrong_85 : decode cX9_wrong 85 = .ok (.lconst 0, 1) := by decide +kernel
theorem dX9_wrong_86 : decode cX9_wrong 86 = .ok (.ladd, 1) := by decide +kernel
theorem dX9_wrong_87 : decode cX9_wrong 87 = .ok (.lstore 7, 2) := by decide +kernel
theorem dX9_wrong_89 : decode cX9_wrong 89 = .ok (.iinc 9 1, 3) := by decide +kernel
theorem dX9_wrong_92 : decode cX9_wrong 92 = .ok (.goto (-28), 3) := by decide +kernel
theorem dX9_wrong_95 : decode cX9_wrong 95 = .ok (.lload 5, 2) := by decide +kernel
theorem dX9_wrong_97 : decode cX9_wrong 97 = .ok (.iload_n 3, 1) := by decide +kernel
theorem dX9_wrong_98 : decode cX9_wrong 98 = .ok (.invokestatic 171, 3) := by decide +kernel
theorem dX9_wrong_101 : decode cX9_wrong 101 = .ok (.lstore 9, 2) := by decide +kernel
theorem dX9_wrong_103 : decode cX9_wrong 103 = .ok (.lload 9, 2) := by decide +kernel
theorem dX9_wrong_105 : decode cX9_wrong 105 = .ok (.lload 5, 2) := by decide +kernel
theorem dX9_wrong_107 : decode cX9_wrong 107 = .ok (.lload 7, 2) := by decide +kernel
theorem dX9_wrong_109 : decode cX9_wrong 109 = .ok (.lsub, 1) := by decide +kernel
theorem dX9_wrong_110 : decode cX9_wrong 110 = .ok (.iload_n 3, 1) := by decide +kernel
theorem dX9_wrong_111 : decode cX9_wrong 111 = .ok (.invokestatic 171, 3) := by decide +kernel
theorem dX9_wrong_114 : decode cX9_wrong 114 = .ok (.lsub, 1) := by decide +kernel
theorem dX9_wrong_115 : decode cX9_wrong 115 = .ok (.lstore 11, 2) := by decide +kernel
theorem dX9_wrong_117 : decode cX9_wrong 117 = .ok (.lload 11, 2) := by decide +kernel
theorem dX9_wrong_119 : decode cX9_wrong 119 = .ok (.lstore 13, 2) := by decide +kernel
theorem dX9_wrong_121 : decode cX9_wrong 121 = .ok (.lload 9, 2) := by decide +kernel
theorem dX9_wrong_123 : decode cX9_wrong 123 = .ok (.lstore 15, 2) := by decide +kernel
theorem dX9_wrong_125 : decode cX9_wrong 125 = .ok (.lload 15, 2) := by decide +kernel
theorem dX9_wrong_127 : decode cX9_wrong 127 = .ok (.lconst 0, 1) := by decide +kernel
theorem dX9_wrong_128 : decode cX9_wrong 128 = .ok (.lcmp, 1) := by decide +kernel
theorem dX9_wrong_129 : decode cX9_wrong 129 = .ok (.ifCond .eq 21, 3) := by decide +kernel
theorem dX9_wrong_132 : decode cX9_wrong 132 = .ok (.lload 13, 2) := by decide +kernel
theorem dX9_wrong_134 : decode cX9_wrong 134 = .ok (.lload 15, 2) := by decide +kernel
theorem dX9_wrong_136 : decode cX9_wrong 136 = .ok (.lrem, 1) := by decide +kernel
theorem dX9_wrong_137 : decode cX9_wrong 137 = .ok (.lstore 17, 2) := by decide +kernel
theorem dX9_wrong_139 : decode cX9_wrong 139 = .ok (.lload 15, 2) := by decide +kernel
theorem dX9_wrong_141 : decode cX9_wrong 141 = .ok (.lstore 13, 2) := by decide +kernel
theorem dX9_wrong_143 : decode cX9_wrong 143 = .ok (.lload 17, 2) := by decide +kernel
theorem dX9_wrong_145 : decode cX9_wrong 145 = .ok (.lstore 15, 2) := by decide +kernel
theorem dX9_wrong_147 : decode cX9_wrong 147 = .ok (.goto (-22), 3) := by decide +kernel
theorem dX9_wrong_150 : decode cX9_wrong 150 = .ok (.iload 4, 2) := by decide +kernel
theorem dX9_wrong_152 : decode cX9_wrong 152 = .ok (.ifCond .ne 11, 3) := by decide +kernel
theorem dX9_wrong_155 : decode cX9_wrong 155 = .ok (.lload 11, 2) := by decide +kernel
theorem dX9_wrong_157 : decode cX9_wrong 157 = .ok (.lload 13, 2) := by decide +kernel
theorem dX9_wrong_159 : decode cX9_wrong 159 = .ok (.ldiv, 1) := by decide +kernel
theorem dX9_wrong_160 : decode cX9_wrong 160 = .ok (.goto 8, 3) := by decide +kernel
theorem dX9_wrong_163 : decode cX9_wrong 163 = .ok (.lload 9, 2) := by decide +kernel
theorem dX9_wrong_165 : decode cX9_wrong 165 = .ok (.lload 13, 2) := by decide +kernel
theorem dX9_wrong_167 : decode cX9_wrong 167 = .ok (.ldiv, 1) := by decide +kernel
theorem dX9_wrong_168 : decode cX9_wrong 168 = .ok (.lreturn, 1) := by decide +kernel
theorem dX9_isJudge_0 : decode cX9_isJudge 0 = .ok (.iload_n 0, 1) := by decide +kernel
theorem dX9_isJudge_1 : decode cX9_isJudge 1 = .ok (.i2l, 1) := by decide +kernel
theorem dX9_isJudge_2 : decode cX9_isJudge 2 = .ok (.lconst 0, 1) := by decide +kernel
theorem dX9_isJudge_3 : decode cX9_isJudge 3 = .ok (.ldc2_w 103, 3) := by decide +kernel
theorem dX9_isJudge_6 : decode cX9_isJudge 6 = .ok (.invokestatic 69, 3) := by decide +kernel
theorem dX9_isJudge_9 : decode cX9_isJudge 9 = .ok (.ireturn, 1) := by decide +kernel
theorem dX9_isTime_0 : decode cX9_isTime 0 = .ok (.iload_n 0, 1) := by decide +kernel
theorem dX9_isTime_1 : decode cX9_isTime 1 = .ok (.i2l, 1) := by decide +kernel
theorem dX9_isTime_2 : decode cX9_isTime 2 = .ok (.lconst 0, 1) := by decide +kernel
theorem dX9_isTime_3 : decode cX9_isTime 3 = .ok (.ldc2_w 175, 3) := by decide +kernel
theorem dX9_isTime_6 : decode cX9_isTime 6 = .ok (.invokestatic 69, 3) := by decide +kernel
theorem dX9_isTime_9 : decode cX9_isTime 9 = .ok (.ireturn, 1) := by decide +kernel
theorem dX9_known_0 : decode cX9_known 0 = .ok (.iload_n 1, 1) := by decide +kernel
theorem dX9_known_1 : decode cX9_known 1 = .ok (.invokestatic 177, 3) := by decide +kernel
theorem dX9_known_4 : decode cX9_known 4 = .ok (.ifCond .ne 5, 3) := by decide +kernel
theorem dX9_known_7 : decode cX9_known 7 = .ok (.iconst (-1), 1) := by decide +kernel
theorem dX9_known_8 : decode cX9_known 8 = .ok (.ireturn, 1) := by decide +kernel
theorem dX9_known_9 : decode cX9_known 9 = .ok (.iload_n 2, 1) := by decide +kernel
theorem dX9_known_10 : decode cX9_known 10 = .ok (.invokestatic 180, 3) := by decide +kernel
theorem dX9_known_13 : decode cX9_known 13 = .ok (.ifCond .eq 10, 3) := by decide +kernel
theorem dX9_known_16 : decode cX9_known 16 = .ok (.iload_n 3, 1) := by decide +kernel
theorem dX9_known_17 : decode cX9_known 17 = .ok (.invokestatic 180, 3) := by decide +kernel
theorem dX9_known_20 : decode cX9_known 20 = .ok (.ifCond .ne 6, 3) := by decide +kernel
theorem dX9_known_23 : decode cX9_known 23 = .ok (.bipush (-2), 2) := by decide +kernel
theorem dX9_known_25 : decode cX9_known 25 = .ok (.ireturn, 1) := by decide +kernel
theorem dX9_known_26 : decode cX9_known 26 = .ok (.iload_n 2, 1) := by decide +kernel
theorem dX9_known_27 : decode cX9_known 27 = .ok (.iload_n 3, 1) := by decide +kernel
theorem dX9_known_28 : decode cX9_known 28 = .ok (.isub, 1) := by decide +kernel
theorem dX9_known_29 : decode cX9_known 29 = .ok (.istore 4, 2) := by decide +kernel
theorem dX9_known_31 : decode cX9_known 31 = .ok (.iload 4, 2) := by decide +kernel
theorem dX9_known_33 : decode cX9_known 33 = .ok (.iconst 1, 1) := by decide +kernel
theorem dX9_known_34 : decode cX9_known 34 = .ok (.isub, 1) := by decide +kernel
theorem dX9_known_35 : decode cX9_known 35 = .ok (.aload_n 0, 1) := by decide +kernel
theorem dX9_known_36 : decode cX9_known 36 = .ok (.getfield 35, 3) := by decide +kernel
theorem dX9_known_39 : decode cX9_known 39 = .ok (.iload_n 1, 1) := by decide +kernel
theorem dX9_known_40 : decode cX9_known 40 = .ok (.iaload, 1) := by decide +kernel
theorem dX9_known_41 : decode cX9_known 41 = .ok (.if_icmp .le 10, 3) := by decide +kernel
theorem dX9_known_44 : decode cX9_known 44 = .ok (.iload 4, 2) := by decide +kernel
theorem dX9_known_46 : decode cX9_known 46 = .ok (.iconst 1, 1) := by decide +kernel
theorem dX9_known_47 : decode cX9_known 47 = .ok (.isub, 1) := by decide +kernel
theorem dX9_known_48 : decode cX9_known 48 = .ok (.goto 9, 3) := by decide +kernel
theorem dX9_known_51 : decode cX9_known 51 = .ok (.aload_n 0, 1) := by decide +kernel
theorem dX9_known_52 : decode cX9_known 52 = .ok (.getfield 35, 3) := by decide +kernel
theorem dX9_known_55 : decode cX9_known 55 = .ok (.iload_n 1, 1) := by decide +kernel
theorem dX9_known_56 : decode cX9_known 56 = .ok (.iaload, 1) := by decide +kernel
theorem dX9_known_57 : decode cX9_known 57 = .ok (.istore 5, 2) := by decide +kernel
theorem dX9_known_59 : decode cX9_known 59 = .ok (.iload 4, 2) := by decide +kernel
theorem dX9_known_61 : decode cX9_known 61 = .ok (.iconst 1, 1) := by decide +kernel
theorem dX9_known_62 : decode cX9_known 62 = .ok (.iadd, 1) := by decide +kernel
theorem dX9_known_63 : decode cX9_known 63 = .ok (.aload_n 0, 1) := by decide +kernel
theorem dX9_known_64 : decode cX9_known 64 = .ok (.getfield 38, 3) := by decide +kernel
theorem dX9_known_67 : decode cX9_known 67 = .ok (.iload_n 1, 1) := by decide +kernel
theorem dX9_known_68 : decode cX9_known 68 = .ok (.iaload, 1) := by decide +kernel
theorem dX9_known_69 : decode cX9_known 69 = .ok (.if_icmp .ge 10, 3) := by decide +kernel
theorem dX9_known_72 : decode cX9_known 72 = .ok (.iload 4, 2) := by decide +kernel
theorem dX9_known_74 : decode cX9_known 74 = .ok (.iconst 1, 1) := by decide +kernel
theorem dX9_known_75 : decode cX9_known 75 = .ok (.iadd, 1) := by decide +kernel
theorem dX9_known_76 : decode cX9_known 76 = .ok (.goto 9, 3) := by decide +kernel
theorem dX9_known_79 : decode cX9_known 79 = .ok (.aload_n 0, 1) := by decide +kernel
theorem dX9_known_80 : decode cX9_known 80 = .ok (.getfield 38, 3) := by decide +kernel
theorem dX9_known_83 : decode cX9_known 83 = .ok (.iload_n 1, 1) := by decide +kernel
theorem dX9_known_84 : decode cX9_known 84 = .ok (.iaload, 1) := by decide +kernel
theorem dX9_known_85 : decode cX9_known 85 = .ok (.istore 6, 2) := by decide +kernel
theorem dX9_known_87 : decode cX9_known 87 = .ok (.iload 5, 2) := by decide +kernel
theorem dX9_known_89 : decode cX9_known 89 = .ok (.iload 6, 2) := by decide +kernel
theorem dX9_known_91 : decode cX9_known 91 = .ok (.if_icmp .le 6, 3) := by decide +kernel
theorem dX9_known_94 : decode cX9_known 94 = .ok (.bipush (-5), 2) := by decide +kernel
theorem dX9_known_96 : decode cX9_known 96 = .ok (.ireturn, 1) := by decide +kernel
theorem dX9_known_97 : decode cX9_known 97 = .ok (.aload_n 0, 1) := by decide +kernel
theorem dX9_known_98 : decode cX9_known 98 = .ok (.getfield 35, 3) := by decide +kernel
theorem dX9_known_101 : decode cX9_known 101 = .ok (.iload_n 1, 1) := by decide +kernel
theorem dX9_known_102 : decode cX9_known 102 = .ok (.iload 5, 2) := by decide +kernel
theorem dX9_known_104 : decode cX9_known 104 = .ok (.iastore, 1) := by decide +kernel
theorem dX9_known_105 : decode cX9_known 105 = .ok (.aload_n 0, 1) := by decide +kernel
theorem dX9_known_106 : decode cX9_known 106 = .ok (.getfield 38, 3) := by decide +kernel
theorem dX9_known_109 : decode cX9_known 109 = .ok (.iload_n 1, 1) := by decide +kernel
theorem dX9_known_110 : decode cX9_known 110 = .ok (.iload 6, 2) := by decide +kernel
theorem dX9_known_112 : decode cX9_known 112 = .ok (.iastore, 1) := by decide +kernel
theorem dX9_known_113 : decode cX9_known 113 = .ok (.iconst 1, 1) := by decide +kernel
theorem dX9_known_114 : decode cX9_known 114 = .ok (.ireturn, 1) := by decide +kernel
theorem dX9_late_0 : decode cX9_late 0 = .ok (.iload_n 1, 1) := by decide +kernel
theorem dX9_late_1 : decode cX9_late 1 = .ok (.invokestatic 177, 3) := by decide +kernel
theorem dX9_late_4 : decode cX9_late 4 = .ok (.ifCond .ne 5, 3) := by decide +kernel
theorem dX9_late_7 : decode cX9_late 7 = .ok (.iconst (-1), 1) := by decide +kernel
theorem dX9_late_8 : decode cX9_late 8 = .ok (.ireturn, 1) := by decide +kernel
theorem dX9_late_9 : decode cX9_late 9 = .ok (.iload_n 2, 1) := by decide +kernel
theorem dX9_late_10 : decode cX9_late 10 = .ok (.ifCond .ne 12, 3) := by decide +kernel
theorem dX9_late_13 : decode cX9_late 13 = .ok (.aload_n 0, 1) := by decide +kernel
theorem dX9_late_14 : decode cX9_late 14 = .ok (.getfield 35, 3) := by decide +kernel
theorem dX9_late_17 : decode cX9_late 17 = .ok (.iload_n 1, 1) := by decide +kernel
theorem dX9_late_18 : decode cX9_late 18 = .ok (.iaload, 1) := by decide +kernel
theorem dX9_late_19 : decode cX9_late 19 = .ok (.goto 19, 3) := by decide +kernel
theorem dX9_late_22 : decode cX9_late 22 = .ok (.iload_n 2, 1) := by decide +kernel
theorem dX9_late_23 : decode cX9_late 23 = .ok (.iconst 1, 1) := by decide +kernel
theorem dX9_late_24 : decode cX9_late 24 = .ok (.if_icmp .ne 12, 3) := by decide +kernel
theorem dX9_late_27 : decode cX9_late 27 = .ok (.aload_n 0, 1) := by decide +kernel
theorem dX9_late_28 : decode cX9_late 28 = .ok (.getfield 38, 3) := by decide +kernel
theorem dX9_late_31 : decode cX9_late 31 = .ok (.iload_n 1, 1) := by decide +kernel
theorem dX9_late_32 : decode cX9_late 32 = .ok (.iaload, 1) := by decide +kernel
theorem dX9_late_33 : decode cX9_late 33 = .ok (.goto 5, 3) := by decide +kernel
theorem dX9_late_36 : decode cX9_late 36 = .ok (.bipush (-2), 2) := by decide +kernel
theorem dX9_late_38 : decode cX9_late 38 = .ok (.ireturn, 1) := by decide +kernel
theorem dX9_tell_0 : decode cX9_tell 0 = .ok (.iload_n 1, 1) := by decide +kernel
theorem dX9_tell_1 : decode cX9_tell 1 = .ok (.invokestatic 177, 3) := by decide +kernel
theorem dX9_tell_4 : decode cX9_tell 4 = .ok (.ifCond .ne 5, 3) := by decide +kernel
theorem dX9_tell_7 : decode cX9_tell 7 = .ok (.iconst (-1), 1) := by decide +kernel
theorem dX9_tell_8 : decode cX9_tell 8 = .ok (.ireturn, 1) := by decide +kernel
theorem dX9_tell_9 : decode cX9_tell 9 = .ok (.iload_n 2, 1) := by decide +kernel
theorem dX9_tell_10 : decode cX9_tell 10 = .ok (.i2l, 1) := by decide +kernel
theorem dX9_tell_11 : decode cX9_tell 11 = .ok (.ldc2_w 165, 3) := by decide +kernel
theorem dX9_tell_14 : decode cX9_tell 14 = .ok (.ldc2_w 175, 3) := by decide +kernel
theorem dX9_tell_17 : decode cX9_tell 17 = .ok (.invokestatic 69, 3) := by decide +kernel
theorem dX9_tell_20 : decode cX9_tell 20 = .ok (.ifCond .ne 6, 3) := by decide +kernel
theorem dX9_tell_23 : decode cX9_tell 23 = .ok (.bipush (-2), 2) := by decide +kernel
theorem dX9_tell_25 : decode cX9_tell 25 = .ok (.ireturn, 1) := by decide +kernel
theorem dX9_tell_26 : decode cX9_tell 26 = .ok (.aload_n 0, 1) := by decide +kernel
theorem dX9_tell_27 : decode cX9_tell 27 = .ok (.getfield 41, 3) := by decide +kernel
theorem dX9_tell_30 : decode cX9_tell 30 = .ok (.iload_n 1, 1) := by decide +kernel
theorem dX9_tell_31 : decode cX9_tell 31 = .ok (.iaload, 1) := by decide +kernel
theorem dX9_tell_32 : decode cX9_tell 32 = .ok (.istore_n 3, 1) := by decide +kernel
theorem dX9_tell_33 : decode cX9_tell 33 = .ok (.aload_n 0, 1) := by decide +kernel
theorem dX9_tell_34 : decode cX9_tell 34 = .ok (.getfield 41, 3) := by decide +kernel
theorem dX9_tell_37 : decode cX9_tell 37 = .ok (.iload_n 1, 1) := by decide +kernel
theorem dX9_tell_38 : decode cX9_tell 38 = .ok (.iload_n 2, 1) := by decide +kernel
theorem dX9_tell_39 : decode cX9_tell 39 = .ok (.ifCond .ge 8, 3) := by decide +kernel
theorem dX9_tell_42 : decode cX9_tell 42 = .ok (.bipush (-6), 2) := by decide +kernel
theorem dX9_tell_44 : decode cX9_tell 44 = .ok (.goto 4, 3) := by decide +kernel
theorem dX9_tell_47 : decode cX9_tell 47 = .ok (.iload_n 2, 1) := by decide +kernel
theorem dX9_tell_48 : decode cX9_tell 48 = .ok (.iastore, 1) := by decide +kernel
theorem dX9_tell_49 : decode cX9_tell 49 = .ok (.iload_n 3, 1) := by decide +kernel
theorem dX9_tell_50 : decode cX9_tell 50 = .ok (.ireturn, 1) := by decide +kernel
theorem dX9_findTrue_0 : decode cX9_findTrue 0 = .ok (.iconst 0, 1) := by decide +kernel
theorem dX9_findTrue_1 : decode cX9_findTrue 1 = .ok (.istore_n 1, 1) := by decide +kernel
theorem dX9_findTrue_2 : decode cX9_findTrue 2 = .ok (.iconst 0, 1) := by decide +kernel
theorem dX9_findTrue_3 : decode cX9_findTrue 3 = .ok (.istore_n 2, 1) := by decide +kernel
theorem dX9_findTrue_4 : decode cX9_findTrue 4 = .ok (.iload_n 2, 1) := by decide +kernel
theorem dX9_findTrue_5 : decode cX9_findTrue 5 = .ok (.iconst 4, 1) := by decide +kernel
theorem dX9_findTrue_6 : decode cX9_findTrue 6 = .ok (.if_icmp .ge 99, 3) := by decide +kernel
theorem dX9_findTrue_9 : decode cX9_findTrue 9 = .ok (.aload_n 0, 1) := by decide +kernel
theorem dX9_findTrue_10 : decode cX9_findTrue 10 = .ok (.getfield 41, 3) := by decide +kernel
theorem dX9_findTrue_13 : decode cX9_findTrue 13 = .ok (.iload_n 2, 1) := by decide +kernel
theorem dX9_findTrue_14 : decode cX9_findTrue 14 = .ok (.iaload, 1) := by decide +kernel
theorem dX9_findTrue_15 : decode cX9_findTrue 15 = .ok (.ifCond .lt 84, 3) := by decide +kernel
theorem dX9_findTrue_18 : decode cX9_findTrue 18 = .ok (.aload_n 0, 1) := by decide +kernel
theorem dX9_findTrue_19 : decode cX9_findTrue 19 = .ok (.getfield 41, 3) := by decide +kernel
theorem dX9_findTrue_22 : decode cX9_findTrue 22 = .ok (.iload_n 2, 1) := by decide +kernel
theorem dX9_findTrue_23 : decode cX9_findTrue 23 = .ok (.iaload, 1) := by decide +kernel
theorem dX9_findTrue_24 : decode cX9_findTrue 24 = .ok (.aload_n 0, 1) := by decide +kernel
theorem dX9_findTrue_25 : decode cX9_findTrue 25 = .ok (.getfield 38, 3) := by decide +kernel
theorem dX9_findTrue_28 : decode cX9_findTrue 28 = .ok (.iload_n 2, 1) := by decide +kernel
theorem dX9_findTrue_29 : decode cX9_findTrue 29 = .ok (.iaload, 1) := by decide +kernel
theorem dX9_findTrue_30 : decode cX9_findTrue 30 = .ok (.isub, 1) := by decide +kernel
theorem dX9_findTrue_31 : decode cX9_findTrue 31 = .ok (.istore_n 3, 1) := by decide +kernel
theorem dX9_findTrue_32 : decode cX9_findTrue 32 = .ok (.aload_n 0, 1) := by decide +kernel
theorem dX9_findTrue_33 : decode cX9_findTrue 33 = .ok (.getfield 41, 3) := by decide +kernel
theorem dX9_findTrue_36 : decode cX9_findTrue 36 = .ok (.iload_n 2, 1) := by decide +kernel
theorem dX9_findTrue_37 : decode cX9_findTrue 37 = .ok (.iaload, 1) := by decide +kernel
theorem dX9_findTrue_38 : decode cX9_findTrue 38 = .ok (.aload_n 0, 1) := by decide +kernel
theorem dX9_findTrue_39 : decode cX9_findTrue 39 = .ok (.getfield 35, 3) := by decide +kernel
theorem dX9_findTrue_42 : decode cX9_findTrue 42 = .ok (.iload_n 2, 1) := by decide +kernel
theorem dX9_findTrue_43 : decode cX9_findTrue 43 = .ok (.iaload, 1) := by decide +kernel
theorem dX9_findTrue_44 : decode cX9_findTrue 44 = .ok (.isub, 1) := by decide +kernel
theorem dX9_findTrue_45 : decode cX9_findTrue 45 = .ok (.istore 4, 2) := by decide +kernel
theorem dX9_findTrue_47 : decode cX9_findTrue 47 = .ok (.aload_n 0, 1) := by decide +kernel
theorem dX9_findTrue_48 : decode cX9_findTrue 48 = .ok (.iload_n 1, 1) := by decide +kernel
theorem dX9_findTrue_49 : decode cX9_findTrue 49 = .ok (.ifCond .eq 18, 3) := by decide +kernel
theorem dX9_findTrue_52 : decode cX9_findTrue 52 = .ok (.aload_n 0, 1) := by decide +kernel
theorem dX9_findTrue_53 : decode cX9_findTrue 53 = .ok (.getfield 183, 3) := by decide +kernel
theorem dX9_findTrue_56 : decode cX9_findTrue 56 = .ok (.iload_n 3, 1) := by decide +kernel
theorem dX9_findTrue_57 : decode cX9_findTrue 57 = .ok (.if_icmp .le 10, 3) := by decide +kernel
theorem dX9_findTrue_60 : decode cX9_findTrue 60 = .ok (.aload_n 0, 1) := by decide +kernel
theorem dX9_findTrue_61 : decode cX9_findTrue 61 = .ok (.getfield 183, 3) := by decide +kernel
theorem dX9_findTrue_64 : decode cX9_findTrue 64 = .ok (.goto 4, 3) := by decide +kernel
theorem dX9_findTrue_67 : decode cX9_findTrue 67 = .ok (.iload_n 3, 1) := by decide +kernel
theorem dX9_findTrue_68 : decode cX9_findTrue 68 = .ok (.putfield 183, 3) := by decide +kernel
theorem dX9_findTrue_71 : decode cX9_findTrue 71 = .ok (.aload_n 0, 1) := by decide +kernel
theorem dX9_findTrue_72 : decode cX9_findTrue 72 = .ok (.iload_n 1, 1) := by decide +kernel
theorem dX9_findTrue_73 : decode cX9_findTrue 73 = .ok (.ifCond .eq 19, 3) := by decide +kernel
theorem dX9_findTrue_76 : decode cX9_findTrue 76 = .ok (.aload_n 0, 1) := by decide +kernel
theorem dX9_findTrue_77 : decode cX9_findTrue 77 = .ok (.getfield 186, 3) := by decide +kernel
theorem dX9_findTrue_80 : decode cX9_findTrue 80 = .ok (.iload 4, 2) := by decide +kernel
theorem dX9_findTrue_82 : decode cX9_findTrue 82 = .ok (.if_icmp .ge 10, 3) := by decide +kernel
theorem dX9_findTrue_85 : decode cX9_findTrue 85 = .ok (.aload_n 0, 1) := by decide +kernel
theorem dX9_findTrue_86 : decode cX9_findTrue 86 = .ok (.getfield 186, 3) := by decide +kernel
theorem dX9_findTrue_89 : decode cX9_findTrue 89 = .ok (.goto 5, 3) := by decide +kernel
theorem dX9_findTrue_92 : decode cX9_findTrue 92 = .ok (.iload 4, 2) := by decide +kernel
theorem dX9_findTrue_94 : decode cX9_findTrue 94 = .ok (.putfield 186, 3) := by decide +kernel
theorem dX9_findTrue_97 : decode cX9_findTrue 97 = .ok (.iconst 1, 1) := by decide +kernel
theorem dX9_findTrue_98 : decode cX9_findTrue 98 = .ok (.istore_n 1, 1) := by decide +kernel
theorem dX9_findTrue_99 : decode cX9_findTrue 99 = .ok (.iinc 2 1, 3) := by decide +kernel
theorem dX9_findTrue_102 : decode cX9_findTrue 102 = .ok (.goto (-98), 3) := by decide +kernel
theorem dX9_findTrue_105 : decode cX9_findTrue 105 = .ok (.iload_n 1, 1) := by decide +kernel
theorem dX9_findTrue_106 : decode cX9_findTrue 106 = .ok (.ifCond .ne 8, 3) := by decide +kernel
theorem dX9_findTrue_109 : decode cX9_findTrue 109 = .ok (.bipush (-3), 2) := by decide +kernel
theorem dX9_findTrue_111 : decode cX9_findTrue 111 = .ok (.goto 20, 3) := by decide +kernel
theorem dX9_findTrue_114 : decode cX9_findTrue 114 = .ok (.aload_n 0, 1) := by decide +kernel
theorem dX9_findTrue_115 : decode cX9_findTrue 115 = .ok (.getfield 183, 3) := by decide +kernel
theorem dX9_findTrue_118 : decode cX9_findTrue 118 = .ok (.aload_n 0, 1) := by decide +kernel
theorem dX9_findTrue_119 : decode cX9_findTrue 119 = .ok (.getfield 186, 3) := by decide +kernel
theorem dX9_findTrue_122 : decode cX9_findTrue 122 = .ok (.if_icmp .le 8, 3) := by decide +kernel
theorem dX9_findTrue_125 : decode cX9_findTrue 125 = .ok (.bipush (-5), 2) := by decide +kernel
theorem dX9_findTrue_127 : decode cX9_findTrue 127 = .ok (.goto 4, 3) := by decide +kernel
theorem dX9_findTrue_130 : decode cX9_findTrue 130 = .ok (.iconst 1, 1) := by decide +kernel
theorem dX9_findTrue_131 : decode cX9_findTrue 131 = .ok (.ireturn, 1) := by decide +kernel
theorem dX9_time_0 : decode cX9_time 0 = .ok (.iload_n 1, 1) := by decide +kernel
theorem dX9_time_1 : decode cX9_time 1 = .ok (.i2l, 1) := by decide +kernel
theorem dX9_time_2 : decode cX9_time 2 = .ok (.lconst 0, 1) := by decide +kernel
theorem dX9_time_3 : decode cX9_time 3 = .ok (.lconst 1, 1) := by decide +kernel
theorem dX9_time_4 : decode cX9_time 4 = .ok (.invokestatic 69, 3) := by decide +kernel
theorem dX9_time_7 : decode cX9_time 7 = .ok (.ifCond .ne 6, 3) := by decide +kernel
theorem dX9_time_10 : decode cX9_time 10 = .ok (.bipush (-2), 2) := by decide +kernel
theorem dX9_time_12 : decode cX9_time 12 = .ok (.ireturn, 1) := by decide +kernel
theorem dX9_time_13 : decode cX9_time 13 = .ok (.aload_n 0, 1) := by decide +kernel
theorem dX9_time_14 : decode cX9_time 14 = .ok (.invokevirtual 189, 3) := by decide +kernel
theorem dX9_time_17 : decode cX9_time 17 = .ok (.istore_n 2, 1) := by decide +kernel
theorem dX9_time_18 : decode cX9_time 18 = .ok (.iload_n 2, 1) := by decide +kernel
theorem dX9_time_19 : decode cX9_time 19 = .ok (.ifCond .ge 7, 3) := by decide +kernel
theorem dX9_time_22 : decode cX9_time 22 = .ok (.iload_n 2, 1) := by decide +kernel
theorem dX9_time_23 : decode cX9_time 23 = .ok (.goto 21, 3) := by decide +kernel
theorem dX9_time_26 : decode cX9_time 26 = .ok (.ldc 193, 2) := by decide +kernel
theorem dX9_time_28 : decode cX9_time 28 = .ok (.iload_n 1, 1) := by decide +kernel
theorem dX9_time_29 : decode cX9_time 29 = .ok (.ifCond .ne 10, 3) := by decide +kernel
theorem dX9_time_32 : decode cX9_time 32 = .ok (.aload_n 0, 1) := by decide +kernel
theorem dX9_time_33 : decode cX9_time 33 = .ok (.getfield 183, 3) := by decide +kernel
theorem dX9_time_36 : decode cX9_time 36 = .ok (.goto 7, 3) := by decide +kernel
theorem dX9_time_39 : decode cX9_time 39 = .ok (.aload_n 0, 1) := by decide +kernel
theorem dX9_time_40 : decode cX9_time 40 = .ok (.getfield 186, 3) := by decide +kernel
theorem dX9_time_43 : decode cX9_time 43 = .ok (.iadd, 1) := by decide +kernel
theorem dX9_time_44 : decode cX9_time 44 = .ok (.ireturn, 1) := by decide +kernel
theorem dX9_old_0 : decode cX9_old 0 = .ok (.iload_n 1, 1) := by decide +kernel
theorem dX9_old_1 : decode cX9_old 1 = .ok (.invokestatic 180, 3) := by decide +kernel
theorem dX9_old_4 : decode cX9_old 4 = .ok (.ifCond .ne 6, 3) := by decide +kernel
theorem dX9_old_7 : decode cX9_old 7 = .ok (.bipush (-2), 2) := by decide +kernel
theorem dX9_old_9 : decode cX9_old 9 = .ok (.ireturn, 1) := by decide +kernel
theorem dX9_old_10 : decode cX9_old 10 = .ok (.aload_n 0, 1) := by decide +kernel
theorem dX9_old_11 : decode cX9_old 11 = .ok (.invokevirtual 189, 3) := by decide +kernel
theorem dX9_old_14 : decode cX9_old 14 = .ok (.istore_n 2, 1) := by decide +kernel
theorem dX9_old_15 : decode cX9_old 15 = .ok (.iload_n 2, 1) := by decide +kernel
theorem dX9_old_16 : decode cX9_old 16 = .ok (.ifCond .ge 7, 3) := by decide +kernel
theorem dX9_old_19 : decode cX9_old 19 = .ok (.iload_n 2, 1) := by decide +kernel
theorem dX9_old_20 : decode cX9_old 20 = .ok (.goto 28, 3) := by decide +kernel
theorem dX9_old_23 : decode cX9_old 23 = .ok (.aload_n 0, 1) := by decide +kernel
theorem dX9_old_24 : decode cX9_old 24 = .ok (.getfield 186, 3) := by decide +kernel
theorem dX9_old_27 : decode cX9_old 27 = .ok (.iload_n 1, 1) := by decide +kernel
theorem dX9_old_28 : decode cX9_old 28 = .ok (.if_icmp .ge 7, 3) := by decide +kernel
theorem dX9_old_31 : decode cX9_old 31 = .ok (.iconst 1, 1) := by decide +kernel
theorem dX9_old_32 : decode cX9_old 32 = .ok (.goto 16, 3) := by decide +kernel
theorem dX9_old_35 : decode cX9_old 35 = .ok (.aload_n 0, 1) := by decide +kernel
theorem dX9_old_36 : decode cX9_old 36 = .ok (.getfield 183, 3) := by decide +kernel
theorem dX9_old_39 : decode cX9_old 39 = .ok (.iload_n 1, 1) := by decide +kernel
theorem dX9_old_40 : decode cX9_old 40 = .ok (.if_icmp .lt 7, 3) := by decide +kernel
theorem dX9_old_43 : decode cX9_old 43 = .ok (.iconst 0, 1) := by decide +kernel
theorem dX9_old_44 : decode cX9_old 44 = .ok (.goto 4, 3) := by decide +kernel
theorem dX9_old_47 : decode cX9_old 47 = .ok (.iconst 2, 1) := by decide +kernel
theorem dX9_old_48 : decode cX9_old 48 = .ok (.ireturn, 1) := by decide +kernel
theorem dX9_say_0 : decode cX9_say 0 = .ok (.iload_n 1, 1) := by decide +kernel
theorem dX9_say_1 : decode cX9_say 1 = .ok (.i2l, 1) := by decide +kernel
theorem dX9_say_2 : decode cX9_say 2 = .ok (.ldc2_w 194, 3) := by decide +kernel
theorem dX9_say_5 : decode cX9_say 5 = .ok (.ldc2_w 196, 3) := by decide +kernel
theorem dX9_say_8 : decode cX9_say 8 = .ok (.invokestatic 69, 3) := by decide +kernel
theorem dX9_say_11 : decode cX9_say 11 = .ok (.ifCond .ne 6, 3) := by decide +kernel
theorem dX9_say_14 : decode cX9_say 14 = .ok (.bipush (-2), 2) := by decide +kernel
theorem dX9_say_16 : decode cX9_say 16 = .ok (.ireturn, 1) := by decide +kernel
theorem dX9_say_17 : decode cX9_say 17 = .ok (.aload_n 0, 1) := by decide +kernel
theorem dX9_say_18 : decode cX9_say 18 = .ok (.getfield 198, 3) := by decide +kernel
theorem dX9_say_21 : decode cX9_say 21 = .ok (.bipush 30, 2) := by decide +kernel
theorem dX9_say_23 : decode cX9_say 23 = .ok (.if_icmp .ne 6, 3) := by decide +kernel
theorem dX9_say_26 : decode cX9_say 26 = .ok (.bipush (-4), 2) := by decide +kernel
theorem dX9_say_28 : decode cX9_say 28 = .ok (.ireturn, 1) := by decide +kernel
theorem dX9_say_29 : decode cX9_say 29 = .ok (.aload_n 0, 1) := by decide +kernel
theorem dX9_say_30 : decode cX9_say 30 = .ok (.getfield 44, 3) := by decide +kernel
theorem dX9_say_33 : decode cX9_say 33 = .ok (.aload_n 0, 1) := by decide +kernel
theorem dX9_say_34 : decode cX9_say 34 = .ok (.getfield 198, 3) := by decide +kernel
theorem dX9_say_37 : decode cX9_say 37 = .ok (.iload_n 1, 1) := by decide +kernel
theorem dX9_say_38 : decode cX9_say 38 = .ok (.iastore, 1) := by decide +kernel
theorem dX9_say_39 : decode cX9_say 39 = .ok (.aload_n 0, 1) := by decide +kernel
theorem dX9_say_40 : decode cX9_say 40 = .ok (.dup, 1) := by decide +kernel
theorem dX9_say_41 : decode cX9_say 41 = .ok (.getfield 198, 3) := by decide +kernel
theorem dX9_say_44 : decode cX9_say 44 = .ok (.iconst 1, 1) := by decide +kernel
theorem dX9_say_45 : decode cX9_say 45 = .ok (.iadd, 1) := by decide +kernel
theorem dX9_say_46 : decode cX9_say 46 = .ok (.putfield 198, 3) := by decide +kernel
theorem dX9_say_49 : decode cX9_say 49 = .ok (.aload_n 0, 1) := by decide +kernel
theorem dX9_say_50 : decode cX9_say 50 = .ok (.getfield 198, 3) := by decide +kernel
theorem dX9_say_53 : decode cX9_say 53 = .ok (.ireturn, 1) := by decide +kernel
theorem dX9_wipe_0 : decode cX9_wipe 0 = .ok (.aload_n 0, 1) := by decide +kernel
theorem dX9_wipe_1 : decode cX9_wipe 1 = .ok (.getfield 198, 3) := by decide +kernel
theorem dX9_wipe_4 : decode cX9_wipe 4 = .ok (.istore_n 1, 1) := by decide +kernel
theorem dX9_wipe_5 : decode cX9_wipe 5 = .ok (.aload_n 0, 1) := by decide +kernel
theorem dX9_wipe_6 : decode cX9_wipe 6 = .ok (.iconst 0, 1) := by decide +kernel
theorem dX9_wipe_7 : decode cX9_wipe 7 = .ok (.putfield 198, 3) := by decide +kernel
theorem dX9_wipe_10 : decode cX9_wipe 10 = .ok (.iload_n 1, 1) := by decide +kernel
theorem dX9_wipe_11 : decode cX9_wipe 11 = .ok (.ireturn, 1) := by decide +kernel
theorem dX9_isFact_0 : decode cX9_isFact 0 = .ok (.iload_n 0, 1) := by decide +kernel
theorem dX9_isFact_1 : decode cX9_isFact 1 = .ok (.bipush 116, 2) := by decide +kernel
theorem dX9_isFact_3 : decode cX9_isFact 3 = .ok (.if_icmp .eq 21, 3) := by decide +kernel
theorem dX9_isFact_6 : decode cX9_isFact 6 = .ok (.iload_n 0, 1) := by decide +kernel
theorem dX9_isFact_7 : decode cX9_isFact 7 = .ok (.bipush 119, 2) := by decide +kernel
theorem dX9_isFact_9 : decode cX9_isFact 9 = .ok (.if_icmp .eq 15, 3) := by decide +kernel
theorem dX9_isFact_12 : decode cX9_isFact 12 = .ok (.iload_n 0, 1) := by decide +kernel
theorem dX9_isFact_13 : decode cX9_isFact 13 = .ok (.bipush 104, 2) := by decide +kernel
theorem dX9_isFact_15 : decode cX9_isFact 15 = .ok (.if_icmp .eq 9, 3) := by decide +kernel
theorem dX9_isFact_18 : decode cX9_isFact 18 = .ok (.iload_n 0, 1) := by decide +kernel
theorem dX9_isFact_19 : decode cX9_isFact 19 = .ok (.bipush 101, 2) := by decide +kernel
theorem dX9_isFact_21 : decode cX9_isFact 21 = .ok (.if_icmp .ne 7, 3) := by decide +kernel
theorem dX9_isFact_24 : decode cX9_isFact 24 = .ok (.iconst 1, 1) := by decide +kernel
theorem dX9_isFact_25 : decode cX9_isFact 25 = .ok (.goto 4, 3) := by decide +kernel
theorem dX9_isFact_28 : decode cX9_isFact 28 = .ok (.iconst 0, 1) := by decide +kernel
theorem dX9_isFact_29 : decode cX9_isFact 29 = .ok (.ireturn, 1) := by decide +kernel
theorem dX9_isHow_0 : decode cX9_isHow 0 = .ok (.iload_n 0, 1) := by decide +kernel
theorem dX9_isHow_1 : decode cX9_isHow 1 = .ok (.bipush 60, 2) := by decide +kernel
theorem dX9_isHow_3 : decode cX9_isHow 3 = .ok (.if_icmp .eq 15, 3) := by decide +kernel
theorem dX9_isHow_6 : decode cX9_isHow 6 = .ok (.iload_n 0, 1) := by decide +kernel
theorem dX9_isHow_7 : decode cX9_isHow 7 = .ok (.bipush 62, 2) := by decide +kernel
theorem dX9_isHow_9 : decode cX9_isHow 9 = .ok (.if_icmp .eq 9, 3) := by decide +kernel
theorem dX9_isHow_12 : decode cX9_isHow 12 = .ok (.iload_n 0, 1) := by decide +kernel
theorem dX9_isHow_13 : decode cX9_isHow 13 = .ok (.bipush 61, 2) := by decide +kernel
theorem dX9_isHow_15 : decode cX9_isHow 15 = .ok (.if_icmp .ne 7, 3) := by decide +kernel
theorem dX9_isHow_18 : decode cX9_isHow 18 = .ok (.iconst 1, 1) := by decide +kernel
theorem dX9_isHow_19 : decode cX9_isHow 19 = .ok (.goto 4, 3) := by decide +kernel
theorem dX9_isHow_22 : decode cX9_isHow 22 = .ok (.iconst 0, 1) := by decide +kernel
theorem dX9_isHow_23 : decode cX9_isHow 23 = .ok (.ireturn, 1) := by decide +kernel
theorem dX9_stepOf_0 : decode cX9_stepOf 0 = .ok (.iload_n 1, 1) := by decide +kernel
theorem dX9_stepOf_1 : decode cX9_stepOf 1 = .ok (.i2l, 1) := by decide +kernel
theorem dX9_stepOf_2 : decode cX9_stepOf 2 = .ok (.ldc2_w 201, 3) := by decide +kernel
theorem dX9_stepOf_5 : decode cX9_stepOf 5 = .ok (.ldc2_w 203, 3) := by decide +kernel
theorem dX9_stepOf_8 : decode cX9_stepOf 8 = .ok (.invokestatic 69, 3) := by decide +kernel
theorem dX9_stepOf_11 : decode cX9_stepOf 11 = .ok (.istore_n 2, 1) := by decide +kernel
theorem dX9_stepOf_12 : decode cX9_stepOf 12 = .ok (.iload_n 0, 1) := by decide +kernel
theorem dX9_stepOf_13 : decode cX9_stepOf 13 = .ok (.tableswitch 87 0 3 #[31, 44, 57, 77], 31) := by decide +kernel
theorem dX9_stepOf_44 : decode cX9_stepOf 44 = .ok (.iload_n 1, 1) := by decide +kernel
theorem dX9_stepOf_45 : decode cX9_stepOf 45 = .ok (.invokestatic 205, 3) := by decide +kernel
theorem dX9_stepOf_48 : decode cX9_stepOf 48 = .ok (.ifCond .eq 7, 3) := by decide +kernel
theorem dX9_stepOf_51 : decode cX9_stepOf 51 = .ok (.iconst 1, 1) := by decide +kernel
theorem dX9_stepOf_52 : decode cX9_stepOf 52 = .ok (.goto 4, 3) := by decide +kernel
theorem dX9_stepOf_55 : decode cX9_stepOf 55 = .ok (.iconst (-1), 1) := by decide +kernel
theorem dX9_stepOf_56 : decode cX9_stepOf 56 = .ok (.ireturn, 1) := by decide +kernel
theorem dX9_stepOf_57 : decode cX9_stepOf 57 = .ok (.iload_n 1, 1) := by decide +kernel
theorem dX9_stepOf_58 : decode cX9_stepOf 58 = .ok (.invokestatic 208, 3) := by decide +kernel
theorem dX9_stepOf_61 : decode cX9_stepOf 61 = .ok (.ifCond .eq 7, 3) := by decide +kernel
theorem dX9_stepOf_64 : decode cX9_stepOf 64 = .ok (.iconst 2, 1) := by decide +kernel
theorem dX9_stepOf_65 : decode cX9_stepOf 65 = .ok (.goto 4, 3) := by decide +kernel
theorem dX9_stepOf_68 : decode cX9_stepOf 68 = .ok (.iconst (-1), 1) := by decide +kernel
theorem dX9_stepOf_69 : decode cX9_stepOf 69 = .ok (.ireturn, 1) := by decide +kernel
theorem dX9_stepOf_70 : decode cX9_stepOf 70 = .ok (.iload_n 1, 1) := by decide +kernel
theorem dX9_stepOf_71 : decode cX9_stepOf 71 = .ok (.bipush 45, 2) := by decide +kernel
theorem dX9_stepOf_73 : decode cX9_stepOf 73 = .ok (.if_icmp .ne 7, 3) := by decide +kernel
theorem dX9_stepOf_76 : decode cX9_stepOf 76 = .ok (.iconst 3, 1) := by decide +kernel
theorem dX9_stepOf_77 : decode cX9_stepOf 77 = .ok (.goto 12, 3) := by decide +kernel
theorem dX9_stepOf_80 : decode cX9_stepOf 80 = .ok (.iload_n 2, 1) := by decide +kernel
theorem dX9_stepOf_81 : decode cX9_stepOf 81 = .ok (.ifCond .eq 7, 3) := by decide +kernel
theorem dX9_stepOf_84 : decode cX9_stepOf 84 = .ok (.iconst 4, 1) := by decide +kernel
theorem dX9_stepOf_85 : decode cX9_stepOf 85 = .ok (.goto 4, 3) := by decide +kernel
theorem dX9_stepOf_88 : decode cX9_stepOf 88 = .ok (.iconst (-1), 1) := by decide +kernel
theorem dX9_stepOf_89 : decode cX9_stepOf 89 = .ok (.ireturn, 1) := by decide +kernel
theorem dX9_stepOf_90 : decode cX9_stepOf 90 = .ok (.iload_n 2, 1) := by decide +kernel
theorem dX9_stepOf_91 : decode cX9_stepOf 91 = .ok (.ifCond .eq 7, 3) := by decide +kernel
theorem dX9_stepOf_94 : decode cX9_stepOf 94 = .ok (.iconst 4, 1) := by decide +kernel
theorem dX9_stepOf_95 : decode cX9_stepOf 95 = .ok (.goto 4, 3) := by decide +kernel
theorem dX9_stepOf_98 : decode cX9_stepOf 98 = .ok (.iconst (-1), 1) := by decide +kernel
theorem dX9_stepOf_99 : decode cX9_stepOf 99 = .ok (.ireturn, 1) := by decide +kernel
theorem dX9_stepOf_100 : decode cX9_stepOf 100 = .ok (.iload_n 1, 1) := by decide +kernel
theorem dX9_stepOf_101 : decode cX9_stepOf 101 = .ok (.bipush 59, 2) := by decide +kernel
theorem dX9_stepOf_103 : decode cX9_stepOf 103 = .ok (.if_icmp .ne 7, 3) := by decide +kernel
theorem dX9_stepOf_106 : decode cX9_stepOf 106 = .ok (.iconst 0, 1) := by decide +kernel
theorem dX9_stepOf_107 : decode cX9_stepOf 107 = .ok (.goto 20, 3) := by decide +kernel
theorem dX9_stepOf_110 : decode cX9_stepOf 110 = .ok (.iload_n 2, 1) := by decide +kernel
theorem dX9_stepOf_111 : decode cX9_stepOf 111 = .ok (.ifCond .eq 15, 3) := by decide +kernel
theorem dX9_stepOf_114 : decode cX9_stepOf 114 = .ok (.iload_n 0, 1) := by decide +kernel
theorem dX9_stepOf_115 : decode cX9_stepOf 115 = .ok (.bipush 7, 2) := by decide +kernel
theorem dX9_stepOf_117 : decode cX9_stepOf 117 = .ok (.if_icmp .ge 9, 3) := by decide +kernel
theorem dX9_stepOf_120 : decode cX9_stepOf 120 = .ok (.iload_n 0, 1) := by decide +kernel
theorem dX9_stepOf_121 : decode cX9_stepOf 121 = .ok (.iconst 1, 1) := by decide +kernel
theorem dX9_stepOf_122 : decode cX9_stepOf 122 = .ok (.iadd, 1) := by decide +kernel
theorem dX9_stepOf_123 : decode cX9_stepOf 123 = .ok (.goto 4, 3) := by decide +kernel
theorem dX9_stepOf_126 : decode cX9_stepOf 126 = .ok (.iconst (-1), 1) := by decide +kernel
theorem dX9_stepOf_127 : decode cX9_stepOf 127 = .ok (.ireturn, 1) := by decide +kernel
theorem dX9_fault_0 : decode cX9_fault 0 = .ok (.iconst 0, 1) := by decide +kernel
theorem dX9_fault_1 : decode cX9_fault 1 = .ok (.istore_n 1, 1) := by decide +kernel
theorem dX9_fault_2 : decode cX9_fault 2 = .ok (.iconst 0, 1) := by decide +kernel
theorem dX9_fault_3 : decode cX9_fault 3 = .ok (.istore_n 2, 1) := by decide +kernel
theorem dX9_fault_4 : decode cX9_fault 4 = .ok (.iload_n 2, 1) := by decide +kernel
theorem dX9_fault_5 : decode cX9_fault 5 = .ok (.aload_n 0, 1) := by decide +kernel
theorem dX9_fault_6 : decode cX9_fault 6 = .ok (.getfield 198, 3) := by decide +kernel
theorem dX9_fault_9 : decode cX9_fault 9 = .ok (.if_icmp .ge 26, 3) := by decide +kernel
theorem dX9_fault_12 : decode cX9_fault 12 = .ok (.iload_n 1, 1) := by decide +kernel
theorem dX9_fault_13 : decode cX9_fault 13 = .ok (.aload_n 0, 1) := by decide +kernel
theorem dX9_fault_14 : decode cX9_fault 14 = .ok (.getfield 44, 3) := by decide +kernel
theorem dX9_fault_17 : decode cX9_fault 17 = .ok (.iload_n 2, 1) := by decide +kernel
theorem dX9_fault_18 : decode cX9_fault 18 = .ok (.iaload, 1) := by decide +kernel
theorem dX9_fault_19 : decode cX9_fault 19 = .ok (.invokestatic 211, 3) := by decide +kernel
theorem dX9_fault_22 : decode cX9_fault 22 = .ok (.istore_n 1, 1) := by decide +kernel
theorem dX9_fault_23 : decode cX9_fault 23 = .ok (.iload_n 1, 1) := by decide +kernel
theorem dX9_fault_24 : decode cX9_fault 24 = .ok (.ifCond .ge 5, 3) := by decide +kernel
theorem dX9_fault_27 : decode cX9_fault 27 = .ok (.iload_n 2, 1) := by decide +kernel
theorem dX9_fault_28 : decode cX9_fault 28 = .ok (.ireturn, 1) := by decide +kernel
theorem dX9_fault_29 : decode cX9_fault 29 = .ok (.iinc 2 1, 3) := by decide +kernel
theorem dX9_fault_32 : decode cX9_fault 32 = .ok (.goto (-28), 3) := by decide +kernel
theorem dX9_fault_35 : decode cX9_fault 35 = .ok (.iload_n 1, 1) := by decide +kernel
theorem dX9_fault_36 : decode cX9_fault 36 = .ok (.iconst 3, 1) := by decide +kernel
theorem dX9_fault_37 : decode cX9_fault 37 = .ok (.if_icmp .le 8, 3) := by decide +kernel
theorem dX9_fault_40 : decode cX9_fault 40 = .ok (.bipush (-6), 2) := by decide +kernel
theorem dX9_fault_42 : decode cX9_fault 42 = .ok (.goto 7, 3) := by decide +kernel
theorem dX9_fault_45 : decode cX9_fault 45 = .ok (.aload_n 0, 1) := by decide +kernel
theorem dX9_fault_46 : decode cX9_fault 46 = .ok (.getfield 198, 3) := by decide +kernel
theorem dX9_fault_49 : decode cX9_fault 49 = .ok (.ireturn, 1) := by decide +kernel
theorem dX9_rule_0 : decode cX9_rule 0 = .ok (.aload_n 0, 1) := by decide +kernel
theorem dX9_rule_1 : decode cX9_rule 1 = .ok (.invokevirtual 214, 3) := by decide +kernel
theorem dX9_rule_4 : decode cX9_rule 4 = .ok (.ifCond .lt 6, 3) := by decide +kernel
theorem dX9_rule_7 : decode cX9_rule 7 = .ok (.bipush (-5), 2) := by decide +kernel
theorem dX9_rule_9 : decode cX9_rule 9 = .ok (.ireturn, 1) := by decide +kernel
theorem dX9_rule_10 : decode cX9_rule 10 = .ok (.aload_n 0, 1) := by decide +kernel
theorem dX9_rule_11 : decode cX9_rule 11 = .ok (.iconst 0, 1) := by decide +kernel
theorem dX9_rule_12 : decode cX9_rule 12 = .ok (.putfield 217, 3) := by decide +kernel
theorem dX9_rule_15 : decode cX9_rule 15 = .ok (.iconst 0, 1) := by decide +kernel
theorem dX9_rule_16 : decode cX9_rule 16 = .ok (.istore_n 1, 1) := by decide +kernel
theorem dX9_rule_17 : decode cX9_rule 17 = .ok (.iconst 0, 1) := by decide +kernel
theorem dX9_rule_18 : decode cX9_rule 18 = .ok (.istore_n 2, 1) := by decide +kernel
theorem dX9_rule_19 : decode cX9_rule 19 = .ok (.iconst 0, 1) := by decide +kernel
theorem dX9_rule_20 : decode cX9_rule 20 = .ok (.istore_n 3, 1) := by decide +kernel
theorem dX9_rule_21 : decode cX9_rule 21 = .ok (.iload_n 3, 1) := by decide +kernel
theorem dX9_rule_22 : decode cX9_rule 22 = .ok (.aload_n 0, 1) := by decide +kernel
theorem dX9_rule_23 : decode cX9_rule 23 = .ok (.getfield 198, 3) := by decide +kernel
theorem dX9_rule_26 : decode cX9_rule 26 = .ok (.if_icmp .gt 147, 3) := by decide +kernel
theorem dX9_rule_29 : decode cX9_rule 29 = .ok (.iload_n 3, 1) := by decide +kernel
theorem dX9_rule_30 : decode cX9_rule 30 = .ok (.aload_n 0, 1) := by decide +kernel
theorem dX9_rule_31 : decode cX9_rule 31 = .ok (.getfield 198, 3) := by decide +kernel
theorem dX9_rule_34 : decode cX9_rule 34 = .ok (.if_icmp .ge 12, 3) := by decide +kernel
theorem dX9_rule_37 : decode cX9_rule 37 = .ok (.aload_n 0, 1) := by decide +kernel
theorem dX9_rule_38 : decode cX9_rule 38 = .ok (.getfield 44, 3) := by decide +kernel
theorem dX9_rule_41 : decode cX9_rule 41 = .ok (.iload_n 3, 1) := by decide +kernel
theorem dX9_rule_42 : decode cX9_rule 42 = .ok (.iaload, 1) := by decide +kernel
theorem dX9_rule_43 : decode cX9_rule 43 = .ok (.goto 5, 3) := by decide +kernel
theorem dX9_rule_46 : decode cX9_rule 46 = .ok (.bipush 59, 2) := by decide +kernel
theorem dX9_rule_48 : decode cX9_rule 48 = .ok (.istore 4, 2) := by decide +kernel
theorem dX9_rule_50 : decode cX9_rule 50 = .ok (.iload 4, 2) := by decide +kernel
theorem dX9_rule_52 : decode cX9_rule 52 = .ok (.bipush 59, 2) := by decide +kernel
theorem dX9_rule_54 : decode cX9_rule 54 = .ok (.if_icmp .ne 39, 3) := by decide +kernel
theorem dX9_rule_57 : decode cX9_rule 57 = .ok (.aload_n 0, 1) := by decide +kernel
theorem dX9_rule_58 : decode cX9_rule 58 = .ok (.getfield 53, 3) := by decide +kernel
theorem dX9_rule_61 : decode cX9_rule 61 = .ok (.aload_n 0, 1) := by decide +kernel
theorem dX9_rule_62 : decode cX9_rule 62 = .ok (.getfield 217, 3) := by decide +kernel
theorem dX9_rule_65 : decode cX9_rule 65 = .ok (.iload_n 2, 1) := by decide +kernel
theorem dX9_rule_66 : decode cX9_rule 66 = .ok (.ifCond .eq 8, 3) := by decide +kernel
theorem dX9_rule_69 : decode cX9_rule 69 = .ok (.iload_n 1, 1) := by decide +kernel
theorem dX9_rule_70 : decode cX9_rule 70 = .ok (.ineg, 1) := by decide +kernel
theorem dX9_rule_71 : decode cX9_rule 71 = .ok (.goto 4, 3) := by decide +kernel
theorem dX9_rule_74 : decode cX9_rule 74 = .ok (.iload_n 1, 1) := by decide +kernel
theorem dX9_rule_75 : decode cX9_rule 75 = .ok (.iastore, 1) := by decide +kernel
theorem dX9_rule_76 : decode cX9_rule 76 = .ok (.aload_n 0, 1) := by decide +kernel
theorem dX9_rule_77 : decode cX9_rule 77 = .ok (.dup, 1) := by decide +kernel
theorem dX9_rule_78 : decode cX9_rule 78 = .ok (.getfield 217, 3) := by decide +kernel
theorem dX9_rule_81 : decode cX9_rule 81 = .ok (.iconst 1, 1) := by decide +kernel
theorem dX9_rule_82 : decode cX9_rule 82 = .ok (.iadd, 1) := by decide +kernel
theorem dX9_rule_83 : decode cX9_rule 83 = .ok (.putfield 217, 3) := by decide +kernel
theorem dX9_rule_86 : decode cX9_rule 86 = .ok (.iconst 0, 1) := by decide +kernel
theorem dX9_rule_87 : decode cX9_rule 87 = .ok (.istore_n 1, 1) := by decide +kernel
theorem dX9_rule_88 : decode cX9_rule 88 = .ok (.iconst 0, 1) := by decide +kernel
theorem dX9_rule_89 : decode cX9_rule 89 = .ok (.istore_n 2, 1) := by decide +kernel
theorem dX9_rule_90 : decode cX9_rule 90 = .ok (.goto 77, 3) := by decide +kernel
theorem dX9_rule_93 : decode cX9_rule 93 = .ok (.iload 4, 2) := by decide +kernel
theorem dX9_rule_95 : decode cX9_rule 95 = .ok (.i2l, 1) := by decide +kernel
theorem dX9_rule_96 : decode cX9_rule 96 = .ok (.ldc2_w 201, 3) := by decide +kernel
theorem dX9_rule_99 : decode cX9_rule 99 = .ok (.ldc2_w 203, 3) := by decide +kernel
theorem dX9_rule_102 : decode cX9_rule 102 = .ok (.invokestatic 69, 3) := by decide +kernel
theorem dX9_rule_105 : decode cX9_rule 105 = .ok (.ifCond .eq 17, 3) := by decide +kernel
theorem dX9_rule_108 : decode cX9_rule 108 = .ok (.bipush 10, 2) := by decide +kernel
theorem dX9_rule_110 : decode cX9_rule 110 = .ok (.iload_n 1, 1) := by decide +kernel
theorem dX9_rule_111 : decode cX9_rule 111 = .ok (.imul, 1) := by decide +kernel
theorem dX9_rule_112 : decode cX9_rule 112 = .ok (.iload 4, 2) := by decide +kernel
theorem dX9_rule_114 : decode cX9_rule 114 = .ok (.iadd, 1) := by decide +kernel
theorem dX9_rule_115 : decode cX9_rule 115 = .ok (.bipush 48, 2) := by decide +kernel
theorem dX9_rule_117 : decode cX9_rule 117 = .ok (.isub, 1) := by decide +kernel
theorem dX9_rule_118 : decode cX9_rule 118 = .ok (.istore_n 1, 1) := by decide +kernel
theorem dX9_rule_119 : decode cX9_rule 119 = .ok (.goto 48, 3) := by decide +kernel
theorem dX9_rule_122 : decode cX9_rule 122 = .ok (.iload 4, 2) := by decide +kernel
theorem dX9_rule_124 : decode cX9_rule 124 = .ok (.bipush 45, 2) := by decide +kernel
theorem dX9_rule_126 : decode cX9_rule 126 = .ok (.if_icmp .ne 8, 3) := by decide +kernel
theorem dX9_rule_129 : decode cX9_rule 129 = .ok (.iconst 1, 1) := by decide +kernel
theorem dX9_rule_130 : decode cX9_rule 130 = .ok (.istore_n 2, 1) := by decide +kernel
theorem dX9_rule_131 : decode cX9_rule 131 = .ok (.goto 36, 3) := by decide +kernel
theorem dX9_rule_134 : decode cX9_rule 134 = .ok (.iload 4, 2) := by decide +kernel
theorem dX9_rule_136 : decode cX9_rule 136 = .ok (.invokestatic 208, 3) := by decide +kernel
theorem dX9_rule_139 : decode cX9_rule 139 = .ok (.ifCond .eq 17, 3) := by decide +kernel
theorem dX9_rule_142 : decode cX9_rule 142 = .ok (.aload_n 0, 1) := by decide +kernel
theorem dX9_rule_143 : decode cX9_rule 143 = .ok (.getfield 50, 3) := by decide +kernel
theorem dX9_rule_146 : decode cX9_rule 146 = .ok (.aload_n 0, 1) := by decide +kernel
theorem dX9_rule_147 : decode cX9_rule 147 = .ok (.getfield 217, 3) := by decide +kernel
theorem dX9_rule_150 : decode cX9_rule 150 = .ok (.iload 4, 2) := by decide +kernel
theorem dX9_rule_152 : decode cX9_rule 152 = .ok (.iastore, 1) := by decide +kernel
theorem dX9_rule_153 : decode cX9_rule 153 = .ok (.goto 14, 3) := by decide +kernel
theorem dX9_rule_156 : decode cX9_rule 156 = .ok (.aload_n 0, 1) := by decide +kernel
theorem dX9_rule_157 : decode cX9_rule 157 = .ok (.getfield 47, 3) := by decide +kernel
theorem dX9_rule_160 : decode cX9_rule 160 = .ok (.aload_n 0, 1) := by decide +kernel
theorem dX9_rule_161 : decode cX9_rule 161 = .ok (.getfield 217, 3) := by decide +kernel
theorem dX9_rule_164 : decode cX9_rule 164 = .ok (.iload 4, 2) := by decide +kernel
theorem dX9_rule_166 : decode cX9_rule 166 = .ok (.iastore, 1) := by decide +kernel
theorem dX9_rule_167 : decode cX9_rule 167 = .ok (.iinc 3 1, 3) := by decide +kernel
theorem dX9_rule_170 : decode cX9_rule 170 = .ok (.goto (-149), 3) := by decide +kernel
theorem dX9_rule_173 : decode cX9_rule 173 = .ok (.aload_n 0, 1) := by decide +kernel
theorem dX9_rule_174 : decode cX9_rule 174 = .ok (.iconst 0, 1) := by decide +kernel
theorem dX9_rule_175 : decode cX9_rule 175 = .ok (.putfield 198, 3) := by decide +kernel
theorem dX9_rule_178 : decode cX9_rule 178 = .ok (.aload_n 0, 1) := by decide +kernel
theorem dX9_rule_179 : decode cX9_rule 179 = .ok (.getfield 217, 3) := by decide +kernel
theorem dX9_rule_182 : decode cX9_rule 182 = .ok (.ireturn, 1) := by decide +kernel
theorem dX9_isNumber_0 : decode cX9_isNumber 0 = .ok (.iload_n 0, 1) := by decide +kernel
theorem dX9_isNumber_1 : decode cX9_isNumber 1 = .ok (.i2l, 1) := by decide +kernel
theorem dX9_isNumber_2 : decode cX9_isNumber 2 = .ok (.ldc2_w 220, 3) := by decide +kernel
theorem dX9_isNumber_5 : decode cX9_isNumber 5 = .ok (.ldc2_w 222, 3) := by decide +kernel
theorem dX9_isNumber_8 : decode cX9_isNumber 8 = .ok (.invokestatic 69, 3) := by decide +kernel
theorem dX9_isNumber_11 : decode cX9_isNumber 11 = .ok (.ireturn, 1) := by decide +kernel
theorem dX9_record_0 : decode cX9_record 0 = .ok (.iload_n 1, 1) := by decide +kernel
theorem dX9_record_1 : decode cX9_record 1 = .ok (.invokestatic 224, 3) := by decide +kernel
theorem dX9_record_4 : decode cX9_record 4 = .ok (.ifCond .eq 25, 3) := by decide +kernel
theorem dX9_record_7 : decode cX9_record 7 = .ok (.iload_n 2, 1) := by decide +kernel
theorem dX9_record_8 : decode cX9_record 8 = .ok (.invokestatic 224, 3) := by decide +kernel
theorem dX9_record_11 : decode cX9_record 11 = .ok (.ifCond .eq 18, 3) := by decide +kernel
theorem dX9_record_14 : decode cX9_record 14 = .ok (.iload_n 3, 1) := by decide +kernel
theorem dX9_record_15 : decode cX9_record 15 = .ok (.invokestatic 224, 3) := by decide +kernel
theorem dX9_record_18 : decode cX9_record 18 = .ok (.ifCond .eq 11, 3) := by decide +kernel
theorem dX9_record_21 : decode cX9_record 21 = .ok (.iload 4, 2) := by decide +kernel
theorem dX9_record_23 : decode cX9_record 23 = .ok (.invokestatic 224, 3) := by decide +kernel
theorem dX9_record_26 : decode cX9_record 26 = .ok (.ifCond .ne 6, 3) := by decide +kernel
theorem dX9_record_29 : decode cX9_record 29 = .ok (.bipush (-2), 2) := by decide +kernel
theorem dX9_record_31 : decode cX9_record 31 = .ok (.ireturn, 1) := by decide +kernel
theorem dX9_record_32 : decode cX9_record 32 = .ok (.aload_n 0, 1) := by decide +kernel
theorem dX9_record_33 : decode cX9_record 33 = .ok (.getfield 217, 3) := by decide +kernel
theorem dX9_record_36 : decode cX9_record 36 = .ok (.ifCond .ne 6, 3) := by decide +kernel
theorem dX9_record_39 : decode cX9_record 39 = .ok (.bipush (-3), 2) := by decide +kernel
theorem dX9_record_41 : decode cX9_record 41 = .ok (.ireturn, 1) := by decide +kernel
theorem dX9_record_42 : decode cX9_record 42 = .ok (.iconst 0, 1) := by decide +kernel
theorem dX9_record_43 : decode cX9_record 43 = .ok (.istore 5, 2) := by decide +kernel
theorem dX9_record_45 : decode cX9_record 45 = .ok (.iload 5, 2) := by decide +kernel
theorem dX9_record_47 : decode cX9_record 47 = .ok (.aload_n 0, 1) := by decide +kernel
theorem dX9_record_48 : decode cX9_record 48 = .ok (.getfield 217, 3) := by decide +kernel
theorem dX9_record_51 : decode cX9_record 51 = .ok (.if_icmp .ge 146, 3) := by decide +kernel
theorem dX9_record_54 : decode cX9_record 54 = .ok (.aload_n 0, 1) := by decide +kernel
theorem dX9_record_55 : decode cX9_record 55 = .ok (.getfield 47, 3) := by decide +kernel
theorem dX9_record_58 : decode cX9_record 58 = .ok (.iload 5, 2) := by decide +kernel
theorem dX9_record_60 : decode cX9_record 60 = .ok (.iaload, 1) := by decide +kernel
theorem dX9_record_61 : decode cX9_record 61 = .ok (.istore 6, 2) := by decide +kernel
theorem dX9_record_63 : decode cX9_record 63 = .ok (.iload 6, 2) := by decide +kernel
theorem dX9_record_65 : decode cX9_record 65 = .ok (.bipush 116, 2) := by decide +kernel
theorem dX9_record_67 : decode cX9_record 67 = .ok (.if_icmp .ne 7, 3) := by decide +kernel
theorem dX9_record_70 : decode cX9_record 70 = .ok (.iload_n 1, 1) := by decide +kernel
theorem dX9_record_71 : decode cX9_record 71 = .ok (.goto 27, 3) := by decide +kernel
theorem dX9_record_74 : decode cX9_record 74 = .ok (.iload 6, 2) := by decide +kernel
theorem dX9_record_76 : decode cX9_record 76 = .ok (.bipush 119, 2) := by decide +kernel
theorem dX9_record_78 : decode cX9_record 78 = .ok (.if_icmp .ne 7, 3) := by decide +kernel
theorem dX9_record_81 : decode cX9_record 81 = .ok (.iload_n 2, 1) := by decide +kernel
theorem dX9_record_82 : decode cX9_record 82 = .ok (.goto 16, 3) := by decide +kernel
theorem dX9_record_85 : decode cX9_record 85 = .ok (.iload 6, 2) := by decide +kernel
theorem dX9_record_87 : decode cX9_record 87 = .ok (.bipush 104, 2) := by decide +kernel
theorem dX9_record_89 : decode cX9_record 89 = .ok (.if_icmp .ne 7, 3) := by decide +kernel
theorem dX9_record_92 : decode cX9_record 92 = .ok (.iload_n 3, 1) := by decide +kernel
theorem dX9_record_93 : decode cX9_record 93 = .ok (.goto 5, 3) := by decide +kernel
theorem dX9_record_96 : decode cX9_record 96 = .ok (.iload 4, 2) := by decide +kernel
theorem dX9_record_98 : decode cX9_record 98 = .ok (.istore 7, 2) := by decide +kernel
theorem dX9_record_100 : decode cX9_record 100 = .ok (.aload_n 0, 1) := by decide +kernel
theorem dX9_record_101 : decode cX9_record 101 = .ok (.getfield 50, 3) := by decide +kernel
theorem dX9_record_104 : decode cX9_record 104 = .ok (.iload 5, 2) := by decide +kernel
theorem dX9_record_106 : decode cX9_record 106 = .ok (.iaload, 1) := by decide +kernel
theorem dX9_record_107 : decode cX9_record 107 = .ok (.bipush 60, 2) := by decide +kernel
theorem dX9_record_109 : decode cX9_record 109 = .ok (.if_icmp .ne 23, 3) := by decide +kernel
theorem dX9_record_112 : decode cX9_record 112 = .ok (.iload 7, 2) := by decide +kernel
theorem dX9_record_114 : decode cX9_record 114 = .ok (.aload_n 0, 1) := by decide +kernel
theorem dX9_record_115 : decode cX9_record 115 = .ok (.getfield 53, 3) := by decide +kernel
theorem dX9_record_118 : decode cX9_record 118 = .ok (.iload 5, 2) := by decide +kernel
theorem dX9_record_120 : decode cX9_record 120 = .ok (.iaload, 1) := by decide +kernel
theorem dX9_record_121 : decode cX9_record 121 = .ok (.if_icmp .ge 7, 3) := by decide +kernel
theorem dX9_record_124 : decode cX9_record 124 = .ok (.iconst 1, 1) := by decide +kernel
theorem dX9_record_125 : decode cX9_record 125 = .ok (.goto 56, 3) := by decide +kernel
theorem dX9_record_128 : decode cX9_record 128 = .ok (.iconst 0, 1) := by decide +kernel
theorem dX9_record_129 : decode cX9_record 129 = .ok (.goto 52, 3) := by decide +kernel
theorem dX9_record_132 : decode cX9_record 132 = .ok (.aload_n 0, 1) := by decide +kernel
theorem dX9_record_133 : decode cX9_record 133 = .ok (.getfield 50, 3) := by decide +kernel
theorem dX9_record_136 : decode cX9_record 136 = .ok (.iload 5, 2) := by decide +kernel
theorem dX9_record_138 : decode cX9_record 138 = .ok (.iaload, 1) := by decide +kernel
theorem dX9_record_139 : decode cX9_record 139 = .ok (.bipush 62, 2) := by decide +kernel
theorem dX9_record_141 : decode cX9_record 141 = .ok (.if_icmp .ne 23, 3) := by decide +kernel
theorem dX9_record_144 : decode cX9_record 144 = .ok (.iload 7, 2) := by decide +kernel
theorem dX9_record_146 : decode cX9_record 146 = .ok (.aload_n 0, 1) := by decide +kernel
theorem dX9_record_147 : decode cX9_record 147 = .ok (.getfield 53, 3) := by decide +kernel
theorem dX9_record_150 : decode cX9_record 150 = .ok (.iload 5, 2) := by decide +kernel
theorem dX9_record_152 : decode cX9_record 152 = .ok (.iaload, 1) := by decide +kernel
theorem dX9_record_153 : decode cX9_record 153 = .ok (.if_icmp .le 7, 3) := by decide +kernel
theorem dX9_record_156 : decode cX9_record 156 = .ok (.iconst 1, 1) := by decide +kernel
theorem dX9_record_157 : decode cX9_record 157 = .ok (.goto 24, 3) := by decide +kernel
theorem dX9_record_160 : decode cX9_record 160 = .ok (.iconst 0, 1) := by decide +kernel
theorem dX9_record_161 : decode cX9_record 161 = .ok (.goto 20, 3) := by decide +kernel
theorem dX9_record_164 : decode cX9_record 164 = .ok (.iload 7, 2) := by decide +kernel
theorem dX9_record_166 : decode cX9_record 166 = .ok (.aload_n 0, 1) := by decide +kernel
theorem dX9_record_167 : decode cX9_record 167 = .ok (.getfield 53, 3) := by decide +kernel
theorem dX9_record_170 : decode cX9_record 170 = .ok (.iload 5, 2) := by decide +kernel
theorem dX9_record_172 : decode cX9_record 172 = .ok (.iaload, 1) := by decide +kernel
theorem dX9_record_173 : decode cX9_record 173 = .ok (.if_icmp .ne 7, 3) := by decide +kernel
theorem dX9_record_176 : decode cX9_record 176 = .ok (.iconst 1, 1) := by decide +kernel
theorem dX9_record_177 : decode cX9_record 177 = .ok (.goto 4, 3) := by decide +kernel
theorem dX9_record_180 : decode cX9_record 180 = .ok (.iconst 0, 1) := by decide +kernel
theorem dX9_record_181 : decode cX9_record 181 = .ok (.istore 8, 2) := by decide +kernel
theorem dX9_record_183 : decode cX9_record 183 = .ok (.iload 8, 2) := by decide +kernel
theorem dX9_record_185 : decode cX9_record 185 = .ok (.ifCond .ne 6, 3) := by decide +kernel
theorem dX9_record_188 : decode cX9_record 188 = .ok (.iload 5, 2) := by decide +kernel
theorem dX9_record_190 : decode cX9_record 190 = .ok (.ireturn, 1) := by decide +kernel
theorem dX9_record_191 : decode cX9_record 191 = .ok (.iinc 5 1, 3) := by decide +kernel
theorem dX9_record_194 : decode cX9_record 194 = .ok (.goto (-149), 3) := by decide +kernel
theorem dX9_record_197 : decode cX9_record 197 = .ok (.bipush (-6), 2) := by decide +kernel
theorem dX9_record_199 : decode cX9_record 199 = .ok (.ireturn, 1) := by decide +kernel
theorem dX9_slit_0 : decode cX9_slit 0 = .ok (.iload_n 1, 1) := by decide +kernel
theorem dX9_slit_1 : decode cX9_slit 1 = .ok (.i2l, 1) := by decide +kernel
theorem dX9_slit_2 : decode cX9_slit 2 = .ok (.lconst 0, 1) := by decide +kernel
theorem dX9_slit_3 : decode cX9_slit 3 = .ok (.lconst 1, 1) := by decide +kernel
theorem dX9_slit_4 : decode cX9_slit 4 = .ok (.invokestatic 69, 3) := by decide +kernel
theorem dX9_slit_7 : decode cX9_slit 7 = .ok (.ifCond .eq 15, 3) := by decide +kernel
theorem dX9_slit_10 : decode cX9_slit 10 = .ok (.iload_n 2, 1) := by decide +kernel
theorem dX9_slit_11 : decode cX9_slit 11 = .ok (.i2l, 1) := by decide +kernel
theorem dX9_slit_12 : decode cX9_slit 12 = .ok (.lconst 1, 1) := by decide +kernel
theorem dX9_slit_13 : decode cX9_slit 13 = .ok (.ldc2_w 227, 3) := by decide +kernel
theorem dX9_slit_16 : decode cX9_slit 16 = .ok (.invokestatic 69, 3) := by decide +kernel
theorem dX9_slit_19 : decode cX9_slit 19 = .ok (.ifCond .ne 6, 3) := by decide +kernel
theorem dX9_slit_22 : decode cX9_slit 22 = .ok (.bipush (-2), 2) := by decide +kernel
theorem dX9_slit_24 : decode cX9_slit 24 = .ok (.ireturn, 1) := by decide +kernel
theorem dX9_slit_25 : decode cX9_slit 25 = .ok (.aload_n 0, 1) := by decide +kernel
theorem dX9_slit_26 : decode cX9_slit 26 = .ok (.getfield 229, 3) := by decide +kernel
theorem dX9_slit_29 : decode cX9_slit 29 = .ok (.bipush 8, 2) := by decide +kernel
theorem dX9_slit_31 : decode cX9_slit 31 = .ok (.if_icmp .ne 6, 3) := by decide +kernel
theorem dX9_slit_34 : decode cX9_slit 34 = .ok (.bipush (-4), 2) := by decide +kernel
theorem dX9_slit_36 : decode cX9_slit 36 = .ok (.ireturn, 1) := by decide +kernel
theorem dX9_slit_37 : decode cX9_slit 37 = .ok (.aload_n 0, 1) := by decide +kernel
theorem dX9_slit_38 : decode cX9_slit 38 = .ok (.getfield 56, 3) := by decide +kernel
theorem dX9_slit_41 : decode cX9_slit 41 = .ok (.aload_n 0, 1) := by decide +kernel
theorem dX9_slit_42 : decode cX9_slit 42 = .ok (.getfield 229, 3) := by decide +kernel
theorem dX9_slit_45 : decode cX9_slit 45 = .ok (.iload_n 1, 1) := by decide +kernel
theorem dX9_slit_46 : decode cX9_slit 46 = .ok (.iastore, 1) := by decide +kernel
theorem dX9_slit_47 : decode cX9_slit 47 = .ok (.aload_n 0, 1) := by decide +kernel
theorem dX9_slit_48 : decode cX9_slit 48 = .ok (.getfield 59, 3) := by decide +kernel
theorem dX9_slit_51 : decode cX9_slit 51 = .ok (.aload_n 0, 1) := by decide +kernel
theorem dX9_slit_52 : decode cX9_slit 52 = .ok (.getfield 229, 3) := by decide +kernel
theorem dX9_slit_55 : decode cX9_slit 55 = .ok (.iload_n 2, 1) := by decide +kernel
theorem dX9_slit_56 : decode cX9_slit 56 = .ok (.iastore, 1) := by decide +kernel
theorem dX9_slit_57 : decode cX9_slit 57 = .ok (.aload_n 0, 1) := by decide +kernel
theorem dX9_slit_58 : decode cX9_slit 58 = .ok (.dup, 1) := by decide +kernel
theorem dX9_slit_59 : decode cX9_slit 59 = .ok (.getfield 229, 3) := by decide +kernel
theorem dX9_slit_62 : decode cX9_slit 62 = .ok (.iconst 1, 1) := by decide +kernel
theorem dX9_slit_63 : decode cX9_slit 63 = .ok (.iadd, 1) := by decide +kernel
theorem dX9_slit_64 : decode cX9_slit 64 = .ok (.putfield 229, 3) := by decide +kernel
theorem dX9_slit_67 : decode cX9_slit 67 = .ok (.aload_n 0, 1) := by decide +kernel
theorem dX9_slit_68 : decode cX9_slit 68 = .ok (.getfield 229, 3) := by decide +kernel
theorem dX9_slit_71 : decode cX9_slit 71 = .ok (.iconst 1, 1) := by decide +kernel
theorem dX9_slit_72 : decode cX9_slit 72 = .ok (.isub, 1) := by decide +kernel
theorem dX9_slit_73 : decode cX9_slit 73 = .ok (.ireturn, 1) := by decide +kernel
theorem dX9_seenBy_0 : decode cX9_seenBy 0 = .ok (.iconst 0, 1) := by decide +kernel
theorem dX9_seenBy_1 : decode cX9_seenBy 1 = .ok (.istore_n 2, 1) := by decide +kernel
theorem dX9_seenBy_2 : decode cX9_seenBy 2 = .ok (.iconst 0, 1) := by decide +kernel
theorem dX9_seenBy_3 : decode cX9_seenBy 3 = .ok (.istore_n 3, 1) := by decide +kernel
theorem dX9_seenBy_4 : decode cX9_seenBy 4 = .ok (.iload_n 3, 1) := by decide +kernel
theorem dX9_seenBy_5 : decode cX9_seenBy 5 = .ok (.aload_n 0, 1) := by decide +kernel
theorem dX9_seenBy_6 : decode cX9_seenBy 6 = .ok (.getfield 66, 3) := by decide +kernel
theorem dX9_seenBy_9 : decode cX9_seenBy 9 = .ok (.if_icmp .ge 101, 3) := by decide +kernel
theorem dX9_seenBy_12 : decode cX9_seenBy 12 = .ok (.bipush (-6), 2) := by decide +kernel
theorem dX9_seenBy_14 : decode cX9_seenBy 14 = .ok (.istore 4, 2) := by decide +kernel
theorem dX9_seenBy_16 : decode cX9_seenBy 16 = .ok (.iconst 0, 1) := by decide +kernel
theorem dX9_seenBy_17 : decode cX9_seenBy 17 = .ok (.istore 5, 2) := by decide +kernel
theorem dX9_seenBy_19 : decode cX9_seenBy 19 = .ok (.iload 5, 2) := by decide +kernel
theorem dX9_seenBy_21 : decode cX9_seenBy 21 = .ok (.aload_n 0, 1) := by decide +kernel
theorem dX9_seenBy_22 : decode cX9_seenBy 22 = .ok (.getfield 229, 3) := by decide +kernel
theorem dX9_seenBy_25 : decode cX9_seenBy 25 = .ok (.if_icmp .ge 50, 3) := by decide +kernel
theorem dX9_seenBy_28 : decode cX9_seenBy 28 = .ok (.iload_n 1, 1) := by decide +kernel
theorem dX9_seenBy_29 : decode cX9_seenBy 29 = .ok (.iload 5, 2) := by decide +kernel
theorem dX9_seenBy_31 : decode cX9_seenBy 31 = .ok (.ishr, 1) := by decide +kernel
theorem dX9_seenBy_32 : decode cX9_seenBy 32 = .ok (.iconst 1, 1) := by decide +kernel
theorem dX9_seenBy_33 : decode cX9_seenBy 33 = .ok (.iand, 1) := by decide +kernel
theorem dX9_seenBy_34 : decode cX9_seenBy 34 = .ok (.iconst 1, 1) := by decide +kernel
theorem dX9_seenBy_35 : decode cX9_seenBy 35 = .ok (.if_icmp .ne 30, 3) := by decide +kernel
theorem dX9_seenBy_38 : decode cX9_seenBy 38 = .ok (.iload 4, 2) := by decide +kernel
theorem dX9_seenBy_40 : decode cX9_seenBy 40 = .ok (.aload_n 0, 1) := by decide +kernel
theorem dX9_seenBy_41 : decode cX9_seenBy 41 = .ok (.iload_n 3, 1) := by decide +kernel
theorem dX9_seenBy_42 : decode cX9_seenBy 42 = .ok (.aload_n 0, 1) := by decide +kernel
theorem dX9_seenBy_43 : decode cX9_seenBy 43 = .ok (.getfield 56, 3) := by decide +kernel
theorem dX9_seenBy_46 : decode cX9_seenBy 46 = .ok (.iload 5, 2) := by decide +kernel
theorem dX9_seenBy_48 : decode cX9_seenBy 48 = .ok (.iaload, 1) := by decide +kernel
theorem dX9_seenBy_49 : decode cX9_seenBy 49 = .ok (.aload_n 0, 1) := by decide +kernel
theorem dX9_seenBy_50 : decode cX9_seenBy 50 = .ok (.getfield 59, 3) := by decide +kernel
theorem dX9_seenBy_53 : decode cX9_seenBy 53 = .ok (.iload 5, 2) := by decide +kernel
theorem dX9_seenBy_55 : decode cX9_seenBy 55 = .ok (.iaload, 1) := by decide +kernel
theorem dX9_seenBy_56 : decode cX9_seenBy 56 = .ok (.invokevirtual 126, 3) := by decide +kernel
theorem dX9_seenBy_59 : decode cX9_seenBy 59 = .ok (.invokestatic 122, 3) := by decide +kernel
theorem dX9_seenBy_62 : decode cX9_seenBy 62 = .ok (.goto 5, 3) := by decide +kernel
theorem dX9_seenBy_65 : decode cX9_seenBy 65 = .ok (.iload 4, 2) := by decide +kernel
theorem dX9_seenBy_67 : decode cX9_seenBy 67 = .ok (.istore 4, 2) := by decide +kernel
theorem dX9_seenBy_69 : decode cX9_seenBy 69 = .ok (.iinc 5 1, 3) := by decide +kernel
theorem dX9_seenBy_72 : decode cX9_seenBy 72 = .ok (.goto (-53), 3) := by decide +kernel
theorem dX9_seenBy_75 : decode cX9_seenBy 75 = .ok (.iload_n 2, 1) := by decide +kernel
theorem dX9_seenBy_76 : decode cX9_seenBy 76 = .ok (.iload 4, 2) := by decide +kernel
theorem dX9_seenBy_78 : decode cX9_seenBy 78 = .ok (.ifCond .lt 23, 3) := by decide +kernel
theorem dX9_seenBy_81 : decode cX9_seenBy 81 = .ok (.iload 4, 2) := by decide +kernel
theorem dX9_seenBy_83 : decode cX9_seenBy 83 = .ok (.aload_n 0, 1) := by decide +kernel
theorem dX9_seenBy_84 : decode cX9_seenBy 84 = .ok (.iload_n 3, 1) := by decide +kernel
theorem dX9_seenBy_85 : decode cX9_seenBy 85 = .ok (.aload_n 0, 1) := by decide +kernel
theorem dX9_seenBy_86 : decode cX9_seenBy 86 = .ok (.getfield 94, 3) := by decide +kernel
theorem dX9_seenBy_89 : decode cX9_seenBy 89 = .ok (.invokevirtual 129, 3) := by decide +kernel
theorem dX9_seenBy_92 : decode cX9_seenBy 92 = .ok (.if_icmp .ne 9, 3) := by decide +kernel
theorem dX9_seenBy_95 : decode cX9_seenBy 95 = .ok (.iconst 1, 1) := by decide +kernel
theorem dX9_seenBy_96 : decode cX9_seenBy 96 = .ok (.iload_n 3, 1) := by decide +kernel
theorem dX9_seenBy_97 : decode cX9_seenBy 97 = .ok (.ishl, 1) := by decide +kernel
theorem dX9_seenBy_98 : decode cX9_seenBy 98 = .ok (.goto 4, 3) := by decide +kernel
theorem dX9_seenBy_101 : decode cX9_seenBy 101 = .ok (.iconst 0, 1) := by decide +kernel
theorem dX9_seenBy_102 : decode cX9_seenBy 102 = .ok (.ior, 1) := by decide +kernel
theorem dX9_seenBy_103 : decode cX9_seenBy 103 = .ok (.istore_n 2, 1) := by decide +kernel
theorem dX9_seenBy_104 : decode cX9_seenBy 104 = .ok (.iinc 3 1, 3) := by decide +kernel
theorem dX9_seenBy_107 : decode cX9_seenBy 107 = .ok (.goto (-103), 3) := by decide +kernel
theorem dX9_seenBy_110 : decode cX9_seenBy 110 = .ok (.iload_n 2, 1) := by decide +kernel
theorem dX9_seenBy_111 : decode cX9_seenBy 111 = .ok (.ireturn, 1) := by decide +kernel
theorem dX9_untold_0 : decode cX9_untold 0 = .ok (.iconst 0, 1) := by decide +kernel
theorem dX9_untold_1 : decode cX9_untold 1 = .ok (.istore_n 2, 1) := by decide +kernel
theorem dX9_untold_2 : decode cX9_untold 2 = .ok (.iconst 0, 1) := by decide +kernel
theorem dX9_untold_3 : decode cX9_untold 3 = .ok (.istore_n 3, 1) := by decide +kernel
theorem dX9_untold_4 : decode cX9_untold 4 = .ok (.iload_n 3, 1) := by decide +kernel
theorem dX9_untold_5 : decode cX9_untold 5 = .ok (.aload_n 0, 1) := by decide +kernel
theorem dX9_untold_6 : decode cX9_untold 6 = .ok (.getfield 66, 3) := by decide +kernel
theorem dX9_untold_9 : decode cX9_untold 9 = .ok (.if_icmp .ge 80, 3) := by decide +kernel
theorem dX9_untold_12 : decode cX9_untold 12 = .ok (.iconst 0, 1) := by decide +kernel
theorem dX9_untold_13 : decode cX9_untold 13 = .ok (.istore 4, 2) := by decide +kernel
theorem dX9_untold_15 : decode cX9_untold 15 = .ok (.iload 4, 2) := by decide +kernel
theorem dX9_untold_17 : decode cX9_untold 17 = .ok (.iload_n 3, 1) := by decide +kernel
theorem dX9_untold_18 : decode cX9_untold 18 = .ok (.if_icmp .ge 65, 3) := by decide +kernel
theorem dX9_untold_21 : decode cX9_untold 21 = .ok (.iload_n 1, 1) := by decide +kernel
theorem dX9_untold_22 : decode cX9_untold 22 = .ok (.iload_n 3, 1) := by decide +kernel
theorem dX9_untold_23 : decode cX9_untold 23 = .ok (.ishr, 1) := by decide +kernel
theorem dX9_untold_24 : decode cX9_untold 24 = .ok (.iconst 1, 1) := by decide +kernel
theorem dX9_untold_25 : decode cX9_untold 25 = .ok (.iand, 1) := by decide +kernel
theorem dX9_untold_26 : decode cX9_untold 26 = .ok (.iconst 1, 1) := by decide +kernel
theorem dX9_untold_27 : decode cX9_untold 27 = .ok (.if_icmp .ne 17, 3) := by decide +kernel
theorem dX9_untold_30 : decode cX9_untold 30 = .ok (.iload_n 1, 1) := by decide +kernel
theorem dX9_untold_31 : decode cX9_untold 31 = .ok (.iload 4, 2) := by decide +kernel
theorem dX9_untold_33 : decode cX9_untold 33 = .ok (.ishr, 1) := by decide +kernel
theorem dX9_untold_34 : decode cX9_untold 34 = .ok (.iconst 1, 1) := by decide +kernel
theorem dX9_untold_35 : decode cX9_untold 35 = .ok (.iand, 1) := by decide +kernel
theorem dX9_untold_36 : decode cX9_untold 36 = .ok (.iconst 1, 1) := by decide +kernel
theorem dX9_untold_37 : decode cX9_untold 37 = .ok (.if_icmp .ne 7, 3) := by decide +kernel
theorem dX9_untold_40 : decode cX9_untold 40 = .ok (.iconst 1, 1) := by decide +kernel
theorem dX9_untold_41 : decode cX9_untold 41 = .ok (.goto 4, 3) := by decide +kernel
theorem dX9_untold_44 : decode cX9_untold 44 = .ok (.iconst 0, 1) := by decide +kernel
theorem dX9_untold_45 : decode cX9_untold 45 = .ok (.istore 5, 2) := by decide +kernel
theorem dX9_untold_47 : decode cX9_untold 47 = .ok (.iload_n 2, 1) := by decide +kernel
theorem dX9_untold_48 : decode cX9_untold 48 = .ok (.aload_n 0, 1) := by decide +kernel
theorem dX9_untold_49 : decode cX9_untold 49 = .ok (.iload_n 3, 1) := by decide +kernel
theorem dX9_untold_50 : decode cX9_untold 50 = .ok (.invokevirtual 135, 3) := by decide +kernel
theorem dX9_untold_53 : decode cX9_untold 53 = .ok (.ifCond .eq 21, 3) := by decide +kernel
theorem dX9_untold_56 : decode cX9_untold 56 = .ok (.aload_n 0, 1) := by decide +kernel
theorem dX9_untold_57 : decode cX9_untold 57 = .ok (.iload 4, 2) := by decide +kernel
theorem dX9_untold_59 : decode cX9_untold 59 = .ok (.invokevirtual 135, 3) := by decide +kernel
theorem dX9_untold_62 : decode cX9_untold 62 = .ok (.ifCond .eq 12, 3) := by decide +kernel
theorem dX9_untold_65 : decode cX9_untold 65 = .ok (.iload 5, 2) := by decide +kernel
theorem dX9_untold_67 : decode cX9_untold 67 = .ok (.ifCond .ne 7, 3) := by decide +kernel
theorem dX9_untold_70 : decode cX9_untold 70 = .ok (.iconst 1, 1) := by decide +kernel
theorem dX9_untold_71 : decode cX9_untold 71 = .ok (.goto 4, 3) := by decide +kernel
theorem dX9_untold_74 : decode cX9_untold 74 = .ok (.iconst 0, 1) := by decide +kernel
theorem dX9_untold_75 : decode cX9_untold 75 = .ok (.iadd, 1) := by decide +kernel
theorem dX9_untold_76 : decode cX9_untold 76 = .ok (.istore_n 2, 1) := by decide +kernel
theorem dX9_untold_77 : decode cX9_untold 77 = .ok (.iinc 4 1, 3) := by decide +kernel
theorem dX9_untold_80 : decode cX9_untold 80 = .ok (.goto (-65), 3) := by decide +kernel
theorem dX9_untold_83 : decode cX9_untold 83 = .ok (.iinc 3 1, 3) := by decide +kernel
theorem dX9_untold_86 : decode cX9_untold 86 = .ok (.goto (-82), 3) := by decide +kernel
theorem dX9_untold_89 : decode cX9_untold 89 = .ok (.iload_n 2, 1) := by decide +kernel
theorem dX9_untold_90 : decode cX9_untold 90 = .ok (.ireturn, 1) := by decide +kernel
theorem dX9_seen_0 : decode cX9_seen 0 = .ok (.iload_n 1, 1) := by decide +kernel
theorem dX9_seen_1 : decode cX9_seen 1 = .ok (.i2l, 1) := by decide +kernel
theorem dX9_seen_2 : decode cX9_seen 2 = .ok (.lconst 0, 1) := by decide +kernel
theorem dX9_seen_3 : decode cX9_seen 3 = .ok (.iconst 1, 1) := by decide +kernel
theorem dX9_seen_4 : decode cX9_seen 4 = .ok (.aload_n 0, 1) := by decide +kernel
theorem dX9_seen_5 : decode cX9_seen 5 = .ok (.getfield 229, 3) := by decide +kernel
theorem dX9_seen_8 : decode cX9_seen 8 = .ok (.ishl, 1) := by decide +kernel
theorem dX9_seen_9 : decode cX9_seen 9 = .ok (.iconst 1, 1) := by decide +kernel
theorem dX9_seen_10 : decode cX9_seen 10 = .ok (.isub, 1) := by decide +kernel
theorem dX9_seen_11 : decode cX9_seen 11 = .ok (.i2l, 1) := by decide +kernel
theorem dX9_seen_12 : decode cX9_seen 12 = .ok (.invokestatic 69, 3) := by decide +kernel
theorem dX9_seen_15 : decode cX9_seen 15 = .ok (.ifCond .eq 13, 3) := by decide +kernel
theorem dX9_seen_18 : decode cX9_seen 18 = .ok (.iload_n 2, 1) := by decide +kernel
theorem dX9_seen_19 : decode cX9_seen 19 = .ok (.i2l, 1) := by decide +kernel
theorem dX9_seen_20 : decode cX9_seen 20 = .ok (.lconst 0, 1) := by decide +kernel
theorem dX9_seen_21 : decode cX9_seen 21 = .ok (.lconst 1, 1) := by decide +kernel
theorem dX9_seen_22 : decode cX9_seen 22 = .ok (.invokestatic 69, 3) := by decide +kernel
theorem dX9_seen_25 : decode cX9_seen 25 = .ok (.ifCond .ne 6, 3) := by decide +kernel
theorem dX9_seen_28 : decode cX9_seen 28 = .ok (.bipush (-2), 2) := by decide +kernel
theorem dX9_seen_30 : decode cX9_seen 30 = .ok (.ireturn, 1) := by decide +kernel
theorem dX9_seen_31 : decode cX9_seen 31 = .ok (.aload_n 0, 1) := by decide +kernel
theorem dX9_seen_32 : decode cX9_seen 32 = .ok (.invokevirtual 138, 3) := by decide +kernel
theorem dX9_seen_35 : decode cX9_seen 35 = .ok (.aload_n 0, 1) := by decide +kernel
theorem dX9_seen_36 : decode cX9_seen 36 = .ok (.iload_n 1, 1) := by decide +kernel
theorem dX9_seen_37 : decode cX9_seen 37 = .ok (.invokevirtual 232, 3) := by decide +kernel
theorem dX9_seen_40 : decode cX9_seen 40 = .ok (.istore_n 3, 1) := by decide +kernel
theorem dX9_seen_41 : decode cX9_seen 41 = .ok (.iload_n 2, 1) := by decide +kernel
theorem dX9_seen_42 : decode cX9_seen 42 = .ok (.ifCond .ne 7, 3) := by decide +kernel
theorem dX9_seen_45 : decode cX9_seen 45 = .ok (.iload_n 3, 1) := by decide +kernel
theorem dX9_seen_46 : decode cX9_seen 46 = .ok (.goto 8, 3) := by decide +kernel
theorem dX9_seen_49 : decode cX9_seen 49 = .ok (.aload_n 0, 1) := by decide +kernel
theorem dX9_seen_50 : decode cX9_seen 50 = .ok (.iload_n 3, 1) := by decide +kernel
theorem dX9_seen_51 : decode cX9_seen 51 = .ok (.invokevirtual 235, 3) := by decide +kernel
theorem dX9_seen_54 : decode cX9_seen 54 = .ok (.ireturn, 1) := by decide +kernel
theorem dX9_best_0 : decode cX9_best 0 = .ok (.iload_n 1, 1) := by decide +kernel
theorem dX9_best_1 : decode cX9_best 1 = .ok (.i2l, 1) := by decide +kernel
theorem dX9_best_2 : decode cX9_best 2 = .ok (.lconst 0, 1) := by decide +kernel
theorem dX9_best_3 : decode cX9_best 3 = .ok (.ldc2_w 238, 3) := by decide +kernel
theorem dX9_best_6 : decode cX9_best 6 = .ok (.invokestatic 69, 3) := by decide +kernel
theorem dX9_best_9 : decode cX9_best 9 = .ok (.ifCond .eq 13, 3) := by decide +kernel
theorem dX9_best_12 : decode cX9_best 12 = .ok (.iload_n 2, 1) := by decide +kernel
theorem dX9_best_13 : decode cX9_best 13 = .ok (.i2l, 1) := by decide +kernel
theorem dX9_best_14 : decode cX9_best 14 = .ok (.lconst 0, 1) := by decide +kernel
theorem dX9_best_15 : decode cX9_best 15 = .ok (.lconst 1, 1) := by decide +kernel
theorem dX9_best_16 : decode cX9_best 16 = .ok (.invokestatic 69, 3) := by decide +kernel
theorem dX9_best_19 : decode cX9_best 19 = .ok (.ifCond .ne 6, 3) := by decide +kernel
theorem dX9_best_22 : decode cX9_best 22 = .ok (.bipush (-2), 2) := by decide +kernel
theorem dX9_best_24 : decode cX9_best 24 = .ok (.ireturn, 1) := by decide +kernel
theorem dX9_best_25 : decode cX9_best 25 = .ok (.aload_n 0, 1) := by decide +kernel
theorem dX9_best_26 : decode cX9_best 26 = .ok (.invokevirtual 138, 3) := by decide +kernel
theorem dX9_best_29 : decode cX9_best 29 = .ok (.iconst 0, 1) := by decide +kernel
theorem dX9_best_30 : decode cX9_best 30 = .ok (.istore_n 3, 1) := by decide +kernel
theorem dX9_best_31 : decode cX9_best 31 = .ok (.aload_n 0, 1) := by decide +kernel
theorem dX9_best_32 : decode cX9_best 32 = .ok (.aload_n 0, 1) := by decide +kernel
theorem dX9_best_33 : decode cX9_best 33 = .ok (.iconst 0, 1) := by decide +kernel
theorem dX9_best_34 : decode cX9_best 34 = .ok (.invokevirtual 232, 3) := by decide +kernel
theorem dX9_best_37 : decode cX9_best 37 = .ok (.invokevirtual 235, 3) := by decide +kernel
theorem dX9_best_40 : decode cX9_best 40 = .ok (.istore 4, 2) := by decide +kernel
theorem dX9_best_42 : decode cX9_best 42 = .ok (.iconst 1, 1) := by decide +kernel
theorem dX9_best_43 : decode cX9_best 43 = .ok (.istore 5, 2) := by decide +kernel
theorem dX9_best_45 : decode cX9_best 45 = .ok (.iload 5, 2) := by decide +kernel
theorem dX9_best_47 : decode cX9_best 47 = .ok (.iconst 1, 1) := by decide +kernel
theorem dX9_best_48 : decode cX9_best 48 = .ok (.aload_n 0, 1) := by decide +kernel
theorem dX9_best_49 : decode cX9_best 49 = .ok (.getfield 229, 3) := by decide +kernel
theorem dX9_best_52 : decode cX9_best 52 = .ok (.ishl, 1) := by decide +kernel
theorem dX9_best_53 : decode cX9_best 53 = .ok (.if_icmp .ge 63, 3) := by decide +kernel
theorem dX9_best_56 : decode cX9_best 56 = .ok (.iload 5, 2) := by decide +kernel
theorem dX9_best_58 : decode cX9_best 58 = .ok (.invokestatic 240, 3) := by decide +kernel
theorem dX9_best_61 : decode cX9_best 61 = .ok (.iload_n 1, 1) := by decide +kernel
theorem dX9_best_62 : decode cX9_best 62 = .ok (.if_icmp .gt 48, 3) := by decide +kernel
theorem dX9_best_65 : decode cX9_best 65 = .ok (.aload_n 0, 1) := by decide +kernel
theorem dX9_best_66 : decode cX9_best 66 = .ok (.aload_n 0, 1) := by decide +kernel
theorem dX9_best_67 : decode cX9_best 67 = .ok (.iload 5, 2) := by decide +kernel
theorem dX9_best_69 : decode cX9_best 69 = .ok (.invokevirtual 232, 3) := by decide +kernel
theorem dX9_best_72 : decode cX9_best 72 = .ok (.invokevirtual 235, 3) := by decide +kernel
theorem dX9_best_75 : decode cX9_best 75 = .ok (.istore 6, 2) := by decide +kernel
theorem dX9_best_77 : decode cX9_best 77 = .ok (.iload 6, 2) := by decide +kernel
theorem dX9_best_79 : decode cX9_best 79 = .ok (.iload 4, 2) := by decide +kernel
theorem dX9_best_81 : decode cX9_best 81 = .ok (.if_icmp .lt 22, 3) := by decide +kernel
theorem dX9_best_84 : decode cX9_best 84 = .ok (.iload 6, 2) := by decide +kernel
theorem dX9_best_86 : decode cX9_best 86 = .ok (.iload 4, 2) := by decide +kernel
theorem dX9_best_88 : decode cX9_best 88 = .ok (.if_icmp .ne 22, 3) := by decide +kernel
theorem dX9_best_91 : decode cX9_best 91 = .ok (.iload 5, 2) := by decide +kernel
theorem dX9_best_93 : decode cX9_best 93 = .ok (.invokestatic 240, 3) := by decide +kernel
theorem dX9_best_96 : decode cX9_best 96 = .ok (.iload_n 3, 1) := by decide +kernel
theorem dX9_best_97 : decode cX9_best 97 = .ok (.invokestatic 240, 3) := by decide +kernel
theorem dX9_best_100 : decode cX9_best 100 = .ok (.if_icmp .ge 10, 3) := by decide +kernel
theorem dX9_best_103 : decode cX9_best 103 = .ok (.iload 6, 2) := by decide +kernel
theorem dX9_best_105 : decode cX9_best 105 = .ok (.istore 4, 2) := by decide +kernel
theorem dX9_best_107 : decode cX9_best 107 = .ok (.iload 5, 2) := by decide +kernel
theorem dX9_best_109 : decode cX9_best 109 = .ok (.istore_n 3, 1) := by decide +kernel
theorem dX9_best_110 : decode cX9_best 110 = .ok (.iinc 5 1, 3) := by decide +kernel
theorem dX9_best_113 : decode cX9_best 113 = .ok (.goto (-68), 3) := by decide +kernel
theorem dX9_best_116 : decode cX9_best 116 = .ok (.iload_n 2, 1) := by decide +kernel
theorem dX9_best_117 : decode cX9_best 117 = .ok (.ifCond .ne 7, 3) := by decide +kernel
theorem dX9_best_120 : decode cX9_best 120 = .ok (.iload_n 3, 1) := by decide +kernel
theorem dX9_best_121 : decode cX9_best 121 = .ok (.goto 5, 3) := by decide +kernel
theorem dX9_best_124 : decode cX9_best 124 = .ok (.iload 4, 2) := by decide +kernel
theorem dX9_best_126 : decode cX9_best 126 = .ok (.ireturn, 1) := by decide +kernel
theorem dX9_told_0 : decode cX9_told 0 = .ok (.iload_n 1, 1) := by decide +kernel
theorem dX9_told_1 : decode cX9_told 1 = .ok (.i2l, 1) := by decide +kernel
theorem dX9_told_2 : decode cX9_told 2 = .ok (.ldc2_w 243, 3) := by decide +kernel
theorem dX9_told_5 : decode cX9_told 5 = .ok (.ldc2_w 245, 3) := by decide +kernel
theorem dX9_told_8 : decode cX9_told 8 = .ok (.invokestatic 69, 3) := by decide +kernel
theorem dX9_told_11 : decode cX9_told 11 = .ok (.ifCond .eq 12, 3) := by decide +kernel
theorem dX9_told_14 : decode cX9_told 14 = .ok (.aload_n 0, 1) := by decide +kernel
theorem dX9_told_15 : decode cX9_told 15 = .ok (.iload_n 1, 1) := by decide +kernel
theorem dX9_told_16 : decode cX9_told 16 = .ok (.bipush 10, 2) := by decide +kernel
theorem dX9_told_18 : decode cX9_told 18 = .ok (.isub, 1) := by decide +kernel
theorem dX9_told_19 : decode cX9_told 19 = .ok (.invokevirtual 109, 3) := by decide +kernel
theorem dX9_told_22 : decode cX9_told 22 = .ok (.ireturn, 1) := by decide +kernel
theorem dX9_told_23 : decode cX9_told 23 = .ok (.iload_n 1, 1) := by decide +kernel
theorem dX9_told_24 : decode cX9_told 24 = .ok (.ifCond .ne 10, 3) := by decide +kernel
theorem dX9_told_27 : decode cX9_told 27 = .ok (.aload_n 0, 1) := by decide +kernel
theorem dX9_told_28 : decode cX9_told 28 = .ok (.getfield 66, 3) := by decide +kernel
theorem dX9_told_31 : decode cX9_told 31 = .ok (.goto 41, 3) := by decide +kernel
theorem dX9_told_34 : decode cX9_told 34 = .ok (.iload_n 1, 1) := by decide +kernel
theorem dX9_told_35 : decode cX9_told 35 = .ok (.iconst 1, 1) := by decide +kernel
theorem dX9_told_36 : decode cX9_told 36 = .ok (.if_icmp .ne 10, 3) := by decide +kernel
theorem dX9_told_39 : decode cX9_told 39 = .ok (.aload_n 0, 1) := by decide +kernel
theorem dX9_told_40 : decode cX9_told 40 = .ok (.getfield 229, 3) := by decide +kernel
theorem dX9_told_43 : decode cX9_told 43 = .ok (.goto 29, 3) := by decide +kernel
theorem dX9_told_46 : decode cX9_told 46 = .ok (.iload_n 1, 1) := by decide +kernel
theorem dX9_told_47 : decode cX9_told 47 = .ok (.iconst 2, 1) := by decide +kernel
theorem dX9_told_48 : decode cX9_told 48 = .ok (.if_icmp .ne 10, 3) := by decide +kernel
theorem dX9_told_51 : decode cX9_told 51 = .ok (.aload_n 0, 1) := by decide +kernel
theorem dX9_told_52 : decode cX9_told 52 = .ok (.getfield 198, 3) := by decide +kernel
theorem dX9_told_55 : decode cX9_told 55 = .ok (.goto 17, 3) := by decide +kernel
theorem dX9_told_58 : decode cX9_told 58 = .ok (.iload_n 1, 1) := by decide +kernel
theorem dX9_told_59 : decode cX9_told 59 = .ok (.iconst 3, 1) := by decide +kernel
theorem dX9_told_60 : decode cX9_told 60 = .ok (.if_icmp .ne 10, 3) := by decide +kernel
theorem dX9_told_63 : decode cX9_told 63 = .ok (.aload_n 0, 1) := by decide +kernel
theorem dX9_told_64 : decode cX9_told 64 = .ok (.getfield 217, 3) := by decide +kernel
theorem dX9_told_67 : decode cX9_told 67 = .ok (.goto 5, 3) := by decide +kernel
theorem dX9_told_70 : decode cX9_told 70 = .ok (.bipush (-2), 2) := by decide +kernel
theorem dX9_told_72 : decode cX9_told 72 = .ok (.ireturn, 1) := by decide +kernel
end
section
theorem dL_law_0 : decode cL_law 0 = .ok (.new 7, 3) := by decide +kernel
theorem dL_law_3 : decode cL_law 3 = .ok (.dup, 1) := by decide +kernel
theorem dL_law_4 : decode cL_law 4 = .ok (.invokespecial 9, 3) := by decide +kernel
theorem dL_law_7 : decode cL_law 7 = .ok (.astore_n 1, 1) := by decide +kernel
theorem dL_law_8 : decode cL_law 8 = .ok (.new 10, 3) := by decide +kernel
theorem dL_law_11 : decode cL_law 11 = .ok (.dup, 1) := by decide +kernel
theorem dL_law_12 : decode cL_law 12 = .ok (.invokespecial 12, 3) := by decide +kernel
theorem dL_law_15 : decode cL_law 15 = .ok (.astore_n 2, 1) := by decide +kernel
theorem dL_law_16 : decode cL_law 16 = .ok (.iconst 0, 1) := by decide +kernel
theorem dL_law_17 : decode cL_law 17 = .ok (.istore_n 3, 1) := by decide +kernel
theorem dL_law_18 : decode cL_law 18 = .ok (.iload_n 3, 1) := by decide +kernel
theorem dL_law_19 : decode cL_law 19 = .ok (.aload_n 0, 1) := by decide +kernel
theorem dL_law_20 : decode cL_law 20 = .ok (.arraylength, 1) := by decide +kernel
theorem dL_law_21 : decode cL_law 21 = .ok (.bipush 6, 2) := by decide +kernel
theorem dL_law_23 : decode cL_law 23 = .ok (.isub, 1) := by decide +kernel
theorem dL_law_24 : decode cL_law 24 = .ok (.if_icmp .gt 1000, 3) := by decide +kernel
theorem dL_law_27 : decode cL_law 27 = .ok (.aload_n 0, 1) := by decide +kernel
theorem dL_law_28 : decode cL_law 28 = .ok (.iload_n 3, 1) := by decide +kernel
theorem dL_law_29 : decode cL_law 29 = .ok (.iaload, 1) := by decide +kernel
theorem dL_law_30 : decode cL_law 30 = .ok (.bipush 31, 2) := by decide +kernel
theorem dL_law_32 : decode cL_law 32 = .ok (.iand, 1) := by decide +kernel
theorem dL_law_33 : decode cL_law 33 = .ok (.tableswitch 985 0 26 #[123, 156, 219, 252, 295, 328, 351, 374, 407, 440, 483, 516, 539, 593, 636, 669, 702, 725, 748, 771, 784, 797, 810, 863, 896, 929, 962], 123) := by decide +kernel
theorem dL_law_156 : decode cL_law 156 = .ok (.aload_n 1, 1) := by decide +kernel
theorem dL_law_157 : decode cL_law 157 = .ok (.aload_n 0, 1) := by decide +kernel
theorem dL_law_158 : decode cL_law 158 = .ok (.iload_n 3, 1) := by decide +kernel
theorem dL_law_159 : decode cL_law 159 = .ok (.iconst 1, 1) := by decide +kernel
theorem dL_law_160 : decode cL_law 160 = .ok (.iadd, 1) := by decide +kernel
theorem dL_law_161 : decode cL_law 161 = .ok (.iaload, 1) := by decide +kernel
theorem dL_law_162 : decode cL_law 162 = .ok (.aload_n 0, 1) := by decide +kernel
theorem dL_law_163 : decode cL_law 163 = .ok (.iload_n 3, 1) := by decide +kernel
theorem dL_law_164 : decode cL_law 164 = .ok (.iconst 2, 1) := by decide +kernel
theorem dL_law_165 : decode cL_law 165 = .ok (.iadd, 1) := by decide +kernel
theorem dL_law_166 : decode cL_law 166 = .ok (.iaload, 1) := by decide +kernel
theorem dL_law_167 : decode cL_law 167 = .ok (.invokevirtual 13, 3) := by decide +kernel
theorem dL_law_170 : decode cL_law 170 = .ok (.aload_n 2, 1) := by decide +kernel
theorem dL_law_171 : decode cL_law 171 = .ok (.aload_n 0, 1) := by decide +kernel
theorem dL_law_172 : decode cL_law 172 = .ok (.iload_n 3, 1) := by decide +kernel
theorem dL_law_173 : decode cL_law 173 = .ok (.iconst 1, 1) := by decide +kernel
theorem dL_law_174 : decode cL_law 174 = .ok (.iadd, 1) := by decide +kernel
theorem dL_law_175 : decode cL_law 175 = .ok (.iaload, 1) := by decide +kernel
theorem dL_law_176 : decode cL_law 176 = .ok (.aload_n 0, 1) := by decide +kernel
theorem dL_law_177 : decode cL_law 177 = .ok (.iload_n 3, 1) := by decide +kernel
theorem dL_law_178 : decode cL_law 178 = .ok (.iconst 2, 1) := by decide +kernel
theorem dL_law_179 : decode cL_law 179 = .ok (.iadd, 1) := by decide +kernel
theorem dL_law_180 : decode cL_law 180 = .ok (.iaload, 1) := by decide +kernel
theorem dL_law_181 : decode cL_law 181 = .ok (.invokevirtual 17, 3) := by decide +kernel
theorem dL_law_184 : decode cL_law 184 = .ok (.if_icmp .eq 834, 3) := by decide +kernel
theorem dL_law_187 : decode cL_law 187 = .ok (.iconst 0, 1) := by decide +kernel
theorem dL_law_188 : decode cL_law 188 = .ok (.ireturn, 1) := by decide +kernel
theorem dL_law_189 : decode cL_law 189 = .ok (.aload_n 1, 1) := by decide +kernel
theorem dL_law_190 : decode cL_law 190 = .ok (.aload_n 0, 1) := by decide +kernel
theorem dL_law_191 : decode cL_law 191 = .ok (.iload_n 3, 1) := by decide +kernel
theorem dL_law_192 : decode cL_law 192 = .ok (.iconst 1, 1) := by decide +kernel
theorem dL_law_193 : decode cL_law 193 = .ok (.iadd, 1) := by decide +kernel
theorem dL_law_194 : decode cL_law 194 = .ok (.iaload, 1) := by decide +kernel
theorem dL_law_195 : decode cL_law 195 = .ok (.aload_n 0, 1) := by decide +kernel
theorem dL_law_196 : decode cL_law 196 = .ok (.iload_n 3, 1) := by decide +kernel
theorem dL_law_197 : decode cL_law 197 = .ok (.iconst 2, 1) := by decide +kernel
theorem dL_law_198 : decode cL_law 198 = .ok (.iadd, 1) := by decide +kernel
theorem dL_law_199 : decode cL_law 199 = .ok (.iaload, 1) := by decide +kernel
theorem dL_law_200 : decode cL_law 200 = .ok (.aload_n 0, 1) := by decide +kernel
theorem dL_law_201 : decode cL_law 201 = .ok (.iload_n 3, 1) := by decide +kernel
theorem dL_law_202 : decode cL_law 202 = .ok (.iconst 3, 1) := by decide +kernel
theorem dL_law_203 : decode cL_law 203 = .ok (.iadd, 1) := by decide +kernel
theorem dL_law_204 : decode cL_law 204 = .ok (.iaload, 1) := by decide +kernel
theorem dL_law_205 : decode cL_law 205 = .ok (.aload_n 0, 1) := by decide +kernel
theorem dL_law_206 : decode cL_law 206 = .ok (.iload_n 3, 1) := by decide +kernel
theorem dL_law_207 : decode cL_law 207 = .ok (.iconst 4, 1) := by decide +kernel
theorem dL_law_208 : decode cL_law 208 = .ok (.iadd, 1) := by decide +kernel
theorem dL_law_209 : decode cL_law 209 = .ok (.iaload, 1) := by decide +kernel
theorem dL_law_210 : decode cL_law 210 = .ok (.aload_n 0, 1) := by decide +kernel
theorem dL_law_211 : decode cL_law 211 = .ok (.iload_n 3, 1) := by decide +kernel
theorem dL_law_212 : decode cL_law 212 = .ok (.iconst 5, 1) := by decide +kernel
theorem dL_law_213 : decode cL_law 213 = .ok (.iadd, 1) := by decide +kernel
theorem dL_law_214 : decode cL_law 214 = .ok (.iaload, 1) := by decide +kernel
theorem dL_law_215 : decode cL_law 215 = .ok (.invokevirtual 18, 3) := by decide +kernel
theorem dL_law_218 : decode cL_law 218 = .ok (.aload_n 2, 1) := by decide +kernel
theorem dL_law_219 : decode cL_law 219 = .ok (.aload_n 0, 1) := by decide +kernel
theorem dL_law_220 : decode cL_law 220 = .ok (.iload_n 3, 1) := by decide +kernel
theorem dL_law_221 : decode cL_law 221 = .ok (.iconst 1, 1) := by decide +kernel
theorem dL_law_222 : decode cL_law 222 = .ok (.iadd, 1) := by decide +kernel
theorem dL_law_223 : decode cL_law 223 = .ok (.iaload, 1) := by decide +kernel
theorem dL_law_224 : decode cL_law 224 = .ok (.aload_n 0, 1) := by decide +kernel
theorem dL_law_225 : decode cL_law 225 = .ok (.iload_n 3, 1) := by decide +kernel
theorem dL_law_226 : decode cL_law 226 = .ok (.iconst 2, 1) := by decide +kernel
theorem dL_law_227 : decode cL_law 227 = .ok (.iadd, 1) := by decide +kernel
theorem dL_law_228 : decode cL_law 228 = .ok (.iaload, 1) := by decide +kernel
theorem dL_law_229 : decode cL_law 229 = .ok (.aload_n 0, 1) := by decide +kernel
theorem dL_law_230 : decode cL_law 230 = .ok (.iload_n 3, 1) := by decide +kernel
theorem dL_law_231 : decode cL_law 231 = .ok (.iconst 3, 1) := by decide +kernel
theorem dL_law_232 : decode cL_law 232 = .ok (.iadd, 1) := by decide +kernel
theorem dL_law_233 : decode cL_law 233 = .ok (.iaload, 1) := by decide +kernel
theorem dL_law_234 : decode cL_law 234 = .ok (.aload_n 0, 1) := by decide +kernel
theorem dL_law_235 : decode cL_law 235 = .ok (.iload_n 3, 1) := by decide +kernel
theorem dL_law_236 : decode cL_law 236 = .ok (.iconst 4, 1) := by decide +kernel
theorem dL_law_237 : decode cL_law 237 = .ok (.iadd, 1) := by decide +kernel
theorem dL_law_238 : decode cL_law 238 = .ok (.iaload, 1) := by decide +kernel
theorem dL_law_239 : decode cL_law 239 = .ok (.aload_n 0, 1) := by decide +kernel
theorem dL_law_240 : decode cL_law 240 = .ok (.iload_n 3, 1) := by decide +kernel
theorem dL_law_241 : decode cL_law 241 = .ok (.iconst 5, 1) := by decide +kernel
theorem dL_law_242 : decode cL_law 242 = .ok (.iadd, 1) := by decide +kernel
theorem dL_law_243 : decode cL_law 243 = .ok (.iaload, 1) := by decide +kernel
theorem dL_law_244 : decode cL_law 244 = .ok (.invokevirtual 22, 3) := by decide +kernel
theorem dL_law_247 : decode cL_law 247 = .ok (.if_icmp .eq 771, 3) := by decide +kernel
theorem dL_law_250 : decode cL_law 250 = .ok (.iconst 0, 1) := by decide +kernel
theorem dL_law_251 : decode cL_law 251 = .ok (.ireturn, 1) := by decide +kernel
theorem dL_law_252 : decode cL_law 252 = .ok (.aload_n 1, 1) := by decide +kernel
theorem dL_law_253 : decode cL_law 253 = .ok (.aload_n 0, 1) := by decide +kernel
theorem dL_law_254 : decode cL_law 254 = .ok (.iload_n 3, 1) := by decide +kernel
theorem dL_law_255 : decode cL_law 255 = .ok (.iconst 1, 1) := by decide +kernel
theorem dL_law_256 : decode cL_law 256 = .ok (.iadd, 1) := by decide +kernel
theorem dL_law_257 : decode cL_law 257 = .ok (.iaload, 1) := by decide +kernel
theorem dL_law_258 : decode cL_law 258 = .ok (.aload_n 0, 1) := by decide +kernel
theorem dL_law_259 : decode cL_law 259 = .ok (.iload_n 3, 1) := by decide +kernel
theorem dL_law_260 : decode cL_law 260 = .ok (.iconst 2, 1) := by decide +kernel
theorem dL_law_261 : decode cL_law 261 = .ok (.iadd, 1) := by decide +kernel
theorem dL_law_262 : decode cL_law 262 = .ok (.iaload, 1) := by decide +kernel
theorem dL_law_263 : decode cL_law 263 = .ok (.invokevirtual 23, 3) := by decide +kernel
theorem dL_law_266 : decode cL_law 266 = .ok (.aload_n 2, 1) := by decide +kernel
theorem dL_law_267 : decode cL_law 267 = .ok (.aload_n 0, 1) := by decide +kernel
theorem dL_law_268 : decode cL_law 268 = .ok (.iload_n 3, 1) := by decide +kernel
theorem dL_law_269 : decode cL_law 269 = .ok (.iconst 1, 1) := by decide +kernel
theorem dL_law_270 : decode cL_law 270 = .ok (.iadd, 1) := by decide +kernel
theorem dL_law_271 : decode cL_law 271 = .ok (.iaload, 1) := by decide +kernel
theorem dL_law_272 : decode cL_law 272 = .ok (.aload_n 0, 1) := by decide +kernel
theorem dL_law_273 : decode cL_law 273 = .ok (.iload_n 3, 1) := by decide +kernel
theorem dL_law_274 : decode cL_law 274 = .ok (.iconst 2, 1) := by decide +kernel
theorem dL_law_275 : decode cL_law 275 = .ok (.iadd, 1) := by decide +kernel
theorem dL_law_276 : decode cL_law 276 = .ok (.iaload, 1) := by decide +kernel
theorem dL_law_277 : decode cL_law 277 = .ok (.invokevirtual 26, 3) := by decide +kernel
theorem dL_law_280 : decode cL_law 280 = .ok (.if_icmp .eq 738, 3) := by decide +kernel
theorem dL_law_283 : decode cL_law 283 = .ok (.iconst 0, 1) := by decide +kernel
theorem dL_law_284 : decode cL_law 284 = .ok (.ireturn, 1) := by decide +kernel
theorem dL_law_285 : decode cL_law 285 = .ok (.aload_n 1, 1) := by decide +kernel
theorem dL_law_286 : decode cL_law 286 = .ok (.aload_n 0, 1) := by decide +kernel
theorem dL_law_287 : decode cL_law 287 = .ok (.iload_n 3, 1) := by decide +kernel
theorem dL_law_288 : decode cL_law 288 = .ok (.iconst 1, 1) := by decide +kernel
theorem dL_law_289 : decode cL_law 289 = .ok (.iadd, 1) := by decide +kernel
theorem dL_law_290 : decode cL_law 290 = .ok (.iaload, 1) := by decide +kernel
theorem dL_law_291 : decode cL_law 291 = .ok (.aload_n 0, 1) := by decide +kernel
theorem dL_law_292 : decode cL_law 292 = .ok (.iload_n 3, 1) := by decide +kernel
theorem dL_law_293 : decode cL_law 293 = .ok (.iconst 2, 1) := by decide +kernel
theorem dL_law_294 : decode cL_law 294 = .ok (.iadd, 1) := by decide +kernel
theorem dL_law_295 : decode cL_law 295 = .ok (.iaload, 1) := by decide +kernel
theorem dL_law_296 : decode cL_law 296 = .ok (.aload_n 0, 1) := by decide +kernel
theorem dL_law_297 : decode cL_law 297 = .ok (.iload_n 3, 1) := by decide +kernel
theorem dL_law_298 : decode cL_law 298 = .ok (.iconst 3, 1) := by decide +kernel
theorem dL_law_299 : decode cL_law 299 = .ok (.iadd, 1) := by decide +kernel
theorem dL_law_300 : decode cL_law 300 = .ok (.iaload, 1) := by decide +kernel
theorem dL_law_301 : decode cL_law 301 = .ok (.invokevirtual 27, 3) := by decide +kernel
theorem dL_law_304 : decode cL_law 304 = .ok (.aload_n 2, 1) := by decide +kernel
theorem dL_law_305 : decode cL_law 305 = .ok (.aload_n 0, 1) := by decide +kernel
theorem dL_law_306 : decode cL_law 306 = .ok (.iload_n 3, 1) := by decide +kernel
theorem dL_law_307 : decode cL_law 307 = .ok (.iconst 1, 1) := by decide +kernel
theorem dL_law_308 : decode cL_law 308 = .ok (.iadd, 1) := by decide +kernel
theorem dL_law_309 : decode cL_law 309 = .ok (.iaload, 1) := by decide +kernel
theorem dL_law_310 : decode cL_law 310 = .ok (.aload_n 0, 1) := by decide +kernel
theorem dL_law_311 : decode cL_law 311 = .ok (.iload_n 3, 1) := by decide +kernel
theorem dL_law_312 : decode cL_law 312 = .ok (.iconst 2, 1) := by decide +kernel
theorem dL_law_313 : decode cL_law 313 = .ok (.iadd, 1) := by decide +kernel
theorem dL_law_314 : decode cL_law 314 = .ok (.iaload, 1) := by decide +kernel
theorem dL_law_315 : decode cL_law 315 = .ok (.aload_n 0, 1) := by decide +kernel
theorem dL_law_316 : decode cL_law 316 = .ok (.iload_n 3, 1) := by decide +kernel
theorem dL_law_317 : decode cL_law 317 = .ok (.iconst 3, 1) := by decide +kernel
theorem dL_law_318 : decode cL_law 318 = .ok (.iadd, 1) := by decide +kernel
theorem dL_law_319 : decode cL_law 319 = .ok (.iaload, 1) := by decide +kernel
theorem dL_law_320 : decode cL_law 320 = .ok (.invokevirtual 31, 3) := by decide +kernel
theorem dL_law_323 : decode cL_law 323 = .ok (.if_icmp .eq 695, 3) := by decide +kernel
theorem dL_law_326 : decode cL_law 326 = .ok (.iconst 0, 1) := by decide +kernel
theorem dL_law_327 : decode cL_law 327 = .ok (.ireturn, 1) := by decide +kernel
theorem dL_law_328 : decode cL_law 328 = .ok (.aload_n 1, 1) := by decide +kernel
theorem dL_law_329 : decode cL_law 329 = .ok (.aload_n 0, 1) := by decide +kernel
theorem dL_law_330 : decode cL_law 330 = .ok (.iload_n 3, 1) := by decide +kernel
theorem dL_law_331 : decode cL_law 331 = .ok (.iconst 1, 1) := by decide +kernel
theorem dL_law_332 : decode cL_law 332 = .ok (.iadd, 1) := by decide +kernel
theorem dL_law_333 : decode cL_law 333 = .ok (.iaload, 1) := by decide +kernel
theorem dL_law_334 : decode cL_law 334 = .ok (.aload_n 0, 1) := by decide +kernel
theorem dL_law_335 : decode cL_law 335 = .ok (.iload_n 3, 1) := by decide +kernel
theorem dL_law_336 : decode cL_law 336 = .ok (.iconst 2, 1) := by decide +kernel
theorem dL_law_337 : decode cL_law 337 = .ok (.iadd, 1) := by decide +kernel
theorem dL_law_338 : decode cL_law 338 = .ok (.iaload, 1) := by decide +kernel
theorem dL_law_339 : decode cL_law 339 = .ok (.invokevirtual 32, 3) := by decide +kernel
theorem dL_law_342 : decode cL_law 342 = .ok (.aload_n 2, 1) := by decide +kernel
theorem dL_law_343 : decode cL_law 343 = .ok (.aload_n 0, 1) := by decide +kernel
theorem dL_law_344 : decode cL_law 344 = .ok (.iload_n 3, 1) := by decide +kernel
theorem dL_law_345 : decode cL_law 345 = .ok (.iconst 1, 1) := by decide +kernel
theorem dL_law_346 : decode cL_law 346 = .ok (.iadd, 1) := by decide +kernel
theorem dL_law_347 : decode cL_law 347 = .ok (.iaload, 1) := by decide +kernel
theorem dL_law_348 : decode cL_law 348 = .ok (.aload_n 0, 1) := by decide +kernel
theorem dL_law_349 : decode cL_law 349 = .ok (.iload_n 3, 1) := by decide +kernel
theorem dL_law_350 : decode cL_law 350 = .ok (.iconst 2, 1) := by decide +kernel
theorem dL_law_351 : decode cL_law 351 = .ok (.iadd, 1) := by decide +kernel
theorem dL_law_352 : decode cL_law 352 = .ok (.iaload, 1) := by decide +kernel
theorem dL_law_353 : decode cL_law 353 = .ok (.invokevirtual 35, 3) := by decide +kernel
theorem dL_law_356 : decode cL_law 356 = .ok (.if_icmp .eq 662, 3) := by decide +kernel
theorem dL_law_359 : decode cL_law 359 = .ok (.iconst 0, 1) := by decide +kernel
theorem dL_law_360 : decode cL_law 360 = .ok (.ireturn, 1) := by decide +kernel
theorem dL_law_361 : decode cL_law 361 = .ok (.aload_n 1, 1) := by decide +kernel
theorem dL_law_362 : decode cL_law 362 = .ok (.aload_n 0, 1) := by decide +kernel
theorem dL_law_363 : decode cL_law 363 = .ok (.iload_n 3, 1) := by decide +kernel
theorem dL_law_364 : decode cL_law 364 = .ok (.iconst 1, 1) := by decide +kernel
theorem dL_law_365 : decode cL_law 365 = .ok (.iadd, 1) := by decide +kernel
theorem dL_law_366 : decode cL_law 366 = .ok (.iaload, 1) := by decide +kernel
theorem dL_law_367 : decode cL_law 367 = .ok (.invokevirtual 36, 3) := by decide +kernel
theorem dL_law_370 : decode cL_law 370 = .ok (.aload_n 2, 1) := by decide +kernel
theorem dL_law_371 : decode cL_law 371 = .ok (.aload_n 0, 1) := by decide +kernel
theorem dL_law_372 : decode cL_law 372 = .ok (.iload_n 3, 1) := by decide +kernel
theorem dL_law_373 : decode cL_law 373 = .ok (.iconst 1, 1) := by decide +kernel
theorem dL_law_374 : decode cL_law 374 = .ok (.iadd, 1) := by decide +kernel
theorem dL_law_375 : decode cL_law 375 = .ok (.iaload, 1) := by decide +kernel
theorem dL_law_376 : decode cL_law 376 = .ok (.invokevirtual 40, 3) := by decide +kernel
theorem dL_law_379 : decode cL_law 379 = .ok (.if_icmp .eq 639, 3) := by decide +kernel
theorem dL_law_382 : decode cL_law 382 = .ok (.iconst 0, 1) := by decide +kernel
theorem dL_law_383 : decode cL_law 383 = .ok (.ireturn, 1) := by decide +kernel
theorem dL_law_384 : decode cL_law 384 = .ok (.aload_n 1, 1) := by decide +kernel
theorem dL_law_385 : decode cL_law 385 = .ok (.aload_n 0, 1) := by decide +kernel
theorem dL_law_386 : decode cL_law 386 = .ok (.iload_n 3, 1) := by decide +kernel
theorem dL_law_387 : decode cL_law 387 = .ok (.iconst 1, 1) := by decide +kernel
theorem dL_law_388 : decode cL_law 388 = .ok (.iadd, 1) := by decide +kernel
theorem dL_law_389 : decode cL_law 389 = .ok (.iaload, 1) := by decide +kernel
theorem dL_law_390 : decode cL_law 390 = .ok (.invokevirtual 41, 3) := by decide +kernel
theorem dL_law_393 : decode cL_law 393 = .ok (.aload_n 2, 1) := by decide +kernel
theorem dL_law_394 : decode cL_law 394 = .ok (.aload_n 0, 1) := by decide +kernel
theorem dL_law_395 : decode cL_law 395 = .ok (.iload_n 3, 1) := by decide +kernel
theorem dL_law_396 : decode cL_law 396 = .ok (.iconst 1, 1) := by decide +kernel
theorem dL_law_397 : decode cL_law 397 = .ok (.iadd, 1) := by decide +kernel
theorem dL_law_398 : decode cL_law 398 = .ok (.iaload, 1) := by decide +kernel
theorem dL_law_399 : decode cL_law 399 = .ok (.invokevirtual 44, 3) := by decide +kernel
theorem dL_law_402 : decode cL_law 402 = .ok (.if_icmp .eq 616, 3) := by decide +kernel
theorem dL_law_405 : decode cL_law 405 = .ok (.iconst 0, 1) := by decide +kernel
theorem dL_law_406 : decode cL_law 406 = .ok (.ireturn, 1) := by decide +kernel
theorem dL_law_407 : decode cL_law 407 = .ok (.aload_n 1, 1) := by decide +kernel
theorem dL_law_408 : decode cL_law 408 = .ok (.aload_n 0, 1) := by decide +kernel
theorem dL_law_409 : decode cL_law 409 = .ok (.iload_n 3, 1) := by decide +kernel
theorem dL_law_410 : decode cL_law 410 = .ok (.iconst 1, 1) := by decide +kernel
theorem dL_law_411 : decode cL_law 411 = .ok (.iadd, 1) := by decide +kernel
theorem dL_law_412 : decode cL_law 412 = .ok (.iaload, 1) := by decide +kernel
theorem dL_law_413 : decode cL_law 413 = .ok (.aload_n 0, 1) := by decide +kernel
theorem dL_law_414 : decode cL_law 414 = .ok (.iload_n 3, 1) := by decide +kernel
theorem dL_law_415 : decode cL_law 415 = .ok (.iconst 2, 1) := by decide +kernel
theorem dL_law_416 : decode cL_law 416 = .ok (.iadd, 1) := by decide +kernel
theorem dL_law_417 : decode cL_law 417 = .ok (.iaload, 1) := by decide +kernel
theorem dL_law_418 : decode cL_law 418 = .ok (.invokevirtual 45, 3) := by decide +kernel
theorem dL_law_421 : decode cL_law 421 = .ok (.aload_n 2, 1) := by decide +kernel
theorem dL_law_422 : decode cL_law 422 = .ok (.aload_n 0, 1) := by decide +kernel
theorem dL_law_423 : decode cL_law 423 = .ok (.iload_n 3, 1) := by decide +kernel
theorem dL_law_424 : decode cL_law 424 = .ok (.iconst 1, 1) := by decide +kernel
theorem dL_law_425 : decode cL_law 425 = .ok (.iadd, 1) := by decide +kernel
theorem dL_law_426 : decode cL_law 426 = .ok (.iaload, 1) := by decide +kernel
theorem dL_law_427 : decode cL_law 427 = .ok (.aload_n 0, 1) := by decide +kernel
theorem dL_law_428 : decode cL_law 428 = .ok (.iload_n 3, 1) := by decide +kernel
theorem dL_law_429 : decode cL_law 429 = .ok (.iconst 2, 1) := by decide +kernel
theorem dL_law_430 : decode cL_law 430 = .ok (.iadd, 1) := by decide +kernel
theorem dL_law_431 : decode cL_law 431 = .ok (.iaload, 1) := by decide +kernel
theorem dL_law_432 : decode cL_law 432 = .ok (.invokevirtual 48, 3) := by decide +kernel
theorem dL_law_435 : decode cL_law 435 = .ok (.if_icmp .eq 583, 3) := by decide +kernel
theorem dL_law_438 : decode cL_law 438 = .ok (.iconst 0, 1) := by decide +kernel
theorem dL_law_439 : decode cL_law 439 = .ok (.ireturn, 1) := by decide +kernel
theorem dL_law_440 : decode cL_law 440 = .ok (.aload_n 1, 1) := by decide +kernel
theorem dL_law_441 : decode cL_law 441 = .ok (.aload_n 0, 1) := by decide +kernel
theorem dL_law_442 : decode cL_law 442 = .ok (.iload_n 3, 1) := by decide +kernel
theorem dL_law_443 : decode cL_law 443 = .ok (.iconst 1, 1) := by decide +kernel
theorem dL_law_444 : decode cL_law 444 = .ok (.iadd, 1) := by decide +kernel
theorem dL_law_445 : decode cL_law 445 = .ok (.iaload, 1) := by decide +kernel
theorem dL_law_446 : decode cL_law 446 = .ok (.aload_n 0, 1) := by decide +kernel
theorem dL_law_447 : decode cL_law 447 = .ok (.iload_n 3, 1) := by decide +kernel
theorem dL_law_448 : decode cL_law 448 = .ok (.iconst 2, 1) := by decide +kernel
theorem dL_law_449 : decode cL_law 449 = .ok (.iadd, 1) := by decide +kernel
theorem dL_law_450 : decode cL_law 450 = .ok (.iaload, 1) := by decide +kernel
theorem dL_law_451 : decode cL_law 451 = .ok (.invokevirtual 49, 3) := by decide +kernel
theorem dL_law_454 : decode cL_law 454 = .ok (.aload_n 2, 1) := by decide +kernel
theorem dL_law_455 : decode cL_law 455 = .ok (.aload_n 0, 1) := by decide +kernel
theorem dL_law_456 : decode cL_law 456 = .ok (.iload_n 3, 1) := by decide +kernel
theorem dL_law_457 : decode cL_law 457 = .ok (.iconst 1, 1) := by decide +kernel
theorem dL_law_458 : decode cL_law 458 = .ok (.iadd, 1) := by decide +kernel
theorem dL_law_459 : decode cL_law 459 = .ok (.iaload, 1) := by decide +kernel
theorem dL_law_460 : decode cL_law 460 = .ok (.aload_n 0, 1) := by decide +kernel
theorem dL_law_461 : decode cL_law 461 = .ok (.iload_n 3, 1) := by decide +kernel
theorem dL_law_462 : decode cL_law 462 = .ok (.iconst 2, 1) := by decide +kernel
theorem dL_law_463 : decode cL_law 463 = .ok (.iadd, 1) := by decide +kernel
theorem dL_law_464 : decode cL_law 464 = .ok (.iaload, 1) := by decide +kernel
theorem dL_law_465 : decode cL_law 465 = .ok (.invokevirtual 52, 3) := by decide +kernel
theorem dL_law_468 : decode cL_law 468 = .ok (.if_icmp .eq 550, 3) := by decide +kernel
theorem dL_law_471 : decode cL_law 471 = .ok (.iconst 0, 1) := by decide +kernel
theorem dL_law_472 : decode cL_law 472 = .ok (.ireturn, 1) := by decide +kernel
theorem dL_law_473 : decode cL_law 473 = .ok (.aload_n 1, 1) := by decide +kernel
theorem dL_law_474 : decode cL_law 474 = .ok (.aload_n 0, 1) := by decide +kernel
theorem dL_law_475 : decode cL_law 475 = .ok (.iload_n 3, 1) := by decide +kernel
theorem dL_law_476 : decode cL_law 476 = .ok (.iconst 1, 1) := by decide +kernel
theorem dL_law_477 : decode cL_law 477 = .ok (.iadd, 1) := by decide +kernel
theorem dL_law_478 : decode cL_law 478 = .ok (.iaload, 1) := by decide +kernel
theorem dL_law_479 : decode cL_law 479 = .ok (.aload_n 0, 1) := by decide +kernel
theorem dL_law_480 : decode cL_law 480 = .ok (.iload_n 3, 1) := by decide +kernel
theorem dL_law_481 : decode cL_law 481 = .ok (.iconst 2, 1) := by decide +kernel
theorem dL_law_482 : decode cL_law 482 = .ok (.iadd, 1) := by decide +kernel
theorem dL_law_483 : decode cL_law 483 = .ok (.iaload, 1) := by decide +kernel
theorem dL_law_484 : decode cL_law 484 = .ok (.aload_n 0, 1) := by decide +kernel
theorem dL_law_485 : decode cL_law 485 = .ok (.iload_n 3, 1) := by decide +kernel
theorem dL_law_486 : decode cL_law 486 = .ok (.iconst 3, 1) := by decide +kernel
theorem dL_law_487 : decode cL_law 487 = .ok (.iadd, 1) := by decide +kernel
theorem dL_law_488 : decode cL_law 488 = .ok (.iaload, 1) := by decide +kernel
theorem dL_law_489 : decode cL_law 489 = .ok (.invokevirtual 53, 3) := by decide +kernel
theorem dL_law_492 : decode cL_law 492 = .ok (.aload_n 2, 1) := by decide +kernel
theorem dL_law_493 : decode cL_law 493 = .ok (.aload_n 0, 1) := by decide +kernel
theorem dL_law_494 : decode cL_law 494 = .ok (.iload_n 3, 1) := by decide +kernel
theorem dL_law_495 : decode cL_law 495 = .ok (.iconst 1, 1) := by decide +kernel
theorem dL_law_496 : decode cL_law 496 = .ok (.iadd, 1) := by decide +kernel
theorem dL_law_497 : decode cL_law 497 = .ok (.iaload, 1) := by decide +kernel
theorem dL_law_498 : decode cL_law 498 = .ok (.aload_n 0, 1) := by decide +kernel
theorem dL_law_499 : decode cL_law 499 = .ok (.iload_n 3, 1) := by decide +kernel
theorem dL_law_500 : decode cL_law 500 = .ok (.iconst 2, 1) := by decide +kernel
theorem dL_law_501 : decode cL_law 501 = .ok (.iadd, 1) := by decide +kernel
theorem dL_law_502 : decode cL_law 502 = .ok (.iaload, 1) := by decide +kernel
theorem dL_law_503 : decode cL_law 503 = .ok (.aload_n 0, 1) := by decide +kernel
theorem dL_law_504 : decode cL_law 504 = .ok (.iload_n 3, 1) := by decide +kernel
theorem dL_law_505 : decode cL_law 505 = .ok (.iconst 3, 1) := by decide +kernel
theorem dL_law_506 : decode cL_law 506 = .ok (.iadd, 1) := by decide +kernel
theorem dL_law_507 : decode cL_law 507 = .ok (.iaload, 1) := by decide +kernel
theorem dL_law_508 : decode cL_law 508 = .ok (.invokevirtual 56, 3) := by decide +kernel
theorem dL_law_511 : decode cL_law 511 = .ok (.if_icmp .eq 507, 3) := by decide +kernel
theorem dL_law_514 : decode cL_law 514 = .ok (.iconst 0, 1) := by decide +kernel
theorem dL_law_515 : decode cL_law 515 = .ok (.ireturn, 1) := by decide +kernel
theorem dL_law_516 : decode cL_law 516 = .ok (.aload_n 1, 1) := by decide +kernel
theorem dL_law_517 : decode cL_law 517 = .ok (.aload_n 0, 1) := by decide +kernel
theorem dL_law_518 : decode cL_law 518 = .ok (.iload_n 3, 1) := by decide +kernel
theorem dL_law_519 : decode cL_law 519 = .ok (.iconst 1, 1) := by decide +kernel
theorem dL_law_520 : decode cL_law 520 = .ok (.iadd, 1) := by decide +kernel
theorem dL_law_521 : decode cL_law 521 = .ok (.iaload, 1) := by decide +kernel
theorem dL_law_522 : decode cL_law 522 = .ok (.aload_n 0, 1) := by decide +kernel
theorem dL_law_523 : decode cL_law 523 = .ok (.iload_n 3, 1) := by decide +kernel
theorem dL_law_524 : decode cL_law 524 = .ok (.iconst 2, 1) := by decide +kernel
theorem dL_law_525 : decode cL_law 525 = .ok (.iadd, 1) := by decide +kernel
theorem dL_law_526 : decode cL_law 526 = .ok (.iaload, 1) := by decide +kernel
theorem dL_law_527 : decode cL_law 527 = .ok (.invokevirtual 57, 3) := by decide +kernel
theorem dL_law_530 : decode cL_law 530 = .ok (.aload_n 2, 1) := by decide +kernel
theorem dL_law_531 : decode cL_law 531 = .ok (.aload_n 0, 1) := by decide +kernel
theorem dL_law_532 : decode cL_law 532 = .ok (.iload_n 3, 1) := by decide +kernel
theorem dL_law_533 : decode cL_law 533 = .ok (.iconst 1, 1) := by decide +kernel
theorem dL_law_534 : decode cL_law 534 = .ok (.iadd, 1) := by decide +kernel
theorem dL_law_535 : decode cL_law 535 = .ok (.iaload, 1) := by decide +kernel
theorem dL_law_536 : decode cL_law 536 = .ok (.aload_n 0, 1) := by decide +kernel
theorem dL_law_537 : decode cL_law 537 = .ok (.iload_n 3, 1) := by decide +kernel
theorem dL_law_538 : decode cL_law 538 = .ok (.iconst 2, 1) := by decide +kernel
theorem dL_law_539 : decode cL_law 539 = .ok (.iadd, 1) := by decide +kernel
theorem dL_law_540 : decode cL_law 540 = .ok (.iaload, 1) := by decide +kernel
theorem dL_law_541 : decode cL_law 541 = .ok (.invokevirtual 60, 3) := by decide +kernel
theorem dL_law_544 : decode cL_law 544 = .ok (.if_icmp .eq 474, 3) := by decide +kernel
theorem dL_law_547 : decode cL_law 547 = .ok (.iconst 0, 1) := by decide +kernel
theorem dL_law_548 : decode cL_law 548 = .ok (.ireturn, 1) := by decide +kernel
theorem dL_law_549 : decode cL_law 549 = .ok (.aload_n 1, 1) := by decide +kernel
theorem dL_law_550 : decode cL_law 550 = .ok (.aload_n 0, 1) := by decide +kernel
theorem dL_law_551 : decode cL_law 551 = .ok (.iload_n 3, 1) := by decide +kernel
theorem dL_law_552 : decode cL_law 552 = .ok (.iconst 1, 1) := by decide +kernel
theorem dL_law_553 : decode cL_law 553 = .ok (.iadd, 1) := by decide +kernel
theorem dL_law_554 : decode cL_law 554 = .ok (.iaload, 1) := by decide +kernel
theorem dL_law_555 : decode cL_law 555 = .ok (.invokevirtual 61, 3) := by decide +kernel
theorem dL_law_558 : decode cL_law 558 = .ok (.aload_n 2, 1) := by decide +kernel
theorem dL_law_559 : decode cL_law 559 = .ok (.aload_n 0, 1) := by decide +kernel
theorem dL_law_560 : decode cL_law 560 = .ok (.iload_n 3, 1) := by decide +kernel
theorem dL_law_561 : decode cL_law 561 = .ok (.iconst 1, 1) := by decide +kernel
theorem dL_law_562 : decode cL_law 562 = .ok (.iadd, 1) := by decide +kernel
theorem dL_law_563 : decode cL_law 563 = .ok (.iaload, 1) := by decide +kernel
theorem dL_law_564 : decode cL_law 564 = .ok (.invokevirtual 64, 3) := by decide +kernel
theorem dL_law_567 : decode cL_law 567 = .ok (.if_icmp .eq 451, 3) := by decide +kernel
theorem dL_law_570 : decode cL_law 570 = .ok (.iconst 0, 1) := by decide +kernel
theorem dL_law_571 : decode cL_law 571 = .ok (.ireturn, 1) := by decide +kernel
theorem dL_law_572 : decode cL_law 572 = .ok (.aload_n 1, 1) := by decide +kernel
theorem dL_law_573 : decode cL_law 573 = .ok (.aload_n 0, 1) := by decide +kernel
theorem dL_law_574 : decode cL_law 574 = .ok (.iload_n 3, 1) := by decide +kernel
theorem dL_law_575 : decode cL_law 575 = .ok (.iconst 1, 1) := by decide +kernel
theorem dL_law_576 : decode cL_law 576 = .ok (.iadd, 1) := by decide +kernel
theorem dL_law_577 : decode cL_law 577 = .ok (.iaload, 1) := by decide +kernel
theorem dL_law_578 : decode cL_law 578 = .ok (.aload_n 0, 1) := by decide +kernel
theorem dL_law_579 : decode cL_law 579 = .ok (.iload_n 3, 1) := by decide +kernel
theorem dL_law_580 : decode cL_law 580 = .ok (.iconst 2, 1) := by decide +kernel
theorem dL_law_581 : decode cL_law 581 = .ok (.iadd, 1) := by decide +kernel
theorem dL_law_582 : decode cL_law 582 = .ok (.iaload, 1) := by decide +kernel
theorem dL_law_583 : decode cL_law 583 = .ok (.aload_n 0, 1) := by decide +kernel
theorem dL_law_584 : decode cL_law 584 = .ok (.iload_n 3, 1) := by decide +kernel
theorem dL_law_585 : decode cL_law 585 = .ok (.iconst 3, 1) := by decide +kernel
theorem dL_law_586 : decode cL_law 586 = .ok (.iadd, 1) := by decide +kernel
theorem dL_law_587 : decode cL_law 587 = .ok (.iaload, 1) := by decide +kernel
theorem dL_law_588 : decode cL_law 588 = .ok (.aload_n 0, 1) := by decide +kernel
theorem dL_law_589 : decode cL_law 589 = .ok (.iload_n 3, 1) := by decide +kernel
theorem dL_law_590 : decode cL_law 590 = .ok (.iconst 4, 1) := by decide +kernel
theorem dL_law_591 : decode cL_law 591 = .ok (.iadd, 1) := by decide +kernel
theorem dL_law_592 : decode cL_law 592 = .ok (.iaload, 1) := by decide +kernel
theorem dL_law_593 : decode cL_law 593 = .ok (.invokevirtual 65, 3) := by decide +kernel
theorem dL_law_596 : decode cL_law 596 = .ok (.aload_n 2, 1) := by decide +kernel
theorem dL_law_597 : decode cL_law 597 = .ok (.aload_n 0, 1) := by decide +kernel
theorem dL_law_598 : decode cL_law 598 = .ok (.iload_n 3, 1) := by decide +kernel
theorem dL_law_599 : decode cL_law 599 = .ok (.iconst 1, 1) := by decide +kernel
theorem dL_law_600 : decode cL_law 600 = .ok (.iadd, 1) := by decide +kernel
theorem dL_law_601 : decode cL_law 601 = .ok (.iaload, 1) := by decide +kernel
theorem dL_law_602 : decode cL_law 602 = .ok (.aload_n 0, 1) := by decide +kernel
theorem dL_law_603 : decode cL_law 603 = .ok (.iload_n 3, 1) := by decide +kernel
theorem dL_law_604 : decode cL_law 604 = .ok (.iconst 2, 1) := by decide +kernel
theorem dL_law_605 : decode cL_law 605 = .ok (.iadd, 1) := by decide +kernel
theorem dL_law_606 : decode cL_law 606 = .ok (.iaload, 1) := by decide +kernel
theorem dL_law_607 : decode cL_law 607 = .ok (.aload_n 0, 1) := by decide +kernel
theorem dL_law_608 : decode cL_law 608 = .ok (.iload_n 3, 1) := by decide +kernel
theorem dL_law_609 : decode cL_law 609 = .ok (.iconst 3, 1) := by decide +kernel
theorem dL_law_610 : decode cL_law 610 = .ok (.iadd, 1) := by decide +kernel
theorem dL_law_611 : decode cL_law 611 = .ok (.iaload, 1) := by decide +kernel
theorem dL_law_612 : decode cL_law 612 = .ok (.aload_n 0, 1) := by decide +kernel
theorem dL_law_613 : decode cL_law 613 = .ok (.iload_n 3, 1) := by decide +kernel
theorem dL_law_614 : decode cL_law 614 = .ok (.iconst 4, 1) := by decide +kernel
theorem dL_law_615 : decode cL_law 615 = .ok (.iadd, 1) := by decide +kernel
theorem dL_law_616 : decode cL_law 616 = .ok (.iaload, 1) := by decide +kernel
theorem dL_law_617 : decode cL_law 617 = .ok (.invokevirtual 69, 3) := by decide +kernel
theorem dL_law_620 : decode cL_law 620 = .ok (.lcmp, 1) := by decide +kernel
theorem dL_law_621 : decode cL_law 621 = .ok (.ifCond .eq 397, 3) := by decide +kernel
theorem dL_law_624 : decode cL_law 624 = .ok (.iconst 0, 1) := by decide +kernel
theorem dL_law_625 : decode cL_law 625 = .ok (.ireturn, 1) := by decide +kernel
theorem dL_law_626 : decode cL_law 626 = .ok (.aload_n 1, 1) := by decide +kernel
theorem dL_law_627 : decode cL_law 627 = .ok (.aload_n 0, 1) := by decide +kernel
theorem dL_law_628 : decode cL_law 628 = .ok (.iload_n 3, 1) := by decide +kernel
theorem dL_law_629 : decode cL_law 629 = .ok (.iconst 1, 1) := by decide +kernel
theorem dL_law_630 : decode cL_law 630 = .ok (.iadd, 1) := by decide +kernel
theorem dL_law_631 : decode cL_law 631 = .ok (.iaload, 1) := by decide +kernel
theorem dL_law_632 : decode cL_law 632 = .ok (.aload_n 0, 1) := by decide +kernel
theorem dL_law_633 : decode cL_law 633 = .ok (.iload_n 3, 1) := by decide +kernel
theorem dL_law_634 : decode cL_law 634 = .ok (.iconst 2, 1) := by decide +kernel
theorem dL_law_635 : decode cL_law 635 = .ok (.iadd, 1) := by decide +kernel
theorem dL_law_636 : decode cL_law 636 = .ok (.iaload, 1) := by decide +kernel
theorem dL_law_637 : decode cL_law 637 = .ok (.aload_n 0, 1) := by decide +kernel
theorem dL_law_638 : decode cL_law 638 = .ok (.iload_n 3, 1) := by decide +kernel
theorem dL_law_639 : decode cL_law 639 = .ok (.iconst 3, 1) := by decide +kernel
theorem dL_law_640 : decode cL_law 640 = .ok (.iadd, 1) := by decide +kernel
theorem dL_law_641 : decode cL_law 641 = .ok (.iaload, 1) := by decide +kernel
theorem dL_law_642 : decode cL_law 642 = .ok (.invokevirtual 70, 3) := by decide +kernel
theorem dL_law_645 : decode cL_law 645 = .ok (.aload_n 2, 1) := by decide +kernel
theorem dL_law_646 : decode cL_law 646 = .ok (.aload_n 0, 1) := by decide +kernel
theorem dL_law_647 : decode cL_law 647 = .ok (.iload_n 3, 1) := by decide +kernel
theorem dL_law_648 : decode cL_law 648 = .ok (.iconst 1, 1) := by decide +kernel
theorem dL_law_649 : decode cL_law 649 = .ok (.iadd, 1) := by decide +kernel
theorem dL_law_650 : decode cL_law 650 = .ok (.iaload, 1) := by decide +kernel
theorem dL_law_651 : decode cL_law 651 = .ok (.aload_n 0, 1) := by decide +kernel
theorem dL_law_652 : decode cL_law 652 = .ok (.iload_n 3, 1) := by decide +kernel
theorem dL_law_653 : decode cL_law 653 = .ok (.iconst 2, 1) := by decide +kernel
theorem dL_law_654 : decode cL_law 654 = .ok (.iadd, 1) := by decide +kernel
theorem dL_law_655 : decode cL_law 655 = .ok (.iaload, 1) := by decide +kernel
theorem dL_law_656 : decode cL_law 656 = .ok (.aload_n 0, 1) := by decide +kernel
theorem dL_law_657 : decode cL_law 657 = .ok (.iload_n 3, 1) := by decide +kernel
theorem dL_law_658 : decode cL_law 658 = .ok (.iconst 3, 1) := by decide +kernel
theorem dL_law_659 : decode cL_law 659 = .ok (.iadd, 1) := by decide +kernel
theorem dL_law_660 : decode cL_law 660 = .ok (.iaload, 1) := by decide +kernel
theorem dL_law_661 : decode cL_law 661 = .ok (.invokevirtual 73, 3) := by decide +kernel
theorem dL_law_664 : decode cL_law 664 = .ok (.if_icmp .eq 354, 3) := by decide +kernel
theorem dL_law_667 : decode cL_law 667 = .ok (.iconst 0, 1) := by decide +kernel
theorem dL_law_668 : decode cL_law 668 = .ok (.ireturn, 1) := by decide +kernel
theorem dL_law_669 : decode cL_law 669 = .ok (.aload_n 1, 1) := by decide +kernel
theorem dL_law_670 : decode cL_law 670 = .ok (.aload_n 0, 1) := by decide +kernel
theorem dL_law_671 : decode cL_law 671 = .ok (.iload_n 3, 1) := by decide +kernel
theorem dL_law_672 : decode cL_law 672 = .ok (.iconst 1, 1) := by decide +kernel
theorem dL_law_673 : decode cL_law 673 = .ok (.iadd, 1) := by decide +kernel
theorem dL_law_674 : decode cL_law 674 = .ok (.iaload, 1) := by decide +kernel
theorem dL_law_675 : decode cL_law 675 = .ok (.aload_n 0, 1) := by decide +kernel
theorem dL_law_676 : decode cL_law 676 = .ok (.iload_n 3, 1) := by decide +kernel
theorem dL_law_677 : decode cL_law 677 = .ok (.iconst 2, 1) := by decide +kernel
theorem dL_law_678 : decode cL_law 678 = .ok (.iadd, 1) := by decide +kernel
theorem dL_law_679 : decode cL_law 679 = .ok (.iaload, 1) := by decide +kernel
theorem dL_law_680 : decode cL_law 680 = .ok (.invokevirtual 74, 3) := by decide +kernel
theorem dL_law_683 : decode cL_law 683 = .ok (.aload_n 2, 1) := by decide +kernel
theorem dL_law_684 : decode cL_law 684 = .ok (.aload_n 0, 1) := by decide +kernel
theorem dL_law_685 : decode cL_law 685 = .ok (.iload_n 3, 1) := by decide +kernel
theorem dL_law_686 : decode cL_law 686 = .ok (.iconst 1, 1) := by decide +kernel
theorem dL_law_687 : decode cL_law 687 = .ok (.iadd, 1) := by decide +kernel
theorem dL_law_688 : decode cL_law 688 = .ok (.iaload, 1) := by decide +kernel
theorem dL_law_689 : decode cL_law 689 = .ok (.aload_n 0, 1) := by decide +kernel
theorem dL_law_690 : decode cL_law 690 = .ok (.iload_n 3, 1) := by decide +kernel
theorem dL_law_691 : decode cL_law 691 = .ok (.iconst 2, 1) := by decide +kernel
theorem dL_law_692 : decode cL_law 692 = .ok (.iadd, 1) := by decide +kernel
theorem dL_law_693 : decode cL_law 693 = .ok (.iaload, 1) := by decide +kernel
theorem dL_law_694 : decode cL_law 694 = .ok (.invokevirtual 77, 3) := by decide +kernel
theorem dL_law_697 : decode cL_law 697 = .ok (.if_icmp .eq 321, 3) := by decide +kernel
theorem dL_law_700 : decode cL_law 700 = .ok (.iconst 0, 1) := by decide +kernel
theorem dL_law_701 : decode cL_law 701 = .ok (.ireturn, 1) := by decide +kernel
theorem dL_law_702 : decode cL_law 702 = .ok (.aload_n 1, 1) := by decide +kernel
theorem dL_law_703 : decode cL_law 703 = .ok (.aload_n 0, 1) := by decide +kernel
theorem dL_law_704 : decode cL_law 704 = .ok (.iload_n 3, 1) := by decide +kernel
theorem dL_law_705 : decode cL_law 705 = .ok (.iconst 1, 1) := by decide +kernel
theorem dL_law_706 : decode cL_law 706 = .ok (.iadd, 1) := by decide +kernel
theorem dL_law_707 : decode cL_law 707 = .ok (.iaload, 1) := by decide +kernel
theorem dL_law_708 : decode cL_law 708 = .ok (.aload_n 0, 1) := by decide +kernel
theorem dL_law_709 : decode cL_law 709 = .ok (.iload_n 3, 1) := by decide +kernel
theorem dL_law_710 : decode cL_law 710 = .ok (.iconst 2, 1) := by decide +kernel
theorem dL_law_711 : decode cL_law 711 = .ok (.iadd, 1) := by decide +kernel
theorem dL_law_712 : decode cL_law 712 = .ok (.iaload, 1) := by decide +kernel
theorem dL_law_713 : decode cL_law 713 = .ok (.invokevirtual 78, 3) := by decide +kernel
theorem dL_law_716 : decode cL_law 716 = .ok (.aload_n 2, 1) := by decide +kernel
theorem dL_law_717 : decode cL_law 717 = .ok (.aload_n 0, 1) := by decide +kernel
theorem dL_law_718 : decode cL_law 718 = .ok (.iload_n 3, 1) := by decide +kernel
theorem dL_law_719 : decode cL_law 719 = .ok (.iconst 1, 1) := by decide +kernel
theorem dL_law_720 : decode cL_law 720 = .ok (.iadd, 1) := by decide +kernel
theorem dL_law_721 : decode cL_law 721 = .ok (.iaload, 1) := by decide +kernel
theorem dL_law_722 : decode cL_law 722 = .ok (.aload_n 0, 1) := by decide +kernel
theorem dL_law_723 : decode cL_law 723 = .ok (.iload_n 3, 1) := by decide +kernel
theorem dL_law_724 : decode cL_law 724 = .ok (.iconst 2, 1) := by decide +kernel
theorem dL_law_725 : decode cL_law 725 = .ok (.iadd, 1) := by decide +kernel
theorem dL_law_726 : decode cL_law 726 = .ok (.iaload, 1) := by decide +kernel
theorem dL_law_727 : decode cL_law 727 = .ok (.invokevirtual 81, 3) := by decide +kernel
theorem dL_law_730 : decode cL_law 730 = .ok (.if_icmp .eq 288, 3) := by decide +kernel
theorem dL_law_733 : decode cL_law 733 = .ok (.iconst 0, 1) := by decide +kernel
theorem dL_law_734 : decode cL_law 734 = .ok (.ireturn, 1) := by decide +kernel
theorem dL_law_735 : decode cL_law 735 = .ok (.aload_n 1, 1) := by decide +kernel
theorem dL_law_736 : decode cL_law 736 = .ok (.aload_n 0, 1) := by decide +kernel
theorem dL_law_737 : decode cL_law 737 = .ok (.iload_n 3, 1) := by decide +kernel
theorem dL_law_738 : decode cL_law 738 = .ok (.iconst 1, 1) := by decide +kernel
theorem dL_law_739 : decode cL_law 739 = .ok (.iadd, 1) := by decide +kernel
theorem dL_law_740 : decode cL_law 740 = .ok (.iaload, 1) := by decide +kernel
theorem dL_law_741 : decode cL_law 741 = .ok (.invokevirtual 82, 3) := by decide +kernel
theorem dL_law_744 : decode cL_law 744 = .ok (.aload_n 2, 1) := by decide +kernel
theorem dL_law_745 : decode cL_law 745 = .ok (.aload_n 0, 1) := by decide +kernel
theorem dL_law_746 : decode cL_law 746 = .ok (.iload_n 3, 1) := by decide +kernel
theorem dL_law_747 : decode cL_law 747 = .ok (.iconst 1, 1) := by decide +kernel
theorem dL_law_748 : decode cL_law 748 = .ok (.iadd, 1) := by decide +kernel
theorem dL_law_749 : decode cL_law 749 = .ok (.iaload, 1) := by decide +kernel
theorem dL_law_750 : decode cL_law 750 = .ok (.invokevirtual 85, 3) := by decide +kernel
theorem dL_law_753 : decode cL_law 753 = .ok (.if_icmp .eq 265, 3) := by decide +kernel
theorem dL_law_756 : decode cL_law 756 = .ok (.iconst 0, 1) := by decide +kernel
theorem dL_law_757 : decode cL_law 757 = .ok (.ireturn, 1) := by decide +kernel
theorem dL_law_758 : decode cL_law 758 = .ok (.aload_n 1, 1) := by decide +kernel
theorem dL_law_759 : decode cL_law 759 = .ok (.aload_n 0, 1) := by decide +kernel
theorem dL_law_760 : decode cL_law 760 = .ok (.iload_n 3, 1) := by decide +kernel
theorem dL_law_761 : decode cL_law 761 = .ok (.iconst 1, 1) := by decide +kernel
theorem dL_law_762 : decode cL_law 762 = .ok (.iadd, 1) := by decide +kernel
theorem dL_law_763 : decode cL_law 763 = .ok (.iaload, 1) := by decide +kernel
theorem dL_law_764 : decode cL_law 764 = .ok (.invokevirtual 86, 3) := by decide +kernel
theorem dL_law_767 : decode cL_law 767 = .ok (.aload_n 2, 1) := by decide +kernel
theorem dL_law_768 : decode cL_law 768 = .ok (.aload_n 0, 1) := by decide +kernel
theorem dL_law_769 : decode cL_law 769 = .ok (.iload_n 3, 1) := by decide +kernel
theorem dL_law_770 : decode cL_law 770 = .ok (.iconst 1, 1) := by decide +kernel
theorem dL_law_771 : decode cL_law 771 = .ok (.iadd, 1) := by decide +kernel
theorem dL_law_772 : decode cL_law 772 = .ok (.iaload, 1) := by decide +kernel
theorem dL_law_773 : decode cL_law 773 = .ok (.invokevirtual 89, 3) := by decide +kernel
theorem dL_law_776 : decode cL_law 776 = .ok (.if_icmp .eq 242, 3) := by decide +kernel
theorem dL_law_779 : decode cL_law 779 = .ok (.iconst 0, 1) := by decide +kernel
theorem dL_law_780 : decode cL_law 780 = .ok (.ireturn, 1) := by decide +kernel
theorem dL_law_781 : decode cL_law 781 = .ok (.aload_n 1, 1) := by decide +kernel
theorem dL_law_782 : decode cL_law 782 = .ok (.aload_n 0, 1) := by decide +kernel
theorem dL_law_783 : decode cL_law 783 = .ok (.iload_n 3, 1) := by decide +kernel
theorem dL_law_784 : decode cL_law 784 = .ok (.iconst 1, 1) := by decide +kernel
theorem dL_law_785 : decode cL_law 785 = .ok (.iadd, 1) := by decide +kernel
theorem dL_law_786 : decode cL_law 786 = .ok (.iaload, 1) := by decide +kernel
theorem dL_law_787 : decode cL_law 787 = .ok (.invokevirtual 90, 3) := by decide +kernel
theorem dL_law_790 : decode cL_law 790 = .ok (.aload_n 2, 1) := by decide +kernel
theorem dL_law_791 : decode cL_law 791 = .ok (.aload_n 0, 1) := by decide +kernel
theorem dL_law_792 : decode cL_law 792 = .ok (.iload_n 3, 1) := by decide +kernel
theorem dL_law_793 : decode cL_law 793 = .ok (.iconst 1, 1) := by decide +kernel
theorem dL_law_794 : decode cL_law 794 = .ok (.iadd, 1) := by decide +kernel
theorem dL_law_795 : decode cL_law 795 = .ok (.iaload, 1) := by decide +kernel
theorem dL_law_796 : decode cL_law 796 = .ok (.invokevirtual 93, 3) := by decide +kernel
theorem dL_law_799 : decode cL_law 799 = .ok (.if_icmp .eq 219, 3) := by decide +kernel
theorem dL_law_802 : decode cL_law 802 = .ok (.iconst 0, 1) := by decide +kernel
theorem dL_law_803 : decode cL_law 803 = .ok (.ireturn, 1) := by decide +kernel
theorem dL_law_804 : decode cL_law 804 = .ok (.aload_n 1, 1) := by decide +kernel
theorem dL_law_805 : decode cL_law 805 = .ok (.invokevirtual 94, 3) := by decide +kernel
theorem dL_law_808 : decode cL_law 808 = .ok (.aload_n 2, 1) := by decide +kernel
theorem dL_law_809 : decode cL_law 809 = .ok (.invokevirtual 98, 3) := by decide +kernel
theorem dL_law_812 : decode cL_law 812 = .ok (.if_icmp .eq 206, 3) := by decide +kernel
theorem dL_law_815 : decode cL_law 815 = .ok (.iconst 0, 1) := by decide +kernel
theorem dL_law_816 : decode cL_law 816 = .ok (.ireturn, 1) := by decide +kernel
theorem dL_law_817 : decode cL_law 817 = .ok (.aload_n 1, 1) := by decide +kernel
theorem dL_law_818 : decode cL_law 818 = .ok (.invokevirtual 99, 3) := by decide +kernel
theorem dL_law_821 : decode cL_law 821 = .ok (.aload_n 2, 1) := by decide +kernel
theorem dL_law_822 : decode cL_law 822 = .ok (.invokevirtual 102, 3) := by decide +kernel
theorem dL_law_825 : decode cL_law 825 = .ok (.if_icmp .eq 193, 3) := by decide +kernel
theorem dL_law_828 : decode cL_law 828 = .ok (.iconst 0, 1) := by decide +kernel
theorem dL_law_829 : decode cL_law 829 = .ok (.ireturn, 1) := by decide +kernel
theorem dL_law_830 : decode cL_law 830 = .ok (.aload_n 1, 1) := by decide +kernel
theorem dL_law_831 : decode cL_law 831 = .ok (.invokevirtual 103, 3) := by decide +kernel
theorem dL_law_834 : decode cL_law 834 = .ok (.aload_n 2, 1) := by decide +kernel
theorem dL_law_835 : decode cL_law 835 = .ok (.invokevirtual 106, 3) := by decide +kernel
theorem dL_law_838 : decode cL_law 838 = .ok (.if_icmp .eq 180, 3) := by decide +kernel
theorem dL_law_841 : decode cL_law 841 = .ok (.iconst 0, 1) := by decide +kernel
theorem dL_law_842 : decode cL_law 842 = .ok (.ireturn, 1) := by decide +kernel
theorem dL_law_843 : decode cL_law 843 = .ok (.aload_n 1, 1) := by decide +kernel
theorem dL_law_844 : decode cL_law 844 = .ok (.aload_n 0, 1) := by decide +kernel
theorem dL_law_845 : decode cL_law 845 = .ok (.iload_n 3, 1) := by decide +kernel
theorem dL_law_846 : decode cL_law 846 = .ok (.iconst 1, 1) := by decide +kernel
theorem dL_law_847 : decode cL_law 847 = .ok (.iadd, 1) := by decide +kernel
theorem dL_law_848 : decode cL_law 848 = .ok (.iaload, 1) := by decide +kernel
theorem dL_law_849 : decode cL_law 849 = .ok (.aload_n 0, 1) := by decide +kernel
theorem dL_law_850 : decode cL_law 850 = .ok (.iload_n 3, 1) := by decide +kernel
theorem dL_law_851 : decode cL_law 851 = .ok (.iconst 2, 1) := by decide +kernel
theorem dL_law_852 : decode cL_law 852 = .ok (.iadd, 1) := by decide +kernel
theorem dL_law_853 : decode cL_law 853 = .ok (.iaload, 1) := by decide +kernel
theorem dL_law_854 : decode cL_law 854 = .ok (.aload_n 0, 1) := by decide +kernel
theorem dL_law_855 : decode cL_law 855 = .ok (.iload_n 3, 1) := by decide +kernel
theorem dL_law_856 : decode cL_law 856 = .ok (.iconst 3, 1) := by decide +kernel
theorem dL_law_857 : decode cL_law 857 = .ok (.iadd, 1) := by decide +kernel
theorem dL_law_858 : decode cL_law 858 = .ok (.iaload, 1) := by decide +kernel
theorem dL_law_859 : decode cL_law 859 = .ok (.aload_n 0, 1) := by decide +kernel
theorem dL_law_860 : decode cL_law 860 = .ok (.iload_n 3, 1) := by decide +kernel
theorem dL_law_861 : decode cL_law 861 = .ok (.iconst 4, 1) := by decide +kernel
theorem dL_law_862 : decode cL_law 862 = .ok (.iadd, 1) := by decide +kernel
theorem dL_law_863 : decode cL_law 863 = .ok (.iaload, 1) := by decide +kernel
theorem dL_law_864 : decode cL_law 864 = .ok (.invokevirtual 107, 3) := by decide +kernel
theorem dL_law_867 : decode cL_law 867 = .ok (.aload_n 2, 1) := by decide +kernel
theorem dL_law_868 : decode cL_law 868 = .ok (.aload_n 0, 1) := by decide +kernel
theorem dL_law_869 : decode cL_law 869 = .ok (.iload_n 3, 1) := by decide +kernel
theorem dL_law_870 : decode cL_law 870 = .ok (.iconst 1, 1) := by decide +kernel
theorem dL_law_871 : decode cL_law 871 = .ok (.iadd, 1) := by decide +kernel
theorem dL_law_872 : decode cL_law 872 = .ok (.iaload, 1) := by decide +kernel
theorem dL_law_873 : decode cL_law 873 = .ok (.aload_n 0, 1) := by decide +kernel
theorem dL_law_874 : decode cL_law 874 = .ok (.iload_n 3, 1) := by decide +kernel
theorem dL_law_875 : decode cL_law 875 = .ok (.iconst 2, 1) := by decide +kernel
theorem dL_law_876 : decode cL_law 876 = .ok (.iadd, 1) := by decide +kernel
theorem dL_law_877 : decode cL_law 877 = .ok (.iaload, 1) := by decide +kernel
theorem dL_law_878 : decode cL_law 878 = .ok (.aload_n 0, 1) := by decide +kernel
theorem dL_law_879 : decode cL_law 879 = .ok (.iload_n 3, 1) := by decide +kernel
theorem dL_law_880 : decode cL_law 880 = .ok (.iconst 3, 1) := by decide +kernel
theorem dL_law_881 : decode cL_law 881 = .ok (.iadd, 1) := by decide +kernel
theorem dL_law_882 : decode cL_law 882 = .ok (.iaload, 1) := by decide +kernel
theorem dL_law_883 : decode cL_law 883 = .ok (.aload_n 0, 1) := by decide +kernel
theorem dL_law_884 : decode cL_law 884 = .ok (.iload_n 3, 1) := by decide +kernel
theorem dL_law_885 : decode cL_law 885 = .ok (.iconst 4, 1) := by decide +kernel
theorem dL_law_886 : decode cL_law 886 = .ok (.iadd, 1) := by decide +kernel
theorem dL_law_887 : decode cL_law 887 = .ok (.iaload, 1) := by decide +kernel
theorem dL_law_888 : decode cL_law 888 = .ok (.invokevirtual 111, 3) := by decide +kernel
theorem dL_law_891 : decode cL_law 891 = .ok (.if_icmp .eq 127, 3) := by decide +kernel
theorem dL_law_894 : decode cL_law 894 = .ok (.iconst 0, 1) := by decide +kernel
theorem dL_law_895 : decode cL_law 895 = .ok (.ireturn, 1) := by decide +kernel
theorem dL_law_896 : decode cL_law 896 = .ok (.aload_n 1, 1) := by decide +kernel
theorem dL_law_897 : decode cL_law 897 = .ok (.aload_n 0, 1) := by decide +kernel
theorem dL_law_898 : decode cL_law 898 = .ok (.iload_n 3, 1) := by decide +kernel
theorem dL_law_899 : decode cL_law 899 = .ok (.iconst 1, 1) := by decide +kernel
theorem dL_law_900 : decode cL_law 900 = .ok (.iadd, 1) := by decide +kernel
theorem dL_law_901 : decode cL_law 901 = .ok (.iaload, 1) := by decide +kernel
theorem dL_law_902 : decode cL_law 902 = .ok (.aload_n 0, 1) := by decide +kernel
theorem dL_law_903 : decode cL_law 903 = .ok (.iload_n 3, 1) := by decide +kernel
theorem dL_law_904 : decode cL_law 904 = .ok (.iconst 2, 1) := by decide +kernel
theorem dL_law_905 : decode cL_law 905 = .ok (.iadd, 1) := by decide +kernel
theorem dL_law_906 : decode cL_law 906 = .ok (.iaload, 1) := by decide +kernel
theorem dL_law_907 : decode cL_law 907 = .ok (.invokevirtual 112, 3) := by decide +kernel
theorem dL_law_910 : decode cL_law 910 = .ok (.aload_n 2, 1) := by decide +kernel
theorem dL_law_911 : decode cL_law 911 = .ok (.aload_n 0, 1) := by decide +kernel
theorem dL_law_912 : decode cL_law 912 = .ok (.iload_n 3, 1) := by decide +kernel
theorem dL_law_913 : decode cL_law 913 = .ok (.iconst 1, 1) := by decide +kernel
theorem dL_law_914 : decode cL_law 914 = .ok (.iadd, 1) := by decide +kernel
theorem dL_law_915 : decode cL_law 915 = .ok (.iaload, 1) := by decide +kernel
theorem dL_law_916 : decode cL_law 916 = .ok (.aload_n 0, 1) := by decide +kernel
theorem dL_law_917 : decode cL_law 917 = .ok (.iload_n 3, 1) := by decide +kernel
theorem dL_law_918 : decode cL_law 918 = .ok (.iconst 2, 1) := by decide +kernel
theorem dL_law_919 : decode cL_law 919 = .ok (.iadd, 1) := by decide +kernel
theorem dL_law_920 : decode cL_law 920 = .ok (.iaload, 1) := by decide +kernel
theorem dL_law_921 : decode cL_law 921 = .ok (.invokevirtual 115, 3) := by decide +kernel
theorem dL_law_924 : decode cL_law 924 = .ok (.if_icmp .eq 94, 3) := by decide +kernel
theorem dL_law_927 : decode cL_law 927 = .ok (.iconst 0, 1) := by decide +kernel
theorem dL_law_928 : decode cL_law 928 = .ok (.ireturn, 1) := by decide +kernel
theorem dL_law_929 : decode cL_law 929 = .ok (.aload_n 1, 1) := by decide +kernel
theorem dL_law_930 : decode cL_law 930 = .ok (.aload_n 0, 1) := by decide +kernel
theorem dL_law_931 : decode cL_law 931 = .ok (.iload_n 3, 1) := by decide +kernel
theorem dL_law_932 : decode cL_law 932 = .ok (.iconst 1, 1) := by decide +kernel
theorem dL_law_933 : decode cL_law 933 = .ok (.iadd, 1) := by decide +kernel
theorem dL_law_934 : decode cL_law 934 = .ok (.iaload, 1) := by decide +kernel
theorem dL_law_935 : decode cL_law 935 = .ok (.aload_n 0, 1) := by decide +kernel
theorem dL_law_936 : decode cL_law 936 = .ok (.iload_n 3, 1) := by decide +kernel
theorem dL_law_937 : decode cL_law 937 = .ok (.iconst 2, 1) := by decide +kernel
theorem dL_law_938 : decode cL_law 938 = .ok (.iadd, 1) := by decide +kernel
theorem dL_law_939 : decode cL_law 939 = .ok (.iaload, 1) := by decide +kernel
theorem dL_law_940 : decode cL_law 940 = .ok (.invokevirtual 116, 3) := by decide +kernel
theorem dL_law_943 : decode cL_law 943 = .ok (.aload_n 2, 1) := by decide +kernel
theorem dL_law_944 : decode cL_law 944 = .ok (.aload_n 0, 1) := by decide +kernel
theorem dL_law_945 : decode cL_law 945 = .ok (.iload_n 3, 1) := by decide +kernel
theorem dL_law_946 : decode cL_law 946 = .ok (.iconst 1, 1) := by decide +kernel
theorem dL_law_947 : decode cL_law 947 = .ok (.iadd, 1) := by decide +kernel
theorem dL_law_948 : decode cL_law 948 = .ok (.iaload, 1) := by decide +kernel
theorem dL_law_949 : decode cL_law 949 = .ok (.aload_n 0, 1) := by decide +kernel
theorem dL_law_950 : decode cL_law 950 = .ok (.iload_n 3, 1) := by decide +kernel
theorem dL_law_951 : decode cL_law 951 = .ok (.iconst 2, 1) := by decide +kernel
theorem dL_law_952 : decode cL_law 952 = .ok (.iadd, 1) := by decide +kernel
theorem dL_law_953 : decode cL_law 953 = .ok (.iaload, 1) := by decide +kernel
theorem dL_law_954 : decode cL_law 954 = .ok (.invokevirtual 119, 3) := by decide +kernel
theorem dL_law_957 : decode cL_law 957 = .ok (.if_icmp .eq 61, 3) := by decide +kernel
theorem dL_law_960 : decode cL_law 960 = .ok (.iconst 0, 1) := by decide +kernel
theorem dL_law_961 : decode cL_law 961 = .ok (.ireturn, 1) := by decide +kernel
theorem dL_law_962 : decode cL_law 962 = .ok (.aload_n 1, 1) := by decide +kernel
theorem dL_law_963 : decode cL_law 963 = .ok (.aload_n 0, 1) := by decide +kernel
theorem dL_law_964 : decode cL_law 964 = .ok (.iload_n 3, 1) := by decide +kernel
theorem dL_law_965 : decode cL_law 965 = .ok (.iconst 1, 1) := by decide +kernel
theorem dL_law_966 : decode cL_law 966 = .ok (.iadd, 1) := by decide +kernel
theorem dL_law_967 : decode cL_law 967 = .ok (.iaload, 1) := by decide +kernel
theorem dL_law_968 : decode cL_law 968 = .ok (.aload_n 0, 1) := by decide +kernel
theorem dL_law_969 : decode cL_law 969 = .ok (.iload_n 3, 1) := by decide +kernel
theorem dL_law_970 : decode cL_law 970 = .ok (.iconst 2, 1) := by decide +kernel
theorem dL_law_971 : decode cL_law 971 = .ok (.iadd, 1) := by decide +kernel
theorem dL_law_972 : decode cL_law 972 = .ok (.iaload, 1) := by decide +kernel
theorem dL_law_973 : decode cL_law 973 = .ok (.invokevirtual 120, 3) := by decide +kernel
theorem dL_law_976 : decode cL_law 976 = .ok (.aload_n 2, 1) := by decide +kernel
theorem dL_law_977 : decode cL_law 977 = .ok (.aload_n 0, 1) := by decide +kernel
theorem dL_law_978 : decode cL_law 978 = .ok (.iload_n 3, 1) := by decide +kernel
theorem dL_law_979 : decode cL_law 979 = .ok (.iconst 1, 1) := by decide +kernel
theorem dL_law_980 : decode cL_law 980 = .ok (.iadd, 1) := by decide +kernel
theorem dL_law_981 : decode cL_law 981 = .ok (.iaload, 1) := by decide +kernel
theorem dL_law_982 : decode cL_law 982 = .ok (.aload_n 0, 1) := by decide +kernel
theorem dL_law_983 : decode cL_law 983 = .ok (.iload_n 3, 1) := by decide +kernel
theorem dL_law_984 : decode cL_law 984 = .ok (.iconst 2, 1) := by decide +kernel
theorem dL_law_985 : decode cL_law 985 = .ok (.iadd, 1) := by decide +kernel
theorem dL_law_986 : decode cL_law 986 = .ok (.iaload, 1) := by decide +kernel
theorem dL_law_987 : decode cL_law 987 = .ok (.invokevirtual 123, 3) := by decide +kernel
theorem dL_law_990 : decode cL_law 990 = .ok (.if_icmp .eq 28, 3) := by decide +kernel
theorem dL_law_993 : decode cL_law 993 = .ok (.iconst 0, 1) := by decide +kernel
theorem dL_law_994 : decode cL_law 994 = .ok (.ireturn, 1) := by decide +kernel
theorem dL_law_995 : decode cL_law 995 = .ok (.aload_n 1, 1) := by decide +kernel
theorem dL_law_996 : decode cL_law 996 = .ok (.aload_n 0, 1) := by decide +kernel
theorem dL_law_997 : decode cL_law 997 = .ok (.iload_n 3, 1) := by decide +kernel
theorem dL_law_998 : decode cL_law 998 = .ok (.iconst 1, 1) := by decide +kernel
theorem dL_law_999 : decode cL_law 999 = .ok (.iadd, 1) := by decide +kernel
theorem dL_law_1000 : decode cL_law 1000 = .ok (.iaload, 1) := by decide +kernel
theorem dL_law_1001 : decode cL_law 1001 = .ok (.invokevirtual 124, 3) := by decide +kernel
theorem dL_law_1004 : decode cL_law 1004 = .ok (.aload_n 2, 1) := by decide +kernel
theorem dL_law_1005 : decode cL_law 1005 = .ok (.aload_n 0, 1) := by decide +kernel
theorem dL_law_1006 : decode cL_law 1006 = .ok (.iload_n 3, 1) := by decide +kernel
theorem dL_law_1007 : decode cL_law 1007 = .ok (.iconst 1, 1) := by decide +kernel
theorem dL_law_1008 : decode cL_law 1008 = .ok (.iadd, 1) := by decide +kernel
theorem dL_law_1009 : decode cL_law 1009 = .ok (.iaload, 1) := by decide +kernel
theorem dL_law_1010 : decode cL_law 1010 = .ok (.invokevirtual 127, 3) := by decide +kernel
theorem dL_law_1013 : decode cL_law 1013 = .ok (.if_icmp .eq 5, 3) := by decide +kernel
theorem dL_law_1016 : decode cL_law 1016 = .ok (.iconst 0, 1) := by decide +kernel
theorem dL_law_1017 : decode cL_law 1017 = .ok (.ireturn, 1) := by decide +kernel
theorem dL_law_1018 : decode cL_law 1018 = .ok (.iinc 3 6, 3) := by decide +kernel
theorem dL_law_1021 : decode cL_law 1021 = .ok (.goto (-1003), 3) := by decide +kernel
theorem dL_law_1024 : decode cL_law 1024 = .ok (.iconst 1, 1) := by decide +kernel
theorem dL_law_1025 : decode cL_law 1025 = .ok (.ireturn, 1) := by decide +kernel
end
section
/-- the words that a call hands on: all good ones of the tables -/
def gw : List Cond := lw_tbl.filter goodWord
theorem gm {w : Cond} (h : w ∈ lw_tbl) (h2 : goodWord w = true) : w ∈ gw := List.mem_filter.mpr ⟨h, h2⟩
theorem gw_in : ∀ w ∈ gw, w ∈ lw_tbl := fun _ h => (List.mem_filter.mp h).1
theorem gw_good {y : MethodName} {cc : ByteArray} {n : Nat} {ret : Option FieldType} (h : Cond.code y cc n ret ∈ gw) : GoodIn gw (Cond.code y cc n ret :: gw) := by
  intro w hw
  rcases List.mem_cons.mp hw with rfl | hw
  · exact ⟨h, good_of_word (List.mem_filter.mp h).2⟩
  · exact ⟨hw, good_of_word (List.mem_filter.mp hw).2⟩
theorem tm0 {w : Cond} (h : w ∈ k2_sels lw_privs) : w ∈ lw_tbl := List.mem_append_left _ h
theorem tm1 {w : Cond} (h : w ∈ tables_1_1) : w ∈ lw_tbl := List.mem_append_right _ (List.mem_append_left _ h)
theorem tm2 {w : Cond} (h : w ∈ tables_1_2) : w ∈ lw_tbl := List.mem_append_right _ (List.mem_append_right _ (List.mem_append_left _ h))
theorem tm3 {w : Cond} (h : w ∈ tables_1_3) : w ∈ lw_tbl := List.mem_append_right _ (List.mem_append_right _ (List.mem_append_right _ (List.mem_append_left _ h)))
theorem tm4 {w : Cond} (h : w ∈ tables_1_4) : w ∈ lw_tbl := List.mem_append_right _ (List.mem_append_right _ (List.mem_append_right _ (List.mem_append_right _ h)))
theorem uin {C : String} {T : u_T} {N : Nat} (h : ∀ k, k < N → u_lay C T k ∈ gw) : ∀ w ∈ u_ws C T N, w ∈ gw := by
  intro w hw
  obtain ⟨k, hk, rfl⟩ := List.mem_map.mp hw
  exact h k (List.mem_range.mp hk)
theorem wg_0 : Jvm.Cond.initialized "HairLineLaw" ∈ gw := gm (tm1 (List.mem_of_getElem? (i := 0) rfl)) rfl
theorem wg_1 : Jvm.Cond.initialized "HairLine" ∈ gw := gm (tm1 (List.mem_of_getElem? (i := 1) rfl)) rfl
theorem wg_2 : Jvm.Cond.initialized "HairLine$Track" ∈ gw := gm (tm1 (List.mem_of_getElem? (i := 2) rfl)) rfl
theorem wg_3 : Jvm.Cond.initialized "HairLine$Runner" ∈ gw := gm (tm1 (List.mem_of_getElem? (i := 3) rfl)) rfl
theorem wg_4 : Jvm.Cond.initialized "HairLine$Ranking" ∈ gw := gm (tm1 (List.mem_of_getElem? (i := 4) rfl)) rfl
theorem wg_5 : Jvm.Cond.initialized "HairLine$Panel" ∈ gw := gm (tm1 (List.mem_of_getElem? (i := 5) rfl)) rfl
theorem wg_6 : Jvm.Cond.initialized "HairLine$Span" ∈ gw := gm (tm1 (List.mem_of_getElem? (i := 6) rfl)) rfl
theorem wg_7 : Jvm.Cond.initialized "HairLine$Signs" ∈ gw := gm (tm1 (List.mem_of_getElem? (i := 7) rfl)) rfl
theorem wg_8 : Jvm.Cond.initialized "HairLine$Lines" ∈ gw := gm (tm1 (List.mem_of_getElem? (i := 8) rfl)) rfl
theorem wg_9 : Jvm.Cond.initialized "HairLine$Rack" ∈ gw := gm (tm1 (List.mem_of_getElem? (i := 9) rfl)) rfl
theorem wg_10 : Jvm.Cond.initialized "HairLineModel" ∈ gw := gm (tm1 (List.mem_of_getElem? (i := 10) rfl)) rfl
theorem wg_11 : Jvm.Cond.initialized "java/lang/Math" ∈ gw := gm (tm1 (List.mem_of_getElem? (i := 11) rfl)) rfl
theorem wg_12 : Jvm.Cond.initialized "java/lang/Integer" ∈ gw := gm (tm1 (List.mem_of_getElem? (i := 12) rfl)) rfl
theorem wg_13 : Jvm.Cond.classLink "HairLineLaw" (7 : Nat) "HairLine" ∈ gw := gm (tm1 (List.mem_of_getElem? (i := 13) rfl)) rfl
theorem wg_14 : Jvm.Cond.instantiable "HairLine" (6 : Nat) ∈ gw := gm (tm1 (List.mem_of_getElem? (i := 14) rfl)) rfl
theorem wg_15 : Jvm.Cond.methodLink "HairLineLaw" (9 : Nat) ({ cls := "HairLine", name := "<init>", desc := "()V" } : Jvm.MethodName) ∈ gw := gm (tm1 (List.mem_of_getElem? (i := 15) rfl)) rfl
theorem wg_16 : Jvm.Cond.instanceMethod ({ cls := "HairLine", name := "<init>", desc := "()V" } : Jvm.MethodName) ∈ gw := gm (tm1 (List.mem_of_getElem? (i := 16) rfl)) rfl
theorem wg_17 : Jvm.Cond.code ({ cls := "HairLine", name := "<init>", desc := "()V" } : Jvm.MethodName) prog_1_method_1_code (1 : Nat) (Option.none : Option Jvm.ClassFile.FieldType) ∈ gw := gm (tm1 (List.mem_of_getElem? (i := 17) rfl)) rfl
theorem wg_18 : Jvm.Cond.methodLink "HairLine" (1 : Nat) ({ cls := "java/lang/Object", name := "<init>", desc := "()V" } : Jvm.MethodName) ∈ gw := gm (tm1 (List.mem_of_getElem? (i := 18) rfl)) rfl
theorem wg_19 : Jvm.Cond.instanceMethod ({ cls := "java/lang/Object", name := "<init>", desc := "()V" } : Jvm.MethodName) ∈ gw := gm (tm1 (List.mem_of_getElem? (i := 19) rfl)) rfl
theorem wg_20 : Jvm.Cond.code ({ cls := "java/lang/Object", name := "<init>", desc := "()V" } : Jvm.MethodName) object_method_1_code (1 : Nat) (Option.none : Option Jvm.ClassFile.FieldType) ∈ gw := gm (tm1 (List.mem_of_getElem? (i := 20) rfl)) rfl
theorem wg_21 : Jvm.Cond.classLink "HairLine" (7 : Nat) "HairLine$Track" ∈ gw := gm (tm1 (List.mem_of_getElem? (i := 21) rfl)) rfl
theorem wg_22 : Jvm.Cond.instantiable "HairLine$Track" (3 : Nat) ∈ gw := gm (tm1 (List.mem_of_getElem? (i := 22) rfl)) rfl
theorem wg_23 : Jvm.Cond.methodLink "HairLine" (9 : Nat) ({ cls := "HairLine$Track", name := "<init>", desc := "()V" } : Jvm.MethodName) ∈ gw := gm (tm1 (List.mem_of_getElem? (i := 23) rfl)) rfl
theorem wg_24 : Jvm.Cond.instanceMethod ({ cls := "HairLine$Track", name := "<init>", desc := "()V" } : Jvm.MethodName) ∈ gw := gm (tm1 (List.mem_of_getElem? (i := 24) rfl)) rfl
theorem wg_25 : Jvm.Cond.code ({ cls := "HairLine$Track", name := "<init>", desc := "()V" } : Jvm.MethodName) prog_9_method_1_code (2 : Nat) (Option.none : Option Jvm.ClassFile.FieldType) ∈ gw := gm (tm1 (List.mem_of_getElem? (i := 25) rfl)) rfl
theorem wg_26 : Jvm.Cond.methodLink "HairLine$Track" (3 : Nat) ({ cls := "java/lang/Object", name := "<init>", desc := "()V" } : Jvm.MethodName) ∈ gw := gm (tm1 (List.mem_of_getElem? (i := 26) rfl)) rfl
theorem wg_27 : Jvm.Cond.classLink "HairLine$Track" (9 : Nat) "HairLine$Runner" ∈ gw := gm (tm1 (List.mem_of_getElem? (i := 27) rfl)) rfl
theorem wm_28 : Jvm.Cond.arrayOver (Jvm.ClassFile.FieldType.object "HairLine$Runner") ∈ lw_tbl := tm1 (List.mem_of_getElem? (i := 28) rfl)
theorem wg_29 : Jvm.Cond.instantiable "HairLine$Runner" (5 : Nat) ∈ gw := gm (tm1 (List.mem_of_getElem? (i := 29) rfl)) rfl
theorem wg_30 : Jvm.Cond.methodLink "HairLine$Track" (21 : Nat) ({ cls := "HairLine$Runner", name := "<init>", desc := "()V" } : Jvm.MethodName) ∈ gw := gm (tm1 (List.mem_of_getElem? (i := 30) rfl)) rfl
theorem wg_31 : Jvm.Cond.instanceMethod ({ cls := "HairLine$Runner", name := "<init>", desc := "()V" } : Jvm.MethodName) ∈ gw := gm (tm1 (List.mem_of_getElem? (i := 31) rfl)) rfl
theorem wg_32 : Jvm.Cond.code ({ cls := "HairLine$Runner", name := "<init>", desc := "()V" } : Jvm.MethodName) prog_6_method_1_code (2 : Nat) (Option.none : Option Jvm.ClassFile.FieldType) ∈ gw := gm (tm1 (List.mem_of_getElem? (i := 32) rfl)) rfl
theorem wg_33 : Jvm.Cond.methodLink "HairLine$Runner" (3 : Nat) ({ cls := "java/lang/Object", name := "<init>", desc := "()V" } : Jvm.MethodName) ∈ gw := gm (tm1 (List.mem_of_getElem? (i := 33) rfl)) rfl
theorem wg_34 : Jvm.Cond.fieldLink "HairLine$Runner" (9 : Nat) "HairLine$Runner" "from" "[I" ∈ gw := gm (tm1 (List.mem_of_getElem? (i := 34) rfl)) rfl
theorem wg_35 : Jvm.Cond.fieldLink "HairLine$Runner" (15 : Nat) "HairLine$Runner" "to" "[I" ∈ gw := gm (tm1 (List.mem_of_getElem? (i := 35) rfl)) rfl
theorem wg_36 : Jvm.Cond.fieldLink "HairLine$Runner" (25 : Nat) "HairLine$Runner" "begin" "I" ∈ gw := gm (tm1 (List.mem_of_getElem? (i := 36) rfl)) rfl
theorem wm_37 : Jvm.Cond.fieldLinkNest "HairLine$Track" (30 : Nat) "HairLine$Runner" "begin" "I" "HairLine" ∈ lw_tbl := tm1 (List.mem_of_getElem? (i := 37) rfl)
theorem wg_38 : Jvm.Cond.fieldLink "HairLine$Runner" (18 : Nat) "HairLine$Runner" "speed" "I" ∈ gw := gm (tm1 (List.mem_of_getElem? (i := 38) rfl)) rfl
theorem wm_39 : Jvm.Cond.fieldLinkNest "HairLine$Track" (33 : Nat) "HairLine$Runner" "speed" "I" "HairLine" ∈ lw_tbl := tm1 (List.mem_of_getElem? (i := 39) rfl)
theorem wg_40 : Jvm.Cond.fieldLink "HairLine$Runner" (22 : Nat) "HairLine$Runner" "pushed" "I" ∈ gw := gm (tm1 (List.mem_of_getElem? (i := 40) rfl)) rfl
theorem wm_41 : Jvm.Cond.fieldLinkNest "HairLine$Track" (83 : Nat) "HairLine$Runner" "pushed" "I" "HairLine" ∈ lw_tbl := tm1 (List.mem_of_getElem? (i := 41) rfl)
theorem wm_42 : Jvm.Cond.fieldLinkNest "HairLine" (148 : Nat) "HairLine$Runner" "pushed" "I" "HairLine" ∈ lw_tbl := tm1 (List.mem_of_getElem? (i := 42) rfl)
theorem wg_43 : Jvm.Cond.laysFinal "HairLine$Runner" "HairLine$Runner" "from" "[I" ∈ gw := gm (tm1 (List.mem_of_getElem? (i := 43) rfl)) rfl
theorem wg_45 : Jvm.Cond.laysFinal "HairLine$Runner" "HairLine$Runner" "to" "[I" ∈ gw := gm (tm1 (List.mem_of_getElem? (i := 45) rfl)) rfl
theorem wg_47 : Jvm.Cond.lays "HairLine$Runner" "HairLine$Runner" "begin" "I" ∈ gw := gm (tm1 (List.mem_of_getElem? (i := 47) rfl)) rfl
theorem wg_49 : Jvm.Cond.lays "HairLine$Runner" "HairLine$Runner" "speed" "I" ∈ gw := gm (tm1 (List.mem_of_getElem? (i := 49) rfl)) rfl
theorem wg_51 : Jvm.Cond.lays "HairLine$Runner" "HairLine$Runner" "pushed" "I" ∈ gw := gm (tm1 (List.mem_of_getElem? (i := 51) rfl)) rfl
theorem wg_54 : Jvm.Cond.arrayClass Jvm.ClassFile.FieldType.int ∈ gw := gm (tm1 (List.mem_of_getElem? (i := 54) rfl)) rfl
theorem wg_55 : Jvm.Cond.fieldLink "HairLine$Track" (11 : Nat) "HairLine$Track" "runners" "[LHairLine$Runner;" ∈ gw := gm (tm1 (List.mem_of_getElem? (i := 55) rfl)) rfl
theorem wm_56 : Jvm.Cond.fieldLinkNest "HairLine" (66 : Nat) "HairLine$Track" "runners" "[LHairLine$Runner;" "HairLine" ∈ lw_tbl := tm1 (List.mem_of_getElem? (i := 56) rfl)
theorem wg_57 : Jvm.Cond.fieldLink "HairLine$Track" (17 : Nat) "HairLine$Track" "settings" "[I" ∈ gw := gm (tm1 (List.mem_of_getElem? (i := 57) rfl)) rfl
theorem wm_58 : Jvm.Cond.fieldLinkNest "HairLine" (83 : Nat) "HairLine$Track" "settings" "[I" "HairLine" ∈ lw_tbl := tm1 (List.mem_of_getElem? (i := 58) rfl)
theorem wg_59 : Jvm.Cond.fieldLink "HairLine$Track" (22 : Nat) "HairLine$Track" "count" "I" ∈ gw := gm (tm1 (List.mem_of_getElem? (i := 59) rfl)) rfl
theorem wm_60 : Jvm.Cond.fieldLinkNest "HairLine$Rack" (25 : Nat) "HairLine$Track" "count" "I" "HairLine" ∈ lw_tbl := tm1 (List.mem_of_getElem? (i := 60) rfl)
theorem wm_61 : Jvm.Cond.fieldLinkNest "HairLine" (118 : Nat) "HairLine$Track" "count" "I" "HairLine" ∈ lw_tbl := tm1 (List.mem_of_getElem? (i := 61) rfl)
theorem wg_62 : Jvm.Cond.laysFinal "HairLine$Track" "HairLine$Track" "runners" "[LHairLine$Runner;" ∈ gw := gm (tm1 (List.mem_of_getElem? (i := 62) rfl)) rfl
theorem wg_64 : Jvm.Cond.laysFinal "HairLine$Track" "HairLine$Track" "settings" "[I" ∈ gw := gm (tm1 (List.mem_of_getElem? (i := 64) rfl)) rfl
theorem wg_66 : Jvm.Cond.lays "HairLine$Track" "HairLine$Track" "count" "I" ∈ gw := gm (tm1 (List.mem_of_getElem? (i := 66) rfl)) rfl
theorem wg_69 : Jvm.Cond.classLink "HairLine" (16 : Nat) "HairLine$Ranking" ∈ gw := gm (tm1 (List.mem_of_getElem? (i := 69) rfl)) rfl
theorem wg_70 : Jvm.Cond.instantiable "HairLine$Ranking" (3 : Nat) ∈ gw := gm (tm1 (List.mem_of_getElem? (i := 70) rfl)) rfl
theorem wm_71 : Jvm.Cond.methodLinkNest "HairLine" (18 : Nat) ({ cls := "HairLine$Ranking", name := "<init>", desc := "()V" } : Jvm.MethodName) "HairLine" ∈ lw_tbl := tm1 (List.mem_of_getElem? (i := 71) rfl)
theorem wg_72 : Jvm.Cond.instanceMethod ({ cls := "HairLine$Ranking", name := "<init>", desc := "()V" } : Jvm.MethodName) ∈ gw := gm (tm1 (List.mem_of_getElem? (i := 72) rfl)) rfl
theorem wg_73 : Jvm.Cond.code ({ cls := "HairLine$Ranking", name := "<init>", desc := "()V" } : Jvm.MethodName) prog_5_method_1_code (1 : Nat) (Option.none : Option Jvm.ClassFile.FieldType) ∈ gw := gm (tm1 (List.mem_of_getElem? (i := 73) rfl)) rfl
theorem wg_74 : Jvm.Cond.methodLink "HairLine$Ranking" (3 : Nat) ({ cls := "java/lang/Object", name := "<init>", desc := "()V" } : Jvm.MethodName) ∈ gw := gm (tm1 (List.mem_of_getElem? (i := 74) rfl)) rfl
theorem wg_75 : Jvm.Cond.fieldLink "HairLine$Ranking" (9 : Nat) "HairLine$Ranking" "lanes" "[I" ∈ gw := gm (tm1 (List.mem_of_getElem? (i := 75) rfl)) rfl
theorem wg_76 : Jvm.Cond.fieldLink "HairLine$Ranking" (15 : Nat) "HairLine$Ranking" "keys" "[I" ∈ gw := gm (tm1 (List.mem_of_getElem? (i := 76) rfl)) rfl
theorem wg_77 : Jvm.Cond.fieldLink "HairLine$Ranking" (18 : Nat) "HairLine$Ranking" "size" "I" ∈ gw := gm (tm1 (List.mem_of_getElem? (i := 77) rfl)) rfl
theorem wm_78 : Jvm.Cond.fieldLinkNest "HairLine" (130 : Nat) "HairLine$Ranking" "size" "I" "HairLine" ∈ lw_tbl := tm1 (List.mem_of_getElem? (i := 78) rfl)
theorem wg_79 : Jvm.Cond.laysFinal "HairLine$Ranking" "HairLine$Ranking" "lanes" "[I" ∈ gw := gm (tm1 (List.mem_of_getElem? (i := 79) rfl)) rfl
theorem wg_81 : Jvm.Cond.laysFinal "HairLine$Ranking" "HairLine$Ranking" "keys" "[I" ∈ gw := gm (tm1 (List.mem_of_getElem? (i := 81) rfl)) rfl
theorem wg_83 : Jvm.Cond.lays "HairLine$Ranking" "HairLine$Ranking" "size" "I" ∈ gw := gm (tm1 (List.mem_of_getElem? (i := 83) rfl)) rfl
theorem wg_86 : Jvm.Cond.classLink "HairLine" (23 : Nat) "HairLine$Panel" ∈ gw := gm (tm1 (List.mem_of_getElem? (i := 86) rfl)) rfl
theorem wg_87 : Jvm.Cond.instantiable "HairLine$Panel" (3 : Nat) ∈ gw := gm (tm1 (List.mem_of_getElem? (i := 87) rfl)) rfl
theorem wg_88 : Jvm.Cond.methodLink "HairLine" (25 : Nat) ({ cls := "HairLine$Panel", name := "<init>", desc := "()V" } : Jvm.MethodName) ∈ gw := gm (tm1 (List.mem_of_getElem? (i := 88) rfl)) rfl
theorem wg_89 : Jvm.Cond.instanceMethod ({ cls := "HairLine$Panel", name := "<init>", desc := "()V" } : Jvm.MethodName) ∈ gw := gm (tm1 (List.mem_of_getElem? (i := 89) rfl)) rfl
theorem wg_90 : Jvm.Cond.code ({ cls := "HairLine$Panel", name := "<init>", desc := "()V" } : Jvm.MethodName) prog_3_method_1_code (2 : Nat) (Option.none : Option Jvm.ClassFile.FieldType) ∈ gw := gm (tm1 (List.mem_of_getElem? (i := 90) rfl)) rfl
theorem wg_91 : Jvm.Cond.methodLink "HairLine$Panel" (3 : Nat) ({ cls := "java/lang/Object", name := "<init>", desc := "()V" } : Jvm.MethodName) ∈ gw := gm (tm1 (List.mem_of_getElem? (i := 91) rfl)) rfl
theorem wg_92 : Jvm.Cond.classLink "HairLine$Panel" (9 : Nat) "HairLine$Span" ∈ gw := gm (tm1 (List.mem_of_getElem? (i := 92) rfl)) rfl
theorem wm_93 : Jvm.Cond.arrayOver (Jvm.ClassFile.FieldType.object "HairLine$Span") ∈ lw_tbl := tm1 (List.mem_of_getElem? (i := 93) rfl)
theorem wg_94 : Jvm.Cond.instantiable "HairLine$Span" (2 : Nat) ∈ gw := gm (tm1 (List.mem_of_getElem? (i := 94) rfl)) rfl
theorem wm_95 : Jvm.Cond.methodLinkNest "HairLine$Panel" (21 : Nat) ({ cls := "HairLine$Span", name := "<init>", desc := "()V" } : Jvm.MethodName) "HairLine" ∈ lw_tbl := tm1 (List.mem_of_getElem? (i := 95) rfl)
theorem wg_96 : Jvm.Cond.instanceMethod ({ cls := "HairLine$Span", name := "<init>", desc := "()V" } : Jvm.MethodName) ∈ gw := gm (tm1 (List.mem_of_getElem? (i := 96) rfl)) rfl
theorem wg_97 : Jvm.Cond.code ({ cls := "HairLine$Span", name := "<init>", desc := "()V" } : Jvm.MethodName) prog_8_method_1_code (1 : Nat) (Option.none : Option Jvm.ClassFile.FieldType) ∈ gw := gm (tm1 (List.mem_of_getElem? (i := 97) rfl)) rfl
theorem wg_98 : Jvm.Cond.methodLink "HairLine$Span" (1 : Nat) ({ cls := "java/lang/Object", name := "<init>", desc := "()V" } : Jvm.MethodName) ∈ gw := gm (tm1 (List.mem_of_getElem? (i := 98) rfl)) rfl
theorem wg_99 : Jvm.Cond.fieldLink "HairLine$Span" (7 : Nat) "HairLine$Span" "least" "I" ∈ gw := gm (tm1 (List.mem_of_getElem? (i := 99) rfl)) rfl
theorem wm_100 : Jvm.Cond.fieldLinkNest "HairLine$Panel" (36 : Nat) "HairLine$Span" "least" "I" "HairLine" ∈ lw_tbl := tm1 (List.mem_of_getElem? (i := 100) rfl)
theorem wm_101 : Jvm.Cond.fieldLinkNest "HairLine" (200 : Nat) "HairLine$Span" "least" "I" "HairLine" ∈ lw_tbl := tm1 (List.mem_of_getElem? (i := 101) rfl)
theorem wg_102 : Jvm.Cond.fieldLink "HairLine$Span" (13 : Nat) "HairLine$Span" "greatest" "I" ∈ gw := gm (tm1 (List.mem_of_getElem? (i := 102) rfl)) rfl
theorem wm_103 : Jvm.Cond.fieldLinkNest "HairLine$Panel" (32 : Nat) "HairLine$Span" "greatest" "I" "HairLine" ∈ lw_tbl := tm1 (List.mem_of_getElem? (i := 103) rfl)
theorem wm_104 : Jvm.Cond.fieldLinkNest "HairLine" (197 : Nat) "HairLine$Span" "greatest" "I" "HairLine" ∈ lw_tbl := tm1 (List.mem_of_getElem? (i := 104) rfl)
theorem wg_105 : Jvm.Cond.lays "HairLine$Span" "HairLine$Span" "least" "I" ∈ gw := gm (tm1 (List.mem_of_getElem? (i := 105) rfl)) rfl
theorem wg_107 : Jvm.Cond.lays "HairLine$Span" "HairLine$Span" "greatest" "I" ∈ gw := gm (tm1 (List.mem_of_getElem? (i := 107) rfl)) rfl
theorem wg_110 : Jvm.Cond.methodLink "HairLine$Panel" (26 : Nat) ({ cls := "HairLine$Span", name := "put", desc := "(II)V" } : Jvm.MethodName) ∈ gw := gm (tm1 (List.mem_of_getElem? (i := 110) rfl)) rfl
theorem wg_111 : Jvm.Cond.instanceMethod ({ cls := "HairLine$Span", name := "put", desc := "(II)V" } : Jvm.MethodName) ∈ gw := gm (tm1 (List.mem_of_getElem? (i := 111) rfl)) rfl
theorem wg_112 : Jvm.Cond.selects "HairLine$Span" ({ cls := "HairLine$Span", name := "put", desc := "(II)V" } : Jvm.MethodName) ({ cls := "HairLine$Span", name := "put", desc := "(II)V" } : Jvm.MethodName) ∈ gw := gm (tm1 (List.mem_of_getElem? (i := 112) rfl)) rfl
theorem wg_113 : Jvm.Cond.code ({ cls := "HairLine$Span", name := "put", desc := "(II)V" } : Jvm.MethodName) prog_8_method_2_code (3 : Nat) (Option.none : Option Jvm.ClassFile.FieldType) ∈ gw := gm (tm1 (List.mem_of_getElem? (i := 113) rfl)) rfl
theorem wg_114 : Jvm.Cond.fieldLink "HairLine$Panel" (11 : Nat) "HairLine$Panel" "spans" "[LHairLine$Span;" ∈ gw := gm (tm1 (List.mem_of_getElem? (i := 114) rfl)) rfl
theorem wm_115 : Jvm.Cond.fieldLinkNest "HairLine" (173 : Nat) "HairLine$Panel" "spans" "[LHairLine$Span;" "HairLine" ∈ lw_tbl := tm1 (List.mem_of_getElem? (i := 115) rfl)
theorem wg_116 : Jvm.Cond.fieldLink "HairLine$Panel" (17 : Nat) "HairLine$Panel" "said" "[I" ∈ gw := gm (tm1 (List.mem_of_getElem? (i := 116) rfl)) rfl
theorem wm_117 : Jvm.Cond.fieldLinkNest "HairLine" (185 : Nat) "HairLine$Panel" "said" "[I" "HairLine" ∈ lw_tbl := tm1 (List.mem_of_getElem? (i := 117) rfl)
theorem wg_118 : Jvm.Cond.fieldLink "HairLine$Panel" (22 : Nat) "HairLine$Panel" "truth" "LHairLine$Span;" ∈ gw := gm (tm1 (List.mem_of_getElem? (i := 118) rfl)) rfl
theorem wm_119 : Jvm.Cond.fieldLinkNest "HairLine" (193 : Nat) "HairLine$Panel" "truth" "LHairLine$Span;" "HairLine" ∈ lw_tbl := tm1 (List.mem_of_getElem? (i := 119) rfl)
theorem wg_120 : Jvm.Cond.laysFinal "HairLine$Panel" "HairLine$Panel" "spans" "[LHairLine$Span;" ∈ gw := gm (tm1 (List.mem_of_getElem? (i := 120) rfl)) rfl
theorem wg_122 : Jvm.Cond.laysFinal "HairLine$Panel" "HairLine$Panel" "said" "[I" ∈ gw := gm (tm1 (List.mem_of_getElem? (i := 122) rfl)) rfl
theorem wg_124 : Jvm.Cond.laysFinal "HairLine$Panel" "HairLine$Panel" "truth" "LHairLine$Span;" ∈ gw := gm (tm1 (List.mem_of_getElem? (i := 124) rfl)) rfl
theorem wg_127 : Jvm.Cond.classLink "HairLine" (30 : Nat) "HairLine$Signs" ∈ gw := gm (tm1 (List.mem_of_getElem? (i := 127) rfl)) rfl
theorem wg_128 : Jvm.Cond.instantiable "HairLine$Signs" (2 : Nat) ∈ gw := gm (tm1 (List.mem_of_getElem? (i := 128) rfl)) rfl
theorem wm_129 : Jvm.Cond.methodLinkNest "HairLine" (32 : Nat) ({ cls := "HairLine$Signs", name := "<init>", desc := "()V" } : Jvm.MethodName) "HairLine" ∈ lw_tbl := tm1 (List.mem_of_getElem? (i := 129) rfl)
theorem wg_130 : Jvm.Cond.instanceMethod ({ cls := "HairLine$Signs", name := "<init>", desc := "()V" } : Jvm.MethodName) ∈ gw := gm (tm1 (List.mem_of_getElem? (i := 130) rfl)) rfl
theorem wg_131 : Jvm.Cond.code ({ cls := "HairLine$Signs", name := "<init>", desc := "()V" } : Jvm.MethodName) prog_7_method_1_code (1 : Nat) (Option.none : Option Jvm.ClassFile.FieldType) ∈ gw := gm (tm1 (List.mem_of_getElem? (i := 131) rfl)) rfl
theorem wg_132 : Jvm.Cond.methodLink "HairLine$Signs" (3 : Nat) ({ cls := "java/lang/Object", name := "<init>", desc := "()V" } : Jvm.MethodName) ∈ gw := gm (tm1 (List.mem_of_getElem? (i := 132) rfl)) rfl
theorem wg_133 : Jvm.Cond.fieldLink "HairLine$Signs" (9 : Nat) "HairLine$Signs" "codes" "[I" ∈ gw := gm (tm1 (List.mem_of_getElem? (i := 133) rfl)) rfl
theorem wm_134 : Jvm.Cond.fieldLinkNest "HairLine$Lines" (31 : Nat) "HairLine$Signs" "codes" "[I" "HairLine" ∈ lw_tbl := tm1 (List.mem_of_getElem? (i := 134) rfl)
theorem wg_135 : Jvm.Cond.fieldLink "HairLine$Signs" (15 : Nat) "HairLine$Signs" "count" "I" ∈ gw := gm (tm1 (List.mem_of_getElem? (i := 135) rfl)) rfl
theorem wm_136 : Jvm.Cond.fieldLinkNest "HairLine$Lines" (28 : Nat) "HairLine$Signs" "count" "I" "HairLine" ∈ lw_tbl := tm1 (List.mem_of_getElem? (i := 136) rfl)
theorem wm_137 : Jvm.Cond.fieldLinkNest "HairLine" (206 : Nat) "HairLine$Signs" "count" "I" "HairLine" ∈ lw_tbl := tm1 (List.mem_of_getElem? (i := 137) rfl)
theorem wg_138 : Jvm.Cond.laysFinal "HairLine$Signs" "HairLine$Signs" "codes" "[I" ∈ gw := gm (tm1 (List.mem_of_getElem? (i := 138) rfl)) rfl
theorem wg_140 : Jvm.Cond.lays "HairLine$Signs" "HairLine$Signs" "count" "I" ∈ gw := gm (tm1 (List.mem_of_getElem? (i := 140) rfl)) rfl
theorem wg_143 : Jvm.Cond.classLink "HairLine" (37 : Nat) "HairLine$Lines" ∈ gw := gm (tm1 (List.mem_of_getElem? (i := 143) rfl)) rfl
theorem wg_144 : Jvm.Cond.instantiable "HairLine$Lines" (5 : Nat) ∈ gw := gm (tm1 (List.mem_of_getElem? (i := 144) rfl)) rfl
theorem wm_145 : Jvm.Cond.methodLinkNest "HairLine" (39 : Nat) ({ cls := "HairLine$Lines", name := "<init>", desc := "()V" } : Jvm.MethodName) "HairLine" ∈ lw_tbl := tm1 (List.mem_of_getElem? (i := 145) rfl)
theorem wg_146 : Jvm.Cond.instanceMethod ({ cls := "HairLine$Lines", name := "<init>", desc := "()V" } : Jvm.MethodName) ∈ gw := gm (tm1 (List.mem_of_getElem? (i := 146) rfl)) rfl
theorem wg_147 : Jvm.Cond.code ({ cls := "HairLine$Lines", name := "<init>", desc := "()V" } : Jvm.MethodName) prog_2_method_1_code (1 : Nat) (Option.none : Option Jvm.ClassFile.FieldType) ∈ gw := gm (tm1 (List.mem_of_getElem? (i := 147) rfl)) rfl
theorem wg_148 : Jvm.Cond.methodLink "HairLine$Lines" (3 : Nat) ({ cls := "java/lang/Object", name := "<init>", desc := "()V" } : Jvm.MethodName) ∈ gw := gm (tm1 (List.mem_of_getElem? (i := 148) rfl)) rfl
theorem wg_149 : Jvm.Cond.fieldLink "HairLine$Lines" (9 : Nat) "HairLine$Lines" "fact" "[I" ∈ gw := gm (tm1 (List.mem_of_getElem? (i := 149) rfl)) rfl
theorem wm_150 : Jvm.Cond.fieldLinkNest "HairLine" (218 : Nat) "HairLine$Lines" "fact" "[I" "HairLine" ∈ lw_tbl := tm1 (List.mem_of_getElem? (i := 150) rfl)
theorem wg_151 : Jvm.Cond.fieldLink "HairLine$Lines" (15 : Nat) "HairLine$Lines" "relation" "[I" ∈ gw := gm (tm1 (List.mem_of_getElem? (i := 151) rfl)) rfl
theorem wg_152 : Jvm.Cond.fieldLink "HairLine$Lines" (18 : Nat) "HairLine$Lines" "factor" "[I" ∈ gw := gm (tm1 (List.mem_of_getElem? (i := 152) rfl)) rfl
theorem wg_153 : Jvm.Cond.fieldLink "HairLine$Lines" (21 : Nat) "HairLine$Lines" "bound" "[I" ∈ gw := gm (tm1 (List.mem_of_getElem? (i := 153) rfl)) rfl
theorem wg_154 : Jvm.Cond.fieldLink "HairLine$Lines" (24 : Nat) "HairLine$Lines" "count" "I" ∈ gw := gm (tm1 (List.mem_of_getElem? (i := 154) rfl)) rfl
theorem wm_155 : Jvm.Cond.fieldLinkNest "HairLine" (214 : Nat) "HairLine$Lines" "count" "I" "HairLine" ∈ lw_tbl := tm1 (List.mem_of_getElem? (i := 155) rfl)
theorem wg_156 : Jvm.Cond.laysFinal "HairLine$Lines" "HairLine$Lines" "fact" "[I" ∈ gw := gm (tm1 (List.mem_of_getElem? (i := 156) rfl)) rfl
theorem wg_158 : Jvm.Cond.laysFinal "HairLine$Lines" "HairLine$Lines" "relation" "[I" ∈ gw := gm (tm1 (List.mem_of_getElem? (i := 158) rfl)) rfl
theorem wg_160 : Jvm.Cond.laysFinal "HairLine$Lines" "HairLine$Lines" "factor" "[I" ∈ gw := gm (tm1 (List.mem_of_getElem? (i := 160) rfl)) rfl
theorem wg_162 : Jvm.Cond.laysFinal "HairLine$Lines" "HairLine$Lines" "bound" "[I" ∈ gw := gm (tm1 (List.mem_of_getElem? (i := 162) rfl)) rfl
theorem wg_164 : Jvm.Cond.lays "HairLine$Lines" "HairLine$Lines" "count" "I" ∈ gw := gm (tm1 (List.mem_of_getElem? (i := 164) rfl)) rfl
theorem wg_167 : Jvm.Cond.classLink "HairLine" (44 : Nat) "HairLine$Rack" ∈ gw := gm (tm1 (List.mem_of_getElem? (i := 167) rfl)) rfl
theorem wg_168 : Jvm.Cond.instantiable "HairLine$Rack" (4 : Nat) ∈ gw := gm (tm1 (List.mem_of_getElem? (i := 168) rfl)) rfl
theorem wm_169 : Jvm.Cond.methodLinkNest "HairLine" (46 : Nat) ({ cls := "HairLine$Rack", name := "<init>", desc := "()V" } : Jvm.MethodName) "HairLine" ∈ lw_tbl := tm1 (List.mem_of_getElem? (i := 169) rfl)
theorem wg_170 : Jvm.Cond.instanceMethod ({ cls := "HairLine$Rack", name := "<init>", desc := "()V" } : Jvm.MethodName) ∈ gw := gm (tm1 (List.mem_of_getElem? (i := 170) rfl)) rfl
theorem wg_171 : Jvm.Cond.code ({ cls := "HairLine$Rack", name := "<init>", desc := "()V" } : Jvm.MethodName) prog_4_method_1_code (1 : Nat) (Option.none : Option Jvm.ClassFile.FieldType) ∈ gw := gm (tm1 (List.mem_of_getElem? (i := 171) rfl)) rfl
theorem wg_172 : Jvm.Cond.methodLink "HairLine$Rack" (3 : Nat) ({ cls := "java/lang/Object", name := "<init>", desc := "()V" } : Jvm.MethodName) ∈ gw := gm (tm1 (List.mem_of_getElem? (i := 172) rfl)) rfl
theorem wg_173 : Jvm.Cond.fieldLink "HairLine$Rack" (9 : Nat) "HairLine$Rack" "sides" "[I" ∈ gw := gm (tm1 (List.mem_of_getElem? (i := 173) rfl)) rfl
theorem wg_174 : Jvm.Cond.fieldLink "HairLine$Rack" (15 : Nat) "HairLine$Rack" "rows" "[I" ∈ gw := gm (tm1 (List.mem_of_getElem? (i := 174) rfl)) rfl
theorem wg_175 : Jvm.Cond.fieldLink "HairLine$Rack" (18 : Nat) "HairLine$Rack" "lanesSeen" "[I" ∈ gw := gm (tm1 (List.mem_of_getElem? (i := 175) rfl)) rfl
theorem wg_176 : Jvm.Cond.fieldLink "HairLine$Rack" (21 : Nat) "HairLine$Rack" "count" "I" ∈ gw := gm (tm1 (List.mem_of_getElem? (i := 176) rfl)) rfl
theorem wm_177 : Jvm.Cond.fieldLinkNest "HairLine" (230 : Nat) "HairLine$Rack" "count" "I" "HairLine" ∈ lw_tbl := tm1 (List.mem_of_getElem? (i := 177) rfl)
theorem wg_178 : Jvm.Cond.laysFinal "HairLine$Rack" "HairLine$Rack" "sides" "[I" ∈ gw := gm (tm1 (List.mem_of_getElem? (i := 178) rfl)) rfl
theorem wg_180 : Jvm.Cond.laysFinal "HairLine$Rack" "HairLine$Rack" "rows" "[I" ∈ gw := gm (tm1 (List.mem_of_getElem? (i := 180) rfl)) rfl
theorem wg_182 : Jvm.Cond.laysFinal "HairLine$Rack" "HairLine$Rack" "lanesSeen" "[I" ∈ gw := gm (tm1 (List.mem_of_getElem? (i := 182) rfl)) rfl
theorem wg_184 : Jvm.Cond.lays "HairLine$Rack" "HairLine$Rack" "count" "I" ∈ gw := gm (tm1 (List.mem_of_getElem? (i := 184) rfl)) rfl
theorem wg_187 : Jvm.Cond.fieldLink "HairLine" (10 : Nat) "HairLine" "track" "LHairLine$Track;" ∈ gw := gm (tm1 (List.mem_of_getElem? (i := 187) rfl)) rfl
theorem wg_188 : Jvm.Cond.fieldLink "HairLine" (19 : Nat) "HairLine" "ranking" "LHairLine$Ranking;" ∈ gw := gm (tm1 (List.mem_of_getElem? (i := 188) rfl)) rfl
theorem wg_189 : Jvm.Cond.fieldLink "HairLine" (26 : Nat) "HairLine" "panel" "LHairLine$Panel;" ∈ gw := gm (tm1 (List.mem_of_getElem? (i := 189) rfl)) rfl
theorem wg_190 : Jvm.Cond.fieldLink "HairLine" (33 : Nat) "HairLine" "signs" "LHairLine$Signs;" ∈ gw := gm (tm1 (List.mem_of_getElem? (i := 190) rfl)) rfl
theorem wg_191 : Jvm.Cond.fieldLink "HairLine" (40 : Nat) "HairLine" "lines" "LHairLine$Lines;" ∈ gw := gm (tm1 (List.mem_of_getElem? (i := 191) rfl)) rfl
theorem wg_192 : Jvm.Cond.fieldLink "HairLine" (47 : Nat) "HairLine" "rack" "LHairLine$Rack;" ∈ gw := gm (tm1 (List.mem_of_getElem? (i := 192) rfl)) rfl
theorem wg_193 : Jvm.Cond.laysFinal "HairLine" "HairLine" "track" "LHairLine$Track;" ∈ gw := gm (tm1 (List.mem_of_getElem? (i := 193) rfl)) rfl
theorem wg_195 : Jvm.Cond.laysFinal "HairLine" "HairLine" "ranking" "LHairLine$Ranking;" ∈ gw := gm (tm1 (List.mem_of_getElem? (i := 195) rfl)) rfl
theorem wg_197 : Jvm.Cond.laysFinal "HairLine" "HairLine" "panel" "LHairLine$Panel;" ∈ gw := gm (tm1 (List.mem_of_getElem? (i := 197) rfl)) rfl
theorem wg_199 : Jvm.Cond.laysFinal "HairLine" "HairLine" "signs" "LHairLine$Signs;" ∈ gw := gm (tm1 (List.mem_of_getElem? (i := 199) rfl)) rfl
theorem wg_201 : Jvm.Cond.laysFinal "HairLine" "HairLine" "lines" "LHairLine$Lines;" ∈ gw := gm (tm1 (List.mem_of_getElem? (i := 201) rfl)) rfl
theorem wg_203 : Jvm.Cond.laysFinal "HairLine" "HairLine" "rack" "LHairLine$Rack;" ∈ gw := gm (tm1 (List.mem_of_getElem? (i := 203) rfl)) rfl
theorem wg_206 : Jvm.Cond.methodLink "HairLineLaw" (13 : Nat) ({ cls := "HairLine", name := "runner", desc := "(II)I" } : Jvm.MethodName) ∈ gw := gm (tm1 (List.mem_of_getElem? (i := 206) rfl)) rfl
theorem wg_207 : Jvm.Cond.instanceMethod ({ cls := "HairLine", name := "runner", desc := "(II)I" } : Jvm.MethodName) ∈ gw := gm (tm1 (List.mem_of_getElem? (i := 207) rfl)) rfl
theorem wg_208 : Jvm.Cond.selects "HairLine" ({ cls := "HairLine", name := "runner", desc := "(II)I" } : Jvm.MethodName) ({ cls := "HairLine", name := "runner", desc := "(II)I" } : Jvm.MethodName) ∈ gw := gm (tm1 (List.mem_of_getElem? (i := 208) rfl)) rfl
theorem wg_209 : Jvm.Cond.code ({ cls := "HairLine", name := "runner", desc := "(II)I" } : Jvm.MethodName) prog_1_method_2_code (3 : Nat) (Option.some Jvm.ClassFile.FieldType.int) ∈ gw := gm (tm1 (List.mem_of_getElem? (i := 209) rfl)) rfl
theorem wg_210 : Jvm.Cond.methodLink "HairLine" (51 : Nat) ({ cls := "HairLine", name := "within", desc := "(III)Z" } : Jvm.MethodName) ∈ gw := gm (tm1 (List.mem_of_getElem? (i := 210) rfl)) rfl
theorem wg_211 : Jvm.Cond.static ({ cls := "HairLine", name := "within", desc := "(III)Z" } : Jvm.MethodName) ∈ gw := gm (tm1 (List.mem_of_getElem? (i := 211) rfl)) rfl
theorem wg_212 : Jvm.Cond.code ({ cls := "HairLine", name := "within", desc := "(III)Z" } : Jvm.MethodName) prog_1_method_29_code (3 : Nat) (Option.some Jvm.ClassFile.FieldType.boolean) ∈ gw := gm (tm1 (List.mem_of_getElem? (i := 212) rfl)) rfl
theorem wg_213 : Jvm.Cond.methodLink "HairLine" (55 : Nat) ({ cls := "HairLine$Track", name := "enter", desc := "(II)I" } : Jvm.MethodName) ∈ gw := gm (tm1 (List.mem_of_getElem? (i := 213) rfl)) rfl
theorem wg_214 : Jvm.Cond.instanceMethod ({ cls := "HairLine$Track", name := "enter", desc := "(II)I" } : Jvm.MethodName) ∈ gw := gm (tm1 (List.mem_of_getElem? (i := 214) rfl)) rfl
theorem wg_215 : Jvm.Cond.selects "HairLine$Track" ({ cls := "HairLine$Track", name := "enter", desc := "(II)I" } : Jvm.MethodName) ({ cls := "HairLine$Track", name := "enter", desc := "(II)I" } : Jvm.MethodName) ∈ gw := gm (tm1 (List.mem_of_getElem? (i := 215) rfl)) rfl
theorem wg_216 : Jvm.Cond.code ({ cls := "HairLine$Track", name := "enter", desc := "(II)I" } : Jvm.MethodName) prog_9_method_3_code (3 : Nat) (Option.some Jvm.ClassFile.FieldType.int) ∈ gw := gm (tm1 (List.mem_of_getElem? (i := 216) rfl)) rfl
theorem wg_217 : Jvm.Cond.methodLink "HairLineLaw" (18 : Nat) ({ cls := "HairLine", name := "shape", desc := "(IIIII)I" } : Jvm.MethodName) ∈ gw := gm (tm1 (List.mem_of_getElem? (i := 217) rfl)) rfl
theorem wg_218 : Jvm.Cond.instanceMethod ({ cls := "HairLine", name := "shape", desc := "(IIIII)I" } : Jvm.MethodName) ∈ gw := gm (tm1 (List.mem_of_getElem? (i := 218) rfl)) rfl
theorem wg_219 : Jvm.Cond.selects "HairLine" ({ cls := "HairLine", name := "shape", desc := "(IIIII)I" } : Jvm.MethodName) ({ cls := "HairLine", name := "shape", desc := "(IIIII)I" } : Jvm.MethodName) ∈ gw := gm (tm1 (List.mem_of_getElem? (i := 219) rfl)) rfl
theorem wg_220 : Jvm.Cond.code ({ cls := "HairLine", name := "shape", desc := "(IIIII)I" } : Jvm.MethodName) prog_1_method_3_code (6 : Nat) (Option.some Jvm.ClassFile.FieldType.int) ∈ gw := gm (tm1 (List.mem_of_getElem? (i := 220) rfl)) rfl
theorem wg_221 : Jvm.Cond.methodLink "HairLine" (59 : Nat) ({ cls := "HairLine$Track", name := "has", desc := "(I)Z" } : Jvm.MethodName) ∈ gw := gm (tm1 (List.mem_of_getElem? (i := 221) rfl)) rfl
theorem wg_222 : Jvm.Cond.instanceMethod ({ cls := "HairLine$Track", name := "has", desc := "(I)Z" } : Jvm.MethodName) ∈ gw := gm (tm1 (List.mem_of_getElem? (i := 222) rfl)) rfl
theorem wg_223 : Jvm.Cond.selects "HairLine$Track" ({ cls := "HairLine$Track", name := "has", desc := "(I)Z" } : Jvm.MethodName) ({ cls := "HairLine$Track", name := "has", desc := "(I)Z" } : Jvm.MethodName) ∈ gw := gm (tm1 (List.mem_of_getElem? (i := 223) rfl)) rfl
theorem wg_224 : Jvm.Cond.code ({ cls := "HairLine$Track", name := "has", desc := "(I)Z" } : Jvm.MethodName) prog_9_method_2_code (2 : Nat) (Option.some Jvm.ClassFile.FieldType.boolean) ∈ gw := gm (tm1 (List.mem_of_getElem? (i := 224) rfl)) rfl
theorem wm_225 : Jvm.Cond.methodLinkNest "HairLine$Track" (26 : Nat) ({ cls := "HairLine", name := "within", desc := "(III)Z" } : Jvm.MethodName) "HairLine" ∈ lw_tbl := tm1 (List.mem_of_getElem? (i := 225) rfl)
theorem wg_226 : Jvm.Cond.methodLink "HairLine" (63 : Nat) ({ cls := "HairLine", name := "isRow", desc := "(I)Z" } : Jvm.MethodName) ∈ gw := gm (tm1 (List.mem_of_getElem? (i := 226) rfl)) rfl
theorem wg_227 : Jvm.Cond.static ({ cls := "HairLine", name := "isRow", desc := "(I)Z" } : Jvm.MethodName) ∈ gw := gm (tm1 (List.mem_of_getElem? (i := 227) rfl)) rfl
theorem wg_228 : Jvm.Cond.code ({ cls := "HairLine", name := "isRow", desc := "(I)Z" } : Jvm.MethodName) prog_1_method_31_code (1 : Nat) (Option.some Jvm.ClassFile.FieldType.boolean) ∈ gw := gm (tm1 (List.mem_of_getElem? (i := 228) rfl)) rfl
theorem wg_229 : Jvm.Cond.methodLink "HairLine" (70 : Nat) ({ cls := "HairLine$Runner", name := "grow", desc := "(IIII)V" } : Jvm.MethodName) ∈ gw := gm (tm1 (List.mem_of_getElem? (i := 229) rfl)) rfl
theorem wg_230 : Jvm.Cond.instanceMethod ({ cls := "HairLine$Runner", name := "grow", desc := "(IIII)V" } : Jvm.MethodName) ∈ gw := gm (tm1 (List.mem_of_getElem? (i := 230) rfl)) rfl
theorem wg_231 : Jvm.Cond.selects "HairLine$Runner" ({ cls := "HairLine$Runner", name := "grow", desc := "(IIII)V" } : Jvm.MethodName) ({ cls := "HairLine$Runner", name := "grow", desc := "(IIII)V" } : Jvm.MethodName) ∈ gw := gm (tm1 (List.mem_of_getElem? (i := 231) rfl)) rfl
theorem wg_232 : Jvm.Cond.code ({ cls := "HairLine$Runner", name := "grow", desc := "(IIII)V" } : Jvm.MethodName) prog_6_method_2_code (6 : Nat) (Option.none : Option Jvm.ClassFile.FieldType) ∈ gw := gm (tm1 (List.mem_of_getElem? (i := 232) rfl)) rfl
theorem wg_233 : Jvm.Cond.methodLink "HairLineLaw" (23 : Nat) ({ cls := "HairLine", name := "set", desc := "(II)I" } : Jvm.MethodName) ∈ gw := gm (tm1 (List.mem_of_getElem? (i := 233) rfl)) rfl
theorem wg_234 : Jvm.Cond.instanceMethod ({ cls := "HairLine", name := "set", desc := "(II)I" } : Jvm.MethodName) ∈ gw := gm (tm1 (List.mem_of_getElem? (i := 234) rfl)) rfl
theorem wg_235 : Jvm.Cond.selects "HairLine" ({ cls := "HairLine", name := "set", desc := "(II)I" } : Jvm.MethodName) ({ cls := "HairLine", name := "set", desc := "(II)I" } : Jvm.MethodName) ∈ gw := gm (tm1 (List.mem_of_getElem? (i := 235) rfl)) rfl
theorem wg_236 : Jvm.Cond.code ({ cls := "HairLine", name := "set", desc := "(II)I" } : Jvm.MethodName) prog_1_method_4_code (4 : Nat) (Option.some Jvm.ClassFile.FieldType.int) ∈ gw := gm (tm1 (List.mem_of_getElem? (i := 236) rfl)) rfl
theorem wg_237 : Jvm.Cond.fieldLink "HairLine" (76 : Nat) "HairLine" "SETTING_LEAST" "[I" ∈ gw := gm (tm1 (List.mem_of_getElem? (i := 237) rfl)) rfl
theorem wm_238 : Jvm.Cond.laysStatic "HairLine" "SETTING_LEAST" "[I" ∈ lw_tbl := tm1 (List.mem_of_getElem? (i := 238) rfl)
theorem wg_239 : Jvm.Cond.fieldLink "HairLine" (80 : Nat) "HairLine" "SETTING_MOST" "[I" ∈ gw := gm (tm1 (List.mem_of_getElem? (i := 239) rfl)) rfl
theorem wm_240 : Jvm.Cond.laysStatic "HairLine" "SETTING_MOST" "[I" ∈ lw_tbl := tm2 (List.mem_of_getElem? (i := 0) rfl)
theorem wg_241 : Jvm.Cond.methodLink "HairLineLaw" (27 : Nat) ({ cls := "HairLine", name := "shows", desc := "(III)I" } : Jvm.MethodName) ∈ gw := gm (tm2 (List.mem_of_getElem? (i := 1) rfl)) rfl
theorem wg_242 : Jvm.Cond.instanceMethod ({ cls := "HairLine", name := "shows", desc := "(III)I" } : Jvm.MethodName) ∈ gw := gm (tm2 (List.mem_of_getElem? (i := 2) rfl)) rfl
theorem wg_243 : Jvm.Cond.selects "HairLine" ({ cls := "HairLine", name := "shows", desc := "(III)I" } : Jvm.MethodName) ({ cls := "HairLine", name := "shows", desc := "(III)I" } : Jvm.MethodName) ∈ gw := gm (tm2 (List.mem_of_getElem? (i := 3) rfl)) rfl
theorem wg_244 : Jvm.Cond.code ({ cls := "HairLine", name := "shows", desc := "(III)I" } : Jvm.MethodName) prog_1_method_5_code (4 : Nat) (Option.some Jvm.ClassFile.FieldType.int) ∈ gw := gm (tm2 (List.mem_of_getElem? (i := 4) rfl)) rfl
theorem wg_245 : Jvm.Cond.methodLink "HairLine" (86 : Nat) ({ cls := "HairLine", name := "isEither", desc := "(I)Z" } : Jvm.MethodName) ∈ gw := gm (tm2 (List.mem_of_getElem? (i := 5) rfl)) rfl
theorem wg_246 : Jvm.Cond.static ({ cls := "HairLine", name := "isEither", desc := "(I)Z" } : Jvm.MethodName) ∈ gw := gm (tm2 (List.mem_of_getElem? (i := 6) rfl)) rfl
theorem wg_247 : Jvm.Cond.code ({ cls := "HairLine", name := "isEither", desc := "(I)Z" } : Jvm.MethodName) prog_1_method_30_code (1 : Nat) (Option.some Jvm.ClassFile.FieldType.boolean) ∈ gw := gm (tm2 (List.mem_of_getElem? (i := 7) rfl)) rfl
theorem wg_248 : Jvm.Cond.methodLink "HairLine" (89 : Nat) ({ cls := "HairLine$Track", name := "film", desc := "(III)I" } : Jvm.MethodName) ∈ gw := gm (tm2 (List.mem_of_getElem? (i := 8) rfl)) rfl
theorem wg_249 : Jvm.Cond.instanceMethod ({ cls := "HairLine$Track", name := "film", desc := "(III)I" } : Jvm.MethodName) ∈ gw := gm (tm2 (List.mem_of_getElem? (i := 9) rfl)) rfl
theorem wg_250 : Jvm.Cond.selects "HairLine$Track" ({ cls := "HairLine$Track", name := "film", desc := "(III)I" } : Jvm.MethodName) ({ cls := "HairLine$Track", name := "film", desc := "(III)I" } : Jvm.MethodName) ∈ gw := gm (tm2 (List.mem_of_getElem? (i := 10) rfl)) rfl
theorem wg_251 : Jvm.Cond.code ({ cls := "HairLine$Track", name := "film", desc := "(III)I" } : Jvm.MethodName) prog_9_method_5_code (7 : Nat) (Option.some Jvm.ClassFile.FieldType.int) ∈ gw := gm (tm2 (List.mem_of_getElem? (i := 11) rfl)) rfl
theorem wg_252 : Jvm.Cond.methodLink "HairLine$Track" (36 : Nat) ({ cls := "HairLine$Track", name := "slitPlace", desc := "(I)I" } : Jvm.MethodName) ∈ gw := gm (tm2 (List.mem_of_getElem? (i := 12) rfl)) rfl
theorem wg_253 : Jvm.Cond.instanceMethod ({ cls := "HairLine$Track", name := "slitPlace", desc := "(I)I" } : Jvm.MethodName) ∈ gw := gm (tm2 (List.mem_of_getElem? (i := 13) rfl)) rfl
theorem wg_254 : Jvm.Cond.selects "HairLine$Track" ({ cls := "HairLine$Track", name := "slitPlace", desc := "(I)I" } : Jvm.MethodName) ({ cls := "HairLine$Track", name := "slitPlace", desc := "(I)I" } : Jvm.MethodName) ∈ gw := gm (tm2 (List.mem_of_getElem? (i := 14) rfl)) rfl
theorem wg_255 : Jvm.Cond.code ({ cls := "HairLine$Track", name := "slitPlace", desc := "(I)I" } : Jvm.MethodName) prog_9_method_4_code (2 : Nat) (Option.some Jvm.ClassFile.FieldType.int) ∈ gw := gm (tm2 (List.mem_of_getElem? (i := 15) rfl)) rfl
theorem wg_256 : Jvm.Cond.methodLink "HairLine$Track" (40 : Nat) ({ cls := "HairLine$Runner", name := "covers", desc := "(IIII)Z" } : Jvm.MethodName) ∈ gw := gm (tm2 (List.mem_of_getElem? (i := 16) rfl)) rfl
theorem wg_257 : Jvm.Cond.instanceMethod ({ cls := "HairLine$Runner", name := "covers", desc := "(IIII)Z" } : Jvm.MethodName) ∈ gw := gm (tm2 (List.mem_of_getElem? (i := 17) rfl)) rfl
theorem wg_258 : Jvm.Cond.selects "HairLine$Runner" ({ cls := "HairLine$Runner", name := "covers", desc := "(IIII)Z" } : Jvm.MethodName) ({ cls := "HairLine$Runner", name := "covers", desc := "(IIII)Z" } : Jvm.MethodName) ∈ gw := gm (tm2 (List.mem_of_getElem? (i := 18) rfl)) rfl
theorem wg_259 : Jvm.Cond.code ({ cls := "HairLine$Runner", name := "covers", desc := "(IIII)Z" } : Jvm.MethodName) prog_6_method_3_code (7 : Nat) (Option.some Jvm.ClassFile.FieldType.boolean) ∈ gw := gm (tm2 (List.mem_of_getElem? (i := 19) rfl)) rfl
theorem wm_260 : Jvm.Cond.methodLinkNest "HairLine$Track" (44 : Nat) ({ cls := "HairLine", name := "torsoMark", desc := "(I)I" } : Jvm.MethodName) "HairLine" ∈ lw_tbl := tm2 (List.mem_of_getElem? (i := 20) rfl)
theorem wg_261 : Jvm.Cond.static ({ cls := "HairLine", name := "torsoMark", desc := "(I)I" } : Jvm.MethodName) ∈ gw := gm (tm2 (List.mem_of_getElem? (i := 21) rfl)) rfl
theorem wg_262 : Jvm.Cond.code ({ cls := "HairLine", name := "torsoMark", desc := "(I)I" } : Jvm.MethodName) prog_1_method_35_code (1 : Nat) (Option.some Jvm.ClassFile.FieldType.int) ∈ gw := gm (tm2 (List.mem_of_getElem? (i := 22) rfl)) rfl
theorem wg_263 : Jvm.Cond.methodLink "HairLineLaw" (32 : Nat) ({ cls := "HairLine", name := "of", desc := "(II)I" } : Jvm.MethodName) ∈ gw := gm (tm2 (List.mem_of_getElem? (i := 23) rfl)) rfl
theorem wg_264 : Jvm.Cond.instanceMethod ({ cls := "HairLine", name := "of", desc := "(II)I" } : Jvm.MethodName) ∈ gw := gm (tm2 (List.mem_of_getElem? (i := 24) rfl)) rfl
theorem wg_265 : Jvm.Cond.selects "HairLine" ({ cls := "HairLine", name := "of", desc := "(II)I" } : Jvm.MethodName) ({ cls := "HairLine", name := "of", desc := "(II)I" } : Jvm.MethodName) ∈ gw := gm (tm2 (List.mem_of_getElem? (i := 25) rfl)) rfl
theorem wg_266 : Jvm.Cond.code ({ cls := "HairLine", name := "of", desc := "(II)I" } : Jvm.MethodName) prog_1_method_6_code (3 : Nat) (Option.some Jvm.ClassFile.FieldType.int) ∈ gw := gm (tm2 (List.mem_of_getElem? (i := 26) rfl)) rfl
theorem wg_267 : Jvm.Cond.methodLink "HairLine" (93 : Nat) ({ cls := "HairLine$Track", name := "hair", desc := "(II)I" } : Jvm.MethodName) ∈ gw := gm (tm2 (List.mem_of_getElem? (i := 27) rfl)) rfl
theorem wg_268 : Jvm.Cond.instanceMethod ({ cls := "HairLine$Track", name := "hair", desc := "(II)I" } : Jvm.MethodName) ∈ gw := gm (tm2 (List.mem_of_getElem? (i := 28) rfl)) rfl
theorem wg_269 : Jvm.Cond.selects "HairLine$Track" ({ cls := "HairLine$Track", name := "hair", desc := "(II)I" } : Jvm.MethodName) ({ cls := "HairLine$Track", name := "hair", desc := "(II)I" } : Jvm.MethodName) ∈ gw := gm (tm2 (List.mem_of_getElem? (i := 29) rfl)) rfl
theorem wg_270 : Jvm.Cond.code ({ cls := "HairLine$Track", name := "hair", desc := "(II)I" } : Jvm.MethodName) prog_9_method_6_code (5 : Nat) (Option.some Jvm.ClassFile.FieldType.int) ∈ gw := gm (tm2 (List.mem_of_getElem? (i := 30) rfl)) rfl
theorem wg_271 : Jvm.Cond.constant "HairLine$Track" (47 : Nat) (10000000 : Int32) ∈ gw := gm (tm2 (List.mem_of_getElem? (i := 31) rfl)) rfl
theorem wg_272 : Jvm.Cond.methodLink "HairLine$Track" (48 : Nat) ({ cls := "HairLine$Track", name := "firstShown", desc := "(III)I" } : Jvm.MethodName) ∈ gw := gm (tm2 (List.mem_of_getElem? (i := 32) rfl)) rfl
theorem wg_273 : Jvm.Cond.instanceMethod ({ cls := "HairLine$Track", name := "firstShown", desc := "(III)I" } : Jvm.MethodName) ∈ gw := gm (tm2 (List.mem_of_getElem? (i := 33) rfl)) rfl
theorem wg_274 : Jvm.Cond.selects "HairLine$Track" ({ cls := "HairLine$Track", name := "firstShown", desc := "(III)I" } : Jvm.MethodName) ({ cls := "HairLine$Track", name := "firstShown", desc := "(III)I" } : Jvm.MethodName) ∈ gw := gm (tm2 (List.mem_of_getElem? (i := 34) rfl)) rfl
theorem wg_275 : Jvm.Cond.code ({ cls := "HairLine$Track", name := "firstShown", desc := "(III)I" } : Jvm.MethodName) prog_9_method_7_code (7 : Nat) (Option.some Jvm.ClassFile.FieldType.int) ∈ gw := gm (tm2 (List.mem_of_getElem? (i := 35) rfl)) rfl
theorem wg_276 : Jvm.Cond.methodLink "HairLine$Track" (58 : Nat) ({ cls := "HairLine$Runner", name := "lastOver", desc := "(III)I" } : Jvm.MethodName) ∈ gw := gm (tm2 (List.mem_of_getElem? (i := 36) rfl)) rfl
theorem wg_277 : Jvm.Cond.instanceMethod ({ cls := "HairLine$Runner", name := "lastOver", desc := "(III)I" } : Jvm.MethodName) ∈ gw := gm (tm2 (List.mem_of_getElem? (i := 37) rfl)) rfl
theorem wg_278 : Jvm.Cond.selects "HairLine$Runner" ({ cls := "HairLine$Runner", name := "lastOver", desc := "(III)I" } : Jvm.MethodName) ({ cls := "HairLine$Runner", name := "lastOver", desc := "(III)I" } : Jvm.MethodName) ∈ gw := gm (tm2 (List.mem_of_getElem? (i := 38) rfl)) rfl
theorem wg_279 : Jvm.Cond.code ({ cls := "HairLine$Runner", name := "lastOver", desc := "(III)I" } : Jvm.MethodName) prog_6_method_6_code (4 : Nat) (Option.some Jvm.ClassFile.FieldType.int) ∈ gw := gm (tm2 (List.mem_of_getElem? (i := 39) rfl)) rfl
theorem wm_280 : Jvm.Cond.methodLinkNest "HairLine$Runner" (37 : Nat) ({ cls := "HairLine", name := "floorQuotient", desc := "(II)I" } : Jvm.MethodName) "HairLine" ∈ lw_tbl := tm2 (List.mem_of_getElem? (i := 40) rfl)
theorem wg_281 : Jvm.Cond.static ({ cls := "HairLine", name := "floorQuotient", desc := "(II)I" } : Jvm.MethodName) ∈ gw := gm (tm2 (List.mem_of_getElem? (i := 41) rfl)) rfl
theorem wg_282 : Jvm.Cond.code ({ cls := "HairLine", name := "floorQuotient", desc := "(II)I" } : Jvm.MethodName) prog_1_method_36_code (2 : Nat) (Option.some Jvm.ClassFile.FieldType.int) ∈ gw := gm (tm2 (List.mem_of_getElem? (i := 42) rfl)) rfl
theorem wg_283 : Jvm.Cond.methodLink "HairLine" (250 : Nat) ({ cls := "java/lang/Math", name := "floorDiv", desc := "(II)I" } : Jvm.MethodName) ∈ gw := gm (tm2 (List.mem_of_getElem? (i := 43) rfl)) rfl
theorem wg_284 : Jvm.Cond.static ({ cls := "java/lang/Math", name := "floorDiv", desc := "(II)I" } : Jvm.MethodName) ∈ gw := gm (tm2 (List.mem_of_getElem? (i := 44) rfl)) rfl
theorem wg_285 : Jvm.Cond.code ({ cls := "java/lang/Math", name := "floorDiv", desc := "(II)I" } : Jvm.MethodName) prog_13_method_47_code (3 : Nat) (Option.some Jvm.ClassFile.FieldType.int) ∈ gw := gm (tm2 (List.mem_of_getElem? (i := 45) rfl)) rfl
theorem wg_286 : Jvm.Cond.methodLink "HairLine$Runner" (40 : Nat) ({ cls := "java/lang/Math", name := "min", desc := "(II)I" } : Jvm.MethodName) ∈ gw := gm (tm2 (List.mem_of_getElem? (i := 46) rfl)) rfl
theorem wg_287 : Jvm.Cond.static ({ cls := "java/lang/Math", name := "min", desc := "(II)I" } : Jvm.MethodName) ∈ gw := gm (tm2 (List.mem_of_getElem? (i := 47) rfl)) rfl
theorem wg_288 : Jvm.Cond.code ({ cls := "java/lang/Math", name := "min", desc := "(II)I" } : Jvm.MethodName) prog_13_method_69_code (2 : Nat) (Option.some Jvm.ClassFile.FieldType.int) ∈ gw := gm (tm2 (List.mem_of_getElem? (i := 48) rfl)) rfl
theorem wg_289 : Jvm.Cond.methodLink "HairLine$Track" (61 : Nat) ({ cls := "HairLine$Runner", name := "firstOver", desc := "(III)I" } : Jvm.MethodName) ∈ gw := gm (tm2 (List.mem_of_getElem? (i := 49) rfl)) rfl
theorem wg_290 : Jvm.Cond.instanceMethod ({ cls := "HairLine$Runner", name := "firstOver", desc := "(III)I" } : Jvm.MethodName) ∈ gw := gm (tm2 (List.mem_of_getElem? (i := 50) rfl)) rfl
theorem wg_291 : Jvm.Cond.selects "HairLine$Runner" ({ cls := "HairLine$Runner", name := "firstOver", desc := "(III)I" } : Jvm.MethodName) ({ cls := "HairLine$Runner", name := "firstOver", desc := "(III)I" } : Jvm.MethodName) ∈ gw := gm (tm2 (List.mem_of_getElem? (i := 51) rfl)) rfl
theorem wg_292 : Jvm.Cond.code ({ cls := "HairLine$Runner", name := "firstOver", desc := "(III)I" } : Jvm.MethodName) prog_6_method_5_code (4 : Nat) (Option.some Jvm.ClassFile.FieldType.int) ∈ gw := gm (tm2 (List.mem_of_getElem? (i := 52) rfl)) rfl
theorem wm_293 : Jvm.Cond.methodLinkNest "HairLine$Runner" (28 : Nat) ({ cls := "HairLine", name := "ceilQuotient", desc := "(II)I" } : Jvm.MethodName) "HairLine" ∈ lw_tbl := tm2 (List.mem_of_getElem? (i := 53) rfl)
theorem wg_294 : Jvm.Cond.static ({ cls := "HairLine", name := "ceilQuotient", desc := "(II)I" } : Jvm.MethodName) ∈ gw := gm (tm2 (List.mem_of_getElem? (i := 54) rfl)) rfl
theorem wg_295 : Jvm.Cond.code ({ cls := "HairLine", name := "ceilQuotient", desc := "(II)I" } : Jvm.MethodName) prog_1_method_37_code (2 : Nat) (Option.some Jvm.ClassFile.FieldType.int) ∈ gw := gm (tm2 (List.mem_of_getElem? (i := 55) rfl)) rfl
theorem wg_296 : Jvm.Cond.methodLink "HairLine$Runner" (32 : Nat) ({ cls := "java/lang/Math", name := "max", desc := "(II)I" } : Jvm.MethodName) ∈ gw := gm (tm2 (List.mem_of_getElem? (i := 56) rfl)) rfl
theorem wg_297 : Jvm.Cond.static ({ cls := "java/lang/Math", name := "max", desc := "(II)I" } : Jvm.MethodName) ∈ gw := gm (tm2 (List.mem_of_getElem? (i := 57) rfl)) rfl
theorem wg_298 : Jvm.Cond.code ({ cls := "java/lang/Math", name := "max", desc := "(II)I" } : Jvm.MethodName) prog_13_method_65_code (2 : Nat) (Option.some Jvm.ClassFile.FieldType.int) ∈ gw := gm (tm2 (List.mem_of_getElem? (i := 58) rfl)) rfl
theorem wg_299 : Jvm.Cond.methodLink "HairLine$Track" (64 : Nat) ({ cls := "HairLine$Track", name := "film", desc := "(III)I" } : Jvm.MethodName) ∈ gw := gm (tm2 (List.mem_of_getElem? (i := 59) rfl)) rfl
theorem wg_300 : Jvm.Cond.methodLink "HairLine$Track" (52 : Nat) ({ cls := "java/lang/Math", name := "min", desc := "(II)I" } : Jvm.MethodName) ∈ gw := gm (tm2 (List.mem_of_getElem? (i := 60) rfl)) rfl
theorem wg_301 : Jvm.Cond.methodLink "HairLine" (96 : Nat) ({ cls := "HairLine", name := "orNone", desc := "(I)I" } : Jvm.MethodName) ∈ gw := gm (tm2 (List.mem_of_getElem? (i := 61) rfl)) rfl
theorem wg_302 : Jvm.Cond.static ({ cls := "HairLine", name := "orNone", desc := "(I)I" } : Jvm.MethodName) ∈ gw := gm (tm2 (List.mem_of_getElem? (i := 62) rfl)) rfl
theorem wg_303 : Jvm.Cond.code ({ cls := "HairLine", name := "orNone", desc := "(I)I" } : Jvm.MethodName) prog_1_method_34_code (1 : Nat) (Option.some Jvm.ClassFile.FieldType.int) ∈ gw := gm (tm2 (List.mem_of_getElem? (i := 63) rfl)) rfl
theorem wg_304 : Jvm.Cond.constant "HairLine" (249 : Nat) (10000000 : Int32) ∈ gw := gm (tm2 (List.mem_of_getElem? (i := 64) rfl)) rfl
theorem wg_305 : Jvm.Cond.methodLink "HairLine" (100 : Nat) ({ cls := "HairLine$Track", name := "joined", desc := "(I)I" } : Jvm.MethodName) ∈ gw := gm (tm2 (List.mem_of_getElem? (i := 65) rfl)) rfl
theorem wg_306 : Jvm.Cond.instanceMethod ({ cls := "HairLine$Track", name := "joined", desc := "(I)I" } : Jvm.MethodName) ∈ gw := gm (tm2 (List.mem_of_getElem? (i := 66) rfl)) rfl
theorem wg_307 : Jvm.Cond.selects "HairLine$Track" ({ cls := "HairLine$Track", name := "joined", desc := "(I)I" } : Jvm.MethodName) ({ cls := "HairLine$Track", name := "joined", desc := "(I)I" } : Jvm.MethodName) ∈ gw := gm (tm2 (List.mem_of_getElem? (i := 67) rfl)) rfl
theorem wg_308 : Jvm.Cond.code ({ cls := "HairLine$Track", name := "joined", desc := "(I)I" } : Jvm.MethodName) prog_9_method_8_code (2 : Nat) (Option.some Jvm.ClassFile.FieldType.int) ∈ gw := gm (tm2 (List.mem_of_getElem? (i := 68) rfl)) rfl
theorem wg_309 : Jvm.Cond.methodLink "HairLine$Track" (67 : Nat) ({ cls := "HairLine$Track", name := "hair", desc := "(II)I" } : Jvm.MethodName) ∈ gw := gm (tm2 (List.mem_of_getElem? (i := 69) rfl)) rfl
theorem wg_310 : Jvm.Cond.methodLink "HairLine" (103 : Nat) ({ cls := "HairLine$Runner", name := "crossing", desc := "(I)I" } : Jvm.MethodName) ∈ gw := gm (tm2 (List.mem_of_getElem? (i := 70) rfl)) rfl
theorem wg_311 : Jvm.Cond.instanceMethod ({ cls := "HairLine$Runner", name := "crossing", desc := "(I)I" } : Jvm.MethodName) ∈ gw := gm (tm2 (List.mem_of_getElem? (i := 71) rfl)) rfl
theorem wg_312 : Jvm.Cond.selects "HairLine$Runner" ({ cls := "HairLine$Runner", name := "crossing", desc := "(I)I" } : Jvm.MethodName) ({ cls := "HairLine$Runner", name := "crossing", desc := "(I)I" } : Jvm.MethodName) ∈ gw := gm (tm2 (List.mem_of_getElem? (i := 72) rfl)) rfl
theorem wg_313 : Jvm.Cond.code ({ cls := "HairLine$Runner", name := "crossing", desc := "(I)I" } : Jvm.MethodName) prog_6_method_8_code (4 : Nat) (Option.some Jvm.ClassFile.FieldType.int) ∈ gw := gm (tm2 (List.mem_of_getElem? (i := 73) rfl)) rfl
theorem wg_314 : Jvm.Cond.constant "HairLine$Runner" (50 : Nat) (10000000 : Int32) ∈ gw := gm (tm2 (List.mem_of_getElem? (i := 74) rfl)) rfl
theorem wg_315 : Jvm.Cond.methodLink "HairLine$Runner" (47 : Nat) ({ cls := "HairLine$Runner", name := "firstOver", desc := "(III)I" } : Jvm.MethodName) ∈ gw := gm (tm2 (List.mem_of_getElem? (i := 75) rfl)) rfl
theorem wg_316 : Jvm.Cond.methodLink "HairLine" (106 : Nat) ({ cls := "HairLine$Track", name := "leaned", desc := "(I)I" } : Jvm.MethodName) ∈ gw := gm (tm2 (List.mem_of_getElem? (i := 76) rfl)) rfl
theorem wg_317 : Jvm.Cond.instanceMethod ({ cls := "HairLine$Track", name := "leaned", desc := "(I)I" } : Jvm.MethodName) ∈ gw := gm (tm2 (List.mem_of_getElem? (i := 77) rfl)) rfl
theorem wg_318 : Jvm.Cond.selects "HairLine$Track" ({ cls := "HairLine$Track", name := "leaned", desc := "(I)I" } : Jvm.MethodName) ({ cls := "HairLine$Track", name := "leaned", desc := "(I)I" } : Jvm.MethodName) ∈ gw := gm (tm2 (List.mem_of_getElem? (i := 78) rfl)) rfl
theorem wg_319 : Jvm.Cond.code ({ cls := "HairLine$Track", name := "leaned", desc := "(I)I" } : Jvm.MethodName) prog_9_method_9_code (2 : Nat) (Option.some Jvm.ClassFile.FieldType.int) ∈ gw := gm (tm2 (List.mem_of_getElem? (i := 79) rfl)) rfl
theorem wg_320 : Jvm.Cond.methodLink "HairLine$Track" (70 : Nat) ({ cls := "HairLine$Runner", name := "crossing", desc := "(I)I" } : Jvm.MethodName) ∈ gw := gm (tm2 (List.mem_of_getElem? (i := 80) rfl)) rfl
theorem wg_321 : Jvm.Cond.methodLink "HairLine" (109 : Nat) ({ cls := "HairLine$Track", name := "isHidden", desc := "(I)Z" } : Jvm.MethodName) ∈ gw := gm (tm2 (List.mem_of_getElem? (i := 81) rfl)) rfl
theorem wg_322 : Jvm.Cond.instanceMethod ({ cls := "HairLine$Track", name := "isHidden", desc := "(I)Z" } : Jvm.MethodName) ∈ gw := gm (tm2 (List.mem_of_getElem? (i := 82) rfl)) rfl
theorem wg_323 : Jvm.Cond.selects "HairLine$Track" ({ cls := "HairLine$Track", name := "isHidden", desc := "(I)Z" } : Jvm.MethodName) ({ cls := "HairLine$Track", name := "isHidden", desc := "(I)Z" } : Jvm.MethodName) ∈ gw := gm (tm2 (List.mem_of_getElem? (i := 83) rfl)) rfl
theorem wg_324 : Jvm.Cond.code ({ cls := "HairLine$Track", name := "isHidden", desc := "(I)Z" } : Jvm.MethodName) prog_9_method_10_code (2 : Nat) (Option.some Jvm.ClassFile.FieldType.boolean) ∈ gw := gm (tm2 (List.mem_of_getElem? (i := 84) rfl)) rfl
theorem wg_325 : Jvm.Cond.methodLink "HairLine$Track" (73 : Nat) ({ cls := "HairLine$Runner", name := "hasTorso", desc := "()Z" } : Jvm.MethodName) ∈ gw := gm (tm2 (List.mem_of_getElem? (i := 85) rfl)) rfl
theorem wg_326 : Jvm.Cond.instanceMethod ({ cls := "HairLine$Runner", name := "hasTorso", desc := "()Z" } : Jvm.MethodName) ∈ gw := gm (tm2 (List.mem_of_getElem? (i := 86) rfl)) rfl
theorem wg_327 : Jvm.Cond.selects "HairLine$Runner" ({ cls := "HairLine$Runner", name := "hasTorso", desc := "()Z" } : Jvm.MethodName) ({ cls := "HairLine$Runner", name := "hasTorso", desc := "()Z" } : Jvm.MethodName) ∈ gw := gm (tm2 (List.mem_of_getElem? (i := 87) rfl)) rfl
theorem wg_328 : Jvm.Cond.code ({ cls := "HairLine$Runner", name := "hasTorso", desc := "()Z" } : Jvm.MethodName) prog_6_method_4_code (2 : Nat) (Option.some Jvm.ClassFile.FieldType.boolean) ∈ gw := gm (tm2 (List.mem_of_getElem? (i := 88) rfl)) rfl
theorem wg_329 : Jvm.Cond.methodLink "HairLine$Track" (77 : Nat) ({ cls := "HairLine$Track", name := "joined", desc := "(I)I" } : Jvm.MethodName) ∈ gw := gm (tm2 (List.mem_of_getElem? (i := 89) rfl)) rfl
theorem wg_330 : Jvm.Cond.methodLink "HairLine$Track" (80 : Nat) ({ cls := "HairLine$Track", name := "leaned", desc := "(I)I" } : Jvm.MethodName) ∈ gw := gm (tm2 (List.mem_of_getElem? (i := 90) rfl)) rfl
theorem wg_331 : Jvm.Cond.methodLink "HairLine" (112 : Nat) ({ cls := "HairLine$Track", name := "hears", desc := "(I)I" } : Jvm.MethodName) ∈ gw := gm (tm2 (List.mem_of_getElem? (i := 91) rfl)) rfl
theorem wg_332 : Jvm.Cond.instanceMethod ({ cls := "HairLine$Track", name := "hears", desc := "(I)I" } : Jvm.MethodName) ∈ gw := gm (tm2 (List.mem_of_getElem? (i := 92) rfl)) rfl
theorem wg_333 : Jvm.Cond.selects "HairLine$Track" ({ cls := "HairLine$Track", name := "hears", desc := "(I)I" } : Jvm.MethodName) ({ cls := "HairLine$Track", name := "hears", desc := "(I)I" } : Jvm.MethodName) ∈ gw := gm (tm2 (List.mem_of_getElem? (i := 93) rfl)) rfl
theorem wg_334 : Jvm.Cond.code ({ cls := "HairLine$Track", name := "hears", desc := "(I)I" } : Jvm.MethodName) prog_9_method_11_code (3 : Nat) (Option.some Jvm.ClassFile.FieldType.int) ∈ gw := gm (tm2 (List.mem_of_getElem? (i := 94) rfl)) rfl
theorem wg_335 : Jvm.Cond.methodLink "HairLine" (115 : Nat) ({ cls := "HairLine$Track", name := "early", desc := "(I)I" } : Jvm.MethodName) ∈ gw := gm (tm2 (List.mem_of_getElem? (i := 95) rfl)) rfl
theorem wg_336 : Jvm.Cond.instanceMethod ({ cls := "HairLine$Track", name := "early", desc := "(I)I" } : Jvm.MethodName) ∈ gw := gm (tm2 (List.mem_of_getElem? (i := 96) rfl)) rfl
theorem wg_337 : Jvm.Cond.selects "HairLine$Track" ({ cls := "HairLine$Track", name := "early", desc := "(I)I" } : Jvm.MethodName) ({ cls := "HairLine$Track", name := "early", desc := "(I)I" } : Jvm.MethodName) ∈ gw := gm (tm2 (List.mem_of_getElem? (i := 97) rfl)) rfl
theorem wg_338 : Jvm.Cond.code ({ cls := "HairLine$Track", name := "early", desc := "(I)I" } : Jvm.MethodName) prog_9_method_12_code (3 : Nat) (Option.some Jvm.ClassFile.FieldType.int) ∈ gw := gm (tm2 (List.mem_of_getElem? (i := 98) rfl)) rfl
theorem wg_339 : Jvm.Cond.methodLink "HairLine$Track" (86 : Nat) ({ cls := "HairLine$Track", name := "hears", desc := "(I)I" } : Jvm.MethodName) ∈ gw := gm (tm2 (List.mem_of_getElem? (i := 99) rfl)) rfl
theorem wg_340 : Jvm.Cond.methodLink "HairLineLaw" (36 : Nat) ({ cls := "HairLine", name := "moved", desc := "(I)I" } : Jvm.MethodName) ∈ gw := gm (tm2 (List.mem_of_getElem? (i := 100) rfl)) rfl
theorem wg_341 : Jvm.Cond.instanceMethod ({ cls := "HairLine", name := "moved", desc := "(I)I" } : Jvm.MethodName) ∈ gw := gm (tm2 (List.mem_of_getElem? (i := 101) rfl)) rfl
theorem wg_342 : Jvm.Cond.selects "HairLine" ({ cls := "HairLine", name := "moved", desc := "(I)I" } : Jvm.MethodName) ({ cls := "HairLine", name := "moved", desc := "(I)I" } : Jvm.MethodName) ∈ gw := gm (tm2 (List.mem_of_getElem? (i := 102) rfl)) rfl
theorem wg_343 : Jvm.Cond.code ({ cls := "HairLine", name := "moved", desc := "(I)I" } : Jvm.MethodName) prog_1_method_7_code (5 : Nat) (Option.some Jvm.ClassFile.FieldType.int) ∈ gw := gm (tm2 (List.mem_of_getElem? (i := 103) rfl)) rfl
theorem wg_344 : Jvm.Cond.methodLink "HairLine" (122 : Nat) ({ cls := "HairLine$Track", name := "areMoved", desc := "(II)Z" } : Jvm.MethodName) ∈ gw := gm (tm2 (List.mem_of_getElem? (i := 104) rfl)) rfl
theorem wg_345 : Jvm.Cond.instanceMethod ({ cls := "HairLine$Track", name := "areMoved", desc := "(II)Z" } : Jvm.MethodName) ∈ gw := gm (tm2 (List.mem_of_getElem? (i := 105) rfl)) rfl
theorem wg_346 : Jvm.Cond.selects "HairLine$Track" ({ cls := "HairLine$Track", name := "areMoved", desc := "(II)Z" } : Jvm.MethodName) ({ cls := "HairLine$Track", name := "areMoved", desc := "(II)Z" } : Jvm.MethodName) ∈ gw := gm (tm2 (List.mem_of_getElem? (i := 106) rfl)) rfl
theorem wg_347 : Jvm.Cond.code ({ cls := "HairLine$Track", name := "areMoved", desc := "(II)Z" } : Jvm.MethodName) prog_9_method_13_code (6 : Nat) (Option.some Jvm.ClassFile.FieldType.boolean) ∈ gw := gm (tm2 (List.mem_of_getElem? (i := 107) rfl)) rfl
theorem wg_348 : Jvm.Cond.methodLink "HairLine$Track" (89 : Nat) ({ cls := "java/lang/Integer", name := "compare", desc := "(II)I" } : Jvm.MethodName) ∈ gw := gm (tm2 (List.mem_of_getElem? (i := 108) rfl)) rfl
theorem wg_349 : Jvm.Cond.static ({ cls := "java/lang/Integer", name := "compare", desc := "(II)I" } : Jvm.MethodName) ∈ gw := gm (tm2 (List.mem_of_getElem? (i := 109) rfl)) rfl
theorem wg_350 : Jvm.Cond.code ({ cls := "java/lang/Integer", name := "compare", desc := "(II)I" } : Jvm.MethodName) prog_12_method_40_code (2 : Nat) (Option.some Jvm.ClassFile.FieldType.int) ∈ gw := gm (tm2 (List.mem_of_getElem? (i := 110) rfl)) rfl
theorem wg_351 : Jvm.Cond.methodLink "HairLineLaw" (41 : Nat) ({ cls := "HairLine", name := "order", desc := "(I)I" } : Jvm.MethodName) ∈ gw := gm (tm2 (List.mem_of_getElem? (i := 111) rfl)) rfl
theorem wg_352 : Jvm.Cond.instanceMethod ({ cls := "HairLine", name := "order", desc := "(I)I" } : Jvm.MethodName) ∈ gw := gm (tm2 (List.mem_of_getElem? (i := 112) rfl)) rfl
theorem wg_353 : Jvm.Cond.selects "HairLine" ({ cls := "HairLine", name := "order", desc := "(I)I" } : Jvm.MethodName) ({ cls := "HairLine", name := "order", desc := "(I)I" } : Jvm.MethodName) ∈ gw := gm (tm2 (List.mem_of_getElem? (i := 113) rfl)) rfl
theorem wg_354 : Jvm.Cond.code ({ cls := "HairLine", name := "order", desc := "(I)I" } : Jvm.MethodName) prog_1_method_8_code (2 : Nat) (Option.some Jvm.ClassFile.FieldType.int) ∈ gw := gm (tm2 (List.mem_of_getElem? (i := 114) rfl)) rfl
theorem wg_355 : Jvm.Cond.methodLink "HairLine" (126 : Nat) ({ cls := "HairLine", name := "rank", desc := "(Z)V" } : Jvm.MethodName) ∈ gw := gm (tm2 (List.mem_of_getElem? (i := 115) rfl)) rfl
theorem wg_357 : Jvm.Cond.instanceMethod ({ cls := "HairLine", name := "rank", desc := "(Z)V" } : Jvm.MethodName) ∈ gw := gm (tm2 (List.mem_of_getElem? (i := 117) rfl)) rfl
theorem wg_358 : Jvm.Cond.code ({ cls := "HairLine", name := "rank", desc := "(Z)V" } : Jvm.MethodName) prog_1_method_44_code (4 : Nat) (Option.none : Option Jvm.ClassFile.FieldType) ∈ gw := gm (tm2 (List.mem_of_getElem? (i := 118) rfl)) rfl
theorem wg_359 : Jvm.Cond.methodLink "HairLine" (262 : Nat) ({ cls := "HairLine$Ranking", name := "add", desc := "(II)V" } : Jvm.MethodName) ∈ gw := gm (tm2 (List.mem_of_getElem? (i := 119) rfl)) rfl
theorem wg_360 : Jvm.Cond.instanceMethod ({ cls := "HairLine$Ranking", name := "add", desc := "(II)V" } : Jvm.MethodName) ∈ gw := gm (tm2 (List.mem_of_getElem? (i := 120) rfl)) rfl
theorem wg_361 : Jvm.Cond.selects "HairLine$Ranking" ({ cls := "HairLine$Ranking", name := "add", desc := "(II)V" } : Jvm.MethodName) ({ cls := "HairLine$Ranking", name := "add", desc := "(II)V" } : Jvm.MethodName) ∈ gw := gm (tm2 (List.mem_of_getElem? (i := 121) rfl)) rfl
theorem wg_362 : Jvm.Cond.code ({ cls := "HairLine$Ranking", name := "add", desc := "(II)V" } : Jvm.MethodName) prog_5_method_2_code (4 : Nat) (Option.none : Option Jvm.ClassFile.FieldType) ∈ gw := gm (tm2 (List.mem_of_getElem? (i := 122) rfl)) rfl
theorem wg_363 : Jvm.Cond.methodLink "HairLine" (133 : Nat) ({ cls := "HairLine$Ranking", name := "at", desc := "(I)I" } : Jvm.MethodName) ∈ gw := gm (tm2 (List.mem_of_getElem? (i := 123) rfl)) rfl
theorem wg_364 : Jvm.Cond.instanceMethod ({ cls := "HairLine$Ranking", name := "at", desc := "(I)I" } : Jvm.MethodName) ∈ gw := gm (tm2 (List.mem_of_getElem? (i := 124) rfl)) rfl
theorem wg_365 : Jvm.Cond.selects "HairLine$Ranking" ({ cls := "HairLine$Ranking", name := "at", desc := "(I)I" } : Jvm.MethodName) ({ cls := "HairLine$Ranking", name := "at", desc := "(I)I" } : Jvm.MethodName) ∈ gw := gm (tm2 (List.mem_of_getElem? (i := 125) rfl)) rfl
theorem wg_366 : Jvm.Cond.code ({ cls := "HairLine$Ranking", name := "at", desc := "(I)I" } : Jvm.MethodName) prog_5_method_3_code (2 : Nat) (Option.some Jvm.ClassFile.FieldType.int) ∈ gw := gm (tm2 (List.mem_of_getElem? (i := 126) rfl)) rfl
theorem wm_367 : Jvm.Cond.methodLinkNest "HairLine$Ranking" (22 : Nat) ({ cls := "HairLine", name := "within", desc := "(III)Z" } : Jvm.MethodName) "HairLine" ∈ lw_tbl := tm2 (List.mem_of_getElem? (i := 127) rfl)
theorem wg_368 : Jvm.Cond.methodLink "HairLineLaw" (45 : Nat) ({ cls := "HairLine", name := "place", desc := "(II)I" } : Jvm.MethodName) ∈ gw := gm (tm2 (List.mem_of_getElem? (i := 128) rfl)) rfl
theorem wg_369 : Jvm.Cond.instanceMethod ({ cls := "HairLine", name := "place", desc := "(II)I" } : Jvm.MethodName) ∈ gw := gm (tm2 (List.mem_of_getElem? (i := 129) rfl)) rfl
theorem wg_370 : Jvm.Cond.selects "HairLine" ({ cls := "HairLine", name := "place", desc := "(II)I" } : Jvm.MethodName) ({ cls := "HairLine", name := "place", desc := "(II)I" } : Jvm.MethodName) ∈ gw := gm (tm2 (List.mem_of_getElem? (i := 130) rfl)) rfl
theorem wg_371 : Jvm.Cond.code ({ cls := "HairLine", name := "place", desc := "(II)I" } : Jvm.MethodName) prog_1_method_9_code (3 : Nat) (Option.some Jvm.ClassFile.FieldType.int) ∈ gw := gm (tm2 (List.mem_of_getElem? (i := 131) rfl)) rfl
theorem wg_372 : Jvm.Cond.methodLink "HairLine" (136 : Nat) ({ cls := "HairLine$Ranking", name := "placeOf", desc := "(III)I" } : Jvm.MethodName) ∈ gw := gm (tm2 (List.mem_of_getElem? (i := 132) rfl)) rfl
theorem wg_373 : Jvm.Cond.instanceMethod ({ cls := "HairLine$Ranking", name := "placeOf", desc := "(III)I" } : Jvm.MethodName) ∈ gw := gm (tm2 (List.mem_of_getElem? (i := 133) rfl)) rfl
theorem wg_374 : Jvm.Cond.selects "HairLine$Ranking" ({ cls := "HairLine$Ranking", name := "placeOf", desc := "(III)I" } : Jvm.MethodName) ({ cls := "HairLine$Ranking", name := "placeOf", desc := "(III)I" } : Jvm.MethodName) ∈ gw := gm (tm2 (List.mem_of_getElem? (i := 134) rfl)) rfl
theorem wg_375 : Jvm.Cond.code ({ cls := "HairLine$Ranking", name := "placeOf", desc := "(III)I" } : Jvm.MethodName) prog_5_method_4_code (7 : Nat) (Option.some Jvm.ClassFile.FieldType.int) ∈ gw := gm (tm2 (List.mem_of_getElem? (i := 135) rfl)) rfl
theorem wg_376 : Jvm.Cond.methodLink "HairLine$Ranking" (26 : Nat) ({ cls := "java/lang/Math", name := "max", desc := "(II)I" } : Jvm.MethodName) ∈ gw := gm (tm2 (List.mem_of_getElem? (i := 136) rfl)) rfl
theorem wg_377 : Jvm.Cond.methodLink "HairLineLaw" (49 : Nat) ({ cls := "HairLine", name := "stretch", desc := "(II)I" } : Jvm.MethodName) ∈ gw := gm (tm2 (List.mem_of_getElem? (i := 137) rfl)) rfl
theorem wg_378 : Jvm.Cond.instanceMethod ({ cls := "HairLine", name := "stretch", desc := "(II)I" } : Jvm.MethodName) ∈ gw := gm (tm2 (List.mem_of_getElem? (i := 138) rfl)) rfl
theorem wg_379 : Jvm.Cond.selects "HairLine" ({ cls := "HairLine", name := "stretch", desc := "(II)I" } : Jvm.MethodName) ({ cls := "HairLine", name := "stretch", desc := "(II)I" } : Jvm.MethodName) ∈ gw := gm (tm2 (List.mem_of_getElem? (i := 139) rfl)) rfl
theorem wg_380 : Jvm.Cond.code ({ cls := "HairLine", name := "stretch", desc := "(II)I" } : Jvm.MethodName) prog_1_method_10_code (3 : Nat) (Option.some Jvm.ClassFile.FieldType.int) ∈ gw := gm (tm2 (List.mem_of_getElem? (i := 140) rfl)) rfl
theorem wg_381 : Jvm.Cond.methodLink "HairLine" (139 : Nat) ({ cls := "HairLine$Track", name := "slitPlace", desc := "(I)I" } : Jvm.MethodName) ∈ gw := gm (tm2 (List.mem_of_getElem? (i := 141) rfl)) rfl
theorem wg_382 : Jvm.Cond.methodLink "HairLine" (142 : Nat) ({ cls := "HairLine$Runner", name := "columnsOver", desc := "(III)I" } : Jvm.MethodName) ∈ gw := gm (tm2 (List.mem_of_getElem? (i := 142) rfl)) rfl
theorem wg_383 : Jvm.Cond.instanceMethod ({ cls := "HairLine$Runner", name := "columnsOver", desc := "(III)I" } : Jvm.MethodName) ∈ gw := gm (tm2 (List.mem_of_getElem? (i := 143) rfl)) rfl
theorem wg_384 : Jvm.Cond.selects "HairLine$Runner" ({ cls := "HairLine$Runner", name := "columnsOver", desc := "(III)I" } : Jvm.MethodName) ({ cls := "HairLine$Runner", name := "columnsOver", desc := "(III)I" } : Jvm.MethodName) ∈ gw := gm (tm2 (List.mem_of_getElem? (i := 144) rfl)) rfl
theorem wg_385 : Jvm.Cond.code ({ cls := "HairLine$Runner", name := "columnsOver", desc := "(III)I" } : Jvm.MethodName) prog_6_method_7_code (4 : Nat) (Option.some Jvm.ClassFile.FieldType.int) ∈ gw := gm (tm2 (List.mem_of_getElem? (i := 145) rfl)) rfl
theorem wg_386 : Jvm.Cond.methodLink "HairLine$Runner" (43 : Nat) ({ cls := "HairLine$Runner", name := "lastOver", desc := "(III)I" } : Jvm.MethodName) ∈ gw := gm (tm2 (List.mem_of_getElem? (i := 146) rfl)) rfl
theorem wg_387 : Jvm.Cond.methodLink "HairLineLaw" (53 : Nat) ({ cls := "HairLine", name := "speeds", desc := "(III)I" } : Jvm.MethodName) ∈ gw := gm (tm2 (List.mem_of_getElem? (i := 147) rfl)) rfl
theorem wg_388 : Jvm.Cond.instanceMethod ({ cls := "HairLine", name := "speeds", desc := "(III)I" } : Jvm.MethodName) ∈ gw := gm (tm2 (List.mem_of_getElem? (i := 148) rfl)) rfl
theorem wg_389 : Jvm.Cond.selects "HairLine" ({ cls := "HairLine", name := "speeds", desc := "(III)I" } : Jvm.MethodName) ({ cls := "HairLine", name := "speeds", desc := "(III)I" } : Jvm.MethodName) ∈ gw := gm (tm2 (List.mem_of_getElem? (i := 149) rfl)) rfl
theorem wg_390 : Jvm.Cond.code ({ cls := "HairLine", name := "speeds", desc := "(III)I" } : Jvm.MethodName) prog_1_method_11_code (6 : Nat) (Option.some Jvm.ClassFile.FieldType.int) ∈ gw := gm (tm2 (List.mem_of_getElem? (i := 150) rfl)) rfl
theorem wg_391 : Jvm.Cond.methodLink "HairLine" (145 : Nat) ({ cls := "HairLine", name := "canStretch", desc := "(III)Z" } : Jvm.MethodName) ∈ gw := gm (tm2 (List.mem_of_getElem? (i := 151) rfl)) rfl
theorem wg_392 : Jvm.Cond.static ({ cls := "HairLine", name := "canStretch", desc := "(III)Z" } : Jvm.MethodName) ∈ gw := gm (tm2 (List.mem_of_getElem? (i := 152) rfl)) rfl
theorem wg_393 : Jvm.Cond.code ({ cls := "HairLine", name := "canStretch", desc := "(III)Z" } : Jvm.MethodName) prog_1_method_40_code (3 : Nat) (Option.some Jvm.ClassFile.FieldType.boolean) ∈ gw := gm (tm2 (List.mem_of_getElem? (i := 153) rfl)) rfl
theorem wg_394 : Jvm.Cond.methodLink "HairLine" (253 : Nat) ({ cls := "HairLine", name := "floorQuotient", desc := "(II)I" } : Jvm.MethodName) ∈ gw := gm (tm2 (List.mem_of_getElem? (i := 154) rfl)) rfl
theorem wg_395 : Jvm.Cond.methodLink "HairLine" (256 : Nat) ({ cls := "HairLine", name := "ceilQuotient", desc := "(II)I" } : Jvm.MethodName) ∈ gw := gm (tm2 (List.mem_of_getElem? (i := 155) rfl)) rfl
theorem wg_396 : Jvm.Cond.methodLink "HairLineLaw" (57 : Nat) ({ cls := "HairLine", name := "push", desc := "(II)I" } : Jvm.MethodName) ∈ gw := gm (tm2 (List.mem_of_getElem? (i := 156) rfl)) rfl
theorem wg_397 : Jvm.Cond.instanceMethod ({ cls := "HairLine", name := "push", desc := "(II)I" } : Jvm.MethodName) ∈ gw := gm (tm2 (List.mem_of_getElem? (i := 157) rfl)) rfl
theorem wg_398 : Jvm.Cond.selects "HairLine" ({ cls := "HairLine", name := "push", desc := "(II)I" } : Jvm.MethodName) ({ cls := "HairLine", name := "push", desc := "(II)I" } : Jvm.MethodName) ∈ gw := gm (tm2 (List.mem_of_getElem? (i := 158) rfl)) rfl
theorem wg_399 : Jvm.Cond.code ({ cls := "HairLine", name := "push", desc := "(II)I" } : Jvm.MethodName) prog_1_method_12_code (5 : Nat) (Option.some Jvm.ClassFile.FieldType.int) ∈ gw := gm (tm2 (List.mem_of_getElem? (i := 159) rfl)) rfl
theorem wg_400 : Jvm.Cond.methodLink "HairLineLaw" (61 : Nat) ({ cls := "HairLine", name := "mended", desc := "(I)I" } : Jvm.MethodName) ∈ gw := gm (tm2 (List.mem_of_getElem? (i := 160) rfl)) rfl
theorem wg_401 : Jvm.Cond.instanceMethod ({ cls := "HairLine", name := "mended", desc := "(I)I" } : Jvm.MethodName) ∈ gw := gm (tm2 (List.mem_of_getElem? (i := 161) rfl)) rfl
theorem wg_402 : Jvm.Cond.selects "HairLine" ({ cls := "HairLine", name := "mended", desc := "(I)I" } : Jvm.MethodName) ({ cls := "HairLine", name := "mended", desc := "(I)I" } : Jvm.MethodName) ∈ gw := gm (tm2 (List.mem_of_getElem? (i := 162) rfl)) rfl
theorem wg_403 : Jvm.Cond.code ({ cls := "HairLine", name := "mended", desc := "(I)I" } : Jvm.MethodName) prog_1_method_13_code (2 : Nat) (Option.some Jvm.ClassFile.FieldType.int) ∈ gw := gm (tm2 (List.mem_of_getElem? (i := 163) rfl)) rfl
theorem wg_404 : Jvm.Cond.methodLink "HairLineLaw" (65 : Nat) ({ cls := "HairLine", name := "wrong", desc := "(IIII)J" } : Jvm.MethodName) ∈ gw := gm (tm2 (List.mem_of_getElem? (i := 164) rfl)) rfl
theorem wg_405 : Jvm.Cond.instanceMethod ({ cls := "HairLine", name := "wrong", desc := "(IIII)J" } : Jvm.MethodName) ∈ gw := gm (tm2 (List.mem_of_getElem? (i := 165) rfl)) rfl
theorem wg_406 : Jvm.Cond.selects "HairLine" ({ cls := "HairLine", name := "wrong", desc := "(IIII)J" } : Jvm.MethodName) ({ cls := "HairLine", name := "wrong", desc := "(IIII)J" } : Jvm.MethodName) ∈ gw := gm (tm2 (List.mem_of_getElem? (i := 166) rfl)) rfl
theorem wg_407 : Jvm.Cond.code ({ cls := "HairLine", name := "wrong", desc := "(IIII)J" } : Jvm.MethodName) prog_1_method_14_code (15 : Nat) (Option.some Jvm.ClassFile.FieldType.long) ∈ gw := gm (tm2 (List.mem_of_getElem? (i := 167) rfl)) rfl
theorem wg_408 : Jvm.Cond.constantLong "HairLine" (151 : Nat) (-2 : Int64) ∈ gw := gm (tm2 (List.mem_of_getElem? (i := 168) rfl)) rfl
theorem wg_409 : Jvm.Cond.methodLink "HairLine" (153 : Nat) ({ cls := "java/lang/Math", name := "min", desc := "(II)I" } : Jvm.MethodName) ∈ gw := gm (tm2 (List.mem_of_getElem? (i := 169) rfl)) rfl
theorem wg_410 : Jvm.Cond.methodLink "HairLine" (158 : Nat) ({ cls := "java/lang/Math", name := "max", desc := "(II)I" } : Jvm.MethodName) ∈ gw := gm (tm2 (List.mem_of_getElem? (i := 170) rfl)) rfl
theorem wg_411 : Jvm.Cond.methodLink "HairLine" (161 : Nat) ({ cls := "HairLine", name := "power", desc := "(JI)J" } : Jvm.MethodName) ∈ gw := gm (tm2 (List.mem_of_getElem? (i := 171) rfl)) rfl
theorem wg_412 : Jvm.Cond.static ({ cls := "HairLine", name := "power", desc := "(JI)J" } : Jvm.MethodName) ∈ gw := gm (tm2 (List.mem_of_getElem? (i := 172) rfl)) rfl
theorem wg_413 : Jvm.Cond.code ({ cls := "HairLine", name := "power", desc := "(JI)J" } : Jvm.MethodName) prog_1_method_38_code (6 : Nat) (Option.some Jvm.ClassFile.FieldType.long) ∈ gw := gm (tm2 (List.mem_of_getElem? (i := 173) rfl)) rfl
theorem wg_414 : Jvm.Cond.methodLink "HairLine" (165 : Nat) ({ cls := "HairLine", name := "commonDivisor", desc := "(JJ)J" } : Jvm.MethodName) ∈ gw := gm (tm2 (List.mem_of_getElem? (i := 174) rfl)) rfl
theorem wg_415 : Jvm.Cond.static ({ cls := "HairLine", name := "commonDivisor", desc := "(JJ)J" } : Jvm.MethodName) ∈ gw := gm (tm2 (List.mem_of_getElem? (i := 175) rfl)) rfl
theorem wg_416 : Jvm.Cond.code ({ cls := "HairLine", name := "commonDivisor", desc := "(JJ)J" } : Jvm.MethodName) prog_1_method_39_code (11 : Nat) (Option.some Jvm.ClassFile.FieldType.long) ∈ gw := gm (tm2 (List.mem_of_getElem? (i := 176) rfl)) rfl
theorem wg_417 : Jvm.Cond.methodLink "HairLineLaw" (70 : Nat) ({ cls := "HairLine", name := "known", desc := "(III)I" } : Jvm.MethodName) ∈ gw := gm (tm2 (List.mem_of_getElem? (i := 177) rfl)) rfl
theorem wg_418 : Jvm.Cond.instanceMethod ({ cls := "HairLine", name := "known", desc := "(III)I" } : Jvm.MethodName) ∈ gw := gm (tm2 (List.mem_of_getElem? (i := 178) rfl)) rfl
theorem wg_419 : Jvm.Cond.selects "HairLine" ({ cls := "HairLine", name := "known", desc := "(III)I" } : Jvm.MethodName) ({ cls := "HairLine", name := "known", desc := "(III)I" } : Jvm.MethodName) ∈ gw := gm (tm2 (List.mem_of_getElem? (i := 179) rfl)) rfl
theorem wg_420 : Jvm.Cond.code ({ cls := "HairLine", name := "known", desc := "(III)I" } : Jvm.MethodName) prog_1_method_15_code (5 : Nat) (Option.some Jvm.ClassFile.FieldType.int) ∈ gw := gm (tm2 (List.mem_of_getElem? (i := 180) rfl)) rfl
theorem wg_421 : Jvm.Cond.methodLink "HairLine" (169 : Nat) ({ cls := "HairLine", name := "isJudge", desc := "(I)Z" } : Jvm.MethodName) ∈ gw := gm (tm2 (List.mem_of_getElem? (i := 181) rfl)) rfl
theorem wg_422 : Jvm.Cond.static ({ cls := "HairLine", name := "isJudge", desc := "(I)Z" } : Jvm.MethodName) ∈ gw := gm (tm2 (List.mem_of_getElem? (i := 182) rfl)) rfl
theorem wg_423 : Jvm.Cond.code ({ cls := "HairLine", name := "isJudge", desc := "(I)Z" } : Jvm.MethodName) prog_1_method_32_code (1 : Nat) (Option.some Jvm.ClassFile.FieldType.boolean) ∈ gw := gm (tm2 (List.mem_of_getElem? (i := 183) rfl)) rfl
theorem wg_424 : Jvm.Cond.constant "HairLine" (172 : Nat) (99999 : Int32) ∈ gw := gm (tm2 (List.mem_of_getElem? (i := 184) rfl)) rfl
theorem wg_425 : Jvm.Cond.methodLink "HairLine" (177 : Nat) ({ cls := "HairLine$Span", name := "narrow", desc := "(II)Z" } : Jvm.MethodName) ∈ gw := gm (tm2 (List.mem_of_getElem? (i := 185) rfl)) rfl
theorem wg_426 : Jvm.Cond.instanceMethod ({ cls := "HairLine$Span", name := "narrow", desc := "(II)Z" } : Jvm.MethodName) ∈ gw := gm (tm2 (List.mem_of_getElem? (i := 186) rfl)) rfl
theorem wg_427 : Jvm.Cond.selects "HairLine$Span" ({ cls := "HairLine$Span", name := "narrow", desc := "(II)Z" } : Jvm.MethodName) ({ cls := "HairLine$Span", name := "narrow", desc := "(II)Z" } : Jvm.MethodName) ∈ gw := gm (tm2 (List.mem_of_getElem? (i := 187) rfl)) rfl
theorem wg_428 : Jvm.Cond.code ({ cls := "HairLine$Span", name := "narrow", desc := "(II)Z" } : Jvm.MethodName) prog_8_method_3_code (5 : Nat) (Option.some Jvm.ClassFile.FieldType.boolean) ∈ gw := gm (tm2 (List.mem_of_getElem? (i := 188) rfl)) rfl
theorem wg_429 : Jvm.Cond.methodLink "HairLine$Span" (16 : Nat) ({ cls := "java/lang/Math", name := "max", desc := "(II)I" } : Jvm.MethodName) ∈ gw := gm (tm2 (List.mem_of_getElem? (i := 189) rfl)) rfl
theorem wg_430 : Jvm.Cond.methodLink "HairLine$Span" (22 : Nat) ({ cls := "java/lang/Math", name := "min", desc := "(II)I" } : Jvm.MethodName) ∈ gw := gm (tm2 (List.mem_of_getElem? (i := 190) rfl)) rfl
theorem wg_431 : Jvm.Cond.methodLink "HairLine$Span" (25 : Nat) ({ cls := "HairLine$Span", name := "put", desc := "(II)V" } : Jvm.MethodName) ∈ gw := gm (tm2 (List.mem_of_getElem? (i := 191) rfl)) rfl
theorem wg_432 : Jvm.Cond.methodLink "HairLineLaw" (74 : Nat) ({ cls := "HairLine", name := "late", desc := "(II)I" } : Jvm.MethodName) ∈ gw := gm (tm2 (List.mem_of_getElem? (i := 192) rfl)) rfl
theorem wg_433 : Jvm.Cond.instanceMethod ({ cls := "HairLine", name := "late", desc := "(II)I" } : Jvm.MethodName) ∈ gw := gm (tm2 (List.mem_of_getElem? (i := 193) rfl)) rfl
theorem wg_434 : Jvm.Cond.selects "HairLine" ({ cls := "HairLine", name := "late", desc := "(II)I" } : Jvm.MethodName) ({ cls := "HairLine", name := "late", desc := "(II)I" } : Jvm.MethodName) ∈ gw := gm (tm2 (List.mem_of_getElem? (i := 194) rfl)) rfl
theorem wg_435 : Jvm.Cond.code ({ cls := "HairLine", name := "late", desc := "(II)I" } : Jvm.MethodName) prog_1_method_16_code (3 : Nat) (Option.some Jvm.ClassFile.FieldType.int) ∈ gw := gm (tm2 (List.mem_of_getElem? (i := 195) rfl)) rfl
theorem wg_436 : Jvm.Cond.methodLink "HairLine" (182 : Nat) ({ cls := "HairLine$Span", name := "end", desc := "(I)I" } : Jvm.MethodName) ∈ gw := gm (tm2 (List.mem_of_getElem? (i := 196) rfl)) rfl
theorem wg_437 : Jvm.Cond.instanceMethod ({ cls := "HairLine$Span", name := "end", desc := "(I)I" } : Jvm.MethodName) ∈ gw := gm (tm2 (List.mem_of_getElem? (i := 197) rfl)) rfl
theorem wg_438 : Jvm.Cond.selects "HairLine$Span" ({ cls := "HairLine$Span", name := "end", desc := "(I)I" } : Jvm.MethodName) ({ cls := "HairLine$Span", name := "end", desc := "(I)I" } : Jvm.MethodName) ∈ gw := gm (tm2 (List.mem_of_getElem? (i := 198) rfl)) rfl
theorem wg_439 : Jvm.Cond.code ({ cls := "HairLine$Span", name := "end", desc := "(I)I" } : Jvm.MethodName) prog_8_method_4_code (2 : Nat) (Option.some Jvm.ClassFile.FieldType.int) ∈ gw := gm (tm2 (List.mem_of_getElem? (i := 199) rfl)) rfl
theorem wg_440 : Jvm.Cond.methodLink "HairLineLaw" (78 : Nat) ({ cls := "HairLine", name := "tell", desc := "(II)I" } : Jvm.MethodName) ∈ gw := gm (tm2 (List.mem_of_getElem? (i := 200) rfl)) rfl
theorem wg_441 : Jvm.Cond.instanceMethod ({ cls := "HairLine", name := "tell", desc := "(II)I" } : Jvm.MethodName) ∈ gw := gm (tm2 (List.mem_of_getElem? (i := 201) rfl)) rfl
theorem wg_442 : Jvm.Cond.selects "HairLine" ({ cls := "HairLine", name := "tell", desc := "(II)I" } : Jvm.MethodName) ({ cls := "HairLine", name := "tell", desc := "(II)I" } : Jvm.MethodName) ∈ gw := gm (tm2 (List.mem_of_getElem? (i := 202) rfl)) rfl
theorem wg_443 : Jvm.Cond.code ({ cls := "HairLine", name := "tell", desc := "(II)I" } : Jvm.MethodName) prog_1_method_17_code (4 : Nat) (Option.some Jvm.ClassFile.FieldType.int) ∈ gw := gm (tm2 (List.mem_of_getElem? (i := 203) rfl)) rfl
theorem wg_444 : Jvm.Cond.methodLink "HairLineLaw" (82 : Nat) ({ cls := "HairLine", name := "time", desc := "(I)I" } : Jvm.MethodName) ∈ gw := gm (tm2 (List.mem_of_getElem? (i := 204) rfl)) rfl
theorem wg_445 : Jvm.Cond.instanceMethod ({ cls := "HairLine", name := "time", desc := "(I)I" } : Jvm.MethodName) ∈ gw := gm (tm2 (List.mem_of_getElem? (i := 205) rfl)) rfl
theorem wg_446 : Jvm.Cond.selects "HairLine" ({ cls := "HairLine", name := "time", desc := "(I)I" } : Jvm.MethodName) ({ cls := "HairLine", name := "time", desc := "(I)I" } : Jvm.MethodName) ∈ gw := gm (tm2 (List.mem_of_getElem? (i := 206) rfl)) rfl
theorem wg_447 : Jvm.Cond.code ({ cls := "HairLine", name := "time", desc := "(I)I" } : Jvm.MethodName) prog_1_method_18_code (3 : Nat) (Option.some Jvm.ClassFile.FieldType.int) ∈ gw := gm (tm2 (List.mem_of_getElem? (i := 207) rfl)) rfl
theorem wg_448 : Jvm.Cond.methodLink "HairLine" (188 : Nat) ({ cls := "HairLine$Panel", name := "agree", desc := "()I" } : Jvm.MethodName) ∈ gw := gm (tm2 (List.mem_of_getElem? (i := 208) rfl)) rfl
theorem wg_449 : Jvm.Cond.instanceMethod ({ cls := "HairLine$Panel", name := "agree", desc := "()I" } : Jvm.MethodName) ∈ gw := gm (tm2 (List.mem_of_getElem? (i := 209) rfl)) rfl
theorem wg_450 : Jvm.Cond.selects "HairLine$Panel" ({ cls := "HairLine$Panel", name := "agree", desc := "()I" } : Jvm.MethodName) ({ cls := "HairLine$Panel", name := "agree", desc := "()I" } : Jvm.MethodName) ∈ gw := gm (tm2 (List.mem_of_getElem? (i := 210) rfl)) rfl
theorem wg_451 : Jvm.Cond.code ({ cls := "HairLine$Panel", name := "agree", desc := "()I" } : Jvm.MethodName) prog_3_method_2_code (4 : Nat) (Option.some Jvm.ClassFile.FieldType.int) ∈ gw := gm (tm2 (List.mem_of_getElem? (i := 211) rfl)) rfl
theorem wg_452 : Jvm.Cond.constant "HairLine$Panel" (30 : Nat) (-10000000 : Int32) ∈ gw := gm (tm2 (List.mem_of_getElem? (i := 212) rfl)) rfl
theorem wg_453 : Jvm.Cond.constant "HairLine$Panel" (31 : Nat) (10000000 : Int32) ∈ gw := gm (tm2 (List.mem_of_getElem? (i := 213) rfl)) rfl
theorem wg_454 : Jvm.Cond.methodLink "HairLine$Panel" (39 : Nat) ({ cls := "HairLine$Span", name := "narrow", desc := "(II)Z" } : Jvm.MethodName) ∈ gw := gm (tm2 (List.mem_of_getElem? (i := 214) rfl)) rfl
theorem wg_455 : Jvm.Cond.constant "HairLine" (192 : Nat) (1000000 : Int32) ∈ gw := gm (tm2 (List.mem_of_getElem? (i := 215) rfl)) rfl
theorem wg_456 : Jvm.Cond.methodLink "HairLineLaw" (86 : Nat) ({ cls := "HairLine", name := "old", desc := "(I)I" } : Jvm.MethodName) ∈ gw := gm (tm2 (List.mem_of_getElem? (i := 216) rfl)) rfl
theorem wg_457 : Jvm.Cond.instanceMethod ({ cls := "HairLine", name := "old", desc := "(I)I" } : Jvm.MethodName) ∈ gw := gm (tm2 (List.mem_of_getElem? (i := 217) rfl)) rfl
theorem wg_458 : Jvm.Cond.selects "HairLine" ({ cls := "HairLine", name := "old", desc := "(I)I" } : Jvm.MethodName) ({ cls := "HairLine", name := "old", desc := "(I)I" } : Jvm.MethodName) ∈ gw := gm (tm2 (List.mem_of_getElem? (i := 218) rfl)) rfl
theorem wg_459 : Jvm.Cond.code ({ cls := "HairLine", name := "old", desc := "(I)I" } : Jvm.MethodName) prog_1_method_19_code (3 : Nat) (Option.some Jvm.ClassFile.FieldType.int) ∈ gw := gm (tm2 (List.mem_of_getElem? (i := 219) rfl)) rfl
theorem wg_460 : Jvm.Cond.methodLink "HairLineLaw" (90 : Nat) ({ cls := "HairLine", name := "say", desc := "(I)I" } : Jvm.MethodName) ∈ gw := gm (tm2 (List.mem_of_getElem? (i := 220) rfl)) rfl
theorem wg_461 : Jvm.Cond.instanceMethod ({ cls := "HairLine", name := "say", desc := "(I)I" } : Jvm.MethodName) ∈ gw := gm (tm2 (List.mem_of_getElem? (i := 221) rfl)) rfl
theorem wg_462 : Jvm.Cond.selects "HairLine" ({ cls := "HairLine", name := "say", desc := "(I)I" } : Jvm.MethodName) ({ cls := "HairLine", name := "say", desc := "(I)I" } : Jvm.MethodName) ∈ gw := gm (tm2 (List.mem_of_getElem? (i := 222) rfl)) rfl
theorem wg_463 : Jvm.Cond.code ({ cls := "HairLine", name := "say", desc := "(I)I" } : Jvm.MethodName) prog_1_method_20_code (2 : Nat) (Option.some Jvm.ClassFile.FieldType.int) ∈ gw := gm (tm2 (List.mem_of_getElem? (i := 223) rfl)) rfl
theorem wg_464 : Jvm.Cond.methodLink "HairLine" (203 : Nat) ({ cls := "HairLine$Signs", name := "add", desc := "(I)I" } : Jvm.MethodName) ∈ gw := gm (tm2 (List.mem_of_getElem? (i := 224) rfl)) rfl
theorem wg_465 : Jvm.Cond.instanceMethod ({ cls := "HairLine$Signs", name := "add", desc := "(I)I" } : Jvm.MethodName) ∈ gw := gm (tm2 (List.mem_of_getElem? (i := 225) rfl)) rfl
theorem wg_466 : Jvm.Cond.selects "HairLine$Signs" ({ cls := "HairLine$Signs", name := "add", desc := "(I)I" } : Jvm.MethodName) ({ cls := "HairLine$Signs", name := "add", desc := "(I)I" } : Jvm.MethodName) ∈ gw := gm (tm2 (List.mem_of_getElem? (i := 226) rfl)) rfl
theorem wg_467 : Jvm.Cond.code ({ cls := "HairLine$Signs", name := "add", desc := "(I)I" } : Jvm.MethodName) prog_7_method_2_code (2 : Nat) (Option.some Jvm.ClassFile.FieldType.int) ∈ gw := gm (tm2 (List.mem_of_getElem? (i := 227) rfl)) rfl
theorem wg_468 : Jvm.Cond.methodLink "HairLineLaw" (94 : Nat) ({ cls := "HairLine", name := "wipe", desc := "()I" } : Jvm.MethodName) ∈ gw := gm (tm2 (List.mem_of_getElem? (i := 228) rfl)) rfl
theorem wg_469 : Jvm.Cond.instanceMethod ({ cls := "HairLine", name := "wipe", desc := "()I" } : Jvm.MethodName) ∈ gw := gm (tm2 (List.mem_of_getElem? (i := 229) rfl)) rfl
theorem wg_470 : Jvm.Cond.selects "HairLine" ({ cls := "HairLine", name := "wipe", desc := "()I" } : Jvm.MethodName) ({ cls := "HairLine", name := "wipe", desc := "()I" } : Jvm.MethodName) ∈ gw := gm (tm2 (List.mem_of_getElem? (i := 230) rfl)) rfl
theorem wg_471 : Jvm.Cond.code ({ cls := "HairLine", name := "wipe", desc := "()I" } : Jvm.MethodName) prog_1_method_21_code (2 : Nat) (Option.some Jvm.ClassFile.FieldType.int) ∈ gw := gm (tm2 (List.mem_of_getElem? (i := 231) rfl)) rfl
theorem wg_472 : Jvm.Cond.methodLink "HairLineLaw" (99 : Nat) ({ cls := "HairLine", name := "fault", desc := "()I" } : Jvm.MethodName) ∈ gw := gm (tm2 (List.mem_of_getElem? (i := 232) rfl)) rfl
theorem wg_473 : Jvm.Cond.instanceMethod ({ cls := "HairLine", name := "fault", desc := "()I" } : Jvm.MethodName) ∈ gw := gm (tm2 (List.mem_of_getElem? (i := 233) rfl)) rfl
theorem wg_474 : Jvm.Cond.selects "HairLine" ({ cls := "HairLine", name := "fault", desc := "()I" } : Jvm.MethodName) ({ cls := "HairLine", name := "fault", desc := "()I" } : Jvm.MethodName) ∈ gw := gm (tm2 (List.mem_of_getElem? (i := 234) rfl)) rfl
theorem wg_475 : Jvm.Cond.code ({ cls := "HairLine", name := "fault", desc := "()I" } : Jvm.MethodName) prog_1_method_22_code (1 : Nat) (Option.some Jvm.ClassFile.FieldType.int) ∈ gw := gm (tm2 (List.mem_of_getElem? (i := 235) rfl)) rfl
theorem wg_476 : Jvm.Cond.methodLink "HairLine" (207 : Nat) ({ cls := "HairLine$Signs", name := "firstFault", desc := "()I" } : Jvm.MethodName) ∈ gw := gm (tm2 (List.mem_of_getElem? (i := 236) rfl)) rfl
theorem wg_477 : Jvm.Cond.instanceMethod ({ cls := "HairLine$Signs", name := "firstFault", desc := "()I" } : Jvm.MethodName) ∈ gw := gm (tm2 (List.mem_of_getElem? (i := 237) rfl)) rfl
theorem wg_478 : Jvm.Cond.selects "HairLine$Signs" ({ cls := "HairLine$Signs", name := "firstFault", desc := "()I" } : Jvm.MethodName) ({ cls := "HairLine$Signs", name := "firstFault", desc := "()I" } : Jvm.MethodName) ∈ gw := gm (tm2 (List.mem_of_getElem? (i := 238) rfl)) rfl
theorem wg_479 : Jvm.Cond.code ({ cls := "HairLine$Signs", name := "firstFault", desc := "()I" } : Jvm.MethodName) prog_7_method_3_code (3 : Nat) (Option.some Jvm.ClassFile.FieldType.int) ∈ gw := gm (tm2 (List.mem_of_getElem? (i := 239) rfl)) rfl
theorem wg_480 : Jvm.Cond.methodLink "HairLine$Signs" (19 : Nat) ({ cls := "HairLine$Signs", name := "next", desc := "(II)I" } : Jvm.MethodName) ∈ gw := gm (tm3 (List.mem_of_getElem? (i := 0) rfl)) rfl
theorem wg_481 : Jvm.Cond.static ({ cls := "HairLine$Signs", name := "next", desc := "(II)I" } : Jvm.MethodName) ∈ gw := gm (tm3 (List.mem_of_getElem? (i := 1) rfl)) rfl
theorem wg_482 : Jvm.Cond.code ({ cls := "HairLine$Signs", name := "next", desc := "(II)I" } : Jvm.MethodName) prog_7_method_4_code (2 : Nat) (Option.some Jvm.ClassFile.FieldType.int) ∈ gw := gm (tm3 (List.mem_of_getElem? (i := 2) rfl)) rfl
theorem wg_483 : Jvm.Cond.methodLink "HairLine$Signs" (23 : Nat) ({ cls := "HairLine$Signs", name := "isFactSign", desc := "(I)Z" } : Jvm.MethodName) ∈ gw := gm (tm3 (List.mem_of_getElem? (i := 3) rfl)) rfl
theorem wg_484 : Jvm.Cond.static ({ cls := "HairLine$Signs", name := "isFactSign", desc := "(I)Z" } : Jvm.MethodName) ∈ gw := gm (tm3 (List.mem_of_getElem? (i := 4) rfl)) rfl
theorem wg_485 : Jvm.Cond.code ({ cls := "HairLine$Signs", name := "isFactSign", desc := "(I)Z" } : Jvm.MethodName) prog_7_method_6_code (1 : Nat) (Option.some Jvm.ClassFile.FieldType.boolean) ∈ gw := gm (tm3 (List.mem_of_getElem? (i := 5) rfl)) rfl
theorem wg_486 : Jvm.Cond.methodLink "HairLine$Signs" (27 : Nat) ({ cls := "HairLine$Signs", name := "isRelation", desc := "(I)Z" } : Jvm.MethodName) ∈ gw := gm (tm3 (List.mem_of_getElem? (i := 6) rfl)) rfl
theorem wg_487 : Jvm.Cond.static ({ cls := "HairLine$Signs", name := "isRelation", desc := "(I)Z" } : Jvm.MethodName) ∈ gw := gm (tm3 (List.mem_of_getElem? (i := 7) rfl)) rfl
theorem wg_488 : Jvm.Cond.code ({ cls := "HairLine$Signs", name := "isRelation", desc := "(I)Z" } : Jvm.MethodName) prog_7_method_7_code (1 : Nat) (Option.some Jvm.ClassFile.FieldType.boolean) ∈ gw := gm (tm3 (List.mem_of_getElem? (i := 8) rfl)) rfl
theorem wg_489 : Jvm.Cond.methodLink "HairLine$Signs" (30 : Nat) ({ cls := "HairLine$Signs", name := "isDigit", desc := "(I)Z" } : Jvm.MethodName) ∈ gw := gm (tm3 (List.mem_of_getElem? (i := 9) rfl)) rfl
theorem wg_490 : Jvm.Cond.static ({ cls := "HairLine$Signs", name := "isDigit", desc := "(I)Z" } : Jvm.MethodName) ∈ gw := gm (tm3 (List.mem_of_getElem? (i := 10) rfl)) rfl
theorem wg_491 : Jvm.Cond.code ({ cls := "HairLine$Signs", name := "isDigit", desc := "(I)Z" } : Jvm.MethodName) prog_7_method_8_code (1 : Nat) (Option.some Jvm.ClassFile.FieldType.boolean) ∈ gw := gm (tm3 (List.mem_of_getElem? (i := 11) rfl)) rfl
theorem wm_492 : Jvm.Cond.methodLinkNest "HairLine$Signs" (36 : Nat) ({ cls := "HairLine", name := "within", desc := "(III)Z" } : Jvm.MethodName) "HairLine" ∈ lw_tbl := tm3 (List.mem_of_getElem? (i := 12) rfl)
theorem wg_493 : Jvm.Cond.methodLink "HairLine$Signs" (33 : Nat) ({ cls := "HairLine$Signs", name := "afterDigit", desc := "(II)I" } : Jvm.MethodName) ∈ gw := gm (tm3 (List.mem_of_getElem? (i := 13) rfl)) rfl
theorem wg_494 : Jvm.Cond.static ({ cls := "HairLine$Signs", name := "afterDigit", desc := "(II)I" } : Jvm.MethodName) ∈ gw := gm (tm3 (List.mem_of_getElem? (i := 14) rfl)) rfl
theorem wg_495 : Jvm.Cond.code ({ cls := "HairLine$Signs", name := "afterDigit", desc := "(II)I" } : Jvm.MethodName) prog_7_method_5_code (2 : Nat) (Option.some Jvm.ClassFile.FieldType.int) ∈ gw := gm (tm3 (List.mem_of_getElem? (i := 15) rfl)) rfl
theorem wg_496 : Jvm.Cond.methodLink "HairLineLaw" (103 : Nat) ({ cls := "HairLine", name := "rule", desc := "()I" } : Jvm.MethodName) ∈ gw := gm (tm3 (List.mem_of_getElem? (i := 16) rfl)) rfl
theorem wg_497 : Jvm.Cond.instanceMethod ({ cls := "HairLine", name := "rule", desc := "()I" } : Jvm.MethodName) ∈ gw := gm (tm3 (List.mem_of_getElem? (i := 17) rfl)) rfl
theorem wg_498 : Jvm.Cond.selects "HairLine" ({ cls := "HairLine", name := "rule", desc := "()I" } : Jvm.MethodName) ({ cls := "HairLine", name := "rule", desc := "()I" } : Jvm.MethodName) ∈ gw := gm (tm3 (List.mem_of_getElem? (i := 18) rfl)) rfl
theorem wg_499 : Jvm.Cond.code ({ cls := "HairLine", name := "rule", desc := "()I" } : Jvm.MethodName) prog_1_method_23_code (1 : Nat) (Option.some Jvm.ClassFile.FieldType.int) ∈ gw := gm (tm3 (List.mem_of_getElem? (i := 19) rfl)) rfl
theorem wg_500 : Jvm.Cond.methodLink "HairLine" (210 : Nat) ({ cls := "HairLine$Lines", name := "read", desc := "(LHairLine$Signs;)V" } : Jvm.MethodName) ∈ gw := gm (tm3 (List.mem_of_getElem? (i := 20) rfl)) rfl
theorem wg_501 : Jvm.Cond.instanceMethod ({ cls := "HairLine$Lines", name := "read", desc := "(LHairLine$Signs;)V" } : Jvm.MethodName) ∈ gw := gm (tm3 (List.mem_of_getElem? (i := 21) rfl)) rfl
theorem wg_502 : Jvm.Cond.selects "HairLine$Lines" ({ cls := "HairLine$Lines", name := "read", desc := "(LHairLine$Signs;)V" } : Jvm.MethodName) ({ cls := "HairLine$Lines", name := "read", desc := "(LHairLine$Signs;)V" } : Jvm.MethodName) ∈ gw := gm (tm3 (List.mem_of_getElem? (i := 22) rfl)) rfl
theorem wg_503 : Jvm.Cond.code ({ cls := "HairLine$Lines", name := "read", desc := "(LHairLine$Signs;)V" } : Jvm.MethodName) prog_2_method_2_code (3 : Nat) (Option.none : Option Jvm.ClassFile.FieldType) ∈ gw := gm (tm3 (List.mem_of_getElem? (i := 23) rfl)) rfl
theorem wg_504 : Jvm.Cond.methodLink "HairLine$Lines" (34 : Nat) ({ cls := "HairLine$Lines", name := "take", desc := "(I)V" } : Jvm.MethodName) ∈ gw := gm (tm3 (List.mem_of_getElem? (i := 24) rfl)) rfl
theorem wg_505 : Jvm.Cond.instanceMethod ({ cls := "HairLine$Lines", name := "take", desc := "(I)V" } : Jvm.MethodName) ∈ gw := gm (tm3 (List.mem_of_getElem? (i := 25) rfl)) rfl
theorem wg_506 : Jvm.Cond.selects "HairLine$Lines" ({ cls := "HairLine$Lines", name := "take", desc := "(I)V" } : Jvm.MethodName) ({ cls := "HairLine$Lines", name := "take", desc := "(I)V" } : Jvm.MethodName) ∈ gw := gm (tm3 (List.mem_of_getElem? (i := 26) rfl)) rfl
theorem wg_507 : Jvm.Cond.code ({ cls := "HairLine$Lines", name := "take", desc := "(I)V" } : Jvm.MethodName) prog_2_method_3_code (3 : Nat) (Option.none : Option Jvm.ClassFile.FieldType) ∈ gw := gm (tm3 (List.mem_of_getElem? (i := 27) rfl)) rfl
theorem wg_508 : Jvm.Cond.methodLink "HairLine$Lines" (38 : Nat) ({ cls := "HairLine$Signs", name := "isFactSign", desc := "(I)Z" } : Jvm.MethodName) ∈ gw := gm (tm3 (List.mem_of_getElem? (i := 28) rfl)) rfl
theorem wg_509 : Jvm.Cond.methodLink "HairLine$Lines" (42 : Nat) ({ cls := "HairLine$Lines", name := "open", desc := "(I)V" } : Jvm.MethodName) ∈ gw := gm (tm3 (List.mem_of_getElem? (i := 29) rfl)) rfl
theorem wg_510 : Jvm.Cond.instanceMethod ({ cls := "HairLine$Lines", name := "open", desc := "(I)V" } : Jvm.MethodName) ∈ gw := gm (tm3 (List.mem_of_getElem? (i := 30) rfl)) rfl
theorem wg_511 : Jvm.Cond.selects "HairLine$Lines" ({ cls := "HairLine$Lines", name := "open", desc := "(I)V" } : Jvm.MethodName) ({ cls := "HairLine$Lines", name := "open", desc := "(I)V" } : Jvm.MethodName) ∈ gw := gm (tm3 (List.mem_of_getElem? (i := 31) rfl)) rfl
theorem wg_512 : Jvm.Cond.code ({ cls := "HairLine$Lines", name := "open", desc := "(I)V" } : Jvm.MethodName) prog_2_method_4_code (2 : Nat) (Option.none : Option Jvm.ClassFile.FieldType) ∈ gw := gm (tm3 (List.mem_of_getElem? (i := 32) rfl)) rfl
theorem wg_513 : Jvm.Cond.methodLink "HairLine$Lines" (45 : Nat) ({ cls := "HairLine$Signs", name := "isRelation", desc := "(I)Z" } : Jvm.MethodName) ∈ gw := gm (tm3 (List.mem_of_getElem? (i := 33) rfl)) rfl
theorem wg_514 : Jvm.Cond.methodLink "HairLine$Lines" (48 : Nat) ({ cls := "HairLine$Signs", name := "isDigit", desc := "(I)Z" } : Jvm.MethodName) ∈ gw := gm (tm3 (List.mem_of_getElem? (i := 34) rfl)) rfl
theorem wg_515 : Jvm.Cond.methodLink "HairLineLaw" (107 : Nat) ({ cls := "HairLine", name := "record", desc := "(IIII)I" } : Jvm.MethodName) ∈ gw := gm (tm3 (List.mem_of_getElem? (i := 35) rfl)) rfl
theorem wg_516 : Jvm.Cond.instanceMethod ({ cls := "HairLine", name := "record", desc := "(IIII)I" } : Jvm.MethodName) ∈ gw := gm (tm3 (List.mem_of_getElem? (i := 36) rfl)) rfl
theorem wg_517 : Jvm.Cond.selects "HairLine" ({ cls := "HairLine", name := "record", desc := "(IIII)I" } : Jvm.MethodName) ({ cls := "HairLine", name := "record", desc := "(IIII)I" } : Jvm.MethodName) ∈ gw := gm (tm3 (List.mem_of_getElem? (i := 37) rfl)) rfl
theorem wg_518 : Jvm.Cond.code ({ cls := "HairLine", name := "record", desc := "(IIII)I" } : Jvm.MethodName) prog_1_method_24_code (7 : Nat) (Option.some Jvm.ClassFile.FieldType.int) ∈ gw := gm (tm3 (List.mem_of_getElem? (i := 38) rfl)) rfl
theorem wg_519 : Jvm.Cond.methodLink "HairLine" (215 : Nat) ({ cls := "HairLine", name := "isFact", desc := "(I)Z" } : Jvm.MethodName) ∈ gw := gm (tm3 (List.mem_of_getElem? (i := 39) rfl)) rfl
theorem wg_520 : Jvm.Cond.static ({ cls := "HairLine", name := "isFact", desc := "(I)Z" } : Jvm.MethodName) ∈ gw := gm (tm3 (List.mem_of_getElem? (i := 40) rfl)) rfl
theorem wg_521 : Jvm.Cond.code ({ cls := "HairLine", name := "isFact", desc := "(I)Z" } : Jvm.MethodName) prog_1_method_33_code (1 : Nat) (Option.some Jvm.ClassFile.FieldType.boolean) ∈ gw := gm (tm3 (List.mem_of_getElem? (i := 41) rfl)) rfl
theorem wg_522 : Jvm.Cond.methodLink "HairLine" (221 : Nat) ({ cls := "HairLine", name := "chosen", desc := "(IIIII)I" } : Jvm.MethodName) ∈ gw := gm (tm3 (List.mem_of_getElem? (i := 42) rfl)) rfl
theorem wg_523 : Jvm.Cond.static ({ cls := "HairLine", name := "chosen", desc := "(IIIII)I" } : Jvm.MethodName) ∈ gw := gm (tm3 (List.mem_of_getElem? (i := 43) rfl)) rfl
theorem wg_524 : Jvm.Cond.code ({ cls := "HairLine", name := "chosen", desc := "(IIIII)I" } : Jvm.MethodName) prog_1_method_41_code (5 : Nat) (Option.some Jvm.ClassFile.FieldType.int) ∈ gw := gm (tm3 (List.mem_of_getElem? (i := 44) rfl)) rfl
theorem wg_525 : Jvm.Cond.methodLink "HairLine" (225 : Nat) ({ cls := "HairLine$Lines", name := "isSo", desc := "(II)Z" } : Jvm.MethodName) ∈ gw := gm (tm3 (List.mem_of_getElem? (i := 45) rfl)) rfl
theorem wg_526 : Jvm.Cond.instanceMethod ({ cls := "HairLine$Lines", name := "isSo", desc := "(II)Z" } : Jvm.MethodName) ∈ gw := gm (tm3 (List.mem_of_getElem? (i := 46) rfl)) rfl
theorem wg_527 : Jvm.Cond.selects "HairLine$Lines" ({ cls := "HairLine$Lines", name := "isSo", desc := "(II)Z" } : Jvm.MethodName) ({ cls := "HairLine$Lines", name := "isSo", desc := "(II)Z" } : Jvm.MethodName) ∈ gw := gm (tm3 (List.mem_of_getElem? (i := 47) rfl)) rfl
theorem wg_528 : Jvm.Cond.code ({ cls := "HairLine$Lines", name := "isSo", desc := "(II)Z" } : Jvm.MethodName) prog_2_method_5_code (4 : Nat) (Option.some Jvm.ClassFile.FieldType.boolean) ∈ gw := gm (tm3 (List.mem_of_getElem? (i := 48) rfl)) rfl
theorem wg_529 : Jvm.Cond.methodLink "HairLineLaw" (112 : Nat) ({ cls := "HairLine", name := "slit", desc := "(II)I" } : Jvm.MethodName) ∈ gw := gm (tm3 (List.mem_of_getElem? (i := 49) rfl)) rfl
theorem wg_530 : Jvm.Cond.instanceMethod ({ cls := "HairLine", name := "slit", desc := "(II)I" } : Jvm.MethodName) ∈ gw := gm (tm3 (List.mem_of_getElem? (i := 50) rfl)) rfl
theorem wg_531 : Jvm.Cond.selects "HairLine" ({ cls := "HairLine", name := "slit", desc := "(II)I" } : Jvm.MethodName) ({ cls := "HairLine", name := "slit", desc := "(II)I" } : Jvm.MethodName) ∈ gw := gm (tm3 (List.mem_of_getElem? (i := 51) rfl)) rfl
theorem wg_532 : Jvm.Cond.code ({ cls := "HairLine", name := "slit", desc := "(II)I" } : Jvm.MethodName) prog_1_method_25_code (3 : Nat) (Option.some Jvm.ClassFile.FieldType.int) ∈ gw := gm (tm3 (List.mem_of_getElem? (i := 52) rfl)) rfl
theorem wg_533 : Jvm.Cond.methodLink "HairLine" (228 : Nat) ({ cls := "HairLine$Rack", name := "add", desc := "(II)I" } : Jvm.MethodName) ∈ gw := gm (tm3 (List.mem_of_getElem? (i := 53) rfl)) rfl
theorem wg_534 : Jvm.Cond.instanceMethod ({ cls := "HairLine$Rack", name := "add", desc := "(II)I" } : Jvm.MethodName) ∈ gw := gm (tm3 (List.mem_of_getElem? (i := 54) rfl)) rfl
theorem wg_535 : Jvm.Cond.selects "HairLine$Rack" ({ cls := "HairLine$Rack", name := "add", desc := "(II)I" } : Jvm.MethodName) ({ cls := "HairLine$Rack", name := "add", desc := "(II)I" } : Jvm.MethodName) ∈ gw := gm (tm3 (List.mem_of_getElem? (i := 55) rfl)) rfl
theorem wg_536 : Jvm.Cond.code ({ cls := "HairLine$Rack", name := "add", desc := "(II)I" } : Jvm.MethodName) prog_4_method_2_code (3 : Nat) (Option.some Jvm.ClassFile.FieldType.int) ∈ gw := gm (tm3 (List.mem_of_getElem? (i := 56) rfl)) rfl
theorem wg_537 : Jvm.Cond.methodLink "HairLineLaw" (116 : Nat) ({ cls := "HairLine", name := "seen", desc := "(II)I" } : Jvm.MethodName) ∈ gw := gm (tm3 (List.mem_of_getElem? (i := 57) rfl)) rfl
theorem wg_538 : Jvm.Cond.instanceMethod ({ cls := "HairLine", name := "seen", desc := "(II)I" } : Jvm.MethodName) ∈ gw := gm (tm3 (List.mem_of_getElem? (i := 58) rfl)) rfl
theorem wg_539 : Jvm.Cond.selects "HairLine" ({ cls := "HairLine", name := "seen", desc := "(II)I" } : Jvm.MethodName) ({ cls := "HairLine", name := "seen", desc := "(II)I" } : Jvm.MethodName) ∈ gw := gm (tm3 (List.mem_of_getElem? (i := 59) rfl)) rfl
theorem wg_540 : Jvm.Cond.code ({ cls := "HairLine", name := "seen", desc := "(II)I" } : Jvm.MethodName) prog_1_method_26_code (4 : Nat) (Option.some Jvm.ClassFile.FieldType.int) ∈ gw := gm (tm3 (List.mem_of_getElem? (i := 60) rfl)) rfl
theorem wg_541 : Jvm.Cond.methodLink "HairLine" (231 : Nat) ({ cls := "HairLine$Rack", name := "look", desc := "(LHairLine$Track;)V" } : Jvm.MethodName) ∈ gw := gm (tm3 (List.mem_of_getElem? (i := 61) rfl)) rfl
theorem wg_542 : Jvm.Cond.instanceMethod ({ cls := "HairLine$Rack", name := "look", desc := "(LHairLine$Track;)V" } : Jvm.MethodName) ∈ gw := gm (tm3 (List.mem_of_getElem? (i := 62) rfl)) rfl
theorem wg_543 : Jvm.Cond.selects "HairLine$Rack" ({ cls := "HairLine$Rack", name := "look", desc := "(LHairLine$Track;)V" } : Jvm.MethodName) ({ cls := "HairLine$Rack", name := "look", desc := "(LHairLine$Track;)V" } : Jvm.MethodName) ∈ gw := gm (tm3 (List.mem_of_getElem? (i := 63) rfl)) rfl
theorem wg_544 : Jvm.Cond.code ({ cls := "HairLine$Rack", name := "look", desc := "(LHairLine$Track;)V" } : Jvm.MethodName) prog_4_method_3_code (4 : Nat) (Option.none : Option Jvm.ClassFile.FieldType) ∈ gw := gm (tm3 (List.mem_of_getElem? (i := 64) rfl)) rfl
theorem wg_545 : Jvm.Cond.methodLink "HairLine$Rack" (28 : Nat) ({ cls := "HairLine$Rack", name := "catches", desc := "(IILHairLine$Track;)Z" } : Jvm.MethodName) ∈ gw := gm (tm3 (List.mem_of_getElem? (i := 65) rfl)) rfl
theorem wg_546 : Jvm.Cond.instanceMethod ({ cls := "HairLine$Rack", name := "catches", desc := "(IILHairLine$Track;)Z" } : Jvm.MethodName) ∈ gw := gm (tm3 (List.mem_of_getElem? (i := 66) rfl)) rfl
theorem wg_547 : Jvm.Cond.selects "HairLine$Rack" ({ cls := "HairLine$Rack", name := "catches", desc := "(IILHairLine$Track;)Z" } : Jvm.MethodName) ({ cls := "HairLine$Rack", name := "catches", desc := "(IILHairLine$Track;)Z" } : Jvm.MethodName) ∈ gw := gm (tm3 (List.mem_of_getElem? (i := 67) rfl)) rfl
theorem wg_548 : Jvm.Cond.code ({ cls := "HairLine$Rack", name := "catches", desc := "(IILHairLine$Track;)Z" } : Jvm.MethodName) prog_4_method_4_code (7 : Nat) (Option.some Jvm.ClassFile.FieldType.boolean) ∈ gw := gm (tm3 (List.mem_of_getElem? (i := 68) rfl)) rfl
theorem wg_549 : Jvm.Cond.methodLink "HairLine$Rack" (32 : Nat) ({ cls := "HairLine$Track", name := "leaned", desc := "(I)I" } : Jvm.MethodName) ∈ gw := gm (tm3 (List.mem_of_getElem? (i := 69) rfl)) rfl
theorem wg_550 : Jvm.Cond.methodLink "HairLine$Rack" (36 : Nat) ({ cls := "HairLine$Track", name := "film", desc := "(III)I" } : Jvm.MethodName) ∈ gw := gm (tm3 (List.mem_of_getElem? (i := 70) rfl)) rfl
theorem wm_551 : Jvm.Cond.methodLinkNest "HairLine$Rack" (40 : Nat) ({ cls := "HairLine", name := "torsoMark", desc := "(I)I" } : Jvm.MethodName) "HairLine" ∈ lw_tbl := tm3 (List.mem_of_getElem? (i := 71) rfl)
theorem wg_552 : Jvm.Cond.methodLink "HairLine" (235 : Nat) ({ cls := "HairLine$Rack", name := "seenBy", desc := "(I)I" } : Jvm.MethodName) ∈ gw := gm (tm3 (List.mem_of_getElem? (i := 72) rfl)) rfl
theorem wg_553 : Jvm.Cond.instanceMethod ({ cls := "HairLine$Rack", name := "seenBy", desc := "(I)I" } : Jvm.MethodName) ∈ gw := gm (tm3 (List.mem_of_getElem? (i := 73) rfl)) rfl
theorem wg_554 : Jvm.Cond.selects "HairLine$Rack" ({ cls := "HairLine$Rack", name := "seenBy", desc := "(I)I" } : Jvm.MethodName) ({ cls := "HairLine$Rack", name := "seenBy", desc := "(I)I" } : Jvm.MethodName) ∈ gw := gm (tm3 (List.mem_of_getElem? (i := 74) rfl)) rfl
theorem wg_555 : Jvm.Cond.code ({ cls := "HairLine$Rack", name := "seenBy", desc := "(I)I" } : Jvm.MethodName) prog_4_method_5_code (4 : Nat) (Option.some Jvm.ClassFile.FieldType.int) ∈ gw := gm (tm3 (List.mem_of_getElem? (i := 75) rfl)) rfl
theorem wg_556 : Jvm.Cond.methodLink "HairLine" (238 : Nat) ({ cls := "HairLine$Track", name := "countTorsos", desc := "()I" } : Jvm.MethodName) ∈ gw := gm (tm3 (List.mem_of_getElem? (i := 76) rfl)) rfl
theorem wg_557 : Jvm.Cond.instanceMethod ({ cls := "HairLine$Track", name := "countTorsos", desc := "()I" } : Jvm.MethodName) ∈ gw := gm (tm3 (List.mem_of_getElem? (i := 77) rfl)) rfl
theorem wg_558 : Jvm.Cond.selects "HairLine$Track" ({ cls := "HairLine$Track", name := "countTorsos", desc := "()I" } : Jvm.MethodName) ({ cls := "HairLine$Track", name := "countTorsos", desc := "()I" } : Jvm.MethodName) ∈ gw := gm (tm3 (List.mem_of_getElem? (i := 78) rfl)) rfl
theorem wg_559 : Jvm.Cond.code ({ cls := "HairLine$Track", name := "countTorsos", desc := "()I" } : Jvm.MethodName) prog_9_method_14_code (3 : Nat) (Option.some Jvm.ClassFile.FieldType.int) ∈ gw := gm (tm3 (List.mem_of_getElem? (i := 79) rfl)) rfl
theorem wg_560 : Jvm.Cond.methodLink "HairLine" (241 : Nat) ({ cls := "HairLine", name := "untold", desc := "(II)I" } : Jvm.MethodName) ∈ gw := gm (tm3 (List.mem_of_getElem? (i := 80) rfl)) rfl
theorem wg_561 : Jvm.Cond.static ({ cls := "HairLine", name := "untold", desc := "(II)I" } : Jvm.MethodName) ∈ gw := gm (tm3 (List.mem_of_getElem? (i := 81) rfl)) rfl
theorem wg_562 : Jvm.Cond.code ({ cls := "HairLine", name := "untold", desc := "(II)I" } : Jvm.MethodName) prog_1_method_43_code (2 : Nat) (Option.some Jvm.ClassFile.FieldType.int) ∈ gw := gm (tm3 (List.mem_of_getElem? (i := 82) rfl)) rfl
theorem wg_563 : Jvm.Cond.methodLink "HairLine" (259 : Nat) ({ cls := "HairLine", name := "pairsOf", desc := "(I)I" } : Jvm.MethodName) ∈ gw := gm (tm3 (List.mem_of_getElem? (i := 83) rfl)) rfl
theorem wg_564 : Jvm.Cond.static ({ cls := "HairLine", name := "pairsOf", desc := "(I)I" } : Jvm.MethodName) ∈ gw := gm (tm3 (List.mem_of_getElem? (i := 84) rfl)) rfl
theorem wg_565 : Jvm.Cond.code ({ cls := "HairLine", name := "pairsOf", desc := "(I)I" } : Jvm.MethodName) prog_1_method_42_code (1 : Nat) (Option.some Jvm.ClassFile.FieldType.int) ∈ gw := gm (tm3 (List.mem_of_getElem? (i := 85) rfl)) rfl
theorem wg_566 : Jvm.Cond.methodLink "HairLine" (244 : Nat) ({ cls := "java/lang/Integer", name := "bitCount", desc := "(I)I" } : Jvm.MethodName) ∈ gw := gm (tm3 (List.mem_of_getElem? (i := 86) rfl)) rfl
theorem wg_567 : Jvm.Cond.static ({ cls := "java/lang/Integer", name := "bitCount", desc := "(I)I" } : Jvm.MethodName) ∈ gw := gm (tm3 (List.mem_of_getElem? (i := 87) rfl)) rfl
theorem wg_568 : Jvm.Cond.code ({ cls := "java/lang/Integer", name := "bitCount", desc := "(I)I" } : Jvm.MethodName) prog_12_method_49_code (1 : Nat) (Option.some Jvm.ClassFile.FieldType.int) ∈ gw := gm (tm3 (List.mem_of_getElem? (i := 88) rfl)) rfl
theorem wg_569 : Jvm.Cond.constant "java/lang/Integer" (265 : Nat) (1431655765 : Int32) ∈ gw := gm (tm3 (List.mem_of_getElem? (i := 89) rfl)) rfl
theorem wg_570 : Jvm.Cond.constant "java/lang/Integer" (266 : Nat) (858993459 : Int32) ∈ gw := gm (tm3 (List.mem_of_getElem? (i := 90) rfl)) rfl
theorem wg_571 : Jvm.Cond.constant "java/lang/Integer" (267 : Nat) (252645135 : Int32) ∈ gw := gm (tm3 (List.mem_of_getElem? (i := 91) rfl)) rfl
theorem wg_572 : Jvm.Cond.methodLink "HairLineLaw" (120 : Nat) ({ cls := "HairLine", name := "best", desc := "(II)I" } : Jvm.MethodName) ∈ gw := gm (tm3 (List.mem_of_getElem? (i := 92) rfl)) rfl
theorem wg_573 : Jvm.Cond.instanceMethod ({ cls := "HairLine", name := "best", desc := "(II)I" } : Jvm.MethodName) ∈ gw := gm (tm3 (List.mem_of_getElem? (i := 93) rfl)) rfl
theorem wg_574 : Jvm.Cond.selects "HairLine" ({ cls := "HairLine", name := "best", desc := "(II)I" } : Jvm.MethodName) ({ cls := "HairLine", name := "best", desc := "(II)I" } : Jvm.MethodName) ∈ gw := gm (tm3 (List.mem_of_getElem? (i := 94) rfl)) rfl
theorem wg_575 : Jvm.Cond.code ({ cls := "HairLine", name := "best", desc := "(II)I" } : Jvm.MethodName) prog_1_method_27_code (10 : Nat) (Option.some Jvm.ClassFile.FieldType.int) ∈ gw := gm (tm3 (List.mem_of_getElem? (i := 95) rfl)) rfl
theorem wg_576 : Jvm.Cond.methodLink "HairLineLaw" (124 : Nat) ({ cls := "HairLine", name := "told", desc := "(I)I" } : Jvm.MethodName) ∈ gw := gm (tm3 (List.mem_of_getElem? (i := 96) rfl)) rfl
theorem wg_577 : Jvm.Cond.instanceMethod ({ cls := "HairLine", name := "told", desc := "(I)I" } : Jvm.MethodName) ∈ gw := gm (tm3 (List.mem_of_getElem? (i := 97) rfl)) rfl
theorem wg_578 : Jvm.Cond.selects "HairLine" ({ cls := "HairLine", name := "told", desc := "(I)I" } : Jvm.MethodName) ({ cls := "HairLine", name := "told", desc := "(I)I" } : Jvm.MethodName) ∈ gw := gm (tm3 (List.mem_of_getElem? (i := 98) rfl)) rfl
theorem wg_579 : Jvm.Cond.code ({ cls := "HairLine", name := "told", desc := "(I)I" } : Jvm.MethodName) prog_1_method_28_code (2 : Nat) (Option.some Jvm.ClassFile.FieldType.int) ∈ gw := gm (tm3 (List.mem_of_getElem? (i := 99) rfl)) rfl
theorem wg_580 : Jvm.Cond.classLink "HairLineLaw" (10 : Nat) "HairLineModel" ∈ gw := gm (tm3 (List.mem_of_getElem? (i := 100) rfl)) rfl
theorem wg_581 : Jvm.Cond.instantiable "HairLineModel" (28 : Nat) ∈ gw := gm (tm3 (List.mem_of_getElem? (i := 101) rfl)) rfl
theorem wg_582 : Jvm.Cond.methodLink "HairLineLaw" (12 : Nat) ({ cls := "HairLineModel", name := "<init>", desc := "()V" } : Jvm.MethodName) ∈ gw := gm (tm3 (List.mem_of_getElem? (i := 102) rfl)) rfl
theorem wg_583 : Jvm.Cond.instanceMethod ({ cls := "HairLineModel", name := "<init>", desc := "()V" } : Jvm.MethodName) ∈ gw := gm (tm3 (List.mem_of_getElem? (i := 103) rfl)) rfl
theorem wg_584 : Jvm.Cond.code ({ cls := "HairLineModel", name := "<init>", desc := "()V" } : Jvm.MethodName) prog_11_method_1_code (2 : Nat) (Option.none : Option Jvm.ClassFile.FieldType) ∈ gw := gm (tm3 (List.mem_of_getElem? (i := 104) rfl)) rfl
theorem wg_585 : Jvm.Cond.methodLink "HairLineModel" (1 : Nat) ({ cls := "java/lang/Object", name := "<init>", desc := "()V" } : Jvm.MethodName) ∈ gw := gm (tm3 (List.mem_of_getElem? (i := 105) rfl)) rfl
theorem wg_586 : Jvm.Cond.fieldLink "HairLineModel" (7 : Nat) "HairLineModel" "begins" "[I" ∈ gw := gm (tm3 (List.mem_of_getElem? (i := 106) rfl)) rfl
theorem wg_587 : Jvm.Cond.fieldLink "HairLineModel" (13 : Nat) "HairLineModel" "speedOf" "[I" ∈ gw := gm (tm3 (List.mem_of_getElem? (i := 107) rfl)) rfl
theorem wg_588 : Jvm.Cond.fieldLink "HairLineModel" (16 : Nat) "HairLineModel" "isShape" "[Z" ∈ gw := gm (tm3 (List.mem_of_getElem? (i := 108) rfl)) rfl
theorem wg_589 : Jvm.Cond.fieldLink "HairLineModel" (20 : Nat) "HairLineModel" "shapeFrom" "[I" ∈ gw := gm (tm3 (List.mem_of_getElem? (i := 109) rfl)) rfl
theorem wg_590 : Jvm.Cond.fieldLink "HairLineModel" (23 : Nat) "HairLineModel" "shapeTo" "[I" ∈ gw := gm (tm3 (List.mem_of_getElem? (i := 110) rfl)) rfl
theorem wg_591 : Jvm.Cond.fieldLink "HairLineModel" (26 : Nat) "HairLineModel" "pushes" "[I" ∈ gw := gm (tm3 (List.mem_of_getElem? (i := 111) rfl)) rfl
theorem wg_592 : Jvm.Cond.fieldLink "HairLineModel" (66 : Nat) "HairLineModel" "runners" "I" ∈ gw := gm (tm3 (List.mem_of_getElem? (i := 112) rfl)) rfl
theorem wg_593 : Jvm.Cond.fieldLink "HairLineModel" (94 : Nat) "HairLineModel" "leanIs" "I" ∈ gw := gm (tm3 (List.mem_of_getElem? (i := 113) rfl)) rfl
theorem wg_594 : Jvm.Cond.fieldLink "HairLineModel" (97 : Nat) "HairLineModel" "readIs" "I" ∈ gw := gm (tm3 (List.mem_of_getElem? (i := 114) rfl)) rfl
theorem wg_595 : Jvm.Cond.fieldLink "HairLineModel" (62 : Nat) "HairLineModel" "earIs" "I" ∈ gw := gm (tm3 (List.mem_of_getElem? (i := 115) rfl)) rfl
theorem wg_596 : Jvm.Cond.fieldLink "HairLineModel" (100 : Nat) "HairLineModel" "gunIs" "I" ∈ gw := gm (tm3 (List.mem_of_getElem? (i := 116) rfl)) rfl
theorem wg_597 : Jvm.Cond.fieldLink "HairLineModel" (29 : Nat) "HairLineModel" "firstAt" "[I" ∈ gw := gm (tm3 (List.mem_of_getElem? (i := 117) rfl)) rfl
theorem wg_598 : Jvm.Cond.fieldLink "HairLineModel" (32 : Nat) "HairLineModel" "ordered" "[I" ∈ gw := gm (tm3 (List.mem_of_getElem? (i := 118) rfl)) rfl
theorem wg_599 : Jvm.Cond.fieldLink "HairLineModel" (150 : Nat) "HairLineModel" "orderMany" "I" ∈ gw := gm (tm3 (List.mem_of_getElem? (i := 119) rfl)) rfl
theorem wg_600 : Jvm.Cond.fieldLink "HairLineModel" (35 : Nat) "HairLineModel" "lateFrom" "[I" ∈ gw := gm (tm3 (List.mem_of_getElem? (i := 120) rfl)) rfl
theorem wg_601 : Jvm.Cond.fieldLink "HairLineModel" (38 : Nat) "HairLineModel" "lateTo" "[I" ∈ gw := gm (tm3 (List.mem_of_getElem? (i := 121) rfl)) rfl
theorem wg_602 : Jvm.Cond.fieldLink "HairLineModel" (41 : Nat) "HairLineModel" "told" "[I" ∈ gw := gm (tm3 (List.mem_of_getElem? (i := 122) rfl)) rfl
theorem wg_603 : Jvm.Cond.fieldLink "HairLineModel" (183 : Nat) "HairLineModel" "trueFrom" "I" ∈ gw := gm (tm3 (List.mem_of_getElem? (i := 123) rfl)) rfl
theorem wg_604 : Jvm.Cond.fieldLink "HairLineModel" (186 : Nat) "HairLineModel" "trueTo" "I" ∈ gw := gm (tm3 (List.mem_of_getElem? (i := 124) rfl)) rfl
theorem wg_605 : Jvm.Cond.fieldLink "HairLineModel" (44 : Nat) "HairLineModel" "signs" "[I" ∈ gw := gm (tm3 (List.mem_of_getElem? (i := 125) rfl)) rfl
theorem wg_606 : Jvm.Cond.fieldLink "HairLineModel" (198 : Nat) "HairLineModel" "signMany" "I" ∈ gw := gm (tm3 (List.mem_of_getElem? (i := 126) rfl)) rfl
theorem wg_607 : Jvm.Cond.fieldLink "HairLineModel" (47 : Nat) "HairLineModel" "factOf" "[I" ∈ gw := gm (tm3 (List.mem_of_getElem? (i := 127) rfl)) rfl
theorem wg_608 : Jvm.Cond.fieldLink "HairLineModel" (50 : Nat) "HairLineModel" "howOf" "[I" ∈ gw := gm (tm3 (List.mem_of_getElem? (i := 128) rfl)) rfl
theorem wg_609 : Jvm.Cond.fieldLink "HairLineModel" (53 : Nat) "HairLineModel" "numberIs" "[I" ∈ gw := gm (tm3 (List.mem_of_getElem? (i := 129) rfl)) rfl
theorem wg_610 : Jvm.Cond.fieldLink "HairLineModel" (217 : Nat) "HairLineModel" "lines" "I" ∈ gw := gm (tm3 (List.mem_of_getElem? (i := 130) rfl)) rfl
theorem wg_611 : Jvm.Cond.fieldLink "HairLineModel" (56 : Nat) "HairLineModel" "slitSide" "[I" ∈ gw := gm (tm3 (List.mem_of_getElem? (i := 131) rfl)) rfl
theorem wg_612 : Jvm.Cond.fieldLink "HairLineModel" (59 : Nat) "HairLineModel" "slitRows" "[I" ∈ gw := gm (tm3 (List.mem_of_getElem? (i := 132) rfl)) rfl
theorem wg_613 : Jvm.Cond.fieldLink "HairLineModel" (229 : Nat) "HairLineModel" "slits" "I" ∈ gw := gm (tm3 (List.mem_of_getElem? (i := 133) rfl)) rfl
theorem wg_614 : Jvm.Cond.laysFinal "HairLineModel" "HairLineModel" "begins" "[I" ∈ gw := gm (tm3 (List.mem_of_getElem? (i := 134) rfl)) rfl
theorem wg_616 : Jvm.Cond.laysFinal "HairLineModel" "HairLineModel" "speedOf" "[I" ∈ gw := gm (tm3 (List.mem_of_getElem? (i := 136) rfl)) rfl
theorem wg_618 : Jvm.Cond.laysFinal "HairLineModel" "HairLineModel" "isShape" "[Z" ∈ gw := gm (tm3 (List.mem_of_getElem? (i := 138) rfl)) rfl
theorem wg_620 : Jvm.Cond.laysFinal "HairLineModel" "HairLineModel" "shapeFrom" "[I" ∈ gw := gm (tm3 (List.mem_of_getElem? (i := 140) rfl)) rfl
theorem wg_622 : Jvm.Cond.laysFinal "HairLineModel" "HairLineModel" "shapeTo" "[I" ∈ gw := gm (tm3 (List.mem_of_getElem? (i := 142) rfl)) rfl
theorem wg_624 : Jvm.Cond.laysFinal "HairLineModel" "HairLineModel" "pushes" "[I" ∈ gw := gm (tm3 (List.mem_of_getElem? (i := 144) rfl)) rfl
theorem wg_626 : Jvm.Cond.lays "HairLineModel" "HairLineModel" "runners" "I" ∈ gw := gm (tm3 (List.mem_of_getElem? (i := 146) rfl)) rfl
theorem wg_628 : Jvm.Cond.lays "HairLineModel" "HairLineModel" "leanIs" "I" ∈ gw := gm (tm3 (List.mem_of_getElem? (i := 148) rfl)) rfl
theorem wg_630 : Jvm.Cond.lays "HairLineModel" "HairLineModel" "readIs" "I" ∈ gw := gm (tm3 (List.mem_of_getElem? (i := 150) rfl)) rfl
theorem wg_632 : Jvm.Cond.lays "HairLineModel" "HairLineModel" "earIs" "I" ∈ gw := gm (tm3 (List.mem_of_getElem? (i := 152) rfl)) rfl
theorem wg_634 : Jvm.Cond.lays "HairLineModel" "HairLineModel" "gunIs" "I" ∈ gw := gm (tm3 (List.mem_of_getElem? (i := 154) rfl)) rfl
theorem wg_636 : Jvm.Cond.laysFinal "HairLineModel" "HairLineModel" "firstAt" "[I" ∈ gw := gm (tm3 (List.mem_of_getElem? (i := 156) rfl)) rfl
theorem wg_638 : Jvm.Cond.laysFinal "HairLineModel" "HairLineModel" "ordered" "[I" ∈ gw := gm (tm3 (List.mem_of_getElem? (i := 158) rfl)) rfl
theorem wg_640 : Jvm.Cond.lays "HairLineModel" "HairLineModel" "orderMany" "I" ∈ gw := gm (tm3 (List.mem_of_getElem? (i := 160) rfl)) rfl
theorem wg_642 : Jvm.Cond.laysFinal "HairLineModel" "HairLineModel" "lateFrom" "[I" ∈ gw := gm (tm3 (List.mem_of_getElem? (i := 162) rfl)) rfl
theorem wg_644 : Jvm.Cond.laysFinal "HairLineModel" "HairLineModel" "lateTo" "[I" ∈ gw := gm (tm3 (List.mem_of_getElem? (i := 164) rfl)) rfl
theorem wg_646 : Jvm.Cond.laysFinal "HairLineModel" "HairLineModel" "told" "[I" ∈ gw := gm (tm3 (List.mem_of_getElem? (i := 166) rfl)) rfl
theorem wg_648 : Jvm.Cond.lays "HairLineModel" "HairLineModel" "trueFrom" "I" ∈ gw := gm (tm3 (List.mem_of_getElem? (i := 168) rfl)) rfl
theorem wg_650 : Jvm.Cond.lays "HairLineModel" "HairLineModel" "trueTo" "I" ∈ gw := gm (tm3 (List.mem_of_getElem? (i := 170) rfl)) rfl
theorem wg_652 : Jvm.Cond.laysFinal "HairLineModel" "HairLineModel" "signs" "[I" ∈ gw := gm (tm3 (List.mem_of_getElem? (i := 172) rfl)) rfl
theorem wg_654 : Jvm.Cond.lays "HairLineModel" "HairLineModel" "signMany" "I" ∈ gw := gm (tm3 (List.mem_of_getElem? (i := 174) rfl)) rfl
theorem wg_656 : Jvm.Cond.laysFinal "HairLineModel" "HairLineModel" "factOf" "[I" ∈ gw := gm (tm3 (List.mem_of_getElem? (i := 176) rfl)) rfl
theorem wg_658 : Jvm.Cond.laysFinal "HairLineModel" "HairLineModel" "howOf" "[I" ∈ gw := gm (tm3 (List.mem_of_getElem? (i := 178) rfl)) rfl
theorem wg_660 : Jvm.Cond.laysFinal "HairLineModel" "HairLineModel" "numberIs" "[I" ∈ gw := gm (tm3 (List.mem_of_getElem? (i := 180) rfl)) rfl
theorem wg_662 : Jvm.Cond.lays "HairLineModel" "HairLineModel" "lines" "I" ∈ gw := gm (tm3 (List.mem_of_getElem? (i := 182) rfl)) rfl
theorem wg_664 : Jvm.Cond.laysFinal "HairLineModel" "HairLineModel" "slitSide" "[I" ∈ gw := gm (tm3 (List.mem_of_getElem? (i := 184) rfl)) rfl
theorem wg_666 : Jvm.Cond.laysFinal "HairLineModel" "HairLineModel" "slitRows" "[I" ∈ gw := gm (tm3 (List.mem_of_getElem? (i := 186) rfl)) rfl
theorem wg_668 : Jvm.Cond.lays "HairLineModel" "HairLineModel" "slits" "I" ∈ gw := gm (tm3 (List.mem_of_getElem? (i := 188) rfl)) rfl
theorem wg_671 : Jvm.Cond.arrayClass Jvm.ClassFile.FieldType.boolean ∈ gw := gm (tm3 (List.mem_of_getElem? (i := 191) rfl)) rfl
theorem wg_672 : Jvm.Cond.methodLink "HairLineLaw" (17 : Nat) ({ cls := "HairLineModel", name := "runner", desc := "(II)I" } : Jvm.MethodName) ∈ gw := gm (tm3 (List.mem_of_getElem? (i := 192) rfl)) rfl
theorem wg_673 : Jvm.Cond.instanceMethod ({ cls := "HairLineModel", name := "runner", desc := "(II)I" } : Jvm.MethodName) ∈ gw := gm (tm3 (List.mem_of_getElem? (i := 193) rfl)) rfl
theorem wg_674 : Jvm.Cond.selects "HairLineModel" ({ cls := "HairLineModel", name := "runner", desc := "(II)I" } : Jvm.MethodName) ({ cls := "HairLineModel", name := "runner", desc := "(II)I" } : Jvm.MethodName) ∈ gw := gm (tm3 (List.mem_of_getElem? (i := 194) rfl)) rfl
theorem wg_675 : Jvm.Cond.code ({ cls := "HairLineModel", name := "runner", desc := "(II)I" } : Jvm.MethodName) prog_11_method_8_code (3 : Nat) (Option.some Jvm.ClassFile.FieldType.int) ∈ gw := gm (tm3 (List.mem_of_getElem? (i := 195) rfl)) rfl
theorem wg_676 : Jvm.Cond.constantLong "HairLineModel" (75 : Nat) (-3000 : Int64) ∈ gw := gm (tm3 (List.mem_of_getElem? (i := 196) rfl)) rfl
theorem wg_677 : Jvm.Cond.methodLink "HairLineModel" (69 : Nat) ({ cls := "HairLineModel", name := "in", desc := "(JJJ)Z" } : Jvm.MethodName) ∈ gw := gm (tm3 (List.mem_of_getElem? (i := 197) rfl)) rfl
theorem wg_678 : Jvm.Cond.static ({ cls := "HairLineModel", name := "in", desc := "(JJJ)Z" } : Jvm.MethodName) ∈ gw := gm (tm3 (List.mem_of_getElem? (i := 198) rfl)) rfl
theorem wg_679 : Jvm.Cond.code ({ cls := "HairLineModel", name := "in", desc := "(JJJ)Z" } : Jvm.MethodName) prog_11_method_3_code (6 : Nat) (Option.some Jvm.ClassFile.FieldType.boolean) ∈ gw := gm (tm3 (List.mem_of_getElem? (i := 199) rfl)) rfl
theorem wg_680 : Jvm.Cond.constantLong "HairLineModel" (77 : Nat) (20 : Int64) ∈ gw := gm (tm3 (List.mem_of_getElem? (i := 200) rfl)) rfl
theorem wg_681 : Jvm.Cond.methodLink "HairLineLaw" (22 : Nat) ({ cls := "HairLineModel", name := "shape", desc := "(IIIII)I" } : Jvm.MethodName) ∈ gw := gm (tm3 (List.mem_of_getElem? (i := 201) rfl)) rfl
theorem wg_682 : Jvm.Cond.instanceMethod ({ cls := "HairLineModel", name := "shape", desc := "(IIIII)I" } : Jvm.MethodName) ∈ gw := gm (tm3 (List.mem_of_getElem? (i := 202) rfl)) rfl
theorem wg_683 : Jvm.Cond.selects "HairLineModel" ({ cls := "HairLineModel", name := "shape", desc := "(IIIII)I" } : Jvm.MethodName) ({ cls := "HairLineModel", name := "shape", desc := "(IIIII)I" } : Jvm.MethodName) ∈ gw := gm (tm3 (List.mem_of_getElem? (i := 203) rfl)) rfl
theorem wg_684 : Jvm.Cond.code ({ cls := "HairLineModel", name := "shape", desc := "(IIIII)I" } : Jvm.MethodName) prog_11_method_9_code (7 : Nat) (Option.some Jvm.ClassFile.FieldType.int) ∈ gw := gm (tm3 (List.mem_of_getElem? (i := 204) rfl)) rfl
theorem wg_685 : Jvm.Cond.methodLink "HairLineModel" (79 : Nat) ({ cls := "HairLineModel", name := "isRunner", desc := "(I)Z" } : Jvm.MethodName) ∈ gw := gm (tm3 (List.mem_of_getElem? (i := 205) rfl)) rfl
theorem wg_687 : Jvm.Cond.instanceMethod ({ cls := "HairLineModel", name := "isRunner", desc := "(I)Z" } : Jvm.MethodName) ∈ gw := gm (tm3 (List.mem_of_getElem? (i := 207) rfl)) rfl
theorem wg_688 : Jvm.Cond.code ({ cls := "HairLineModel", name := "isRunner", desc := "(I)Z" } : Jvm.MethodName) prog_11_method_5_code (2 : Nat) (Option.some Jvm.ClassFile.FieldType.boolean) ∈ gw := gm (tm3 (List.mem_of_getElem? (i := 208) rfl)) rfl
theorem wg_689 : Jvm.Cond.methodLink "HairLineModel" (83 : Nat) ({ cls := "HairLineModel", name := "isRow", desc := "(I)Z" } : Jvm.MethodName) ∈ gw := gm (tm3 (List.mem_of_getElem? (i := 209) rfl)) rfl
theorem wg_690 : Jvm.Cond.static ({ cls := "HairLineModel", name := "isRow", desc := "(I)Z" } : Jvm.MethodName) ∈ gw := gm (tm3 (List.mem_of_getElem? (i := 210) rfl)) rfl
theorem wg_691 : Jvm.Cond.code ({ cls := "HairLineModel", name := "isRow", desc := "(I)Z" } : Jvm.MethodName) prog_11_method_6_code (1 : Nat) (Option.some Jvm.ClassFile.FieldType.boolean) ∈ gw := gm (tm3 (List.mem_of_getElem? (i := 211) rfl)) rfl
theorem wg_692 : Jvm.Cond.constantLong "HairLineModel" (73 : Nat) (5 : Int64) ∈ gw := gm (tm3 (List.mem_of_getElem? (i := 212) rfl)) rfl
theorem wg_693 : Jvm.Cond.constantLong "HairLineModel" (86 : Nat) (-9 : Int64) ∈ gw := gm (tm3 (List.mem_of_getElem? (i := 213) rfl)) rfl
theorem wg_694 : Jvm.Cond.constantLong "HairLineModel" (88 : Nat) (9 : Int64) ∈ gw := gm (tm3 (List.mem_of_getElem? (i := 214) rfl)) rfl
theorem wg_695 : Jvm.Cond.methodLink "HairLineModel" (90 : Nat) ({ cls := "HairLineModel", name := "shapeAt", desc := "(III)I" } : Jvm.MethodName) ∈ gw := gm (tm3 (List.mem_of_getElem? (i := 215) rfl)) rfl
theorem wg_696 : Jvm.Cond.static ({ cls := "HairLineModel", name := "shapeAt", desc := "(III)I" } : Jvm.MethodName) ∈ gw := gm (tm3 (List.mem_of_getElem? (i := 216) rfl)) rfl
theorem wg_697 : Jvm.Cond.code ({ cls := "HairLineModel", name := "shapeAt", desc := "(III)I" } : Jvm.MethodName) prog_11_method_7_code (3 : Nat) (Option.some Jvm.ClassFile.FieldType.int) ∈ gw := gm (tm3 (List.mem_of_getElem? (i := 217) rfl)) rfl
theorem wg_698 : Jvm.Cond.methodLink "HairLineLaw" (26 : Nat) ({ cls := "HairLineModel", name := "set", desc := "(II)I" } : Jvm.MethodName) ∈ gw := gm (tm3 (List.mem_of_getElem? (i := 218) rfl)) rfl
theorem wg_699 : Jvm.Cond.instanceMethod ({ cls := "HairLineModel", name := "set", desc := "(II)I" } : Jvm.MethodName) ∈ gw := gm (tm3 (List.mem_of_getElem? (i := 219) rfl)) rfl
theorem wg_700 : Jvm.Cond.selects "HairLineModel" ({ cls := "HairLineModel", name := "set", desc := "(II)I" } : Jvm.MethodName) ({ cls := "HairLineModel", name := "set", desc := "(II)I" } : Jvm.MethodName) ∈ gw := gm (tm3 (List.mem_of_getElem? (i := 220) rfl)) rfl
theorem wg_701 : Jvm.Cond.code ({ cls := "HairLineModel", name := "set", desc := "(II)I" } : Jvm.MethodName) prog_11_method_11_code (4 : Nat) (Option.some Jvm.ClassFile.FieldType.int) ∈ gw := gm (tm3 (List.mem_of_getElem? (i := 221) rfl)) rfl
theorem wg_702 : Jvm.Cond.constantLong "HairLineModel" (103 : Nat) (3 : Int64) ∈ gw := gm (tm3 (List.mem_of_getElem? (i := 222) rfl)) rfl
theorem wg_703 : Jvm.Cond.constantLong "HairLineModel" (105 : Nat) (-3 : Int64) ∈ gw := gm (tm3 (List.mem_of_getElem? (i := 223) rfl)) rfl
theorem wg_704 : Jvm.Cond.constantLong "HairLineModel" (107 : Nat) (200 : Int64) ∈ gw := gm (tm3 (List.mem_of_getElem? (i := 224) rfl)) rfl
theorem wg_705 : Jvm.Cond.methodLink "HairLineModel" (109 : Nat) ({ cls := "HairLineModel", name := "numberOf", desc := "(I)I" } : Jvm.MethodName) ∈ gw := gm (tm3 (List.mem_of_getElem? (i := 225) rfl)) rfl
theorem wg_707 : Jvm.Cond.instanceMethod ({ cls := "HairLineModel", name := "numberOf", desc := "(I)I" } : Jvm.MethodName) ∈ gw := gm (tm3 (List.mem_of_getElem? (i := 227) rfl)) rfl
theorem wg_708 : Jvm.Cond.code ({ cls := "HairLineModel", name := "numberOf", desc := "(I)I" } : Jvm.MethodName) prog_11_method_10_code (2 : Nat) (Option.some Jvm.ClassFile.FieldType.int) ∈ gw := gm (tm3 (List.mem_of_getElem? (i := 228) rfl)) rfl
theorem wg_709 : Jvm.Cond.methodLink "HairLineLaw" (31 : Nat) ({ cls := "HairLineModel", name := "shows", desc := "(III)I" } : Jvm.MethodName) ∈ gw := gm (tm3 (List.mem_of_getElem? (i := 229) rfl)) rfl
theorem wg_710 : Jvm.Cond.instanceMethod ({ cls := "HairLineModel", name := "shows", desc := "(III)I" } : Jvm.MethodName) ∈ gw := gm (tm3 (List.mem_of_getElem? (i := 230) rfl)) rfl
theorem wg_711 : Jvm.Cond.selects "HairLineModel" ({ cls := "HairLineModel", name := "shows", desc := "(III)I" } : Jvm.MethodName) ({ cls := "HairLineModel", name := "shows", desc := "(III)I" } : Jvm.MethodName) ∈ gw := gm (tm3 (List.mem_of_getElem? (i := 231) rfl)) rfl
theorem wg_712 : Jvm.Cond.code ({ cls := "HairLineModel", name := "shows", desc := "(III)I" } : Jvm.MethodName) prog_11_method_14_code (4 : Nat) (Option.some Jvm.ClassFile.FieldType.int) ∈ gw := gm (tm3 (List.mem_of_getElem? (i := 232) rfl)) rfl
theorem wg_713 : Jvm.Cond.constantLong "HairLineModel" (117 : Nat) (299 : Int64) ∈ gw := gm (tm3 (List.mem_of_getElem? (i := 233) rfl)) rfl
theorem wg_714 : Jvm.Cond.methodLink "HairLineModel" (119 : Nat) ({ cls := "HairLineModel", name := "shown", desc := "(III)I" } : Jvm.MethodName) ∈ gw := gm (tm3 (List.mem_of_getElem? (i := 234) rfl)) rfl
theorem wg_716 : Jvm.Cond.instanceMethod ({ cls := "HairLineModel", name := "shown", desc := "(III)I" } : Jvm.MethodName) ∈ gw := gm (tm3 (List.mem_of_getElem? (i := 236) rfl)) rfl
theorem wg_717 : Jvm.Cond.code ({ cls := "HairLineModel", name := "shown", desc := "(III)I" } : Jvm.MethodName) prog_11_method_13_code (6 : Nat) (Option.some Jvm.ClassFile.FieldType.int) ∈ gw := gm (tm3 (List.mem_of_getElem? (i := 237) rfl)) rfl
theorem wg_718 : Jvm.Cond.methodLink "HairLineModel" (113 : Nat) ({ cls := "HairLineModel", name := "covers", desc := "(IIII)Z" } : Jvm.MethodName) ∈ gw := gm (tm3 (List.mem_of_getElem? (i := 238) rfl)) rfl
theorem wg_720 : Jvm.Cond.instanceMethod ({ cls := "HairLineModel", name := "covers", desc := "(IIII)Z" } : Jvm.MethodName) ∈ gw := gm (tm4 (List.mem_of_getElem? (i := 0) rfl)) rfl
theorem wg_721 : Jvm.Cond.code ({ cls := "HairLineModel", name := "covers", desc := "(IIII)Z" } : Jvm.MethodName) prog_11_method_12_code (7 : Nat) (Option.some Jvm.ClassFile.FieldType.boolean) ∈ gw := gm (tm4 (List.mem_of_getElem? (i := 1) rfl)) rfl
theorem wg_722 : Jvm.Cond.methodLink "HairLineLaw" (35 : Nat) ({ cls := "HairLineModel", name := "of", desc := "(II)I" } : Jvm.MethodName) ∈ gw := gm (tm4 (List.mem_of_getElem? (i := 2) rfl)) rfl
theorem wg_723 : Jvm.Cond.instanceMethod ({ cls := "HairLineModel", name := "of", desc := "(II)I" } : Jvm.MethodName) ∈ gw := gm (tm4 (List.mem_of_getElem? (i := 3) rfl)) rfl
theorem wg_724 : Jvm.Cond.selects "HairLineModel" ({ cls := "HairLineModel", name := "of", desc := "(II)I" } : Jvm.MethodName) ({ cls := "HairLineModel", name := "of", desc := "(II)I" } : Jvm.MethodName) ∈ gw := gm (tm4 (List.mem_of_getElem? (i := 4) rfl)) rfl
theorem wg_725 : Jvm.Cond.code ({ cls := "HairLineModel", name := "of", desc := "(II)I" } : Jvm.MethodName) prog_11_method_23_code (3 : Nat) (Option.some Jvm.ClassFile.FieldType.int) ∈ gw := gm (tm4 (List.mem_of_getElem? (i := 5) rfl)) rfl
theorem wg_726 : Jvm.Cond.methodLink "HairLineModel" (138 : Nat) ({ cls := "HairLineModel", name := "findFirst", desc := "()V" } : Jvm.MethodName) ∈ gw := gm (tm4 (List.mem_of_getElem? (i := 6) rfl)) rfl
theorem wg_728 : Jvm.Cond.instanceMethod ({ cls := "HairLineModel", name := "findFirst", desc := "()V" } : Jvm.MethodName) ∈ gw := gm (tm4 (List.mem_of_getElem? (i := 8) rfl)) rfl
theorem wg_729 : Jvm.Cond.code ({ cls := "HairLineModel", name := "findFirst", desc := "()V" } : Jvm.MethodName) prog_11_method_15_code (5 : Nat) (Option.none : Option Jvm.ClassFile.FieldType) ∈ gw := gm (tm4 (List.mem_of_getElem? (i := 9) rfl)) rfl
theorem wg_730 : Jvm.Cond.methodLink "HairLineModel" (126 : Nat) ({ cls := "HairLineModel", name := "firstOf", desc := "(III)I" } : Jvm.MethodName) ∈ gw := gm (tm4 (List.mem_of_getElem? (i := 10) rfl)) rfl
theorem wg_732 : Jvm.Cond.instanceMethod ({ cls := "HairLineModel", name := "firstOf", desc := "(III)I" } : Jvm.MethodName) ∈ gw := gm (tm4 (List.mem_of_getElem? (i := 12) rfl)) rfl
theorem wg_733 : Jvm.Cond.code ({ cls := "HairLineModel", name := "firstOf", desc := "(III)I" } : Jvm.MethodName) prog_11_method_17_code (6 : Nat) (Option.some Jvm.ClassFile.FieldType.int) ∈ gw := gm (tm4 (List.mem_of_getElem? (i := 13) rfl)) rfl
theorem wg_734 : Jvm.Cond.methodLink "HairLineModel" (122 : Nat) ({ cls := "HairLineModel", name := "sooner", desc := "(II)I" } : Jvm.MethodName) ∈ gw := gm (tm4 (List.mem_of_getElem? (i := 14) rfl)) rfl
theorem wg_735 : Jvm.Cond.static ({ cls := "HairLineModel", name := "sooner", desc := "(II)I" } : Jvm.MethodName) ∈ gw := gm (tm4 (List.mem_of_getElem? (i := 15) rfl)) rfl
theorem wg_736 : Jvm.Cond.code ({ cls := "HairLineModel", name := "sooner", desc := "(II)I" } : Jvm.MethodName) prog_11_method_16_code (2 : Nat) (Option.some Jvm.ClassFile.FieldType.int) ∈ gw := gm (tm4 (List.mem_of_getElem? (i := 16) rfl)) rfl
theorem wg_737 : Jvm.Cond.methodLink "HairLineModel" (132 : Nat) ({ cls := "HairLineModel", name := "joinedOf", desc := "(I)I" } : Jvm.MethodName) ∈ gw := gm (tm4 (List.mem_of_getElem? (i := 17) rfl)) rfl
theorem wg_739 : Jvm.Cond.instanceMethod ({ cls := "HairLineModel", name := "joinedOf", desc := "(I)I" } : Jvm.MethodName) ∈ gw := gm (tm4 (List.mem_of_getElem? (i := 19) rfl)) rfl
theorem wg_740 : Jvm.Cond.code ({ cls := "HairLineModel", name := "joinedOf", desc := "(I)I" } : Jvm.MethodName) prog_11_method_18_code (2 : Nat) (Option.some Jvm.ClassFile.FieldType.int) ∈ gw := gm (tm4 (List.mem_of_getElem? (i := 20) rfl)) rfl
theorem wg_741 : Jvm.Cond.methodLink "HairLineModel" (129 : Nat) ({ cls := "HairLineModel", name := "crossed", desc := "(II)I" } : Jvm.MethodName) ∈ gw := gm (tm4 (List.mem_of_getElem? (i := 21) rfl)) rfl
theorem wg_743 : Jvm.Cond.instanceMethod ({ cls := "HairLineModel", name := "crossed", desc := "(II)I" } : Jvm.MethodName) ∈ gw := gm (tm4 (List.mem_of_getElem? (i := 23) rfl)) rfl
theorem wg_744 : Jvm.Cond.code ({ cls := "HairLineModel", name := "crossed", desc := "(II)I" } : Jvm.MethodName) prog_11_method_19_code (7 : Nat) (Option.some Jvm.ClassFile.FieldType.int) ∈ gw := gm (tm4 (List.mem_of_getElem? (i := 24) rfl)) rfl
theorem wg_745 : Jvm.Cond.methodLink "HairLineModel" (141 : Nat) ({ cls := "HairLineModel", name := "isHidden", desc := "(I)Z" } : Jvm.MethodName) ∈ gw := gm (tm4 (List.mem_of_getElem? (i := 25) rfl)) rfl
theorem wg_747 : Jvm.Cond.instanceMethod ({ cls := "HairLineModel", name := "isHidden", desc := "(I)Z" } : Jvm.MethodName) ∈ gw := gm (tm4 (List.mem_of_getElem? (i := 27) rfl)) rfl
theorem wg_748 : Jvm.Cond.code ({ cls := "HairLineModel", name := "isHidden", desc := "(I)Z" } : Jvm.MethodName) prog_11_method_21_code (3 : Nat) (Option.some Jvm.ClassFile.FieldType.boolean) ∈ gw := gm (tm4 (List.mem_of_getElem? (i := 28) rfl)) rfl
theorem wg_749 : Jvm.Cond.methodLink "HairLineModel" (135 : Nat) ({ cls := "HairLineModel", name := "hasTorso", desc := "(I)Z" } : Jvm.MethodName) ∈ gw := gm (tm4 (List.mem_of_getElem? (i := 29) rfl)) rfl
theorem wg_751 : Jvm.Cond.instanceMethod ({ cls := "HairLineModel", name := "hasTorso", desc := "(I)Z" } : Jvm.MethodName) ∈ gw := gm (tm4 (List.mem_of_getElem? (i := 31) rfl)) rfl
theorem wg_752 : Jvm.Cond.code ({ cls := "HairLineModel", name := "hasTorso", desc := "(I)Z" } : Jvm.MethodName) prog_11_method_20_code (2 : Nat) (Option.some Jvm.ClassFile.FieldType.boolean) ∈ gw := gm (tm4 (List.mem_of_getElem? (i := 32) rfl)) rfl
theorem wg_753 : Jvm.Cond.methodLink "HairLineModel" (144 : Nat) ({ cls := "HairLineModel", name := "hearsOf", desc := "(I)I" } : Jvm.MethodName) ∈ gw := gm (tm4 (List.mem_of_getElem? (i := 33) rfl)) rfl
theorem wg_755 : Jvm.Cond.instanceMethod ({ cls := "HairLineModel", name := "hearsOf", desc := "(I)I" } : Jvm.MethodName) ∈ gw := gm (tm4 (List.mem_of_getElem? (i := 35) rfl)) rfl
theorem wg_756 : Jvm.Cond.code ({ cls := "HairLineModel", name := "hearsOf", desc := "(I)I" } : Jvm.MethodName) prog_11_method_22_code (3 : Nat) (Option.some Jvm.ClassFile.FieldType.int) ∈ gw := gm (tm4 (List.mem_of_getElem? (i := 36) rfl)) rfl
theorem wg_757 : Jvm.Cond.methodLink "HairLineLaw" (40 : Nat) ({ cls := "HairLineModel", name := "moved", desc := "(I)I" } : Jvm.MethodName) ∈ gw := gm (tm4 (List.mem_of_getElem? (i := 37) rfl)) rfl
theorem wg_758 : Jvm.Cond.instanceMethod ({ cls := "HairLineModel", name := "moved", desc := "(I)I" } : Jvm.MethodName) ∈ gw := gm (tm4 (List.mem_of_getElem? (i := 38) rfl)) rfl
theorem wg_759 : Jvm.Cond.selects "HairLineModel" ({ cls := "HairLineModel", name := "moved", desc := "(I)I" } : Jvm.MethodName) ({ cls := "HairLineModel", name := "moved", desc := "(I)I" } : Jvm.MethodName) ∈ gw := gm (tm4 (List.mem_of_getElem? (i := 39) rfl)) rfl
theorem wg_760 : Jvm.Cond.code ({ cls := "HairLineModel", name := "moved", desc := "(I)I" } : Jvm.MethodName) prog_11_method_25_code (8 : Nat) (Option.some Jvm.ClassFile.FieldType.int) ∈ gw := gm (tm4 (List.mem_of_getElem? (i := 40) rfl)) rfl
theorem wg_761 : Jvm.Cond.methodLink "HairLineModel" (147 : Nat) ({ cls := "HairLineModel", name := "sign", desc := "(I)I" } : Jvm.MethodName) ∈ gw := gm (tm4 (List.mem_of_getElem? (i := 41) rfl)) rfl
theorem wg_762 : Jvm.Cond.static ({ cls := "HairLineModel", name := "sign", desc := "(I)I" } : Jvm.MethodName) ∈ gw := gm (tm4 (List.mem_of_getElem? (i := 42) rfl)) rfl
theorem wg_763 : Jvm.Cond.code ({ cls := "HairLineModel", name := "sign", desc := "(I)I" } : Jvm.MethodName) prog_11_method_24_code (1 : Nat) (Option.some Jvm.ClassFile.FieldType.int) ∈ gw := gm (tm4 (List.mem_of_getElem? (i := 43) rfl)) rfl
theorem wg_764 : Jvm.Cond.methodLink "HairLineLaw" (44 : Nat) ({ cls := "HairLineModel", name := "order", desc := "(I)I" } : Jvm.MethodName) ∈ gw := gm (tm4 (List.mem_of_getElem? (i := 44) rfl)) rfl
theorem wg_765 : Jvm.Cond.instanceMethod ({ cls := "HairLineModel", name := "order", desc := "(I)I" } : Jvm.MethodName) ∈ gw := gm (tm4 (List.mem_of_getElem? (i := 45) rfl)) rfl
theorem wg_766 : Jvm.Cond.selects "HairLineModel" ({ cls := "HairLineModel", name := "order", desc := "(I)I" } : Jvm.MethodName) ({ cls := "HairLineModel", name := "order", desc := "(I)I" } : Jvm.MethodName) ∈ gw := gm (tm4 (List.mem_of_getElem? (i := 46) rfl)) rfl
theorem wg_767 : Jvm.Cond.code ({ cls := "HairLineModel", name := "order", desc := "(I)I" } : Jvm.MethodName) prog_11_method_28_code (2 : Nat) (Option.some Jvm.ClassFile.FieldType.int) ∈ gw := gm (tm4 (List.mem_of_getElem? (i := 47) rfl)) rfl
theorem wg_768 : Jvm.Cond.methodLink "HairLineModel" (157 : Nat) ({ cls := "HairLineModel", name := "findOrder", desc := "(Z)V" } : Jvm.MethodName) ∈ gw := gm (tm4 (List.mem_of_getElem? (i := 48) rfl)) rfl
theorem wg_770 : Jvm.Cond.instanceMethod ({ cls := "HairLineModel", name := "findOrder", desc := "(Z)V" } : Jvm.MethodName) ∈ gw := gm (tm4 (List.mem_of_getElem? (i := 50) rfl)) rfl
theorem wg_771 : Jvm.Cond.code ({ cls := "HairLineModel", name := "findOrder", desc := "(Z)V" } : Jvm.MethodName) prog_11_method_26_code (4 : Nat) (Option.none : Option Jvm.ClassFile.FieldType) ∈ gw := gm (tm4 (List.mem_of_getElem? (i := 51) rfl)) rfl
theorem wg_772 : Jvm.Cond.methodLink "HairLineModel" (153 : Nat) ({ cls := "HairLineModel", name := "timeOf", desc := "(IZ)I" } : Jvm.MethodName) ∈ gw := gm (tm4 (List.mem_of_getElem? (i := 52) rfl)) rfl
theorem wg_774 : Jvm.Cond.instanceMethod ({ cls := "HairLineModel", name := "timeOf", desc := "(IZ)I" } : Jvm.MethodName) ∈ gw := gm (tm4 (List.mem_of_getElem? (i := 54) rfl)) rfl
theorem wg_775 : Jvm.Cond.code ({ cls := "HairLineModel", name := "timeOf", desc := "(IZ)I" } : Jvm.MethodName) prog_11_method_27_code (3 : Nat) (Option.some Jvm.ClassFile.FieldType.int) ∈ gw := gm (tm4 (List.mem_of_getElem? (i := 55) rfl)) rfl
theorem wg_776 : Jvm.Cond.methodLink "HairLineLaw" (48 : Nat) ({ cls := "HairLineModel", name := "place", desc := "(II)I" } : Jvm.MethodName) ∈ gw := gm (tm4 (List.mem_of_getElem? (i := 56) rfl)) rfl
theorem wg_777 : Jvm.Cond.instanceMethod ({ cls := "HairLineModel", name := "place", desc := "(II)I" } : Jvm.MethodName) ∈ gw := gm (tm4 (List.mem_of_getElem? (i := 57) rfl)) rfl
theorem wg_778 : Jvm.Cond.selects "HairLineModel" ({ cls := "HairLineModel", name := "place", desc := "(II)I" } : Jvm.MethodName) ({ cls := "HairLineModel", name := "place", desc := "(II)I" } : Jvm.MethodName) ∈ gw := gm (tm4 (List.mem_of_getElem? (i := 58) rfl)) rfl
theorem wg_779 : Jvm.Cond.code ({ cls := "HairLineModel", name := "place", desc := "(II)I" } : Jvm.MethodName) prog_11_method_29_code (6 : Nat) (Option.some Jvm.ClassFile.FieldType.int) ∈ gw := gm (tm4 (List.mem_of_getElem? (i := 59) rfl)) rfl
theorem wg_780 : Jvm.Cond.methodLink "HairLineLaw" (52 : Nat) ({ cls := "HairLineModel", name := "stretch", desc := "(II)I" } : Jvm.MethodName) ∈ gw := gm (tm4 (List.mem_of_getElem? (i := 60) rfl)) rfl
theorem wg_781 : Jvm.Cond.instanceMethod ({ cls := "HairLineModel", name := "stretch", desc := "(II)I" } : Jvm.MethodName) ∈ gw := gm (tm4 (List.mem_of_getElem? (i := 61) rfl)) rfl
theorem wg_782 : Jvm.Cond.selects "HairLineModel" ({ cls := "HairLineModel", name := "stretch", desc := "(II)I" } : Jvm.MethodName) ({ cls := "HairLineModel", name := "stretch", desc := "(II)I" } : Jvm.MethodName) ∈ gw := gm (tm4 (List.mem_of_getElem? (i := 62) rfl)) rfl
theorem wg_783 : Jvm.Cond.code ({ cls := "HairLineModel", name := "stretch", desc := "(II)I" } : Jvm.MethodName) prog_11_method_30_code (5 : Nat) (Option.some Jvm.ClassFile.FieldType.int) ∈ gw := gm (tm4 (List.mem_of_getElem? (i := 63) rfl)) rfl
theorem wg_784 : Jvm.Cond.methodLink "HairLineLaw" (56 : Nat) ({ cls := "HairLineModel", name := "speeds", desc := "(III)I" } : Jvm.MethodName) ∈ gw := gm (tm4 (List.mem_of_getElem? (i := 64) rfl)) rfl
theorem wg_785 : Jvm.Cond.instanceMethod ({ cls := "HairLineModel", name := "speeds", desc := "(III)I" } : Jvm.MethodName) ∈ gw := gm (tm4 (List.mem_of_getElem? (i := 65) rfl)) rfl
theorem wg_786 : Jvm.Cond.selects "HairLineModel" ({ cls := "HairLineModel", name := "speeds", desc := "(III)I" } : Jvm.MethodName) ({ cls := "HairLineModel", name := "speeds", desc := "(III)I" } : Jvm.MethodName) ∈ gw := gm (tm4 (List.mem_of_getElem? (i := 66) rfl)) rfl
theorem wg_787 : Jvm.Cond.code ({ cls := "HairLineModel", name := "speeds", desc := "(III)I" } : Jvm.MethodName) prog_11_method_31_code (7 : Nat) (Option.some Jvm.ClassFile.FieldType.int) ∈ gw := gm (tm4 (List.mem_of_getElem? (i := 67) rfl)) rfl
theorem wg_788 : Jvm.Cond.constantLong "HairLineModel" (161 : Nat) (19 : Int64) ∈ gw := gm (tm4 (List.mem_of_getElem? (i := 68) rfl)) rfl
theorem wg_789 : Jvm.Cond.constantLong "HairLineModel" (163 : Nat) (30 : Int64) ∈ gw := gm (tm4 (List.mem_of_getElem? (i := 69) rfl)) rfl
theorem wg_790 : Jvm.Cond.methodLink "HairLineLaw" (60 : Nat) ({ cls := "HairLineModel", name := "push", desc := "(II)I" } : Jvm.MethodName) ∈ gw := gm (tm4 (List.mem_of_getElem? (i := 70) rfl)) rfl
theorem wg_791 : Jvm.Cond.instanceMethod ({ cls := "HairLineModel", name := "push", desc := "(II)I" } : Jvm.MethodName) ∈ gw := gm (tm4 (List.mem_of_getElem? (i := 71) rfl)) rfl
theorem wg_792 : Jvm.Cond.selects "HairLineModel" ({ cls := "HairLineModel", name := "push", desc := "(II)I" } : Jvm.MethodName) ({ cls := "HairLineModel", name := "push", desc := "(II)I" } : Jvm.MethodName) ∈ gw := gm (tm4 (List.mem_of_getElem? (i := 72) rfl)) rfl
theorem wg_793 : Jvm.Cond.code ({ cls := "HairLineModel", name := "push", desc := "(II)I" } : Jvm.MethodName) prog_11_method_32_code (4 : Nat) (Option.some Jvm.ClassFile.FieldType.int) ∈ gw := gm (tm4 (List.mem_of_getElem? (i := 73) rfl)) rfl
theorem wg_794 : Jvm.Cond.constantLong "HairLineModel" (165 : Nat) (-1 : Int64) ∈ gw := gm (tm4 (List.mem_of_getElem? (i := 74) rfl)) rfl
theorem wg_795 : Jvm.Cond.methodLink "HairLineLaw" (64 : Nat) ({ cls := "HairLineModel", name := "mended", desc := "(I)I" } : Jvm.MethodName) ∈ gw := gm (tm4 (List.mem_of_getElem? (i := 75) rfl)) rfl
theorem wg_796 : Jvm.Cond.instanceMethod ({ cls := "HairLineModel", name := "mended", desc := "(I)I" } : Jvm.MethodName) ∈ gw := gm (tm4 (List.mem_of_getElem? (i := 76) rfl)) rfl
theorem wg_797 : Jvm.Cond.selects "HairLineModel" ({ cls := "HairLineModel", name := "mended", desc := "(I)I" } : Jvm.MethodName) ({ cls := "HairLineModel", name := "mended", desc := "(I)I" } : Jvm.MethodName) ∈ gw := gm (tm4 (List.mem_of_getElem? (i := 77) rfl)) rfl
theorem wg_798 : Jvm.Cond.code ({ cls := "HairLineModel", name := "mended", desc := "(I)I" } : Jvm.MethodName) prog_11_method_33_code (2 : Nat) (Option.some Jvm.ClassFile.FieldType.int) ∈ gw := gm (tm4 (List.mem_of_getElem? (i := 78) rfl)) rfl
theorem wg_799 : Jvm.Cond.methodLink "HairLineLaw" (69 : Nat) ({ cls := "HairLineModel", name := "wrong", desc := "(IIII)J" } : Jvm.MethodName) ∈ gw := gm (tm4 (List.mem_of_getElem? (i := 79) rfl)) rfl
theorem wg_800 : Jvm.Cond.instanceMethod ({ cls := "HairLineModel", name := "wrong", desc := "(IIII)J" } : Jvm.MethodName) ∈ gw := gm (tm4 (List.mem_of_getElem? (i := 80) rfl)) rfl
theorem wg_801 : Jvm.Cond.selects "HairLineModel" ({ cls := "HairLineModel", name := "wrong", desc := "(IIII)J" } : Jvm.MethodName) ({ cls := "HairLineModel", name := "wrong", desc := "(IIII)J" } : Jvm.MethodName) ∈ gw := gm (tm4 (List.mem_of_getElem? (i := 81) rfl)) rfl
theorem wg_802 : Jvm.Cond.code ({ cls := "HairLineModel", name := "wrong", desc := "(IIII)J" } : Jvm.MethodName) prog_11_method_35_code (19 : Nat) (Option.some Jvm.ClassFile.FieldType.long) ∈ gw := gm (tm4 (List.mem_of_getElem? (i := 82) rfl)) rfl
theorem wg_803 : Jvm.Cond.constantLong "HairLineModel" (167 : Nat) (6 : Int64) ∈ gw := gm (tm4 (List.mem_of_getElem? (i := 83) rfl)) rfl
theorem wg_804 : Jvm.Cond.constantLong "HairLineModel" (169 : Nat) (-2 : Int64) ∈ gw := gm (tm4 (List.mem_of_getElem? (i := 84) rfl)) rfl
theorem wg_805 : Jvm.Cond.methodLink "HairLineModel" (171 : Nat) ({ cls := "HairLineModel", name := "power", desc := "(JI)J" } : Jvm.MethodName) ∈ gw := gm (tm4 (List.mem_of_getElem? (i := 85) rfl)) rfl
theorem wg_806 : Jvm.Cond.static ({ cls := "HairLineModel", name := "power", desc := "(JI)J" } : Jvm.MethodName) ∈ gw := gm (tm4 (List.mem_of_getElem? (i := 86) rfl)) rfl
theorem wg_807 : Jvm.Cond.code ({ cls := "HairLineModel", name := "power", desc := "(JI)J" } : Jvm.MethodName) prog_11_method_34_code (6 : Nat) (Option.some Jvm.ClassFile.FieldType.long) ∈ gw := gm (tm4 (List.mem_of_getElem? (i := 87) rfl)) rfl
theorem wg_808 : Jvm.Cond.methodLink "HairLineLaw" (73 : Nat) ({ cls := "HairLineModel", name := "known", desc := "(III)I" } : Jvm.MethodName) ∈ gw := gm (tm4 (List.mem_of_getElem? (i := 88) rfl)) rfl
theorem wg_809 : Jvm.Cond.instanceMethod ({ cls := "HairLineModel", name := "known", desc := "(III)I" } : Jvm.MethodName) ∈ gw := gm (tm4 (List.mem_of_getElem? (i := 89) rfl)) rfl
theorem wg_810 : Jvm.Cond.selects "HairLineModel" ({ cls := "HairLineModel", name := "known", desc := "(III)I" } : Jvm.MethodName) ({ cls := "HairLineModel", name := "known", desc := "(III)I" } : Jvm.MethodName) ∈ gw := gm (tm4 (List.mem_of_getElem? (i := 90) rfl)) rfl
theorem wg_811 : Jvm.Cond.code ({ cls := "HairLineModel", name := "known", desc := "(III)I" } : Jvm.MethodName) prog_11_method_38_code (7 : Nat) (Option.some Jvm.ClassFile.FieldType.int) ∈ gw := gm (tm4 (List.mem_of_getElem? (i := 91) rfl)) rfl
theorem wg_812 : Jvm.Cond.methodLink "HairLineModel" (177 : Nat) ({ cls := "HairLineModel", name := "isJudge", desc := "(I)Z" } : Jvm.MethodName) ∈ gw := gm (tm4 (List.mem_of_getElem? (i := 92) rfl)) rfl
theorem wg_813 : Jvm.Cond.static ({ cls := "HairLineModel", name := "isJudge", desc := "(I)Z" } : Jvm.MethodName) ∈ gw := gm (tm4 (List.mem_of_getElem? (i := 93) rfl)) rfl
theorem wg_814 : Jvm.Cond.code ({ cls := "HairLineModel", name := "isJudge", desc := "(I)Z" } : Jvm.MethodName) prog_11_method_36_code (1 : Nat) (Option.some Jvm.ClassFile.FieldType.boolean) ∈ gw := gm (tm4 (List.mem_of_getElem? (i := 94) rfl)) rfl
theorem wg_815 : Jvm.Cond.methodLink "HairLineModel" (180 : Nat) ({ cls := "HairLineModel", name := "isTime", desc := "(I)Z" } : Jvm.MethodName) ∈ gw := gm (tm4 (List.mem_of_getElem? (i := 95) rfl)) rfl
theorem wg_816 : Jvm.Cond.static ({ cls := "HairLineModel", name := "isTime", desc := "(I)Z" } : Jvm.MethodName) ∈ gw := gm (tm4 (List.mem_of_getElem? (i := 96) rfl)) rfl
theorem wg_817 : Jvm.Cond.code ({ cls := "HairLineModel", name := "isTime", desc := "(I)Z" } : Jvm.MethodName) prog_11_method_37_code (1 : Nat) (Option.some Jvm.ClassFile.FieldType.boolean) ∈ gw := gm (tm4 (List.mem_of_getElem? (i := 97) rfl)) rfl
theorem wg_818 : Jvm.Cond.constantLong "HairLineModel" (175 : Nat) (99999 : Int64) ∈ gw := gm (tm4 (List.mem_of_getElem? (i := 98) rfl)) rfl
theorem wg_819 : Jvm.Cond.methodLink "HairLineLaw" (77 : Nat) ({ cls := "HairLineModel", name := "late", desc := "(II)I" } : Jvm.MethodName) ∈ gw := gm (tm4 (List.mem_of_getElem? (i := 99) rfl)) rfl
theorem wg_820 : Jvm.Cond.instanceMethod ({ cls := "HairLineModel", name := "late", desc := "(II)I" } : Jvm.MethodName) ∈ gw := gm (tm4 (List.mem_of_getElem? (i := 100) rfl)) rfl
theorem wg_821 : Jvm.Cond.selects "HairLineModel" ({ cls := "HairLineModel", name := "late", desc := "(II)I" } : Jvm.MethodName) ({ cls := "HairLineModel", name := "late", desc := "(II)I" } : Jvm.MethodName) ∈ gw := gm (tm4 (List.mem_of_getElem? (i := 101) rfl)) rfl
theorem wg_822 : Jvm.Cond.code ({ cls := "HairLineModel", name := "late", desc := "(II)I" } : Jvm.MethodName) prog_11_method_39_code (3 : Nat) (Option.some Jvm.ClassFile.FieldType.int) ∈ gw := gm (tm4 (List.mem_of_getElem? (i := 102) rfl)) rfl
theorem wg_823 : Jvm.Cond.methodLink "HairLineLaw" (81 : Nat) ({ cls := "HairLineModel", name := "tell", desc := "(II)I" } : Jvm.MethodName) ∈ gw := gm (tm4 (List.mem_of_getElem? (i := 103) rfl)) rfl
theorem wg_824 : Jvm.Cond.instanceMethod ({ cls := "HairLineModel", name := "tell", desc := "(II)I" } : Jvm.MethodName) ∈ gw := gm (tm4 (List.mem_of_getElem? (i := 104) rfl)) rfl
theorem wg_825 : Jvm.Cond.selects "HairLineModel" ({ cls := "HairLineModel", name := "tell", desc := "(II)I" } : Jvm.MethodName) ({ cls := "HairLineModel", name := "tell", desc := "(II)I" } : Jvm.MethodName) ∈ gw := gm (tm4 (List.mem_of_getElem? (i := 105) rfl)) rfl
theorem wg_826 : Jvm.Cond.code ({ cls := "HairLineModel", name := "tell", desc := "(II)I" } : Jvm.MethodName) prog_11_method_40_code (4 : Nat) (Option.some Jvm.ClassFile.FieldType.int) ∈ gw := gm (tm4 (List.mem_of_getElem? (i := 106) rfl)) rfl
theorem wg_827 : Jvm.Cond.methodLink "HairLineLaw" (85 : Nat) ({ cls := "HairLineModel", name := "time", desc := "(I)I" } : Jvm.MethodName) ∈ gw := gm (tm4 (List.mem_of_getElem? (i := 107) rfl)) rfl
theorem wg_828 : Jvm.Cond.instanceMethod ({ cls := "HairLineModel", name := "time", desc := "(I)I" } : Jvm.MethodName) ∈ gw := gm (tm4 (List.mem_of_getElem? (i := 108) rfl)) rfl
theorem wg_829 : Jvm.Cond.selects "HairLineModel" ({ cls := "HairLineModel", name := "time", desc := "(I)I" } : Jvm.MethodName) ({ cls := "HairLineModel", name := "time", desc := "(I)I" } : Jvm.MethodName) ∈ gw := gm (tm4 (List.mem_of_getElem? (i := 109) rfl)) rfl
theorem wg_830 : Jvm.Cond.code ({ cls := "HairLineModel", name := "time", desc := "(I)I" } : Jvm.MethodName) prog_11_method_42_code (3 : Nat) (Option.some Jvm.ClassFile.FieldType.int) ∈ gw := gm (tm4 (List.mem_of_getElem? (i := 110) rfl)) rfl
theorem wg_831 : Jvm.Cond.methodLink "HairLineModel" (189 : Nat) ({ cls := "HairLineModel", name := "findTrue", desc := "()I" } : Jvm.MethodName) ∈ gw := gm (tm4 (List.mem_of_getElem? (i := 111) rfl)) rfl
theorem wg_833 : Jvm.Cond.instanceMethod ({ cls := "HairLineModel", name := "findTrue", desc := "()I" } : Jvm.MethodName) ∈ gw := gm (tm4 (List.mem_of_getElem? (i := 113) rfl)) rfl
theorem wg_834 : Jvm.Cond.code ({ cls := "HairLineModel", name := "findTrue", desc := "()I" } : Jvm.MethodName) prog_11_method_41_code (5 : Nat) (Option.some Jvm.ClassFile.FieldType.int) ∈ gw := gm (tm4 (List.mem_of_getElem? (i := 114) rfl)) rfl
theorem wg_835 : Jvm.Cond.constant "HairLineModel" (193 : Nat) (1000000 : Int32) ∈ gw := gm (tm4 (List.mem_of_getElem? (i := 115) rfl)) rfl
theorem wg_836 : Jvm.Cond.methodLink "HairLineLaw" (89 : Nat) ({ cls := "HairLineModel", name := "old", desc := "(I)I" } : Jvm.MethodName) ∈ gw := gm (tm4 (List.mem_of_getElem? (i := 116) rfl)) rfl
theorem wg_837 : Jvm.Cond.instanceMethod ({ cls := "HairLineModel", name := "old", desc := "(I)I" } : Jvm.MethodName) ∈ gw := gm (tm4 (List.mem_of_getElem? (i := 117) rfl)) rfl
theorem wg_838 : Jvm.Cond.selects "HairLineModel" ({ cls := "HairLineModel", name := "old", desc := "(I)I" } : Jvm.MethodName) ({ cls := "HairLineModel", name := "old", desc := "(I)I" } : Jvm.MethodName) ∈ gw := gm (tm4 (List.mem_of_getElem? (i := 118) rfl)) rfl
theorem wg_839 : Jvm.Cond.code ({ cls := "HairLineModel", name := "old", desc := "(I)I" } : Jvm.MethodName) prog_11_method_43_code (3 : Nat) (Option.some Jvm.ClassFile.FieldType.int) ∈ gw := gm (tm4 (List.mem_of_getElem? (i := 119) rfl)) rfl
theorem wg_840 : Jvm.Cond.methodLink "HairLineLaw" (93 : Nat) ({ cls := "HairLineModel", name := "say", desc := "(I)I" } : Jvm.MethodName) ∈ gw := gm (tm4 (List.mem_of_getElem? (i := 120) rfl)) rfl
theorem wg_841 : Jvm.Cond.instanceMethod ({ cls := "HairLineModel", name := "say", desc := "(I)I" } : Jvm.MethodName) ∈ gw := gm (tm4 (List.mem_of_getElem? (i := 121) rfl)) rfl
theorem wg_842 : Jvm.Cond.selects "HairLineModel" ({ cls := "HairLineModel", name := "say", desc := "(I)I" } : Jvm.MethodName) ({ cls := "HairLineModel", name := "say", desc := "(I)I" } : Jvm.MethodName) ∈ gw := gm (tm4 (List.mem_of_getElem? (i := 122) rfl)) rfl
theorem wg_843 : Jvm.Cond.code ({ cls := "HairLineModel", name := "say", desc := "(I)I" } : Jvm.MethodName) prog_11_method_44_code (2 : Nat) (Option.some Jvm.ClassFile.FieldType.int) ∈ gw := gm (tm4 (List.mem_of_getElem? (i := 123) rfl)) rfl
theorem wg_844 : Jvm.Cond.constantLong "HairLineModel" (194 : Nat) (33 : Int64) ∈ gw := gm (tm4 (List.mem_of_getElem? (i := 124) rfl)) rfl
theorem wg_845 : Jvm.Cond.constantLong "HairLineModel" (196 : Nat) (126 : Int64) ∈ gw := gm (tm4 (List.mem_of_getElem? (i := 125) rfl)) rfl
theorem wg_846 : Jvm.Cond.methodLink "HairLineLaw" (98 : Nat) ({ cls := "HairLineModel", name := "wipe", desc := "()I" } : Jvm.MethodName) ∈ gw := gm (tm4 (List.mem_of_getElem? (i := 126) rfl)) rfl
theorem wg_847 : Jvm.Cond.instanceMethod ({ cls := "HairLineModel", name := "wipe", desc := "()I" } : Jvm.MethodName) ∈ gw := gm (tm4 (List.mem_of_getElem? (i := 127) rfl)) rfl
theorem wg_848 : Jvm.Cond.selects "HairLineModel" ({ cls := "HairLineModel", name := "wipe", desc := "()I" } : Jvm.MethodName) ({ cls := "HairLineModel", name := "wipe", desc := "()I" } : Jvm.MethodName) ∈ gw := gm (tm4 (List.mem_of_getElem? (i := 128) rfl)) rfl
theorem wg_849 : Jvm.Cond.code ({ cls := "HairLineModel", name := "wipe", desc := "()I" } : Jvm.MethodName) prog_11_method_45_code (2 : Nat) (Option.some Jvm.ClassFile.FieldType.int) ∈ gw := gm (tm4 (List.mem_of_getElem? (i := 129) rfl)) rfl
theorem wg_850 : Jvm.Cond.methodLink "HairLineLaw" (102 : Nat) ({ cls := "HairLineModel", name := "fault", desc := "()I" } : Jvm.MethodName) ∈ gw := gm (tm4 (List.mem_of_getElem? (i := 130) rfl)) rfl
theorem wg_851 : Jvm.Cond.instanceMethod ({ cls := "HairLineModel", name := "fault", desc := "()I" } : Jvm.MethodName) ∈ gw := gm (tm4 (List.mem_of_getElem? (i := 131) rfl)) rfl
theorem wg_852 : Jvm.Cond.selects "HairLineModel" ({ cls := "HairLineModel", name := "fault", desc := "()I" } : Jvm.MethodName) ({ cls := "HairLineModel", name := "fault", desc := "()I" } : Jvm.MethodName) ∈ gw := gm (tm4 (List.mem_of_getElem? (i := 132) rfl)) rfl
theorem wg_853 : Jvm.Cond.code ({ cls := "HairLineModel", name := "fault", desc := "()I" } : Jvm.MethodName) prog_11_method_49_code (3 : Nat) (Option.some Jvm.ClassFile.FieldType.int) ∈ gw := gm (tm4 (List.mem_of_getElem? (i := 133) rfl)) rfl
theorem wg_854 : Jvm.Cond.methodLink "HairLineModel" (211 : Nat) ({ cls := "HairLineModel", name := "stepOf", desc := "(II)I" } : Jvm.MethodName) ∈ gw := gm (tm4 (List.mem_of_getElem? (i := 134) rfl)) rfl
theorem wg_855 : Jvm.Cond.static ({ cls := "HairLineModel", name := "stepOf", desc := "(II)I" } : Jvm.MethodName) ∈ gw := gm (tm4 (List.mem_of_getElem? (i := 135) rfl)) rfl
theorem wg_856 : Jvm.Cond.code ({ cls := "HairLineModel", name := "stepOf", desc := "(II)I" } : Jvm.MethodName) prog_11_method_48_code (3 : Nat) (Option.some Jvm.ClassFile.FieldType.int) ∈ gw := gm (tm4 (List.mem_of_getElem? (i := 136) rfl)) rfl
theorem wg_857 : Jvm.Cond.constantLong "HairLineModel" (201 : Nat) (48 : Int64) ∈ gw := gm (tm4 (List.mem_of_getElem? (i := 137) rfl)) rfl
theorem wg_858 : Jvm.Cond.constantLong "HairLineModel" (203 : Nat) (57 : Int64) ∈ gw := gm (tm4 (List.mem_of_getElem? (i := 138) rfl)) rfl
theorem wg_859 : Jvm.Cond.methodLink "HairLineModel" (205 : Nat) ({ cls := "HairLineModel", name := "isFact", desc := "(I)Z" } : Jvm.MethodName) ∈ gw := gm (tm4 (List.mem_of_getElem? (i := 139) rfl)) rfl
theorem wg_860 : Jvm.Cond.static ({ cls := "HairLineModel", name := "isFact", desc := "(I)Z" } : Jvm.MethodName) ∈ gw := gm (tm4 (List.mem_of_getElem? (i := 140) rfl)) rfl
theorem wg_861 : Jvm.Cond.code ({ cls := "HairLineModel", name := "isFact", desc := "(I)Z" } : Jvm.MethodName) prog_11_method_46_code (1 : Nat) (Option.some Jvm.ClassFile.FieldType.boolean) ∈ gw := gm (tm4 (List.mem_of_getElem? (i := 141) rfl)) rfl
theorem wg_862 : Jvm.Cond.methodLink "HairLineModel" (208 : Nat) ({ cls := "HairLineModel", name := "isHow", desc := "(I)Z" } : Jvm.MethodName) ∈ gw := gm (tm4 (List.mem_of_getElem? (i := 142) rfl)) rfl
theorem wg_863 : Jvm.Cond.static ({ cls := "HairLineModel", name := "isHow", desc := "(I)Z" } : Jvm.MethodName) ∈ gw := gm (tm4 (List.mem_of_getElem? (i := 143) rfl)) rfl
theorem wg_864 : Jvm.Cond.code ({ cls := "HairLineModel", name := "isHow", desc := "(I)Z" } : Jvm.MethodName) prog_11_method_47_code (1 : Nat) (Option.some Jvm.ClassFile.FieldType.boolean) ∈ gw := gm (tm4 (List.mem_of_getElem? (i := 144) rfl)) rfl
theorem wg_865 : Jvm.Cond.methodLink "HairLineLaw" (106 : Nat) ({ cls := "HairLineModel", name := "rule", desc := "()I" } : Jvm.MethodName) ∈ gw := gm (tm4 (List.mem_of_getElem? (i := 145) rfl)) rfl
theorem wg_866 : Jvm.Cond.instanceMethod ({ cls := "HairLineModel", name := "rule", desc := "()I" } : Jvm.MethodName) ∈ gw := gm (tm4 (List.mem_of_getElem? (i := 146) rfl)) rfl
theorem wg_867 : Jvm.Cond.selects "HairLineModel" ({ cls := "HairLineModel", name := "rule", desc := "()I" } : Jvm.MethodName) ({ cls := "HairLineModel", name := "rule", desc := "()I" } : Jvm.MethodName) ∈ gw := gm (tm4 (List.mem_of_getElem? (i := 147) rfl)) rfl
theorem wg_868 : Jvm.Cond.code ({ cls := "HairLineModel", name := "rule", desc := "()I" } : Jvm.MethodName) prog_11_method_50_code (5 : Nat) (Option.some Jvm.ClassFile.FieldType.int) ∈ gw := gm (tm4 (List.mem_of_getElem? (i := 148) rfl)) rfl
theorem wg_869 : Jvm.Cond.methodLink "HairLineModel" (214 : Nat) ({ cls := "HairLineModel", name := "fault", desc := "()I" } : Jvm.MethodName) ∈ gw := gm (tm4 (List.mem_of_getElem? (i := 149) rfl)) rfl
theorem wg_870 : Jvm.Cond.methodLink "HairLineLaw" (111 : Nat) ({ cls := "HairLineModel", name := "record", desc := "(IIII)I" } : Jvm.MethodName) ∈ gw := gm (tm4 (List.mem_of_getElem? (i := 150) rfl)) rfl
theorem wg_871 : Jvm.Cond.instanceMethod ({ cls := "HairLineModel", name := "record", desc := "(IIII)I" } : Jvm.MethodName) ∈ gw := gm (tm4 (List.mem_of_getElem? (i := 151) rfl)) rfl
theorem wg_872 : Jvm.Cond.selects "HairLineModel" ({ cls := "HairLineModel", name := "record", desc := "(IIII)I" } : Jvm.MethodName) ({ cls := "HairLineModel", name := "record", desc := "(IIII)I" } : Jvm.MethodName) ∈ gw := gm (tm4 (List.mem_of_getElem? (i := 152) rfl)) rfl
theorem wg_873 : Jvm.Cond.code ({ cls := "HairLineModel", name := "record", desc := "(IIII)I" } : Jvm.MethodName) prog_11_method_52_code (9 : Nat) (Option.some Jvm.ClassFile.FieldType.int) ∈ gw := gm (tm4 (List.mem_of_getElem? (i := 153) rfl)) rfl
theorem wg_874 : Jvm.Cond.methodLink "HairLineModel" (224 : Nat) ({ cls := "HairLineModel", name := "isNumber", desc := "(I)Z" } : Jvm.MethodName) ∈ gw := gm (tm4 (List.mem_of_getElem? (i := 154) rfl)) rfl
theorem wg_875 : Jvm.Cond.static ({ cls := "HairLineModel", name := "isNumber", desc := "(I)Z" } : Jvm.MethodName) ∈ gw := gm (tm4 (List.mem_of_getElem? (i := 155) rfl)) rfl
theorem wg_876 : Jvm.Cond.code ({ cls := "HairLineModel", name := "isNumber", desc := "(I)Z" } : Jvm.MethodName) prog_11_method_51_code (1 : Nat) (Option.some Jvm.ClassFile.FieldType.boolean) ∈ gw := gm (tm4 (List.mem_of_getElem? (i := 156) rfl)) rfl
theorem wg_877 : Jvm.Cond.constantLong "HairLineModel" (220 : Nat) (-9999 : Int64) ∈ gw := gm (tm4 (List.mem_of_getElem? (i := 157) rfl)) rfl
theorem wg_878 : Jvm.Cond.constantLong "HairLineModel" (222 : Nat) (9999 : Int64) ∈ gw := gm (tm4 (List.mem_of_getElem? (i := 158) rfl)) rfl
theorem wg_879 : Jvm.Cond.methodLink "HairLineLaw" (115 : Nat) ({ cls := "HairLineModel", name := "slit", desc := "(II)I" } : Jvm.MethodName) ∈ gw := gm (tm4 (List.mem_of_getElem? (i := 159) rfl)) rfl
theorem wg_880 : Jvm.Cond.instanceMethod ({ cls := "HairLineModel", name := "slit", desc := "(II)I" } : Jvm.MethodName) ∈ gw := gm (tm4 (List.mem_of_getElem? (i := 160) rfl)) rfl
theorem wg_881 : Jvm.Cond.selects "HairLineModel" ({ cls := "HairLineModel", name := "slit", desc := "(II)I" } : Jvm.MethodName) ({ cls := "HairLineModel", name := "slit", desc := "(II)I" } : Jvm.MethodName) ∈ gw := gm (tm4 (List.mem_of_getElem? (i := 161) rfl)) rfl
theorem wg_882 : Jvm.Cond.code ({ cls := "HairLineModel", name := "slit", desc := "(II)I" } : Jvm.MethodName) prog_11_method_53_code (3 : Nat) (Option.some Jvm.ClassFile.FieldType.int) ∈ gw := gm (tm4 (List.mem_of_getElem? (i := 162) rfl)) rfl
theorem wg_883 : Jvm.Cond.constantLong "HairLineModel" (227 : Nat) (63 : Int64) ∈ gw := gm (tm4 (List.mem_of_getElem? (i := 163) rfl)) rfl
theorem wg_884 : Jvm.Cond.methodLink "HairLineLaw" (119 : Nat) ({ cls := "HairLineModel", name := "seen", desc := "(II)I" } : Jvm.MethodName) ∈ gw := gm (tm4 (List.mem_of_getElem? (i := 164) rfl)) rfl
theorem wg_885 : Jvm.Cond.instanceMethod ({ cls := "HairLineModel", name := "seen", desc := "(II)I" } : Jvm.MethodName) ∈ gw := gm (tm4 (List.mem_of_getElem? (i := 165) rfl)) rfl
theorem wg_886 : Jvm.Cond.selects "HairLineModel" ({ cls := "HairLineModel", name := "seen", desc := "(II)I" } : Jvm.MethodName) ({ cls := "HairLineModel", name := "seen", desc := "(II)I" } : Jvm.MethodName) ∈ gw := gm (tm4 (List.mem_of_getElem? (i := 166) rfl)) rfl
theorem wg_887 : Jvm.Cond.code ({ cls := "HairLineModel", name := "seen", desc := "(II)I" } : Jvm.MethodName) prog_11_method_56_code (4 : Nat) (Option.some Jvm.ClassFile.FieldType.int) ∈ gw := gm (tm4 (List.mem_of_getElem? (i := 167) rfl)) rfl
theorem wg_888 : Jvm.Cond.methodLink "HairLineModel" (232 : Nat) ({ cls := "HairLineModel", name := "seenBy", desc := "(I)I" } : Jvm.MethodName) ∈ gw := gm (tm4 (List.mem_of_getElem? (i := 168) rfl)) rfl
theorem wg_890 : Jvm.Cond.instanceMethod ({ cls := "HairLineModel", name := "seenBy", desc := "(I)I" } : Jvm.MethodName) ∈ gw := gm (tm4 (List.mem_of_getElem? (i := 170) rfl)) rfl
theorem wg_891 : Jvm.Cond.code ({ cls := "HairLineModel", name := "seenBy", desc := "(I)I" } : Jvm.MethodName) prog_11_method_54_code (6 : Nat) (Option.some Jvm.ClassFile.FieldType.int) ∈ gw := gm (tm4 (List.mem_of_getElem? (i := 171) rfl)) rfl
theorem wg_892 : Jvm.Cond.methodLink "HairLineModel" (235 : Nat) ({ cls := "HairLineModel", name := "untold", desc := "(I)I" } : Jvm.MethodName) ∈ gw := gm (tm4 (List.mem_of_getElem? (i := 172) rfl)) rfl
theorem wg_894 : Jvm.Cond.instanceMethod ({ cls := "HairLineModel", name := "untold", desc := "(I)I" } : Jvm.MethodName) ∈ gw := gm (tm4 (List.mem_of_getElem? (i := 174) rfl)) rfl
theorem wg_895 : Jvm.Cond.code ({ cls := "HairLineModel", name := "untold", desc := "(I)I" } : Jvm.MethodName) prog_11_method_55_code (6 : Nat) (Option.some Jvm.ClassFile.FieldType.int) ∈ gw := gm (tm4 (List.mem_of_getElem? (i := 175) rfl)) rfl
theorem wg_896 : Jvm.Cond.methodLink "HairLineLaw" (123 : Nat) ({ cls := "HairLineModel", name := "best", desc := "(II)I" } : Jvm.MethodName) ∈ gw := gm (tm4 (List.mem_of_getElem? (i := 176) rfl)) rfl
theorem wg_897 : Jvm.Cond.instanceMethod ({ cls := "HairLineModel", name := "best", desc := "(II)I" } : Jvm.MethodName) ∈ gw := gm (tm4 (List.mem_of_getElem? (i := 177) rfl)) rfl
theorem wg_898 : Jvm.Cond.selects "HairLineModel" ({ cls := "HairLineModel", name := "best", desc := "(II)I" } : Jvm.MethodName) ({ cls := "HairLineModel", name := "best", desc := "(II)I" } : Jvm.MethodName) ∈ gw := gm (tm4 (List.mem_of_getElem? (i := 178) rfl)) rfl
theorem wg_899 : Jvm.Cond.code ({ cls := "HairLineModel", name := "best", desc := "(II)I" } : Jvm.MethodName) prog_11_method_57_code (7 : Nat) (Option.some Jvm.ClassFile.FieldType.int) ∈ gw := gm (tm4 (List.mem_of_getElem? (i := 179) rfl)) rfl
theorem wg_900 : Jvm.Cond.constantLong "HairLineModel" (238 : Nat) (8 : Int64) ∈ gw := gm (tm4 (List.mem_of_getElem? (i := 180) rfl)) rfl
theorem wg_901 : Jvm.Cond.methodLink "HairLineModel" (240 : Nat) ({ cls := "HairLineModel", name := "ones", desc := "(I)I" } : Jvm.MethodName) ∈ gw := gm (tm4 (List.mem_of_getElem? (i := 181) rfl)) rfl
theorem wg_902 : Jvm.Cond.static ({ cls := "HairLineModel", name := "ones", desc := "(I)I" } : Jvm.MethodName) ∈ gw := gm (tm4 (List.mem_of_getElem? (i := 182) rfl)) rfl
theorem wg_903 : Jvm.Cond.code ({ cls := "HairLineModel", name := "ones", desc := "(I)I" } : Jvm.MethodName) prog_11_method_4_code (3 : Nat) (Option.some Jvm.ClassFile.FieldType.int) ∈ gw := gm (tm4 (List.mem_of_getElem? (i := 183) rfl)) rfl
theorem wg_904 : Jvm.Cond.methodLink "HairLineLaw" (127 : Nat) ({ cls := "HairLineModel", name := "told", desc := "(I)I" } : Jvm.MethodName) ∈ gw := gm (tm4 (List.mem_of_getElem? (i := 184) rfl)) rfl
theorem wg_905 : Jvm.Cond.instanceMethod ({ cls := "HairLineModel", name := "told", desc := "(I)I" } : Jvm.MethodName) ∈ gw := gm (tm4 (List.mem_of_getElem? (i := 185) rfl)) rfl
theorem wg_906 : Jvm.Cond.selects "HairLineModel" ({ cls := "HairLineModel", name := "told", desc := "(I)I" } : Jvm.MethodName) ({ cls := "HairLineModel", name := "told", desc := "(I)I" } : Jvm.MethodName) ∈ gw := gm (tm4 (List.mem_of_getElem? (i := 186) rfl)) rfl
theorem wg_907 : Jvm.Cond.code ({ cls := "HairLineModel", name := "told", desc := "(I)I" } : Jvm.MethodName) prog_11_method_58_code (2 : Nat) (Option.some Jvm.ClassFile.FieldType.int) ∈ gw := gm (tm4 (List.mem_of_getElem? (i := 187) rfl)) rfl
theorem wg_908 : Jvm.Cond.constantLong "HairLineModel" (243 : Nat) (10 : Int64) ∈ gw := gm (tm4 (List.mem_of_getElem? (i := 188) rfl)) rfl
theorem wg_909 : Jvm.Cond.constantLong "HairLineModel" (245 : Nat) (13 : Int64) ∈ gw := gm (tm4 (List.mem_of_getElem? (i := 189) rfl)) rfl
theorem ws_X8_rank : Cond.selects RX8 yX8_rank yX8_rank ∈ gw := gm (tm0 (List.mem_of_getElem? (i := 0) rfl)) rfl
theorem ws_X9_isRunner : Cond.selects RX9 yX9_isRunner yX9_isRunner ∈ gw := gm (tm0 (List.mem_of_getElem? (i := 1) rfl)) rfl
theorem ws_X9_numberOf : Cond.selects RX9 yX9_numberOf yX9_numberOf ∈ gw := gm (tm0 (List.mem_of_getElem? (i := 2) rfl)) rfl
theorem ws_X9_shown : Cond.selects RX9 yX9_shown yX9_shown ∈ gw := gm (tm0 (List.mem_of_getElem? (i := 3) rfl)) rfl
theorem ws_X9_covers : Cond.selects RX9 yX9_covers yX9_covers ∈ gw := gm (tm0 (List.mem_of_getElem? (i := 4) rfl)) rfl
theorem ws_X9_findFirst : Cond.selects RX9 yX9_findFirst yX9_findFirst ∈ gw := gm (tm0 (List.mem_of_getElem? (i := 5) rfl)) rfl
theorem ws_X9_firstOf : Cond.selects RX9 yX9_firstOf yX9_firstOf ∈ gw := gm (tm0 (List.mem_of_getElem? (i := 6) rfl)) rfl
theorem ws_X9_joinedOf : Cond.selects RX9 yX9_joinedOf yX9_joinedOf ∈ gw := gm (tm0 (List.mem_of_getElem? (i := 7) rfl)) rfl
theorem ws_X9_crossed : Cond.selects RX9 yX9_crossed yX9_crossed ∈ gw := gm (tm0 (List.mem_of_getElem? (i := 8) rfl)) rfl
theorem ws_X9_isHidden : Cond.selects RX9 yX9_isHidden yX9_isHidden ∈ gw := gm (tm0 (List.mem_of_getElem? (i := 9) rfl)) rfl
theorem ws_X9_hasTorso : Cond.selects RX9 yX9_hasTorso yX9_hasTorso ∈ gw := gm (tm0 (List.mem_of_getElem? (i := 10) rfl)) rfl
theorem ws_X9_hearsOf : Cond.selects RX9 yX9_hearsOf yX9_hearsOf ∈ gw := gm (tm0 (List.mem_of_getElem? (i := 11) rfl)) rfl
theorem ws_X9_findOrder : Cond.selects RX9 yX9_findOrder yX9_findOrder ∈ gw := gm (tm0 (List.mem_of_getElem? (i := 12) rfl)) rfl
theorem ws_X9_timeOf : Cond.selects RX9 yX9_timeOf yX9_timeOf ∈ gw := gm (tm0 (List.mem_of_getElem? (i := 13) rfl)) rfl
theorem ws_X9_findTrue : Cond.selects RX9 yX9_findTrue yX9_findTrue ∈ gw := gm (tm0 (List.mem_of_getElem? (i := 14) rfl)) rfl
theorem ws_X9_seenBy : Cond.selects RX9 yX9_seenBy yX9_seenBy ∈ gw := gm (tm0 (List.mem_of_getElem? (i := 15) rfl)) rfl
theorem ws_X9_untold : Cond.selects RX9 yX9_untold yX9_untold ∈ gw := gm (tm0 (List.mem_of_getElem? (i := 16) rfl)) rfl
theorem inX0 : ∀ w ∈ u_ws RX0 TX0 5, w ∈ gw := uin (fun k hk => match k, hk with
  | 0, _ => wg_156
  | 1, _ => wg_158
  | 2, _ => wg_160
  | 3, _ => wg_162
  | 4, _ => wg_164
  | k + 5, h => absurd h (by omega))
theorem inX1 : ∀ w ∈ u_ws RX1 TX1 3, w ∈ gw := uin (fun k hk => match k, hk with
  | 0, _ => wg_120
  | 1, _ => wg_122
  | 2, _ => wg_124
  | k + 3, h => absurd h (by omega))
theorem inX2 : ∀ w ∈ u_ws RX2 TX2 4, w ∈ gw := uin (fun k hk => match k, hk with
  | 0, _ => wg_178
  | 1, _ => wg_180
  | 2, _ => wg_182
  | 3, _ => wg_184
  | k + 4, h => absurd h (by omega))
theorem inX3 : ∀ w ∈ u_ws RX3 TX3 3, w ∈ gw := uin (fun k hk => match k, hk with
  | 0, _ => wg_79
  | 1, _ => wg_81
  | 2, _ => wg_83
  | k + 3, h => absurd h (by omega))
theorem inX4 : ∀ w ∈ u_ws RX4 TX4 5, w ∈ gw := uin (fun k hk => match k, hk with
  | 0, _ => wg_43
  | 1, _ => wg_45
  | 2, _ => wg_47
  | 3, _ => wg_49
  | 4, _ => wg_51
  | k + 5, h => absurd h (by omega))
theorem inX5 : ∀ w ∈ u_ws RX5 TX5 2, w ∈ gw := uin (fun k hk => match k, hk with
  | 0, _ => wg_138
  | 1, _ => wg_140
  | k + 2, h => absurd h (by omega))
theorem inX6 : ∀ w ∈ u_ws RX6 TX6 2, w ∈ gw := uin (fun k hk => match k, hk with
  | 0, _ => wg_105
  | 1, _ => wg_107
  | k + 2, h => absurd h (by omega))
theorem inX7 : ∀ w ∈ u_ws RX7 TX7 3, w ∈ gw := uin (fun k hk => match k, hk with
  | 0, _ => wg_62
  | 1, _ => wg_64
  | 2, _ => wg_66
  | k + 3, h => absurd h (by omega))
theorem inX8 : ∀ w ∈ u_ws RX8 TX8 6, w ∈ gw := uin (fun k hk => match k, hk with
  | 0, _ => wg_193
  | 1, _ => wg_195
  | 2, _ => wg_197
  | 3, _ => wg_199
  | 4, _ => wg_201
  | 5, _ => wg_203
  | k + 6, h => absurd h (by omega))
theorem inX9 : ∀ w ∈ u_ws RX9 TX9 28, w ∈ gw := uin (fun k hk => match k, hk with
  | 0, _ => wg_614
  | 1, _ => wg_616
  | 2, _ => wg_618
  | 3, _ => wg_620
  | 4, _ => wg_622
  | 5, _ => wg_624
  | 6, _ => wg_626
  | 7, _ => wg_628
  | 8, _ => wg_630
  | 9, _ => wg_632
  | 10, _ => wg_634
  | 11, _ => wg_636
  | 12, _ => wg_638
  | 13, _ => wg_640
  | 14, _ => wg_642
  | 15, _ => wg_644
  | 16, _ => wg_646
  | 17, _ => wg_648
  | 18, _ => wg_650
  | 19, _ => wg_652
  | 20, _ => wg_654
  | 21, _ => wg_656
  | 22, _ => wg_658
  | 23, _ => wg_660
  | 24, _ => wg_662
  | 25, _ => wg_664
  | 26, _ => wg_666
  | 27, _ => wg_668
  | k + 28, h => absurd h (by omega))
end
section
/-! numbers: every int on the stack is written zI z, z an Int -/
def zI (z : Int) : Int32 := Int32.ofInt z
def zJ (z : Int) : Int64 := Int64.ofInt z
abbrev zR (z : Int) : Prop := -2147483648 ≤ z ∧ z < 2147483648
abbrev zL (z : Int) : Prop := -9223372036854775808 ≤ z ∧ z < 9223372036854775808
def bz (P : Prop) [Decidable P] : Int := if P then 1 else 0
theorem bz_t {P : Prop} [Decidable P] (h : P) : bz P = 1 := if_pos h
theorem bz_f {P : Prop} [Decidable P] (h : ¬ P) : bz P = 0 := if_neg h
theorem zI_toInt {z : Int} (h : zR z) : (zI z).toInt = z := Int32.toInt_ofInt_of_le (by have := h.1; omega) (by have := h.2; omega)
theorem zJ_toInt {z : Int} (h : zL z) : (zJ z).toInt = z := Int64.toInt_ofInt_of_le (by have := h.1; omega) (by have := h.2; omega)
theorem zI_of (x : Int32) : x = zI x.toInt := (Int32.ofInt_toInt x).symm
theorem zR_of (x : Int32) : zR x.toInt := ⟨by have := Int32.le_toInt x; omega, by have := Int32.toInt_lt x; omega⟩
theorem zI_ex (x : Int32) : ∃ z : Int, zR z ∧ x = zI z := ⟨x.toInt, zR_of x, zI_of x⟩
theorem zI_add (a b : Int) : zI a + zI b = zI (a + b) := (Int32.ofInt_add a b).symm
theorem zI_sub (a b : Int) : zI a - zI b = zI (a - b) := (Int32.ofInt_sub a b).symm
theorem zI_mul (a b : Int) : zI a * zI b = zI (a * b) := (Int32.ofInt_mul a b).symm
theorem zI_neg (a : Int) : -zI a = zI (-a) := (Int32.ofInt_neg a).symm
theorem zJ_add (a b : Int) : zJ a + zJ b = zJ (a + b) := (Int64.ofInt_add a b).symm
theorem zJ_sub (a b : Int) : zJ a - zJ b = zJ (a - b) := (Int64.ofInt_sub a b).symm
theorem zJ_mul (a b : Int) : zJ a * zJ b = zJ (a * b) := (Int64.ofInt_mul a b).symm
theorem zI_lt {a b : Int} (ha : zR a) (hb : zR b) : zI a < zI b ↔ a < b := by rw [Int32.lt_iff_toInt_lt, zI_toInt ha, zI_toInt hb]
theorem zI_le {a b : Int} (ha : zR a) (hb : zR b) : zI a ≤ zI b ↔ a ≤ b := by rw [Int32.le_iff_toInt_le, zI_toInt ha, zI_toInt hb]
theorem zI_eq {a b : Int} (ha : zR a) (hb : zR b) : zI a = zI b ↔ a = b := by rw [← Int32.toInt_inj, zI_toInt ha, zI_toInt hb]
theorem zJ_lt {a b : Int} (ha : zL a) (hb : zL b) : zJ a < zJ b ↔ a < b := by rw [Int64.lt_iff_toInt_lt, zJ_toInt ha, zJ_toInt hb]
theorem zJ_eq {a b : Int} (ha : zL a) (hb : zL b) : zJ a = zJ b ↔ a = b := by rw [← Int64.toInt_inj, zJ_toInt ha, zJ_toInt hb]
theorem zR_0 : zR 0 := ⟨by omega, by omega⟩
theorem zI_0 : (0 : Int32) = zI 0 := rfl
theorem zJ_0 : (0 : Int64) = zJ 0 := rfl
theorem zI_ne0 {b : Int} (hb : zR b) (h : b ≠ 0) : ¬ zI b = 0 := fun e => h ((zI_eq hb zR_0).mp e)
theorem zJ_ne0 {b : Int} (hb : zL b) (h : b ≠ 0) : ¬ zJ b = 0 := fun e => h ((zJ_eq hb ⟨by omega, by omega⟩).mp e)
theorem zI_div {a b : Int} (ha : zR a) (hb : zR b) (h1 : b ≠ -1) : zI a / zI b = zI (a.tdiv b) := by
  have e1 : (zI a / zI b).toInt = a.tdiv b := by
    rw [Int32.toInt_div_of_ne_right _ _ (fun e => h1 ((zI_eq hb (b := -1) ⟨by omega, by omega⟩).mp e)), zI_toInt ha, zI_toInt hb]
  rw [← e1]; exact zI_of _
theorem zJ_div {a b : Int} (ha : zL a) (hb : zL b) (h1 : b ≠ -1) : zJ a / zJ b = zJ (a.tdiv b) := by
  have e1 : (zJ a / zJ b).toInt = a.tdiv b := by
    rw [Int64.toInt_div_of_ne_right _ _ (fun e => h1 ((zJ_eq hb (b := -1) ⟨by omega, by omega⟩).mp e)), zJ_toInt ha, zJ_toInt hb]
  rw [← e1]; exact (Int64.ofInt_toInt _).symm
theorem zI_rem {a b : Int} (ha : zR a) (hb : zR b) (h1 : b ≠ -1) : zI a - zI a / zI b * zI b = zI (a.tmod b) := by
  rw [zI_div ha hb h1, zI_mul, zI_sub, Int.tmod_def, Int.mul_comm]
theorem zJ_rem {a b : Int} (ha : zL a) (hb : zL b) (h1 : b ≠ -1) : zJ a - zJ a / zJ b * zJ b = zJ (a.tmod b) := by
  rw [zJ_div ha hb h1, zJ_mul, zJ_sub, Int.tmod_def, Int.mul_comm]
theorem zJ_i2l {a : Int} (ha : zR a) : (zI a).toInt64 = zJ a := by
  rw [← Int64.ofInt_int32ToInt, zI_toInt ha]; rfl
theorem zI_nI (n : Nat) : zI (n : Int) = nI n := Int32.ofInt_eq_ofNat
theorem zI_clamp {a : Int} (h0 : 0 ≤ a) (h1 : zR a) : (zI a).toNatClampNeg = a.toNat := by
  obtain ⟨n, rfl⟩ : ∃ n : Nat, a = (n : Int) := ⟨a.toNat, by omega⟩
  rw [zI_nI, nI_clamp (by have := h1.2; omega)]; rfl
theorem zI_vin {a : Int} {n : Nat} (h0 : 0 ≤ a) (h1 : a < n) (h2 : zR a) : vp_in (zI a) n := vp_in_iff.mpr (by rw [zI_toInt h2]; exact ⟨h0, h1⟩)
/-! the joint world of the class (cells 0..43) and the model (44..61): one memory -/
abbrev Mem : Type := Nat → Nat → Int
def um (σ : Mem) (i j : Nat) (v : Int) : Mem := fun a b => if a = i ∧ b = j then v else σ a b
theorem um_ne {σ : Mem} {i j a : Nat} {v : Int} (h : a ≠ i) : um σ i j v a = σ a := by funext b; simp [um, h]
theorem um_at {σ : Mem} {i j : Nat} {v : Int} : um σ i j v i j = v := by simp [um]
theorem um_at_ne {σ : Mem} {i j b : Nat} {v : Int} (h : b ≠ j) : um σ i j v i b = σ i b := by simp [um, h]
def cA (g : Nat → ClassId) (n : Nat) (r : Nat → Int) : va_E := .inl (g 0, n, .inl (fun j => zI (r j)))
def cE (q : Nat → Nat) (g : Nat → ClassId) (r : Nat → Int) (i : Nat) : va_E :=
  if i = 0 then .inr (8, [.ref (q 1), .ref (q 2), .ref (q 3), .ref (q 4), .ref (q 5), .ref (q 6)])
  else if i = 1 then .inr (7, [.ref (q 7), .ref (q 8), .int (zI (r 2))])
  else if i = 2 then .inr (3, [.ref (q 9), .ref (q 10), .int (zI (r 2))])
  else if i = 3 then .inr (1, [.ref (q 11), .ref (q 12), .ref (q 18)])
  else if i = 4 then .inr (5, [.ref (q 13), .int (zI (r 1))])
  else if i = 5 then .inr (0, [.ref (q 19), .ref (q 20), .ref (q 21), .ref (q 22), .int (zI (r 4))])
  else if i = 6 then .inr (2, [.ref (q 23), .ref (q 24), .ref (q 25), .int (zI (r 3))])
  else if i = 7 then .inl (g 2, 6, .inr (.inr (.inr (.inr (fun j => some (q (26 + j)))))))
  else if i = 8 then cA g 4 r
  else if i = 9 then cA g 6 r
  else if i = 10 then cA g 6 r
  else if i = 11 then .inl (g 3, 4, .inr (.inr (.inr (.inr (fun j => some (q (14 + j)))))))
  else if i = 12 then cA g 4 r
  else if i = 13 then cA g 30 r
  else if i < 19 then .inr (6, [.int (zI (r 0)), .int (zI (r 1))])
  else if i < 26 then cA g 8 r
  else if i < 32 then .inr (4, [.ref (q (i + 6)), .ref (q (i + 12)), .int (zI (r 2)), .int (zI (r 3)), .int (zI (r 4))])
  else if i < 44 then cA g 12 r
  else if i = 44 then .inr (9, [.ref (q 45), .ref (q 46), .ref (q 47), .ref (q 48), .ref (q 49), .ref (q 50), .int (zI (r 6)), .int (zI (r 7)), .int (zI (r 8)), .int (zI (r 9)), .int (zI (r 10)), .ref (q 51), .ref (q 52), .int (zI (r 13)), .ref (q 53), .ref (q 54), .ref (q 55), .int (zI (r 17)), .int (zI (r 18)), .ref (q 56), .int (zI (r 20)), .ref (q 57), .ref (q 58), .ref (q 59), .int (zI (r 24)), .ref (q 60), .ref (q 61), .int (zI (r 27))])
  else if i = 47 then .inl (g 1, 72, .inl (fun j => zI (r j)))
  else if i = 48 then cA g 72 r
  else if i = 49 then cA g 72 r
  else if i = 51 then cA g 72 r
  else if i < 53 then cA g 6 r
  else if i < 56 then cA g 4 r
  else if i = 56 then cA g 30 r
  else if i < 60 then cA g 10 r
  else cA g 8 r
theorem cE_spn {q : Nat → Nat} {g : Nat → ClassId} {j : Nat} (hj : j < 5) (r : Nat → Int) : cE q g r (14 + j) = .inr (6, [.int (zI (r 0)), .int (zI (r 1))]) := by
  rcases j with _ | _ | _ | _ | _ | j <;> first | rfl | omega
theorem cE_run {q : Nat → Nat} {g : Nat → ClassId} {j : Nat} (hj : j < 6) (r : Nat → Int) : cE q g r (26 + j) = .inr (4, [.ref (q (32 + j)), .ref (q (38 + j)), .int (zI (r 2)), .int (zI (r 3)), .int (zI (r 4))]) := by
  rcases j with _ | _ | _ | _ | _ | _ | j <;> first | rfl | omega
theorem cE_frm {q : Nat → Nat} {g : Nat → ClassId} {j : Nat} (hj : j < 6) (r : Nat → Int) : cE q g r (32 + j) = .inl (g 0, 12, .inl (fun j => zI (r j))) := by
  rcases j with _ | _ | _ | _ | _ | _ | j <;> first | rfl | omega
theorem cE_to {q : Nat → Nat} {g : Nat → ClassId} {j : Nat} (hj : j < 6) (r : Nat → Int) : cE q g r (38 + j) = .inl (g 0, 12, .inl (fun j => zI (r j))) := by
  rcases j with _ | _ | _ | _ | _ | _ | j <;> first | rfl | omega
def zw (q : Nat → Nat) (g : Nat → ClassId) (σ : Mem) : va_W := (List.range 62).map (fun i => (q i, cE q g (σ i) i))
theorem zw_get {q : Nat → Nat} {g : Nat → ClassId} {σ : Mem} {i : Nat} (hi : i < 62) : (zw q g σ)[i]? = some (q i, cE q g (σ i) i) := by simp [zw, hi]
theorem zw_at {q : Nat → Nat} {g : Nat → ClassId} {σ : Mem} {i : Nat} {E : va_E} (hi : i < 62) (hE : ∀ r, cE q g r i = E) : (zw q g σ)[i]? = some (q i, E) := by rw [zw_get hi, hE]
theorem zw_of {q : Nat → Nat} {g : Nat → ClassId} {σ : Mem} {i : Nat} {E : (Nat → Int) → va_E} (hi : i < 62) (hE : ∀ r, cE q g r i = E r) : (zw q g σ)[i]? = some (q i, E (σ i)) := by rw [zw_get hi, hE]
theorem zw_set {q : Nat → Nat} {g : Nat → ClassId} {σ : Mem} {i j : Nat} {v : Int} {E : va_E} (hi : i < 62) (hE : cE q g (um σ i j v i) i = E) : (zw q g σ).set i (q i, E) = zw q g (um σ i j v) := by
  apply List.ext_getElem?
  intro n
  rw [List.getElem?_set]
  by_cases hn : n < 62
  · rw [zw_get (σ := um σ i j v) hn]
    by_cases h : i = n
    · subst h; rw [if_pos rfl, if_pos (by simp [zw, hi]), hE]
    · rw [if_neg h, zw_get hn, um_ne (Ne.symm h)]
  · have e : ∀ τ : Mem, (zw q g τ)[n]? = none := fun τ => by simp [zw]; omega
    rw [e, e, if_neg (by omega)]
def qok (q : Nat → Nat) : Prop := ∀ i j, i < 62 → j < 62 → q i = q j → i = j
def aQ (q : Nat → Nat) : Nat → Prop := fun a => ∃ i, i < 62 ∧ a = q i
theorem zw_D {q : Nat → Nat} {g : Nat → ClassId} {σ : Mem} (hq : qok q) : va_D (aQ q) (zw q g σ) := by
  have e : ∀ {n : Nat} {x : Nat × va_E}, (zw q g σ)[n]? = some x → n < 62 ∧ x.1 = q n := by
    intro n x h
    by_cases hn : n < 62
    · rw [zw_get hn] at h; cases h; exact ⟨hn, rfl⟩
    · rw [show (zw q g σ)[n]? = none by simp [zw]; omega] at h; cases h
  refine ⟨fun i j x y hx hy h => ?_, fun k x hk => ?_⟩
  · have h1 := e hx; have h2 := e hy
    exact hq i j h1.1 h2.1 (by rw [← h1.2, ← h2.2, h])
  · exact ⟨k, (e hk).1, (e hk).2⟩
abbrev zT (g : Nat → ClassId) : List (ClassId × FieldType) := [(g 0, .int), (g 1, .boolean), (g 2, .object "HairLine$Runner"), (g 3, .object "HairLine$Span")]
def isNest : Cond → Bool
  | .fieldLinkNest _ _ _ _ _ _ => true
  | .methodLinkNest _ _ _ _ => true
  | _ => false
def KK (D : va_G) (g : Nat → ClassId) (U : State) : Prop := va_K D vwCl (zT g) U ∧ ∀ w ∈ lw_tbl, isNest w = true → va_Nw w U
theorem KK.moved {D : va_G} {g : Nat → ClassId} {s U : State} (hW : s.WarmedH U.vm) (h : KK D g s) : KK D g U := by
  refine ⟨va_K.moved hW.alike h.1, fun w hw hn => ?_⟩
  cases w with
  | fieldLinkNest a i b n d hh => exact va_Nw.warmF hW (h.2 _ hw hn)
  | methodLinkNest a i x hh => exact va_Nw.warmM hW (h.2 _ hw hn)
  | _ => cases hn
theorem KK.calling {D : va_G} {g : Nat → ClassId} {U : State} {a : Array Value} {f : JFrame} {mk : MethodId} (h : KK D g U) : KK D g (U.calling f mk a) := by
  refine ⟨va_K.moved (u := U) (U := U.calling f mk a) (Vm.Alike.refl U.vm) h.1, fun w hw hn => ?_⟩
  cases w with
  | fieldLinkNest a i b n d hh => exact va_Nw.same rfl rfl (h.2 _ hw hn)
  | methodLinkNest a i x hh => exact va_Nw.same rfl rfl (h.2 _ hw hn)
  | _ => cases hn
abbrev HP (D : va_G) (q : Nat → Nat) (g : Nat → ClassId) (σ : Mem) (H : Heap) : Prop := va_P D vwCl (zw q g σ) H
/-- a frame's fixed surroundings -/
abbrev Cx (D : va_G) (g : Nat → ClassId) (own : String) (cc : ByteArray) (nL : Nat) (p : Program) (s : State) (m : MethodId) (args : Array Value) (c : Code) : Prop := CallFix p m c cc nL s args gw own ∧ KK D g s
end
section
section ZR
variable {p : Program} {l : Launch} {e : Env} {R : Room} {s : State} {m : MethodId} {args : Array Value} {below : List Frame} {meth : Method} {c : Code} {H : Heap} {locs : List Loc} {cells slots : Nat} {Q : State → Prop}
variable {cc : ByteArray} {pc : Nat} {ls : Array Slot} {rest : List Value} {D : va_G} {g : Nat → ClassId} {own : String} {nL : Nat} {lv : List (Nat × Value)}
theorem z_ic (C : Cx D g own cc nL p s m args c) {n : Int} (d : decode cc pc = .ok (.iconst n, 1)) (k : W p l e R s m args below meth c H locs cells slots Q (F0 m (pc + 1) ls (.int (zI n) :: rest))) : W p l e R s m args below meth c H locs cells slots Q (F0 m pc ls rest) := lv_iconst C.1.1 C.1.2.1 d rfl k
theorem z_bp (C : Cx D g own cc nL p s m args c) {n : Int} (d : decode cc pc = .ok (.bipush n, 2)) (hv : (Int8.ofInt n).toInt32 = zI n) (k : W p l e R s m args below meth c H locs cells slots Q (F0 m (pc + 2) ls (.int (zI n) :: rest))) : W p l e R s m args below meth c H locs cells slots Q (F0 m pc ls rest) := lv_bipush C.1.1 C.1.2.1 d hv k
theorem z_sp (C : Cx D g own cc nL p s m args c) {n : Int} (d : decode cc pc = .ok (.sipush n, 3)) (hv : (Int16.ofInt n).toInt32 = zI n) (k : W p l e R s m args below meth c H locs cells slots Q (F0 m (pc + 3) ls (.int (zI n) :: rest))) : W p l e R s m args below meth c H locs cells slots Q (F0 m pc ls rest) := lv_sipush C.1.1 C.1.2.1 d hv k
theorem z_ldc (C : Cx D g own cc nL p s m args c) {i : Nat} {v : Int32} {n : Int} (w : Cond.constant own i v ∈ gw) (hv : v = zI n) (d : decode cc pc = .ok (.ldc i, 2)) (k : W p l e R s m args below meth c H locs cells slots Q (F0 m (pc + 2) ls (.int (zI n) :: rest))) : W p l e R s m args below meth c H locs cells slots Q (F0 m pc ls rest) := lv_ldc C.1.1 C.1.2.1 C.1.2.2.2.1 (C.1.2.2.2.2 _ w) d (by rw [hv]; exact k)
theorem z_ldcw (C : Cx D g own cc nL p s m args c) {i : Nat} {v : Int32} {n : Int} (w : Cond.constant own i v ∈ gw) (hv : v = zI n) (d : decode cc pc = .ok (.ldc_w i, 3)) (k : W p l e R s m args below meth c H locs cells slots Q (F0 m (pc + 3) ls (.int (zI n) :: rest))) : W p l e R s m args below meth c H locs cells slots Q (F0 m pc ls rest) := lv_ldcw C.1.1 C.1.2.1 C.1.2.2.2.1 (C.1.2.2.2.2 _ w) d (by rw [hv]; exact k)
theorem z_ldc2 (C : Cx D g own cc nL p s m args c) {i : Nat} {v : Int64} {n : Int} (w : Cond.constantLong own i v ∈ gw) (hv : v = zJ n) (d : decode cc pc = .ok (.ldc2_w i, 3)) (k : W p l e R s m args below meth c H locs cells slots Q (F0 m (pc + 3) ls (.long (zJ n) :: rest))) : W p l e R s m args below meth c H locs cells slots Q (F0 m pc ls rest) := lv_ldc2 C.1.1 C.1.2.1 C.1.2.2.2.1 (C.1.2.2.2.2 _ w) d (by rw [hv]; exact k)
theorem z_lc0 (C : Cx D g own cc nL p s m args c) (d : decode cc pc = .ok (.lconst 0, 1)) (k : W p l e R s m args below meth c H locs cells slots Q (F0 m (pc + 1) ls (.long (zJ 0) :: rest))) : W p l e R s m args below meth c H locs cells slots Q (F0 m pc ls rest) := lv_lconst C.1.1 C.1.2.1 d rfl k
theorem z_lc1 (C : Cx D g own cc nL p s m args c) (d : decode cc pc = .ok (.lconst 1, 1)) (k : W p l e R s m args below meth c H locs cells slots Q (F0 m (pc + 1) ls (.long (zJ 1) :: rest))) : W p l e R s m args below meth c H locs cells slots Q (F0 m pc ls rest) := lv_lconst C.1.1 C.1.2.1 d rfl k
theorem z_iln (C : Cx D g own cc nL p s m args c) (hl : lv_has ls nL lv) (k : Nat) {f : Fin 4} {x : Int32} (hk : lv[k]? = some ((f : Nat), .int x)) (d : decode cc pc = .ok (.iload_n f, 1)) (kk : W p l e R s m args below meth c H locs cells slots Q (F0 m (pc + 1) ls (.int x :: rest))) : W p l e R s m args below meth c H locs cells slots Q (F0 m pc ls rest) := lv_iload_n C.1.1 C.1.2.1 d rfl (lv_at hl k hk) kk
theorem z_il (C : Cx D g own cc nL p s m args c) (hl : lv_has ls nL lv) (k : Nat) {f : Nat} {x : Int32} (hk : lv[k]? = some (f, .int x)) (d : decode cc pc = .ok (.iload f, 2)) (kk : W p l e R s m args below meth c H locs cells slots Q (F0 m (pc + 2) ls (.int x :: rest))) : W p l e R s m args below meth c H locs cells slots Q (F0 m pc ls rest) := lv_iload C.1.1 C.1.2.1 d (lv_at hl k hk) kk
theorem z_lln (C : Cx D g own cc nL p s m args c) (hl : lv_has ls nL lv) (k : Nat) {f : Fin 4} {x : Int64} (hk : lv[k]? = some ((f : Nat), .long x)) (d : decode cc pc = .ok (.lload_n f, 1)) (kk : W p l e R s m args below meth c H locs cells slots Q (F0 m (pc + 1) ls (.long x :: rest))) : W p l e R s m args below meth c H locs cells slots Q (F0 m pc ls rest) := lv_lload_n C.1.1 C.1.2.1 d rfl (lv_at hl k hk) kk
theorem z_ll (C : Cx D g own cc nL p s m args c) (hl : lv_has ls nL lv) (k : Nat) {f : Nat} {x : Int64} (hk : lv[k]? = some (f, .long x)) (d : decode cc pc = .ok (.lload f, 2)) (kk : W p l e R s m args below meth c H locs cells slots Q (F0 m (pc + 2) ls (.long x :: rest))) : W p l e R s m args below meth c H locs cells slots Q (F0 m pc ls rest) := lv_lload C.1.1 C.1.2.1 d (lv_at hl k hk) kk
theorem z_aln (C : Cx D g own cc nL p s m args c) (hl : lv_has ls nL lv) (k : Nat) {f : Fin 4} {x : Nat} (hk : lv[k]? = some ((f : Nat), .ref x)) (d : decode cc pc = .ok (.aload_n f, 1)) (kk : W p l e R s m args below meth c H locs cells slots Q (F0 m (pc + 1) ls (.ref x :: rest))) : W p l e R s m args below meth c H locs cells slots Q (F0 m pc ls rest) := lv_aload_n C.1.1 C.1.2.1 d rfl (lv_at hl k hk) kk
theorem z_al (C : Cx D g own cc nL p s m args c) (hl : lv_has ls nL lv) (k : Nat) {f : Nat} {x : Nat} (hk : lv[k]? = some (f, .ref x)) (d : decode cc pc = .ok (.aload f, 2)) (kk : W p l e R s m args below meth c H locs cells slots Q (F0 m (pc + 2) ls (.ref x :: rest))) : W p l e R s m args below meth c H locs cells slots Q (F0 m pc ls rest) := lv_aload C.1.1 C.1.2.1 d (lv_at hl k hk) kk
theorem z_isn (C : Cx D g own cc nL p s m args c) (hl : lv_has ls nL lv) {f : Fin 4} {x : Int32} (lv' : List (Nat × Value)) (hn : (f : Nat) < nL) (h' : ((f : Nat), Value.int x) :: lv.filter (fun q => !(q.1 == (f : Nat)) && !(q.1 + 1 == (f : Nat) && q.2.category == 2)) = lv') (d : decode cc pc = .ok (.istore_n f, 1)) (kk : ∀ ls' : Array Slot, lv_has ls' nL lv' → W p l e R s m args below meth c H locs cells slots Q (F0 m (pc + 1) ls' rest)) : W p l e R s m args below meth c H locs cells slots Q (F0 m pc ls (.int x :: rest)) := lv_istore_n C.1.1 C.1.2.1 d rfl hl hn h' kk
theorem z_ist (C : Cx D g own cc nL p s m args c) (hl : lv_has ls nL lv) {f : Nat} {x : Int32} (lv' : List (Nat × Value)) (hn : f < nL) (h' : (f, Value.int x) :: lv.filter (fun q => !(q.1 == f) && !(q.1 + 1 == f && q.2.category == 2)) = lv') (d : decode cc pc = .ok (.istore f, 2)) (kk : ∀ ls' : Array Slot, lv_has ls' nL lv' → W p l e R s m args below meth c H locs cells slots Q (F0 m (pc + 2) ls' rest)) : W p l e R s m args below meth c H locs cells slots Q (F0 m pc ls (.int x :: rest)) := lv_istore C.1.1 C.1.2.1 d hl hn h' kk
theorem z_lsn (C : Cx D g own cc nL p s m args c) (hl : lv_has ls nL lv) {f : Fin 4} {x : Int64} (lv' : List (Nat × Value)) (hn : (f : Nat) + 1 < nL) (h' : ((f : Nat), Value.long x) :: lv.filter (fun q => !(q.1 == (f : Nat)) && (!(q.1 == (f : Nat) + 1) && !(q.1 + 1 == (f : Nat) && q.2.category == 2))) = lv') (d : decode cc pc = .ok (.lstore_n f, 1)) (kk : ∀ ls' : Array Slot, lv_has ls' nL lv' → W p l e R s m args below meth c H locs cells slots Q (F0 m (pc + 1) ls' rest)) : W p l e R s m args below meth c H locs cells slots Q (F0 m pc ls (.long x :: rest)) := lv_lstore_n C.1.1 C.1.2.1 d rfl hl hn h' kk
theorem z_lst (C : Cx D g own cc nL p s m args c) (hl : lv_has ls nL lv) {f : Nat} {x : Int64} (lv' : List (Nat × Value)) (hn : f + 1 < nL) (h' : (f, Value.long x) :: lv.filter (fun q => !(q.1 == f) && (!(q.1 == f + 1) && !(q.1 + 1 == f && q.2.category == 2))) = lv') (d : decode cc pc = .ok (.lstore f, 2)) (kk : ∀ ls' : Array Slot, lv_has ls' nL lv' → W p l e R s m args below meth c H locs cells slots Q (F0 m (pc + 2) ls' rest)) : W p l e R s m args below meth c H locs cells slots Q (F0 m pc ls (.long x :: rest)) := lv_lstore C.1.1 C.1.2.1 d hl hn h' kk
theorem z_asn (C : Cx D g own cc nL p s m args c) (hl : lv_has ls nL lv) {f : Fin 4} {x : Nat} (lv' : List (Nat × Value)) (hn : (f : Nat) < nL) (h' : ((f : Nat), Value.ref x) :: lv.filter (fun q => !(q.1 == (f : Nat)) && !(q.1 + 1 == (f : Nat) && q.2.category == 2)) = lv') (d : decode cc pc = .ok (.astore_n f, 1)) (kk : ∀ ls' : Array Slot, lv_has ls' nL lv' → W p l e R s m args below meth c H locs cells slots Q (F0 m (pc + 1) ls' rest)) : W p l e R s m args below meth c H locs cells slots Q (F0 m pc ls (.ref x :: rest)) := lv_astore_n C.1.1 C.1.2.1 d rfl hl hn h' kk
theorem z_ast (C : Cx D g own cc nL p s m args c) (hl : lv_has ls nL lv) {f : Nat} {x : Nat} (lv' : List (Nat × Value)) (hn : f < nL) (h' : (f, Value.ref x) :: lv.filter (fun q => !(q.1 == f) && !(q.1 + 1 == f && q.2.category == 2)) = lv') (d : decode cc pc = .ok (.astore f, 2)) (kk : ∀ ls' : Array Slot, lv_has ls' nL lv' → W p l e R s m args below meth c H locs cells slots Q (F0 m (pc + 2) ls' rest)) : W p l e R s m args below meth c H locs cells slots Q (F0 m pc ls (.ref x :: rest)) := lv_astore C.1.1 C.1.2.1 d hl hn h' kk
theorem z_iinc (C : Cx D g own cc nL p s m args c) (hl : lv_has ls nL lv) (k : Nat) {f : Nat} {x n : Int} (hk : lv[k]? = some (f, .int (zI x))) (lv' : List (Nat × Value)) (hn : f < nL) (h' : (f, Value.int (zI (x + n))) :: lv.filter (fun q => !(q.1 == f) && !(q.1 + 1 == f && q.2.category == 2)) = lv') (d : decode cc pc = .ok (.iinc f n, 3)) (kk : ∀ ls' : Array Slot, lv_has ls' nL lv' → W p l e R s m args below meth c H locs cells slots Q (F0 m (pc + 3) ls' rest)) : W p l e R s m args below meth c H locs cells slots Q (F0 m pc ls rest) := lv_iinc (v := zI (x + n)) C.1.1 C.1.2.1 d hl hk (zI_add x n) hn h' kk
theorem z_iadd (C : Cx D g own cc nL p s m args c) {a b : Int} (d : decode cc pc = .ok (.iadd, 1)) (k : W p l e R s m args below meth c H locs cells slots Q (F0 m (pc + 1) ls (.int (zI (a + b)) :: rest))) : W p l e R s m args below meth c H locs cells slots Q (F0 m pc ls (.int (zI b) :: .int (zI a) :: rest)) := lv_iadd C.1.1 C.1.2.1 d (by rw [zI_add]; exact k)
theorem z_isub (C : Cx D g own cc nL p s m args c) {a b : Int} (d : decode cc pc = .ok (.isub, 1)) (k : W p l e R s m args below meth c H locs cells slots Q (F0 m (pc + 1) ls (.int (zI (a - b)) :: rest))) : W p l e R s m args below meth c H locs cells slots Q (F0 m pc ls (.int (zI b) :: .int (zI a) :: rest)) := lv_isub C.1.1 C.1.2.1 d (by rw [zI_sub]; exact k)
theorem z_imul (C : Cx D g own cc nL p s m args c) {a b : Int} (d : decode cc pc = .ok (.imul, 1)) (k : W p l e R s m args below meth c H locs cells slots Q (F0 m (pc + 1) ls (.int (zI (a * b)) :: rest))) : W p l e R s m args below meth c H locs cells slots Q (F0 m pc ls (.int (zI b) :: .int (zI a) :: rest)) := lv_imul C.1.1 C.1.2.1 d (by rw [zI_mul]; exact k)
theorem z_ineg (C : Cx D g own cc nL p s m args c) {a : Int} (d : decode cc pc = .ok (.ineg, 1)) (k : W p l e R s m args below meth c H locs cells slots Q (F0 m (pc + 1) ls (.int (zI (-a)) :: rest))) : W p l e R s m args below meth c H locs cells slots Q (F0 m pc ls (.int (zI a) :: rest)) := lv_ineg C.1.1 C.1.2.1 d (by rw [zI_neg]; exact k)
theorem z_idiv (C : Cx D g own cc nL p s m args c) {a b : Int} (ha : zR a) (hb : zR b) (h : b ≠ 0 ∧ b ≠ -1) (d : decode cc pc = .ok (.idiv, 1)) (k : W p l e R s m args below meth c H locs cells slots Q (F0 m (pc + 1) ls (.int (zI (a.tdiv b)) :: rest))) : W p l e R s m args below meth c H locs cells slots Q (F0 m pc ls (.int (zI b) :: .int (zI a) :: rest)) := lv_idiv C.1.1 C.1.2.1 d (zI_ne0 hb h.1) (by rw [zI_div ha hb h.2]; exact k)
theorem z_irem (C : Cx D g own cc nL p s m args c) {a b : Int} (ha : zR a) (hb : zR b) (h : b ≠ 0 ∧ b ≠ -1) (d : decode cc pc = .ok (.irem, 1)) (k : W p l e R s m args below meth c H locs cells slots Q (F0 m (pc + 1) ls (.int (zI (a.tmod b)) :: rest))) : W p l e R s m args below meth c H locs cells slots Q (F0 m pc ls (.int (zI b) :: .int (zI a) :: rest)) := lv_irem C.1.1 C.1.2.1 d (zI_ne0 hb h.1) (by rw [zI_rem ha hb h.2]; exact k)
theorem z_ladd (C : Cx D g own cc nL p s m args c) {a b : Int} (d : decode cc pc = .ok (.ladd, 1)) (k : W p l e R s m args below meth c H locs cells slots Q (F0 m (pc + 1) ls (.long (zJ (a + b)) :: rest))) : W p l e R s m args below meth c H locs cells slots Q (F0 m pc ls (.long (zJ b) :: .long (zJ a) :: rest)) := lv_ladd C.1.1 C.1.2.1 d (by rw [zJ_add]; exact k)
theorem z_lsub (C : Cx D g own cc nL p s m args c) {a b : Int} (d : decode cc pc = .ok (.lsub, 1)) (k : W p l e R s m args below meth c H locs cells slots Q (F0 m (pc + 1) ls (.long (zJ (a - b)) :: rest))) : W p l e R s m args below meth c H locs cells slots Q (F0 m pc ls (.long (zJ b) :: .long (zJ a) :: rest)) := lv_lsub C.1.1 C.1.2.1 d (by rw [zJ_sub]; exact k)
theorem z_lmul (C : Cx D g own cc nL p s m args c) {a b : Int} (d : decode cc pc = .ok (.lmul, 1)) (k : W p l e R s m args below meth c H locs cells slots Q (F0 m (pc + 1) ls (.long (zJ (a * b)) :: rest))) : W p l e R s m args below meth c H locs cells slots Q (F0 m pc ls (.long (zJ b) :: .long (zJ a) :: rest)) := lv_lmul C.1.1 C.1.2.1 d (by rw [zJ_mul]; exact k)
theorem z_ldiv (C : Cx D g own cc nL p s m args c) {a b : Int} (ha : zL a) (hb : zL b) (h : b ≠ 0 ∧ b ≠ -1) (d : decode cc pc = .ok (.ldiv, 1)) (k : W p l e R s m args below meth c H locs cells slots Q (F0 m (pc + 1) ls (.long (zJ (a.tdiv b)) :: rest))) : W p l e R s m args below meth c H locs cells slots Q (F0 m pc ls (.long (zJ b) :: .long (zJ a) :: rest)) := lv_ldiv C.1.1 C.1.2.1 d (zJ_ne0 hb h.1) (by rw [zJ_div ha hb h.2]; exact k)
theorem z_lrem (C : Cx D g own cc nL p s m args c) {a b : Int} (ha : zL a) (hb : zL b) (h : b ≠ 0 ∧ b ≠ -1) (d : decode cc pc = .ok (.lrem, 1)) (k : W p l e R s m args below meth c H locs cells slots Q (F0 m (pc + 1) ls (.long (zJ (a.tmod b)) :: rest))) : W p l e R s m args below meth c H locs cells slots Q (F0 m pc ls (.long (zJ b) :: .long (zJ a) :: rest)) := lv_lrem C.1.1 C.1.2.1 d (zJ_ne0 hb h.1) (by rw [zJ_rem ha hb h.2]; exact k)
theorem z_i2l (C : Cx D g own cc nL p s m args c) {a : Int} (ha : zR a) (d : decode cc pc = .ok (.i2l, 1)) (k : W p l e R s m args below meth c H locs cells slots Q (F0 m (pc + 1) ls (.long (zJ a) :: rest))) : W p l e R s m args below meth c H locs cells slots Q (F0 m pc ls (.int (zI a) :: rest)) := lv_i2l C.1.1 C.1.2.1 d (zJ_i2l ha) k
theorem z_dup (C : Cx D g own cc nL p s m args c) {v : Value} (hv : v.category = 1) (d : decode cc pc = .ok (.dup, 1)) (k : W p l e R s m args below meth c H locs cells slots Q (F0 m (pc + 1) ls (v :: v :: rest))) : W p l e R s m args below meth c H locs cells slots Q (F0 m pc ls (v :: rest)) := lv_dup C.1.1 C.1.2.1 d hv k
theorem z_dup2 (C : Cx D g own cc nL p s m args c) {v w : Value} (hv : v.category = 1) (hw : w.category = 1) (d : decode cc pc = .ok (.dup2, 1)) (k : W p l e R s m args below meth c H locs cells slots Q (F0 m (pc + 1) ls (v :: w :: v :: w :: rest))) : W p l e R s m args below meth c H locs cells slots Q (F0 m pc ls (v :: w :: rest)) := lv_dup2_11 C.1.1 C.1.2.1 d hv hw k
theorem z_goto (C : Cx D g own cc nL p s m args c) {off : Int} (tgt : Nat) (ht : (pc : Int) + off = (tgt : Int)) (d : decode cc pc = .ok (.goto off, 3)) (k : W p l e R s m args below meth c H locs cells slots Q (F0 m tgt ls rest)) : W p l e R s m args below meth c H locs cells slots Q (F0 m pc ls rest) := lv_goto C.1.1 C.1.2.1 d ht k
theorem z_icmp_lt (C : Cx D g own cc nL p s m args c) {a b off : Int} (tgt : Nat) (ht : (pc : Int) + off = (tgt : Int)) (ha : zR a) (hb : zR b) (d : decode cc pc = .ok (.if_icmp .lt off, 3)) (kt : a < b → W p l e R s m args below meth c H locs cells slots Q (F0 m tgt ls rest)) (kf : ¬ (a < b) → W p l e R s m args below meth c H locs cells slots Q (F0 m (pc + 3) ls rest)) : W p l e R s m args below meth c H locs cells slots Q (F0 m pc ls (.int (zI b) :: .int (zI a) :: rest)) := lv_icmp_lt C.1.1 C.1.2.1 d ht (fun h => kt ((zI_lt ha hb).mp h)) (fun h => kf (fun e => h ((zI_lt ha hb).mpr e)))
theorem z_if_lt (C : Cx D g own cc nL p s m args c) {a off : Int} (tgt : Nat) (ht : (pc : Int) + off = (tgt : Int)) (ha : zR a) (d : decode cc pc = .ok (.ifCond .lt off, 3)) (kt : a < 0 → W p l e R s m args below meth c H locs cells slots Q (F0 m tgt ls rest)) (kf : ¬ (a < 0) → W p l e R s m args below meth c H locs cells slots Q (F0 m (pc + 3) ls rest)) : W p l e R s m args below meth c H locs cells slots Q (F0 m pc ls (.int (zI a) :: rest)) := lv_if_lt C.1.1 C.1.2.1 d ht (fun h => kt ((zI_lt ha zR_0).mp h)) (fun h => kf (fun e => h ((zI_lt ha zR_0).mpr e)))
theorem z_icmp_ge (C : Cx D g own cc nL p s m args c) {a b off : Int} (tgt : Nat) (ht : (pc : Int) + off = (tgt : Int)) (ha : zR a) (hb : zR b) (d : decode cc pc = .ok (.if_icmp .ge off, 3)) (kt : b ≤ a → W p l e R s m args below meth c H locs cells slots Q (F0 m tgt ls rest)) (kf : ¬ (b ≤ a) → W p l e R s m args below meth c H locs cells slots Q (F0 m (pc + 3) ls rest)) : W p l e R s m args below meth c H locs cells slots Q (F0 m pc ls (.int (zI b) :: .int (zI a) :: rest)) := lv_icmp_ge C.1.1 C.1.2.1 d ht (fun h => kt ((zI_le hb ha).mp h)) (fun h => kf (fun e => h ((zI_le hb ha).mpr e)))
theorem z_if_ge (C : Cx D g own cc nL p s m args c) {a off : Int} (tgt : Nat) (ht : (pc : Int) + off = (tgt : Int)) (ha : zR a) (d : decode cc pc = .ok (.ifCond .ge off, 3)) (kt : 0 ≤ a → W p l e R s m args below meth c H locs cells slots Q (F0 m tgt ls rest)) (kf : ¬ (0 ≤ a) → W p l e R s m args below meth c H locs cells slots Q (F0 m (pc + 3) ls rest)) : W p l e R s m args below meth c H locs cells slots Q (F0 m pc ls (.int (zI a) :: rest)) := lv_if_ge C.1.1 C.1.2.1 d ht (fun h => kt ((zI_le zR_0 ha).mp h)) (fun h => kf (fun e => h ((zI_le zR_0 ha).mpr e)))
theorem z_icmp_gt (C : Cx D g own cc nL p s m args c) {a b off : Int} (tgt : Nat) (ht : (pc : Int) + off = (tgt : Int)) (ha : zR a) (hb : zR b) (d : decode cc pc = .ok (.if_icmp .gt off, 3)) (kt : b < a → W p l e R s m args below meth c H locs cells slots Q (F0 m tgt ls rest)) (kf : ¬ (b < a) → W p l e R s m args below meth c H locs cells slots Q (F0 m (pc + 3) ls rest)) : W p l e R s m args below meth c H locs cells slots Q (F0 m pc ls (.int (zI b) :: .int (zI a) :: rest)) := lv_icmp_gt C.1.1 C.1.2.1 d ht (fun h => kt ((zI_lt hb ha).mp h)) (fun h => kf (fun e => h ((zI_lt hb ha).mpr e)))
theorem z_if_gt (C : Cx D g own cc nL p s m args c) {a off : Int} (tgt : Nat) (ht : (pc : Int) + off = (tgt : Int)) (ha : zR a) (d : decode cc pc = .ok (.ifCond .gt off, 3)) (kt : 0 < a → W p l e R s m args below meth c H locs cells slots Q (F0 m tgt ls rest)) (kf : ¬ (0 < a) → W p l e R s m args below meth c H locs cells slots Q (F0 m (pc + 3) ls rest)) : W p l e R s m args below meth c H locs cells slots Q (F0 m pc ls (.int (zI a) :: rest)) := lv_if_gt C.1.1 C.1.2.1 d ht (fun h => kt ((zI_lt zR_0 ha).mp h)) (fun h => kf (fun e => h ((zI_lt zR_0 ha).mpr e)))
theorem z_icmp_le (C : Cx D g own cc nL p s m args c) {a b off : Int} (tgt : Nat) (ht : (pc : Int) + off = (tgt : Int)) (ha : zR a) (hb : zR b) (d : decode cc pc = .ok (.if_icmp .le off, 3)) (kt : a ≤ b → W p l e R s m args below meth c H locs cells slots Q (F0 m tgt ls rest)) (kf : ¬ (a ≤ b) → W p l e R s m args below meth c H locs cells slots Q (F0 m (pc + 3) ls rest)) : W p l e R s m args below meth c H locs cells slots Q (F0 m pc ls (.int (zI b) :: .int (zI a) :: rest)) := lv_icmp_le C.1.1 C.1.2.1 d ht (fun h => kt ((zI_le ha hb).mp h)) (fun h => kf (fun e => h ((zI_le ha hb).mpr e)))
theorem z_if_le (C : Cx D g own cc nL p s m args c) {a off : Int} (tgt : Nat) (ht : (pc : Int) + off = (tgt : Int)) (ha : zR a) (d : decode cc pc = .ok (.ifCond .le off, 3)) (kt : a ≤ 0 → W p l e R s m args below meth c H locs cells slots Q (F0 m tgt ls rest)) (kf : ¬ (a ≤ 0) → W p l e R s m args below meth c H locs cells slots Q (F0 m (pc + 3) ls rest)) : W p l e R s m args below meth c H locs cells slots Q (F0 m pc ls (.int (zI a) :: rest)) := lv_if_le C.1.1 C.1.2.1 d ht (fun h => kt ((zI_le ha zR_0).mp h)) (fun h => kf (fun e => h ((zI_le ha zR_0).mpr e)))
theorem z_icmp_eq (C : Cx D g own cc nL p s m args c) {a b off : Int} (tgt : Nat) (ht : (pc : Int) + off = (tgt : Int)) (ha : zR a) (hb : zR b) (d : decode cc pc = .ok (.if_icmp .eq off, 3)) (kt : a = b → W p l e R s m args below meth c H locs cells slots Q (F0 m tgt ls rest)) (kf : ¬ (a = b) → W p l e R s m args below meth c H locs cells slots Q (F0 m (pc + 3) ls rest)) : W p l e R s m args below meth c H locs cells slots Q (F0 m pc ls (.int (zI b) :: .int (zI a) :: rest)) := lv_icmp_eq C.1.1 C.1.2.1 d ht (fun h => kt ((zI_eq ha hb).mp h)) (fun h => kf (fun e => h ((zI_eq ha hb).mpr e)))
theorem z_if_eq (C : Cx D g own cc nL p s m args c) {a off : Int} (tgt : Nat) (ht : (pc : Int) + off = (tgt : Int)) (ha : zR a) (d : decode cc pc = .ok (.ifCond .eq off, 3)) (kt : a = 0 → W p l e R s m args below meth c H locs cells slots Q (F0 m tgt ls rest)) (kf : ¬ (a = 0) → W p l e R s m args below meth c H locs cells slots Q (F0 m (pc + 3) ls rest)) : W p l e R s m args below meth c H locs cells slots Q (F0 m pc ls (.int (zI a) :: rest)) := lv_if_eq C.1.1 C.1.2.1 d ht (fun h => kt ((zI_eq ha zR_0).mp h)) (fun h => kf (fun e => h ((zI_eq ha zR_0).mpr e)))
theorem z_icmp_ne (C : Cx D g own cc nL p s m args c) {a b off : Int} (tgt : Nat) (ht : (pc : Int) + off = (tgt : Int)) (ha : zR a) (hb : zR b) (d : decode cc pc = .ok (.if_icmp .ne off, 3)) (kt : a ≠ b → W p l e R s m args below meth c H locs cells slots Q (F0 m tgt ls rest)) (kf : a = b → W p l e R s m args below meth c H locs cells slots Q (F0 m (pc + 3) ls rest)) : W p l e R s m args below meth c H locs cells slots Q (F0 m pc ls (.int (zI b) :: .int (zI a) :: rest)) := lv_icmp_ne C.1.1 C.1.2.1 d ht (fun h => kt (fun e => h (by rw [e]))) (fun h => kf ((zI_eq ha hb).mp h))
theorem z_if_ne (C : Cx D g own cc nL p s m args c) {a off : Int} (tgt : Nat) (ht : (pc : Int) + off = (tgt : Int)) (ha : zR a) (d : decode cc pc = .ok (.ifCond .ne off, 3)) (kt : a ≠ 0 → W p l e R s m args below meth c H locs cells slots Q (F0 m tgt ls rest)) (kf : a = 0 → W p l e R s m args below meth c H locs cells slots Q (F0 m (pc + 3) ls rest)) : W p l e R s m args below meth c H locs cells slots Q (F0 m pc ls (.int (zI a) :: rest)) := lv_if_ne C.1.1 C.1.2.1 d ht (fun h => kt (fun e => h (by rw [e]; rfl))) (fun h => kf ((zI_eq ha zR_0).mp h))
theorem bz_R {P : Prop} [Decidable P] : zR (bz P) := by unfold bz zR; split <;> omega
theorem bz_e0 {P : Prop} [Decidable P] : bz P = 0 ↔ ¬ P := by unfold bz; split <;> simp [*]
theorem z_bif_eq (C : Cx D g own cc nL p s m args c) {P : Prop} [Decidable P] {off : Int} (tgt : Nat) (ht : (pc : Int) + off = (tgt : Int)) (d : decode cc pc = .ok (.ifCond .eq off, 3)) (kt : ¬ P → W p l e R s m args below meth c H locs cells slots Q (F0 m tgt ls rest)) (kf : P → W p l e R s m args below meth c H locs cells slots Q (F0 m (pc + 3) ls rest)) : W p l e R s m args below meth c H locs cells slots Q (F0 m pc ls (.int (zI (bz P)) :: rest)) := z_if_eq C tgt ht bz_R d (fun h => kt (bz_e0.mp h)) (fun h => kf (Classical.not_not.mp (fun e => h (bz_e0.mpr e))))
theorem z_bif_ne (C : Cx D g own cc nL p s m args c) {P : Prop} [Decidable P] {off : Int} (tgt : Nat) (ht : (pc : Int) + off = (tgt : Int)) (d : decode cc pc = .ok (.ifCond .ne off, 3)) (kt : P → W p l e R s m args below meth c H locs cells slots Q (F0 m tgt ls rest)) (kf : ¬ P → W p l e R s m args below meth c H locs cells slots Q (F0 m (pc + 3) ls rest)) : W p l e R s m args below meth c H locs cells slots Q (F0 m pc ls (.int (zI (bz P)) :: rest)) := z_if_ne C tgt ht bz_R d (fun h => kt (Classical.not_not.mp (fun e => h (bz_e0.mpr e)))) (fun h => kf (bz_e0.mp h))
theorem lg_c {a b : Int} (ha : zL a) (hb : zL b) : lg_cmp (zJ a) (zJ b) = zI (if b < a then 1 else if a = b then 0 else -1) := by
  unfold lg_cmp
  by_cases h1 : b < a
  · simp [(zJ_lt hb ha).mpr h1, h1]; rfl
  · by_cases h2 : a = b
    · subst h2; simp [h1]; rfl
    · simp [mt (zJ_lt hb ha).mp h1, mt (zJ_eq ha hb).mp h2, h1, h2]; rfl
theorem z_lc_lt (C : Cx D g own cc nL p s m args c) {a b off : Int} (tgt : Nat) (ht : ((pc + 1 : Nat) : Int) + off = (tgt : Int)) (ha : zL a) (hb : zL b) (d : decode cc pc = .ok (.lcmp, 1)) (d2 : decode cc (pc + 1) = .ok (.ifCond .lt off, 3)) (kt : a < b → W p l e R s m args below meth c H locs cells slots Q (F0 m tgt ls rest)) (kf : ¬ (a < b) → W p l e R s m args below meth c H locs cells slots Q (F0 m (pc + 1 + 3) ls rest)) : W p l e R s m args below meth c H locs cells slots Q (F0 m pc ls (.long (zJ b) :: .long (zJ a) :: rest)) := W.lcmp C.1.1 C.1.2.1 d (by
  rw [lg_c ha hb]
  exact z_if_lt C tgt ht (by unfold zR; split <;> (try split) <;> omega) d2 (fun h => kt (by by_cases h1 : b < a <;> by_cases h2 : a = b <;> simp [h1, h2] at h <;> omega)) (fun h => kf (fun h3 => h (by by_cases h1 : b < a <;> by_cases h2 : a = b <;> simp [h1, h2] <;> omega))))
theorem z_lc_ge (C : Cx D g own cc nL p s m args c) {a b off : Int} (tgt : Nat) (ht : ((pc + 1 : Nat) : Int) + off = (tgt : Int)) (ha : zL a) (hb : zL b) (d : decode cc pc = .ok (.lcmp, 1)) (d2 : decode cc (pc + 1) = .ok (.ifCond .ge off, 3)) (kt : b ≤ a → W p l e R s m args below meth c H locs cells slots Q (F0 m tgt ls rest)) (kf : ¬ (b ≤ a) → W p l e R s m args below meth c H locs cells slots Q (F0 m (pc + 1 + 3) ls rest)) : W p l e R s m args below meth c H locs cells slots Q (F0 m pc ls (.long (zJ b) :: .long (zJ a) :: rest)) := W.lcmp C.1.1 C.1.2.1 d (by
  rw [lg_c ha hb]
  exact z_if_ge C tgt ht (by unfold zR; split <;> (try split) <;> omega) d2 (fun h => kt (by by_cases h1 : b < a <;> by_cases h2 : a = b <;> simp [h1, h2] at h <;> omega)) (fun h => kf (fun h3 => h (by by_cases h1 : b < a <;> by_cases h2 : a = b <;> simp [h1, h2] <;> omega))))
theorem z_lc_gt (C : Cx D g own cc nL p s m args c) {a b off : Int} (tgt : Nat) (ht : ((pc + 1 : Nat) : Int) + off = (tgt : Int)) (ha : zL a) (hb : zL b) (d : decode cc pc = .ok (.lcmp, 1)) (d2 : decode cc (pc + 1) = .ok (.ifCond .gt off, 3)) (kt : b < a → W p l e R s m args below meth c H locs cells slots Q (F0 m tgt ls rest)) (kf : ¬ (b < a) → W p l e R s m args below meth c H locs cells slots Q (F0 m (pc + 1 + 3) ls rest)) : W p l e R s m args below meth c H locs cells slots Q (F0 m pc ls (.long (zJ b) :: .long (zJ a) :: rest)) := W.lcmp C.1.1 C.1.2.1 d (by
  rw [lg_c ha hb]
  exact z_if_gt C tgt ht (by unfold zR; split <;> (try split) <;> omega) d2 (fun h => kt (by by_cases h1 : b < a <;> by_cases h2 : a = b <;> simp [h1, h2] at h <;> omega)) (fun h => kf (fun h3 => h (by by_cases h1 : b < a <;> by_cases h2 : a = b <;> simp [h1, h2] <;> omega))))
theorem z_lc_le (C : Cx D g own cc nL p s m args c) {a b off : Int} (tgt : Nat) (ht : ((pc + 1 : Nat) : Int) + off = (tgt : Int)) (ha : zL a) (hb : zL b) (d : decode cc pc = .ok (.lcmp, 1)) (d2 : decode cc (pc + 1) = .ok (.ifCond .le off, 3)) (kt : a ≤ b → W p l e R s m args below meth c H locs cells slots Q (F0 m tgt ls rest)) (kf : ¬ (a ≤ b) → W p l e R s m args below meth c H locs cells slots Q (F0 m (pc + 1 + 3) ls rest)) : W p l e R s m args below meth c H locs cells slots Q (F0 m pc ls (.long (zJ b) :: .long (zJ a) :: rest)) := W.lcmp C.1.1 C.1.2.1 d (by
  rw [lg_c ha hb]
  exact z_if_le C tgt ht (by unfold zR; split <;> (try split) <;> omega) d2 (fun h => kt (by by_cases h1 : b < a <;> by_cases h2 : a = b <;> simp [h1, h2] at h <;> omega)) (fun h => kf (fun h3 => h (by by_cases h1 : b < a <;> by_cases h2 : a = b <;> simp [h1, h2] <;> omega))))
theorem z_lc_eq (C : Cx D g own cc nL p s m args c) {a b off : Int} (tgt : Nat) (ht : ((pc + 1 : Nat) : Int) + off = (tgt : Int)) (ha : zL a) (hb : zL b) (d : decode cc pc = .ok (.lcmp, 1)) (d2 : decode cc (pc + 1) = .ok (.ifCond .eq off, 3)) (kt : a = b → W p l e R s m args below meth c H locs cells slots Q (F0 m tgt ls rest)) (kf : ¬ (a = b) → W p l e R s m args below meth c H locs cells slots Q (F0 m (pc + 1 + 3) ls rest)) : W p l e R s m args below meth c H locs cells slots Q (F0 m pc ls (.long (zJ b) :: .long (zJ a) :: rest)) := W.lcmp C.1.1 C.1.2.1 d (by
  rw [lg_c ha hb]
  exact z_if_eq C tgt ht (by unfold zR; split <;> (try split) <;> omega) d2 (fun h => kt (by by_cases h1 : b < a <;> by_cases h2 : a = b <;> simp [h1, h2] at h <;> omega)) (fun h => kf (fun h3 => h (by by_cases h1 : b < a <;> by_cases h2 : a = b <;> simp [h1, h2] <;> omega))))
theorem z_ixor_ge (C : Cx D g own cc nL p s m args c) {a b off : Int} (tgt : Nat) (ht : ((pc + 1 : Nat) : Int) + off = (tgt : Int)) (hx : zI a ^^^ zI b < 0 ↔ a < 0) (d : decode cc pc = .ok (.ixor, 1)) (d2 : decode cc (pc + 1) = .ok (.ifCond .ge off, 3)) (kt : 0 ≤ a → W p l e R s m args below meth c H locs cells slots Q (F0 m tgt ls rest)) (kf : a < 0 → W p l e R s m args below meth c H locs cells slots Q (F0 m (pc + 1 + 3) ls rest)) : W p l e R s m args below meth c H locs cells slots Q (F0 m pc ls (.int (zI b) :: .int (zI a) :: rest)) :=
  lv_ixor C.1.1 C.1.2.1 d (lv_if_ge C.1.1 C.1.2.1 d2 ht (fun h => kt (by
    rcases Int.lt_or_le a 0 with q | q
    · exact absurd (hx.mpr q) (Int32.not_lt.mpr h)
    · exact q)) (fun h => kf (hx.mp (Int32.not_le.mp h))))
end ZR
end
section
/-! contracts: RO leaves the heap as it was; RW leaves the joint world with a new memory -/
def qRO (v : Option Value) : Array Value → State → Outcome → State → Prop := fun _ st o t => o = .returned v ∧ t.heap = st.heap
def qRW (D : va_G) (q : Nat → Nat) (g : Nat → ClassId) (vf : Int → Option Value) (post : Int → Mem → Prop) : Array Value → State → Outcome → State → Prop := fun _ st o t => (∃ r σ', o = .returned (vf r) ∧ post r σ' ∧ HP D q g σ' t.heap) ∧ va_F (aQ q) st t
abbrev vI (z : Int) : Option Value := some (.int (zI z))
abbrev vV (_ : Int) : Option Value := none
abbrev pW (D : va_G) (q : Nat → Nat) (g : Nat → ClassId) (σ : Mem) (U : State) : Prop := HP D q g σ U.heap ∧ KK D g U
abbrev zRm (f k : Nat) : Room := { frames := f, cells := 0, slots := 0, locals := k }
def RO (l : Launch) (y : MethodName) (cc : ByteArray) (n : Nat) (ret : Option FieldType) (f k : Nat) (D : va_G) (q : Nat → Nat) (g : Nat → ClassId) (σ : Mem) (As : List Value) (v : Option Value) : Prop :=
  Met l y (Cond.code y cc n ret :: gw) (zRm f k) (va_Pc As (pW D q g σ)) (qRO v) 0 0 (fun _ => False)
def RW (l : Launch) (y : MethodName) (cc : ByteArray) (n : Nat) (ret : Option FieldType) (f k : Nat) (D : va_G) (q : Nat → Nat) (g : Nat → ClassId) (σ : Mem) (As : List Value) (vf : Int → Option Value) (post : Int → Mem → Prop) : Prop :=
  Met l y (Cond.code y cc n ret :: gw) (zRm f k) (va_Pc As (pW D q g σ)) (qRW D q g vf post) 0 0 (aQ q)
theorem pW_blind {D : va_G} {q : Nat → Nat} {g : Nat → ClassId} {σ : Mem} {As : List Value} : FrameBlind (va_Pc As (pW D q g σ)) := fun _ _ _ _ h => ⟨h.1, h.2.1, h.2.2.calling⟩
theorem bz_nb {P : Prop} [Decidable P] : narrow .boolean (.int (zI (bz P))) = .int (zI (bz P)) := by unfold bz; split <;> rfl
/-- what a body of a method without making stands on -/
abbrev ZB (D : va_G) (g : Nat → ClassId) (own : String) (cc : ByteArray) (nL : Nat) (ret : Option FieldType) (p : Program) (s : State) (m : MethodId) (args : Array Value) (c : Code) (meth : Method) : Prop := Cx D g own cc nL p s m args c ∧ meth.sig.returnType = ret ∧ meth.locks = false
theorem zMetF {l : Launch} {y : MethodName} {ws ws' : List Cond} {rm : Room} {Pc : Array Value → State → Prop} {Qc : Array Value → State → Outcome → State → Prop} {mc ms : Nat} {free : Addr → Prop} {cc : ByteArray} {maxL : Nat} {ret : Option FieldType}
    (hy : plainFor y = true) (hw : ws = Cond.code y cc maxL ret :: ws')
    (body : ∀ p e s m args below meth c s₁, BodyLoose p l y (headSpec ws rm) cc maxL ret e s m args below meth c s₁ → c.maxLocals = maxL → Pc args s →
      W p l e (headSpec ws rm).room s m args below meth c s.heap [] 0 0 (MQ below Qc args s mc ms free) (entryFrame m args maxL)) : Met l y ws rm Pc Qc mc ms free := by
  refine MetFree.of_bodySF (code := cc) (maxLocals := maxL) (ret := ret) hy ?_ ?_
  · intro args s m h hn
    obtain ⟨meth, c, h1, h2, h3, h4, h5, h6, -, -⟩ := Cond.code_spec hn (atoms_spec (ws := ws) h _ (by rw [hw]; exact List.mem_cons_self))
    exact ⟨meth, c, h1, h2, h3, h4, h5, h6⟩
  · intro p e s m args below meth c s₁ B hml hP _
    have hh0 : s₁.heap = s.heap := by rw [B.state]; rfl
    obtain ⟨t, a1, o, b1, b2, b3⟩ := body p e s m args below meth c s₁ B hml hP s₁ hh0 (Stand.of_body B)
    exact ⟨t, o, a1, b1, b2, ⟨b3.1, b3.2⟩⟩
theorem RO.intro {l : Launch} {y : MethodName} {cc : ByteArray} {n : Nat} {ret : Option FieldType} {f k : Nat} {D : va_G} {q : Nat → Nat} {g : Nat → ClassId} {σ : Mem} {As : List Value} {v : Option Value} (hy : plainFor y = true) (hn : (lg_sl As).length ≤ n)
    (body : ∀ (p : Program) (e : Env) (s : State) (m : MethodId) (args : Array Value) (below : List Frame) (meth : Method) (c : Code) (ls : Array Slot), ZB D g y.cls cc n ret p s m args c meth → HP D q g σ s.heap → lv_has ls n (lv_args 0 As) →
      W p l e (zRm f k) s m args below meth c s.heap [] 0 0 (MQ below (qRO v) args s 0 0 (fun _ => False)) (F0 m 0 ls [])) : RO l y cc n ret f k D q g σ As v := by
  refine zMetF (cc := cc) (maxL := n) (ret := ret) hy rfl ?_
  intro p e s m args below meth c s₁ B hml hv
  obtain ⟨rfl, hP, hK⟩ := hv
  have hts := atoms_spec (ws := Cond.code y cc n ret :: gw) B.pre
  have hl := lv_entry As (n := n) hn
  rw [lg_entry_eq]
  exact body p e s m _ below meth c _ ⟨⟨⟨B.exec, B.bytes, hml, findClass_of_methodNamed B.named, fun w hw => hts w (List.mem_cons_of_mem _ hw)⟩, hK⟩, B.returns, B.notSynchronized⟩ hP hl
theorem RW.intro {l : Launch} {y : MethodName} {cc : ByteArray} {n : Nat} {ret : Option FieldType} {f k : Nat} {D : va_G} {q : Nat → Nat} {g : Nat → ClassId} {σ : Mem} {As : List Value} {vf : Int → Option Value} {post : Int → Mem → Prop} (hy : plainFor y = true) (hn : (lg_sl As).length ≤ n)
    (body : ∀ (p : Program) (e : Env) (s : State) (m : MethodId) (args : Array Value) (below : List Frame) (meth : Method) (c : Code) (ls : Array Slot), ZB D g y.cls cc n ret p s m args c meth → HP D q g σ s.heap → va_S (aQ q) s.heap s.heap [] → lv_has ls n (lv_args 0 As) →
      W p l e (zRm f k) s m args below meth c s.heap [] 0 0 (MQ below (qRW D q g vf post) args s 0 0 (aQ q)) (F0 m 0 ls [])) : RW l y cc n ret f k D q g σ As vf post := by
  refine zMetF (cc := cc) (maxL := n) (ret := ret) hy rfl ?_
  intro p e s m args below meth c s₁ B hml hv
  obtain ⟨rfl, hP, hK⟩ := hv
  have hts := atoms_spec (ws := Cond.code y cc n ret :: gw) B.pre
  have hl := lv_entry As (n := n) hn
  rw [lg_entry_eq]
  exact body p e s m _ below meth c _ ⟨⟨⟨B.exec, B.bytes, hml, findClass_of_methodNamed B.named, fun w hw => hts w (List.mem_cons_of_mem _ hw)⟩, hK⟩, B.returns, B.notSynchronized⟩ hP va_S.rf hl
abbrev WO (p : Program) (l : Launch) (e : Env) (f k : Nat) (s : State) (m : MethodId) (args : Array Value) (below : List Frame) (meth : Method) (c : Code) (v : Option Value) (fr : JFrame) : Prop := W p l e (zRm f k) s m args below meth c s.heap [] 0 0 (MQ below (qRO v) args s 0 0 (fun _ => False)) fr
abbrev WW (p : Program) (l : Launch) (e : Env) (f k : Nat) (s : State) (m : MethodId) (args : Array Value) (below : List Frame) (meth : Method) (c : Code) (H : Heap) (locs : List Loc) (D : va_G) (q : Nat → Nat) (g : Nat → ClassId) (vf : Int → Option Value) (post : Int → Mem → Prop) (fr : JFrame) : Prop := W p l e (zRm f k) s m args below meth c H locs 0 0 (MQ below (qRW D q g vf post) args s 0 0 (aQ q)) fr
section ZC
variable {p : Program} {l : Launch} {e : Env} {R : Room} {s : State} {m : MethodId} {args : Array Value} {below : List Frame} {meth : Method} {c : Code} {H : Heap} {locs : List Loc} {Q : State → Prop}
variable {cc : ByteArray} {pc : Nat} {ls : Array Slot} {rest : List Value} {D : va_G} {q : Nat → Nat} {g : Nat → ClassId} {σ : Mem} {own : String} {nL : Nat} {lv : List (Nat × Value)}
variable {y : MethodName} {bytes : ByteArray} {maxL n index f k : Nat} {ret : Option FieldType} {As : List Value} {v : Value} {vf : Int → Option Value} {post : Int → Mem → Prop} {H0 : Heap} {host : String}
/-! returns -/
theorem z_iret {x z : Int} (B : ZB D g own cc nL (some .int) p s m args c meth) (h : x = z) (d : decode cc pc = .ok (.ireturn, 1)) : W p l e R s m args below meth c s.heap [] 0 0 (MQ below (qRO (some (.int (zI z)))) args s 0 0 (fun _ => False)) (F0 m pc ls [.int (zI x)]) := by
  subst h
  exact W.iret B.1.1.1 B.1.1.2.1 B.2.1 (fun t ht _ => ⟨rfl, ht⟩) (fun _ h => by cases h) d B.2.2
theorem z_bret {P Z : Prop} [Decidable P] [Decidable Z] (B : ZB D g own cc nL (some .boolean) p s m args c meth) (h : P ↔ Z) (d : decode cc pc = .ok (.ireturn, 1)) : W p l e R s m args below meth c s.heap [] 0 0 (MQ below (qRO (some (.int (zI (bz Z))))) args s 0 0 (fun _ => False)) (F0 m pc ls [.int (zI (bz P))]) := by
  have e : bz P = bz Z := by unfold bz; simp only [h]
  rw [← e]
  exact W.zret B.1.1.1 B.1.1.2.1 B.2.1 bz_nb (fun t ht _ => ⟨rfl, ht⟩) (fun _ h => by cases h) d B.2.2
theorem z_bret1 {Z : Prop} [Decidable Z] (B : ZB D g own cc nL (some .boolean) p s m args c meth) (h : Z) (d : decode cc pc = .ok (.ireturn, 1)) : W p l e R s m args below meth c s.heap [] 0 0 (MQ below (qRO (some (.int (zI (bz Z))))) args s 0 0 (fun _ => False)) (F0 m pc ls [.int (zI 1)]) := by
  rw [bz_t h]
  exact W.zret B.1.1.1 B.1.1.2.1 B.2.1 rfl (fun t ht _ => ⟨rfl, ht⟩) (fun _ h => by cases h) d B.2.2
theorem z_bret0 {Z : Prop} [Decidable Z] (B : ZB D g own cc nL (some .boolean) p s m args c meth) (h : ¬ Z) (d : decode cc pc = .ok (.ireturn, 1)) : W p l e R s m args below meth c s.heap [] 0 0 (MQ below (qRO (some (.int (zI (bz Z))))) args s 0 0 (fun _ => False)) (F0 m pc ls [.int (zI 0)]) := by
  rw [bz_f h]
  exact W.zret B.1.1.1 B.1.1.2.1 B.2.1 rfl (fun t ht _ => ⟨rfl, ht⟩) (fun _ h => by cases h) d B.2.2
theorem z_lret {x z : Int} (B : ZB D g own cc nL (some .long) p s m args c meth) (h : x = z) (d : decode cc pc = .ok (.lreturn, 1)) : W p l e R s m args below meth c s.heap [] 0 0 (MQ below (qRO (some (.long (zJ z)))) args s 0 0 (fun _ => False)) (F0 m pc ls [.long (zJ x)]) := by
  subst h
  exact W.lret B.1.1.1 B.1.1.2.1 B.2.1 (fun t ht _ => ⟨rfl, ht⟩) (fun _ h => by cases h) d B.2.2
theorem z_iretW {x : Int} (B : ZB D g own cc nL (some .int) p s m args c meth) (hP : HP D q g σ H) (hS : va_S (aQ q) s.heap H locs) (h : post x σ) (d : decode cc pc = .ok (.ireturn, 1)) : W p l e R s m args below meth c H locs 0 0 (MQ below (qRW D q g vI post) args s 0 0 (aQ q)) (F0 m pc ls [.int (zI x)]) :=
  W.iret B.1.1.1 B.1.1.2.1 B.2.1 (fun t ht _ => ⟨⟨_, σ, rfl, h, by rw [ht]; exact hP⟩, hS.F ht⟩) hS.2.2 d B.2.2
theorem z_bretW {P : Prop} [Decidable P] (B : ZB D g own cc nL (some .boolean) p s m args c meth) (hP : HP D q g σ H) (hS : va_S (aQ q) s.heap H locs) (h : post (bz P) σ) (d : decode cc pc = .ok (.ireturn, 1)) : W p l e R s m args below meth c H locs 0 0 (MQ below (qRW D q g vI post) args s 0 0 (aQ q)) (F0 m pc ls [.int (zI (bz P))]) :=
  W.zret B.1.1.1 B.1.1.2.1 B.2.1 bz_nb (fun t ht _ => ⟨⟨_, σ, rfl, h, by rw [ht]; exact hP⟩, hS.F ht⟩) hS.2.2 d B.2.2
theorem z_bretWz {x : Int} (B : ZB D g own cc nL (some .boolean) p s m args c meth) (hx : x = 0 ∨ x = 1) (hP : HP D q g σ H) (hS : va_S (aQ q) s.heap H locs) (h : post x σ) (d : decode cc pc = .ok (.ireturn, 1)) : W p l e R s m args below meth c H locs 0 0 (MQ below (qRW D q g vI post) args s 0 0 (aQ q)) (F0 m pc ls [.int (zI x)]) :=
  W.zret B.1.1.1 B.1.1.2.1 B.2.1 (by rcases hx with rfl | rfl <;> rfl) (fun t ht _ => ⟨⟨_, σ, rfl, h, by rw [ht]; exact hP⟩, hS.F ht⟩) hS.2.2 d B.2.2
theorem z_vretW (B : ZB D g own cc nL none p s m args c meth) (hP : HP D q g σ H) (hS : va_S (aQ q) s.heap H locs) (h : post 0 σ) (d : decode cc pc = .ok (.return_, 1)) : W p l e R s m args below meth c H locs 0 0 (MQ below (qRW D q g vV post) args s 0 0 (aQ q)) (F0 m pc ls []) :=
  W.vret B.1.1.1 B.1.1.2.1 B.2.1 (fun t ht _ => ⟨⟨0, σ, rfl, h, by rw [ht]; exact hP⟩, hS.F ht⟩) hS.2.2 d B.2.2
/-! behind a call -/
theorem z_runRO {a : Array Value} {st0 : List Value} (hr : va_Run p l e R s m args below meth c H locs 0 0 0 0 (F0 m pc ls st0) rest (qRO (some v) a) (fun _ => False))
    (kk : W p l e R s m args below meth c H locs 0 0 Q (F0 m (pc + 3) ls (v :: rest))) : W p l e R s m args below meth c H locs 0 0 Q (F0 m pc ls st0) := by
  intro T hT X
  obtain ⟨v1, st₀, t, T', L, h0, X', hL, e1, e2, ⟨hv, hh⟩, st⟩ := hr T hT X
  cases hv
  obtain ⟨t2, a1, b1⟩ := kk T' (by rw [e1, hh, h0]) (Stand.forget X' (fun q h => (hL q h).elim))
  exact ⟨t2, st t2 a1, b1⟩
theorem z_runRWi {a : Array Value} {st0 : List Value} (hr : va_Run p l e R s m args below meth c H locs 0 0 0 0 (F0 m pc ls st0) rest (qRW D q g vI post a) (aQ q)) (hS : va_S (aQ q) H0 H locs)
    (kk : ∀ (r : Int) (σ' : Mem) (H1 : Heap) (locs1 : List Loc), post r σ' → HP D q g σ' H1 → va_S (aQ q) H0 H1 locs1 → W p l e R s m args below meth c H1 locs1 0 0 Q (F0 m (pc + 3) ls (.int (zI r) :: rest))) : W p l e R s m args below meth c H locs 0 0 Q (F0 m pc ls st0) := by
  intro T hT X
  obtain ⟨v1, st₀, t, T', L, h0, X', hL, e1, e2, ⟨⟨r, σ', hv, hp, hP⟩, hF⟩, st⟩ := hr T hT X
  cases hv
  obtain ⟨t2, a1, b1⟩ := kk r σ' t.heap (locs ++ L) hp hP ⟨Nat.le_trans hS.1 (by rw [← h0]; exact hF.1), fun x h1 h2 => (by have := hF.2 x (by rw [h0]; exact Nat.lt_of_lt_of_le h1 hS.1) h2; rw [h0] at this; exact this.trans (hS.2.1 x h1 h2)), fun z hz => by
    rcases List.mem_append.mp hz with h | h
    · exact hS.2.2 z h
    · exact hL z h⟩ T' e1 X'
  exact ⟨t2, st t2 a1, b1⟩
theorem z_runRWv {a : Array Value} {st0 : List Value} (hr : va_Run p l e R s m args below meth c H locs 0 0 0 0 (F0 m pc ls st0) rest (qRW D q g vV post a) (aQ q)) (hS : va_S (aQ q) H0 H locs)
    (kk : ∀ (r : Int) (σ' : Mem) (H1 : Heap) (locs1 : List Loc), post r σ' → HP D q g σ' H1 → va_S (aQ q) H0 H1 locs1 → W p l e R s m args below meth c H1 locs1 0 0 Q (F0 m (pc + 3) ls rest)) : W p l e R s m args below meth c H locs 0 0 Q (F0 m pc ls st0) := by
  intro T hT X
  obtain ⟨v1, st₀, t, T', L, h0, X', hL, e1, e2, ⟨⟨r, σ', hv, hp, hP⟩, hF⟩, st⟩ := hr T hT X
  cases hv
  obtain ⟨t2, a1, b1⟩ := kk r σ' t.heap (locs ++ L) hp hP ⟨Nat.le_trans hS.1 (by rw [← h0]; exact hF.1), fun x h1 h2 => (by have := hF.2 x (by rw [h0]; exact Nat.lt_of_lt_of_le h1 hS.1) h2; rw [h0] at this; exact this.trans (hS.2.1 x h1 h2)), fun z hz => by
    rcases List.mem_append.mp hz with h | h
    · exact hS.2.2 z h
    · exact hL z h⟩ T' e1 X'
  exact ⟨t2, st t2 a1, b1⟩
/-! words of a call, all out of gw -/
abbrev cwd (y : MethodName) (n : Nat) : Prop := y.cls ≠ "java/lang/invoke/MethodHandle" ∧ y.cls ≠ "java/lang/invoke/VarHandle" ∧ (parseMethodDescriptor y.desc).map (fun d => d.parameters.length) = some n
theorem z_B (C : Cx D g own cc nL p s m args c) (wc : Cond.code y bytes maxL ret ∈ gw) (wi : Cond.initialized y.cls ∈ gw) (wl : Cond.methodLink own index y ∈ gw) (hd : cwd y n) (hR : f + 1 ≤ R.frames ∧ 8 + (maxL + 11) + k ≤ R.locals) : CallB R s args own index y bytes maxL ret (Cond.code y bytes maxL ret :: gw) (zRm f k) 0 0 n :=
  callB_of n C.1.2.2.2.2 (gw_good wc) rfl rfl rfl (C.1.2.2.2.2 _ wi) (C.1.2.2.2.2 _ wl) hd hR
theorem z_N (C : Cx D g own cc nL p s m args c) (wc : Cond.code y bytes maxL ret ∈ gw) (wi : Cond.initialized y.cls ∈ gw) (wl : Cond.methodLinkNest own index y host ∈ lw_tbl) (hd : cwd y n) (hR : f + 1 ≤ R.frames ∧ 8 + (maxL + 11) + k ≤ R.locals) : va_CN R s args own index y host bytes maxL ret (Cond.code y bytes maxL ret :: gw) (zRm f k) 0 0 n :=
  va_cnB n C.1.2.2.2.2 (gw_good wc) rfl rfl rfl (C.2.2 _ wl rfl) (C.1.2.2.2.2 _ wi) hd hR
theorem z_recv (C : Cx D g own cc nL p s m args c) (hP : HP D q g σ H) {i ci : Nat} {fs : List Value} {r : vw_C} (hi : i < 62) (hE : cE q g (σ i) i = .inr (ci, fs)) (hc : vwCl[ci]? = some r) : ∃ cell : Cell, H[q i]? = some cell ∧ cell.vm.isStatics = false ∧ s.vm.findClass r.1 = some cell.cls :=
  va_recv C.2.1 hP hc (by rw [zw_get hi, hE])
theorem z_preS (C : Cx D g own cc nL p s m args c) (hP : HP D q g σ H) : PreS s H (va_Pc As (pW D q g σ)) As := ⟨pW_blind, fun _ hU hW => ⟨rfl, by rw [hU]; exact hP, C.2.moved hW⟩⟩
theorem z_preV (C : Cx D g own cc nL p s m args c) (hP : HP D q g σ H) {b : Nat} {CN : String} (hr : ∃ cell : Cell, H[b]? = some cell ∧ cell.vm.isStatics = false ∧ s.vm.findClass CN = some cell.cls) : PreV s H CN b (va_Pc (.ref b :: As) (pW D q g σ)) As := ⟨pW_blind, hr, fun _ hU hW => ⟨rfl, by rw [hU]; exact hP, C.2.moved hW⟩⟩
/-! the calls: RO static, RO static of a nest mate, RO virtual; RW virtual -/
theorem z_sRO (C : Cx D g own cc nL p s m args c) (hP : HP D q g σ H) (hl : lv_has ls nL lv) (hM : RO l y bytes maxL ret f k D q g σ As (some v)) (wc : Cond.code y bytes maxL ret ∈ gw) (wi : Cond.initialized y.cls ∈ gw) (wl : Cond.methodLink own index y ∈ gw) (wt : Cond.static y ∈ gw) (hd : cwd y n) (hR : f + 1 ≤ R.frames ∧ 8 + (maxL + 11) + k ≤ R.locals) (hn : As.length = n) {st0 : List Value} (hst : st0 = As.reverse ++ rest) (hr : (rest.map fun v => v.category).sum ≤ 8) (d : decode cc pc = .ok (.invokestatic index, 3))
    (kk : W p l e R s m args below meth c H locs 0 0 Q (F0 m (pc + 3) ls (v :: rest))) : W p l e R s m args below meth c H locs 0 0 Q (F0 m pc ls st0) :=
  z_runRO (va_runS (rest := rest) C.1 hM ⟨z_B C wc wi wl hd hR, C.1.2.2.2.2 _ wt⟩ (z_preS C hP) rfl hn hl.1 hst (lv_room hr) d ⟨Nat.zero_le _, Nat.zero_le _⟩) kk
theorem z_snRO (C : Cx D g own cc nL p s m args c) (hP : HP D q g σ H) (hl : lv_has ls nL lv) (hM : RO l y bytes maxL ret f k D q g σ As (some v)) (wc : Cond.code y bytes maxL ret ∈ gw) (wi : Cond.initialized y.cls ∈ gw) (wl : Cond.methodLinkNest own index y host ∈ lw_tbl) (wt : Cond.static y ∈ gw) (hd : cwd y n) (hR : f + 1 ≤ R.frames ∧ 8 + (maxL + 11) + k ≤ R.locals) (hn : As.length = n) {st0 : List Value} (hst : st0 = As.reverse ++ rest) (hr : (rest.map fun v => v.category).sum ≤ 8) (d : decode cc pc = .ok (.invokestatic index, 3))
    (kk : W p l e R s m args below meth c H locs 0 0 Q (F0 m (pc + 3) ls (v :: rest))) : W p l e R s m args below meth c H locs 0 0 Q (F0 m pc ls st0) :=
  z_runRO (va_runSN (rest := rest) C.1 hM ⟨z_N C wc wi wl hd hR, C.1.2.2.2.2 _ wt, trivial⟩ (z_preS C hP) rfl hn hl.1 hst (lv_room hr) d ⟨Nat.zero_le _, Nat.zero_le _⟩) kk
theorem z_vRO (C : Cx D g own cc nL p s m args c) (hP : HP D q g σ H) (hl : lv_has ls nL lv) {b : Nat} (hM : RO l y bytes maxL ret f k D q g σ (.ref b :: As) (some v)) (hrv : ∃ cell : Cell, H[b]? = some cell ∧ cell.vm.isStatics = false ∧ s.vm.findClass y.cls = some cell.cls) (wc : Cond.code y bytes maxL ret ∈ gw) (wi : Cond.initialized y.cls ∈ gw) (wl : Cond.methodLink own index y ∈ gw) (wt : Cond.instanceMethod y ∈ gw) (wv : Cond.selects y.cls y y ∈ gw) (hd : cwd y n) (hR : f + 1 ≤ R.frames ∧ 8 + (maxL + 11) + k ≤ R.locals) (hn : As.length = n) {st0 : List Value} (hst : st0 = As.reverse ++ .ref b :: rest) (hr : (rest.map fun v => v.category).sum ≤ 8) (d : decode cc pc = .ok (.invokevirtual index, 3))
    (kk : W p l e R s m args below meth c H locs 0 0 Q (F0 m (pc + 3) ls (v :: rest))) : W p l e R s m args below meth c H locs 0 0 Q (F0 m pc ls st0) :=
  z_runRO (va_runV (rest := rest) C.1 hM ⟨z_B C wc wi wl hd hR, C.1.2.2.2.2 _ wt, C.1.2.2.2.2 _ wv⟩ (z_preV C hP hrv) rfl hn hl.1 hst (lv_room hr) d ⟨Nat.zero_le _, Nat.zero_le _⟩) kk
theorem z_vRWi (C : Cx D g own cc nL p s m args c) (hP : HP D q g σ H) (hS : va_S (aQ q) H0 H locs) (hl : lv_has ls nL lv) {b : Nat} (hM : RW l y bytes maxL ret f k D q g σ (.ref b :: As) vI post) (hrv : ∃ cell : Cell, H[b]? = some cell ∧ cell.vm.isStatics = false ∧ s.vm.findClass y.cls = some cell.cls) (wc : Cond.code y bytes maxL ret ∈ gw) (wi : Cond.initialized y.cls ∈ gw) (wl : Cond.methodLink own index y ∈ gw) (wt : Cond.instanceMethod y ∈ gw) (wv : Cond.selects y.cls y y ∈ gw) (hd : cwd y n) (hR : f + 1 ≤ R.frames ∧ 8 + (maxL + 11) + k ≤ R.locals) (hn : As.length = n) {st0 : List Value} (hst : st0 = As.reverse ++ .ref b :: rest) (hr : (rest.map fun v => v.category).sum ≤ 8) (d : decode cc pc = .ok (.invokevirtual index, 3))
    (kk : ∀ (r : Int) (σ' : Mem) (H1 : Heap) (locs1 : List Loc), post r σ' → HP D q g σ' H1 → va_S (aQ q) H0 H1 locs1 → W p l e R s m args below meth c H1 locs1 0 0 Q (F0 m (pc + 3) ls (.int (zI r) :: rest))) : W p l e R s m args below meth c H locs 0 0 Q (F0 m pc ls st0) :=
  z_runRWi (va_runV (rest := rest) C.1 hM ⟨z_B C wc wi wl hd hR, C.1.2.2.2.2 _ wt, C.1.2.2.2.2 _ wv⟩ (z_preV C hP hrv) rfl hn hl.1 hst (lv_room hr) d ⟨Nat.zero_le _, Nat.zero_le _⟩) hS kk
theorem z_vRWv (C : Cx D g own cc nL p s m args c) (hP : HP D q g σ H) (hS : va_S (aQ q) H0 H locs) (hl : lv_has ls nL lv) {b : Nat} (hM : RW l y bytes maxL ret f k D q g σ (.ref b :: As) vV post) (hrv : ∃ cell : Cell, H[b]? = some cell ∧ cell.vm.isStatics = false ∧ s.vm.findClass y.cls = some cell.cls) (wc : Cond.code y bytes maxL ret ∈ gw) (wi : Cond.initialized y.cls ∈ gw) (wl : Cond.methodLink own index y ∈ gw) (wt : Cond.instanceMethod y ∈ gw) (wv : Cond.selects y.cls y y ∈ gw) (hd : cwd y n) (hR : f + 1 ≤ R.frames ∧ 8 + (maxL + 11) + k ≤ R.locals) (hn : As.length = n) {st0 : List Value} (hst : st0 = As.reverse ++ .ref b :: rest) (hr : (rest.map fun v => v.category).sum ≤ 8) (d : decode cc pc = .ok (.invokevirtual index, 3))
    (kk : ∀ (r : Int) (σ' : Mem) (H1 : Heap) (locs1 : List Loc), post r σ' → HP D q g σ' H1 → va_S (aQ q) H0 H1 locs1 → W p l e R s m args below meth c H1 locs1 0 0 Q (F0 m (pc + 3) ls rest)) : W p l e R s m args below meth c H locs 0 0 Q (F0 m pc ls st0) :=
  z_runRWv (va_runV (rest := rest) C.1 hM ⟨z_B C wc wi wl hd hR, C.1.2.2.2.2 _ wt, C.1.2.2.2.2 _ wv⟩ (z_preV C hP hrv) rfl hn hl.1 hst (lv_room hr) d ⟨Nat.zero_le _, Nat.zero_le _⟩) hS kk
/-! arrays of the world -/
variable {cells slots : Nat}
theorem z_iald (C : Cx D g own cc nL p s m args c) (hP : HP D q g σ H) {i N : Nat} (hi : i < 62) (hE : ∀ r, cE q g r i = .inl (g 0, N, .inl (fun j => zI (r j)))) {a : Int} (h : 0 ≤ a ∧ a < N) (hN : N ≤ 1000) (d : decode cc pc = .ok (.iaload, 1)) (k : W p l e R s m args below meth c H locs cells slots Q (F0 m (pc + 1) ls (.int (zI (σ i a.toNat)) :: rest))) : W p l e R s m args below meth c H locs cells slots Q (F0 m pc ls (.int (zI a) :: .ref (q i) :: rest)) := by
  have hr : zR a := ⟨by omega, by omega⟩
  refine va_iald (f := fun j => zI (σ i j)) C.1.1 C.1.2.1 C.2.1 hP i 0 (n := N) (cA := g 0) (by rw [zw_get hi, hE]) rfl (zI_vin h.1 h.2 hr) d ?_
  rw [zI_clamp h.1 hr]; exact k
theorem z_ialk (C : Cx D g own cc nL p s m args c) (hP : HP D q g σ H) {i N : Nat} (hi : i < 62) (hE : ∀ r, cE q g r i = .inl (g 0, N, .inl (fun j => zI (r j)))) {a : Int} (n : Nat) (ha : a = (n : Int)) (h : n < N) (hN : N ≤ 1000) (d : decode cc pc = .ok (.iaload, 1)) (k : W p l e R s m args below meth c H locs cells slots Q (F0 m (pc + 1) ls (.int (zI (σ i n)) :: rest))) : W p l e R s m args below meth c H locs cells slots Q (F0 m pc ls (.int (zI a) :: .ref (q i) :: rest)) := by
  subst ha
  exact z_iald C hP hi hE ⟨by omega, by omega⟩ hN d (by rw [Int.toNat_natCast]; exact k)
theorem z_zald (C : Cx D g own cc nL p s m args c) (hP : HP D q g σ H) {i N : Nat} (hi : i < 62) (hE : ∀ r, cE q g r i = .inl (g 1, N, .inl (fun j => zI (r j)))) {a : Int} (h : 0 ≤ a ∧ a < N) (hN : N ≤ 1000) (d : decode cc pc = .ok (.baload, 1)) (k : W p l e R s m args below meth c H locs cells slots Q (F0 m (pc + 1) ls (.int (zI (σ i a.toNat)) :: rest))) : W p l e R s m args below meth c H locs cells slots Q (F0 m pc ls (.int (zI a) :: .ref (q i) :: rest)) := by
  have hr : zR a := ⟨by omega, by omega⟩
  refine va_zald (f := fun j => zI (σ i j)) C.1.1 C.1.2.1 C.2.1 hP i 1 (n := N) (cA := g 1) (by rw [zw_get hi, hE]) rfl (zI_vin h.1 h.2 hr) d ?_
  rw [zI_clamp h.1 hr]; exact k
theorem z_aald (C : Cx D g own cc nL p s m args c) (hP : HP D q g σ H) {i N t b : Nat} {CN : String} (hi : i < 62) (ht : (zT g)[t]? = some (g t, .object CN)) (hE : ∀ r, cE q g r i = .inl (g t, N, .inr (.inr (.inr (.inr (fun j => some (q (b + j)))))))) {a : Int} (h : 0 ≤ a ∧ a < N) (hN : N ≤ 1000) (d : decode cc pc = .ok (.aaload, 1)) (k : W p l e R s m args below meth c H locs cells slots Q (F0 m (pc + 1) ls (.ref (q (b + a.toNat)) :: rest))) : W p l e R s m args below meth c H locs cells slots Q (F0 m pc ls (.int (zI a) :: .ref (q i) :: rest)) := by
  have hr : zR a := ⟨by omega, by omega⟩
  refine va_aldq (f := fun j => some (q (b + j))) C.1.1 C.1.2.1 C.2.1 hP i t (n := N) (cA := g t) (C := CN) (by rw [zw_get hi, hE]) ht (zI_vin h.1 h.2 hr) d ?_
  rw [zI_clamp h.1 hr]; exact k
theorem z_alen (C : Cx D g own cc nL p s m args c) (hP : HP D q g σ H) {i N : Nat} (hi : i < 62) (hE : ∀ r, cE q g r i = .inl (g 0, N, .inl (fun j => zI (r j)))) (d : decode cc pc = .ok (.arraylength, 1)) (k : W p l e R s m args below meth c H locs cells slots Q (F0 m (pc + 1) ls (.int (zI N) :: rest))) : W p l e R s m args below meth c H locs cells slots Q (F0 m pc ls (.ref (q i) :: rest)) :=
  va_alen (x := (N, .inl (fun j => zI (σ i j)))) (v := zI N) C.1.1 C.1.2.1 C.2.1 hP i 0 (cA := g 0) (by rw [zw_get hi, hE]) rfl (zI_nI N).symm d k
theorem upd_um {σ : Mem} {i : Nat} {a : Int} {x : Int} : upd (fun j => zI (σ i j)) a.toNat (zI x) = fun j => zI (um σ i a.toNat x i j) := by
  funext j
  unfold upd um
  by_cases h : j = a.toNat <;> simp [h]
theorem z_iast (C : Cx D g own cc nL p s m args c) (hq : qok q) (hP : HP D q g σ H) (hS : va_S (aQ q) H0 H locs) {i N : Nat} (hi : i < 62) (hE : ∀ r, cE q g r i = .inl (g 0, N, .inl (fun j => zI (r j)))) {a x : Int} (h : 0 ≤ a ∧ a < N) (hN : N ≤ 1000) (d : decode cc pc = .ok (.iastore, 1)) (k : ∀ (H1 : Heap) (locs1 : List Loc), HP D q g (um σ i a.toNat x) H1 → va_S (aQ q) H0 H1 locs1 → W p l e R s m args below meth c H1 locs1 cells slots Q (F0 m (pc + 1) ls rest)) : W p l e R s m args below meth c H locs cells slots Q (F0 m pc ls (.int (zI x) :: .int (zI a) :: .ref (q i) :: rest)) := by
  have hr : zR a := ⟨by omega, by omega⟩
  refine va_iast (f := fun j => zI (σ i j)) C.1.1 C.1.2.1 C.2.1 hP (zw_D hq) hS i 0 (n := N) (cA := g 0) (by rw [zw_get hi, hE]) rfl (zI_vin h.1 h.2 hr) d (fun H1 locs1 h1 _ h3 => k H1 locs1 ?_ h3)
  rw [zI_clamp h.1 hr, upd_um, zw_set hi (hE _)] at h1; exact h1
theorem z_zast (C : Cx D g own cc nL p s m args c) (hq : qok q) (hP : HP D q g σ H) (hS : va_S (aQ q) H0 H locs) {i N : Nat} (hi : i < 62) (hE : ∀ r, cE q g r i = .inl (g 1, N, .inl (fun j => zI (r j)))) {a x : Int} (h : 0 ≤ a ∧ a < N) (hN : N ≤ 1000) (hx : x = 0 ∨ x = 1) (d : decode cc pc = .ok (.bastore, 1)) (k : ∀ (H1 : Heap) (locs1 : List Loc), HP D q g (um σ i a.toNat x) H1 → va_S (aQ q) H0 H1 locs1 → W p l e R s m args below meth c H1 locs1 cells slots Q (F0 m (pc + 1) ls rest)) : W p l e R s m args below meth c H locs cells slots Q (F0 m pc ls (.int (zI x) :: .int (zI a) :: .ref (q i) :: rest)) := by
  have hr : zR a := ⟨by omega, by omega⟩
  refine va_zast (f := fun j => zI (σ i j)) C.1.1 C.1.2.1 C.2.1 hP (zw_D hq) hS i 1 (n := N) (cA := g 1) (by rw [zw_get hi, hE]) rfl (zI_vin h.1 h.2 hr) d (fun H1 locs1 h1 _ h3 => k H1 locs1 ?_ h3)
  rw [zI_clamp h.1 hr, show vp_nar .boolean (zI x) = zI x by rcases hx with rfl | rfl <;> rfl, upd_um, zw_set hi (hE _)] at h1; exact h1
/-! switches -/
theorem z_tsI (C : Cx D g own cc nL p s m args c) {dflt lo hi off a : Int} {offs : Array Int} {len : Nat} (k : Nat) (ha : zR a) (h : a = lo + k ∧ a ≤ hi) (ho : offs[k]? = some off) (tgt : Nat) (ht : (pc : Int) + off = (tgt : Int)) (d : decode cc pc = .ok (.tableswitch dflt lo hi offs, len)) (kk : W p l e R s m args below meth c H locs cells slots Q (F0 m tgt ls rest)) : W p l e R s m args below meth c H locs cells slots Q (F0 m pc ls (.int (zI a) :: rest)) :=
  lv_tableIn C.1.1 C.1.2.1 d (by rw [zI_toInt ha]; omega) (by rw [zI_toInt ha]; omega) (by rw [zI_toInt ha, show (a - lo).toNat = k by omega]; exact ho) ht kk
theorem z_tsO (C : Cx D g own cc nL p s m args c) {dflt lo hi a : Int} {offs : Array Int} {len : Nat} (ha : zR a) (h : a < lo ∨ hi < a) (tgt : Nat) (ht : (pc : Int) + dflt = (tgt : Int)) (d : decode cc pc = .ok (.tableswitch dflt lo hi offs, len)) (kk : W p l e R s m args below meth c H locs cells slots Q (F0 m tgt ls rest)) : W p l e R s m args below meth c H locs cells slots Q (F0 m pc ls (.int (zI a) :: rest)) :=
  lv_tableOut C.1.1 C.1.2.1 d (by rw [zI_toInt ha]; exact h) ht kk
theorem z_lk (C : Cx D g own cc nL p s m args c) {dflt a off : Int} {ps : Array (Int × Int)} {len : Nat} (ha : zR a) (hp : (ps.toList.zip (ps.toList.drop 1)).all (fun (a, next) => a.1 < next.1) = true) (ho : Op.lookupswitch.offset ps.toList dflt a = off) (tgt : Nat) (ht : (pc : Int) + off = (tgt : Int)) (d : decode cc pc = .ok (.lookupswitch dflt ps, len)) (kk : W p l e R s m args below meth c H locs cells slots Q (F0 m tgt ls rest)) : W p l e R s m args below meth c H locs cells slots Q (F0 m pc ls (.int (zI a) :: rest)) :=
  lv_lookup C.1.1 C.1.2.1 d hp (by rw [zI_toInt ha]; exact ho) ht kk
/-! fields -/
theorem z_getf (C : Cx D g own cc nL p s m args c) (hP : HP D q g σ H) {i ci N kf idx : Nat} {CN : String} {T : u_T} {fs : List Value} {v : Value} (hi : i < 62) (hE : cE q g (σ i) i = .inr (ci, fs)) (hc : vwCl[ci]? = some (CN, T, N)) (hin : ∀ w ∈ u_ws CN T N, w ∈ gw) (hk : kf < N) (hT : (T kf).1 = CN) (hl : Cond.fieldLink own idx CN (T kf).2.1 (T kf).2.2.1 ∈ gw) (hv : fs[kf]? = some v) (d : decode cc pc = .ok (.getfield idx, 3)) (k : W p l e R s m args below meth c H locs cells slots Q (F0 m (pc + 3) ls (v :: rest))) : W p l e R s m args below meth c H locs cells slots Q (F0 m pc ls (.ref (q i) :: rest)) :=
  va_get C.1.1 C.1.2.1 C.1.2.2.2.2 hin C.1.2.2.2.1 C.2.1 hP i (by rw [zw_get hi, hE]) hc kf hk (C.1.2.2.2.2 _ hl) (by rw [hT]; exact fun _ h => h) hv d k
theorem z_getn (C : Cx D g own cc nL p s m args c) (hP : HP D q g σ H) {i ci N kf idx : Nat} {CN : String} {T : u_T} {fs : List Value} {v : Value} (hi : i < 62) (hE : cE q g (σ i) i = .inr (ci, fs)) (hc : vwCl[ci]? = some (CN, T, N)) (hin : ∀ w ∈ u_ws CN T N, w ∈ gw) (hk : kf < N) (hT : (T kf).1 = CN) (hl : Cond.fieldLinkNest own idx CN (T kf).2.1 (T kf).2.2.1 host ∈ lw_tbl) (hv : fs[kf]? = some v) (d : decode cc pc = .ok (.getfield idx, 3)) (k : W p l e R s m args below meth c H locs cells slots Q (F0 m (pc + 3) ls (v :: rest))) : W p l e R s m args below meth c H locs cells slots Q (F0 m pc ls (.ref (q i) :: rest)) :=
  va_getN C.1.1 C.1.2.1 C.1.2.2.2.2 hin C.1.2.2.2.1 C.2.1 hP i (by rw [zw_get hi, hE]) hc kf hk (va_Nw.use rfl (C.2.2 _ hl rfl)) (by rw [hT]; exact fun _ h => h) hv d k
theorem z_putf (C : Cx D g own cc nL p s m args c) (hq : qok q) (hP : HP D q g σ H) (hS : va_S (aQ q) H0 H locs) {i ci N kf idx : Nat} {CN : String} {T : u_T} {ty0 : Nat → FieldType} {fs : List Value} {x : Int} (hi : i < 62) (hE : cE q g (σ i) i = .inr (ci, fs)) (hE2 : cE q g (um σ i kf x i) i = .inr (ci, fs.set kf (.int (zI x)))) (hc : vwCl[ci]? = some (CN, T, N)) (hin : ∀ w ∈ u_ws CN T N, w ∈ gw) (hty : ∀ k, k < N → parseFieldDescriptor (T k).2.2.1 = some (ty0 k)) (hnm : ∀ a, a < N → ∀ b, b < N → a ≠ b → (T a).2.1 ≠ (T b).2.1) (hk : kf < N) (hT : (T kf).1 = CN) (hfin : (T kf).2.2.2 = false) (hd : parseFieldDescriptor (T kf).2.2.1 = some .int) (hfl : kf < fs.length) (hl : Cond.fieldLink own idx CN (T kf).2.1 (T kf).2.2.1 ∈ gw) (d : decode cc pc = .ok (.putfield idx, 3)) (k : ∀ (H1 : Heap) (locs1 : List Loc), HP D q g (um σ i kf x) H1 → va_S (aQ q) H0 H1 locs1 → W p l e R s m args below meth c H1 locs1 cells slots Q (F0 m (pc + 3) ls rest)) : W p l e R s m args below meth c H locs cells slots Q (F0 m pc ls (.int (zI x) :: .ref (q i) :: rest)) := by
  refine va_put C.1.1 C.1.2.1 C.1.2.2.2.2 hin ty0 hty hnm C.1.2.2.2.1 C.2.1 hP (zw_D hq) hS i (by rw [zw_get hi, hE]) hc kf hk (C.1.2.2.2.2 _ hl) (by rw [hT]; exact fun _ h => h) hfin hd (by rfl) (by rfl) hfl d (fun H1 locs1 h1 _ h3 => k H1 locs1 ?_ h3)
  rw [zw_set hi hE2] at h1; exact h1
theorem z_putn (C : Cx D g own cc nL p s m args c) (hq : qok q) (hP : HP D q g σ H) (hS : va_S (aQ q) H0 H locs) {i ci N kf idx : Nat} {CN : String} {T : u_T} {ty0 : Nat → FieldType} {fs : List Value} {x : Int} (hi : i < 62) (hE : cE q g (σ i) i = .inr (ci, fs)) (hE2 : cE q g (um σ i kf x i) i = .inr (ci, fs.set kf (.int (zI x)))) (hc : vwCl[ci]? = some (CN, T, N)) (hin : ∀ w ∈ u_ws CN T N, w ∈ gw) (hty : ∀ k, k < N → parseFieldDescriptor (T k).2.2.1 = some (ty0 k)) (hnm : ∀ a, a < N → ∀ b, b < N → a ≠ b → (T a).2.1 ≠ (T b).2.1) (hk : kf < N) (hT : (T kf).1 = CN) (hfin : (T kf).2.2.2 = false) (hd : parseFieldDescriptor (T kf).2.2.1 = some .int) (hfl : kf < fs.length) (hl : Cond.fieldLinkNest own idx CN (T kf).2.1 (T kf).2.2.1 host ∈ lw_tbl) (d : decode cc pc = .ok (.putfield idx, 3)) (k : ∀ (H1 : Heap) (locs1 : List Loc), HP D q g (um σ i kf x) H1 → va_S (aQ q) H0 H1 locs1 → W p l e R s m args below meth c H1 locs1 cells slots Q (F0 m (pc + 3) ls rest)) : W p l e R s m args below meth c H locs cells slots Q (F0 m pc ls (.int (zI x) :: .ref (q i) :: rest)) := by
  refine va_putN C.1.1 C.1.2.1 C.1.2.2.2.2 hin ty0 hty hnm C.1.2.2.2.1 C.2.1 hP (zw_D hq) hS i (by rw [zw_get hi, hE]) hc kf hk (va_Nw.use rfl (C.2.2 _ hl rfl)) (by rw [hT]; exact fun _ h => h) hfin hd (by rfl) (by rfl) hfl d (fun H1 locs1 h1 _ h3 => k H1 locs1 ?_ h3)
  rw [zw_set hi hE2] at h1; exact h1
end ZC
end
section
section ZF
variable {p : Program} {l : Launch} {e : Env} {R : Room} {s : State} {m : MethodId} {args : Array Value} {below : List Frame} {meth : Method} {c : Code} {H H0 : Heap} {locs : List Loc} {cells slots : Nat} {Q : State → Prop}
variable {cc : ByteArray} {pc : Nat} {ls : Array Slot} {rest : List Value} {D : va_G} {q : Nat → Nat} {g : Nat → ClassId} {σ : Mem} {nL : Nat}
theorem gf_X0_15 (C : Cx D g RX0 cc nL p s m args c) (hP : HP D q g σ H) (d : decode cc pc = .ok (.getfield 15, 3)) (k : W p l e R s m args below meth c H locs cells slots Q (F0 m (pc + 3) ls (.ref (q 20) :: rest))) : W p l e R s m args below meth c H locs cells slots Q (F0 m pc ls (.ref (q 5) :: rest)) := z_getf C hP (by decide) rfl (ci := 0) (kf := 1) rfl inX0 (by decide) rfl wg_151 rfl d k
theorem gf_X0_18 (C : Cx D g RX0 cc nL p s m args c) (hP : HP D q g σ H) (d : decode cc pc = .ok (.getfield 18, 3)) (k : W p l e R s m args below meth c H locs cells slots Q (F0 m (pc + 3) ls (.ref (q 21) :: rest))) : W p l e R s m args below meth c H locs cells slots Q (F0 m pc ls (.ref (q 5) :: rest)) := z_getf C hP (by decide) rfl (ci := 0) (kf := 2) rfl inX0 (by decide) rfl wg_152 rfl d k
theorem gf_X0_21 (C : Cx D g RX0 cc nL p s m args c) (hP : HP D q g σ H) (d : decode cc pc = .ok (.getfield 21, 3)) (k : W p l e R s m args below meth c H locs cells slots Q (F0 m (pc + 3) ls (.ref (q 22) :: rest))) : W p l e R s m args below meth c H locs cells slots Q (F0 m pc ls (.ref (q 5) :: rest)) := z_getf C hP (by decide) rfl (ci := 0) (kf := 3) rfl inX0 (by decide) rfl wg_153 rfl d k
theorem gf_X0_24 (C : Cx D g RX0 cc nL p s m args c) (hP : HP D q g σ H) (d : decode cc pc = .ok (.getfield 24, 3)) (k : W p l e R s m args below meth c H locs cells slots Q (F0 m (pc + 3) ls (.int (zI (σ 5 4)) :: rest))) : W p l e R s m args below meth c H locs cells slots Q (F0 m pc ls (.ref (q 5) :: rest)) := z_getf C hP (by decide) rfl (ci := 0) (kf := 4) rfl inX0 (by decide) rfl wg_154 rfl d k
theorem pf_X0_24 (C : Cx D g RX0 cc nL p s m args c) (hq : qok q) (hP : HP D q g σ H) (hS : va_S (aQ q) H0 H locs) {x : Int} (d : decode cc pc = .ok (.putfield 24, 3)) (k : ∀ (H1 : Heap) (locs1 : List Loc), HP D q g (um σ 5 4 x) H1 → va_S (aQ q) H0 H1 locs1 → W p l e R s m args below meth c H1 locs1 cells slots Q (F0 m (pc + 3) ls rest)) : W p l e R s m args below meth c H locs cells slots Q (F0 m pc ls (.int (zI x) :: .ref (q 5) :: rest)) := z_putf C hq hP hS (by decide) rfl (ci := 0) (kf := 4) (by rfl) rfl inX0 tyX0_ok nmX0 (by decide) rfl rfl rfl (Nat.le_of_ble_eq_true rfl) wg_154 d k
theorem gf_X0_28 (C : Cx D g RX0 cc nL p s m args c) (hP : HP D q g σ H) (d : decode cc pc = .ok (.getfield 28, 3)) (k : W p l e R s m args below meth c H locs cells slots Q (F0 m (pc + 3) ls (.int (zI (σ 4 1)) :: rest))) : W p l e R s m args below meth c H locs cells slots Q (F0 m pc ls (.ref (q 4) :: rest)) := z_getn C hP (by decide) rfl (ci := 5) (kf := 1) rfl inX5 (by decide) rfl wm_136 rfl d k
theorem gf_X0_31 (C : Cx D g RX0 cc nL p s m args c) (hP : HP D q g σ H) (d : decode cc pc = .ok (.getfield 31, 3)) (k : W p l e R s m args below meth c H locs cells slots Q (F0 m (pc + 3) ls (.ref (q 13) :: rest))) : W p l e R s m args below meth c H locs cells slots Q (F0 m pc ls (.ref (q 4) :: rest)) := z_getn C hP (by decide) rfl (ci := 5) (kf := 0) rfl inX5 (by decide) rfl wm_134 rfl d k
theorem gf_X0_9 (C : Cx D g RX0 cc nL p s m args c) (hP : HP D q g σ H) (d : decode cc pc = .ok (.getfield 9, 3)) (k : W p l e R s m args below meth c H locs cells slots Q (F0 m (pc + 3) ls (.ref (q 19) :: rest))) : W p l e R s m args below meth c H locs cells slots Q (F0 m pc ls (.ref (q 5) :: rest)) := z_getf C hP (by decide) rfl (ci := 0) (kf := 0) rfl inX0 (by decide) rfl wg_149 rfl d k
theorem gf_X1_11 (C : Cx D g RX1 cc nL p s m args c) (hP : HP D q g σ H) (d : decode cc pc = .ok (.getfield 11, 3)) (k : W p l e R s m args below meth c H locs cells slots Q (F0 m (pc + 3) ls (.ref (q 11) :: rest))) : W p l e R s m args below meth c H locs cells slots Q (F0 m pc ls (.ref (q 3) :: rest)) := z_getf C hP (by decide) rfl (ci := 1) (kf := 0) rfl inX1 (by decide) rfl wg_114 rfl d k
theorem gf_X1_17 (C : Cx D g RX1 cc nL p s m args c) (hP : HP D q g σ H) (d : decode cc pc = .ok (.getfield 17, 3)) (k : W p l e R s m args below meth c H locs cells slots Q (F0 m (pc + 3) ls (.ref (q 12) :: rest))) : W p l e R s m args below meth c H locs cells slots Q (F0 m pc ls (.ref (q 3) :: rest)) := z_getf C hP (by decide) rfl (ci := 1) (kf := 1) rfl inX1 (by decide) rfl wg_116 rfl d k
theorem gf_X1_22 (C : Cx D g RX1 cc nL p s m args c) (hP : HP D q g σ H) (d : decode cc pc = .ok (.getfield 22, 3)) (k : W p l e R s m args below meth c H locs cells slots Q (F0 m (pc + 3) ls (.ref (q 18) :: rest))) : W p l e R s m args below meth c H locs cells slots Q (F0 m pc ls (.ref (q 3) :: rest)) := z_getf C hP (by decide) rfl (ci := 1) (kf := 2) rfl inX1 (by decide) rfl wg_118 rfl d k
theorem gf_X1_32 (C : Cx D g RX1 cc nL p s m args c) (hP : HP D q g σ H) {j : Nat} (hj : j < 5) (d : decode cc pc = .ok (.getfield 32, 3)) (k : W p l e R s m args below meth c H locs cells slots Q (F0 m (pc + 3) ls (.int (zI (σ (14 + j) 1)) :: rest))) : W p l e R s m args below meth c H locs cells slots Q (F0 m pc ls (.ref (q (14 + j)) :: rest)) := z_getn C hP (by omega) (cE_spn hj _) (ci := 6) (kf := 1) rfl inX6 (by decide) rfl wm_103 rfl d k
theorem gf_X1_36 (C : Cx D g RX1 cc nL p s m args c) (hP : HP D q g σ H) {j : Nat} (hj : j < 5) (d : decode cc pc = .ok (.getfield 36, 3)) (k : W p l e R s m args below meth c H locs cells slots Q (F0 m (pc + 3) ls (.int (zI (σ (14 + j) 0)) :: rest))) : W p l e R s m args below meth c H locs cells slots Q (F0 m pc ls (.ref (q (14 + j)) :: rest)) := z_getn C hP (by omega) (cE_spn hj _) (ci := 6) (kf := 0) rfl inX6 (by decide) rfl wm_100 rfl d k
theorem gf_X2_15 (C : Cx D g RX2 cc nL p s m args c) (hP : HP D q g σ H) (d : decode cc pc = .ok (.getfield 15, 3)) (k : W p l e R s m args below meth c H locs cells slots Q (F0 m (pc + 3) ls (.ref (q 24) :: rest))) : W p l e R s m args below meth c H locs cells slots Q (F0 m pc ls (.ref (q 6) :: rest)) := z_getf C hP (by decide) rfl (ci := 2) (kf := 1) rfl inX2 (by decide) rfl wg_174 rfl d k
theorem gf_X2_18 (C : Cx D g RX2 cc nL p s m args c) (hP : HP D q g σ H) (d : decode cc pc = .ok (.getfield 18, 3)) (k : W p l e R s m args below meth c H locs cells slots Q (F0 m (pc + 3) ls (.ref (q 25) :: rest))) : W p l e R s m args below meth c H locs cells slots Q (F0 m pc ls (.ref (q 6) :: rest)) := z_getf C hP (by decide) rfl (ci := 2) (kf := 2) rfl inX2 (by decide) rfl wg_175 rfl d k
theorem gf_X2_21 (C : Cx D g RX2 cc nL p s m args c) (hP : HP D q g σ H) (d : decode cc pc = .ok (.getfield 21, 3)) (k : W p l e R s m args below meth c H locs cells slots Q (F0 m (pc + 3) ls (.int (zI (σ 6 3)) :: rest))) : W p l e R s m args below meth c H locs cells slots Q (F0 m pc ls (.ref (q 6) :: rest)) := z_getf C hP (by decide) rfl (ci := 2) (kf := 3) rfl inX2 (by decide) rfl wg_176 rfl d k
theorem pf_X2_21 (C : Cx D g RX2 cc nL p s m args c) (hq : qok q) (hP : HP D q g σ H) (hS : va_S (aQ q) H0 H locs) {x : Int} (d : decode cc pc = .ok (.putfield 21, 3)) (k : ∀ (H1 : Heap) (locs1 : List Loc), HP D q g (um σ 6 3 x) H1 → va_S (aQ q) H0 H1 locs1 → W p l e R s m args below meth c H1 locs1 cells slots Q (F0 m (pc + 3) ls rest)) : W p l e R s m args below meth c H locs cells slots Q (F0 m pc ls (.int (zI x) :: .ref (q 6) :: rest)) := z_putf C hq hP hS (by decide) rfl (ci := 2) (kf := 3) (by rfl) rfl inX2 tyX2_ok nmX2 (by decide) rfl rfl rfl (Nat.le_of_ble_eq_true rfl) wg_176 d k
theorem gf_X2_25 (C : Cx D g RX2 cc nL p s m args c) (hP : HP D q g σ H) (d : decode cc pc = .ok (.getfield 25, 3)) (k : W p l e R s m args below meth c H locs cells slots Q (F0 m (pc + 3) ls (.int (zI (σ 1 2)) :: rest))) : W p l e R s m args below meth c H locs cells slots Q (F0 m pc ls (.ref (q 1) :: rest)) := z_getn C hP (by decide) rfl (ci := 7) (kf := 2) rfl inX7 (by decide) rfl wm_60 rfl d k
theorem gf_X2_9 (C : Cx D g RX2 cc nL p s m args c) (hP : HP D q g σ H) (d : decode cc pc = .ok (.getfield 9, 3)) (k : W p l e R s m args below meth c H locs cells slots Q (F0 m (pc + 3) ls (.ref (q 23) :: rest))) : W p l e R s m args below meth c H locs cells slots Q (F0 m pc ls (.ref (q 6) :: rest)) := z_getf C hP (by decide) rfl (ci := 2) (kf := 0) rfl inX2 (by decide) rfl wg_173 rfl d k
theorem gf_X3_15 (C : Cx D g RX3 cc nL p s m args c) (hP : HP D q g σ H) (d : decode cc pc = .ok (.getfield 15, 3)) (k : W p l e R s m args below meth c H locs cells slots Q (F0 m (pc + 3) ls (.ref (q 10) :: rest))) : W p l e R s m args below meth c H locs cells slots Q (F0 m pc ls (.ref (q 2) :: rest)) := z_getf C hP (by decide) rfl (ci := 3) (kf := 1) rfl inX3 (by decide) rfl wg_76 rfl d k
theorem gf_X3_18 (C : Cx D g RX3 cc nL p s m args c) (hP : HP D q g σ H) (d : decode cc pc = .ok (.getfield 18, 3)) (k : W p l e R s m args below meth c H locs cells slots Q (F0 m (pc + 3) ls (.int (zI (σ 2 2)) :: rest))) : W p l e R s m args below meth c H locs cells slots Q (F0 m pc ls (.ref (q 2) :: rest)) := z_getf C hP (by decide) rfl (ci := 3) (kf := 2) rfl inX3 (by decide) rfl wg_77 rfl d k
theorem pf_X3_18 (C : Cx D g RX3 cc nL p s m args c) (hq : qok q) (hP : HP D q g σ H) (hS : va_S (aQ q) H0 H locs) {x : Int} (d : decode cc pc = .ok (.putfield 18, 3)) (k : ∀ (H1 : Heap) (locs1 : List Loc), HP D q g (um σ 2 2 x) H1 → va_S (aQ q) H0 H1 locs1 → W p l e R s m args below meth c H1 locs1 cells slots Q (F0 m (pc + 3) ls rest)) : W p l e R s m args below meth c H locs cells slots Q (F0 m pc ls (.int (zI x) :: .ref (q 2) :: rest)) := z_putf C hq hP hS (by decide) rfl (ci := 3) (kf := 2) (by rfl) rfl inX3 tyX3_ok nmX3 (by decide) rfl rfl rfl (Nat.le_of_ble_eq_true rfl) wg_77 d k
theorem gf_X3_9 (C : Cx D g RX3 cc nL p s m args c) (hP : HP D q g σ H) (d : decode cc pc = .ok (.getfield 9, 3)) (k : W p l e R s m args below meth c H locs cells slots Q (F0 m (pc + 3) ls (.ref (q 9) :: rest))) : W p l e R s m args below meth c H locs cells slots Q (F0 m pc ls (.ref (q 2) :: rest)) := z_getf C hP (by decide) rfl (ci := 3) (kf := 0) rfl inX3 (by decide) rfl wg_75 rfl d k
theorem gf_X4_15 (C : Cx D g RX4 cc nL p s m args c) (hP : HP D q g σ H) {j : Nat} (hj : j < 6) (d : decode cc pc = .ok (.getfield 15, 3)) (k : W p l e R s m args below meth c H locs cells slots Q (F0 m (pc + 3) ls (.ref (q (38 + j)) :: rest))) : W p l e R s m args below meth c H locs cells slots Q (F0 m pc ls (.ref (q (26 + j)) :: rest)) := z_getf C hP (by omega) (cE_run hj _) (ci := 4) (kf := 1) rfl inX4 (by decide) rfl wg_35 rfl d k
theorem gf_X4_18 (C : Cx D g RX4 cc nL p s m args c) (hP : HP D q g σ H) {j : Nat} (hj : j < 6) (d : decode cc pc = .ok (.getfield 18, 3)) (k : W p l e R s m args below meth c H locs cells slots Q (F0 m (pc + 3) ls (.int (zI (σ (26 + j) 3)) :: rest))) : W p l e R s m args below meth c H locs cells slots Q (F0 m pc ls (.ref (q (26 + j)) :: rest)) := z_getf C hP (by omega) (cE_run hj _) (ci := 4) (kf := 3) rfl inX4 (by decide) rfl wg_38 rfl d k
theorem gf_X4_25 (C : Cx D g RX4 cc nL p s m args c) (hP : HP D q g σ H) {j : Nat} (hj : j < 6) (d : decode cc pc = .ok (.getfield 25, 3)) (k : W p l e R s m args below meth c H locs cells slots Q (F0 m (pc + 3) ls (.int (zI (σ (26 + j) 2)) :: rest))) : W p l e R s m args below meth c H locs cells slots Q (F0 m pc ls (.ref (q (26 + j)) :: rest)) := z_getf C hP (by omega) (cE_run hj _) (ci := 4) (kf := 2) rfl inX4 (by decide) rfl wg_36 rfl d k
theorem gf_X4_9 (C : Cx D g RX4 cc nL p s m args c) (hP : HP D q g σ H) {j : Nat} (hj : j < 6) (d : decode cc pc = .ok (.getfield 9, 3)) (k : W p l e R s m args below meth c H locs cells slots Q (F0 m (pc + 3) ls (.ref (q (32 + j)) :: rest))) : W p l e R s m args below meth c H locs cells slots Q (F0 m pc ls (.ref (q (26 + j)) :: rest)) := z_getf C hP (by omega) (cE_run hj _) (ci := 4) (kf := 0) rfl inX4 (by decide) rfl wg_34 rfl d k
theorem gf_X5_15 (C : Cx D g RX5 cc nL p s m args c) (hP : HP D q g σ H) (d : decode cc pc = .ok (.getfield 15, 3)) (k : W p l e R s m args below meth c H locs cells slots Q (F0 m (pc + 3) ls (.int (zI (σ 4 1)) :: rest))) : W p l e R s m args below meth c H locs cells slots Q (F0 m pc ls (.ref (q 4) :: rest)) := z_getf C hP (by decide) rfl (ci := 5) (kf := 1) rfl inX5 (by decide) rfl wg_135 rfl d k
theorem pf_X5_15 (C : Cx D g RX5 cc nL p s m args c) (hq : qok q) (hP : HP D q g σ H) (hS : va_S (aQ q) H0 H locs) {x : Int} (d : decode cc pc = .ok (.putfield 15, 3)) (k : ∀ (H1 : Heap) (locs1 : List Loc), HP D q g (um σ 4 1 x) H1 → va_S (aQ q) H0 H1 locs1 → W p l e R s m args below meth c H1 locs1 cells slots Q (F0 m (pc + 3) ls rest)) : W p l e R s m args below meth c H locs cells slots Q (F0 m pc ls (.int (zI x) :: .ref (q 4) :: rest)) := z_putf C hq hP hS (by decide) rfl (ci := 5) (kf := 1) (by rfl) rfl inX5 tyX5_ok nmX5 (by decide) rfl rfl rfl (Nat.le_of_ble_eq_true rfl) wg_135 d k
theorem gf_X5_9 (C : Cx D g RX5 cc nL p s m args c) (hP : HP D q g σ H) (d : decode cc pc = .ok (.getfield 9, 3)) (k : W p l e R s m args below meth c H locs cells slots Q (F0 m (pc + 3) ls (.ref (q 13) :: rest))) : W p l e R s m args below meth c H locs cells slots Q (F0 m pc ls (.ref (q 4) :: rest)) := z_getf C hP (by decide) rfl (ci := 5) (kf := 0) rfl inX5 (by decide) rfl wg_133 rfl d k
theorem gf_X6_13 (C : Cx D g RX6 cc nL p s m args c) (hP : HP D q g σ H) {j : Nat} (hj : j < 5) (d : decode cc pc = .ok (.getfield 13, 3)) (k : W p l e R s m args below meth c H locs cells slots Q (F0 m (pc + 3) ls (.int (zI (σ (14 + j) 1)) :: rest))) : W p l e R s m args below meth c H locs cells slots Q (F0 m pc ls (.ref (q (14 + j)) :: rest)) := z_getf C hP (by omega) (cE_spn hj _) (ci := 6) (kf := 1) rfl inX6 (by decide) rfl wg_102 rfl d k
theorem pf_X6_13 (C : Cx D g RX6 cc nL p s m args c) (hq : qok q) (hP : HP D q g σ H) (hS : va_S (aQ q) H0 H locs) {j : Nat} (hj : j < 5) {x : Int} (d : decode cc pc = .ok (.putfield 13, 3)) (k : ∀ (H1 : Heap) (locs1 : List Loc), HP D q g (um σ (14 + j) 1 x) H1 → va_S (aQ q) H0 H1 locs1 → W p l e R s m args below meth c H1 locs1 cells slots Q (F0 m (pc + 3) ls rest)) : W p l e R s m args below meth c H locs cells slots Q (F0 m pc ls (.int (zI x) :: .ref (q (14 + j)) :: rest)) := z_putf C hq hP hS (by omega) (cE_spn hj _) (ci := 6) (kf := 1) (by rw [cE_spn hj]; simp [um]) rfl inX6 tyX6_ok nmX6 (by decide) rfl rfl rfl (Nat.le_of_ble_eq_true rfl) wg_102 d k
theorem gf_X6_7 (C : Cx D g RX6 cc nL p s m args c) (hP : HP D q g σ H) {j : Nat} (hj : j < 5) (d : decode cc pc = .ok (.getfield 7, 3)) (k : W p l e R s m args below meth c H locs cells slots Q (F0 m (pc + 3) ls (.int (zI (σ (14 + j) 0)) :: rest))) : W p l e R s m args below meth c H locs cells slots Q (F0 m pc ls (.ref (q (14 + j)) :: rest)) := z_getf C hP (by omega) (cE_spn hj _) (ci := 6) (kf := 0) rfl inX6 (by decide) rfl wg_99 rfl d k
theorem pf_X6_7 (C : Cx D g RX6 cc nL p s m args c) (hq : qok q) (hP : HP D q g σ H) (hS : va_S (aQ q) H0 H locs) {j : Nat} (hj : j < 5) {x : Int} (d : decode cc pc = .ok (.putfield 7, 3)) (k : ∀ (H1 : Heap) (locs1 : List Loc), HP D q g (um σ (14 + j) 0 x) H1 → va_S (aQ q) H0 H1 locs1 → W p l e R s m args below meth c H1 locs1 cells slots Q (F0 m (pc + 3) ls rest)) : W p l e R s m args below meth c H locs cells slots Q (F0 m pc ls (.int (zI x) :: .ref (q (14 + j)) :: rest)) := z_putf C hq hP hS (by omega) (cE_spn hj _) (ci := 6) (kf := 0) (by rw [cE_spn hj]; simp [um]) rfl inX6 tyX6_ok nmX6 (by decide) rfl rfl rfl (Nat.le_of_ble_eq_true rfl) wg_99 d k
theorem gf_X7_11 (C : Cx D g RX7 cc nL p s m args c) (hP : HP D q g σ H) (d : decode cc pc = .ok (.getfield 11, 3)) (k : W p l e R s m args below meth c H locs cells slots Q (F0 m (pc + 3) ls (.ref (q 7) :: rest))) : W p l e R s m args below meth c H locs cells slots Q (F0 m pc ls (.ref (q 1) :: rest)) := z_getf C hP (by decide) rfl (ci := 7) (kf := 0) rfl inX7 (by decide) rfl wg_55 rfl d k
theorem gf_X7_17 (C : Cx D g RX7 cc nL p s m args c) (hP : HP D q g σ H) (d : decode cc pc = .ok (.getfield 17, 3)) (k : W p l e R s m args below meth c H locs cells slots Q (F0 m (pc + 3) ls (.ref (q 8) :: rest))) : W p l e R s m args below meth c H locs cells slots Q (F0 m pc ls (.ref (q 1) :: rest)) := z_getf C hP (by decide) rfl (ci := 7) (kf := 1) rfl inX7 (by decide) rfl wg_57 rfl d k
theorem gf_X7_22 (C : Cx D g RX7 cc nL p s m args c) (hP : HP D q g σ H) (d : decode cc pc = .ok (.getfield 22, 3)) (k : W p l e R s m args below meth c H locs cells slots Q (F0 m (pc + 3) ls (.int (zI (σ 1 2)) :: rest))) : W p l e R s m args below meth c H locs cells slots Q (F0 m pc ls (.ref (q 1) :: rest)) := z_getf C hP (by decide) rfl (ci := 7) (kf := 2) rfl inX7 (by decide) rfl wg_59 rfl d k
theorem pf_X7_22 (C : Cx D g RX7 cc nL p s m args c) (hq : qok q) (hP : HP D q g σ H) (hS : va_S (aQ q) H0 H locs) {x : Int} (d : decode cc pc = .ok (.putfield 22, 3)) (k : ∀ (H1 : Heap) (locs1 : List Loc), HP D q g (um σ 1 2 x) H1 → va_S (aQ q) H0 H1 locs1 → W p l e R s m args below meth c H1 locs1 cells slots Q (F0 m (pc + 3) ls rest)) : W p l e R s m args below meth c H locs cells slots Q (F0 m pc ls (.int (zI x) :: .ref (q 1) :: rest)) := z_putf C hq hP hS (by decide) rfl (ci := 7) (kf := 2) (by rfl) rfl inX7 tyX7_ok nmX7 (by decide) rfl rfl rfl (Nat.le_of_ble_eq_true rfl) wg_59 d k
theorem pf_X7_30 (C : Cx D g RX7 cc nL p s m args c) (hq : qok q) (hP : HP D q g σ H) (hS : va_S (aQ q) H0 H locs) {j : Nat} (hj : j < 6) {x : Int} (d : decode cc pc = .ok (.putfield 30, 3)) (k : ∀ (H1 : Heap) (locs1 : List Loc), HP D q g (um σ (26 + j) 2 x) H1 → va_S (aQ q) H0 H1 locs1 → W p l e R s m args below meth c H1 locs1 cells slots Q (F0 m (pc + 3) ls rest)) : W p l e R s m args below meth c H locs cells slots Q (F0 m pc ls (.int (zI x) :: .ref (q (26 + j)) :: rest)) := z_putn C hq hP hS (by omega) (cE_run hj _) (ci := 4) (kf := 2) (by rw [cE_run hj]; simp [um]) rfl inX4 tyX4_ok nmX4 (by decide) rfl rfl rfl (Nat.le_of_ble_eq_true rfl) wm_37 d k
theorem pf_X7_33 (C : Cx D g RX7 cc nL p s m args c) (hq : qok q) (hP : HP D q g σ H) (hS : va_S (aQ q) H0 H locs) {j : Nat} (hj : j < 6) {x : Int} (d : decode cc pc = .ok (.putfield 33, 3)) (k : ∀ (H1 : Heap) (locs1 : List Loc), HP D q g (um σ (26 + j) 3 x) H1 → va_S (aQ q) H0 H1 locs1 → W p l e R s m args below meth c H1 locs1 cells slots Q (F0 m (pc + 3) ls rest)) : W p l e R s m args below meth c H locs cells slots Q (F0 m pc ls (.int (zI x) :: .ref (q (26 + j)) :: rest)) := z_putn C hq hP hS (by omega) (cE_run hj _) (ci := 4) (kf := 3) (by rw [cE_run hj]; simp [um]) rfl inX4 tyX4_ok nmX4 (by decide) rfl rfl rfl (Nat.le_of_ble_eq_true rfl) wm_39 d k
theorem gf_X7_83 (C : Cx D g RX7 cc nL p s m args c) (hP : HP D q g σ H) {j : Nat} (hj : j < 6) (d : decode cc pc = .ok (.getfield 83, 3)) (k : W p l e R s m args below meth c H locs cells slots Q (F0 m (pc + 3) ls (.int (zI (σ (26 + j) 4)) :: rest))) : W p l e R s m args below meth c H locs cells slots Q (F0 m pc ls (.ref (q (26 + j)) :: rest)) := z_getn C hP (by omega) (cE_run hj _) (ci := 4) (kf := 4) rfl inX4 (by decide) rfl wm_41 rfl d k
theorem gf_X8_10 (C : Cx D g RX8 cc nL p s m args c) (hP : HP D q g σ H) (d : decode cc pc = .ok (.getfield 10, 3)) (k : W p l e R s m args below meth c H locs cells slots Q (F0 m (pc + 3) ls (.ref (q 1) :: rest))) : W p l e R s m args below meth c H locs cells slots Q (F0 m pc ls (.ref (q 0) :: rest)) := z_getf C hP (by decide) rfl (ci := 8) (kf := 0) rfl inX8 (by decide) rfl wg_187 rfl d k
theorem gf_X8_118 (C : Cx D g RX8 cc nL p s m args c) (hP : HP D q g σ H) (d : decode cc pc = .ok (.getfield 118, 3)) (k : W p l e R s m args below meth c H locs cells slots Q (F0 m (pc + 3) ls (.int (zI (σ 1 2)) :: rest))) : W p l e R s m args below meth c H locs cells slots Q (F0 m pc ls (.ref (q 1) :: rest)) := z_getn C hP (by decide) rfl (ci := 7) (kf := 2) rfl inX7 (by decide) rfl wm_61 rfl d k
theorem gf_X8_130 (C : Cx D g RX8 cc nL p s m args c) (hP : HP D q g σ H) (d : decode cc pc = .ok (.getfield 130, 3)) (k : W p l e R s m args below meth c H locs cells slots Q (F0 m (pc + 3) ls (.int (zI (σ 2 2)) :: rest))) : W p l e R s m args below meth c H locs cells slots Q (F0 m pc ls (.ref (q 2) :: rest)) := z_getn C hP (by decide) rfl (ci := 3) (kf := 2) rfl inX3 (by decide) rfl wm_78 rfl d k
theorem pf_X8_130 (C : Cx D g RX8 cc nL p s m args c) (hq : qok q) (hP : HP D q g σ H) (hS : va_S (aQ q) H0 H locs) {x : Int} (d : decode cc pc = .ok (.putfield 130, 3)) (k : ∀ (H1 : Heap) (locs1 : List Loc), HP D q g (um σ 2 2 x) H1 → va_S (aQ q) H0 H1 locs1 → W p l e R s m args below meth c H1 locs1 cells slots Q (F0 m (pc + 3) ls rest)) : W p l e R s m args below meth c H locs cells slots Q (F0 m pc ls (.int (zI x) :: .ref (q 2) :: rest)) := z_putn C hq hP hS (by decide) rfl (ci := 3) (kf := 2) (by rfl) rfl inX3 tyX3_ok nmX3 (by decide) rfl rfl rfl (Nat.le_of_ble_eq_true rfl) wm_78 d k
theorem gf_X8_148 (C : Cx D g RX8 cc nL p s m args c) (hP : HP D q g σ H) {j : Nat} (hj : j < 6) (d : decode cc pc = .ok (.getfield 148, 3)) (k : W p l e R s m args below meth c H locs cells slots Q (F0 m (pc + 3) ls (.int (zI (σ (26 + j) 4)) :: rest))) : W p l e R s m args below meth c H locs cells slots Q (F0 m pc ls (.ref (q (26 + j)) :: rest)) := z_getn C hP (by omega) (cE_run hj _) (ci := 4) (kf := 4) rfl inX4 (by decide) rfl wm_42 rfl d k
theorem pf_X8_148 (C : Cx D g RX8 cc nL p s m args c) (hq : qok q) (hP : HP D q g σ H) (hS : va_S (aQ q) H0 H locs) {j : Nat} (hj : j < 6) {x : Int} (d : decode cc pc = .ok (.putfield 148, 3)) (k : ∀ (H1 : Heap) (locs1 : List Loc), HP D q g (um σ (26 + j) 4 x) H1 → va_S (aQ q) H0 H1 locs1 → W p l e R s m args below meth c H1 locs1 cells slots Q (F0 m (pc + 3) ls rest)) : W p l e R s m args below meth c H locs cells slots Q (F0 m pc ls (.int (zI x) :: .ref (q (26 + j)) :: rest)) := z_putn C hq hP hS (by omega) (cE_run hj _) (ci := 4) (kf := 4) (by rw [cE_run hj]; simp [um]) rfl inX4 tyX4_ok nmX4 (by decide) rfl rfl rfl (Nat.le_of_ble_eq_true rfl) wm_42 d k
theorem gf_X8_173 (C : Cx D g RX8 cc nL p s m args c) (hP : HP D q g σ H) (d : decode cc pc = .ok (.getfield 173, 3)) (k : W p l e R s m args below meth c H locs cells slots Q (F0 m (pc + 3) ls (.ref (q 11) :: rest))) : W p l e R s m args below meth c H locs cells slots Q (F0 m pc ls (.ref (q 3) :: rest)) := z_getn C hP (by decide) rfl (ci := 1) (kf := 0) rfl inX1 (by decide) rfl wm_115 rfl d k
theorem gf_X8_185 (C : Cx D g RX8 cc nL p s m args c) (hP : HP D q g σ H) (d : decode cc pc = .ok (.getfield 185, 3)) (k : W p l e R s m args below meth c H locs cells slots Q (F0 m (pc + 3) ls (.ref (q 12) :: rest))) : W p l e R s m args below meth c H locs cells slots Q (F0 m pc ls (.ref (q 3) :: rest)) := z_getn C hP (by decide) rfl (ci := 1) (kf := 1) rfl inX1 (by decide) rfl wm_117 rfl d k
theorem gf_X8_19 (C : Cx D g RX8 cc nL p s m args c) (hP : HP D q g σ H) (d : decode cc pc = .ok (.getfield 19, 3)) (k : W p l e R s m args below meth c H locs cells slots Q (F0 m (pc + 3) ls (.ref (q 2) :: rest))) : W p l e R s m args below meth c H locs cells slots Q (F0 m pc ls (.ref (q 0) :: rest)) := z_getf C hP (by decide) rfl (ci := 8) (kf := 1) rfl inX8 (by decide) rfl wg_188 rfl d k
theorem gf_X8_193 (C : Cx D g RX8 cc nL p s m args c) (hP : HP D q g σ H) (d : decode cc pc = .ok (.getfield 193, 3)) (k : W p l e R s m args below meth c H locs cells slots Q (F0 m (pc + 3) ls (.ref (q 18) :: rest))) : W p l e R s m args below meth c H locs cells slots Q (F0 m pc ls (.ref (q 3) :: rest)) := z_getn C hP (by decide) rfl (ci := 1) (kf := 2) rfl inX1 (by decide) rfl wm_119 rfl d k
theorem gf_X8_197 (C : Cx D g RX8 cc nL p s m args c) (hP : HP D q g σ H) {j : Nat} (hj : j < 5) (d : decode cc pc = .ok (.getfield 197, 3)) (k : W p l e R s m args below meth c H locs cells slots Q (F0 m (pc + 3) ls (.int (zI (σ (14 + j) 1)) :: rest))) : W p l e R s m args below meth c H locs cells slots Q (F0 m pc ls (.ref (q (14 + j)) :: rest)) := z_getn C hP (by omega) (cE_spn hj _) (ci := 6) (kf := 1) rfl inX6 (by decide) rfl wm_104 rfl d k
theorem gf_X8_200 (C : Cx D g RX8 cc nL p s m args c) (hP : HP D q g σ H) {j : Nat} (hj : j < 5) (d : decode cc pc = .ok (.getfield 200, 3)) (k : W p l e R s m args below meth c H locs cells slots Q (F0 m (pc + 3) ls (.int (zI (σ (14 + j) 0)) :: rest))) : W p l e R s m args below meth c H locs cells slots Q (F0 m pc ls (.ref (q (14 + j)) :: rest)) := z_getn C hP (by omega) (cE_spn hj _) (ci := 6) (kf := 0) rfl inX6 (by decide) rfl wm_101 rfl d k
theorem gf_X8_206 (C : Cx D g RX8 cc nL p s m args c) (hP : HP D q g σ H) (d : decode cc pc = .ok (.getfield 206, 3)) (k : W p l e R s m args below meth c H locs cells slots Q (F0 m (pc + 3) ls (.int (zI (σ 4 1)) :: rest))) : W p l e R s m args below meth c H locs cells slots Q (F0 m pc ls (.ref (q 4) :: rest)) := z_getn C hP (by decide) rfl (ci := 5) (kf := 1) rfl inX5 (by decide) rfl wm_137 rfl d k
theorem pf_X8_206 (C : Cx D g RX8 cc nL p s m args c) (hq : qok q) (hP : HP D q g σ H) (hS : va_S (aQ q) H0 H locs) {x : Int} (d : decode cc pc = .ok (.putfield 206, 3)) (k : ∀ (H1 : Heap) (locs1 : List Loc), HP D q g (um σ 4 1 x) H1 → va_S (aQ q) H0 H1 locs1 → W p l e R s m args below meth c H1 locs1 cells slots Q (F0 m (pc + 3) ls rest)) : W p l e R s m args below meth c H locs cells slots Q (F0 m pc ls (.int (zI x) :: .ref (q 4) :: rest)) := z_putn C hq hP hS (by decide) rfl (ci := 5) (kf := 1) (by rfl) rfl inX5 tyX5_ok nmX5 (by decide) rfl rfl rfl (Nat.le_of_ble_eq_true rfl) wm_137 d k
theorem gf_X8_214 (C : Cx D g RX8 cc nL p s m args c) (hP : HP D q g σ H) (d : decode cc pc = .ok (.getfield 214, 3)) (k : W p l e R s m args below meth c H locs cells slots Q (F0 m (pc + 3) ls (.int (zI (σ 5 4)) :: rest))) : W p l e R s m args below meth c H locs cells slots Q (F0 m pc ls (.ref (q 5) :: rest)) := z_getn C hP (by decide) rfl (ci := 0) (kf := 4) rfl inX0 (by decide) rfl wm_155 rfl d k
theorem gf_X8_218 (C : Cx D g RX8 cc nL p s m args c) (hP : HP D q g σ H) (d : decode cc pc = .ok (.getfield 218, 3)) (k : W p l e R s m args below meth c H locs cells slots Q (F0 m (pc + 3) ls (.ref (q 19) :: rest))) : W p l e R s m args below meth c H locs cells slots Q (F0 m pc ls (.ref (q 5) :: rest)) := z_getn C hP (by decide) rfl (ci := 0) (kf := 0) rfl inX0 (by decide) rfl wm_150 rfl d k
theorem gf_X8_230 (C : Cx D g RX8 cc nL p s m args c) (hP : HP D q g σ H) (d : decode cc pc = .ok (.getfield 230, 3)) (k : W p l e R s m args below meth c H locs cells slots Q (F0 m (pc + 3) ls (.int (zI (σ 6 3)) :: rest))) : W p l e R s m args below meth c H locs cells slots Q (F0 m pc ls (.ref (q 6) :: rest)) := z_getn C hP (by decide) rfl (ci := 2) (kf := 3) rfl inX2 (by decide) rfl wm_177 rfl d k
theorem gf_X8_26 (C : Cx D g RX8 cc nL p s m args c) (hP : HP D q g σ H) (d : decode cc pc = .ok (.getfield 26, 3)) (k : W p l e R s m args below meth c H locs cells slots Q (F0 m (pc + 3) ls (.ref (q 3) :: rest))) : W p l e R s m args below meth c H locs cells slots Q (F0 m pc ls (.ref (q 0) :: rest)) := z_getf C hP (by decide) rfl (ci := 8) (kf := 2) rfl inX8 (by decide) rfl wg_189 rfl d k
theorem gf_X8_33 (C : Cx D g RX8 cc nL p s m args c) (hP : HP D q g σ H) (d : decode cc pc = .ok (.getfield 33, 3)) (k : W p l e R s m args below meth c H locs cells slots Q (F0 m (pc + 3) ls (.ref (q 4) :: rest))) : W p l e R s m args below meth c H locs cells slots Q (F0 m pc ls (.ref (q 0) :: rest)) := z_getf C hP (by decide) rfl (ci := 8) (kf := 3) rfl inX8 (by decide) rfl wg_190 rfl d k
theorem gf_X8_40 (C : Cx D g RX8 cc nL p s m args c) (hP : HP D q g σ H) (d : decode cc pc = .ok (.getfield 40, 3)) (k : W p l e R s m args below meth c H locs cells slots Q (F0 m (pc + 3) ls (.ref (q 5) :: rest))) : W p l e R s m args below meth c H locs cells slots Q (F0 m pc ls (.ref (q 0) :: rest)) := z_getf C hP (by decide) rfl (ci := 8) (kf := 4) rfl inX8 (by decide) rfl wg_191 rfl d k
theorem gf_X8_47 (C : Cx D g RX8 cc nL p s m args c) (hP : HP D q g σ H) (d : decode cc pc = .ok (.getfield 47, 3)) (k : W p l e R s m args below meth c H locs cells slots Q (F0 m (pc + 3) ls (.ref (q 6) :: rest))) : W p l e R s m args below meth c H locs cells slots Q (F0 m pc ls (.ref (q 0) :: rest)) := z_getf C hP (by decide) rfl (ci := 8) (kf := 5) rfl inX8 (by decide) rfl wg_192 rfl d k
theorem gf_X8_66 (C : Cx D g RX8 cc nL p s m args c) (hP : HP D q g σ H) (d : decode cc pc = .ok (.getfield 66, 3)) (k : W p l e R s m args below meth c H locs cells slots Q (F0 m (pc + 3) ls (.ref (q 7) :: rest))) : W p l e R s m args below meth c H locs cells slots Q (F0 m pc ls (.ref (q 1) :: rest)) := z_getn C hP (by decide) rfl (ci := 7) (kf := 0) rfl inX7 (by decide) rfl wm_56 rfl d k
theorem gf_X8_83 (C : Cx D g RX8 cc nL p s m args c) (hP : HP D q g σ H) (d : decode cc pc = .ok (.getfield 83, 3)) (k : W p l e R s m args below meth c H locs cells slots Q (F0 m (pc + 3) ls (.ref (q 8) :: rest))) : W p l e R s m args below meth c H locs cells slots Q (F0 m pc ls (.ref (q 1) :: rest)) := z_getn C hP (by decide) rfl (ci := 7) (kf := 1) rfl inX7 (by decide) rfl wm_58 rfl d k
theorem gf_X9_100 (C : Cx D g RX9 cc nL p s m args c) (hP : HP D q g σ H) (d : decode cc pc = .ok (.getfield 100, 3)) (k : W p l e R s m args below meth c H locs cells slots Q (F0 m (pc + 3) ls (.int (zI (σ 44 10)) :: rest))) : W p l e R s m args below meth c H locs cells slots Q (F0 m pc ls (.ref (q 44) :: rest)) := z_getf C hP (by decide) rfl (ci := 9) (kf := 10) rfl inX9 (by decide) rfl wg_596 rfl d k
theorem pf_X9_100 (C : Cx D g RX9 cc nL p s m args c) (hq : qok q) (hP : HP D q g σ H) (hS : va_S (aQ q) H0 H locs) {x : Int} (d : decode cc pc = .ok (.putfield 100, 3)) (k : ∀ (H1 : Heap) (locs1 : List Loc), HP D q g (um σ 44 10 x) H1 → va_S (aQ q) H0 H1 locs1 → W p l e R s m args below meth c H1 locs1 cells slots Q (F0 m (pc + 3) ls rest)) : W p l e R s m args below meth c H locs cells slots Q (F0 m pc ls (.int (zI x) :: .ref (q 44) :: rest)) := z_putf C hq hP hS (by decide) rfl (ci := 9) (kf := 10) (by rfl) rfl inX9 tyX9_ok nmX9 (by decide) rfl rfl rfl (Nat.le_of_ble_eq_true rfl) wg_596 d k
theorem gf_X9_13 (C : Cx D g RX9 cc nL p s m args c) (hP : HP D q g σ H) (d : decode cc pc = .ok (.getfield 13, 3)) (k : W p l e R s m args below meth c H locs cells slots Q (F0 m (pc + 3) ls (.ref (q 46) :: rest))) : W p l e R s m args below meth c H locs cells slots Q (F0 m pc ls (.ref (q 44) :: rest)) := z_getf C hP (by decide) rfl (ci := 9) (kf := 1) rfl inX9 (by decide) rfl wg_587 rfl d k
theorem gf_X9_150 (C : Cx D g RX9 cc nL p s m args c) (hP : HP D q g σ H) (d : decode cc pc = .ok (.getfield 150, 3)) (k : W p l e R s m args below meth c H locs cells slots Q (F0 m (pc + 3) ls (.int (zI (σ 44 13)) :: rest))) : W p l e R s m args below meth c H locs cells slots Q (F0 m pc ls (.ref (q 44) :: rest)) := z_getf C hP (by decide) rfl (ci := 9) (kf := 13) rfl inX9 (by decide) rfl wg_599 rfl d k
theorem pf_X9_150 (C : Cx D g RX9 cc nL p s m args c) (hq : qok q) (hP : HP D q g σ H) (hS : va_S (aQ q) H0 H locs) {x : Int} (d : decode cc pc = .ok (.putfield 150, 3)) (k : ∀ (H1 : Heap) (locs1 : List Loc), HP D q g (um σ 44 13 x) H1 → va_S (aQ q) H0 H1 locs1 → W p l e R s m args below meth c H1 locs1 cells slots Q (F0 m (pc + 3) ls rest)) : W p l e R s m args below meth c H locs cells slots Q (F0 m pc ls (.int (zI x) :: .ref (q 44) :: rest)) := z_putf C hq hP hS (by decide) rfl (ci := 9) (kf := 13) (by rfl) rfl inX9 tyX9_ok nmX9 (by decide) rfl rfl rfl (Nat.le_of_ble_eq_true rfl) wg_599 d k
theorem gf_X9_16 (C : Cx D g RX9 cc nL p s m args c) (hP : HP D q g σ H) (d : decode cc pc = .ok (.getfield 16, 3)) (k : W p l e R s m args below meth c H locs cells slots Q (F0 m (pc + 3) ls (.ref (q 47) :: rest))) : W p l e R s m args below meth c H locs cells slots Q (F0 m pc ls (.ref (q 44) :: rest)) := z_getf C hP (by decide) rfl (ci := 9) (kf := 2) rfl inX9 (by decide) rfl wg_588 rfl d k
theorem gf_X9_183 (C : Cx D g RX9 cc nL p s m args c) (hP : HP D q g σ H) (d : decode cc pc = .ok (.getfield 183, 3)) (k : W p l e R s m args below meth c H locs cells slots Q (F0 m (pc + 3) ls (.int (zI (σ 44 17)) :: rest))) : W p l e R s m args below meth c H locs cells slots Q (F0 m pc ls (.ref (q 44) :: rest)) := z_getf C hP (by decide) rfl (ci := 9) (kf := 17) rfl inX9 (by decide) rfl wg_603 rfl d k
theorem pf_X9_183 (C : Cx D g RX9 cc nL p s m args c) (hq : qok q) (hP : HP D q g σ H) (hS : va_S (aQ q) H0 H locs) {x : Int} (d : decode cc pc = .ok (.putfield 183, 3)) (k : ∀ (H1 : Heap) (locs1 : List Loc), HP D q g (um σ 44 17 x) H1 → va_S (aQ q) H0 H1 locs1 → W p l e R s m args below meth c H1 locs1 cells slots Q (F0 m (pc + 3) ls rest)) : W p l e R s m args below meth c H locs cells slots Q (F0 m pc ls (.int (zI x) :: .ref (q 44) :: rest)) := z_putf C hq hP hS (by decide) rfl (ci := 9) (kf := 17) (by rfl) rfl inX9 tyX9_ok nmX9 (by decide) rfl rfl rfl (Nat.le_of_ble_eq_true rfl) wg_603 d k
theorem gf_X9_186 (C : Cx D g RX9 cc nL p s m args c) (hP : HP D q g σ H) (d : decode cc pc = .ok (.getfield 186, 3)) (k : W p l e R s m args below meth c H locs cells slots Q (F0 m (pc + 3) ls (.int (zI (σ 44 18)) :: rest))) : W p l e R s m args below meth c H locs cells slots Q (F0 m pc ls (.ref (q 44) :: rest)) := z_getf C hP (by decide) rfl (ci := 9) (kf := 18) rfl inX9 (by decide) rfl wg_604 rfl d k
theorem pf_X9_186 (C : Cx D g RX9 cc nL p s m args c) (hq : qok q) (hP : HP D q g σ H) (hS : va_S (aQ q) H0 H locs) {x : Int} (d : decode cc pc = .ok (.putfield 186, 3)) (k : ∀ (H1 : Heap) (locs1 : List Loc), HP D q g (um σ 44 18 x) H1 → va_S (aQ q) H0 H1 locs1 → W p l e R s m args below meth c H1 locs1 cells slots Q (F0 m (pc + 3) ls rest)) : W p l e R s m args below meth c H locs cells slots Q (F0 m pc ls (.int (zI x) :: .ref (q 44) :: rest)) := z_putf C hq hP hS (by decide) rfl (ci := 9) (kf := 18) (by rfl) rfl inX9 tyX9_ok nmX9 (by decide) rfl rfl rfl (Nat.le_of_ble_eq_true rfl) wg_604 d k
theorem gf_X9_198 (C : Cx D g RX9 cc nL p s m args c) (hP : HP D q g σ H) (d : decode cc pc = .ok (.getfield 198, 3)) (k : W p l e R s m args below meth c H locs cells slots Q (F0 m (pc + 3) ls (.int (zI (σ 44 20)) :: rest))) : W p l e R s m args below meth c H locs cells slots Q (F0 m pc ls (.ref (q 44) :: rest)) := z_getf C hP (by decide) rfl (ci := 9) (kf := 20) rfl inX9 (by decide) rfl wg_606 rfl d k
theorem pf_X9_198 (C : Cx D g RX9 cc nL p s m args c) (hq : qok q) (hP : HP D q g σ H) (hS : va_S (aQ q) H0 H locs) {x : Int} (d : decode cc pc = .ok (.putfield 198, 3)) (k : ∀ (H1 : Heap) (locs1 : List Loc), HP D q g (um σ 44 20 x) H1 → va_S (aQ q) H0 H1 locs1 → W p l e R s m args below meth c H1 locs1 cells slots Q (F0 m (pc + 3) ls rest)) : W p l e R s m args below meth c H locs cells slots Q (F0 m pc ls (.int (zI x) :: .ref (q 44) :: rest)) := z_putf C hq hP hS (by decide) rfl (ci := 9) (kf := 20) (by rfl) rfl inX9 tyX9_ok nmX9 (by decide) rfl rfl rfl (Nat.le_of_ble_eq_true rfl) wg_606 d k
theorem gf_X9_20 (C : Cx D g RX9 cc nL p s m args c) (hP : HP D q g σ H) (d : decode cc pc = .ok (.getfield 20, 3)) (k : W p l e R s m args below meth c H locs cells slots Q (F0 m (pc + 3) ls (.ref (q 48) :: rest))) : W p l e R s m args below meth c H locs cells slots Q (F0 m pc ls (.ref (q 44) :: rest)) := z_getf C hP (by decide) rfl (ci := 9) (kf := 3) rfl inX9 (by decide) rfl wg_589 rfl d k
theorem gf_X9_217 (C : Cx D g RX9 cc nL p s m args c) (hP : HP D q g σ H) (d : decode cc pc = .ok (.getfield 217, 3)) (k : W p l e R s m args below meth c H locs cells slots Q (F0 m (pc + 3) ls (.int (zI (σ 44 24)) :: rest))) : W p l e R s m args below meth c H locs cells slots Q (F0 m pc ls (.ref (q 44) :: rest)) := z_getf C hP (by decide) rfl (ci := 9) (kf := 24) rfl inX9 (by decide) rfl wg_610 rfl d k
theorem pf_X9_217 (C : Cx D g RX9 cc nL p s m args c) (hq : qok q) (hP : HP D q g σ H) (hS : va_S (aQ q) H0 H locs) {x : Int} (d : decode cc pc = .ok (.putfield 217, 3)) (k : ∀ (H1 : Heap) (locs1 : List Loc), HP D q g (um σ 44 24 x) H1 → va_S (aQ q) H0 H1 locs1 → W p l e R s m args below meth c H1 locs1 cells slots Q (F0 m (pc + 3) ls rest)) : W p l e R s m args below meth c H locs cells slots Q (F0 m pc ls (.int (zI x) :: .ref (q 44) :: rest)) := z_putf C hq hP hS (by decide) rfl (ci := 9) (kf := 24) (by rfl) rfl inX9 tyX9_ok nmX9 (by decide) rfl rfl rfl (Nat.le_of_ble_eq_true rfl) wg_610 d k
theorem gf_X9_229 (C : Cx D g RX9 cc nL p s m args c) (hP : HP D q g σ H) (d : decode cc pc = .ok (.getfield 229, 3)) (k : W p l e R s m args below meth c H locs cells slots Q (F0 m (pc + 3) ls (.int (zI (σ 44 27)) :: rest))) : W p l e R s m args below meth c H locs cells slots Q (F0 m pc ls (.ref (q 44) :: rest)) := z_getf C hP (by decide) rfl (ci := 9) (kf := 27) rfl inX9 (by decide) rfl wg_613 rfl d k
theorem pf_X9_229 (C : Cx D g RX9 cc nL p s m args c) (hq : qok q) (hP : HP D q g σ H) (hS : va_S (aQ q) H0 H locs) {x : Int} (d : decode cc pc = .ok (.putfield 229, 3)) (k : ∀ (H1 : Heap) (locs1 : List Loc), HP D q g (um σ 44 27 x) H1 → va_S (aQ q) H0 H1 locs1 → W p l e R s m args below meth c H1 locs1 cells slots Q (F0 m (pc + 3) ls rest)) : W p l e R s m args below meth c H locs cells slots Q (F0 m pc ls (.int (zI x) :: .ref (q 44) :: rest)) := z_putf C hq hP hS (by decide) rfl (ci := 9) (kf := 27) (by rfl) rfl inX9 tyX9_ok nmX9 (by decide) rfl rfl rfl (Nat.le_of_ble_eq_true rfl) wg_613 d k
theorem gf_X9_23 (C : Cx D g RX9 cc nL p s m args c) (hP : HP D q g σ H) (d : decode cc pc = .ok (.getfield 23, 3)) (k : W p l e R s m args below meth c H locs cells slots Q (F0 m (pc + 3) ls (.ref (q 49) :: rest))) : W p l e R s m args below meth c H locs cells slots Q (F0 m pc ls (.ref (q 44) :: rest)) := z_getf C hP (by decide) rfl (ci := 9) (kf := 4) rfl inX9 (by decide) rfl wg_590 rfl d k
theorem gf_X9_26 (C : Cx D g RX9 cc nL p s m args c) (hP : HP D q g σ H) (d : decode cc pc = .ok (.getfield 26, 3)) (k : W p l e R s m args below meth c H locs cells slots Q (F0 m (pc + 3) ls (.ref (q 50) :: rest))) : W p l e R s m args below meth c H locs cells slots Q (F0 m pc ls (.ref (q 44) :: rest)) := z_getf C hP (by decide) rfl (ci := 9) (kf := 5) rfl inX9 (by decide) rfl wg_591 rfl d k
theorem gf_X9_29 (C : Cx D g RX9 cc nL p s m args c) (hP : HP D q g σ H) (d : decode cc pc = .ok (.getfield 29, 3)) (k : W p l e R s m args below meth c H locs cells slots Q (F0 m (pc + 3) ls (.ref (q 51) :: rest))) : W p l e R s m args below meth c H locs cells slots Q (F0 m pc ls (.ref (q 44) :: rest)) := z_getf C hP (by decide) rfl (ci := 9) (kf := 11) rfl inX9 (by decide) rfl wg_597 rfl d k
theorem gf_X9_32 (C : Cx D g RX9 cc nL p s m args c) (hP : HP D q g σ H) (d : decode cc pc = .ok (.getfield 32, 3)) (k : W p l e R s m args below meth c H locs cells slots Q (F0 m (pc + 3) ls (.ref (q 52) :: rest))) : W p l e R s m args below meth c H locs cells slots Q (F0 m pc ls (.ref (q 44) :: rest)) := z_getf C hP (by decide) rfl (ci := 9) (kf := 12) rfl inX9 (by decide) rfl wg_598 rfl d k
theorem gf_X9_35 (C : Cx D g RX9 cc nL p s m args c) (hP : HP D q g σ H) (d : decode cc pc = .ok (.getfield 35, 3)) (k : W p l e R s m args below meth c H locs cells slots Q (F0 m (pc + 3) ls (.ref (q 53) :: rest))) : W p l e R s m args below meth c H locs cells slots Q (F0 m pc ls (.ref (q 44) :: rest)) := z_getf C hP (by decide) rfl (ci := 9) (kf := 14) rfl inX9 (by decide) rfl wg_600 rfl d k
theorem gf_X9_38 (C : Cx D g RX9 cc nL p s m args c) (hP : HP D q g σ H) (d : decode cc pc = .ok (.getfield 38, 3)) (k : W p l e R s m args below meth c H locs cells slots Q (F0 m (pc + 3) ls (.ref (q 54) :: rest))) : W p l e R s m args below meth c H locs cells slots Q (F0 m pc ls (.ref (q 44) :: rest)) := z_getf C hP (by decide) rfl (ci := 9) (kf := 15) rfl inX9 (by decide) rfl wg_601 rfl d k
theorem gf_X9_41 (C : Cx D g RX9 cc nL p s m args c) (hP : HP D q g σ H) (d : decode cc pc = .ok (.getfield 41, 3)) (k : W p l e R s m args below meth c H locs cells slots Q (F0 m (pc + 3) ls (.ref (q 55) :: rest))) : W p l e R s m args below meth c H locs cells slots Q (F0 m pc ls (.ref (q 44) :: rest)) := z_getf C hP (by decide) rfl (ci := 9) (kf := 16) rfl inX9 (by decide) rfl wg_602 rfl d k
theorem gf_X9_44 (C : Cx D g RX9 cc nL p s m args c) (hP : HP D q g σ H) (d : decode cc pc = .ok (.getfield 44, 3)) (k : W p l e R s m args below meth c H locs cells slots Q (F0 m (pc + 3) ls (.ref (q 56) :: rest))) : W p l e R s m args below meth c H locs cells slots Q (F0 m pc ls (.ref (q 44) :: rest)) := z_getf C hP (by decide) rfl (ci := 9) (kf := 19) rfl inX9 (by decide) rfl wg_605 rfl d k
theorem gf_X9_47 (C : Cx D g RX9 cc nL p s m args c) (hP : HP D q g σ H) (d : decode cc pc = .ok (.getfield 47, 3)) (k : W p l e R s m args below meth c H locs cells slots Q (F0 m (pc + 3) ls (.ref (q 57) :: rest))) : W p l e R s m args below meth c H locs cells slots Q (F0 m pc ls (.ref (q 44) :: rest)) := z_getf C hP (by decide) rfl (ci := 9) (kf := 21) rfl inX9 (by decide) rfl wg_607 rfl d k
theorem gf_X9_50 (C : Cx D g RX9 cc nL p s m args c) (hP : HP D q g σ H) (d : decode cc pc = .ok (.getfield 50, 3)) (k : W p l e R s m args below meth c H locs cells slots Q (F0 m (pc + 3) ls (.ref (q 58) :: rest))) : W p l e R s m args below meth c H locs cells slots Q (F0 m pc ls (.ref (q 44) :: rest)) := z_getf C hP (by decide) rfl (ci := 9) (kf := 22) rfl inX9 (by decide) rfl wg_608 rfl d k
theorem gf_X9_53 (C : Cx D g RX9 cc nL p s m args c) (hP : HP D q g σ H) (d : decode cc pc = .ok (.getfield 53, 3)) (k : W p l e R s m args below meth c H locs cells slots Q (F0 m (pc + 3) ls (.ref (q 59) :: rest))) : W p l e R s m args below meth c H locs cells slots Q (F0 m pc ls (.ref (q 44) :: rest)) := z_getf C hP (by decide) rfl (ci := 9) (kf := 23) rfl inX9 (by decide) rfl wg_609 rfl d k
theorem gf_X9_56 (C : Cx D g RX9 cc nL p s m args c) (hP : HP D q g σ H) (d : decode cc pc = .ok (.getfield 56, 3)) (k : W p l e R s m args below meth c H locs cells slots Q (F0 m (pc + 3) ls (.ref (q 60) :: rest))) : W p l e R s m args below meth c H locs cells slots Q (F0 m pc ls (.ref (q 44) :: rest)) := z_getf C hP (by decide) rfl (ci := 9) (kf := 25) rfl inX9 (by decide) rfl wg_611 rfl d k
theorem gf_X9_59 (C : Cx D g RX9 cc nL p s m args c) (hP : HP D q g σ H) (d : decode cc pc = .ok (.getfield 59, 3)) (k : W p l e R s m args below meth c H locs cells slots Q (F0 m (pc + 3) ls (.ref (q 61) :: rest))) : W p l e R s m args below meth c H locs cells slots Q (F0 m pc ls (.ref (q 44) :: rest)) := z_getf C hP (by decide) rfl (ci := 9) (kf := 26) rfl inX9 (by decide) rfl wg_612 rfl d k
theorem gf_X9_62 (C : Cx D g RX9 cc nL p s m args c) (hP : HP D q g σ H) (d : decode cc pc = .ok (.getfield 62, 3)) (k : W p l e R s m args below meth c H locs cells slots Q (F0 m (pc + 3) ls (.int (zI (σ 44 9)) :: rest))) : W p l e R s m args below meth c H locs cells slots Q (F0 m pc ls (.ref (q 44) :: rest)) := z_getf C hP (by decide) rfl (ci := 9) (kf := 9) rfl inX9 (by decide) rfl wg_595 rfl d k
theorem pf_X9_62 (C : Cx D g RX9 cc nL p s m args c) (hq : qok q) (hP : HP D q g σ H) (hS : va_S (aQ q) H0 H locs) {x : Int} (d : decode cc pc = .ok (.putfield 62, 3)) (k : ∀ (H1 : Heap) (locs1 : List Loc), HP D q g (um σ 44 9 x) H1 → va_S (aQ q) H0 H1 locs1 → W p l e R s m args below meth c H1 locs1 cells slots Q (F0 m (pc + 3) ls rest)) : W p l e R s m args below meth c H locs cells slots Q (F0 m pc ls (.int (zI x) :: .ref (q 44) :: rest)) := z_putf C hq hP hS (by decide) rfl (ci := 9) (kf := 9) (by rfl) rfl inX9 tyX9_ok nmX9 (by decide) rfl rfl rfl (Nat.le_of_ble_eq_true rfl) wg_595 d k
theorem gf_X9_66 (C : Cx D g RX9 cc nL p s m args c) (hP : HP D q g σ H) (d : decode cc pc = .ok (.getfield 66, 3)) (k : W p l e R s m args below meth c H locs cells slots Q (F0 m (pc + 3) ls (.int (zI (σ 44 6)) :: rest))) : W p l e R s m args below meth c H locs cells slots Q (F0 m pc ls (.ref (q 44) :: rest)) := z_getf C hP (by decide) rfl (ci := 9) (kf := 6) rfl inX9 (by decide) rfl wg_592 rfl d k
theorem pf_X9_66 (C : Cx D g RX9 cc nL p s m args c) (hq : qok q) (hP : HP D q g σ H) (hS : va_S (aQ q) H0 H locs) {x : Int} (d : decode cc pc = .ok (.putfield 66, 3)) (k : ∀ (H1 : Heap) (locs1 : List Loc), HP D q g (um σ 44 6 x) H1 → va_S (aQ q) H0 H1 locs1 → W p l e R s m args below meth c H1 locs1 cells slots Q (F0 m (pc + 3) ls rest)) : W p l e R s m args below meth c H locs cells slots Q (F0 m pc ls (.int (zI x) :: .ref (q 44) :: rest)) := z_putf C hq hP hS (by decide) rfl (ci := 9) (kf := 6) (by rfl) rfl inX9 tyX9_ok nmX9 (by decide) rfl rfl rfl (Nat.le_of_ble_eq_true rfl) wg_592 d k
theorem gf_X9_7 (C : Cx D g RX9 cc nL p s m args c) (hP : HP D q g σ H) (d : decode cc pc = .ok (.getfield 7, 3)) (k : W p l e R s m args below meth c H locs cells slots Q (F0 m (pc + 3) ls (.ref (q 45) :: rest))) : W p l e R s m args below meth c H locs cells slots Q (F0 m pc ls (.ref (q 44) :: rest)) := z_getf C hP (by decide) rfl (ci := 9) (kf := 0) rfl inX9 (by decide) rfl wg_586 rfl d k
theorem gf_X9_94 (C : Cx D g RX9 cc nL p s m args c) (hP : HP D q g σ H) (d : decode cc pc = .ok (.getfield 94, 3)) (k : W p l e R s m args below meth c H locs cells slots Q (F0 m (pc + 3) ls (.int (zI (σ 44 7)) :: rest))) : W p l e R s m args below meth c H locs cells slots Q (F0 m pc ls (.ref (q 44) :: rest)) := z_getf C hP (by decide) rfl (ci := 9) (kf := 7) rfl inX9 (by decide) rfl wg_593 rfl d k
theorem pf_X9_94 (C : Cx D g RX9 cc nL p s m args c) (hq : qok q) (hP : HP D q g σ H) (hS : va_S (aQ q) H0 H locs) {x : Int} (d : decode cc pc = .ok (.putfield 94, 3)) (k : ∀ (H1 : Heap) (locs1 : List Loc), HP D q g (um σ 44 7 x) H1 → va_S (aQ q) H0 H1 locs1 → W p l e R s m args below meth c H1 locs1 cells slots Q (F0 m (pc + 3) ls rest)) : W p l e R s m args below meth c H locs cells slots Q (F0 m pc ls (.int (zI x) :: .ref (q 44) :: rest)) := z_putf C hq hP hS (by decide) rfl (ci := 9) (kf := 7) (by rfl) rfl inX9 tyX9_ok nmX9 (by decide) rfl rfl rfl (Nat.le_of_ble_eq_true rfl) wg_593 d k
theorem gf_X9_97 (C : Cx D g RX9 cc nL p s m args c) (hP : HP D q g σ H) (d : decode cc pc = .ok (.getfield 97, 3)) (k : W p l e R s m args below meth c H locs cells slots Q (F0 m (pc + 3) ls (.int (zI (σ 44 8)) :: rest))) : W p l e R s m args below meth c H locs cells slots Q (F0 m pc ls (.ref (q 44) :: rest)) := z_getf C hP (by decide) rfl (ci := 9) (kf := 8) rfl inX9 (by decide) rfl wg_594 rfl d k
theorem pf_X9_97 (C : Cx D g RX9 cc nL p s m args c) (hq : qok q) (hP : HP D q g σ H) (hS : va_S (aQ q) H0 H locs) {x : Int} (d : decode cc pc = .ok (.putfield 97, 3)) (k : ∀ (H1 : Heap) (locs1 : List Loc), HP D q g (um σ 44 8 x) H1 → va_S (aQ q) H0 H1 locs1 → W p l e R s m args below meth c H1 locs1 cells slots Q (F0 m (pc + 3) ls rest)) : W p l e R s m args below meth c H locs cells slots Q (F0 m pc ls (.int (zI x) :: .ref (q 44) :: rest)) := z_putf C hq hP hS (by decide) rfl (ci := 9) (kf := 8) (by rfl) rfl inX9 tyX9_ok nmX9 (by decide) rfl rfl rfl (Nat.le_of_ble_eq_true rfl) wg_594 d k
end ZF
end
section
theorem cw_J6_bitCount_0f7a4 : cwd yJ6_bitCount_0f7a4 1 := by decide +kernel
theorem cw_J6_compare_7cf53 : cwd yJ6_compare_7cf53 2 := by decide +kernel
theorem cw_J9_floorDiv_7cf53 : cwd yJ9_floorDiv_7cf53 2 := by decide +kernel
theorem cw_J9_max_7cf53 : cwd yJ9_max_7cf53 2 := by decide +kernel
theorem cw_J9_min_7cf53 : cwd yJ9_min_7cf53 2 := by decide +kernel
theorem cw_X0_init : cwd yX0_init 0 := by decide +kernel
theorem cw_X0_isSo : cwd yX0_isSo 2 := by decide +kernel
theorem cw_X0_open : cwd yX0_open 1 := by decide +kernel
theorem cw_X0_read : cwd yX0_read 1 := by decide +kernel
theorem cw_X0_take : cwd yX0_take 1 := by decide +kernel
theorem cw_X1_agree : cwd yX1_agree 0 := by decide +kernel
theorem cw_X1_init : cwd yX1_init 0 := by decide +kernel
theorem cw_X2_add : cwd yX2_add 2 := by decide +kernel
theorem cw_X2_catches : cwd yX2_catches 3 := by decide +kernel
theorem cw_X2_init : cwd yX2_init 0 := by decide +kernel
theorem cw_X2_look : cwd yX2_look 1 := by decide +kernel
theorem cw_X2_seenBy : cwd yX2_seenBy 1 := by decide +kernel
theorem cw_X3_add : cwd yX3_add 2 := by decide +kernel
theorem cw_X3_at : cwd yX3_at 1 := by decide +kernel
theorem cw_X3_init : cwd yX3_init 0 := by decide +kernel
theorem cw_X3_placeOf : cwd yX3_placeOf 3 := by decide +kernel
theorem cw_X4_columnsOver : cwd yX4_columnsOver 3 := by decide +kernel
theorem cw_X4_covers : cwd yX4_covers 4 := by decide +kernel
theorem cw_X4_crossing : cwd yX4_crossing 1 := by decide +kernel
theorem cw_X4_firstOver : cwd yX4_firstOver 3 := by decide +kernel
theorem cw_X4_grow : cwd yX4_grow 4 := by decide +kernel
theorem cw_X4_hasTorso : cwd yX4_hasTorso 0 := by decide +kernel
theorem cw_X4_init : cwd yX4_init 0 := by decide +kernel
theorem cw_X4_lastOver : cwd yX4_lastOver 3 := by decide +kernel
theorem cw_X5_add : cwd yX5_add 1 := by decide +kernel
theorem cw_X5_afterDigit : cwd yX5_afterDigit 2 := by decide +kernel
theorem cw_X5_firstFault : cwd yX5_firstFault 0 := by decide +kernel
theorem cw_X5_init : cwd yX5_init 0 := by decide +kernel
theorem cw_X5_isDigit : cwd yX5_isDigit 1 := by decide +kernel
theorem cw_X5_isFactSign : cwd yX5_isFactSign 1 := by decide +kernel
theorem cw_X5_isRelation : cwd yX5_isRelation 1 := by decide +kernel
theorem cw_X5_next : cwd yX5_next 2 := by decide +kernel
theorem cw_X6_end : cwd yX6_end 1 := by decide +kernel
theorem cw_X6_init : cwd yX6_init 0 := by decide +kernel
theorem cw_X6_narrow : cwd yX6_narrow 2 := by decide +kernel
theorem cw_X6_put : cwd yX6_put 2 := by decide +kernel
theorem cw_X7_areMoved : cwd yX7_areMoved 2 := by decide +kernel
theorem cw_X7_countTorsos : cwd yX7_countTorsos 0 := by decide +kernel
theorem cw_X7_early : cwd yX7_early 1 := by decide +kernel
theorem cw_X7_enter : cwd yX7_enter 2 := by decide +kernel
theorem cw_X7_film : cwd yX7_film 3 := by decide +kernel
theorem cw_X7_firstShown : cwd yX7_firstShown 3 := by decide +kernel
theorem cw_X7_hair : cwd yX7_hair 2 := by decide +kernel
theorem cw_X7_has : cwd yX7_has 1 := by decide +kernel
theorem cw_X7_hears : cwd yX7_hears 1 := by decide +kernel
theorem cw_X7_init : cwd yX7_init 0 := by decide +kernel
theorem cw_X7_isHidden : cwd yX7_isHidden 1 := by decide +kernel
theorem cw_X7_joined : cwd yX7_joined 1 := by decide +kernel
theorem cw_X7_leaned : cwd yX7_leaned 1 := by decide +kernel
theorem cw_X7_slitPlace : cwd yX7_slitPlace 1 := by decide +kernel
theorem cw_X8_best : cwd yX8_best 2 := by decide +kernel
theorem cw_X8_canStretch : cwd yX8_canStretch 3 := by decide +kernel
theorem cw_X8_ceilQuotient : cwd yX8_ceilQuotient 2 := by decide +kernel
theorem cw_X8_chosen : cwd yX8_chosen 5 := by decide +kernel
theorem cw_X8_commonDivisor : cwd yX8_commonDivisor 2 := by decide +kernel
theorem cw_X8_fault : cwd yX8_fault 0 := by decide +kernel
theorem cw_X8_floorQuotient : cwd yX8_floorQuotient 2 := by decide +kernel
theorem cw_X8_init : cwd yX8_init 0 := by decide +kernel
theorem cw_X8_isEither : cwd yX8_isEither 1 := by decide +kernel
theorem cw_X8_isFact : cwd yX8_isFact 1 := by decide +kernel
theorem cw_X8_isJudge : cwd yX8_isJudge 1 := by decide +kernel
theorem cw_X8_isRow : cwd yX8_isRow 1 := by decide +kernel
theorem cw_X8_known : cwd yX8_known 3 := by decide +kernel
theorem cw_X8_late : cwd yX8_late 2 := by decide +kernel
theorem cw_X8_mended : cwd yX8_mended 1 := by decide +kernel
theorem cw_X8_moved : cwd yX8_moved 1 := by decide +kernel
theorem cw_X8_of : cwd yX8_of 2 := by decide +kernel
theorem cw_X8_old : cwd yX8_old 1 := by decide +kernel
theorem cw_X8_orNone : cwd yX8_orNone 1 := by decide +kernel
theorem cw_X8_order : cwd yX8_order 1 := by decide +kernel
theorem cw_X8_pairsOf : cwd yX8_pairsOf 1 := by decide +kernel
theorem cw_X8_place : cwd yX8_place 2 := by decide +kernel
theorem cw_X8_power : cwd yX8_power 2 := by decide +kernel
theorem cw_X8_push : cwd yX8_push 2 := by decide +kernel
theorem cw_X8_rank : cwd yX8_rank 1 := by decide +kernel
theorem cw_X8_record : cwd yX8_record 4 := by decide +kernel
theorem cw_X8_rule : cwd yX8_rule 0 := by decide +kernel
theorem cw_X8_runner : cwd yX8_runner 2 := by decide +kernel
theorem cw_X8_say : cwd yX8_say 1 := by decide +kernel
theorem cw_X8_seen : cwd yX8_seen 2 := by decide +kernel
theorem cw_X8_set : cwd yX8_set 2 := by decide +kernel
theorem cw_X8_shape : cwd yX8_shape 5 := by decide +kernel
theorem cw_X8_shows : cwd yX8_shows 3 := by decide +kernel
theorem cw_X8_slit : cwd yX8_slit 2 := by decide +kernel
theorem cw_X8_speeds : cwd yX8_speeds 3 := by decide +kernel
theorem cw_X8_stretch : cwd yX8_stretch 2 := by decide +kernel
theorem cw_X8_tell : cwd yX8_tell 2 := by decide +kernel
theorem cw_X8_time : cwd yX8_time 1 := by decide +kernel
theorem cw_X8_told : cwd yX8_told 1 := by decide +kernel
theorem cw_X8_torsoMark : cwd yX8_torsoMark 1 := by decide +kernel
theorem cw_X8_untold : cwd yX8_untold 2 := by decide +kernel
theorem cw_X8_wipe : cwd yX8_wipe 0 := by decide +kernel
theorem cw_X8_within : cwd yX8_within 3 := by decide +kernel
theorem cw_X8_wrong : cwd yX8_wrong 4 := by decide +kernel
theorem cw_X9_best : cwd yX9_best 2 := by decide +kernel
theorem cw_X9_covers : cwd yX9_covers 4 := by decide +kernel
theorem cw_X9_crossed : cwd yX9_crossed 2 := by decide +kernel
theorem cw_X9_fault : cwd yX9_fault 0 := by decide +kernel
theorem cw_X9_findFirst : cwd yX9_findFirst 0 := by decide +kernel
theorem cw_X9_findOrder : cwd yX9_findOrder 1 := by decide +kernel
theorem cw_X9_findTrue : cwd yX9_findTrue 0 := by decide +kernel
theorem cw_X9_firstOf : cwd yX9_firstOf 3 := by decide +kernel
theorem cw_X9_hasTorso : cwd yX9_hasTorso 1 := by decide +kernel
theorem cw_X9_hearsOf : cwd yX9_hearsOf 1 := by decide +kernel
theorem cw_X9_in : cwd yX9_in 3 := by decide +kernel
theorem cw_X9_init : cwd yX9_init 0 := by decide +kernel
theorem cw_X9_isFact : cwd yX9_isFact 1 := by decide +kernel
theorem cw_X9_isHidden : cwd yX9_isHidden 1 := by decide +kernel
theorem cw_X9_isHow : cwd yX9_isHow 1 := by decide +kernel
theorem cw_X9_isJudge : cwd yX9_isJudge 1 := by decide +kernel
theorem cw_X9_isNumber : cwd yX9_isNumber 1 := by decide +kernel
theorem cw_X9_isRow : cwd yX9_isRow 1 := by decide +kernel
theorem cw_X9_isRunner : cwd yX9_isRunner 1 := by decide +kernel
theorem cw_X9_isTime : cwd yX9_isTime 1 := by decide +kernel
theorem cw_X9_joinedOf : cwd yX9_joinedOf 1 := by decide +kernel
theorem cw_X9_known : cwd yX9_known 3 := by decide +kernel
theorem cw_X9_late : cwd yX9_late 2 := by decide +kernel
theorem cw_X9_mended : cwd yX9_mended 1 := by decide +kernel
theorem cw_X9_moved : cwd yX9_moved 1 := by decide +kernel
theorem cw_X9_numberOf : cwd yX9_numberOf 1 := by decide +kernel
theorem cw_X9_of : cwd yX9_of 2 := by decide +kernel
theorem cw_X9_old : cwd yX9_old 1 := by decide +kernel
theorem cw_X9_ones : cwd yX9_ones 1 := by decide +kernel
theorem cw_X9_order : cwd yX9_order 1 := by decide +kernel
theorem cw_X9_place : cwd yX9_place 2 := by decide +kernel
theorem cw_X9_power : cwd yX9_power 2 := by decide +kernel
theorem cw_X9_push : cwd yX9_push 2 := by decide +kernel
theorem cw_X9_record : cwd yX9_record 4 := by decide +kernel
theorem cw_X9_rule : cwd yX9_rule 0 := by decide +kernel
theorem cw_X9_runner : cwd yX9_runner 2 := by decide +kernel
theorem cw_X9_say : cwd yX9_say 1 := by decide +kernel
theorem cw_X9_seen : cwd yX9_seen 2 := by decide +kernel
theorem cw_X9_seenBy : cwd yX9_seenBy 1 := by decide +kernel
theorem cw_X9_set : cwd yX9_set 2 := by decide +kernel
theorem cw_X9_shape : cwd yX9_shape 5 := by decide +kernel
theorem cw_X9_shapeAt : cwd yX9_shapeAt 3 := by decide +kernel
theorem cw_X9_shown : cwd yX9_shown 3 := by decide +kernel
theorem cw_X9_shows : cwd yX9_shows 3 := by decide +kernel
theorem cw_X9_sign : cwd yX9_sign 1 := by decide +kernel
theorem cw_X9_slit : cwd yX9_slit 2 := by decide +kernel
theorem cw_X9_sooner : cwd yX9_sooner 2 := by decide +kernel
theorem cw_X9_speeds : cwd yX9_speeds 3 := by decide +kernel
theorem cw_X9_stepOf : cwd yX9_stepOf 2 := by decide +kernel
theorem cw_X9_stretch : cwd yX9_stretch 2 := by decide +kernel
theorem cw_X9_tell : cwd yX9_tell 2 := by decide +kernel
theorem cw_X9_time : cwd yX9_time 1 := by decide +kernel
theorem cw_X9_timeOf : cwd yX9_timeOf 2 := by decide +kernel
theorem cw_X9_told : cwd yX9_told 1 := by decide +kernel
theorem cw_X9_untold : cwd yX9_untold 1 := by decide +kernel
theorem cw_X9_wipe : cwd yX9_wipe 0 := by decide +kernel
theorem cw_X9_wrong : cwd yX9_wrong 4 := by decide +kernel
end
section
/-! pure facts -/
def sgn (v : Int) : Int := if v < 0 then -1 else if v = 0 then 0 else 1
theorem mul_rng {a b x y : Int} (ha : -x ≤ a ∧ a ≤ x) (hb : -y ≤ b ∧ b ≤ y) : -(x * y) ≤ a * b ∧ a * b ≤ x * y := by
  have hx : 0 ≤ x := by omega
  have hy : 0 ≤ y := by omega
  have h1 : (a * b).natAbs ≤ (x * y).natAbs := by
    rw [Int.natAbs_mul, Int.natAbs_mul]
    exact Nat.mul_le_mul (by omega) (by omega)
  have h2 : 0 ≤ x * y := Int.mul_nonneg hx hy
  omega
theorem fdiv_t (a : Int) {b : Int} (hb : 1 ≤ b) : (0 ≤ a → a.tdiv b = a / b) ∧ (a < 0 → a.tdiv b * b = a → a.tdiv b = a / b) ∧ (a < 0 → a.tdiv b * b ≠ a → a.tdiv b = a / b + 1) ∧ -(if a < 0 then -a else a) ≤ a.tdiv b ∧ a.tdiv b ≤ (if a < 0 then -a else a) ∧ -(if a < 0 then -a else a) ≤ a.tdiv b * b ∧ a.tdiv b * b ≤ (if a < 0 then -a else a) ∧ (a < 0 → a.tdiv b * b ≤ 0) := by
  have e1 := Int.mul_tdiv_add_tmod a b
  have e2 := Int.mul_ediv_add_emod a b
  have h1 := Int.emod_nonneg a (show b ≠ 0 by omega)
  have h2 := Int.emod_lt_of_pos a (show 0 < b by omega)
  have ec : b * a.tdiv b = a.tdiv b * b := Int.mul_comm _ _
  have ec2 : b * (a / b) = (a / b) * b := Int.mul_comm _ _
  have hnn : ∀ z : Int, 0 ≤ z → 0 ≤ z / b ∧ z / b * b ≤ z ∧ z / b ≤ z ∧ 0 ≤ z / b * b := fun z hz => by
    have := Int.ediv_nonneg hz (show 0 ≤ b by omega)
    have h3 := Int.ediv_mul_le z (show b ≠ 0 by omega)
    refine ⟨this, h3, ?_⟩
    exact ⟨Int.ediv_le_self b hz, Int.mul_nonneg this (by omega)⟩
  by_cases h0 : 0 ≤ a
  · have e3 : a.tdiv b = a / b := Int.tdiv_eq_ediv_of_nonneg h0
    have := hnn a h0
    rw [e3, if_neg (by omega)]
    exact ⟨fun _ => rfl, fun h => by omega, fun h => by omega, by omega, by omega, by omega, by omega, fun h => by omega⟩
  · have e4 : a.tdiv b = -((-a) / b) := by
      have := Int.neg_tdiv (-a) b
      rw [Int.neg_neg] at this
      rw [this, Int.tdiv_eq_ediv_of_nonneg (by omega)]
    have h5 := hnn (-a) (by omega)
    have e5 : (-((-a) / b)) * b = -((-a) / b * b) := Int.neg_mul _ _
    have e6 := Int.mul_ediv_add_emod (-a) b
    have h6 := Int.emod_nonneg (-a) (show b ≠ 0 by omega)
    have h7 := Int.emod_lt_of_pos (-a) (show 0 < b by omega)
    have ec3 : b * ((-a) / b) = (-a) / b * b := Int.mul_comm _ _
    rw [e4, e5, if_pos (by omega)]
    refine ⟨fun h => by omega, fun _ h => ?_, fun _ h => ?_, by omega, by omega, by omega, by omega, fun _ => by omega⟩
    · have : a = -((-a) / b) * b := by rw [e5]; omega
      have e7 : a / b = -((-a) / b) := by
        conv => lhs; rw [this]
        exact Int.mul_ediv_cancel _ (by omega)
      exact e7.symm
    · have e8 : a / b = -((-a) / b) - 1 := by
        have hr : a = b * (-((-a) / b) - 1) + (b - (-a) % b) := by
          have : b * (-((-a) / b) - 1) = -((-a) / b * b) - b := by rw [Int.mul_sub, Int.mul_one, Int.mul_comm b, e5]
          omega
        have h8 : 0 < (-a) % b := by
          rcases Int.lt_or_eq_of_le h6 with q | q
          · exact q
          · exfalso; apply h; omega
        conv => lhs; rw [hr]
        rw [Int.add_comm, Int.add_mul_ediv_left _ _ (by omega), Int.ediv_eq_zero_of_lt (by omega) (by omega)]
        omega
      omega
theorem xor_neg {a b : Int} (ha : zR a) (hb : zR b) (h : 1 ≤ b) : zI a ^^^ zI b < 0 ↔ a < 0 := by
  have e : ∀ x : Int32, x < 0 ↔ x.toBitVec.msb = true := fun x => by
    rw [Int32.lt_iff_toInt_lt]
    show x.toBitVec.toInt < (0 : Int32).toInt ↔ _
    rw [BitVec.msb_eq_toInt]; simp
  have h1 := e (zI a); have h2 := e (zI b)
  rw [zI_0, zI_lt ha zR_0] at h1
  rw [zI_0, zI_lt hb zR_0] at h2
  rw [e, Int32.toBitVec_xor, BitVec.msb_xor, h1]
  have h3 : (zI b).toBitVec.msb = false := by
    cases hh : (zI b).toBitVec.msb
    · rfl
    · exact absurd (h2.mpr hh) (by omega)
  rw [h3]; simp
end
section
/-! what the class's calls answer, over the core rows of the memory -/
def cr (a : Nat) : Bool := decide (a < 44) && !(a == 2) && !(a == 9) && !(a == 10) && !(a == 18) && !(a == 25)
/-- the class's rows that last: all but its scratch -/
def co (σ : Mem) : Mem := fun a => if cr a then σ a else fun _ => 0
theorem co_at {σ : Mem} {a : Nat} (h : cr a = true) : co σ a = σ a := by unfold co; rw [h]; rfl
theorem cr_run {j : Nat} (hj : j < 6) : cr (26 + j) = true ∧ cr (32 + j) = true ∧ cr (38 + j) = true := by
  rcases j with _ | _ | _ | _ | _ | _ | j <;> first | (exact ⟨rfl, rfl, rfl⟩) | omega
theorem co_run {σ : Mem} {j : Nat} (hj : j < 6) : co σ (26 + j) = σ (26 + j) := co_at (cr_run hj).1
theorem co_frm {σ : Mem} {j : Nat} (hj : j < 6) : co σ (32 + j) = σ (32 + j) := co_at (cr_run hj).2.1
theorem co_to {σ : Mem} {j : Nat} (hj : j < 6) : co σ (38 + j) = σ (38 + j) := co_at (cr_run hj).2.2
theorem co_um {σ : Mem} {i j : Nat} {v : Int} (h : cr i = false) : co (um σ i j v) = co σ := by
  funext a
  unfold co
  by_cases hc : cr a = true
  · rw [if_pos hc, if_pos hc, um_ne (fun e => by rw [e, h] at hc; cases hc)]
  · rw [if_neg hc, if_neg hc]
/-- the runners' bounds -/
def TI (σ : Mem) : Prop := (0 ≤ σ 1 2 ∧ σ 1 2 ≤ 6) ∧ ((-3 ≤ σ 8 0 ∧ σ 8 0 ≤ 3) ∧ (0 ≤ σ 8 1 ∧ σ 8 1 ≤ 9) ∧ (0 ≤ σ 8 2 ∧ σ 8 2 ≤ 200) ∧ (0 ≤ σ 8 3 ∧ σ 8 3 ≤ 1)) ∧
  (∀ j, j < 6 → (-3000 ≤ σ (26 + j) 2 ∧ σ (26 + j) 2 ≤ 0) ∧ (1 ≤ σ (26 + j) 3 ∧ σ (26 + j) 3 ≤ 20) ∧ (-6 ≤ σ (26 + j) 4 ∧ σ (26 + j) 4 ≤ 299)) ∧
  (∀ j t, j < 6 → t < 12 → (-9 ≤ σ (32 + j) t ∧ σ (32 + j) t ≤ 9) ∧ (-9 ≤ σ (38 + j) t ∧ σ (38 + j) t ≤ 9))
theorem TI_co {σ τ : Mem} (h : co τ = co σ) (hI : TI σ) : TI τ := by
  have e : ∀ a, cr a = true → τ a = σ a := fun a ha => (co_at ha).symm.trans ((congrFun h a).trans (co_at ha))
  unfold TI
  rw [e 1 rfl, e 8 rfl]
  refine ⟨hI.1, hI.2.1, fun j hj => ?_, fun j t hj ht => ?_⟩
  · rw [e _ (cr_run hj).1]; exact hI.2.2.1 j hj
  · rw [e _ (cr_run hj).2.1, e _ (cr_run hj).2.2]; exact hI.2.2.2 j t hj ht
theorem co_co (σ : Mem) : co (co σ) = co σ := by
  funext a; unfold co; split <;> rfl
theorem TI_cc {σ : Mem} (h : TI σ) : TI (co σ) := TI_co (co_co σ) h
def kCov (T : Mem) (j : Nat) (what row col place : Int) : Bool := decide (T (32 + j) (what * 6 + row).toNat ≤ place - (T (26 + j) 2 + T (26 + j) 3 * col) ∧ place - (T (26 + j) 2 + T (26 + j) 3 * col) ≤ T (38 + j) (what * 6 + row).toNat)
def kHasF (T : Mem) (j : Nat) : Nat → Bool
  | 0 => false
  | r + 1 => kHasF T j r || decide (T (32 + j) r ≤ T (38 + j) r)
def kHas (T : Mem) (j : Nat) : Bool := kHasF T j 6
def kFO (T : Mem) (j : Nat) (what row place : Int) : Int := max 0 (-((-(place - T (38 + j) (what * 6 + row).toNat - T (26 + j) 2)) / T (26 + j) 3))
def kLO (T : Mem) (j : Nat) (what row place : Int) : Int := min 299 ((place - T (32 + j) (what * 6 + row).toNat - T (26 + j) 2) / T (26 + j) 3)
def kCrF (T : Mem) (j : Nat) (lean : Int) : Nat → Int
  | 0 => 10000000
  | r + 1 => if T (32 + j) r ≤ T (38 + j) r then min (kCrF T j lean r) (kFO T j 0 r (lean * r)) else kCrF T j lean r
def kCr (T : Mem) (j : Nat) (lean : Int) : Int := kCrF T j lean 6
def kLane (T : Mem) (side k : Int) : Int := if side = 0 then k else T 1 2 - 1 - k
def kScan (T : Mem) (side col row place : Int) : Nat → Int → Int
  | 0, _ => 0
  | f + 1, k => if kCov T (kLane T side k).toNat 0 row col place = true then 10 * kLane T side k + 1 else if kCov T (kLane T side k).toNat 1 row col place = true then 10 * kLane T side k + 1 + 1 else kScan T side col row place f (k + 1)
def kFilm (T : Mem) (side col row : Int) : Int := kScan T side col row (T 8 0 * row) (T 1 2).toNat 0
def kFSF (T : Mem) (side lane row : Int) : Nat → Int → Int
  | 0, _ => 10000000
  | f + 1, c => if kFilm T side c row = 10 * lane + 1 then c else kFSF T side lane row f (c + 1)
def kFS (T : Mem) (side lane row : Int) : Int := kFSF T side lane row (kLO T lane.toNat 0 row (T 8 0 * row) + 1 - kFO T lane.toNat 0 row (T 8 0 * row)).toNat (kFO T lane.toNat 0 row (T 8 0 * row))
def kHrF (T : Mem) (side lane : Int) : Nat → Int
  | 0 => 10000000
  | r + 1 => min (kHrF T side lane r) (kFS T side lane r)
def kHr (T : Mem) (side lane : Int) : Int := kHrF T side lane 6
def kJn (T : Mem) (lane : Int) : Int := min (kHr T 0 lane) (kHr T 1 lane)
def kLn (T : Mem) (lane : Int) : Int := kCr T lane.toNat (T 8 0)
def kHid (T : Mem) (lane : Int) : Bool := kHas T lane.toNat && decide (kLn T lane < kJn T lane)
def kHe (T : Mem) (lane : Int) : Int := 3 * (if T 8 3 = 1 then min lane (T 1 2 - 1 - lane) else lane)
def kEa (T : Mem) (lane : Int) : Int := if T (26 + lane.toNat) 4 = -6 then -6 else if T (26 + lane.toNat) 4 < kHe T lane + T 8 2 then 1 else 0
def kMv (T : Mem) (a b : Int) : Bool := kHas T a.toNat && kHas T b.toNat && decide (sgn (kCr T a.toNat 0 - kCr T b.toNat 0) ≠ sgn (kLn T a - kLn T b))
def kCTF (T : Mem) : Nat → Int
  | 0 => 0
  | r + 1 => if kHas T r = true then kCTF T r + 1 else kCTF T r
def kCT (T : Mem) : Int := kCTF T (T 1 2).toNat
/-! bounds of these -/
theorem mul_b {v c : Int} (hv : 1 ≤ v ∧ v ≤ 20) (hc : -1000 ≤ c ∧ c ≤ 1000) : -20000 ≤ v * c ∧ v * c ≤ 20000 := by
  have := mul_rng (a := v) (b := c) (x := 20) (y := 1000) (by omega) (by omega); omega
theorem mul_l {a b : Int} (ha : -3 ≤ a ∧ a ≤ 3) (hb : 0 ≤ b ∧ b ≤ 5) : -15 ≤ a * b ∧ a * b ≤ 15 := by
  have := mul_rng (a := a) (b := b) (x := 3) (y := 5) (by omega) (by omega); omega
theorem div_b {a v : Int} (hv : 1 ≤ v) (ha : -100000 ≤ a ∧ a ≤ 100000) : -100000 ≤ a / v ∧ a / v ≤ 100000 := by
  have h1 := Int.ediv_mul_le a (show v ≠ 0 by omega)
  have h2 := Int.lt_ediv_add_one_mul_self a (show 0 < v by omega)
  constructor
  · rcases Int.lt_or_le (a / v) (-100000) with q | q
    · exfalso
      have : (a / v + 1) * v ≤ (-100000) * v := Int.mul_le_mul_of_nonneg_right (by omega) (by omega)
      have : (-100000) * v ≤ -100000 := by omega
      omega
    · exact q
  · rcases Int.lt_or_le 100000 (a / v) with q | q
    · exfalso
      have : 100001 * v ≤ (a / v) * v := Int.mul_le_mul_of_nonneg_right (by omega) (by omega)
      omega
    · exact q
theorem kFO_b {T : Mem} (hI : TI T) {j : Nat} (hj : j < 6) {what row place : Int} (hw : 0 ≤ what * 6 + row ∧ what * 6 + row < 12) (hp : -50 ≤ place ∧ place ≤ 50) : 0 ≤ kFO T j what row place ∧ kFO T j what row place ≤ 100000 := by
  have h1 := hI.2.2.1 j hj
  have h2 := hI.2.2.2 j (what * 6 + row).toNat hj (by omega)
  have h3 := div_b (a := -(place - T (38 + j) (what * 6 + row).toNat - T (26 + j) 2)) (v := T (26 + j) 3) (by omega) (by omega)
  unfold kFO; omega
theorem kLO_b {T : Mem} (hI : TI T) {j : Nat} (hj : j < 6) {what row place : Int} (hw : 0 ≤ what * 6 + row ∧ what * 6 + row < 12) (hp : -50 ≤ place ∧ place ≤ 50) : -100000 ≤ kLO T j what row place ∧ kLO T j what row place ≤ 299 := by
  have h1 := hI.2.2.1 j hj
  have h2 := hI.2.2.2 j (what * 6 + row).toNat hj (by omega)
  have h3 := div_b (a := place - T (32 + j) (what * 6 + row).toNat - T (26 + j) 2) (v := T (26 + j) 3) (by omega) (by omega)
  unfold kLO; omega
theorem kCrF_b {T : Mem} (hI : TI T) {j : Nat} (hj : j < 6) {lean : Int} (hl : -3 ≤ lean ∧ lean ≤ 3) : ∀ r, r ≤ 6 → 0 ≤ kCrF T j lean r ∧ kCrF T j lean r ≤ 10000000
  | 0, _ => by unfold kCrF; omega
  | r + 1, h => by
    have ih := kCrF_b hI hj hl r (by omega)
    have hm := mul_l hl (b := (r : Int)) (by omega)
    have hf := kFO_b hI hj (what := 0) (row := r) (place := lean * r) (by omega) (by omega)
    unfold kCrF; split <;> omega
theorem kCr_b {T : Mem} (hI : TI T) {j : Nat} (hj : j < 6) {lean : Int} (hl : -3 ≤ lean ∧ lean ≤ 3) : 0 ≤ kCr T j lean ∧ kCr T j lean ≤ 10000000 := kCrF_b hI hj hl 6 (Nat.le_refl 6)
theorem kScan_b {T : Mem} {side col row place : Int} (h1 : 0 ≤ T 1 2 ∧ T 1 2 ≤ 6) : ∀ (f : Nat) (k : Int), 0 ≤ k → k + f ≤ T 1 2 → 0 ≤ kScan T side col row place f k ∧ kScan T side col row place f k ≤ 52
  | 0, _, _, _ => by unfold kScan; omega
  | f + 1, k, hk, hf => by
    have ih := kScan_b (side := side) (col := col) (row := row) (place := place) h1 f (k + 1) (by omega) (by omega)
    have hl : 0 ≤ kLane T side k ∧ kLane T side k ≤ 5 := by unfold kLane; split <;> omega
    unfold kScan; split
    · omega
    · split <;> omega
theorem kFilm_b {T : Mem} (hI : TI T) (side col row : Int) : 0 ≤ kFilm T side col row ∧ kFilm T side col row ≤ 52 := kScan_b hI.1 _ _ (by omega) (by have := hI.1; omega)
theorem kFSF_b {T : Mem} {side lane row : Int} : ∀ (f : Nat) (c : Int), 0 ≤ c → (c + f ≤ 10000000) → 0 ≤ kFSF T side lane row f c ∧ kFSF T side lane row f c ≤ 10000000
  | 0, _, _, _ => by unfold kFSF; omega
  | f + 1, c, h1, h2 => by
    have ih := kFSF_b (T := T) (side := side) (lane := lane) (row := row) f (c + 1) (by omega) (by omega)
    unfold kFSF; split <;> omega
theorem kFS_b {T : Mem} (hI : TI T) {side lane row : Int} (hl : 0 ≤ lane ∧ lane ≤ 5) (hr : 0 ≤ row ∧ row ≤ 5) : 0 ≤ kFS T side lane row ∧ kFS T side lane row ≤ 10000000 := by
  have hm := mul_l hI.2.1.1 hr
  have h1 := kFO_b hI (j := lane.toNat) (by omega) (what := 0) (row := row) (place := T 8 0 * row) (by omega) (by omega)
  have h2 := kLO_b hI (j := lane.toNat) (by omega) (what := 0) (row := row) (place := T 8 0 * row) (by omega) (by omega)
  exact kFSF_b _ _ h1.1 (by omega)
theorem kHrF_b {T : Mem} (hI : TI T) {side lane : Int} (hl : 0 ≤ lane ∧ lane ≤ 5) : ∀ r, r ≤ 6 → 0 ≤ kHrF T side lane r ∧ kHrF T side lane r ≤ 10000000
  | 0, _ => by unfold kHrF; omega
  | r + 1, h => by
    have ih := kHrF_b hI hl (side := side) r (by omega)
    have := kFS_b hI (side := side) hl (row := (r : Int)) (by omega)
    unfold kHrF; omega
theorem kHr_b {T : Mem} (hI : TI T) {side lane : Int} (hl : 0 ≤ lane ∧ lane ≤ 5) : 0 ≤ kHr T side lane ∧ kHr T side lane ≤ 10000000 := kHrF_b hI hl 6 (Nat.le_refl 6)
theorem kJn_b {T : Mem} (hI : TI T) {lane : Int} (hl : 0 ≤ lane ∧ lane ≤ 5) : 0 ≤ kJn T lane ∧ kJn T lane ≤ 10000000 := by
  have h1 := kHr_b hI hl (side := 0); have h2 := kHr_b hI hl (side := 1); unfold kJn; omega
theorem kLn_b {T : Mem} (hI : TI T) {lane : Int} (hl : 0 ≤ lane ∧ lane ≤ 5) : 0 ≤ kLn T lane ∧ kLn T lane ≤ 10000000 := kCr_b hI (by omega) hI.2.1.1
theorem kHe_b {T : Mem} (hI : TI T) {lane : Int} (hl : 0 ≤ lane ∧ lane < T 1 2) : 0 ≤ kHe T lane ∧ kHe T lane ≤ 15 := by
  have := hI.1; unfold kHe; split <;> omega
theorem kCTF_b {T : Mem} : ∀ r : Nat, 0 ≤ kCTF T r ∧ kCTF T r ≤ r
  | 0 => by unfold kCTF; omega
  | r + 1 => by have := kCTF_b (T := T) r; unfold kCTF; split <;> omega
theorem kHasF_t {T : Mem} {j r : Nat} : ∀ n, r < n → T (32 + j) r ≤ T (38 + j) r → kHasF T j n = true
  | 0, h, _ => by omega
  | n + 1, h, h2 => by
    unfold kHasF
    by_cases e : r = n
    · subst e; simp [h2]
    · rw [kHasF_t n (by omega) h2]; rfl
theorem kHas_t {T : Mem} {j r : Nat} (h : r < 6) (h2 : T (32 + j) r ≤ T (38 + j) r) : kHas T j = true := kHasF_t 6 h h2
theorem sgn_b (v : Int) : -1 ≤ sgn v ∧ sgn v ≤ 1 := by unfold sgn; split <;> (try split) <;> omega
end
section
set_option maxHeartbeats 4000000 in
set_option maxRecDepth 100000 in
theorem c_J9_floorDiv_7cf53 {l : Launch} {D : va_G} {q : Nat → Nat} {g : Nat → ClassId} {σ : Mem} (a b : Int) (hr_a : zR a) (hr_b : zR b) (hb1 : 1 ≤ b) : RO l yJ9_floorDiv_7cf53 cJ9_floorDiv_7cf53 3 (some .int) 0 0 D q g σ [.int (zI a), .int (zI b)] (some (.int (zI (a / b)))) := by
  refine RO.intro (by decide +kernel) (Nat.le_of_ble_eq_true rfl) (fun p e s m args below meth c ls B hP hl => ?_)
  have C := B.1
  have hl : lv_has ls 3 [(0, .int (zI a)), (1, .int (zI b))] := hl
  have hfd := fdiv_t a hb1
  refine z_iln C hl 0 rfl dJ9_floorDiv_7cf53_0 ?_
  refine z_iln C hl 1 rfl dJ9_floorDiv_7cf53_1 ?_
  refine z_idiv C (by omega) (by omega) (by omega) dJ9_floorDiv_7cf53_2 ?_
  refine z_isn C hl [(2, .int (zI (a.tdiv b))), (0, .int (zI a)), (1, .int (zI b))] (by decide) rfl dJ9_floorDiv_7cf53_3 (fun ls hl => ?_)
  refine z_iln C hl 1 rfl dJ9_floorDiv_7cf53_4 ?_
  refine z_iln C hl 2 rfl dJ9_floorDiv_7cf53_5 ?_
  refine z_ixor_ge C 21 (by decide) (xor_neg hr_a hr_b hb1) dJ9_floorDiv_7cf53_6 dJ9_floorDiv_7cf53_7 (fun w1 => ?_) (fun w1 => ?_)
  · skip
    refine z_iln C hl 0 rfl dJ9_floorDiv_7cf53_21 ?_
    exact z_iret B (by first | rfl | omega) dJ9_floorDiv_7cf53_22
  · skip
    refine z_iln C hl 0 rfl dJ9_floorDiv_7cf53_10 ?_
    refine z_iln C hl 2 rfl dJ9_floorDiv_7cf53_11 ?_
    refine z_imul C dJ9_floorDiv_7cf53_12 ?_
    refine z_iln C hl 1 rfl dJ9_floorDiv_7cf53_13 ?_
    refine z_icmp_eq C 21 (by decide) (by omega) (by omega) dJ9_floorDiv_7cf53_14 (fun w2 => ?_) (fun w2 => ?_)
    · skip
      refine z_iln C hl 0 rfl dJ9_floorDiv_7cf53_21 ?_
      exact z_iret B (by first | rfl | omega) dJ9_floorDiv_7cf53_22
    · skip
      refine z_iln C hl 0 rfl dJ9_floorDiv_7cf53_17 ?_
      refine z_ic C dJ9_floorDiv_7cf53_18 ?_
      refine z_isub C dJ9_floorDiv_7cf53_19 ?_
      exact z_iret B (by first | rfl | omega) dJ9_floorDiv_7cf53_20

set_option maxHeartbeats 4000000 in
set_option maxRecDepth 100000 in
theorem c_J9_max_7cf53 {l : Launch} {D : va_G} {q : Nat → Nat} {g : Nat → ClassId} {σ : Mem} (a b : Int) (hr_a : zR a) (hr_b : zR b) : RO l yJ9_max_7cf53 cJ9_max_7cf53 2 (some .int) 0 0 D q g σ [.int (zI a), .int (zI b)] (some (.int (zI (max a b)))) := by
  refine RO.intro (by decide +kernel) (Nat.le_of_ble_eq_true rfl) (fun p e s m args below meth c ls B hP hl => ?_)
  have C := B.1
  have hl : lv_has ls 2 [(0, .int (zI a)), (1, .int (zI b))] := hl
  refine z_iln C hl 0 rfl dJ9_max_7cf53_0 ?_
  refine z_iln C hl 1 rfl dJ9_max_7cf53_1 ?_
  refine z_icmp_lt C 9 (by decide) (by omega) (by omega) dJ9_max_7cf53_2 (fun w1 => ?_) (fun w1 => ?_)
  · skip
    refine z_iln C hl 1 rfl dJ9_max_7cf53_9 ?_
    exact z_iret B (by first | rfl | omega) dJ9_max_7cf53_10
  · skip
    refine z_iln C hl 0 rfl dJ9_max_7cf53_5 ?_
    refine z_goto C 10 (by decide) dJ9_max_7cf53_6 ?_
    exact z_iret B (by first | rfl | omega) dJ9_max_7cf53_10

set_option maxHeartbeats 4000000 in
set_option maxRecDepth 100000 in
theorem c_J9_min_7cf53 {l : Launch} {D : va_G} {q : Nat → Nat} {g : Nat → ClassId} {σ : Mem} (a b : Int) (hr_a : zR a) (hr_b : zR b) : RO l yJ9_min_7cf53 cJ9_min_7cf53 2 (some .int) 0 0 D q g σ [.int (zI a), .int (zI b)] (some (.int (zI (min a b)))) := by
  refine RO.intro (by decide +kernel) (Nat.le_of_ble_eq_true rfl) (fun p e s m args below meth c ls B hP hl => ?_)
  have C := B.1
  have hl : lv_has ls 2 [(0, .int (zI a)), (1, .int (zI b))] := hl
  refine z_iln C hl 0 rfl dJ9_min_7cf53_0 ?_
  refine z_iln C hl 1 rfl dJ9_min_7cf53_1 ?_
  refine z_icmp_gt C 9 (by decide) (by omega) (by omega) dJ9_min_7cf53_2 (fun w1 => ?_) (fun w1 => ?_)
  · skip
    refine z_iln C hl 1 rfl dJ9_min_7cf53_9 ?_
    exact z_iret B (by first | rfl | omega) dJ9_min_7cf53_10
  · skip
    refine z_iln C hl 0 rfl dJ9_min_7cf53_5 ?_
    refine z_goto C 10 (by decide) dJ9_min_7cf53_6 ?_
    exact z_iret B (by first | rfl | omega) dJ9_min_7cf53_10

set_option maxHeartbeats 4000000 in
set_option maxRecDepth 100000 in
theorem c_J6_compare_7cf53 {l : Launch} {D : va_G} {q : Nat → Nat} {g : Nat → ClassId} {σ : Mem} (a b : Int) (hr_a : zR a) (hr_b : zR b) : RO l yJ6_compare_7cf53 cJ6_compare_7cf53 2 (some .int) 0 0 D q g σ [.int (zI a), .int (zI b)] (some (.int (zI (sgn (a - b))))) := by
  refine RO.intro (plainFor_of_name (by decide)) (Nat.le_of_ble_eq_true rfl) (fun p e s m args below meth c ls B hP hl => ?_)
  have C := B.1
  have hl : lv_has ls 2 [(0, .int (zI a)), (1, .int (zI b))] := hl
  refine z_iln C hl 0 rfl dJ6_compare_7cf53_0 ?_
  refine z_iln C hl 1 rfl dJ6_compare_7cf53_1 ?_
  refine z_icmp_ge C 9 (by decide) (by omega) (by omega) dJ6_compare_7cf53_2 (fun w1 => ?_) (fun w1 => ?_)
  · skip
    refine z_iln C hl 0 rfl dJ6_compare_7cf53_9 ?_
    refine z_iln C hl 1 rfl dJ6_compare_7cf53_10 ?_
    refine z_icmp_ne C 18 (by decide) (by omega) (by omega) dJ6_compare_7cf53_11 (fun w2 => ?_) (fun w2 => ?_)
    · skip
      refine z_ic C dJ6_compare_7cf53_18 ?_
      exact z_iret B (by unfold sgn; split <;> (try split) <;> omega) dJ6_compare_7cf53_19
    · skip
      refine z_ic C dJ6_compare_7cf53_14 ?_
      refine z_goto C 19 (by decide) dJ6_compare_7cf53_15 ?_
      exact z_iret B (by unfold sgn; split <;> (try split) <;> omega) dJ6_compare_7cf53_19
  · skip
    refine z_ic C dJ6_compare_7cf53_5 ?_
    refine z_goto C 19 (by decide) dJ6_compare_7cf53_6 ?_
    exact z_iret B (by unfold sgn; split <;> (try split) <;> omega) dJ6_compare_7cf53_19

set_option maxHeartbeats 4000000 in
set_option maxRecDepth 100000 in
theorem c_X8_within {l : Launch} {D : va_G} {q : Nat → Nat} {g : Nat → ClassId} {σ : Mem} (v lo hi : Int) (hr_v : zR v) (hr_lo : zR lo) (hr_hi : zR hi) : RO l yX8_within cX8_within 3 (some .boolean) 0 0 D q g σ [.int (zI v), .int (zI lo), .int (zI hi)] (some (.int (zI (bz (lo ≤ v ∧ v ≤ hi))))) := by
  refine RO.intro (plainFor_of_name (by decide)) (Nat.le_of_ble_eq_true rfl) (fun p e s m args below meth c ls B hP hl => ?_)
  have C := B.1
  have hl : lv_has ls 3 [(0, .int (zI v)), (1, .int (zI lo)), (2, .int (zI hi))] := hl
  refine z_iln C hl 1 rfl dX8_within_0 ?_
  refine z_iln C hl 0 rfl dX8_within_1 ?_
  refine z_icmp_gt C 14 (by decide) (by omega) (by omega) dX8_within_2 (fun w1 => ?_) (fun w1 => ?_)
  · skip
    refine z_ic C dX8_within_14 ?_
    exact z_bret0 B (by omega) dX8_within_15
  · skip
    refine z_iln C hl 0 rfl dX8_within_5 ?_
    refine z_iln C hl 2 rfl dX8_within_6 ?_
    refine z_icmp_gt C 14 (by decide) (by omega) (by omega) dX8_within_7 (fun w2 => ?_) (fun w2 => ?_)
    · skip
      refine z_ic C dX8_within_14 ?_
      exact z_bret0 B (by omega) dX8_within_15
    · skip
      refine z_ic C dX8_within_10 ?_
      refine z_goto C 15 (by decide) dX8_within_11 ?_
      exact z_bret1 B (by omega) dX8_within_15

set_option maxHeartbeats 4000000 in
set_option maxRecDepth 100000 in
theorem c_X8_isEither {l : Launch} {D : va_G} {q : Nat → Nat} {g : Nat → ClassId} {σ : Mem} (v : Int) (hr_v : zR v) : RO l yX8_isEither cX8_isEither 1 (some .boolean) 0 0 D q g σ [.int (zI v)] (some (.int (zI (bz (v = 0 ∨ v = 1))))) := by
  refine RO.intro (plainFor_of_name (by decide)) (Nat.le_of_ble_eq_true rfl) (fun p e s m args below meth c ls B hP hl => ?_)
  have C := B.1
  have hl : lv_has ls 1 [(0, .int (zI v))] := hl
  refine z_iln C hl 0 rfl dX8_isEither_0 ?_
  refine z_if_eq C 9 (by decide) (by omega) dX8_isEither_1 (fun w1 => ?_) (fun w1 => ?_)
  · skip
    refine z_ic C dX8_isEither_9 ?_
    refine z_goto C 14 (by decide) dX8_isEither_10 ?_
    exact z_bret1 B (by omega) dX8_isEither_14
  · skip
    refine z_iln C hl 0 rfl dX8_isEither_4 ?_
    refine z_ic C dX8_isEither_5 ?_
    refine z_icmp_ne C 13 (by decide) (by omega) (by omega) dX8_isEither_6 (fun w2 => ?_) (fun w2 => ?_)
    · skip
      refine z_ic C dX8_isEither_13 ?_
      exact z_bret0 B (by omega) dX8_isEither_14
    · skip
      refine z_ic C dX8_isEither_9 ?_
      refine z_goto C 14 (by decide) dX8_isEither_10 ?_
      exact z_bret1 B (by omega) dX8_isEither_14

set_option maxHeartbeats 4000000 in
set_option maxRecDepth 100000 in
theorem c_X8_isRow {l : Launch} {D : va_G} {q : Nat → Nat} {g : Nat → ClassId} {σ : Mem} (v : Int) (hr_v : zR v) : RO l yX8_isRow cX8_isRow 1 (some .boolean) 1 22 D q g σ [.int (zI v)] (some (.int (zI (bz (0 ≤ v ∧ v ≤ 5))))) := by
  refine RO.intro (plainFor_of_name (by decide)) (Nat.le_of_ble_eq_true rfl) (fun p e s m args below meth c ls B hP hl => ?_)
  have C := B.1
  have hl : lv_has ls 1 [(0, .int (zI v))] := hl
  refine z_iln C hl 0 rfl dX8_isRow_0 ?_
  refine z_ic C dX8_isRow_1 ?_
  refine z_ic C dX8_isRow_2 ?_
  refine z_sRO C hP hl (c_X8_within (σ := σ) v 0 5 (by omega) (by omega) (by omega))  wg_212 wg_1 wg_210 wg_211 cw_X8_within ⟨Nat.le_of_ble_eq_true rfl, Nat.le_of_ble_eq_true rfl⟩ rfl rfl (Nat.le_of_ble_eq_true rfl) dX8_isRow_3 ?_
  exact z_bret B (by constructor <;> intros <;> omega) dX8_isRow_6

set_option maxHeartbeats 4000000 in
set_option maxRecDepth 100000 in
theorem c_X8_isJudge {l : Launch} {D : va_G} {q : Nat → Nat} {g : Nat → ClassId} {σ : Mem} (v : Int) (hr_v : zR v) : RO l yX8_isJudge cX8_isJudge 1 (some .boolean) 1 22 D q g σ [.int (zI v)] (some (.int (zI (bz (0 ≤ v ∧ v ≤ 3))))) := by
  refine RO.intro (plainFor_of_name (by decide)) (Nat.le_of_ble_eq_true rfl) (fun p e s m args below meth c ls B hP hl => ?_)
  have C := B.1
  have hl : lv_has ls 1 [(0, .int (zI v))] := hl
  refine z_iln C hl 0 rfl dX8_isJudge_0 ?_
  refine z_ic C dX8_isJudge_1 ?_
  refine z_ic C dX8_isJudge_2 ?_
  refine z_sRO C hP hl (c_X8_within (σ := σ) v 0 3 (by omega) (by omega) (by omega))  wg_212 wg_1 wg_210 wg_211 cw_X8_within ⟨Nat.le_of_ble_eq_true rfl, Nat.le_of_ble_eq_true rfl⟩ rfl rfl (Nat.le_of_ble_eq_true rfl) dX8_isJudge_3 ?_
  exact z_bret B (by constructor <;> intros <;> omega) dX8_isJudge_6

set_option maxHeartbeats 4000000 in
set_option maxRecDepth 100000 in
theorem c_X8_isFact {l : Launch} {D : va_G} {q : Nat → Nat} {g : Nat → ClassId} {σ : Mem} (v : Int) (hr_v : zR v) : RO l yX8_isFact cX8_isFact 1 (some .boolean) 1 22 D q g σ [.int (zI v)] (some (.int (zI (bz (-9999 ≤ v ∧ v ≤ 9999))))) := by
  refine RO.intro (plainFor_of_name (by decide)) (Nat.le_of_ble_eq_true rfl) (fun p e s m args below meth c ls B hP hl => ?_)
  have C := B.1
  have hl : lv_has ls 1 [(0, .int (zI v))] := hl
  refine z_iln C hl 0 rfl dX8_isFact_0 ?_
  refine z_sp C dX8_isFact_1 rfl ?_
  refine z_sp C dX8_isFact_4 rfl ?_
  refine z_sRO C hP hl (c_X8_within (σ := σ) v (-9999) 9999 (by omega) (by omega) (by omega))  wg_212 wg_1 wg_210 wg_211 cw_X8_within ⟨Nat.le_of_ble_eq_true rfl, Nat.le_of_ble_eq_true rfl⟩ rfl rfl (Nat.le_of_ble_eq_true rfl) dX8_isFact_7 ?_
  exact z_bret B (by constructor <;> intros <;> omega) dX8_isFact_10

set_option maxHeartbeats 4000000 in
set_option maxRecDepth 100000 in
theorem c_X8_orNone {l : Launch} {D : va_G} {q : Nat → Nat} {g : Nat → ClassId} {σ : Mem} (v : Int) (hr_v : zR v) : RO l yX8_orNone cX8_orNone 1 (some .int) 0 0 D q g σ [.int (zI v)] (some (.int (zI (if v ≥ 10000000 then -6 else v)))) := by
  refine RO.intro (plainFor_of_name (by decide)) (Nat.le_of_ble_eq_true rfl) (fun p e s m args below meth c ls B hP hl => ?_)
  have C := B.1
  have hl : lv_has ls 1 [(0, .int (zI v))] := hl
  refine z_iln C hl 0 rfl dX8_orNone_0 ?_
  refine z_ldc C (n := 10000000) wg_304 (by decide) dX8_orNone_1 ?_
  refine z_icmp_lt C 11 (by decide) (by omega) (by omega) dX8_orNone_3 (fun w1 => ?_) (fun w1 => ?_)
  · skip
    refine z_iln C hl 0 rfl dX8_orNone_11 ?_
    exact z_iret B (by split <;> omega) dX8_orNone_12
  · skip
    refine z_bp C dX8_orNone_6 rfl ?_
    refine z_goto C 12 (by decide) dX8_orNone_8 ?_
    exact z_iret B (by split <;> omega) dX8_orNone_12

set_option maxHeartbeats 4000000 in
set_option maxRecDepth 100000 in
theorem c_X8_torsoMark {l : Launch} {D : va_G} {q : Nat → Nat} {g : Nat → ClassId} {σ : Mem} (v : Int)  : RO l yX8_torsoMark cX8_torsoMark 1 (some .int) 0 0 D q g σ [.int (zI v)] (some (.int (zI (10 * v + 1)))) := by
  refine RO.intro (plainFor_of_name (by decide)) (Nat.le_of_ble_eq_true rfl) (fun p e s m args below meth c ls B hP hl => ?_)
  have C := B.1
  have hl : lv_has ls 1 [(0, .int (zI v))] := hl
  refine z_bp C dX8_torsoMark_0 rfl ?_
  refine z_iln C hl 0 rfl dX8_torsoMark_2 ?_
  refine z_imul C dX8_torsoMark_3 ?_
  refine z_ic C dX8_torsoMark_4 ?_
  refine z_iadd C dX8_torsoMark_5 ?_
  exact z_iret B (by first | rfl | omega) dX8_torsoMark_6

set_option maxHeartbeats 4000000 in
set_option maxRecDepth 100000 in
theorem c_X8_pairsOf {l : Launch} {D : va_G} {q : Nat → Nat} {g : Nat → ClassId} {σ : Mem} (v : Int) (hp : 0 ≤ v ∧ v ≤ 32) : RO l yX8_pairsOf cX8_pairsOf 1 (some .int) 0 0 D q g σ [.int (zI v)] (some (.int (zI ((v * (v - 1)).tdiv 2)))) := by
  refine RO.intro (plainFor_of_name (by decide)) (Nat.le_of_ble_eq_true rfl) (fun p e s m args below meth c ls B hP hl => ?_)
  have C := B.1
  have hl : lv_has ls 1 [(0, .int (zI v))] := hl
  have hpp := mul_rng (a := v) (b := v - 1) (x := 32) (y := 32) (by omega) (by omega)
  refine z_iln C hl 0 rfl dX8_pairsOf_0 ?_
  refine z_iln C hl 0 rfl dX8_pairsOf_1 ?_
  refine z_ic C dX8_pairsOf_2 ?_
  refine z_isub C dX8_pairsOf_3 ?_
  refine z_imul C dX8_pairsOf_4 ?_
  refine z_ic C dX8_pairsOf_5 ?_
  refine z_idiv C (by omega) (by omega) (by omega) dX8_pairsOf_6 ?_
  exact z_iret B (by first | rfl | omega) dX8_pairsOf_7

set_option maxHeartbeats 4000000 in
set_option maxRecDepth 100000 in
theorem c_X8_floorQuotient {l : Launch} {D : va_G} {q : Nat → Nat} {g : Nat → ClassId} {σ : Mem} (u d : Int) (hr_u : zR u) (hr_d : zR d) (hd1 : 1 ≤ d) : RO l yX8_floorQuotient cX8_floorQuotient 2 (some .int) 1 22 D q g σ [.int (zI u), .int (zI d)] (some (.int (zI (u / d)))) := by
  refine RO.intro (plainFor_of_name (by decide)) (Nat.le_of_ble_eq_true rfl) (fun p e s m args below meth c ls B hP hl => ?_)
  have C := B.1
  have hl : lv_has ls 2 [(0, .int (zI u)), (1, .int (zI d))] := hl
  refine z_iln C hl 1 rfl dX8_floorQuotient_0 ?_
  refine z_ic C dX8_floorQuotient_1 ?_
  refine z_icmp_ge C 9 (by decide) (by omega) (by omega) dX8_floorQuotient_2 (fun w1 => ?_) (fun w1 => False.elim (by omega))
  refine z_iln C hl 0 rfl dX8_floorQuotient_9 ?_
  refine z_iln C hl 1 rfl dX8_floorQuotient_10 ?_
  refine z_sRO C hP hl (c_J9_floorDiv_7cf53 (σ := σ) u d (by omega) (by omega) (by omega))  wg_285 wg_11 wg_283 wg_284 cw_J9_floorDiv_7cf53 ⟨Nat.le_of_ble_eq_true rfl, Nat.le_of_ble_eq_true rfl⟩ rfl rfl (Nat.le_of_ble_eq_true rfl) dX8_floorQuotient_11 ?_
  exact z_iret B (by first | rfl | omega) dX8_floorQuotient_14

set_option maxHeartbeats 4000000 in
set_option maxRecDepth 100000 in
theorem c_X8_ceilQuotient {l : Launch} {D : va_G} {q : Nat → Nat} {g : Nat → ClassId} {σ : Mem} (u d : Int) (hr_u : zR u) (hr_d : zR d) (hd1 : 1 ≤ d) (hum : -2147483648 < u) : RO l yX8_ceilQuotient cX8_ceilQuotient 2 (some .int) 1 22 D q g σ [.int (zI u), .int (zI d)] (some (.int (zI (-((-u) / d))))) := by
  refine RO.intro (plainFor_of_name (by decide)) (Nat.le_of_ble_eq_true rfl) (fun p e s m args below meth c ls B hP hl => ?_)
  have C := B.1
  have hl : lv_has ls 2 [(0, .int (zI u)), (1, .int (zI d))] := hl
  refine z_iln C hl 1 rfl dX8_ceilQuotient_0 ?_
  refine z_ic C dX8_ceilQuotient_1 ?_
  refine z_icmp_ge C 9 (by decide) (by omega) (by omega) dX8_ceilQuotient_2 (fun w1 => ?_) (fun w1 => ?_)
  · skip
    refine z_iln C hl 0 rfl dX8_ceilQuotient_9 ?_
    refine z_ineg C dX8_ceilQuotient_10 ?_
    refine z_iln C hl 1 rfl dX8_ceilQuotient_11 ?_
    refine z_sRO C hP hl (c_J9_floorDiv_7cf53 (σ := σ) (-u) d (by omega) (by omega) (by omega))  wg_285 wg_11 wg_283 wg_284 cw_J9_floorDiv_7cf53 ⟨Nat.le_of_ble_eq_true rfl, Nat.le_of_ble_eq_true rfl⟩ rfl rfl (Nat.le_of_ble_eq_true rfl) dX8_ceilQuotient_12 ?_
    refine z_ineg C dX8_ceilQuotient_15 ?_
    exact z_iret B (by first | rfl | omega) dX8_ceilQuotient_16
  · skip
    refine z_ic C dX8_ceilQuotient_5 ?_
    refine z_goto C 16 (by decide) dX8_ceilQuotient_6 ?_
    exact z_iret B (by first | rfl | omega) dX8_ceilQuotient_16
end
section
set_option maxHeartbeats 4000000 in
set_option maxRecDepth 100000 in
theorem c_X4_covers {l : Launch} {D : va_G} {q : Nat → Nat} {g : Nat → ClassId} {σ : Mem} {j : Nat} (what row col place : Int) (hj : j < 6) (hI : TI σ) (hw : 0 ≤ what ∧ what ≤ 1) (hy : 0 ≤ row ∧ row ≤ 5) (hc : -1000 ≤ col ∧ col ≤ 1000) (hpl : -50 ≤ place ∧ place ≤ 50) : RO l yX4_covers cX4_covers 7 (some .boolean) 0 0 D q g σ [.ref (q (26 + j)), .int (zI what), .int (zI row), .int (zI col), .int (zI place)] (some (.int (zI (bz (kCov (co σ) j what row col place = true))))) := by
  refine RO.intro (plainFor_of_name (by decide)) (Nat.le_of_ble_eq_true rfl) (fun p e s m args below meth c ls B hP hl => ?_)
  have C := B.1
  have hl : lv_has ls 7 [(0, .ref (q (26 + j))), (1, .int (zI what)), (2, .int (zI row)), (3, .int (zI col)), (4, .int (zI place))] := hl
  have hb := hI.2.2.1 j hj
  have hp := hI.2.2.2 j (what * 6 + row).toNat hj (by omega)
  have hm := mul_b hb.2.1 (c := col) (by omega)
  refine z_iln C hl 1 rfl dX4_covers_0 ?_
  refine z_bp C dX4_covers_1 rfl ?_
  refine z_imul C dX4_covers_3 ?_
  refine z_iln C hl 2 rfl dX4_covers_4 ?_
  refine z_iadd C dX4_covers_5 ?_
  refine z_ist C hl [(5, .int (zI ((what * 6) + row))), (0, .ref (q (26 + j))), (1, .int (zI what)), (2, .int (zI row)), (3, .int (zI col)), (4, .int (zI place))] (by decide) rfl dX4_covers_6 (fun ls hl => ?_)
  refine z_il C hl 5 rfl dX4_covers_8 ?_
  refine z_aln C hl 1 rfl dX4_covers_10 ?_
  refine gf_X4_25 C hP (j := j) (by omega) dX4_covers_11 ?_
  refine z_aln C hl 1 rfl dX4_covers_14 ?_
  refine gf_X4_18 C hP (j := j) (by omega) dX4_covers_15 ?_
  refine z_iln C hl 4 rfl dX4_covers_18 ?_
  refine z_imul C dX4_covers_19 ?_
  refine z_iadd C dX4_covers_20 ?_
  refine z_isub C dX4_covers_21 ?_
  refine z_ist C hl [(6, .int (zI (place - ((σ (26 + j) 2) + ((σ (26 + j) 3) * col))))), (5, .int (zI ((what * 6) + row))), (0, .ref (q (26 + j))), (1, .int (zI what)), (2, .int (zI row)), (3, .int (zI col)), (4, .int (zI place))] (by decide) rfl dX4_covers_22 (fun ls hl => ?_)
  refine z_aln C hl 2 rfl dX4_covers_24 ?_
  refine gf_X4_9 C hP (j := j) (by omega) dX4_covers_25 ?_
  refine z_il C hl 1 rfl dX4_covers_28 ?_
  refine z_iald C hP (i := (32 + j)) (by omega) (cE_frm (j := j) (by omega)) (by omega) (by decide) dX4_covers_30 ?_
  refine z_il C hl 0 rfl dX4_covers_31 ?_
  refine z_icmp_gt C 52 (by decide) (by omega) (by omega) dX4_covers_33 (fun w1 => ?_) (fun w1 => ?_)
  · skip
    refine z_ic C dX4_covers_52 ?_
    exact z_bret0 B (by unfold kCov; rw [co_frm hj, co_run hj, co_to hj]; simp only [decide_eq_true_eq]; omega) dX4_covers_53
  · skip
    refine z_il C hl 0 rfl dX4_covers_36 ?_
    refine z_aln C hl 2 rfl dX4_covers_38 ?_
    refine gf_X4_15 C hP (j := j) (by omega) dX4_covers_39 ?_
    refine z_il C hl 1 rfl dX4_covers_42 ?_
    refine z_iald C hP (i := (38 + j)) (by omega) (cE_to (j := j) (by omega)) (by omega) (by decide) dX4_covers_44 ?_
    refine z_icmp_gt C 52 (by decide) (by omega) (by omega) dX4_covers_45 (fun w2 => ?_) (fun w2 => ?_)
    · skip
      refine z_ic C dX4_covers_52 ?_
      exact z_bret0 B (by unfold kCov; rw [co_frm hj, co_run hj, co_to hj]; simp only [decide_eq_true_eq]; omega) dX4_covers_53
    · skip
      refine z_ic C dX4_covers_48 ?_
      refine z_goto C 53 (by decide) dX4_covers_49 ?_
      exact z_bret1 B (by unfold kCov; rw [co_frm hj, co_run hj, co_to hj]; simp only [decide_eq_true_eq]; omega) dX4_covers_53

set_option maxHeartbeats 4000000 in
set_option maxRecDepth 100000 in
theorem c_X4_hasTorso {l : Launch} {D : va_G} {q : Nat → Nat} {g : Nat → ClassId} {σ : Mem} {j : Nat} (hj : j < 6) (hI : TI σ) : RO l yX4_hasTorso cX4_hasTorso 2 (some .boolean) 0 0 D q g σ [.ref (q (26 + j))] (some (.int (zI (bz (kHas (co σ) j = true))))) := by
  refine RO.intro (plainFor_of_name (by decide)) (Nat.le_of_ble_eq_true rfl) (fun p e s m args below meth c ls B hP hl => ?_)
  have C := B.1
  have hl : lv_has ls 2 [(0, .ref (q (26 + j)))] := hl
  refine z_ic C dX4_hasTorso_0 ?_
  refine z_isn C hl [(1, .int (zI 0)), (0, .ref (q (26 + j)))] (by decide) rfl dX4_hasTorso_1 (fun ls hl => ?_)
  have L2 : ∀ (n : Nat) (r : Int)  , 6 - r < (n : Int) → (0 ≤ r ∧ r ≤ 6) → (kHasF (co σ) j r.toNat = false) → ∀ ls : Array Slot, lv_has ls 2 [(0, .ref (q (26 + j))), (1, .int (zI r))] → WO p l e 0 0 s m args below meth c (some (.int (zI (bz (kHas (co σ) j = true))))) (F0 m 2 ls []) := by
    intro n
    induction n with
    | zero => intro r hm hr hn ls hl; exact False.elim (by omega)
    | succ n ih =>
      intro r hm hr hn ls hl
      have ih2 := ih; clear ih
      refine z_iln C hl 1 rfl dX4_hasTorso_2 ?_
      refine z_bp C dX4_hasTorso_3 rfl ?_
      refine z_icmp_ge C 31 (by decide) (by omega) (by omega) dX4_hasTorso_5 (fun w1 => ?_) (fun w1 => ?_)
      · skip
        refine z_ic C dX4_hasTorso_31 ?_
        exact z_bret0 B (by rw [kHas, show (6 : Nat) = r.toNat by omega, hn]; simp) dX4_hasTorso_32
      · skip
        have hp := hI.2.2.2 j r.toNat hj (by omega)
        refine z_aln C hl 0 rfl dX4_hasTorso_8 ?_
        refine gf_X4_9 C hP (j := j) (by omega) dX4_hasTorso_9 ?_
        refine z_iln C hl 1 rfl dX4_hasTorso_12 ?_
        refine z_iald C hP (i := (32 + j)) (by omega) (cE_frm (j := j) (by omega)) (by omega) (by decide) dX4_hasTorso_13 ?_
        refine z_aln C hl 0 rfl dX4_hasTorso_14 ?_
        refine gf_X4_15 C hP (j := j) (by omega) dX4_hasTorso_15 ?_
        refine z_iln C hl 1 rfl dX4_hasTorso_18 ?_
        refine z_iald C hP (i := (38 + j)) (by omega) (cE_to (j := j) (by omega)) (by omega) (by decide) dX4_hasTorso_19 ?_
        refine z_icmp_gt C 25 (by decide) (by omega) (by omega) dX4_hasTorso_20 (fun w2 => ?_) (fun w2 => ?_)
        · skip
          refine z_iinc C hl 1 rfl [(1, .int (zI (r + 1))), (0, .ref (q (26 + j)))] (by decide) rfl dX4_hasTorso_25 (fun ls hl => ?_)
          refine z_goto C 2 (by decide) dX4_hasTorso_28 ?_
          exact ih2 (r + 1) (by omega) (by omega) (by rw [show (r + 1).toNat = r.toNat + 1 by omega, kHasF, hn, co_frm hj, co_to hj]; simp; omega) ls (lv_sub hl [1, 0] rfl)
        · skip
          refine z_ic C dX4_hasTorso_23 ?_
          exact z_bret1 B (kHas_t (r := r.toNat) (by omega) (by rw [co_frm hj, co_to hj]; omega)) dX4_hasTorso_24
  exact L2 ((6 - 0 : Int).toNat + 1) 0 (by omega) (by omega) rfl ls (lv_sub hl [1, 0] rfl)

set_option maxHeartbeats 4000000 in
set_option maxRecDepth 100000 in
theorem c_X4_firstOver {l : Launch} {D : va_G} {q : Nat → Nat} {g : Nat → ClassId} {σ : Mem} {j : Nat} (what row place : Int) (hj : j < 6) (hI : TI σ) (hw : 0 ≤ what ∧ what ≤ 1) (hy : 0 ≤ row ∧ row ≤ 5) (hpl : -50 ≤ place ∧ place ≤ 50) : RO l yX4_firstOver cX4_firstOver 4 (some .int) 2 43 D q g σ [.ref (q (26 + j)), .int (zI what), .int (zI row), .int (zI place)] (some (.int (zI (kFO (co σ) j what row place)))) := by
  refine RO.intro (plainFor_of_name (by decide)) (Nat.le_of_ble_eq_true rfl) (fun p e s m args below meth c ls B hP hl => ?_)
  have C := B.1
  have hl : lv_has ls 4 [(0, .ref (q (26 + j))), (1, .int (zI what)), (2, .int (zI row)), (3, .int (zI place))] := hl
  have hb := hI.2.2.1 j hj
  have hp := hI.2.2.2 j (what * 6 + row).toNat hj (by omega)
  have hdv := div_b (a := -(place - σ (38 + j) (what * 6 + row).toNat - σ (26 + j) 2)) (v := σ (26 + j) 3) (by omega) (by omega)
  refine z_ic C dX4_firstOver_0 ?_
  refine z_iln C hl 3 rfl dX4_firstOver_1 ?_
  refine z_aln C hl 0 rfl dX4_firstOver_2 ?_
  refine gf_X4_15 C hP (j := j) (by omega) dX4_firstOver_3 ?_
  refine z_iln C hl 1 rfl dX4_firstOver_6 ?_
  refine z_bp C dX4_firstOver_7 rfl ?_
  refine z_imul C dX4_firstOver_9 ?_
  refine z_iln C hl 2 rfl dX4_firstOver_10 ?_
  refine z_iadd C dX4_firstOver_11 ?_
  refine z_iald C hP (i := (38 + j)) (by omega) (cE_to (j := j) (by omega)) (by omega) (by decide) dX4_firstOver_12 ?_
  refine z_isub C dX4_firstOver_13 ?_
  refine z_aln C hl 0 rfl dX4_firstOver_14 ?_
  refine gf_X4_25 C hP (j := j) (by omega) dX4_firstOver_15 ?_
  refine z_isub C dX4_firstOver_18 ?_
  refine z_aln C hl 0 rfl dX4_firstOver_19 ?_
  refine gf_X4_18 C hP (j := j) (by omega) dX4_firstOver_20 ?_
  refine z_snRO C hP hl (c_X8_ceilQuotient (σ := σ) ((place - (σ (38 + j) ((what * 6) + row).toNat)) - (σ (26 + j) 2)) (σ (26 + j) 3) (by omega) (by omega) (by omega) (by omega))  wg_295 wg_1 wm_293 wg_294 cw_X8_ceilQuotient ⟨Nat.le_of_ble_eq_true rfl, Nat.le_of_ble_eq_true rfl⟩ rfl rfl (Nat.le_of_ble_eq_true rfl) dX4_firstOver_23 ?_
  refine z_sRO C hP hl (c_J9_max_7cf53 (σ := σ) 0 (-((-((place - (σ (38 + j) ((what * 6) + row).toNat)) - (σ (26 + j) 2))) / (σ (26 + j) 3))) (by omega) (by omega))  wg_298 wg_11 wg_296 wg_297 cw_J9_max_7cf53 ⟨Nat.le_of_ble_eq_true rfl, Nat.le_of_ble_eq_true rfl⟩ rfl rfl (Nat.le_of_ble_eq_true rfl) dX4_firstOver_26 ?_
  exact z_iret B (by unfold kFO; rw [co_run hj, co_to hj]) dX4_firstOver_29

set_option maxHeartbeats 4000000 in
set_option maxRecDepth 100000 in
theorem c_X4_lastOver {l : Launch} {D : va_G} {q : Nat → Nat} {g : Nat → ClassId} {σ : Mem} {j : Nat} (what row place : Int) (hj : j < 6) (hI : TI σ) (hw : 0 ≤ what ∧ what ≤ 1) (hy : 0 ≤ row ∧ row ≤ 5) (hpl : -50 ≤ place ∧ place ≤ 50) : RO l yX4_lastOver cX4_lastOver 4 (some .int) 2 43 D q g σ [.ref (q (26 + j)), .int (zI what), .int (zI row), .int (zI place)] (some (.int (zI (kLO (co σ) j what row place)))) := by
  refine RO.intro (plainFor_of_name (by decide)) (Nat.le_of_ble_eq_true rfl) (fun p e s m args below meth c ls B hP hl => ?_)
  have C := B.1
  have hl : lv_has ls 4 [(0, .ref (q (26 + j))), (1, .int (zI what)), (2, .int (zI row)), (3, .int (zI place))] := hl
  have hb := hI.2.2.1 j hj
  have hp := hI.2.2.2 j (what * 6 + row).toNat hj (by omega)
  have hdv := div_b (a := place - σ (32 + j) (what * 6 + row).toNat - σ (26 + j) 2) (v := σ (26 + j) 3) (by omega) (by omega)
  refine z_sp C dX4_lastOver_0 rfl ?_
  refine z_iln C hl 3 rfl dX4_lastOver_3 ?_
  refine z_aln C hl 0 rfl dX4_lastOver_4 ?_
  refine gf_X4_9 C hP (j := j) (by omega) dX4_lastOver_5 ?_
  refine z_iln C hl 1 rfl dX4_lastOver_8 ?_
  refine z_bp C dX4_lastOver_9 rfl ?_
  refine z_imul C dX4_lastOver_11 ?_
  refine z_iln C hl 2 rfl dX4_lastOver_12 ?_
  refine z_iadd C dX4_lastOver_13 ?_
  refine z_iald C hP (i := (32 + j)) (by omega) (cE_frm (j := j) (by omega)) (by omega) (by decide) dX4_lastOver_14 ?_
  refine z_isub C dX4_lastOver_15 ?_
  refine z_aln C hl 0 rfl dX4_lastOver_16 ?_
  refine gf_X4_25 C hP (j := j) (by omega) dX4_lastOver_17 ?_
  refine z_isub C dX4_lastOver_20 ?_
  refine z_aln C hl 0 rfl dX4_lastOver_21 ?_
  refine gf_X4_18 C hP (j := j) (by omega) dX4_lastOver_22 ?_
  refine z_snRO C hP hl (c_X8_floorQuotient (σ := σ) ((place - (σ (32 + j) ((what * 6) + row).toNat)) - (σ (26 + j) 2)) (σ (26 + j) 3) (by omega) (by omega) (by omega))  wg_282 wg_1 wm_280 wg_281 cw_X8_floorQuotient ⟨Nat.le_of_ble_eq_true rfl, Nat.le_of_ble_eq_true rfl⟩ rfl rfl (Nat.le_of_ble_eq_true rfl) dX4_lastOver_25 ?_
  refine z_sRO C hP hl (c_J9_min_7cf53 (σ := σ) 299 (((place - (σ (32 + j) ((what * 6) + row).toNat)) - (σ (26 + j) 2)) / (σ (26 + j) 3)) (by omega) (by omega))  wg_288 wg_11 wg_286 wg_287 cw_J9_min_7cf53 ⟨Nat.le_of_ble_eq_true rfl, Nat.le_of_ble_eq_true rfl⟩ rfl rfl (Nat.le_of_ble_eq_true rfl) dX4_lastOver_28 ?_
  exact z_iret B (by unfold kLO; rw [co_run hj, co_frm hj]) dX4_lastOver_31

set_option maxHeartbeats 4000000 in
set_option maxRecDepth 100000 in
theorem c_X4_columnsOver {l : Launch} {D : va_G} {q : Nat → Nat} {g : Nat → ClassId} {σ : Mem} {j : Nat} (what row place : Int) (hj : j < 6) (hI : TI σ) (hw : 0 ≤ what ∧ what ≤ 1) (hy : 0 ≤ row ∧ row ≤ 5) (hpl : -50 ≤ place ∧ place ≤ 50) : RO l yX4_columnsOver cX4_columnsOver 4 (some .int) 3 66 D q g σ [.ref (q (26 + j)), .int (zI what), .int (zI row), .int (zI place)] (some (.int (zI (max 0 (kLO (co σ) j what row place - kFO (co σ) j what row place + 1))))) := by
  refine RO.intro (plainFor_of_name (by decide)) (Nat.le_of_ble_eq_true rfl) (fun p e s m args below meth c ls B hP hl => ?_)
  have C := B.1
  have hl : lv_has ls 4 [(0, .ref (q (26 + j))), (1, .int (zI what)), (2, .int (zI row)), (3, .int (zI place))] := hl
  have hIc := TI_cc hI
  have h1 := kFO_b hIc hj (what := what) (row := row) (place := place) (by omega) hpl
  have h2 := kLO_b hIc hj (what := what) (row := row) (place := place) (by omega) hpl
  refine z_ic C dX4_columnsOver_0 ?_
  refine z_aln C hl 0 rfl dX4_columnsOver_1 ?_
  refine z_iln C hl 1 rfl dX4_columnsOver_2 ?_
  refine z_iln C hl 2 rfl dX4_columnsOver_3 ?_
  refine z_iln C hl 3 rfl dX4_columnsOver_4 ?_
  refine z_vRO C hP hl (c_X4_lastOver (σ := σ) (j := j) what row place (by omega) hI (by omega) (by omega) (by omega)) (z_recv C hP (i := (26 + j)) (by omega) (cE_run (j := j) (by omega) _) (ci := 4) rfl) wg_279 wg_3 wg_386 wg_277 wg_278 cw_X4_lastOver ⟨Nat.le_of_ble_eq_true rfl, Nat.le_of_ble_eq_true rfl⟩ rfl rfl (Nat.le_of_ble_eq_true rfl) dX4_columnsOver_5 ?_
  refine z_aln C hl 0 rfl dX4_columnsOver_8 ?_
  refine z_iln C hl 1 rfl dX4_columnsOver_9 ?_
  refine z_iln C hl 2 rfl dX4_columnsOver_10 ?_
  refine z_iln C hl 3 rfl dX4_columnsOver_11 ?_
  refine z_vRO C hP hl (c_X4_firstOver (σ := σ) (j := j) what row place (by omega) hI (by omega) (by omega) (by omega)) (z_recv C hP (i := (26 + j)) (by omega) (cE_run (j := j) (by omega) _) (ci := 4) rfl) wg_292 wg_3 wg_315 wg_290 wg_291 cw_X4_firstOver ⟨Nat.le_of_ble_eq_true rfl, Nat.le_of_ble_eq_true rfl⟩ rfl rfl (Nat.le_of_ble_eq_true rfl) dX4_columnsOver_12 ?_
  refine z_isub C dX4_columnsOver_15 ?_
  refine z_ic C dX4_columnsOver_16 ?_
  refine z_iadd C dX4_columnsOver_17 ?_
  refine z_sRO C hP hl (c_J9_max_7cf53 (σ := σ) 0 (((kLO (co σ) j what row place) - (kFO (co σ) j what row place)) + 1) (by omega) (by omega))  wg_298 wg_11 wg_296 wg_297 cw_J9_max_7cf53 ⟨Nat.le_of_ble_eq_true rfl, Nat.le_of_ble_eq_true rfl⟩ rfl rfl (Nat.le_of_ble_eq_true rfl) dX4_columnsOver_18 ?_
  exact z_iret B (by first | rfl | omega) dX4_columnsOver_21

set_option maxHeartbeats 4000000 in
set_option maxRecDepth 100000 in
theorem c_X4_crossing {l : Launch} {D : va_G} {q : Nat → Nat} {g : Nat → ClassId} {σ : Mem} {j : Nat} (lean : Int) (hj : j < 6) (hI : TI σ) (hle : -3 ≤ lean ∧ lean ≤ 3) : RO l yX4_crossing cX4_crossing 4 (some .int) 3 66 D q g σ [.ref (q (26 + j)), .int (zI lean)] (some (.int (zI (kCr (co σ) j lean)))) := by
  refine RO.intro (plainFor_of_name (by decide)) (Nat.le_of_ble_eq_true rfl) (fun p e s m args below meth c ls B hP hl => ?_)
  have C := B.1
  have hl : lv_has ls 4 [(0, .ref (q (26 + j))), (1, .int (zI lean))] := hl
  have hIc := TI_cc hI
  refine z_ldc C (n := 10000000) wg_314 (by decide) dX4_crossing_0 ?_
  refine z_isn C hl [(2, .int (zI 10000000)), (0, .ref (q (26 + j))), (1, .int (zI lean))] (by decide) rfl dX4_crossing_2 (fun ls hl => ?_)
  refine z_ic C dX4_crossing_3 ?_
  refine z_isn C hl [(3, .int (zI 0)), (2, .int (zI 10000000)), (0, .ref (q (26 + j))), (1, .int (zI lean))] (by decide) rfl dX4_crossing_4 (fun ls hl => ?_)
  have L5 : ∀ (n : Nat) (x : Int) (r : Int)  , 6 - r < (n : Int) → (0 ≤ r ∧ r ≤ 6) → (x = kCrF (co σ) j lean r.toNat) → ∀ ls : Array Slot, lv_has ls 4 [(0, .ref (q (26 + j))), (1, .int (zI lean)), (2, .int (zI x)), (3, .int (zI r))] → WO p l e 3 66 s m args below meth c (some (.int (zI (kCr (co σ) j lean)))) (F0 m 5 ls []) := by
    intro n
    induction n with
    | zero => intro x r hm hr hx ls hl; exact False.elim (by omega)
    | succ n ih =>
      intro x r hm hr hx ls hl
      have ih5 := ih; clear ih
      refine z_iln C hl 3 rfl dX4_crossing_5 ?_
      refine z_bp C dX4_crossing_6 rfl ?_
      refine z_icmp_ge C 46 (by decide) (by omega) (by omega) dX4_crossing_8 (fun w1 => ?_) (fun w1 => ?_)
      · skip
        refine z_iln C hl 2 rfl dX4_crossing_46 ?_
        exact z_iret B (by rw [hx, show r.toNat = 6 by omega]; rfl) dX4_crossing_47
      · skip
        have hp := hI.2.2.2 j r.toNat hj (by omega)
        have hxb := kCrF_b hIc hj hle r.toNat (by omega)
        refine z_aln C hl 0 rfl dX4_crossing_11 ?_
        refine gf_X4_9 C hP (j := j) (by omega) dX4_crossing_12 ?_
        refine z_iln C hl 3 rfl dX4_crossing_15 ?_
        refine z_iald C hP (i := (32 + j)) (by omega) (cE_frm (j := j) (by omega)) (by omega) (by decide) dX4_crossing_16 ?_
        refine z_aln C hl 0 rfl dX4_crossing_17 ?_
        refine gf_X4_15 C hP (j := j) (by omega) dX4_crossing_18 ?_
        refine z_iln C hl 3 rfl dX4_crossing_21 ?_
        refine z_iald C hP (i := (38 + j)) (by omega) (cE_to (j := j) (by omega)) (by omega) (by decide) dX4_crossing_22 ?_
        refine z_icmp_gt C 40 (by decide) (by omega) (by omega) dX4_crossing_23 (fun w2 => ?_) (fun w2 => ?_)
        · skip
          refine z_iinc C hl 3 rfl [(3, .int (zI (r + 1))), (0, .ref (q (26 + j))), (1, .int (zI lean)), (2, .int (zI x))] (by decide) rfl dX4_crossing_40 (fun ls hl => ?_)
          refine z_goto C 5 (by decide) dX4_crossing_43 ?_
          exact ih5 x (r + 1) (by omega) (by omega) (by rw [show (r + 1).toNat = r.toNat + 1 by omega, kCrF, co_frm hj, co_to hj, if_neg (by omega), hx]) ls (lv_sub hl [1, 2, 3, 0] rfl)
        · skip
          have hm := mul_l hle (b := r) (by omega)
          have hfo := kFO_b hIc hj (what := 0) (row := r) (place := lean * r) (by omega) (by omega)
          refine z_iln C hl 2 rfl dX4_crossing_26 ?_
          refine z_aln C hl 0 rfl dX4_crossing_27 ?_
          refine z_ic C dX4_crossing_28 ?_
          refine z_iln C hl 3 rfl dX4_crossing_29 ?_
          refine z_iln C hl 1 rfl dX4_crossing_30 ?_
          refine z_iln C hl 3 rfl dX4_crossing_31 ?_
          refine z_imul C dX4_crossing_32 ?_
          refine z_vRO C hP hl (c_X4_firstOver (σ := σ) (j := j) 0 r (lean * r) (by omega) hI (by omega) (by omega) (by omega)) (z_recv C hP (i := (26 + j)) (by omega) (cE_run (j := j) (by omega) _) (ci := 4) rfl) wg_292 wg_3 wg_315 wg_290 wg_291 cw_X4_firstOver ⟨Nat.le_of_ble_eq_true rfl, Nat.le_of_ble_eq_true rfl⟩ rfl rfl (Nat.le_of_ble_eq_true rfl) dX4_crossing_33 ?_
          refine z_sRO C hP hl (c_J9_min_7cf53 (σ := σ) x (kFO (co σ) j 0 r (lean * r)) (by omega) (by omega))  wg_288 wg_11 wg_286 wg_287 cw_J9_min_7cf53 ⟨Nat.le_of_ble_eq_true rfl, Nat.le_of_ble_eq_true rfl⟩ rfl rfl (Nat.le_of_ble_eq_true rfl) dX4_crossing_36 ?_
          refine z_isn C hl [(2, .int (zI (min x (kFO (co σ) j 0 r (lean * r))))), (0, .ref (q (26 + j))), (1, .int (zI lean)), (3, .int (zI r))] (by decide) rfl dX4_crossing_39 (fun ls hl => ?_)
          refine z_iinc C hl 3 rfl [(3, .int (zI (r + 1))), (2, .int (zI (min x (kFO (co σ) j 0 r (lean * r))))), (0, .ref (q (26 + j))), (1, .int (zI lean))] (by decide) rfl dX4_crossing_40 (fun ls hl => ?_)
          refine z_goto C 5 (by decide) dX4_crossing_43 ?_
          exact ih5 (min x (kFO (co σ) j 0 r (lean * r))) (r + 1) (by omega) (by omega) (by rw [show (r + 1).toNat = r.toNat + 1 by omega, kCrF, co_frm hj, co_to hj, if_pos (by omega), ← hx, show ((r.toNat : Nat) : Int) = r by omega]) ls (lv_sub hl [2, 3, 1, 0] rfl)
  exact L5 ((6 - 0 : Int).toNat + 1) 10000000 0 (by omega) (by omega) rfl ls (lv_sub hl [2, 3, 1, 0] rfl)
end
section
set_option maxHeartbeats 4000000 in
set_option maxRecDepth 100000 in
theorem c_X7_has {l : Launch} {D : va_G} {q : Nat → Nat} {g : Nat → ClassId} {σ : Mem} (lane : Int) (hI : TI σ) (hr_lane : zR lane) : RO l yX7_has cX7_has 2 (some .boolean) 1 22 D q g σ [.ref (q 1), .int (zI lane)] (some (.int (zI (bz (0 ≤ lane ∧ lane < σ 1 2))))) := by
  refine RO.intro (plainFor_of_name (by decide)) (Nat.le_of_ble_eq_true rfl) (fun p e s m args below meth c ls B hP hl => ?_)
  have C := B.1
  have hl : lv_has ls 2 [(0, .ref (q 1)), (1, .int (zI lane))] := hl
  have h1 := hI.1
  refine z_iln C hl 1 rfl dX7_has_0 ?_
  refine z_ic C dX7_has_1 ?_
  refine z_aln C hl 0 rfl dX7_has_2 ?_
  refine gf_X7_22 C hP dX7_has_3 ?_
  refine z_ic C dX7_has_6 ?_
  refine z_isub C dX7_has_7 ?_
  refine z_snRO C hP hl (c_X8_within (σ := σ) lane 0 ((σ 1 2) - 1) (by omega) (by omega) (by omega))  wg_212 wg_1 wm_225 wg_211 cw_X8_within ⟨Nat.le_of_ble_eq_true rfl, Nat.le_of_ble_eq_true rfl⟩ rfl rfl (Nat.le_of_ble_eq_true rfl) dX7_has_8 ?_
  exact z_bret B (by constructor <;> intros <;> omega) dX7_has_11

set_option maxHeartbeats 4000000 in
set_option maxRecDepth 100000 in
theorem c_X7_slitPlace {l : Launch} {D : va_G} {q : Nat → Nat} {g : Nat → ClassId} {σ : Mem} (row : Int)  : RO l yX7_slitPlace cX7_slitPlace 2 (some .int) 0 0 D q g σ [.ref (q 1), .int (zI row)] (some (.int (zI (co σ 8 0 * row)))) := by
  refine RO.intro (plainFor_of_name (by decide)) (Nat.le_of_ble_eq_true rfl) (fun p e s m args below meth c ls B hP hl => ?_)
  have C := B.1
  have hl : lv_has ls 2 [(0, .ref (q 1)), (1, .int (zI row))] := hl
  refine z_aln C hl 0 rfl dX7_slitPlace_0 ?_
  refine gf_X7_17 C hP dX7_slitPlace_1 ?_
  refine z_ic C dX7_slitPlace_4 ?_
  refine z_ialk C hP (i := 8) (by decide) (fun _ => rfl) 0 rfl (by decide) (by decide) dX7_slitPlace_5 ?_
  refine z_iln C hl 1 rfl dX7_slitPlace_6 ?_
  refine z_imul C dX7_slitPlace_7 ?_
  exact z_iret B rfl dX7_slitPlace_8

set_option maxHeartbeats 4000000 in
set_option maxRecDepth 100000 in
theorem c_X7_film {l : Launch} {D : va_G} {q : Nat → Nat} {g : Nat → ClassId} {σ : Mem} (side col row : Int) (hI : TI σ) (hsi : 0 ≤ side ∧ side ≤ 1) (hc : -1000 ≤ col ∧ col ≤ 1000) (hy : 0 ≤ row ∧ row ≤ 5) : RO l yX7_film cX7_film 7 (some .int) 1 26 D q g σ [.ref (q 1), .int (zI side), .int (zI col), .int (zI row)] (some (.int (zI (kFilm (co σ) side col row)))) := by
  refine RO.intro (plainFor_of_name (by decide)) (Nat.le_of_ble_eq_true rfl) (fun p e s m args below meth c ls B hP hl => ?_)
  have C := B.1
  have hl : lv_has ls 7 [(0, .ref (q 1)), (1, .int (zI side)), (2, .int (zI col)), (3, .int (zI row))] := hl
  have h1 := hI.1
  have e12 : co σ 1 2 = σ 1 2 := rfl
  have e80 : co σ 8 0 = σ 8 0 := rfl
  have hm := mul_l (a := co σ 8 0) hI.2.1.1 hy
  refine z_aln C hl 0 rfl dX7_film_0 ?_
  refine z_iln C hl 3 rfl dX7_film_1 ?_
  refine z_vRO C hP hl (c_X7_slitPlace (σ := σ) row ) (z_recv C hP (i := 1) (by decide) rfl (ci := 7) rfl) wg_255 wg_2 wg_252 wg_253 wg_254 cw_X7_slitPlace ⟨Nat.le_of_ble_eq_true rfl, Nat.le_of_ble_eq_true rfl⟩ rfl rfl (Nat.le_of_ble_eq_true rfl) dX7_film_2 ?_
  refine z_ist C hl [(4, .int (zI (co σ 8 0 * row))), (0, .ref (q 1)), (1, .int (zI side)), (2, .int (zI col)), (3, .int (zI row))] (by decide) rfl dX7_film_5 (fun ls hl => ?_)
  refine z_ic C dX7_film_7 ?_
  refine z_ist C hl [(5, .int (zI 0)), (4, .int (zI (co σ 8 0 * row))), (0, .ref (q 1)), (1, .int (zI side)), (2, .int (zI col)), (3, .int (zI row))] (by decide) rfl dX7_film_8 (fun ls hl => ?_)
  have L10 : ∀ (n : Nat) (k : Int)  , σ 1 2 - k < (n : Int) → (0 ≤ k ∧ k ≤ σ 1 2) → (kFilm (co σ) side col row = kScan (co σ) side col row (co σ 8 0 * row) (co σ 1 2 - k).toNat k) → ∀ ls : Array Slot, lv_has ls 7 [(0, .ref (q 1)), (1, .int (zI side)), (2, .int (zI col)), (3, .int (zI row)), (4, .int (zI (co σ 8 0 * row))), (5, .int (zI k))] → WO p l e 1 26 s m args below meth c (some (.int (zI (kFilm (co σ) side col row)))) (F0 m 10 ls []) := by
    intro n
    induction n with
    | zero => intro k hm hk hi ls hl; exact False.elim (by omega)
    | succ n ih =>
      intro k hm hk hi ls hl
      have ih10 := ih; clear ih
      refine z_il C hl 5 rfl dX7_film_10 ?_
      refine z_aln C hl 0 rfl dX7_film_12 ?_
      refine gf_X7_22 C hP dX7_film_13 ?_
      refine z_icmp_ge C 95 (by decide) (by omega) (by omega) dX7_film_16 (fun w1 => ?_) (fun w1 => ?_)
      · skip
        refine z_ic C dX7_film_95 ?_
        exact z_iret B (by rw [hi, show (co σ 1 2 - k).toNat = 0 by omega]; rfl) dX7_film_96
      · skip
        have hu : (co σ 1 2 - k).toNat = (co σ 1 2 - (k + 1)).toNat + 1 := by omega
        rw [hu, kScan] at hi
        refine z_iln C hl 1 rfl dX7_film_19 ?_
        refine z_if_ne C 28 (by decide) (by omega) dX7_film_20 (fun w2 => ?_) (fun w2 => ?_)
        · skip
          refine z_aln C hl 0 rfl dX7_film_28 ?_
          refine gf_X7_22 C hP dX7_film_29 ?_
          refine z_ic C dX7_film_32 ?_
          refine z_isub C dX7_film_33 ?_
          refine z_il C hl 5 rfl dX7_film_34 ?_
          refine z_isub C dX7_film_36 ?_
          have hln : kLane (co σ) side k = ((σ 1 2) - 1) - k := by unfold kLane; split <;> omega
          rw [hln] at hi
          refine z_ist C hl [(6, .int (zI (((σ 1 2) - 1) - k))), (0, .ref (q 1)), (1, .int (zI side)), (2, .int (zI col)), (3, .int (zI row)), (4, .int (zI (co σ 8 0 * row))), (5, .int (zI k))] (by decide) rfl dX7_film_37 (fun ls hl => ?_)
          refine z_aln C hl 1 rfl dX7_film_39 ?_
          refine gf_X7_11 C hP dX7_film_40 ?_
          refine z_il C hl 0 rfl dX7_film_43 ?_
          refine z_aald C hP (i := 7) (t := 2) (b := 26) (by decide) rfl (fun _ => rfl) (by omega) (by decide) dX7_film_45 ?_
          refine z_ic C dX7_film_46 ?_
          refine z_iln C hl 4 rfl dX7_film_47 ?_
          refine z_iln C hl 3 rfl dX7_film_48 ?_
          refine z_il C hl 5 rfl dX7_film_49 ?_
          refine z_vRO C hP hl (c_X4_covers (σ := σ) (j := ((((σ 1 2) - 1) - k).toNat)) 0 row col (co σ 8 0 * row) (by omega) hI (by omega) (by omega) (by omega) (by omega)) (z_recv C hP (i := (26 + (((σ 1 2) - 1) - k).toNat)) (by omega) (cE_run (j := (((σ 1 2) - 1) - k).toNat) (by omega) _) (ci := 4) rfl) wg_259 wg_3 wg_256 wg_257 wg_258 cw_X4_covers ⟨Nat.le_of_ble_eq_true rfl, Nat.le_of_ble_eq_true rfl⟩ rfl rfl (Nat.le_of_ble_eq_true rfl) dX7_film_51 ?_
          refine z_bif_eq C 63 (by decide) dX7_film_54 (fun w3 => ?_) (fun w3 => ?_)
          · skip
            refine z_aln C hl 1 rfl dX7_film_63 ?_
            refine gf_X7_11 C hP dX7_film_64 ?_
            refine z_il C hl 0 rfl dX7_film_67 ?_
            refine z_aald C hP (i := 7) (t := 2) (b := 26) (by decide) rfl (fun _ => rfl) (by omega) (by decide) dX7_film_69 ?_
            refine z_ic C dX7_film_70 ?_
            refine z_iln C hl 4 rfl dX7_film_71 ?_
            refine z_iln C hl 3 rfl dX7_film_72 ?_
            refine z_il C hl 5 rfl dX7_film_73 ?_
            refine z_vRO C hP hl (c_X4_covers (σ := σ) (j := ((((σ 1 2) - 1) - k).toNat)) 1 row col (co σ 8 0 * row) (by omega) hI (by omega) (by omega) (by omega) (by omega)) (z_recv C hP (i := (26 + (((σ 1 2) - 1) - k).toNat)) (by omega) (cE_run (j := (((σ 1 2) - 1) - k).toNat) (by omega) _) (ci := 4) rfl) wg_259 wg_3 wg_256 wg_257 wg_258 cw_X4_covers ⟨Nat.le_of_ble_eq_true rfl, Nat.le_of_ble_eq_true rfl⟩ rfl rfl (Nat.le_of_ble_eq_true rfl) dX7_film_75 ?_
            refine z_bif_eq C 89 (by decide) dX7_film_78 (fun w4 => ?_) (fun w4 => ?_)
            · skip
              refine z_iinc C hl 6 rfl [(5, .int (zI (k + 1))), (6, .int (zI (((σ 1 2) - 1) - k))), (0, .ref (q 1)), (1, .int (zI side)), (2, .int (zI col)), (3, .int (zI row)), (4, .int (zI (co σ 8 0 * row)))] (by decide) rfl dX7_film_89 (fun ls hl => ?_)
              refine z_goto C 10 (by decide) dX7_film_92 ?_
              exact ih10 (k + 1) (by omega) (by omega) (by rw [hi, if_neg w3, if_neg w4]) ls (lv_sub hl [2, 3, 4, 5, 6, 0] rfl)
            · skip
              refine z_il C hl 0 rfl dX7_film_81 ?_
              refine z_snRO C hP hl (c_X8_torsoMark (σ := σ) (((σ 1 2) - 1) - k) )  wg_262 wg_1 wm_260 wg_261 cw_X8_torsoMark ⟨Nat.le_of_ble_eq_true rfl, Nat.le_of_ble_eq_true rfl⟩ rfl rfl (Nat.le_of_ble_eq_true rfl) dX7_film_83 ?_
              refine z_ic C dX7_film_86 ?_
              refine z_iadd C dX7_film_87 ?_
              exact z_iret B (by rw [hi, if_neg w3, if_pos w4]) dX7_film_88
          · skip
            refine z_il C hl 0 rfl dX7_film_57 ?_
            refine z_snRO C hP hl (c_X8_torsoMark (σ := σ) (((σ 1 2) - 1) - k) )  wg_262 wg_1 wm_260 wg_261 cw_X8_torsoMark ⟨Nat.le_of_ble_eq_true rfl, Nat.le_of_ble_eq_true rfl⟩ rfl rfl (Nat.le_of_ble_eq_true rfl) dX7_film_59 ?_
            exact z_iret B (by rw [hi, if_pos w3]) dX7_film_62
        · skip
          refine z_il C hl 5 rfl dX7_film_23 ?_
          refine z_goto C 37 (by decide) dX7_film_25 ?_
          have hln : kLane (co σ) side k = k := by unfold kLane; split <;> omega
          rw [hln] at hi
          refine z_ist C hl [(6, .int (zI k)), (0, .ref (q 1)), (1, .int (zI side)), (2, .int (zI col)), (3, .int (zI row)), (4, .int (zI (co σ 8 0 * row))), (5, .int (zI k))] (by decide) rfl dX7_film_37 (fun ls hl => ?_)
          refine z_aln C hl 1 rfl dX7_film_39 ?_
          refine gf_X7_11 C hP dX7_film_40 ?_
          refine z_il C hl 0 rfl dX7_film_43 ?_
          refine z_aald C hP (i := 7) (t := 2) (b := 26) (by decide) rfl (fun _ => rfl) (by omega) (by decide) dX7_film_45 ?_
          refine z_ic C dX7_film_46 ?_
          refine z_iln C hl 4 rfl dX7_film_47 ?_
          refine z_iln C hl 3 rfl dX7_film_48 ?_
          refine z_il C hl 5 rfl dX7_film_49 ?_
          refine z_vRO C hP hl (c_X4_covers (σ := σ) (j := (k.toNat)) 0 row col (co σ 8 0 * row) (by omega) hI (by omega) (by omega) (by omega) (by omega)) (z_recv C hP (i := (26 + k.toNat)) (by omega) (cE_run (j := k.toNat) (by omega) _) (ci := 4) rfl) wg_259 wg_3 wg_256 wg_257 wg_258 cw_X4_covers ⟨Nat.le_of_ble_eq_true rfl, Nat.le_of_ble_eq_true rfl⟩ rfl rfl (Nat.le_of_ble_eq_true rfl) dX7_film_51 ?_
          refine z_bif_eq C 63 (by decide) dX7_film_54 (fun w5 => ?_) (fun w5 => ?_)
          · skip
            refine z_aln C hl 1 rfl dX7_film_63 ?_
            refine gf_X7_11 C hP dX7_film_64 ?_
            refine z_il C hl 0 rfl dX7_film_67 ?_
            refine z_aald C hP (i := 7) (t := 2) (b := 26) (by decide) rfl (fun _ => rfl) (by omega) (by decide) dX7_film_69 ?_
            refine z_ic C dX7_film_70 ?_
            refine z_iln C hl 4 rfl dX7_film_71 ?_
            refine z_iln C hl 3 rfl dX7_film_72 ?_
            refine z_il C hl 5 rfl dX7_film_73 ?_
            refine z_vRO C hP hl (c_X4_covers (σ := σ) (j := (k.toNat)) 1 row col (co σ 8 0 * row) (by omega) hI (by omega) (by omega) (by omega) (by omega)) (z_recv C hP (i := (26 + k.toNat)) (by omega) (cE_run (j := k.toNat) (by omega) _) (ci := 4) rfl) wg_259 wg_3 wg_256 wg_257 wg_258 cw_X4_covers ⟨Nat.le_of_ble_eq_true rfl, Nat.le_of_ble_eq_true rfl⟩ rfl rfl (Nat.le_of_ble_eq_true rfl) dX7_film_75 ?_
            refine z_bif_eq C 89 (by decide) dX7_film_78 (fun w6 => ?_) (fun w6 => ?_)
            · skip
              refine z_iinc C hl 6 rfl [(5, .int (zI (k + 1))), (6, .int (zI k)), (0, .ref (q 1)), (1, .int (zI side)), (2, .int (zI col)), (3, .int (zI row)), (4, .int (zI (co σ 8 0 * row)))] (by decide) rfl dX7_film_89 (fun ls hl => ?_)
              refine z_goto C 10 (by decide) dX7_film_92 ?_
              exact ih10 (k + 1) (by omega) (by omega) (by rw [hi, if_neg w5, if_neg w6]) ls (lv_sub hl [2, 3, 4, 5, 6, 0] rfl)
            · skip
              refine z_il C hl 0 rfl dX7_film_81 ?_
              refine z_snRO C hP hl (c_X8_torsoMark (σ := σ) k )  wg_262 wg_1 wm_260 wg_261 cw_X8_torsoMark ⟨Nat.le_of_ble_eq_true rfl, Nat.le_of_ble_eq_true rfl⟩ rfl rfl (Nat.le_of_ble_eq_true rfl) dX7_film_83 ?_
              refine z_ic C dX7_film_86 ?_
              refine z_iadd C dX7_film_87 ?_
              exact z_iret B (by rw [hi, if_neg w5, if_pos w6]) dX7_film_88
          · skip
            refine z_il C hl 0 rfl dX7_film_57 ?_
            refine z_snRO C hP hl (c_X8_torsoMark (σ := σ) k )  wg_262 wg_1 wm_260 wg_261 cw_X8_torsoMark ⟨Nat.le_of_ble_eq_true rfl, Nat.le_of_ble_eq_true rfl⟩ rfl rfl (Nat.le_of_ble_eq_true rfl) dX7_film_59 ?_
            exact z_iret B (by rw [hi, if_pos w5]) dX7_film_62
  exact L10 ((σ 1 2 - 0 : Int).toNat + 1) 0 (by omega) (by omega) (by rw [Int.sub_zero]; rfl) ls (lv_sub hl [2, 3, 4, 5, 1, 0] rfl)

set_option maxHeartbeats 4000000 in
set_option maxRecDepth 100000 in
theorem c_X7_firstShown {l : Launch} {D : va_G} {q : Nat → Nat} {g : Nat → ClassId} {σ : Mem} (side lane row : Int) (hI : TI σ) (hsi : 0 ≤ side ∧ side ≤ 1) (hla : 0 ≤ lane ∧ lane < σ 1 2) (hy : 0 ≤ row ∧ row ≤ 5) : RO l yX7_firstShown cX7_firstShown 7 (some .int) 3 66 D q g σ [.ref (q 1), .int (zI side), .int (zI lane), .int (zI row)] (some (.int (zI (kFS (co σ) side lane row)))) := by
  refine RO.intro (plainFor_of_name (by decide)) (Nat.le_of_ble_eq_true rfl) (fun p e s m args below meth c ls B hP hl => ?_)
  have C := B.1
  have hl : lv_has ls 7 [(0, .ref (q 1)), (1, .int (zI side)), (2, .int (zI lane)), (3, .int (zI row))] := hl
  have h1 := hI.1
  have hIc := TI_cc hI
  have hm := mul_l (a := co σ 8 0) hI.2.1.1 hy
  have hfo := kFO_b hIc (j := lane.toNat) (by omega) (what := 0) (row := row) (place := co σ 8 0 * row) (by omega) (by omega)
  have hlo := kLO_b hIc (j := lane.toNat) (by omega) (what := 0) (row := row) (place := co σ 8 0 * row) (by omega) (by omega)
  refine z_aln C hl 0 rfl dX7_firstShown_0 ?_
  refine z_iln C hl 3 rfl dX7_firstShown_1 ?_
  refine z_vRO C hP hl (c_X7_slitPlace (σ := σ) row ) (z_recv C hP (i := 1) (by decide) rfl (ci := 7) rfl) wg_255 wg_2 wg_252 wg_253 wg_254 cw_X7_slitPlace ⟨Nat.le_of_ble_eq_true rfl, Nat.le_of_ble_eq_true rfl⟩ rfl rfl (Nat.le_of_ble_eq_true rfl) dX7_firstShown_2 ?_
  refine z_ist C hl [(4, .int (zI (co σ 8 0 * row))), (0, .ref (q 1)), (1, .int (zI side)), (2, .int (zI lane)), (3, .int (zI row))] (by decide) rfl dX7_firstShown_5 (fun ls hl => ?_)
  refine z_aln C hl 1 rfl dX7_firstShown_7 ?_
  refine gf_X7_11 C hP dX7_firstShown_8 ?_
  refine z_iln C hl 3 rfl dX7_firstShown_11 ?_
  refine z_aald C hP (i := 7) (t := 2) (b := 26) (by decide) rfl (fun _ => rfl) (by omega) (by decide) dX7_firstShown_12 ?_
  refine z_ic C dX7_firstShown_13 ?_
  refine z_iln C hl 4 rfl dX7_firstShown_14 ?_
  refine z_il C hl 0 rfl dX7_firstShown_15 ?_
  refine z_vRO C hP hl (c_X4_lastOver (σ := σ) (j := (lane.toNat)) 0 row (co σ 8 0 * row) (by omega) hI (by omega) (by omega) (by omega)) (z_recv C hP (i := (26 + lane.toNat)) (by omega) (cE_run (j := lane.toNat) (by omega) _) (ci := 4) rfl) wg_279 wg_3 wg_276 wg_277 wg_278 cw_X4_lastOver ⟨Nat.le_of_ble_eq_true rfl, Nat.le_of_ble_eq_true rfl⟩ rfl rfl (Nat.le_of_ble_eq_true rfl) dX7_firstShown_17 ?_
  refine z_ist C hl [(5, .int (zI (kLO (co σ) (lane.toNat) 0 row (co σ 8 0 * row)))), (4, .int (zI (co σ 8 0 * row))), (0, .ref (q 1)), (1, .int (zI side)), (2, .int (zI lane)), (3, .int (zI row))] (by decide) rfl dX7_firstShown_20 (fun ls hl => ?_)
  refine z_aln C hl 2 rfl dX7_firstShown_22 ?_
  refine gf_X7_11 C hP dX7_firstShown_23 ?_
  refine z_iln C hl 4 rfl dX7_firstShown_26 ?_
  refine z_aald C hP (i := 7) (t := 2) (b := 26) (by decide) rfl (fun _ => rfl) (by omega) (by decide) dX7_firstShown_27 ?_
  refine z_ic C dX7_firstShown_28 ?_
  refine z_iln C hl 5 rfl dX7_firstShown_29 ?_
  refine z_il C hl 1 rfl dX7_firstShown_30 ?_
  refine z_vRO C hP hl (c_X4_firstOver (σ := σ) (j := (lane.toNat)) 0 row (co σ 8 0 * row) (by omega) hI (by omega) (by omega) (by omega)) (z_recv C hP (i := (26 + lane.toNat)) (by omega) (cE_run (j := lane.toNat) (by omega) _) (ci := 4) rfl) wg_292 wg_3 wg_289 wg_290 wg_291 cw_X4_firstOver ⟨Nat.le_of_ble_eq_true rfl, Nat.le_of_ble_eq_true rfl⟩ rfl rfl (Nat.le_of_ble_eq_true rfl) dX7_firstShown_32 ?_
  refine z_ist C hl [(6, .int (zI (kFO (co σ) (lane.toNat) 0 row (co σ 8 0 * row)))), (5, .int (zI (kLO (co σ) (lane.toNat) 0 row (co σ 8 0 * row)))), (4, .int (zI (co σ 8 0 * row))), (0, .ref (q 1)), (1, .int (zI side)), (2, .int (zI lane)), (3, .int (zI row))] (by decide) rfl dX7_firstShown_35 (fun ls hl => ?_)
  have L37 : ∀ (n : Nat) (x : Int)  , max 0 (kLO (co σ) lane.toNat 0 row (co σ 8 0 * row) + 1 - x) < (n : Int) → (0 ≤ x ∧ x ≤ 100001) → (kFS (co σ) side lane row = kFSF (co σ) side lane row (kLO (co σ) lane.toNat 0 row (co σ 8 0 * row) + 1 - x).toNat x) → ∀ ls : Array Slot, lv_has ls 7 [(0, .ref (q 1)), (1, .int (zI side)), (2, .int (zI lane)), (3, .int (zI row)), (4, .int (zI (co σ 8 0 * row))), (5, .int (zI (kLO (co σ) (lane.toNat) 0 row (co σ 8 0 * row)))), (6, .int (zI x))] → WO p l e 3 66 s m args below meth c (some (.int (zI (kFS (co σ) side lane row)))) (F0 m 37 ls []) := by
    intro n
    induction n with
    | zero => intro x hm hx hi ls hl; exact False.elim (by omega)
    | succ n ih =>
      intro x hm hx hi ls hl
      have ih37 := ih; clear ih
      refine z_il C hl 6 rfl dX7_firstShown_37 ?_
      refine z_il C hl 5 rfl dX7_firstShown_39 ?_
      refine z_icmp_gt C 68 (by decide) (by omega) (by omega) dX7_firstShown_41 (fun w1 => ?_) (fun w1 => ?_)
      · skip
        refine z_ldc C (n := 10000000) wg_271 (by decide) dX7_firstShown_68 ?_
        exact z_iret B (by rw [hi, show (kLO (co σ) lane.toNat 0 row (co σ 8 0 * row) + 1 - x).toNat = 0 by omega]; rfl) dX7_firstShown_70
      · skip
        have hu : (kLO (co σ) lane.toNat 0 row (co σ 8 0 * row) + 1 - x).toNat = (kLO (co σ) lane.toNat 0 row (co σ 8 0 * row) + 1 - (x + 1)).toNat + 1 := by omega
        rw [hu, kFSF] at hi
        have hfb := kFilm_b hIc side x row
        refine z_aln C hl 0 rfl dX7_firstShown_44 ?_
        refine z_iln C hl 1 rfl dX7_firstShown_45 ?_
        refine z_il C hl 6 rfl dX7_firstShown_46 ?_
        refine z_iln C hl 3 rfl dX7_firstShown_48 ?_
        refine z_vRO C hP hl (c_X7_film (σ := σ) side x row hI (by omega) (by omega) (by omega)) (z_recv C hP (i := 1) (by decide) rfl (ci := 7) rfl) wg_251 wg_2 wg_299 wg_249 wg_250 cw_X7_film ⟨Nat.le_of_ble_eq_true rfl, Nat.le_of_ble_eq_true rfl⟩ rfl rfl (Nat.le_of_ble_eq_true rfl) dX7_firstShown_49 ?_
        refine z_iln C hl 2 rfl dX7_firstShown_52 ?_
        refine z_snRO C hP hl (c_X8_torsoMark (σ := σ) lane )  wg_262 wg_1 wm_260 wg_261 cw_X8_torsoMark ⟨Nat.le_of_ble_eq_true rfl, Nat.le_of_ble_eq_true rfl⟩ rfl rfl (Nat.le_of_ble_eq_true rfl) dX7_firstShown_53 ?_
        refine z_icmp_ne C 62 (by decide) (by omega) (by omega) dX7_firstShown_56 (fun w2 => ?_) (fun w2 => ?_)
        · skip
          refine z_iinc C hl 6 rfl [(6, .int (zI (x + 1))), (0, .ref (q 1)), (1, .int (zI side)), (2, .int (zI lane)), (3, .int (zI row)), (4, .int (zI (co σ 8 0 * row))), (5, .int (zI (kLO (co σ) (lane.toNat) 0 row (co σ 8 0 * row))))] (by decide) rfl dX7_firstShown_62 (fun ls hl => ?_)
          refine z_goto C 37 (by decide) dX7_firstShown_65 ?_
          exact ih37 (x + 1) (by omega) (by omega) (by rw [hi, if_neg w2]) ls (lv_sub hl [1, 2, 3, 4, 5, 6, 0] rfl)
        · skip
          refine z_il C hl 6 rfl dX7_firstShown_59 ?_
          exact z_iret B (by rw [hi, if_pos w2]) dX7_firstShown_61
  exact L37 ((max 0 (kLO (co σ) lane.toNat 0 row (co σ 8 0 * row) + 1 - (kFO (co σ) (lane.toNat) 0 row (co σ 8 0 * row))) : Int).toNat + 1) (kFO (co σ) (lane.toNat) 0 row (co σ 8 0 * row)) (by omega) (by omega) rfl ls (lv_sub hl [3, 4, 5, 6, 2, 1, 0] rfl)

set_option maxHeartbeats 4000000 in
set_option maxRecDepth 100000 in
theorem c_X7_hair {l : Launch} {D : va_G} {q : Nat → Nat} {g : Nat → ClassId} {σ : Mem} (side lane : Int) (hI : TI σ) (hsi : 0 ≤ side ∧ side ≤ 1) (hla : 0 ≤ lane ∧ lane < σ 1 2) : RO l yX7_hair cX7_hair 5 (some .int) 4 92 D q g σ [.ref (q 1), .int (zI side), .int (zI lane)] (some (.int (zI (kHr (co σ) side lane)))) := by
  refine RO.intro (plainFor_of_name (by decide)) (Nat.le_of_ble_eq_true rfl) (fun p e s m args below meth c ls B hP hl => ?_)
  have C := B.1
  have hl : lv_has ls 5 [(0, .ref (q 1)), (1, .int (zI side)), (2, .int (zI lane))] := hl
  have h1 := hI.1
  have hIc := TI_cc hI
  refine z_ldc C (n := 10000000) wg_271 (by decide) dX7_hair_0 ?_
  refine z_isn C hl [(3, .int (zI 10000000)), (0, .ref (q 1)), (1, .int (zI side)), (2, .int (zI lane))] (by decide) rfl dX7_hair_2 (fun ls hl => ?_)
  refine z_ic C dX7_hair_3 ?_
  refine z_ist C hl [(4, .int (zI 0)), (3, .int (zI 10000000)), (0, .ref (q 1)), (1, .int (zI side)), (2, .int (zI lane))] (by decide) rfl dX7_hair_4 (fun ls hl => ?_)
  have L6 : ∀ (n : Nat) (x : Int) (r : Int)  , 6 - r < (n : Int) → (0 ≤ r ∧ r ≤ 6) → (x = kHrF (co σ) side lane r.toNat) → ∀ ls : Array Slot, lv_has ls 5 [(0, .ref (q 1)), (1, .int (zI side)), (2, .int (zI lane)), (3, .int (zI x)), (4, .int (zI r))] → WO p l e 4 92 s m args below meth c (some (.int (zI (kHr (co σ) side lane)))) (F0 m 6 ls []) := by
    intro n
    induction n with
    | zero => intro x r hm hr hx ls hl; exact False.elim (by omega)
    | succ n ih =>
      intro x r hm hr hx ls hl
      have ih6 := ih; clear ih
      refine z_il C hl 4 rfl dX7_hair_6 ?_
      refine z_bp C dX7_hair_8 rfl ?_
      refine z_icmp_ge C 32 (by decide) (by omega) (by omega) dX7_hair_10 (fun w1 => ?_) (fun w1 => ?_)
      · skip
        refine z_iln C hl 3 rfl dX7_hair_32 ?_
        exact z_iret B (by rw [hx, show r.toNat = 6 by omega]; rfl) dX7_hair_33
      · skip
        have hxb := kHrF_b hIc (side := side) (lane := lane) (by omega) r.toNat (by omega)
        have hfb := kFS_b hIc (side := side) (lane := lane) (row := r) (by omega) (by omega)
        refine z_iln C hl 3 rfl dX7_hair_13 ?_
        refine z_aln C hl 0 rfl dX7_hair_14 ?_
        refine z_iln C hl 1 rfl dX7_hair_15 ?_
        refine z_iln C hl 2 rfl dX7_hair_16 ?_
        refine z_il C hl 4 rfl dX7_hair_17 ?_
        refine z_vRO C hP hl (c_X7_firstShown (σ := σ) side lane r hI (by omega) (by omega) (by omega)) (z_recv C hP (i := 1) (by decide) rfl (ci := 7) rfl) wg_275 wg_2 wg_272 wg_273 wg_274 cw_X7_firstShown ⟨Nat.le_of_ble_eq_true rfl, Nat.le_of_ble_eq_true rfl⟩ rfl rfl (Nat.le_of_ble_eq_true rfl) dX7_hair_19 ?_
        refine z_sRO C hP hl (c_J9_min_7cf53 (σ := σ) x (kFS (co σ) side lane r) (by omega) (by omega))  wg_288 wg_11 wg_300 wg_287 cw_J9_min_7cf53 ⟨Nat.le_of_ble_eq_true rfl, Nat.le_of_ble_eq_true rfl⟩ rfl rfl (Nat.le_of_ble_eq_true rfl) dX7_hair_22 ?_
        refine z_isn C hl [(3, .int (zI (min x (kFS (co σ) side lane r)))), (0, .ref (q 1)), (1, .int (zI side)), (2, .int (zI lane)), (4, .int (zI r))] (by decide) rfl dX7_hair_25 (fun ls hl => ?_)
        refine z_iinc C hl 4 rfl [(4, .int (zI (r + 1))), (3, .int (zI (min x (kFS (co σ) side lane r)))), (0, .ref (q 1)), (1, .int (zI side)), (2, .int (zI lane))] (by decide) rfl dX7_hair_26 (fun ls hl => ?_)
        refine z_goto C 6 (by decide) dX7_hair_29 ?_
        exact ih6 (min x (kFS (co σ) side lane r)) (r + 1) (by omega) (by omega) (by rw [show (r + 1).toNat = r.toNat + 1 by omega, kHrF, ← hx, show ((r.toNat : Nat) : Int) = r by omega]) ls (lv_sub hl [2, 3, 4, 1, 0] rfl)
  exact L6 ((6 - 0 : Int).toNat + 1) 10000000 0 (by omega) (by omega) rfl ls (lv_sub hl [2, 3, 4, 1, 0] rfl)

set_option maxHeartbeats 4000000 in
set_option maxRecDepth 100000 in
theorem c_X7_joined {l : Launch} {D : va_G} {q : Nat → Nat} {g : Nat → ClassId} {σ : Mem} (lane : Int) (hI : TI σ) (hla : 0 ≤ lane ∧ lane < σ 1 2) : RO l yX7_joined cX7_joined 2 (some .int) 5 116 D q g σ [.ref (q 1), .int (zI lane)] (some (.int (zI (kJn (co σ) lane)))) := by
  refine RO.intro (plainFor_of_name (by decide)) (Nat.le_of_ble_eq_true rfl) (fun p e s m args below meth c ls B hP hl => ?_)
  have C := B.1
  have hl : lv_has ls 2 [(0, .ref (q 1)), (1, .int (zI lane))] := hl
  have h1 := hI.1
  have hIc := TI_cc hI
  have ha := kHr_b hIc (side := 0) (lane := lane) (by omega)
  have hb := kHr_b hIc (side := 1) (lane := lane) (by omega)
  refine z_aln C hl 0 rfl dX7_joined_0 ?_
  refine z_ic C dX7_joined_1 ?_
  refine z_iln C hl 1 rfl dX7_joined_2 ?_
  refine z_vRO C hP hl (c_X7_hair (σ := σ) 0 lane hI (by omega) (by omega)) (z_recv C hP (i := 1) (by decide) rfl (ci := 7) rfl) wg_270 wg_2 wg_309 wg_268 wg_269 cw_X7_hair ⟨Nat.le_of_ble_eq_true rfl, Nat.le_of_ble_eq_true rfl⟩ rfl rfl (Nat.le_of_ble_eq_true rfl) dX7_joined_3 ?_
  refine z_aln C hl 0 rfl dX7_joined_6 ?_
  refine z_ic C dX7_joined_7 ?_
  refine z_iln C hl 1 rfl dX7_joined_8 ?_
  refine z_vRO C hP hl (c_X7_hair (σ := σ) 1 lane hI (by omega) (by omega)) (z_recv C hP (i := 1) (by decide) rfl (ci := 7) rfl) wg_270 wg_2 wg_309 wg_268 wg_269 cw_X7_hair ⟨Nat.le_of_ble_eq_true rfl, Nat.le_of_ble_eq_true rfl⟩ rfl rfl (Nat.le_of_ble_eq_true rfl) dX7_joined_9 ?_
  refine z_sRO C hP hl (c_J9_min_7cf53 (σ := σ) (kHr (co σ) 0 lane) (kHr (co σ) 1 lane) (by omega) (by omega))  wg_288 wg_11 wg_300 wg_287 cw_J9_min_7cf53 ⟨Nat.le_of_ble_eq_true rfl, Nat.le_of_ble_eq_true rfl⟩ rfl rfl (Nat.le_of_ble_eq_true rfl) dX7_joined_12 ?_
  exact z_iret B rfl dX7_joined_15

set_option maxHeartbeats 4000000 in
set_option maxRecDepth 100000 in
theorem c_X7_leaned {l : Launch} {D : va_G} {q : Nat → Nat} {g : Nat → ClassId} {σ : Mem} (lane : Int) (hI : TI σ) (hla : 0 ≤ lane ∧ lane < σ 1 2) : RO l yX7_leaned cX7_leaned 2 (some .int) 4 89 D q g σ [.ref (q 1), .int (zI lane)] (some (.int (zI (kLn (co σ) lane)))) := by
  refine RO.intro (plainFor_of_name (by decide)) (Nat.le_of_ble_eq_true rfl) (fun p e s m args below meth c ls B hP hl => ?_)
  have C := B.1
  have hl : lv_has ls 2 [(0, .ref (q 1)), (1, .int (zI lane))] := hl
  have h1 := hI.1
  have h2 := hI.2.1
  refine z_aln C hl 0 rfl dX7_leaned_0 ?_
  refine gf_X7_11 C hP dX7_leaned_1 ?_
  refine z_iln C hl 1 rfl dX7_leaned_4 ?_
  refine z_aald C hP (i := 7) (t := 2) (b := 26) (by decide) rfl (fun _ => rfl) (by omega) (by decide) dX7_leaned_5 ?_
  refine z_aln C hl 0 rfl dX7_leaned_6 ?_
  refine gf_X7_17 C hP dX7_leaned_7 ?_
  refine z_ic C dX7_leaned_10 ?_
  refine z_ialk C hP (i := 8) (by decide) (fun _ => rfl) 0 rfl (by decide) (by decide) dX7_leaned_11 ?_
  refine z_vRO C hP hl (c_X4_crossing (σ := σ) (j := (lane.toNat)) (σ 8 0) (by omega) hI (by omega)) (z_recv C hP (i := (26 + lane.toNat)) (by omega) (cE_run (j := lane.toNat) (by omega) _) (ci := 4) rfl) wg_313 wg_3 wg_320 wg_311 wg_312 cw_X4_crossing ⟨Nat.le_of_ble_eq_true rfl, Nat.le_of_ble_eq_true rfl⟩ rfl rfl (Nat.le_of_ble_eq_true rfl) dX7_leaned_12 ?_
  exact z_iret B rfl dX7_leaned_15

set_option maxHeartbeats 4000000 in
set_option maxRecDepth 100000 in
theorem c_X7_isHidden {l : Launch} {D : va_G} {q : Nat → Nat} {g : Nat → ClassId} {σ : Mem} (lane : Int) (hI : TI σ) (hla : 0 ≤ lane ∧ lane < σ 1 2) : RO l yX7_isHidden cX7_isHidden 2 (some .boolean) 6 137 D q g σ [.ref (q 1), .int (zI lane)] (some (.int (zI (bz (kHid (co σ) lane = true))))) := by
  refine RO.intro (plainFor_of_name (by decide)) (Nat.le_of_ble_eq_true rfl) (fun p e s m args below meth c ls B hP hl => ?_)
  have C := B.1
  have hl : lv_has ls 2 [(0, .ref (q 1)), (1, .int (zI lane))] := hl
  have h1 := hI.1
  have hIc := TI_cc hI
  have ha := kJn_b hIc (lane := lane) (by omega)
  have hb := kLn_b hIc (lane := lane) (by omega)
  refine z_aln C hl 0 rfl dX7_isHidden_0 ?_
  refine gf_X7_11 C hP dX7_isHidden_1 ?_
  refine z_iln C hl 1 rfl dX7_isHidden_4 ?_
  refine z_aald C hP (i := 7) (t := 2) (b := 26) (by decide) rfl (fun _ => rfl) (by omega) (by decide) dX7_isHidden_5 ?_
  refine z_vRO C hP hl (c_X4_hasTorso (σ := σ) (j := (lane.toNat))  (by omega) hI) (z_recv C hP (i := (26 + lane.toNat)) (by omega) (cE_run (j := lane.toNat) (by omega) _) (ci := 4) rfl) wg_328 wg_3 wg_325 wg_326 wg_327 cw_X4_hasTorso ⟨Nat.le_of_ble_eq_true rfl, Nat.le_of_ble_eq_true rfl⟩ rfl rfl (Nat.le_of_ble_eq_true rfl) dX7_isHidden_6 ?_
  refine z_bif_eq C 29 (by decide) dX7_isHidden_9 (fun w1 => ?_) (fun w1 => ?_)
  · skip
    refine z_ic C dX7_isHidden_29 ?_
    exact z_bret0 B (by unfold kHid; simp [w1] <;> omega) dX7_isHidden_30
  · skip
    refine z_aln C hl 0 rfl dX7_isHidden_12 ?_
    refine z_iln C hl 1 rfl dX7_isHidden_13 ?_
    refine z_vRO C hP hl (c_X7_joined (σ := σ) lane hI (by omega)) (z_recv C hP (i := 1) (by decide) rfl (ci := 7) rfl) wg_308 wg_2 wg_329 wg_306 wg_307 cw_X7_joined ⟨Nat.le_of_ble_eq_true rfl, Nat.le_of_ble_eq_true rfl⟩ rfl rfl (Nat.le_of_ble_eq_true rfl) dX7_isHidden_14 ?_
    refine z_aln C hl 0 rfl dX7_isHidden_17 ?_
    refine z_iln C hl 1 rfl dX7_isHidden_18 ?_
    refine z_vRO C hP hl (c_X7_leaned (σ := σ) lane hI (by omega)) (z_recv C hP (i := 1) (by decide) rfl (ci := 7) rfl) wg_319 wg_2 wg_330 wg_317 wg_318 cw_X7_leaned ⟨Nat.le_of_ble_eq_true rfl, Nat.le_of_ble_eq_true rfl⟩ rfl rfl (Nat.le_of_ble_eq_true rfl) dX7_isHidden_19 ?_
    refine z_icmp_le C 29 (by decide) (by omega) (by omega) dX7_isHidden_22 (fun w2 => ?_) (fun w2 => ?_)
    · skip
      refine z_ic C dX7_isHidden_29 ?_
      exact z_bret0 B (by unfold kHid; simp [w1, w2] <;> omega) dX7_isHidden_30
    · skip
      refine z_ic C dX7_isHidden_25 ?_
      refine z_goto C 30 (by decide) dX7_isHidden_26 ?_
      exact z_bret1 B (by unfold kHid; simp [w1, w2] <;> omega) dX7_isHidden_30

set_option maxHeartbeats 4000000 in
set_option maxRecDepth 100000 in
theorem c_X7_hears {l : Launch} {D : va_G} {q : Nat → Nat} {g : Nat → ClassId} {σ : Mem} (lane : Int) (hI : TI σ) (hla : 0 ≤ lane ∧ lane < σ 1 2) : RO l yX7_hears cX7_hears 3 (some .int) 1 21 D q g σ [.ref (q 1), .int (zI lane)] (some (.int (zI (kHe (co σ) lane)))) := by
  refine RO.intro (plainFor_of_name (by decide)) (Nat.le_of_ble_eq_true rfl) (fun p e s m args below meth c ls B hP hl => ?_)
  have C := B.1
  have hl : lv_has ls 3 [(0, .ref (q 1)), (1, .int (zI lane))] := hl
  have h1 := hI.1
  have h2 := hI.2.1
  have e12 : co σ 1 2 = σ 1 2 := rfl
  have e83 : co σ 8 3 = σ 8 3 := rfl
  refine z_aln C hl 0 rfl dX7_hears_0 ?_
  refine gf_X7_17 C hP dX7_hears_1 ?_
  refine z_ic C dX7_hears_4 ?_
  refine z_ialk C hP (i := 8) (by decide) (fun _ => rfl) 3 rfl (by decide) (by decide) dX7_hears_5 ?_
  refine z_ic C dX7_hears_6 ?_
  refine z_icmp_ne C 25 (by decide) (by omega) (by omega) dX7_hears_7 (fun w1 => ?_) (fun w1 => ?_)
  · skip
    refine z_iln C hl 1 rfl dX7_hears_25 ?_
    refine z_isn C hl [(2, .int (zI lane)), (0, .ref (q 1)), (1, .int (zI lane))] (by decide) rfl dX7_hears_26 (fun ls hl => ?_)
    refine z_ic C dX7_hears_27 ?_
    refine z_iln C hl 0 rfl dX7_hears_28 ?_
    refine z_imul C dX7_hears_29 ?_
    exact z_iret B (by unfold kHe; split <;> omega) dX7_hears_30
  · skip
    refine z_iln C hl 1 rfl dX7_hears_10 ?_
    refine z_aln C hl 0 rfl dX7_hears_11 ?_
    refine gf_X7_22 C hP dX7_hears_12 ?_
    refine z_ic C dX7_hears_15 ?_
    refine z_isub C dX7_hears_16 ?_
    refine z_iln C hl 1 rfl dX7_hears_17 ?_
    refine z_isub C dX7_hears_18 ?_
    refine z_sRO C hP hl (c_J9_min_7cf53 (σ := σ) lane (((σ 1 2) - 1) - lane) (by omega) (by omega))  wg_288 wg_11 wg_300 wg_287 cw_J9_min_7cf53 ⟨Nat.le_of_ble_eq_true rfl, Nat.le_of_ble_eq_true rfl⟩ rfl rfl (Nat.le_of_ble_eq_true rfl) dX7_hears_19 ?_
    refine z_goto C 26 (by decide) dX7_hears_22 ?_
    refine z_isn C hl [(2, .int (zI (min lane (((σ 1 2) - 1) - lane)))), (0, .ref (q 1)), (1, .int (zI lane))] (by decide) rfl dX7_hears_26 (fun ls hl => ?_)
    refine z_ic C dX7_hears_27 ?_
    refine z_iln C hl 0 rfl dX7_hears_28 ?_
    refine z_imul C dX7_hears_29 ?_
    exact z_iret B (by unfold kHe; split <;> omega) dX7_hears_30

set_option maxHeartbeats 4000000 in
set_option maxRecDepth 100000 in
theorem c_X7_early {l : Launch} {D : va_G} {q : Nat → Nat} {g : Nat → ClassId} {σ : Mem} (lane : Int) (hI : TI σ) (hla : 0 ≤ lane ∧ lane < σ 1 2) : RO l yX7_early cX7_early 3 (some .int) 2 43 D q g σ [.ref (q 1), .int (zI lane)] (some (.int (zI (kEa (co σ) lane)))) := by
  refine RO.intro (plainFor_of_name (by decide)) (Nat.le_of_ble_eq_true rfl) (fun p e s m args below meth c ls B hP hl => ?_)
  have C := B.1
  have hl : lv_has ls 3 [(0, .ref (q 1)), (1, .int (zI lane))] := hl
  have h1 := hI.1
  have h2 := hI.2.1
  have hIc := TI_cc hI
  have hb := hI.2.2.1 lane.toNat (by omega)
  have hh := kHe_b hIc (lane := lane) hla
  have e82 : co σ 8 2 = σ 8 2 := rfl
  have e26 := congrFun (co_run (σ := σ) (j := lane.toNat) (by omega)) 4
  refine z_aln C hl 0 rfl dX7_early_0 ?_
  refine gf_X7_11 C hP dX7_early_1 ?_
  refine z_iln C hl 1 rfl dX7_early_4 ?_
  refine z_aald C hP (i := 7) (t := 2) (b := 26) (by decide) rfl (fun _ => rfl) (by omega) (by decide) dX7_early_5 ?_
  refine gf_X7_83 C hP (j := lane.toNat) (by omega) dX7_early_6 ?_
  refine z_isn C hl [(2, .int (zI (σ (26 + lane.toNat) 4))), (0, .ref (q 1)), (1, .int (zI lane))] (by decide) rfl dX7_early_9 (fun ls hl => ?_)
  refine z_iln C hl 0 rfl dX7_early_10 ?_
  refine z_bp C dX7_early_11 rfl ?_
  refine z_icmp_ne C 19 (by decide) (by omega) (by omega) dX7_early_13 (fun w1 => ?_) (fun w1 => ?_)
  · skip
    refine z_iln C hl 0 rfl dX7_early_19 ?_
    refine z_aln C hl 1 rfl dX7_early_20 ?_
    refine z_iln C hl 2 rfl dX7_early_21 ?_
    refine z_vRO C hP hl (c_X7_hears (σ := σ) lane hI (by omega)) (z_recv C hP (i := 1) (by decide) rfl (ci := 7) rfl) wg_334 wg_2 wg_339 wg_332 wg_333 cw_X7_hears ⟨Nat.le_of_ble_eq_true rfl, Nat.le_of_ble_eq_true rfl⟩ rfl rfl (Nat.le_of_ble_eq_true rfl) dX7_early_22 ?_
    refine z_aln C hl 1 rfl dX7_early_25 ?_
    refine gf_X7_17 C hP dX7_early_26 ?_
    refine z_ic C dX7_early_29 ?_
    refine z_ialk C hP (i := 8) (by decide) (fun _ => rfl) 2 rfl (by decide) (by decide) dX7_early_30 ?_
    refine z_iadd C dX7_early_31 ?_
    refine z_icmp_ge C 39 (by decide) (by omega) (by omega) dX7_early_32 (fun w2 => ?_) (fun w2 => ?_)
    · skip
      refine z_ic C dX7_early_39 ?_
      exact z_iret B (by unfold kEa; rw [e26]; split <;> (try split) <;> omega) dX7_early_40
    · skip
      refine z_ic C dX7_early_35 ?_
      refine z_goto C 40 (by decide) dX7_early_36 ?_
      exact z_iret B (by unfold kEa; rw [e26]; split <;> (try split) <;> omega) dX7_early_40
  · skip
    refine z_bp C dX7_early_16 rfl ?_
    exact z_iret B (by unfold kEa; rw [e26]; split <;> (try split) <;> omega) dX7_early_18

set_option maxHeartbeats 4000000 in
set_option maxRecDepth 100000 in
theorem c_X7_areMoved {l : Launch} {D : va_G} {q : Nat → Nat} {g : Nat → ClassId} {σ : Mem} (lane other : Int) (hI : TI σ) (hla : 0 ≤ lane ∧ lane < σ 1 2) (hlb : 0 ≤ other ∧ other < σ 1 2) : RO l yX7_areMoved cX7_areMoved 6 (some .boolean) 5 110 D q g σ [.ref (q 1), .int (zI lane), .int (zI other)] (some (.int (zI (bz (kMv (co σ) lane other = true))))) := by
  refine RO.intro (plainFor_of_name (by decide)) (Nat.le_of_ble_eq_true rfl) (fun p e s m args below meth c ls B hP hl => ?_)
  have C := B.1
  have hl : lv_has ls 6 [(0, .ref (q 1)), (1, .int (zI lane)), (2, .int (zI other))] := hl
  have h1 := hI.1
  have hIc := TI_cc hI
  have ha := kLn_b hIc (lane := lane) (by omega)
  have hb := kLn_b hIc (lane := other) (by omega)
  have hc := kCr_b hIc (j := lane.toNat) (by omega) (lean := 0) (by omega)
  have hd := kCr_b hIc (j := other.toNat) (by omega) (lean := 0) (by omega)
  have hs1 := sgn_b (kCr (co σ) lane.toNat 0 - kCr (co σ) other.toNat 0)
  have hs2 := sgn_b (kLn (co σ) lane - kLn (co σ) other)
  refine z_aln C hl 0 rfl dX7_areMoved_0 ?_
  refine gf_X7_11 C hP dX7_areMoved_1 ?_
  refine z_iln C hl 1 rfl dX7_areMoved_4 ?_
  refine z_aald C hP (i := 7) (t := 2) (b := 26) (by decide) rfl (fun _ => rfl) (by omega) (by decide) dX7_areMoved_5 ?_
  refine z_asn C hl [(3, .ref (q (26 + lane.toNat))), (0, .ref (q 1)), (1, .int (zI lane)), (2, .int (zI other))] (by decide) rfl dX7_areMoved_6 (fun ls hl => ?_)
  refine z_aln C hl 1 rfl dX7_areMoved_7 ?_
  refine gf_X7_11 C hP dX7_areMoved_8 ?_
  refine z_iln C hl 3 rfl dX7_areMoved_11 ?_
  refine z_aald C hP (i := 7) (t := 2) (b := 26) (by decide) rfl (fun _ => rfl) (by omega) (by decide) dX7_areMoved_12 ?_
  refine z_ast C hl [(4, .ref (q (26 + other.toNat))), (3, .ref (q (26 + lane.toNat))), (0, .ref (q 1)), (1, .int (zI lane)), (2, .int (zI other))] (by decide) rfl dX7_areMoved_13 (fun ls hl => ?_)
  refine z_aln C hl 1 rfl dX7_areMoved_15 ?_
  refine z_vRO C hP hl (c_X4_hasTorso (σ := σ) (j := (lane.toNat))  (by omega) hI) (z_recv C hP (i := (26 + lane.toNat)) (by omega) (cE_run (j := lane.toNat) (by omega) _) (ci := 4) rfl) wg_328 wg_3 wg_325 wg_326 wg_327 cw_X4_hasTorso ⟨Nat.le_of_ble_eq_true rfl, Nat.le_of_ble_eq_true rfl⟩ rfl rfl (Nat.le_of_ble_eq_true rfl) dX7_areMoved_16 ?_
  refine z_bif_eq C 30 (by decide) dX7_areMoved_19 (fun w1 => ?_) (fun w1 => ?_)
  · skip
    refine z_ic C dX7_areMoved_30 ?_
    exact z_bret0 B (by unfold kMv; simp [w1]) dX7_areMoved_31
  · skip
    refine z_al C hl 0 rfl dX7_areMoved_22 ?_
    refine z_vRO C hP hl (c_X4_hasTorso (σ := σ) (j := (other.toNat))  (by omega) hI) (z_recv C hP (i := (26 + other.toNat)) (by omega) (cE_run (j := other.toNat) (by omega) _) (ci := 4) rfl) wg_328 wg_3 wg_325 wg_326 wg_327 cw_X4_hasTorso ⟨Nat.le_of_ble_eq_true rfl, Nat.le_of_ble_eq_true rfl⟩ rfl rfl (Nat.le_of_ble_eq_true rfl) dX7_areMoved_24 ?_
    refine z_bif_ne C 32 (by decide) dX7_areMoved_27 (fun w2 => ?_) (fun w2 => ?_)
    · skip
      refine z_aln C hl 1 rfl dX7_areMoved_32 ?_
      refine z_ic C dX7_areMoved_33 ?_
      refine z_vRO C hP hl (c_X4_crossing (σ := σ) (j := (lane.toNat)) 0 (by omega) hI (by omega)) (z_recv C hP (i := (26 + lane.toNat)) (by omega) (cE_run (j := lane.toNat) (by omega) _) (ci := 4) rfl) wg_313 wg_3 wg_320 wg_311 wg_312 cw_X4_crossing ⟨Nat.le_of_ble_eq_true rfl, Nat.le_of_ble_eq_true rfl⟩ rfl rfl (Nat.le_of_ble_eq_true rfl) dX7_areMoved_34 ?_
      refine z_al C hl 0 rfl dX7_areMoved_37 ?_
      refine z_ic C dX7_areMoved_39 ?_
      refine z_vRO C hP hl (c_X4_crossing (σ := σ) (j := (other.toNat)) 0 (by omega) hI (by omega)) (z_recv C hP (i := (26 + other.toNat)) (by omega) (cE_run (j := other.toNat) (by omega) _) (ci := 4) rfl) wg_313 wg_3 wg_320 wg_311 wg_312 cw_X4_crossing ⟨Nat.le_of_ble_eq_true rfl, Nat.le_of_ble_eq_true rfl⟩ rfl rfl (Nat.le_of_ble_eq_true rfl) dX7_areMoved_40 ?_
      refine z_sRO C hP hl (c_J6_compare_7cf53 (σ := σ) (kCr (co σ) (lane.toNat) 0) (kCr (co σ) (other.toNat) 0) (by omega) (by omega))  wg_350 wg_12 wg_348 wg_349 cw_J6_compare_7cf53 ⟨Nat.le_of_ble_eq_true rfl, Nat.le_of_ble_eq_true rfl⟩ rfl rfl (Nat.le_of_ble_eq_true rfl) dX7_areMoved_43 ?_
      refine z_ist C hl [(5, .int (zI (sgn ((kCr (co σ) (lane.toNat) 0) - (kCr (co σ) (other.toNat) 0))))), (4, .ref (q (26 + other.toNat))), (3, .ref (q (26 + lane.toNat))), (0, .ref (q 1)), (1, .int (zI lane)), (2, .int (zI other))] (by decide) rfl dX7_areMoved_46 (fun ls hl => ?_)
      refine z_il C hl 0 rfl dX7_areMoved_48 ?_
      refine z_aln C hl 3 rfl dX7_areMoved_50 ?_
      refine z_iln C hl 4 rfl dX7_areMoved_51 ?_
      refine z_vRO C hP hl (c_X7_leaned (σ := σ) lane hI (by omega)) (z_recv C hP (i := 1) (by decide) rfl (ci := 7) rfl) wg_319 wg_2 wg_330 wg_317 wg_318 cw_X7_leaned ⟨Nat.le_of_ble_eq_true rfl, Nat.le_of_ble_eq_true rfl⟩ rfl rfl (Nat.le_of_ble_eq_true rfl) dX7_areMoved_52 ?_
      refine z_aln C hl 3 rfl dX7_areMoved_55 ?_
      refine z_iln C hl 5 rfl dX7_areMoved_56 ?_
      refine z_vRO C hP hl (c_X7_leaned (σ := σ) other hI (by omega)) (z_recv C hP (i := 1) (by decide) rfl (ci := 7) rfl) wg_319 wg_2 wg_330 wg_317 wg_318 cw_X7_leaned ⟨Nat.le_of_ble_eq_true rfl, Nat.le_of_ble_eq_true rfl⟩ rfl rfl (Nat.le_of_ble_eq_true rfl) dX7_areMoved_57 ?_
      refine z_sRO C hP hl (c_J6_compare_7cf53 (σ := σ) (kLn (co σ) lane) (kLn (co σ) other) (by omega) (by omega))  wg_350 wg_12 wg_348 wg_349 cw_J6_compare_7cf53 ⟨Nat.le_of_ble_eq_true rfl, Nat.le_of_ble_eq_true rfl⟩ rfl rfl (Nat.le_of_ble_eq_true rfl) dX7_areMoved_60 ?_
      refine z_icmp_eq C 70 (by decide) (by omega) (by omega) dX7_areMoved_63 (fun w3 => ?_) (fun w3 => ?_)
      · skip
        refine z_ic C dX7_areMoved_70 ?_
        exact z_bret0 B (by unfold kMv; simp [w1, w2, w3]) dX7_areMoved_71
      · skip
        refine z_ic C dX7_areMoved_66 ?_
        refine z_goto C 71 (by decide) dX7_areMoved_67 ?_
        exact z_bret1 B (by unfold kMv; simp [w1, w2, w3]) dX7_areMoved_71
    · skip
      refine z_ic C dX7_areMoved_30 ?_
      exact z_bret0 B (by unfold kMv; simp [w1, w2]) dX7_areMoved_31

set_option maxHeartbeats 4000000 in
set_option maxRecDepth 100000 in
theorem c_X7_countTorsos {l : Launch} {D : va_G} {q : Nat → Nat} {g : Nat → ClassId} {σ : Mem} (hI : TI σ) : RO l yX7_countTorsos cX7_countTorsos 3 (some .int) 1 21 D q g σ [.ref (q 1)] (some (.int (zI (kCT (co σ))))) := by
  refine RO.intro (plainFor_of_name (by decide)) (Nat.le_of_ble_eq_true rfl) (fun p e s m args below meth c ls B hP hl => ?_)
  have C := B.1
  have hl : lv_has ls 3 [(0, .ref (q 1))] := hl
  have h1 := hI.1
  have e12 : co σ 1 2 = σ 1 2 := rfl
  refine z_ic C dX7_countTorsos_0 ?_
  refine z_isn C hl [(1, .int (zI 0)), (0, .ref (q 1))] (by decide) rfl dX7_countTorsos_1 (fun ls hl => ?_)
  refine z_ic C dX7_countTorsos_2 ?_
  refine z_isn C hl [(2, .int (zI 0)), (1, .int (zI 0)), (0, .ref (q 1))] (by decide) rfl dX7_countTorsos_3 (fun ls hl => ?_)
  have L4 : ∀ (n : Nat) (x : Int) (k : Int)  , σ 1 2 - k < (n : Int) → (0 ≤ k ∧ k ≤ σ 1 2) → (x = kCTF (co σ) k.toNat) → ∀ ls : Array Slot, lv_has ls 3 [(0, .ref (q 1)), (1, .int (zI x)), (2, .int (zI k))] → WO p l e 1 21 s m args below meth c (some (.int (zI (kCT (co σ))))) (F0 m 4 ls []) := by
    intro n
    induction n with
    | zero => intro x k hm hk hx ls hl; exact False.elim (by omega)
    | succ n ih =>
      intro x k hm hk hx ls hl
      have ih4 := ih; clear ih
      refine z_iln C hl 2 rfl dX7_countTorsos_4 ?_
      refine z_aln C hl 0 rfl dX7_countTorsos_5 ?_
      refine gf_X7_22 C hP dX7_countTorsos_6 ?_
      refine z_icmp_ge C 33 (by decide) (by omega) (by omega) dX7_countTorsos_9 (fun w1 => ?_) (fun w1 => ?_)
      · skip
        refine z_iln C hl 1 rfl dX7_countTorsos_33 ?_
        exact z_iret B (by rw [hx, kCT, show (co σ 1 2).toNat = k.toNat by omega]) dX7_countTorsos_34
      · skip
        refine z_aln C hl 0 rfl dX7_countTorsos_12 ?_
        refine gf_X7_11 C hP dX7_countTorsos_13 ?_
        refine z_iln C hl 2 rfl dX7_countTorsos_16 ?_
        refine z_aald C hP (i := 7) (t := 2) (b := 26) (by decide) rfl (fun _ => rfl) (by omega) (by decide) dX7_countTorsos_17 ?_
        refine z_vRO C hP hl (c_X4_hasTorso (σ := σ) (j := (k.toNat))  (by omega) hI) (z_recv C hP (i := (26 + k.toNat)) (by omega) (cE_run (j := k.toNat) (by omega) _) (ci := 4) rfl) wg_328 wg_3 wg_325 wg_326 wg_327 cw_X4_hasTorso ⟨Nat.le_of_ble_eq_true rfl, Nat.le_of_ble_eq_true rfl⟩ rfl rfl (Nat.le_of_ble_eq_true rfl) dX7_countTorsos_18 ?_
        refine z_bif_eq C 27 (by decide) dX7_countTorsos_21 (fun w2 => ?_) (fun w2 => ?_)
        · skip
          refine z_iinc C hl 2 rfl [(2, .int (zI (k + 1))), (0, .ref (q 1)), (1, .int (zI x))] (by decide) rfl dX7_countTorsos_27 (fun ls hl => ?_)
          refine z_goto C 4 (by decide) dX7_countTorsos_30 ?_
          exact ih4 x (k + 1) (by omega) (by omega) (by rw [show (k + 1).toNat = k.toNat + 1 by omega, kCTF, if_neg w2, hx]) ls (lv_sub hl [1, 2, 0] rfl)
        · skip
          refine z_iinc C hl 1 rfl [(1, .int (zI (x + 1))), (0, .ref (q 1)), (2, .int (zI k))] (by decide) rfl dX7_countTorsos_24 (fun ls hl => ?_)
          refine z_iinc C hl 2 rfl [(2, .int (zI (k + 1))), (1, .int (zI (x + 1))), (0, .ref (q 1))] (by decide) rfl dX7_countTorsos_27 (fun ls hl => ?_)
          refine z_goto C 4 (by decide) dX7_countTorsos_30 ?_
          exact ih4 (x + 1) (k + 1) (by omega) (by omega) (by rw [show (k + 1).toNat = k.toNat + 1 by omega, kCTF, if_pos w2, hx]) ls (lv_sub hl [2, 1, 0] rfl)
  exact L4 ((σ 1 2 - 0 : Int).toNat + 1) 0 0 (by omega) (by omega) rfl ls (lv_sub hl [2, 1, 0] rfl)
end
section
/-! bits -/
theorem sh_l : ∀ n, n < 32 → ((nI n &&& 31).toBitVec.smod 32).toNat = n := by decide +kernel
theorem ni_or (a b : Nat) : nI a ||| nI b = nI (a ||| b) := by
  apply Int32.toBitVec_inj.1
  show BitVec.ofNat 32 a ||| BitVec.ofNat 32 b = BitVec.ofNat 32 (a ||| b)
  apply BitVec.eq_of_getLsbD_eq
  intro i hi
  simp [hi]
theorem zI_shr {a b : Int} (h : 0 ≤ a ∧ a < 2147483648 ∧ 0 ≤ b ∧ b < 32) : zI a >>> (zI b &&& 31) = zI (a / 2 ^ b.toNat) := by
  obtain ⟨n, rfl⟩ : ∃ n : Nat, a = (n : Int) := ⟨a.toNat, by omega⟩
  obtain ⟨k, rfl⟩ : ∃ n : Nat, b = (n : Int) := ⟨b.toNat, by omega⟩
  have e : ((n : Int) / 2 ^ (k : Int).toNat) = ((n / 2 ^ k : Nat) : Int) := by simp
  rw [e, zI_nI, zI_nI, zI_nI]
  exact pk_shrN (by omega) _ k (sh_l k (by omega))
theorem zI_shl {a b : Int} (h : a = 1 ∧ 0 ≤ b ∧ b < 31) : zI a <<< (zI b &&& 31) = zI (a * 2 ^ b.toNat) := by
  obtain ⟨rfl, h⟩ := h
  obtain ⟨k, rfl⟩ : ∃ n : Nat, b = (n : Int) := ⟨b.toNat, by omega⟩
  have e : ((1 : Int) * 2 ^ (k : Int).toNat) = ((1 * 2 ^ k : Nat) : Int) := by simp
  rw [e, zI_nI, zI_nI, show zI 1 = nI 1 from rfl]
  have hk : 2 ^ k ≤ 2 ^ 31 := Nat.pow_le_pow_right (by omega) (by omega)
  exact pk_shlN _ k (sh_l k (by omega)) (by omega)
theorem zI_or {a b : Int} (h : 0 ≤ a ∧ 0 ≤ b) : zI a ||| zI b = zI ((a.toNat ||| b.toNat : Nat) : Int) := by
  obtain ⟨n, rfl⟩ : ∃ n : Nat, a = (n : Int) := ⟨a.toNat, by omega⟩
  obtain ⟨k, rfl⟩ : ∃ n : Nat, b = (n : Int) := ⟨b.toNat, by omega⟩
  rw [zI_nI, zI_nI, zI_nI]; exact ni_or n k
theorem zI_and1 {a : Int} (h : 0 ≤ a ∧ a < 2147483648) : zI a &&& zI 1 = zI (a % 2) := by
  obtain ⟨n, rfl⟩ : ∃ n : Nat, a = (n : Int) := ⟨a.toNat, by omega⟩
  have e : ((n : Int) % 2) = ((n % 2 ^ 1 : Nat) : Int) := by simp
  rw [e, zI_nI, zI_nI]
  exact pk_andN (by omega) 1 (by decide)
section ZBits
variable {p : Program} {l : Launch} {e : Env} {R : Room} {s : State} {m : MethodId} {args : Array Value} {below : List Frame} {meth : Method} {c : Code} {H : Heap} {locs : List Loc} {cells slots : Nat} {Q : State → Prop}
variable {cc : ByteArray} {pc : Nat} {ls : Array Slot} {rest : List Value} {D : va_G} {g : Nat → ClassId} {own : String} {nL : Nat}
theorem z_ishr (C : Cx D g own cc nL p s m args c) {a b : Int} (h : 0 ≤ a ∧ a < 2147483648 ∧ 0 ≤ b ∧ b < 32) (d : decode cc pc = .ok (.ishr, 1)) (k : W p l e R s m args below meth c H locs cells slots Q (F0 m (pc + 1) ls (.int (zI (a / 2 ^ b.toNat)) :: rest))) : W p l e R s m args below meth c H locs cells slots Q (F0 m pc ls (.int (zI b) :: .int (zI a) :: rest)) := lv_ishr C.1.1 C.1.2.1 d (by rw [zI_shr h]; exact k)
theorem z_ishl (C : Cx D g own cc nL p s m args c) {a b : Int} (h : a = 1 ∧ 0 ≤ b ∧ b < 31) (d : decode cc pc = .ok (.ishl, 1)) (k : W p l e R s m args below meth c H locs cells slots Q (F0 m (pc + 1) ls (.int (zI (a * 2 ^ b.toNat)) :: rest))) : W p l e R s m args below meth c H locs cells slots Q (F0 m pc ls (.int (zI b) :: .int (zI a) :: rest)) := lv_ishl C.1.1 C.1.2.1 d (by rw [zI_shl h]; exact k)
theorem z_ior (C : Cx D g own cc nL p s m args c) {a b : Int} (h : 0 ≤ a ∧ 0 ≤ b) (d : decode cc pc = .ok (.ior, 1)) (k : W p l e R s m args below meth c H locs cells slots Q (F0 m (pc + 1) ls (.int (zI ((a.toNat ||| b.toNat : Nat) : Int)) :: rest))) : W p l e R s m args below meth c H locs cells slots Q (F0 m pc ls (.int (zI b) :: .int (zI a) :: rest)) := lv_ior C.1.1 C.1.2.1 d (by rw [zI_or h]; exact k)
theorem z_iand1 (C : Cx D g own cc nL p s m args c) {a : Int} (h : 0 ≤ a ∧ a < 2147483648) (d : decode cc pc = .ok (.iand, 1)) (k : W p l e R s m args below meth c H locs cells slots Q (F0 m (pc + 1) ls (.int (zI (a % 2)) :: rest))) : W p l e R s m args below meth c H locs cells slots Q (F0 m pc ls (.int (zI 1) :: .int (zI a) :: rest)) := lv_iand C.1.1 C.1.2.1 d (by rw [zI_and1 h]; exact k)
end ZBits
theorem sh_b {a : Int} (k : Nat) (h : 0 ≤ a) : 0 ≤ a / 2 ^ k ∧ a / 2 ^ k ≤ a := by
  have h2 : (0 : Int) < 2 ^ k := Int.pow_pos (by omega)
  exact ⟨Int.ediv_nonneg h (by omega), Int.ediv_le_self _ h⟩
/-! the scratch: what a call may leave changed -/
def sc (a b : Nat) : Bool := a == 2 || a == 9 || a == 10 || a == 18 || a == 25 || a == 51 || a == 52 || (a == 44 && (b == 13 || b == 17 || b == 18))
def Fr (σ τ : Mem) : Prop := ∀ a b, sc a b = false → τ a b = σ a b
theorem Fr_rf {σ : Mem} : Fr σ σ := fun _ _ _ => rfl
theorem Fr_tr {σ τ υ : Mem} (h : Fr σ τ) (h2 : Fr τ υ) : Fr σ υ := fun a b hs => (h2 a b hs).trans (h a b hs)
theorem Fr_um {σ τ : Mem} {i j : Nat} {v : Int} (h : Fr σ τ) (hs : sc i j = true) : Fr σ (um τ i j v) := fun a b hf => by
  have : ¬ (a = i ∧ b = j) := fun e => by rw [e.1, e.2, hs] at hf; cases hf
  show (if a = i ∧ b = j then v else τ a b) = _
  rw [if_neg this]; exact h a b hf
theorem cr_sc {a : Nat} (h : cr a = true) (b : Nat) : sc a b = false := by
  unfold cr at h
  simp at h
  unfold sc
  simp
  omega
theorem Fr_co {σ τ : Mem} (h : Fr σ τ) : co τ = co σ := by
  funext a
  unfold co
  by_cases hc : cr a = true
  · rw [if_pos hc, if_pos hc]; funext b; exact h a b (cr_sc hc b)
  · rw [if_neg hc, if_neg hc]
theorem Fr_TI {σ τ : Mem} (h : Fr σ τ) (hI : TI σ) : TI τ := TI_co (Fr_co h) hI
/-- the model's runners and settings are the class's -/
def MR (σ : Mem) : Prop := (σ 44 6 = σ 1 2 ∧ σ 44 7 = σ 8 0 ∧ σ 44 8 = σ 8 1 ∧ σ 44 9 = σ 8 2 ∧ σ 44 10 = σ 8 3) ∧
  (∀ j : Nat, (j : Int) < σ 1 2 → σ 45 j = σ (26 + j) 2 ∧ σ 46 j = σ (26 + j) 3 ∧ σ 50 j = σ (26 + j) 4) ∧
  (∀ j r w : Nat, j < 6 → r < 6 → w < 2 → (σ 47 (2 * (6 * j + r) + w) = 1 ∧ σ (32 + j) (w * 6 + r) ≤ σ (38 + j) (w * 6 + r) ∧ σ 48 (2 * (6 * j + r) + w) = σ (32 + j) (w * 6 + r) ∧ σ 49 (2 * (6 * j + r) + w) = σ (38 + j) (w * 6 + r)) ∨ (σ 47 (2 * (6 * j + r) + w) = 0 ∧ σ (38 + j) (w * 6 + r) < σ (32 + j) (w * 6 + r)))
theorem Fr_MR {σ τ : Mem} (h : Fr σ τ) (hI : TI σ) (hR : MR σ) : MR τ := by
  have h1 := hI.1
  refine ⟨?_, fun j hj => ?_, fun j r w hj hr hw => ?_⟩
  · rw [h 44 6 rfl, h 44 7 rfl, h 44 8 rfl, h 44 9 rfl, h 44 10 rfl, h 1 2 rfl, h 8 0 rfl, h 8 1 rfl, h 8 2 rfl, h 8 3 rfl]; exact hR.1
  · rw [h 1 2 rfl] at hj
    have c := fun b => cr_sc (cr_run (j := j) (by omega)).1 b
    rw [h 45 j rfl, h 46 j rfl, h 50 j rfl, h _ 2 (c 2), h _ 3 (c 3), h _ 4 (c 4)]; exact hR.2.1 j hj
  · rw [h 47 _ rfl, h 48 _ rfl, h 49 _ rfl, h _ _ (cr_sc (cr_run hj).2.1 _), h _ _ (cr_sc (cr_run hj).2.2 _)]; exact hR.2.2 j r w hj hr hw
def mN (x : Int) : Int := if x ≥ 10000000 then -6 else x
def soo (a b : Int) : Int := if a < 0 then b else if b < 0 ∨ a < b then a else b
theorem soo_mN {x y : Int} (hx : 0 ≤ x) (hy : 0 ≤ y) (hx2 : x ≤ 10000000) (hy2 : y ≤ 10000000) : soo (mN x) (mN y) = mN (min x y) := by
  unfold soo mN
  split <;> split <;> (try split) <;> (try split) <;> omega
theorem mN_b {x : Int} (h : 0 ≤ x ∧ x ≤ 10000000) : -6 ≤ mN x ∧ mN x ≤ 9999999 := by unfold mN; split <;> omega
theorem mN_neg {x : Int} (h : 0 ≤ x) : mN x < 0 ↔ 10000000 ≤ x := by unfold mN; split <;> omega
/-! a torso on the film covers the slit, between its first and its last column -/
theorem kScan_cov {T : Mem} {side col row place lane : Int} (hl : 0 ≤ lane) : ∀ (f : Nat) (k : Int), kScan T side col row place f k = 10 * lane + 1 → kCov T lane.toNat 0 row col place = true
  | 0, k, h => by unfold kScan at h; omega
  | f + 1, k, h => by
    unfold kScan at h
    split at h
    · rename_i hc
      rw [show lane = kLane T side k by omega]; exact hc
    · split at h
      · omega
      · exact kScan_cov hl f (k + 1) h
theorem kFilm_cov {T : Mem} {side col row lane : Int} (hl : 0 ≤ lane) (h : kFilm T side col row = 10 * lane + 1) : kCov T lane.toNat 0 row col (T 8 0 * row) = true := kScan_cov hl _ _ h
theorem cov_rng {T : Mem} {j : Nat} {what row col place : Int} (hv : 1 ≤ T (26 + j) 3) (hc : 0 ≤ col ∧ col ≤ 299) (h : kCov T j what row col place = true) : kFO T j what row place ≤ col ∧ col ≤ kLO T j what row place := by
  unfold kCov at h
  have h := of_decide_eq_true h
  generalize hV : T (26 + j) 3 = v at h hv
  have e1 : v * col = col * v := Int.mul_comm _ _
  have e2 : (-col) * v = -(col * v) := Int.neg_mul _ _
  have a1 : -col ≤ (-(place - T (38 + j) (what * 6 + row).toNat - T (26 + j) 2)) / v := (Int.le_ediv_iff_mul_le (by omega)).mpr (by omega)
  have a2 : col ≤ (place - T (32 + j) (what * 6 + row).toNat - T (26 + j) 2) / v := (Int.le_ediv_iff_mul_le (by omega)).mpr (by omega)
  unfold kFO kLO
  rw [hV]; omega
theorem rng_cov {T : Mem} {j : Nat} {what row col place : Int} (hv : 1 ≤ T (26 + j) 3) (h : kFO T j what row place ≤ col ∧ col ≤ kLO T j what row place) : kCov T j what row col place = true := by
  unfold kFO kLO at h
  unfold kCov
  apply decide_eq_true
  generalize hV : T (26 + j) 3 = v at h hv ⊢
  have e1 : v * col = col * v := Int.mul_comm _ _
  have e2 : (-col) * v = -(col * v) := Int.neg_mul _ _
  have a1 : -col ≤ (-(place - T (38 + j) (what * 6 + row).toNat - T (26 + j) 2)) / v := by omega
  have a2 : col ≤ (place - T (32 + j) (what * 6 + row).toNat - T (26 + j) 2) / v := by omega
  have b1 := (Int.le_ediv_iff_mul_le (show 0 < v by omega)).mp a1
  have b2 := (Int.le_ediv_iff_mul_le (show 0 < v by omega)).mp a2
  omega
/-! a search is the least place, or none -/
theorem kFSF_cases (T : Mem) (side lane row : Int) : ∀ (f : Nat) (c : Int), (kFSF T side lane row f c = 10000000 ∧ ∀ d, c ≤ d → d < c + f → ¬ kFilm T side d row = 10 * lane + 1) ∨ (c ≤ kFSF T side lane row f c ∧ kFSF T side lane row f c < c + f ∧ kFilm T side (kFSF T side lane row f c) row = 10 * lane + 1 ∧ ∀ d, c ≤ d → d < kFSF T side lane row f c → ¬ kFilm T side d row = 10 * lane + 1)
  | 0, c => by unfold kFSF; exact Or.inl ⟨rfl, fun d h1 h2 => by omega⟩
  | f + 1, c => by
    unfold kFSF
    by_cases h : kFilm T side c row = 10 * lane + 1
    · rw [if_pos h]; exact Or.inr ⟨by omega, by omega, h, fun d h1 h2 => by omega⟩
    · rw [if_neg h]
      rcases kFSF_cases T side lane row f (c + 1) with ⟨a, b⟩ | ⟨a, b, e, d0⟩
      · refine Or.inl ⟨a, fun d h1 h2 => ?_⟩
        by_cases e : d = c
        · rw [e]; exact h
        · exact b d (by omega) (by omega)
      · refine Or.inr ⟨by omega, by omega, e, fun d h1 h2 => ?_⟩
        by_cases e : d = c
        · rw [e]; exact h
        · exact d0 d (by omega) h2
theorem kFS_all {T : Mem} (hI : TI T) {side lane row : Int} (hl : 0 ≤ lane ∧ lane ≤ 5) (hr : 0 ≤ row ∧ row ≤ 5) : kFSF T side lane row 300 0 = kFS T side lane row := by
  have hm := mul_l hI.2.1.1 hr
  have hb := hI.2.2.1 lane.toNat (by omega)
  have hfo := kFO_b hI (j := lane.toNat) (by omega) (what := 0) (row := row) (place := T 8 0 * row) (by omega) (by omega)
  have hlo := kLO_b hI (j := lane.toNat) (by omega) (what := 0) (row := row) (place := T 8 0 * row) (by omega) (by omega)
  have hin : ∀ d, 0 ≤ d → d ≤ 299 → kFilm T side d row = 10 * lane + 1 → kFO T lane.toNat 0 row (T 8 0 * row) ≤ d ∧ d ≤ kLO T lane.toNat 0 row (T 8 0 * row) := fun d h1 h2 h => cov_rng hb.2.1.1 ⟨h1, h2⟩ (kFilm_cov hl.1 h)
  unfold kFS
  generalize hFO : kFO T lane.toNat 0 row (T 8 0 * row) = fo at *
  generalize hLO : kLO T lane.toNat 0 row (T 8 0 * row) = lo at *
  rcases kFSF_cases T side lane row 300 0 with ⟨a, b⟩ | ⟨a1, a2, a3, a4⟩ <;> rcases kFSF_cases T side lane row (lo + 1 - fo).toNat fo with ⟨c, d⟩ | ⟨c1, c2, c3, c4⟩
  · rw [a, c]
  · exact absurd c3 (b _ (by omega) (by omega))
  · have := hin _ (by omega) (by omega) a3
    exact absurd a3 (d _ (by omega) (by omega))
  · have h1 := hin _ (by omega) (by omega) a3
    generalize kFSF T side lane row 300 0 = x at *
    generalize kFSF T side lane row (lo + 1 - fo).toNat fo = y at *
    rcases Int.lt_trichotomy x y with q | q | q
    · exact absurd a3 (c4 x (by omega) q)
    · exact q
    · exact absurd c3 (a4 y (by omega) q)
/-- what the model's table of first columns holds -/
def FA (σ : Mem) : Prop := ∀ s y r : Nat, s < 2 → y < 6 → r < 6 → σ 51 (6 * (6 * s + y) + r) = mN (kFS (co σ) s r y)
def kRw (T : Mem) (side lane rows : Int) : Nat → Int
  | 0 => 10000000
  | r + 1 => if rows / 2 ^ r % 2 = 1 then min (kRw T side lane rows r) (kFS T side lane r) else kRw T side lane rows r
theorem kRw_b {T : Mem} (hI : TI T) {side lane rows : Int} (hl : 0 ≤ lane ∧ lane ≤ 5) : ∀ r, r ≤ 6 → 0 ≤ kRw T side lane rows r ∧ kRw T side lane rows r ≤ 10000000
  | 0, _ => by unfold kRw; omega
  | r + 1, h => by
    have ih := kRw_b hI hl (side := side) (rows := rows) r (by omega)
    have := kFS_b hI (side := side) hl (row := (r : Int)) (by omega)
    unfold kRw; split <;> omega
theorem kRw_63 {T : Mem} {side lane : Int} : ∀ r, r ≤ 6 → kRw T side lane 63 r = kHrF T side lane r
  | 0, _ => rfl
  | r + 1, h => by
    have e : ∀ k, k < 6 → (63 : Int) / 2 ^ k % 2 = 1 := by decide
    rw [kRw, kHrF, if_pos (e r (by omega)), kRw_63 r (by omega)]
theorem kCrF_has {T : Mem} (hI : TI T) {j : Nat} (hj : j < 6) {lean : Int} (hl : -3 ≤ lean ∧ lean ≤ 3) : ∀ r, r ≤ 6 → (kCrF T j lean r < 10000000 ↔ kHasF T j r = true)
  | 0, _ => by unfold kCrF kHasF; simp
  | r + 1, h => by
    have ih := kCrF_has hI hj hl r (by omega)
    have hb := kCrF_b hI hj hl r (by omega)
    have hm := mul_l hl (b := (r : Int)) (by omega)
    have hf := kFO_b hI hj (what := 0) (row := r) (place := lean * r) (by omega) (by omega)
    unfold kCrF kHasF
    by_cases c : T (32 + j) r ≤ T (38 + j) r
    · rw [if_pos c]; simp [c]; omega
    · rw [if_neg c, ih]; simp [c]
theorem kCr_has {T : Mem} (hI : TI T) {j : Nat} (hj : j < 6) {lean : Int} (hl : -3 ≤ lean ∧ lean ≤ 3) : kCr T j lean < 10000000 ↔ kHas T j = true := kCrF_has hI hj hl 6 (Nat.le_refl 6)
theorem mN_c (x : Int) : (mN x = -6 ∧ 10000000 ≤ x) ∨ (mN x = x ∧ x < 10000000) := by unfold mN; split <;> omega
end
section
/-! the model's table of first columns, on its way -/
def FAP (T : Mem) (f : Nat → Int) (sd yy cl : Int) : Prop := ∀ s y r : Nat, s < 2 → y < 6 → r < 6 → f (6 * (6 * s + y) + r) = if ((s : Int) < sd ∨ ((s : Int) = sd ∧ (y : Int) < yy)) then mN (kFS T s r y) else if ((s : Int) = sd ∧ (y : Int) = yy) then mN (kFSF T s r y (299 - cl).toNat (cl + 1)) else -6
theorem FAP_init {T : Mem} {f : Nat → Int} (h : ∀ i : Nat, (i : Int) < 72 → f i = -6) : FAP T f 0 0 299 := fun s y r hs hy hr => by
  rw [h _ (by omega), if_neg (by omega)]
  split
  · rfl
  · rfl
theorem FAP_no {T : Mem} {f : Nat → Int} {sd yy cl : Int} (h : FAP T f sd yy cl) (hc : 0 ≤ cl ∧ cl ≤ 299) (hf : kFilm T sd cl yy % 10 ≠ 1) : FAP T f sd yy (cl + -1) := fun s y r hs hy hr => by
  rw [h s y r hs hy hr]
  split
  · rfl
  · split
    · rename_i e
      rw [show (299 - (cl + -1)).toNat = (299 - cl).toNat + 1 by omega, show cl + -1 + 1 = cl by omega, kFSF, e.1, e.2, if_neg (by omega)]
    · rfl
theorem FAP_yes {T : Mem} {f : Nat → Int} {sd yy cl : Int} (h : FAP T f sd yy cl) (hc : 0 ≤ cl ∧ cl ≤ 299) (hs : 0 ≤ sd ∧ sd ≤ 1) (hy : 0 ≤ yy ∧ yy ≤ 5) (hb : 0 ≤ kFilm T sd cl yy ∧ kFilm T sd cl yy ≤ 52) (hf : kFilm T sd cl yy % 10 = 1) : FAP T (fun b => if b = (6 * (6 * sd + yy) + kFilm T sd cl yy / 10).toNat then cl else f b) sd yy (cl + -1) := fun s y r hs2 hy2 hr => by
  show (if _ then _ else _) = _
  by_cases e : (s : Int) = sd ∧ (y : Int) = yy
  · rw [if_neg (show ¬ ((s : Int) < sd ∨ ((s : Int) = sd ∧ (y : Int) < yy)) by omega), if_pos e, show (299 - (cl + -1)).toNat = (299 - cl).toNat + 1 by omega, show cl + -1 + 1 = cl by omega, kFSF, e.1, e.2]
    by_cases e2 : kFilm T sd cl yy = 10 * (r : Int) + 1
    · rw [if_pos e2, if_pos (by omega)]; unfold mN; rw [if_neg (by omega)]
    · rw [if_neg e2, if_neg (by omega), h s y r hs2 hy2 hr, if_neg (by omega), if_pos e, e.1, e.2]
  · rw [if_neg (by omega), h s y r hs2 hy2 hr]
    split
    · rfl
    · rfl
theorem FAP_row {T : Mem} (hI : TI T) {f : Nat → Int} {sd yy cl : Int} (h : FAP T f sd yy cl) (hc : cl = -1) (hy : 0 ≤ yy ∧ yy ≤ 5) : FAP T f sd (yy + 1) 299 := fun s y r hs2 hy2 hr => by
  subst hc
  rw [h s y r hs2 hy2 hr]
  by_cases e : (s : Int) = sd ∧ (y : Int) = yy
  · rw [if_neg (by omega), if_pos e, if_pos (by omega)]
    show mN (kFSF T s r y 300 0) = _
    rw [kFS_all hI (by omega) (by omega)]
  · by_cases e2 : (s : Int) < sd ∨ ((s : Int) = sd ∧ (y : Int) < yy)
    · rw [if_pos e2, if_pos (by omega)]
    · rw [if_neg e2, if_neg e, if_neg (by omega)]
      split <;> rfl
theorem FAP_side {T : Mem} {f : Nat → Int} {sd yy : Int} (h : FAP T f sd yy 299) (hy : yy = 6) : FAP T f (sd + 1) 0 299 := fun s y r hs2 hy2 hr => by
  subst hy
  rw [h s y r hs2 hy2 hr]
  by_cases e2 : (s : Int) < sd ∨ (s : Int) = sd
  · rw [if_pos (by omega), if_pos (by omega)]
  · rw [if_neg (by omega), if_neg (by omega), if_neg (by omega)]
    split <;> rfl
theorem FAP_end {T : Mem} {f : Nat → Int} {sd : Int} (h : FAP T f sd 0 299) (hs : sd = 2) : ∀ s y r : Nat, s < 2 → y < 6 → r < 6 → f (6 * (6 * s + y) + r) = mN (kFS T s r y) := fun s y r hs2 hy2 hr => by
  rw [h s y r hs2 hy2 hr, if_pos (by omega)]
theorem ceil_t {u v : Int} (hv : 1 ≤ v) (hu : 0 < u) : (u + v - 1).tdiv v = -((-u) / v) := by
  rw [Int.tdiv_eq_ediv_of_nonneg (by omega)]
  have h1 := Int.ediv_mul_le (u + v - 1) (show v ≠ 0 by omega)
  have h2 := Int.lt_ediv_add_one_mul_self (u + v - 1) (show 0 < v by omega)
  have h3 := Int.ediv_mul_le (-u) (show v ≠ 0 by omega)
  have h4 := Int.lt_ediv_add_one_mul_self (-u) (show 0 < v by omega)
  generalize (u + v - 1) / v = a at *
  generalize (-u) / v = b at *
  have e1 : (a + 1) * v = a * v + v := by rw [Int.add_mul, Int.one_mul]
  have e2 : (b + 1) * v = b * v + v := by rw [Int.add_mul, Int.one_mul]
  have e3 : (a + b) * v = a * v + b * v := Int.add_mul _ _ _
  rcases Int.lt_trichotomy (a + b) 0 with q | q | q
  · exfalso
    have : (a + b) * v ≤ (-1) * v := Int.mul_le_mul_of_nonneg_right (by omega) (by omega)
    omega
  · omega
  · exfalso
    have : 1 * v ≤ (a + b) * v := Int.mul_le_mul_of_nonneg_right (by omega) (by omega)
    omega
theorem ceil_0 {u v : Int} (hv : 1 ≤ v) (hu : u ≤ 0) : max 0 (-((-u) / v)) = 0 := by
  have := Int.ediv_nonneg (a := -u) (b := v) (by omega) (by omega); omega
theorem ceil_p {u v : Int} (hv : 1 ≤ v) (hu : 0 < u) : max 0 (-((-u) / v)) = (u + v - 1).tdiv v := by
  rw [ceil_t hv hu]
  have h3 := Int.ediv_mul_le (-u) (show v ≠ 0 by omega)
  rcases Int.lt_or_le ((-u) / v) 1 with q | q
  · omega
  · exfalso
    have : 1 * v ≤ ((-u) / v) * v := Int.mul_le_mul_of_nonneg_right q (by omega)
    omega
end
section
set_option maxHeartbeats 4000000 in
set_option maxRecDepth 100000 in
theorem c_X9_in {l : Launch} {D : va_G} {q : Nat → Nat} {g : Nat → ClassId} {σ : Mem} (v lo hi : Int) (hr_v : zL v) (hr_lo : zL lo) (hr_hi : zL hi) : RO l yX9_in cX9_in 6 (some .boolean) 0 0 D q g σ [.long (zJ v), .long (zJ lo), .long (zJ hi)] (some (.int (zI (bz (lo ≤ v ∧ v ≤ hi))))) := by
  refine RO.intro (plainFor_of_name (by decide)) (Nat.le_of_ble_eq_true rfl) (fun p e s m args below meth c ls B hP hl => ?_)
  have C := B.1
  have hl : lv_has ls 6 [(0, .long (zJ v)), (2, .long (zJ lo)), (4, .long (zJ hi))] := hl
  refine z_lln C hl 0 rfl dX9_in_0 ?_
  refine z_lln C hl 1 rfl dX9_in_1 ?_
  refine z_lc_lt C 17 (by decide) (by omega) (by omega) dX9_in_2 dX9_in_3 (fun w1 => ?_) (fun w1 => ?_)
  · skip
    refine z_ic C dX9_in_17 ?_
    exact z_bret0 B (by omega) dX9_in_18
  · skip
    refine z_lln C hl 0 rfl dX9_in_6 ?_
    refine z_ll C hl 2 rfl dX9_in_7 ?_
    refine z_lc_gt C 17 (by decide) (by omega) (by omega) dX9_in_9 dX9_in_10 (fun w2 => ?_) (fun w2 => ?_)
    · skip
      refine z_ic C dX9_in_17 ?_
      exact z_bret0 B (by omega) dX9_in_18
    · skip
      refine z_ic C dX9_in_13 ?_
      refine z_goto C 18 (by decide) dX9_in_14 ?_
      exact z_bret1 B (by omega) dX9_in_18

set_option maxHeartbeats 4000000 in
set_option maxRecDepth 100000 in
theorem c_X9_isRow {l : Launch} {D : va_G} {q : Nat → Nat} {g : Nat → ClassId} {σ : Mem} (y : Int) (hr_y : zR y) : RO l yX9_isRow cX9_isRow 1 (some .boolean) 1 25 D q g σ [.int (zI y)] (some (.int (zI (bz (0 ≤ y ∧ y ≤ 5))))) := by
  refine RO.intro (plainFor_of_name (by decide)) (Nat.le_of_ble_eq_true rfl) (fun p e s m args below meth c ls B hP hl => ?_)
  have C := B.1
  have hl : lv_has ls 1 [(0, .int (zI y))] := hl
  refine z_iln C hl 0 rfl dX9_isRow_0 ?_
  refine z_i2l C (by omega) dX9_isRow_1 ?_
  refine z_lc0 C dX9_isRow_2 ?_
  refine z_ldc2 C (n := 5) wg_692 (by decide) dX9_isRow_3 ?_
  refine z_sRO C hP hl (c_X9_in (σ := σ) y 0 5 (by omega) (by omega) (by omega))  wg_679 wg_10 wg_677 wg_678 cw_X9_in ⟨Nat.le_of_ble_eq_true rfl, Nat.le_of_ble_eq_true rfl⟩ rfl rfl (Nat.le_of_ble_eq_true rfl) dX9_isRow_6 ?_
  exact z_bret B (by constructor <;> intros <;> omega) dX9_isRow_9

set_option maxHeartbeats 4000000 in
set_option maxRecDepth 100000 in
theorem c_X9_isRunner {l : Launch} {D : va_G} {q : Nat → Nat} {g : Nat → ClassId} {σ : Mem} (r : Int) (hn : 0 ≤ σ 44 6 ∧ σ 44 6 ≤ 6) (hr_r : zR r) : RO l yX9_isRunner cX9_isRunner 2 (some .boolean) 1 25 D q g σ [.ref (q 44), .int (zI r)] (some (.int (zI (bz (0 ≤ r ∧ r < σ 44 6))))) := by
  refine RO.intro (plainFor_of_name (by decide)) (Nat.le_of_ble_eq_true rfl) (fun p e s m args below meth c ls B hP hl => ?_)
  have C := B.1
  have hl : lv_has ls 2 [(0, .ref (q 44)), (1, .int (zI r))] := hl
  refine z_iln C hl 1 rfl dX9_isRunner_0 ?_
  refine z_i2l C (by omega) dX9_isRunner_1 ?_
  refine z_lc0 C dX9_isRunner_2 ?_
  refine z_aln C hl 0 rfl dX9_isRunner_3 ?_
  refine gf_X9_66 C hP dX9_isRunner_4 ?_
  refine z_ic C dX9_isRunner_7 ?_
  refine z_isub C dX9_isRunner_8 ?_
  refine z_i2l C (by omega) dX9_isRunner_9 ?_
  refine z_sRO C hP hl (c_X9_in (σ := σ) r 0 ((σ 44 6) - 1) (by omega) (by omega) (by omega))  wg_679 wg_10 wg_677 wg_678 cw_X9_in ⟨Nat.le_of_ble_eq_true rfl, Nat.le_of_ble_eq_true rfl⟩ rfl rfl (Nat.le_of_ble_eq_true rfl) dX9_isRunner_10 ?_
  exact z_bret B (by constructor <;> intros <;> omega) dX9_isRunner_13

set_option maxHeartbeats 4000000 in
set_option maxRecDepth 100000 in
theorem c_X9_shapeAt {l : Launch} {D : va_G} {q : Nat → Nat} {g : Nat → ClassId} {σ : Mem} (r row what : Int)  : RO l yX9_shapeAt cX9_shapeAt 3 (some .int) 0 0 D q g σ [.int (zI r), .int (zI row), .int (zI what)] (some (.int (zI (2 * (6 * r + row) + what)))) := by
  refine RO.intro (plainFor_of_name (by decide)) (Nat.le_of_ble_eq_true rfl) (fun p e s m args below meth c ls B hP hl => ?_)
  have C := B.1
  have hl : lv_has ls 3 [(0, .int (zI r)), (1, .int (zI row)), (2, .int (zI what))] := hl
  refine z_ic C dX9_shapeAt_0 ?_
  refine z_bp C dX9_shapeAt_1 rfl ?_
  refine z_iln C hl 0 rfl dX9_shapeAt_3 ?_
  refine z_imul C dX9_shapeAt_4 ?_
  refine z_iln C hl 1 rfl dX9_shapeAt_5 ?_
  refine z_iadd C dX9_shapeAt_6 ?_
  refine z_imul C dX9_shapeAt_7 ?_
  refine z_iln C hl 2 rfl dX9_shapeAt_8 ?_
  refine z_iadd C dX9_shapeAt_9 ?_
  exact z_iret B (by first | rfl | omega) dX9_shapeAt_10

set_option maxHeartbeats 4000000 in
set_option maxRecDepth 100000 in
theorem c_X9_covers {l : Launch} {D : va_G} {q : Nat → Nat} {g : Nat → ClassId} {σ : Mem} (r row what col : Int) (hI : TI σ) (hR : MR σ) (hla : 0 ≤ r ∧ r < σ 1 2) (hy : 0 ≤ row ∧ row ≤ 5) (hw : 0 ≤ what ∧ what ≤ 1) (hc : -1000 ≤ col ∧ col ≤ 1000) : RO l yX9_covers cX9_covers 7 (some .boolean) 1 25 D q g σ [.ref (q 44), .int (zI r), .int (zI row), .int (zI what), .int (zI col)] (some (.int (zI (bz (kCov (co σ) r.toNat what row col (co σ 8 0 * row) = true))))) := by
  refine RO.intro (plainFor_of_name (by decide)) (Nat.le_of_ble_eq_true rfl) (fun p e s m args below meth c ls B hP hl => ?_)
  have C := B.1
  have hl : lv_has ls 7 [(0, .ref (q 44)), (1, .int (zI r)), (2, .int (zI row)), (3, .int (zI what)), (4, .int (zI col))] := hl
  have h1 := hI.1
  have hj : r.toNat < 6 := by omega
  have hb := hI.2.2.1 r.toNat hj
  have hg := hR.2.1 r.toNat (by omega)
  have hs := hR.2.2 r.toNat row.toNat what.toNat hj (by omega) (by omega)
  have hp := hI.2.2.2 r.toNat (what.toNat * 6 + row.toNat) hj (by omega)
  have hm := mul_b hb.2.1 (c := col) (by omega)
  have hml := mul_l hI.2.1.1 hy
  have hh := hR.1
  have ei : (2 * (6 * r + row) + what).toNat = 2 * (6 * r.toNat + row.toNat) + what.toNat := by omega
  have ep : (what * 6 + row).toNat = what.toNat * 6 + row.toNat := by omega
  rw [← ei, ← ep] at hs
  rw [← ep] at hp
  have em : σ 46 r.toNat * col = σ (26 + r.toNat) 3 * col := by rw [hg.2.1]
  have el : σ 44 7 * row = σ 8 0 * row := by rw [hh.2.1]
  have e80 : co σ 8 0 = σ 8 0 := rfl
  refine z_iln C hl 1 rfl dX9_covers_0 ?_
  refine z_iln C hl 2 rfl dX9_covers_1 ?_
  refine z_iln C hl 3 rfl dX9_covers_2 ?_
  refine z_sRO C hP hl (c_X9_shapeAt (σ := σ) r row what )  wg_697 wg_10 wg_695 wg_696 cw_X9_shapeAt ⟨Nat.le_of_ble_eq_true rfl, Nat.le_of_ble_eq_true rfl⟩ rfl rfl (Nat.le_of_ble_eq_true rfl) dX9_covers_3 ?_
  refine z_ist C hl [(5, .int (zI (2 * (6 * r + row) + what))), (0, .ref (q 44)), (1, .int (zI r)), (2, .int (zI row)), (3, .int (zI what)), (4, .int (zI col))] (by decide) rfl dX9_covers_6 (fun ls hl => ?_)
  refine z_aln C hl 1 rfl dX9_covers_8 ?_
  refine gf_X9_7 C hP dX9_covers_9 ?_
  refine z_iln C hl 2 rfl dX9_covers_12 ?_
  refine z_iald C hP (i := 45) (by decide) (fun _ => rfl) (by omega) (by decide) dX9_covers_13 ?_
  refine z_aln C hl 1 rfl dX9_covers_14 ?_
  refine gf_X9_13 C hP dX9_covers_15 ?_
  refine z_iln C hl 2 rfl dX9_covers_18 ?_
  refine z_iald C hP (i := 46) (by decide) (fun _ => rfl) (by omega) (by decide) dX9_covers_19 ?_
  refine z_il C hl 5 rfl dX9_covers_20 ?_
  refine z_imul C dX9_covers_22 ?_
  refine z_iadd C dX9_covers_23 ?_
  refine z_ist C hl [(6, .int (zI ((σ 45 r.toNat) + ((σ 46 r.toNat) * col)))), (5, .int (zI (2 * (6 * r + row) + what))), (0, .ref (q 44)), (1, .int (zI r)), (2, .int (zI row)), (3, .int (zI what)), (4, .int (zI col))] (by decide) rfl dX9_covers_24 (fun ls hl => ?_)
  refine z_aln C hl 2 rfl dX9_covers_26 ?_
  refine gf_X9_16 C hP dX9_covers_27 ?_
  refine z_il C hl 1 rfl dX9_covers_30 ?_
  refine z_zald C hP (i := 47) (by decide) (fun _ => rfl) (by omega) (by decide) dX9_covers_32 ?_
  refine z_if_eq C 75 (by decide) (by omega) dX9_covers_33 (fun w1 => ?_) (fun w1 => ?_)
  · skip
    refine z_ic C dX9_covers_75 ?_
    exact z_bret0 B (by unfold kCov; rw [co_frm hj, co_run hj, co_to hj, e80]; simp only [decide_eq_true_eq]; omega) dX9_covers_76
  · skip
    refine z_aln C hl 2 rfl dX9_covers_36 ?_
    refine gf_X9_94 C hP dX9_covers_37 ?_
    refine z_iln C hl 4 rfl dX9_covers_40 ?_
    refine z_imul C dX9_covers_41 ?_
    refine z_i2l C (by omega) dX9_covers_42 ?_
    refine z_il C hl 0 rfl dX9_covers_43 ?_
    refine z_aln C hl 2 rfl dX9_covers_45 ?_
    refine gf_X9_20 C hP dX9_covers_46 ?_
    refine z_il C hl 1 rfl dX9_covers_49 ?_
    refine z_iald C hP (i := 48) (by decide) (fun _ => rfl) (by omega) (by decide) dX9_covers_51 ?_
    refine z_iadd C dX9_covers_52 ?_
    refine z_i2l C (by omega) dX9_covers_53 ?_
    refine z_il C hl 0 rfl dX9_covers_54 ?_
    refine z_aln C hl 2 rfl dX9_covers_56 ?_
    refine gf_X9_23 C hP dX9_covers_57 ?_
    refine z_il C hl 1 rfl dX9_covers_60 ?_
    refine z_iald C hP (i := 49) (by decide) (fun _ => rfl) (by omega) (by decide) dX9_covers_62 ?_
    refine z_iadd C dX9_covers_63 ?_
    refine z_i2l C (by omega) dX9_covers_64 ?_
    refine z_sRO C hP hl (c_X9_in (σ := σ) ((σ 44 7) * row) (((σ 45 r.toNat) + ((σ 46 r.toNat) * col)) + (σ 48 (2 * (6 * r + row) + what).toNat)) (((σ 45 r.toNat) + ((σ 46 r.toNat) * col)) + (σ 49 (2 * (6 * r + row) + what).toNat)) (by omega) (by omega) (by omega))  wg_679 wg_10 wg_677 wg_678 cw_X9_in ⟨Nat.le_of_ble_eq_true rfl, Nat.le_of_ble_eq_true rfl⟩ rfl rfl (Nat.le_of_ble_eq_true rfl) dX9_covers_65 ?_
    refine z_bif_eq C 75 (by decide) dX9_covers_68 (fun w2 => ?_) (fun w2 => ?_)
    · skip
      refine z_ic C dX9_covers_75 ?_
      exact z_bret0 B (by unfold kCov; rw [co_frm hj, co_run hj, co_to hj, e80]; simp only [decide_eq_true_eq]; omega) dX9_covers_76
    · skip
      refine z_ic C dX9_covers_71 ?_
      refine z_goto C 76 (by decide) dX9_covers_72 ?_
      exact z_bret1 B (by unfold kCov; rw [co_frm hj, co_run hj, co_to hj, e80]; simp only [decide_eq_true_eq]; omega) dX9_covers_76

set_option maxHeartbeats 4000000 in
set_option maxRecDepth 100000 in
theorem c_X9_shown {l : Launch} {D : va_G} {q : Nat → Nat} {g : Nat → ClassId} {σ : Mem} (side col row : Int) (hI : TI σ) (hR : MR σ) (hsi : 0 ≤ side ∧ side ≤ 1) (hc : -1000 ≤ col ∧ col ≤ 1000) (hy : 0 ≤ row ∧ row ≤ 5) : RO l yX9_shown cX9_shown 6 (some .int) 2 51 D q g σ [.ref (q 44), .int (zI side), .int (zI col), .int (zI row)] (some (.int (zI (kFilm (co σ) side col row)))) := by
  refine RO.intro (plainFor_of_name (by decide)) (Nat.le_of_ble_eq_true rfl) (fun p e s m args below meth c ls B hP hl => ?_)
  have C := B.1
  have hl : lv_has ls 6 [(0, .ref (q 44)), (1, .int (zI side)), (2, .int (zI col)), (3, .int (zI row))] := hl
  have h1 := hI.1
  have hh := hR.1
  have e12 : co σ 1 2 = σ 1 2 := rfl
  refine z_ic C dX9_shown_0 ?_
  refine z_ist C hl [(4, .int (zI 0)), (0, .ref (q 44)), (1, .int (zI side)), (2, .int (zI col)), (3, .int (zI row))] (by decide) rfl dX9_shown_1 (fun ls hl => ?_)
  have L3 : ∀ (n : Nat) (k : Int)  , σ 1 2 - k < (n : Int) → (0 ≤ k ∧ k ≤ σ 1 2) → (kFilm (co σ) side col row = kScan (co σ) side col row (co σ 8 0 * row) (co σ 1 2 - k).toNat k) → ∀ ls : Array Slot, lv_has ls 6 [(0, .ref (q 44)), (1, .int (zI side)), (2, .int (zI col)), (3, .int (zI row)), (4, .int (zI k))] → WO p l e 2 51 s m args below meth c (some (.int (zI (kFilm (co σ) side col row)))) (F0 m 3 ls []) := by
    intro n
    induction n with
    | zero => intro k hm hk hi ls hl; exact False.elim (by omega)
    | succ n ih =>
      intro k hm hk hi ls hl
      have ih3 := ih; clear ih
      refine z_il C hl 4 rfl dX9_shown_3 ?_
      refine z_aln C hl 0 rfl dX9_shown_5 ?_
      refine gf_X9_66 C hP dX9_shown_6 ?_
      refine z_icmp_ge C 78 (by decide) (by omega) (by omega) dX9_shown_9 (fun w1 => ?_) (fun w1 => ?_)
      · skip
        refine z_ic C dX9_shown_78 ?_
        exact z_iret B (by rw [hi, show (co σ 1 2 - k).toNat = 0 by omega]; rfl) dX9_shown_79
      · skip
        have hu : (co σ 1 2 - k).toNat = (co σ 1 2 - (k + 1)).toNat + 1 := by omega
        rw [hu, kScan] at hi
        refine z_iln C hl 1 rfl dX9_shown_12 ?_
        refine z_if_ne C 21 (by decide) (by omega) dX9_shown_13 (fun w2 => ?_) (fun w2 => ?_)
        · skip
          refine z_aln C hl 0 rfl dX9_shown_21 ?_
          refine gf_X9_66 C hP dX9_shown_22 ?_
          refine z_ic C dX9_shown_25 ?_
          refine z_isub C dX9_shown_26 ?_
          refine z_il C hl 4 rfl dX9_shown_27 ?_
          refine z_isub C dX9_shown_29 ?_
          have hln : kLane (co σ) side k = ((σ 44 6) - 1) - k := by unfold kLane; split <;> omega
          rw [hln] at hi
          refine z_ist C hl [(5, .int (zI (((σ 44 6) - 1) - k))), (0, .ref (q 44)), (1, .int (zI side)), (2, .int (zI col)), (3, .int (zI row)), (4, .int (zI k))] (by decide) rfl dX9_shown_30 (fun ls hl => ?_)
          refine z_aln C hl 1 rfl dX9_shown_32 ?_
          refine z_il C hl 0 rfl dX9_shown_33 ?_
          refine z_iln C hl 4 rfl dX9_shown_35 ?_
          refine z_ic C dX9_shown_36 ?_
          refine z_iln C hl 3 rfl dX9_shown_37 ?_
          refine z_vRO C hP hl (c_X9_covers (σ := σ) (((σ 44 6) - 1) - k) row 0 col hI hR (by omega) (by omega) (by omega) (by omega)) (z_recv C hP (i := 44) (by decide) rfl (ci := 9) rfl) wg_721 wg_10 wg_718 wg_720 ws_X9_covers cw_X9_covers ⟨Nat.le_of_ble_eq_true rfl, Nat.le_of_ble_eq_true rfl⟩ rfl rfl (Nat.le_of_ble_eq_true rfl) dX9_shown_38 ?_
          refine z_bif_eq C 52 (by decide) dX9_shown_41 (fun w3 => ?_) (fun w3 => ?_)
          · skip
            refine z_aln C hl 1 rfl dX9_shown_52 ?_
            refine z_il C hl 0 rfl dX9_shown_53 ?_
            refine z_iln C hl 4 rfl dX9_shown_55 ?_
            refine z_ic C dX9_shown_56 ?_
            refine z_iln C hl 3 rfl dX9_shown_57 ?_
            refine z_vRO C hP hl (c_X9_covers (σ := σ) (((σ 44 6) - 1) - k) row 1 col hI hR (by omega) (by omega) (by omega) (by omega)) (z_recv C hP (i := 44) (by decide) rfl (ci := 9) rfl) wg_721 wg_10 wg_718 wg_720 ws_X9_covers cw_X9_covers ⟨Nat.le_of_ble_eq_true rfl, Nat.le_of_ble_eq_true rfl⟩ rfl rfl (Nat.le_of_ble_eq_true rfl) dX9_shown_58 ?_
            refine z_bif_eq C 72 (by decide) dX9_shown_61 (fun w4 => ?_) (fun w4 => ?_)
            · skip
              refine z_iinc C hl 5 rfl [(4, .int (zI (k + 1))), (5, .int (zI (((σ 44 6) - 1) - k))), (0, .ref (q 44)), (1, .int (zI side)), (2, .int (zI col)), (3, .int (zI row))] (by decide) rfl dX9_shown_72 (fun ls hl => ?_)
              refine z_goto C 3 (by decide) dX9_shown_75 ?_
              exact ih3 (k + 1) (by omega) (by omega) (by rw [hi, if_neg w3, if_neg w4]) ls (lv_sub hl [2, 3, 4, 5, 0] rfl)
            · skip
              refine z_bp C dX9_shown_64 rfl ?_
              refine z_il C hl 0 rfl dX9_shown_66 ?_
              refine z_imul C dX9_shown_68 ?_
              refine z_ic C dX9_shown_69 ?_
              refine z_iadd C dX9_shown_70 ?_
              exact z_iret B (by rw [hi, if_neg w3, if_pos w4]; omega) dX9_shown_71
          · skip
            refine z_bp C dX9_shown_44 rfl ?_
            refine z_il C hl 0 rfl dX9_shown_46 ?_
            refine z_imul C dX9_shown_48 ?_
            refine z_ic C dX9_shown_49 ?_
            refine z_iadd C dX9_shown_50 ?_
            exact z_iret B (by rw [hi, if_pos w3]) dX9_shown_51
        · skip
          refine z_il C hl 4 rfl dX9_shown_16 ?_
          refine z_goto C 30 (by decide) dX9_shown_18 ?_
          have hln : kLane (co σ) side k = k := by unfold kLane; split <;> omega
          rw [hln] at hi
          refine z_ist C hl [(5, .int (zI k)), (0, .ref (q 44)), (1, .int (zI side)), (2, .int (zI col)), (3, .int (zI row)), (4, .int (zI k))] (by decide) rfl dX9_shown_30 (fun ls hl => ?_)
          refine z_aln C hl 1 rfl dX9_shown_32 ?_
          refine z_il C hl 0 rfl dX9_shown_33 ?_
          refine z_iln C hl 4 rfl dX9_shown_35 ?_
          refine z_ic C dX9_shown_36 ?_
          refine z_iln C hl 3 rfl dX9_shown_37 ?_
          refine z_vRO C hP hl (c_X9_covers (σ := σ) k row 0 col hI hR (by omega) (by omega) (by omega) (by omega)) (z_recv C hP (i := 44) (by decide) rfl (ci := 9) rfl) wg_721 wg_10 wg_718 wg_720 ws_X9_covers cw_X9_covers ⟨Nat.le_of_ble_eq_true rfl, Nat.le_of_ble_eq_true rfl⟩ rfl rfl (Nat.le_of_ble_eq_true rfl) dX9_shown_38 ?_
          refine z_bif_eq C 52 (by decide) dX9_shown_41 (fun w5 => ?_) (fun w5 => ?_)
          · skip
            refine z_aln C hl 1 rfl dX9_shown_52 ?_
            refine z_il C hl 0 rfl dX9_shown_53 ?_
            refine z_iln C hl 4 rfl dX9_shown_55 ?_
            refine z_ic C dX9_shown_56 ?_
            refine z_iln C hl 3 rfl dX9_shown_57 ?_
            refine z_vRO C hP hl (c_X9_covers (σ := σ) k row 1 col hI hR (by omega) (by omega) (by omega) (by omega)) (z_recv C hP (i := 44) (by decide) rfl (ci := 9) rfl) wg_721 wg_10 wg_718 wg_720 ws_X9_covers cw_X9_covers ⟨Nat.le_of_ble_eq_true rfl, Nat.le_of_ble_eq_true rfl⟩ rfl rfl (Nat.le_of_ble_eq_true rfl) dX9_shown_58 ?_
            refine z_bif_eq C 72 (by decide) dX9_shown_61 (fun w6 => ?_) (fun w6 => ?_)
            · skip
              refine z_iinc C hl 5 rfl [(4, .int (zI (k + 1))), (5, .int (zI k)), (0, .ref (q 44)), (1, .int (zI side)), (2, .int (zI col)), (3, .int (zI row))] (by decide) rfl dX9_shown_72 (fun ls hl => ?_)
              refine z_goto C 3 (by decide) dX9_shown_75 ?_
              exact ih3 (k + 1) (by omega) (by omega) (by rw [hi, if_neg w5, if_neg w6]) ls (lv_sub hl [2, 3, 4, 5, 0] rfl)
            · skip
              refine z_bp C dX9_shown_64 rfl ?_
              refine z_il C hl 0 rfl dX9_shown_66 ?_
              refine z_imul C dX9_shown_68 ?_
              refine z_ic C dX9_shown_69 ?_
              refine z_iadd C dX9_shown_70 ?_
              exact z_iret B (by rw [hi, if_neg w5, if_pos w6]; omega) dX9_shown_71
          · skip
            refine z_bp C dX9_shown_44 rfl ?_
            refine z_il C hl 0 rfl dX9_shown_46 ?_
            refine z_imul C dX9_shown_48 ?_
            refine z_ic C dX9_shown_49 ?_
            refine z_iadd C dX9_shown_50 ?_
            exact z_iret B (by rw [hi, if_pos w5]) dX9_shown_51
  exact L3 ((σ 1 2 - 0 : Int).toNat + 1) 0 (by omega) (by omega) (by rw [Int.sub_zero]; rfl) ls (lv_sub hl [1, 2, 3, 4, 0] rfl)

set_option maxHeartbeats 4000000 in
set_option maxRecDepth 100000 in
theorem c_X9_sooner {l : Launch} {D : va_G} {q : Nat → Nat} {g : Nat → ClassId} {σ : Mem} (a b : Int) (hr_a : zR a) (hr_b : zR b) : RO l yX9_sooner cX9_sooner 2 (some .int) 0 0 D q g σ [.int (zI a), .int (zI b)] (some (.int (zI (soo a b)))) := by
  refine RO.intro (plainFor_of_name (by decide)) (Nat.le_of_ble_eq_true rfl) (fun p e s m args below meth c ls B hP hl => ?_)
  have C := B.1
  have hl : lv_has ls 2 [(0, .int (zI a)), (1, .int (zI b))] := hl
  refine z_iln C hl 0 rfl dX9_sooner_0 ?_
  refine z_if_ge C 8 (by decide) (by omega) dX9_sooner_1 (fun w1 => ?_) (fun w1 => ?_)
  · skip
    refine z_iln C hl 1 rfl dX9_sooner_8 ?_
    refine z_if_lt C 17 (by decide) (by omega) dX9_sooner_9 (fun w2 => ?_) (fun w2 => ?_)
    · skip
      refine z_iln C hl 0 rfl dX9_sooner_17 ?_
      refine z_goto C 22 (by decide) dX9_sooner_18 ?_
      exact z_iret B (by unfold soo; split <;> (try split) <;> omega) dX9_sooner_22
    · skip
      refine z_iln C hl 0 rfl dX9_sooner_12 ?_
      refine z_iln C hl 1 rfl dX9_sooner_13 ?_
      refine z_icmp_ge C 21 (by decide) (by omega) (by omega) dX9_sooner_14 (fun w3 => ?_) (fun w3 => ?_)
      · skip
        refine z_iln C hl 1 rfl dX9_sooner_21 ?_
        exact z_iret B (by unfold soo; split <;> (try split) <;> omega) dX9_sooner_22
      · skip
        refine z_iln C hl 0 rfl dX9_sooner_17 ?_
        refine z_goto C 22 (by decide) dX9_sooner_18 ?_
        exact z_iret B (by unfold soo; split <;> (try split) <;> omega) dX9_sooner_22
  · skip
    refine z_iln C hl 1 rfl dX9_sooner_4 ?_
    refine z_goto C 22 (by decide) dX9_sooner_5 ?_
    exact z_iret B (by unfold soo; split <;> (try split) <;> omega) dX9_sooner_22

set_option maxHeartbeats 4000000 in
set_option maxRecDepth 100000 in
theorem c_X9_findFirst {l : Launch} {D : va_G} {q : Nat → Nat} {g : Nat → ClassId} {σ : Mem} (hq : qok q) (hI : TI σ) (hR : MR σ) : RW l yX9_findFirst cX9_findFirst 5 none 3 76 D q g σ [.ref (q 44)] vV (fun _ τ => Fr σ τ ∧ FA τ) := by
  refine RW.intro (plainFor_of_name (by decide)) (Nat.le_of_ble_eq_true rfl) (fun p e s m args below meth c ls B hP hS hl => ?_)
  have C := B.1
  have hl : lv_has ls 5 [(0, .ref (q 44))] := hl
  have hIc := TI_cc hI
  have h1 := hI.1
  refine z_ic C dX9_findFirst_0 ?_
  refine z_isn C hl [(1, .int (zI 0)), (0, .ref (q 44))] (by decide) rfl dX9_findFirst_1 (fun ls hl => ?_)
  have L2 : ∀ (n : Nat) (k : Int)  (τ : Mem), 72 - k < (n : Int) → (0 ≤ k ∧ k ≤ 72) → (Fr σ τ) → (∀ i : Nat, (i : Int) < k → τ 51 i = -6) → ∀ (H : Heap) (locs : List Loc), HP D q g τ H → va_S (aQ q) s.heap H locs → ∀ ls : Array Slot, lv_has ls 5 [(0, .ref (q 44)), (1, .int (zI k))] → WW p l e 3 76 s m args below meth c H locs D q g vV (fun _ τ => Fr σ τ ∧ FA τ) (F0 m 2 ls []) := by
    intro n
    induction n with
    | zero => intro k τ hm hk hF hn H locs hP hS ls hl; exact False.elim (by omega)
    | succ n ih =>
      intro k τ hm hk hF hn H locs hP hS ls hl
      have ih2 := ih; clear ih
      refine z_iln C hl 1 rfl dX9_findFirst_2 ?_
      refine z_bp C dX9_findFirst_3 rfl ?_
      refine z_icmp_ge C 22 (by decide) (by omega) (by omega) dX9_findFirst_5 (fun w1 => ?_) (fun w1 => ?_)
      · skip
        refine z_ic C dX9_findFirst_22 ?_
        refine z_isn C hl [(1, .int (zI 0)), (0, .ref (q 44))] (by decide) rfl dX9_findFirst_23 (fun ls hl => ?_)
        have L24 : ∀ (n : Nat) (sd : Int)  (τ : Mem), 2 - sd < (n : Int) → (0 ≤ sd ∧ sd ≤ 2) → (Fr σ τ) → (FAP (co σ) (τ 51) sd 0 299) → ∀ (H : Heap) (locs : List Loc), HP D q g τ H → va_S (aQ q) s.heap H locs → ∀ ls : Array Slot, lv_has ls 5 [(0, .ref (q 44)), (1, .int (zI sd))] → WW p l e 3 76 s m args below meth c H locs D q g vV (fun _ τ => Fr σ τ ∧ FA τ) (F0 m 24 ls []) := by
          intro n
          induction n with
          | zero => intro sd τ hm hs hF hA H locs hP hS ls hl; exact False.elim (by omega)
          | succ n ih =>
            intro sd τ hm hs hF hA H locs hP hS ls hl
            have ih24 := ih; clear ih
            refine z_iln C hl 1 rfl dX9_findFirst_24 ?_
            refine z_ic C dX9_findFirst_25 ?_
            refine z_icmp_ge C 102 (by decide) (by omega) (by omega) dX9_findFirst_26 (fun w2 => ?_) (fun w2 => ?_)
            · skip
              exact z_vretW B hP hS ⟨hF, by unfold FA; rw [Fr_co hF]; exact FAP_end hA (by omega)⟩ dX9_findFirst_102
            · skip
              refine z_ic C dX9_findFirst_29 ?_
              refine z_isn C hl [(2, .int (zI 0)), (0, .ref (q 44)), (1, .int (zI sd))] (by decide) rfl dX9_findFirst_30 (fun ls hl => ?_)
              have L31 : ∀ (n : Nat) (yy : Int)  (τ : Mem), 6 - yy < (n : Int) → (0 ≤ yy ∧ yy ≤ 6) → (Fr σ τ) → (FAP (co σ) (τ 51) sd yy 299) → ∀ (H : Heap) (locs : List Loc), HP D q g τ H → va_S (aQ q) s.heap H locs → ∀ ls : Array Slot, lv_has ls 5 [(0, .ref (q 44)), (1, .int (zI sd)), (2, .int (zI yy))] → WW p l e 3 76 s m args below meth c H locs D q g vV (fun _ τ => Fr σ τ ∧ FA τ) (F0 m 31 ls []) := by
                intro n
                induction n with
                | zero => intro yy τ hm hyy hF hA2 H locs hP hS ls hl; exact False.elim (by omega)
                | succ n ih =>
                  intro yy τ hm hyy hF hA2 H locs hP hS ls hl
                  have ih31 := ih; clear ih
                  refine z_iln C hl 2 rfl dX9_findFirst_31 ?_
                  refine z_bp C dX9_findFirst_32 rfl ?_
                  refine z_icmp_ge C 96 (by decide) (by omega) (by omega) dX9_findFirst_34 (fun w3 => ?_) (fun w3 => ?_)
                  · skip
                    refine z_iinc C hl 1 rfl [(1, .int (zI (sd + 1))), (0, .ref (q 44)), (2, .int (zI yy))] (by decide) rfl dX9_findFirst_96 (fun ls hl => ?_)
                    refine z_goto C 24 (by decide) dX9_findFirst_99 ?_
                    exact ih24 (sd + 1) τ (by omega) (by omega) hF (FAP_side hA2 (by omega)) _ _ hP hS ls (lv_sub hl [1, 0] rfl)
                  · skip
                    refine z_sp C dX9_findFirst_37 rfl ?_
                    refine z_isn C hl [(3, .int (zI 299)), (0, .ref (q 44)), (1, .int (zI sd)), (2, .int (zI yy))] (by decide) rfl dX9_findFirst_40 (fun ls hl => ?_)
                    have L41 : ∀ (n : Nat) (cl : Int)  (τ : Mem), cl + 1 < (n : Int) → (-1 ≤ cl ∧ cl ≤ 299) → (Fr σ τ) → (FAP (co σ) (τ 51) sd yy cl) → ∀ (H : Heap) (locs : List Loc), HP D q g τ H → va_S (aQ q) s.heap H locs → ∀ ls : Array Slot, lv_has ls 5 [(0, .ref (q 44)), (1, .int (zI sd)), (2, .int (zI yy)), (3, .int (zI cl))] → WW p l e 3 76 s m args below meth c H locs D q g vV (fun _ τ => Fr σ τ ∧ FA τ) (F0 m 41 ls []) := by
                      intro n
                      induction n with
                      | zero => intro cl τ hm hcl hF hA3 H locs hP hS ls hl; exact False.elim (by omega)
                      | succ n ih =>
                        intro cl τ hm hcl hF hA3 H locs hP hS ls hl
                        have ih41 := ih; clear ih
                        refine z_iln C hl 3 rfl dX9_findFirst_41 ?_
                        refine z_if_lt C 90 (by decide) (by omega) dX9_findFirst_42 (fun w4 => ?_) (fun w4 => ?_)
                        · skip
                          refine z_iinc C hl 2 rfl [(2, .int (zI (yy + 1))), (0, .ref (q 44)), (1, .int (zI sd)), (3, .int (zI cl))] (by decide) rfl dX9_findFirst_90 (fun ls hl => ?_)
                          refine z_goto C 31 (by decide) dX9_findFirst_93 ?_
                          exact ih31 (yy + 1) τ (by omega) (by omega) hF (FAP_row hIc hA3 (by omega) (by omega)) _ _ hP hS ls (lv_sub hl [1, 2, 0] rfl)
                        · skip
                          refine z_aln C hl 0 rfl dX9_findFirst_45 ?_
                          refine z_iln C hl 1 rfl dX9_findFirst_46 ?_
                          refine z_iln C hl 3 rfl dX9_findFirst_47 ?_
                          refine z_iln C hl 2 rfl dX9_findFirst_48 ?_
                          refine z_vRO C hP hl (c_X9_shown (σ := τ) sd cl yy (Fr_TI hF hI) (Fr_MR hF hI hR) (by omega) (by omega) (by omega)) (z_recv C hP (i := 44) (by decide) rfl (ci := 9) rfl) wg_717 wg_10 wg_714 wg_716 ws_X9_shown cw_X9_shown ⟨Nat.le_of_ble_eq_true rfl, Nat.le_of_ble_eq_true rfl⟩ rfl rfl (Nat.le_of_ble_eq_true rfl) dX9_findFirst_49 ?_
                          have ecc := Fr_co hF
                          have hfb := kFilm_b hIc sd cl yy
                          have et : (kFilm (co τ) sd cl yy).tdiv 10 = kFilm (co τ) sd cl yy / 10 := Int.tdiv_eq_ediv_of_nonneg (by rw [ecc]; exact hfb.1)
                          have em : (kFilm (co τ) sd cl yy).tmod 10 = kFilm (co τ) sd cl yy % 10 := Int.tmod_eq_emod_of_nonneg (by rw [ecc]; exact hfb.1)
                          have eco : kFilm (co τ) sd cl yy = kFilm (co σ) sd cl yy := by rw [ecc]
                          refine z_ist C hl [(4, .int (zI (kFilm (co τ) sd cl yy))), (0, .ref (q 44)), (1, .int (zI sd)), (2, .int (zI yy)), (3, .int (zI cl))] (by decide) rfl dX9_findFirst_52 (fun ls hl => ?_)
                          refine z_il C hl 0 rfl dX9_findFirst_54 ?_
                          refine z_bp C dX9_findFirst_56 rfl ?_
                          refine z_irem C (by omega) (by omega) (by omega) dX9_findFirst_58 ?_
                          refine z_ic C dX9_findFirst_59 ?_
                          refine z_icmp_ne C 84 (by decide) (by omega) (by omega) dX9_findFirst_60 (fun w5 => ?_) (fun w5 => ?_)
                          · skip
                            refine z_iinc C hl 4 rfl [(3, .int (zI (cl + (-1)))), (4, .int (zI (kFilm (co τ) sd cl yy))), (0, .ref (q 44)), (1, .int (zI sd)), (2, .int (zI yy))] (by decide) rfl dX9_findFirst_84 (fun ls hl => ?_)
                            refine z_goto C 41 (by decide) dX9_findFirst_87 ?_
                            exact ih41 (cl + (-1)) τ (by omega) (by omega) hF (FAP_no hA3 (by omega) (by omega)) _ _ hP hS ls (lv_sub hl [2, 3, 4, 0] rfl)
                          · skip
                            refine z_aln C hl 1 rfl dX9_findFirst_63 ?_
                            refine gf_X9_29 C hP dX9_findFirst_64 ?_
                            refine z_bp C dX9_findFirst_67 rfl ?_
                            refine z_bp C dX9_findFirst_69 rfl ?_
                            refine z_iln C hl 2 rfl dX9_findFirst_71 ?_
                            refine z_imul C dX9_findFirst_72 ?_
                            refine z_iln C hl 3 rfl dX9_findFirst_73 ?_
                            refine z_iadd C dX9_findFirst_74 ?_
                            refine z_imul C dX9_findFirst_75 ?_
                            refine z_il C hl 0 rfl dX9_findFirst_76 ?_
                            refine z_bp C dX9_findFirst_78 rfl ?_
                            refine z_idiv C (by omega) (by omega) (by omega) dX9_findFirst_80 ?_
                            refine z_iadd C dX9_findFirst_81 ?_
                            refine z_iln C hl 4 rfl dX9_findFirst_82 ?_
                            refine z_iast C hq hP hS (i := 51) (by decide) (fun _ => rfl) (by omega) (by decide) dX9_findFirst_83 (fun H locs hP hS => ?_)
                            refine z_iinc C hl 4 rfl [(3, .int (zI (cl + (-1)))), (4, .int (zI (kFilm (co τ) sd cl yy))), (0, .ref (q 44)), (1, .int (zI sd)), (2, .int (zI yy))] (by decide) rfl dX9_findFirst_84 (fun ls hl => ?_)
                            refine z_goto C 41 (by decide) dX9_findFirst_87 ?_
                            exact ih41 (cl + (-1)) (um τ 51 ((6 * ((6 * sd) + yy)) + ((kFilm (co τ) sd cl yy).tdiv 10)).toNat cl) (by omega) (by omega) (Fr_um hF (by simp [sc])) (by have hz := FAP_yes hA3 (by omega) (by omega) (by omega) hfb (by omega); rw [show (fun b => if b = (6 * (6 * sd + yy) + kFilm (co σ) sd cl yy / 10).toNat then cl else τ 51 b) = um τ 51 (6 * (6 * sd + yy) + (kFilm (co τ) sd cl yy).tdiv 10).toNat cl 51 from by funext b; simp only [um, true_and]; rw [et, ecc]] at hz; exact hz) _ _ hP hS ls (lv_sub hl [2, 3, 4, 0] rfl)
                    exact L41 ((299 + 1 : Int).toNat + 1) 299 τ (by omega) (by omega) hF hA2 _ _ hP hS ls (lv_sub hl [1, 2, 3, 0] rfl)
              exact L31 ((6 - 0 : Int).toNat + 1) 0 τ (by omega) (by omega) hF hA _ _ hP hS ls (lv_sub hl [1, 2, 0] rfl)
        exact L24 ((2 - 0 : Int).toNat + 1) 0 τ (by omega) (by omega) hF (FAP_init (fun i hi => hn i (by omega))) _ _ hP hS ls (lv_sub hl [1, 0] rfl)
      · skip
        refine z_aln C hl 0 rfl dX9_findFirst_8 ?_
        refine gf_X9_29 C hP dX9_findFirst_9 ?_
        refine z_iln C hl 1 rfl dX9_findFirst_12 ?_
        refine z_bp C dX9_findFirst_13 rfl ?_
        refine z_iast C hq hP hS (i := 51) (by decide) (fun _ => rfl) (by omega) (by decide) dX9_findFirst_15 (fun H locs hP hS => ?_)
        refine z_iinc C hl 1 rfl [(1, .int (zI (k + 1))), (0, .ref (q 44))] (by decide) rfl dX9_findFirst_16 (fun ls hl => ?_)
        refine z_goto C 2 (by decide) dX9_findFirst_19 ?_
        exact ih2 (k + 1) (um τ 51 k.toNat (-6)) (by omega) (by omega) (Fr_um hF (by simp [sc])) (fun i hi => by simp only [um]; split <;> first | rfl | exact hn i (by simp at *; omega)) _ _ hP hS ls (lv_sub hl [1, 0] rfl)
  exact L2 ((72 - 0 : Int).toNat + 1) 0 σ (by omega) (by omega) Fr_rf (fun i hi => by omega) _ _ hP hS ls (lv_sub hl [1, 0] rfl)
end
section
set_option maxHeartbeats 4000000 in
set_option maxRecDepth 100000 in
theorem c_X9_firstOf {l : Launch} {D : va_G} {q : Nat → Nat} {g : Nat → ClassId} {σ : Mem} (r side rows : Int) (hI : TI σ) (hA : FA σ) (hr : 0 ≤ r ∧ r ≤ 5) (hsi : 0 ≤ side ∧ side ≤ 1) (hrw : 0 ≤ rows ∧ rows ≤ 63) : RO l yX9_firstOf cX9_firstOf 6 (some .int) 1 21 D q g σ [.ref (q 44), .int (zI r), .int (zI side), .int (zI rows)] (some (.int (zI (mN (kRw (co σ) side r rows 6))))) := by
  refine RO.intro (plainFor_of_name (by decide)) (Nat.le_of_ble_eq_true rfl) (fun p e s m args below meth c ls B hP hl => ?_)
  have C := B.1
  have hl : lv_has ls 6 [(0, .ref (q 44)), (1, .int (zI r)), (2, .int (zI side)), (3, .int (zI rows))] := hl
  have hIc := TI_cc hI
  refine z_bp C dX9_firstOf_0 rfl ?_
  refine z_ist C hl [(4, .int (zI (-6))), (0, .ref (q 44)), (1, .int (zI r)), (2, .int (zI side)), (3, .int (zI rows))] (by decide) rfl dX9_firstOf_2 (fun ls hl => ?_)
  refine z_ic C dX9_firstOf_4 ?_
  refine z_ist C hl [(5, .int (zI 0)), (4, .int (zI (-6))), (0, .ref (q 44)), (1, .int (zI r)), (2, .int (zI side)), (3, .int (zI rows))] (by decide) rfl dX9_firstOf_5 (fun ls hl => ?_)
  have L7 : ∀ (n : Nat) (x : Int) (y : Int)  , 6 - y < (n : Int) → (0 ≤ y ∧ y ≤ 6) → (x = mN (kRw (co σ) side r rows y.toNat)) → ∀ ls : Array Slot, lv_has ls 6 [(0, .ref (q 44)), (1, .int (zI r)), (2, .int (zI side)), (3, .int (zI rows)), (4, .int (zI x)), (5, .int (zI y))] → WO p l e 1 21 s m args below meth c (some (.int (zI (mN (kRw (co σ) side r rows 6))))) (F0 m 7 ls []) := by
    intro n
    induction n with
    | zero => intro x y hm hy hx ls hl; exact False.elim (by omega)
    | succ n ih =>
      intro x y hm hy hx ls hl
      have ih7 := ih; clear ih
      refine z_il C hl 5 rfl dX9_firstOf_7 ?_
      refine z_bp C dX9_firstOf_9 rfl ?_
      refine z_icmp_ge C 59 (by decide) (by omega) (by omega) dX9_firstOf_11 (fun w1 => ?_) (fun w1 => ?_)
      · skip
        refine z_il C hl 4 rfl dX9_firstOf_59 ?_
        exact z_iret B (by rw [hx, show y.toNat = 6 by omega]) dX9_firstOf_61
      · skip
        have hsb := sh_b (a := rows) y.toNat (by omega)
        have hxb := kRw_b hIc (side := side) (lane := r) (rows := rows) (by omega) y.toNat (by omega)
        have hxm := mN_b hxb
        have hv := hA side.toNat y.toNat r.toNat (by omega) (by omega) (by omega)
        have hfb := kFS_b hIc (side := side) (lane := r) (row := y) (by omega) (by omega)
        rw [show ((side.toNat : Nat) : Int) = side by omega, show ((r.toNat : Nat) : Int) = r by omega, show ((y.toNat : Nat) : Int) = y by omega, show 6 * (6 * side.toNat + y.toNat) + r.toNat = (6 * (6 * side + y) + r).toNat by omega] at hv
        have hvm := mN_b hfb
        refine z_iln C hl 3 rfl dX9_firstOf_14 ?_
        refine z_il C hl 5 rfl dX9_firstOf_15 ?_
        refine z_ishr C (by omega) dX9_firstOf_17 ?_
        refine z_ic C dX9_firstOf_18 ?_
        refine z_iand1 C (by omega) dX9_firstOf_19 ?_
        refine z_ic C dX9_firstOf_20 ?_
        refine z_icmp_ne C 49 (by decide) (by omega) (by omega) dX9_firstOf_21 (fun w2 => ?_) (fun w2 => ?_)
        · skip
          refine z_il C hl 4 rfl dX9_firstOf_49 ?_
          refine z_ist C hl [(4, .int (zI x)), (0, .ref (q 44)), (1, .int (zI r)), (2, .int (zI side)), (3, .int (zI rows)), (5, .int (zI y))] (by decide) rfl dX9_firstOf_51 (fun ls hl => ?_)
          refine z_iinc C hl 5 rfl [(5, .int (zI (y + 1))), (4, .int (zI x)), (0, .ref (q 44)), (1, .int (zI r)), (2, .int (zI side)), (3, .int (zI rows))] (by decide) rfl dX9_firstOf_53 (fun ls hl => ?_)
          refine z_goto C 7 (by decide) dX9_firstOf_56 ?_
          exact ih7 x (y + 1) (by omega) (by omega) (by rw [show (y + 1).toNat = y.toNat + 1 by omega, kRw, if_neg w2, hx]) ls (lv_sub hl [2, 3, 4, 5, 1, 0] rfl)
        · skip
          refine z_il C hl 4 rfl dX9_firstOf_24 ?_
          refine z_aln C hl 0 rfl dX9_firstOf_26 ?_
          refine gf_X9_29 C hP dX9_firstOf_27 ?_
          refine z_bp C dX9_firstOf_30 rfl ?_
          refine z_bp C dX9_firstOf_32 rfl ?_
          refine z_iln C hl 2 rfl dX9_firstOf_34 ?_
          refine z_imul C dX9_firstOf_35 ?_
          refine z_il C hl 5 rfl dX9_firstOf_36 ?_
          refine z_iadd C dX9_firstOf_38 ?_
          refine z_imul C dX9_firstOf_39 ?_
          refine z_iln C hl 1 rfl dX9_firstOf_40 ?_
          refine z_iadd C dX9_firstOf_41 ?_
          refine z_iald C hP (i := 51) (by decide) (fun _ => rfl) (by omega) (by decide) dX9_firstOf_42 ?_
          refine z_sRO C hP hl (c_X9_sooner (σ := σ) x (σ 51 ((6 * ((6 * side) + y)) + r).toNat) (by omega) (by omega))  wg_736 wg_10 wg_734 wg_735 cw_X9_sooner ⟨Nat.le_of_ble_eq_true rfl, Nat.le_of_ble_eq_true rfl⟩ rfl rfl (Nat.le_of_ble_eq_true rfl) dX9_firstOf_43 ?_
          refine z_goto C 51 (by decide) dX9_firstOf_46 ?_
          refine z_ist C hl [(4, .int (zI (soo x (σ 51 ((6 * ((6 * side) + y)) + r).toNat)))), (0, .ref (q 44)), (1, .int (zI r)), (2, .int (zI side)), (3, .int (zI rows)), (5, .int (zI y))] (by decide) rfl dX9_firstOf_51 (fun ls hl => ?_)
          refine z_iinc C hl 5 rfl [(5, .int (zI (y + 1))), (4, .int (zI (soo x (σ 51 ((6 * ((6 * side) + y)) + r).toNat)))), (0, .ref (q 44)), (1, .int (zI r)), (2, .int (zI side)), (3, .int (zI rows))] (by decide) rfl dX9_firstOf_53 (fun ls hl => ?_)
          refine z_goto C 7 (by decide) dX9_firstOf_56 ?_
          exact ih7 (soo x (σ 51 ((6 * ((6 * side) + y)) + r).toNat)) (y + 1) (by omega) (by omega) (by rw [show (y + 1).toNat = y.toNat + 1 by omega, kRw, if_pos w2, show ((y.toNat : Nat) : Int) = y by omega, ← soo_mN hxb.1 hfb.1 hxb.2 hfb.2, ← hx, hv]) ls (lv_sub hl [2, 3, 4, 5, 1, 0] rfl)
  exact L7 ((6 - 0 : Int).toNat + 1) (-6) 0 (by omega) (by omega) rfl ls (lv_sub hl [2, 3, 4, 5, 1, 0] rfl)

set_option maxHeartbeats 4000000 in
set_option maxRecDepth 100000 in
theorem c_X9_joinedOf {l : Launch} {D : va_G} {q : Nat → Nat} {g : Nat → ClassId} {σ : Mem} (r : Int) (hI : TI σ) (hA : FA σ) (hr : 0 ≤ r ∧ r ≤ 5) : RO l yX9_joinedOf cX9_joinedOf 2 (some .int) 2 46 D q g σ [.ref (q 44), .int (zI r)] (some (.int (zI (mN (kJn (co σ) r))))) := by
  refine RO.intro (plainFor_of_name (by decide)) (Nat.le_of_ble_eq_true rfl) (fun p e s m args below meth c ls B hP hl => ?_)
  have C := B.1
  have hl : lv_has ls 2 [(0, .ref (q 44)), (1, .int (zI r))] := hl
  have hIc := TI_cc hI
  have e0 : kRw (co σ) 0 r 63 6 = kHr (co σ) 0 r := kRw_63 6 (Nat.le_refl 6)
  have e1 : kRw (co σ) 1 r 63 6 = kHr (co σ) 1 r := kRw_63 6 (Nat.le_refl 6)
  have hb0 := kHr_b hIc (side := 0) (lane := r) (by omega)
  have hb1 := kHr_b hIc (side := 1) (lane := r) (by omega)
  rw [← e0] at hb0
  rw [← e1] at hb1
  have hm0 := mN_b hb0
  have hm1 := mN_b hb1
  refine z_aln C hl 0 rfl dX9_joinedOf_0 ?_
  refine z_iln C hl 1 rfl dX9_joinedOf_1 ?_
  refine z_ic C dX9_joinedOf_2 ?_
  refine z_bp C dX9_joinedOf_3 rfl ?_
  refine z_vRO C hP hl (c_X9_firstOf (σ := σ) r 0 63 hI hA (by omega) (by omega) (by omega)) (z_recv C hP (i := 44) (by decide) rfl (ci := 9) rfl) wg_733 wg_10 wg_730 wg_732 ws_X9_firstOf cw_X9_firstOf ⟨Nat.le_of_ble_eq_true rfl, Nat.le_of_ble_eq_true rfl⟩ rfl rfl (Nat.le_of_ble_eq_true rfl) dX9_joinedOf_5 ?_
  refine z_aln C hl 0 rfl dX9_joinedOf_8 ?_
  refine z_iln C hl 1 rfl dX9_joinedOf_9 ?_
  refine z_ic C dX9_joinedOf_10 ?_
  refine z_bp C dX9_joinedOf_11 rfl ?_
  refine z_vRO C hP hl (c_X9_firstOf (σ := σ) r 1 63 hI hA (by omega) (by omega) (by omega)) (z_recv C hP (i := 44) (by decide) rfl (ci := 9) rfl) wg_733 wg_10 wg_730 wg_732 ws_X9_firstOf cw_X9_firstOf ⟨Nat.le_of_ble_eq_true rfl, Nat.le_of_ble_eq_true rfl⟩ rfl rfl (Nat.le_of_ble_eq_true rfl) dX9_joinedOf_13 ?_
  refine z_sRO C hP hl (c_X9_sooner (σ := σ) (mN (kRw (co σ) 0 r 63 6)) (mN (kRw (co σ) 1 r 63 6)) (by omega) (by omega))  wg_736 wg_10 wg_734 wg_735 cw_X9_sooner ⟨Nat.le_of_ble_eq_true rfl, Nat.le_of_ble_eq_true rfl⟩ rfl rfl (Nat.le_of_ble_eq_true rfl) dX9_joinedOf_16 ?_
  exact z_iret B (by rw [soo_mN hb0.1 hb1.1 hb0.2 hb1.2, e0, e1]; rfl) dX9_joinedOf_19

set_option maxHeartbeats 4000000 in
set_option maxRecDepth 100000 in
theorem c_X9_crossed {l : Launch} {D : va_G} {q : Nat → Nat} {g : Nat → ClassId} {σ : Mem} (r lean : Int) (hI : TI σ) (hR : MR σ) (hla : 0 ≤ r ∧ r < σ 1 2) (hle : -3 ≤ lean ∧ lean ≤ 3) : RO l yX9_crossed cX9_crossed 7 (some .int) 1 22 D q g σ [.ref (q 44), .int (zI r), .int (zI lean)] (some (.int (zI (mN (kCr (co σ) r.toNat lean))))) := by
  refine RO.intro (plainFor_of_name (by decide)) (Nat.le_of_ble_eq_true rfl) (fun p e s m args below meth c ls B hP hl => ?_)
  have C := B.1
  have hl : lv_has ls 7 [(0, .ref (q 44)), (1, .int (zI r)), (2, .int (zI lean))] := hl
  have h1 := hI.1
  have hIc := TI_cc hI
  have hj : r.toNat < 6 := by omega
  have hb := hI.2.2.1 r.toNat hj
  have hg := hR.2.1 r.toNat (by omega)
  refine z_bp C dX9_crossed_0 rfl ?_
  refine z_isn C hl [(3, .int (zI (-6))), (0, .ref (q 44)), (1, .int (zI r)), (2, .int (zI lean))] (by decide) rfl dX9_crossed_2 (fun ls hl => ?_)
  refine z_ic C dX9_crossed_3 ?_
  refine z_ist C hl [(4, .int (zI 0)), (3, .int (zI (-6))), (0, .ref (q 44)), (1, .int (zI r)), (2, .int (zI lean))] (by decide) rfl dX9_crossed_4 (fun ls hl => ?_)
  have L6 : ∀ (n : Nat) (x : Int) (y : Int)  , 6 - y < (n : Int) → (0 ≤ y ∧ y ≤ 6) → (x = mN (kCrF (co σ) r.toNat lean y.toNat)) → ∀ ls : Array Slot, lv_has ls 7 [(0, .ref (q 44)), (1, .int (zI r)), (2, .int (zI lean)), (3, .int (zI x)), (4, .int (zI y))] → WO p l e 1 22 s m args below meth c (some (.int (zI (mN (kCr (co σ) r.toNat lean))))) (F0 m 6 ls []) := by
    intro n
    induction n with
    | zero => intro x y hm hy hx ls hl; exact False.elim (by omega)
    | succ n ih =>
      intro x y hm hy hx ls hl
      have ih6 := ih; clear ih
      refine z_il C hl 4 rfl dX9_crossed_6 ?_
      refine z_bp C dX9_crossed_8 rfl ?_
      refine z_icmp_ge C 91 (by decide) (by omega) (by omega) dX9_crossed_10 (fun w1 => ?_) (fun w1 => ?_)
      · skip
        refine z_iln C hl 3 rfl dX9_crossed_91 ?_
        exact z_iret B (by rw [hx, show y.toNat = 6 by omega]; rfl) dX9_crossed_92
      · skip
        have hs := hR.2.2 r.toNat y.toNat 0 hj (by omega) (by omega)
        have hp := hI.2.2.2 r.toNat y.toNat hj (by omega)
        have ei : (2 * (6 * r + y) + 0).toNat = 2 * (6 * r.toNat + y.toNat) + 0 := by omega
        rw [← ei] at hs
        simp only [Nat.zero_mul, Nat.zero_add] at hs
        have hxb := kCrF_b hIc hj hle y.toNat (by omega)
        have hxm := mN_b hxb
        have hm := mul_l hle (b := y) (by omega)
        have hfo := kFO_b hIc hj (what := 0) (row := y) (place := lean * y) (by omega) (by omega)
        have efo : kFO (co σ) r.toNat 0 y (lean * y) = max 0 (-((-(lean * y - σ (38 + r.toNat) y.toNat - σ (26 + r.toNat) 2)) / σ (26 + r.toNat) 3)) := by unfold kFO; rw [co_run hj, co_to hj, show ((0 : Int) * 6 + y).toNat = y.toNat by omega]
        refine z_iln C hl 1 rfl dX9_crossed_13 ?_
        refine z_il C hl 4 rfl dX9_crossed_14 ?_
        refine z_ic C dX9_crossed_16 ?_
        refine z_sRO C hP hl (c_X9_shapeAt (σ := σ) r y 0 )  wg_697 wg_10 wg_695 wg_696 cw_X9_shapeAt ⟨Nat.le_of_ble_eq_true rfl, Nat.le_of_ble_eq_true rfl⟩ rfl rfl (Nat.le_of_ble_eq_true rfl) dX9_crossed_17 ?_
        refine z_ist C hl [(5, .int (zI (2 * (6 * r + y) + 0))), (0, .ref (q 44)), (1, .int (zI r)), (2, .int (zI lean)), (3, .int (zI x)), (4, .int (zI y))] (by decide) rfl dX9_crossed_20 (fun ls hl => ?_)
        refine z_aln C hl 1 rfl dX9_crossed_22 ?_
        refine gf_X9_16 C hP dX9_crossed_23 ?_
        refine z_il C hl 0 rfl dX9_crossed_26 ?_
        refine z_zald C hP (i := 47) (by decide) (fun _ => rfl) (by omega) (by decide) dX9_crossed_28 ?_
        refine z_if_eq C 85 (by decide) (by omega) dX9_crossed_29 (fun w2 => ?_) (fun w2 => ?_)
        · skip
          refine z_iinc C hl 5 rfl [(4, .int (zI (y + 1))), (5, .int (zI (2 * (6 * r + y) + 0))), (0, .ref (q 44)), (1, .int (zI r)), (2, .int (zI lean)), (3, .int (zI x))] (by decide) rfl dX9_crossed_85 (fun ls hl => ?_)
          refine z_goto C 6 (by decide) dX9_crossed_88 ?_
          exact ih6 x (y + 1) (by omega) (by omega) (by rw [show (y + 1).toNat = y.toNat + 1 by omega, kCrF, co_frm hj, co_to hj, if_neg (by omega), hx]) ls (lv_sub hl [2, 3, 4, 5, 0] rfl)
        · skip
          refine z_iln C hl 3 rfl dX9_crossed_32 ?_
          refine z_il C hl 5 rfl dX9_crossed_33 ?_
          refine z_imul C dX9_crossed_35 ?_
          refine z_aln C hl 1 rfl dX9_crossed_36 ?_
          refine gf_X9_23 C hP dX9_crossed_37 ?_
          refine z_il C hl 0 rfl dX9_crossed_40 ?_
          refine z_iald C hP (i := 49) (by decide) (fun _ => rfl) (by omega) (by decide) dX9_crossed_42 ?_
          refine z_isub C dX9_crossed_43 ?_
          refine z_aln C hl 1 rfl dX9_crossed_44 ?_
          refine gf_X9_7 C hP dX9_crossed_45 ?_
          refine z_iln C hl 2 rfl dX9_crossed_48 ?_
          refine z_iald C hP (i := 45) (by decide) (fun _ => rfl) (by omega) (by decide) dX9_crossed_49 ?_
          refine z_isub C dX9_crossed_50 ?_
          refine z_ist C hl [(6, .int (zI (((lean * y) - (σ 49 (2 * (6 * r + y) + 0).toNat)) - (σ 45 r.toNat)))), (5, .int (zI (2 * (6 * r + y) + 0))), (0, .ref (q 44)), (1, .int (zI r)), (2, .int (zI lean)), (3, .int (zI x)), (4, .int (zI y))] (by decide) rfl dX9_crossed_51 (fun ls hl => ?_)
          refine z_iln C hl 5 rfl dX9_crossed_53 ?_
          refine z_il C hl 0 rfl dX9_crossed_54 ?_
          refine z_if_gt C 63 (by decide) (by omega) dX9_crossed_56 (fun w3 => ?_) (fun w3 => ?_)
          · skip
            have hdv := div_b (a := -(lean * y - σ (38 + r.toNat) y.toNat - σ (26 + r.toNat) 2)) (v := σ (26 + r.toNat) 3) (by omega) (by omega)
            have hval : mN (kFO (co σ) r.toNat 0 y (lean * y)) = ((((lean * y) - (σ 49 ((2 * (6 * r + y)) + 0).toNat)) - (σ 45 r.toNat)) + (σ 46 r.toNat) - 1).tdiv (σ 46 r.toNat) := by rw [hg.1, hg.2.1, show σ 49 ((2 * (6 * r + y)) + 0).toNat = σ (38 + r.toNat) y.toNat by omega, ← ceil_p (by omega) (by omega), ← efo]; unfold mN; rw [if_neg (by omega)]
            have hvb : ((((lean * y) - (σ 49 ((2 * (6 * r + y)) + 0).toNat)) - (σ 45 r.toNat)) + (σ 46 r.toNat) - 1).tdiv (σ 46 r.toNat) ≤ 100000 ∧ -6 ≤ ((((lean * y) - (σ 49 ((2 * (6 * r + y)) + 0).toNat)) - (σ 45 r.toNat)) + (σ 46 r.toNat) - 1).tdiv (σ 46 r.toNat) := by rw [← hval]; unfold mN; split <;> omega
            refine z_il C hl 0 rfl dX9_crossed_63 ?_
            refine z_aln C hl 2 rfl dX9_crossed_65 ?_
            refine gf_X9_13 C hP dX9_crossed_66 ?_
            refine z_iln C hl 3 rfl dX9_crossed_69 ?_
            refine z_iald C hP (i := 46) (by decide) (fun _ => rfl) (by omega) (by decide) dX9_crossed_70 ?_
            refine z_iadd C dX9_crossed_71 ?_
            refine z_ic C dX9_crossed_72 ?_
            refine z_isub C dX9_crossed_73 ?_
            refine z_aln C hl 2 rfl dX9_crossed_74 ?_
            refine gf_X9_13 C hP dX9_crossed_75 ?_
            refine z_iln C hl 3 rfl dX9_crossed_78 ?_
            refine z_iald C hP (i := 46) (by decide) (fun _ => rfl) (by omega) (by decide) dX9_crossed_79 ?_
            refine z_idiv C (by omega) (by omega) (by omega) dX9_crossed_80 ?_
            refine z_sRO C hP hl (c_X9_sooner (σ := σ) x ((((((lean * y) - (σ 49 (2 * (6 * r + y) + 0).toNat)) - (σ 45 r.toNat)) + (σ 46 r.toNat)) - 1).tdiv (σ 46 r.toNat)) (by omega) (by omega))  wg_736 wg_10 wg_734 wg_735 cw_X9_sooner ⟨Nat.le_of_ble_eq_true rfl, Nat.le_of_ble_eq_true rfl⟩ rfl rfl (Nat.le_of_ble_eq_true rfl) dX9_crossed_81 ?_
            refine z_isn C hl [(3, .int (zI (soo x ((((((lean * y) - (σ 49 (2 * (6 * r + y) + 0).toNat)) - (σ 45 r.toNat)) + (σ 46 r.toNat)) - 1).tdiv (σ 46 r.toNat))))), (6, .int (zI (((lean * y) - (σ 49 (2 * (6 * r + y) + 0).toNat)) - (σ 45 r.toNat)))), (5, .int (zI (2 * (6 * r + y) + 0))), (0, .ref (q 44)), (1, .int (zI r)), (2, .int (zI lean)), (4, .int (zI y))] (by decide) rfl dX9_crossed_84 (fun ls hl => ?_)
            refine z_iinc C hl 6 rfl [(4, .int (zI (y + 1))), (3, .int (zI (soo x ((((((lean * y) - (σ 49 (2 * (6 * r + y) + 0).toNat)) - (σ 45 r.toNat)) + (σ 46 r.toNat)) - 1).tdiv (σ 46 r.toNat))))), (6, .int (zI (((lean * y) - (σ 49 (2 * (6 * r + y) + 0).toNat)) - (σ 45 r.toNat)))), (5, .int (zI (2 * (6 * r + y) + 0))), (0, .ref (q 44)), (1, .int (zI r)), (2, .int (zI lean))] (by decide) rfl dX9_crossed_85 (fun ls hl => ?_)
            refine z_goto C 6 (by decide) dX9_crossed_88 ?_
            exact ih6 (soo x ((((((lean * y) - (σ 49 (2 * (6 * r + y) + 0).toNat)) - (σ 45 r.toNat)) + (σ 46 r.toNat)) - 1).tdiv (σ 46 r.toNat))) (y + 1) (by omega) (by omega) (by rw [show (y + 1).toNat = y.toNat + 1 by omega, kCrF, co_frm hj, co_to hj, if_pos (by omega), show ((y.toNat : Nat) : Int) = y by omega, ← soo_mN hxb.1 hfo.1 hxb.2 (by omega), ← hx, hval]) ls (lv_sub hl [4, 5, 6, 1, 0] rfl)
          · skip
            have hval : mN (kFO (co σ) r.toNat 0 y (lean * y)) = 0 := by rw [efo, ceil_0 (by omega) (by omega)]; rfl
            refine z_ic C dX9_crossed_59 ?_
            refine z_goto C 81 (by decide) dX9_crossed_60 ?_
            refine z_sRO C hP hl (c_X9_sooner (σ := σ) x 0 (by omega) (by omega))  wg_736 wg_10 wg_734 wg_735 cw_X9_sooner ⟨Nat.le_of_ble_eq_true rfl, Nat.le_of_ble_eq_true rfl⟩ rfl rfl (Nat.le_of_ble_eq_true rfl) dX9_crossed_81 ?_
            refine z_isn C hl [(3, .int (zI (soo x 0))), (6, .int (zI (((lean * y) - (σ 49 (2 * (6 * r + y) + 0).toNat)) - (σ 45 r.toNat)))), (5, .int (zI (2 * (6 * r + y) + 0))), (0, .ref (q 44)), (1, .int (zI r)), (2, .int (zI lean)), (4, .int (zI y))] (by decide) rfl dX9_crossed_84 (fun ls hl => ?_)
            refine z_iinc C hl 6 rfl [(4, .int (zI (y + 1))), (3, .int (zI (soo x 0))), (6, .int (zI (((lean * y) - (σ 49 (2 * (6 * r + y) + 0).toNat)) - (σ 45 r.toNat)))), (5, .int (zI (2 * (6 * r + y) + 0))), (0, .ref (q 44)), (1, .int (zI r)), (2, .int (zI lean))] (by decide) rfl dX9_crossed_85 (fun ls hl => ?_)
            refine z_goto C 6 (by decide) dX9_crossed_88 ?_
            exact ih6 (soo x 0) (y + 1) (by omega) (by omega) (by rw [show (y + 1).toNat = y.toNat + 1 by omega, kCrF, co_frm hj, co_to hj, if_pos (by omega), show ((y.toNat : Nat) : Int) = y by omega, ← soo_mN hxb.1 hfo.1 hxb.2 (by omega), ← hx, hval]) ls (lv_sub hl [4, 5, 6, 1, 0] rfl)
  exact L6 ((6 - 0 : Int).toNat + 1) (-6) 0 (by omega) (by omega) rfl ls (lv_sub hl [2, 3, 4, 1, 0] rfl)

set_option maxHeartbeats 4000000 in
set_option maxRecDepth 100000 in
theorem c_X9_hasTorso {l : Launch} {D : va_G} {q : Nat → Nat} {g : Nat → ClassId} {σ : Mem} (r : Int) (hI : TI σ) (hR : MR σ) (hla : 0 ≤ r ∧ r < σ 1 2) : RO l yX9_hasTorso cX9_hasTorso 2 (some .boolean) 2 48 D q g σ [.ref (q 44), .int (zI r)] (some (.int (zI (bz (kHas (co σ) r.toNat = true))))) := by
  refine RO.intro (plainFor_of_name (by decide)) (Nat.le_of_ble_eq_true rfl) (fun p e s m args below meth c ls B hP hl => ?_)
  have C := B.1
  have hl : lv_has ls 2 [(0, .ref (q 44)), (1, .int (zI r))] := hl
  have h1 := hI.1
  have hIc := TI_cc hI
  have hj : r.toNat < 6 := by omega
  have hb := kCr_b hIc hj (lean := 0) (by omega)
  have hm := mN_b hb
  have hh := kCr_has hIc hj (lean := 0) (by omega)
  have hn := mN_neg hb.1
  refine z_aln C hl 0 rfl dX9_hasTorso_0 ?_
  refine z_iln C hl 1 rfl dX9_hasTorso_1 ?_
  refine z_ic C dX9_hasTorso_2 ?_
  refine z_vRO C hP hl (c_X9_crossed (σ := σ) r 0 hI hR (by omega) (by omega)) (z_recv C hP (i := 44) (by decide) rfl (ci := 9) rfl) wg_744 wg_10 wg_741 wg_743 ws_X9_crossed cw_X9_crossed ⟨Nat.le_of_ble_eq_true rfl, Nat.le_of_ble_eq_true rfl⟩ rfl rfl (Nat.le_of_ble_eq_true rfl) dX9_hasTorso_3 ?_
  refine z_if_lt C 13 (by decide) (by omega) dX9_hasTorso_6 (fun w1 => ?_) (fun w1 => ?_)
  · skip
    refine z_ic C dX9_hasTorso_13 ?_
    exact z_bret0 B (by rw [← hh]; omega) dX9_hasTorso_14
  · skip
    refine z_ic C dX9_hasTorso_9 ?_
    refine z_goto C 14 (by decide) dX9_hasTorso_10 ?_
    exact z_bret1 B (by rw [← hh]; omega) dX9_hasTorso_14

set_option maxHeartbeats 4000000 in
set_option maxRecDepth 100000 in
theorem c_X9_isHidden {l : Launch} {D : va_G} {q : Nat → Nat} {g : Nat → ClassId} {σ : Mem} (r : Int) (hI : TI σ) (hR : MR σ) (hla : 0 ≤ r ∧ r < σ 1 2) (hA : FA σ) : RO l yX9_isHidden cX9_isHidden 3 (some .boolean) 3 69 D q g σ [.ref (q 44), .int (zI r)] (some (.int (zI (bz (kHid (co σ) r = true))))) := by
  refine RO.intro (plainFor_of_name (by decide)) (Nat.le_of_ble_eq_true rfl) (fun p e s m args below meth c ls B hP hl => ?_)
  have C := B.1
  have hl : lv_has ls 3 [(0, .ref (q 44)), (1, .int (zI r))] := hl
  have h1 := hI.1
  have hh := hR.1
  have h80 := hI.2.1
  have hIc := TI_cc hI
  have hj : r.toNat < 6 := by omega
  have hb := kJn_b hIc (lane := r) (by omega)
  have hc := kLn_b hIc (lane := r) (by omega)
  have hm := mN_b hb
  have hm2 := mN_b hc
  have ht := kCr_has hIc hj (lean := σ 8 0) (by omega)
  have el : kCr (co σ) r.toNat (σ 44 7) = kLn (co σ) r := by rw [hh.2.1]; rfl
  have el2 : kCr (co σ) r.toNat (σ 8 0) = kLn (co σ) r := rfl
  rw [el2] at ht
  have eml : mN (kCr (co σ) r.toNat (σ 44 7)) = mN (kLn (co σ) r) := by rw [el]
  have hcj := mN_c (kJn (co σ) r)
  have hcl := mN_c (kLn (co σ) r)
  refine z_aln C hl 0 rfl dX9_isHidden_0 ?_
  refine z_iln C hl 1 rfl dX9_isHidden_1 ?_
  refine z_vRO C hP hl (c_X9_joinedOf (σ := σ) r hI hA (by omega)) (z_recv C hP (i := 44) (by decide) rfl (ci := 9) rfl) wg_740 wg_10 wg_737 wg_739 ws_X9_joinedOf cw_X9_joinedOf ⟨Nat.le_of_ble_eq_true rfl, Nat.le_of_ble_eq_true rfl⟩ rfl rfl (Nat.le_of_ble_eq_true rfl) dX9_isHidden_2 ?_
  refine z_isn C hl [(2, .int (zI (mN (kJn (co σ) r)))), (0, .ref (q 44)), (1, .int (zI r))] (by decide) rfl dX9_isHidden_5 (fun ls hl => ?_)
  refine z_aln C hl 1 rfl dX9_isHidden_6 ?_
  refine z_iln C hl 2 rfl dX9_isHidden_7 ?_
  refine z_vRO C hP hl (c_X9_hasTorso (σ := σ) r hI hR (by omega)) (z_recv C hP (i := 44) (by decide) rfl (ci := 9) rfl) wg_752 wg_10 wg_749 wg_751 ws_X9_hasTorso cw_X9_hasTorso ⟨Nat.le_of_ble_eq_true rfl, Nat.le_of_ble_eq_true rfl⟩ rfl rfl (Nat.le_of_ble_eq_true rfl) dX9_isHidden_8 ?_
  refine z_bif_eq C 35 (by decide) dX9_isHidden_11 (fun w1 => ?_) (fun w1 => ?_)
  · skip
    refine z_ic C dX9_isHidden_35 ?_
    exact z_bret0 B (by unfold kHid; cases hk : kHas (co σ) r.toNat <;> simp [hk] at ht w1 ⊢ <;> omega) dX9_isHidden_36
  · skip
    refine z_iln C hl 0 rfl dX9_isHidden_14 ?_
    refine z_if_lt C 31 (by decide) (by omega) dX9_isHidden_15 (fun w2 => ?_) (fun w2 => ?_)
    · skip
      refine z_ic C dX9_isHidden_31 ?_
      refine z_goto C 36 (by decide) dX9_isHidden_32 ?_
      exact z_bret1 B (by unfold kHid; cases hk : kHas (co σ) r.toNat <;> simp [hk] at ht w1 w2 ⊢ <;> omega) dX9_isHidden_36
    · skip
      refine z_iln C hl 0 rfl dX9_isHidden_18 ?_
      refine z_aln C hl 1 rfl dX9_isHidden_19 ?_
      refine z_iln C hl 2 rfl dX9_isHidden_20 ?_
      refine z_aln C hl 1 rfl dX9_isHidden_21 ?_
      refine gf_X9_94 C hP dX9_isHidden_22 ?_
      refine z_vRO C hP hl (c_X9_crossed (σ := σ) r (σ 44 7) hI hR (by omega) (by omega)) (z_recv C hP (i := 44) (by decide) rfl (ci := 9) rfl) wg_744 wg_10 wg_741 wg_743 ws_X9_crossed cw_X9_crossed ⟨Nat.le_of_ble_eq_true rfl, Nat.le_of_ble_eq_true rfl⟩ rfl rfl (Nat.le_of_ble_eq_true rfl) dX9_isHidden_25 ?_
      refine z_icmp_le C 35 (by decide) (by omega) (by omega) dX9_isHidden_28 (fun w3 => ?_) (fun w3 => ?_)
      · skip
        refine z_ic C dX9_isHidden_35 ?_
        exact z_bret0 B (by unfold kHid; cases hk : kHas (co σ) r.toNat <;> simp [hk] at ht w1 w2 w3 ⊢ <;> omega) dX9_isHidden_36
      · skip
        refine z_ic C dX9_isHidden_31 ?_
        refine z_goto C 36 (by decide) dX9_isHidden_32 ?_
        exact z_bret1 B (by unfold kHid; cases hk : kHas (co σ) r.toNat <;> simp [hk] at ht w1 w2 w3 ⊢ <;> omega) dX9_isHidden_36

set_option maxHeartbeats 4000000 in
set_option maxRecDepth 100000 in
theorem c_X9_hearsOf {l : Launch} {D : va_G} {q : Nat → Nat} {g : Nat → ClassId} {σ : Mem} (r : Int) (hI : TI σ) (hR : MR σ) (hla : 0 ≤ r ∧ r < σ 1 2) : RO l yX9_hearsOf cX9_hearsOf 3 (some .int) 0 0 D q g σ [.ref (q 44), .int (zI r)] (some (.int (zI (kHe (co σ) r)))) := by
  refine RO.intro (plainFor_of_name (by decide)) (Nat.le_of_ble_eq_true rfl) (fun p e s m args below meth c ls B hP hl => ?_)
  have C := B.1
  have hl : lv_has ls 3 [(0, .ref (q 44)), (1, .int (zI r))] := hl
  have h1 := hI.1
  have h2 := hI.2.1
  have hh := hR.1
  have e12 : co σ 1 2 = σ 1 2 := rfl
  have e83 : co σ 8 3 = σ 8 3 := rfl
  refine z_aln C hl 0 rfl dX9_hearsOf_0 ?_
  refine gf_X9_66 C hP dX9_hearsOf_1 ?_
  refine z_ic C dX9_hearsOf_4 ?_
  refine z_isub C dX9_hearsOf_5 ?_
  refine z_iln C hl 1 rfl dX9_hearsOf_6 ?_
  refine z_isub C dX9_hearsOf_7 ?_
  refine z_isn C hl [(2, .int (zI (((σ 44 6) - 1) - r))), (0, .ref (q 44)), (1, .int (zI r))] (by decide) rfl dX9_hearsOf_8 (fun ls hl => ?_)
  refine z_ic C dX9_hearsOf_9 ?_
  refine z_aln C hl 1 rfl dX9_hearsOf_10 ?_
  refine gf_X9_100 C hP dX9_hearsOf_11 ?_
  refine z_ic C dX9_hearsOf_14 ?_
  refine z_icmp_ne C 27 (by decide) (by omega) (by omega) dX9_hearsOf_15 (fun w1 => ?_) (fun w1 => ?_)
  · skip
    refine z_iln C hl 2 rfl dX9_hearsOf_27 ?_
    refine z_imul C dX9_hearsOf_28 ?_
    exact z_iret B (by unfold kHe; split <;> omega) dX9_hearsOf_29
  · skip
    refine z_iln C hl 0 rfl dX9_hearsOf_18 ?_
    refine z_iln C hl 2 rfl dX9_hearsOf_19 ?_
    refine z_icmp_ge C 27 (by decide) (by omega) (by omega) dX9_hearsOf_20 (fun w2 => ?_) (fun w2 => ?_)
    · skip
      refine z_iln C hl 2 rfl dX9_hearsOf_27 ?_
      refine z_imul C dX9_hearsOf_28 ?_
      exact z_iret B (by unfold kHe; split <;> omega) dX9_hearsOf_29
    · skip
      refine z_iln C hl 0 rfl dX9_hearsOf_23 ?_
      refine z_goto C 28 (by decide) dX9_hearsOf_24 ?_
      refine z_imul C dX9_hearsOf_28 ?_
      exact z_iret B (by unfold kHe; split <;> omega) dX9_hearsOf_29

set_option maxHeartbeats 4000000 in
set_option maxRecDepth 100000 in
theorem c_X9_sign {l : Launch} {D : va_G} {q : Nat → Nat} {g : Nat → ClassId} {σ : Mem} (v : Int) (hr_v : zR v) : RO l yX9_sign cX9_sign 1 (some .int) 0 0 D q g σ [.int (zI v)] (some (.int (zI (sgn v)))) := by
  refine RO.intro (plainFor_of_name (by decide)) (Nat.le_of_ble_eq_true rfl) (fun p e s m args below meth c ls B hP hl => ?_)
  have C := B.1
  have hl : lv_has ls 1 [(0, .int (zI v))] := hl
  refine z_iln C hl 0 rfl dX9_sign_0 ?_
  refine z_if_le C 8 (by decide) (by omega) dX9_sign_1 (fun w1 => ?_) (fun w1 => ?_)
  · skip
    refine z_iln C hl 0 rfl dX9_sign_8 ?_
    refine z_if_ge C 16 (by decide) (by omega) dX9_sign_9 (fun w2 => ?_) (fun w2 => ?_)
    · skip
      refine z_ic C dX9_sign_16 ?_
      exact z_iret B (by unfold sgn; split <;> (try split) <;> omega) dX9_sign_17
    · skip
      refine z_ic C dX9_sign_12 ?_
      refine z_goto C 17 (by decide) dX9_sign_13 ?_
      exact z_iret B (by unfold sgn; split <;> (try split) <;> omega) dX9_sign_17
  · skip
    refine z_ic C dX9_sign_4 ?_
    refine z_goto C 17 (by decide) dX9_sign_5 ?_
    exact z_iret B (by unfold sgn; split <;> (try split) <;> omega) dX9_sign_17

set_option maxHeartbeats 4000000 in
set_option maxRecDepth 100000 in
theorem c_X9_timeOf {l : Launch} {D : va_G} {q : Nat → Nat} {g : Nat → ClassId} {σ : Mem} (r md : Int) (hI : TI σ) (hR : MR σ) (hla : 0 ≤ r ∧ r < σ 1 2) (hA : FA σ) (hr_md : zR md) : RO l yX9_timeOf cX9_timeOf 3 (some .int) 3 67 D q g σ [.ref (q 44), .int (zI r), .int (zI md)] (some (.int (zI (mN (kJn (co σ) r) - (if md = 0 then 0 else kHe (co σ) r))))) := by
  refine RO.intro (plainFor_of_name (by decide)) (Nat.le_of_ble_eq_true rfl) (fun p e s m args below meth c ls B hP hl => ?_)
  have C := B.1
  have hl : lv_has ls 3 [(0, .ref (q 44)), (1, .int (zI r)), (2, .int (zI md))] := hl
  have h1 := hI.1
  have hIc := TI_cc hI
  refine z_aln C hl 0 rfl dX9_timeOf_0 ?_
  refine z_iln C hl 1 rfl dX9_timeOf_1 ?_
  refine z_vRO C hP hl (c_X9_joinedOf (σ := σ) r hI hA (by omega)) (z_recv C hP (i := 44) (by decide) rfl (ci := 9) rfl) wg_740 wg_10 wg_737 wg_739 ws_X9_joinedOf cw_X9_joinedOf ⟨Nat.le_of_ble_eq_true rfl, Nat.le_of_ble_eq_true rfl⟩ rfl rfl (Nat.le_of_ble_eq_true rfl) dX9_timeOf_2 ?_
  refine z_iln C hl 2 rfl dX9_timeOf_5 ?_
  refine z_if_eq C 17 (by decide) (by omega) dX9_timeOf_6 (fun w1 => ?_) (fun w1 => ?_)
  · skip
    refine z_ic C dX9_timeOf_17 ?_
    refine z_isub C dX9_timeOf_18 ?_
    exact z_iret B (by split <;> omega) dX9_timeOf_19
  · skip
    refine z_aln C hl 0 rfl dX9_timeOf_9 ?_
    refine z_iln C hl 1 rfl dX9_timeOf_10 ?_
    refine z_vRO C hP hl (c_X9_hearsOf (σ := σ) r hI hR (by omega)) (z_recv C hP (i := 44) (by decide) rfl (ci := 9) rfl) wg_756 wg_10 wg_753 wg_755 ws_X9_hearsOf cw_X9_hearsOf ⟨Nat.le_of_ble_eq_true rfl, Nat.le_of_ble_eq_true rfl⟩ rfl rfl (Nat.le_of_ble_eq_true rfl) dX9_timeOf_11 ?_
    refine z_goto C 18 (by decide) dX9_timeOf_14 ?_
    refine z_isub C dX9_timeOf_18 ?_
    exact z_iret B (by split <;> omega) dX9_timeOf_19
end
section
/-! orders: an insertion, by keys -/
def kKey (T : Mem) (md lane : Int) : Int := kJn T lane - (if md = 0 then 0 else kHe T lane)
def kpos (k : Nat → Int) (key : Int) : Nat → Nat
  | 0 => 0
  | m + 1 => if key < k m then kpos k key m else m + 1
def insA (a : Nat → Int) (p : Nat) (v : Int) : Nat → Int := fun j => if j < p then a j else if j = p then v else a (j - 1)
def kOrd (T : Mem) (md : Int) : Nat → (Nat → Int) × Nat
  | 0 => (fun _ => 0, 0)
  | k + 1 => if kJn T k < 10000000 then (insA (kOrd T md k).1 (kpos (fun j => kKey T md ((kOrd T md k).1 j)) (kKey T md k) (kOrd T md k).2) k, (kOrd T md k).2 + 1) else kOrd T md k
theorem kpos_le (k : Nat → Int) (key : Int) : ∀ m, kpos k key m ≤ m
  | 0 => Nat.le_refl 0
  | m + 1 => by have := kpos_le k key m; unfold kpos; split <;> omega
theorem kpos_cong {k k' : Nat → Int} {key : Int} : ∀ m : Nat, (∀ j, j < m → k j = k' j) → kpos k key m = kpos k' key m
  | 0, _ => rfl
  | m + 1, h => by rw [kpos, kpos, h m (by omega), kpos_cong m (fun j hj => h j (by omega))]
theorem insA_cong {a a' : Nat → Int} {p m : Nat} {v : Int} (hp : p ≤ m) (h : ∀ j, j < m → a j = a' j) {j : Nat} (hj : j ≤ m) : insA a p v j = insA a' p v j := by
  unfold insA
  split
  · exact h j (by omega)
  · split
    · rfl
    · exact h _ (by omega)
theorem insA_map {a : Nat → Int} {p : Nat} {v : Int} {f : Int → Int} {j : Nat} : insA (fun i => f (a i)) p (f v) j = f (insA a p v j) := by
  unfold insA
  split
  · rfl
  · split <;> rfl
theorem kOrd_rng (T : Mem) (md : Int) : ∀ k : Nat, (kOrd T md k).2 ≤ k ∧ ∀ j, j < (kOrd T md k).2 → 0 ≤ (kOrd T md k).1 j ∧ (kOrd T md k).1 j < k ∧ kJn T ((kOrd T md k).1 j) < 10000000
  | 0 => ⟨Nat.le_refl 0, fun j hj => by cases hj⟩
  | k + 1 => by
    have ih := kOrd_rng T md k
    unfold kOrd
    split
    · rename_i hk
      refine ⟨by show _ + 1 ≤ _; omega, fun j hj => ?_⟩
      have hj : j < (kOrd T md k).2 + 1 := hj
      have hp := kpos_le (fun j => kKey T md ((kOrd T md k).1 j)) (kKey T md k) (kOrd T md k).2
      show 0 ≤ insA _ _ _ j ∧ insA _ _ _ j < _ ∧ kJn T (insA _ _ _ j) < _
      unfold insA
      split
      · have := ih.2 j (by omega); omega
      · split
        · omega
        · have := ih.2 (j - 1) (by omega); omega
    · exact ⟨by omega, fun j hj => by have := ih.2 j hj; omega⟩
def shf (a b : Nat → Int) (x m : Int) : Prop := ∀ j : Nat, ((j : Int) < x → b j = a j) ∧ (x < j → (j : Int) ≤ m → b j = a (j - 1))
theorem shf_init {a : Nat → Int} {m : Int} : shf a a m m := fun j => ⟨fun _ => rfl, fun h1 h2 => by omega⟩
theorem shf_step {a b b' : Nat → Int} {x m : Int} (h : shf a b x m) (hx : 0 < x) (h1 : b' x.toNat = b (x - 1).toNat) (h2 : ∀ k, k ≠ x.toNat → b' k = b k) : shf a b' (x + -1) m := fun j => by
  refine ⟨fun hj => ?_, fun hj hm => ?_⟩
  · rw [h2 j (by omega)]; exact (h j).1 (by omega)
  · by_cases e : j = x.toNat
    · subst e
      rw [h1, (h _).1 (by omega)]
      congr 1; omega
    · rw [h2 j e]; exact (h j).2 (by omega) hm
theorem shf_end {a b b' : Nat → Int} {x m v : Int} (h : shf a b x m) (hx : 0 ≤ x ∧ x ≤ m) (h1 : b' x.toNat = v) (h2 : ∀ k, k ≠ x.toNat → b' k = b k) {j : Nat} (hj : (j : Int) ≤ m) : b' j = insA a x.toNat v j := by
  unfold insA
  split
  · rw [h2 j (by omega)]; exact (h j).1 (by omega)
  · split
    · rename_i e; rw [e, h1]
    · rw [h2 j (by omega)]; exact (h j).2 (by omega) hj
theorem kpos_at {k : Nat → Int} {key : Int} {x : Int} (h0 : 0 ≤ x) (h : x ≤ 0 ∨ k (x - 1).toNat ≤ key) : kpos k key x.toNat = x.toNat := by
  rcases Int.lt_or_le 0 x with q | q
  · rw [show x.toNat = (x - 1).toNat + 1 by omega, kpos, if_neg (by omega)]
  · rw [show x.toNat = 0 by omega]; rfl
theorem kpos_go {k : Nat → Int} {key : Int} {x : Int} (h0 : 0 < x) (h : key < k (x - 1).toNat) : kpos k key x.toNat = kpos k key (x + -1).toNat := by
  rw [show x.toNat = (x - 1).toNat + 1 by omega, kpos, if_pos h]; congr 1
/-- the ranking of the class behind k lanes -/
def RK (T : Mem) (md : Int) (k : Nat) (τ : Mem) : Prop := τ 2 2 = ((kOrd T md k).2 : Int) ∧ ∀ j, j < (kOrd T md k).2 → τ 9 j = (kOrd T md k).1 j ∧ τ 10 j = kKey T md ((kOrd T md k).1 j)
theorem RK_no {T : Mem} {md : Int} {k : Nat} {τ : Mem} (h : RK T md k τ) (hk : ¬ kJn T k < 10000000) : RK T md (k + 1) τ := by
  unfold RK
  rw [show kOrd T md (k + 1) = kOrd T md k by rw [kOrd, if_neg hk]]; exact h
theorem RK_yes {T : Mem} {md : Int} {k : Nat} {τ υ : Mem} (h : RK T md k τ) (hk : kJn T k < 10000000) (h1 : υ 2 2 = τ 2 2 + 1) (h2 : ∀ j : Nat, (j : Int) ≤ τ 2 2 → υ 9 j = insA (τ 9) (kpos (τ 10) (kKey T md k) (τ 2 2).toNat) k j ∧ υ 10 j = insA (τ 10) (kpos (τ 10) (kKey T md k) (τ 2 2).toNat) (kKey T md k) j) : RK T md (k + 1) υ := by
  have e : kOrd T md (k + 1) = (insA (kOrd T md k).1 (kpos (fun j => kKey T md ((kOrd T md k).1 j)) (kKey T md k) (kOrd T md k).2) k, (kOrd T md k).2 + 1) := by rw [kOrd, if_pos hk]
  unfold RK
  rw [e]
  obtain ⟨hs, ha⟩ := h
  have et : (τ 2 2).toNat = (kOrd T md k).2 := by omega
  have ep : kpos (τ 10) (kKey T md k) (τ 2 2).toNat = kpos (fun j => kKey T md ((kOrd T md k).1 j)) (kKey T md k) (kOrd T md k).2 := by
    rw [et]; exact kpos_cong _ (fun j hj => (ha j hj).2)
  have hp := kpos_le (fun j => kKey T md ((kOrd T md k).1 j)) (kKey T md k) (kOrd T md k).2
  refine ⟨by rw [h1, hs]; rfl, fun j hj => ?_⟩
  have hj : j < (kOrd T md k).2 + 1 := hj
  have := h2 j (by omega)
  rw [ep] at this
  refine ⟨this.1.trans (insA_cong hp (fun i hi => (ha i hi).1) (by omega)), this.2.trans ?_⟩
  rw [insA_cong (a' := fun i => kKey T md ((kOrd T md k).1 i)) hp (fun i hi => (ha i hi).2) (by omega)]
  exact insA_map (f := kKey T md)
/-- the model's order behind k lanes -/
def OR (T : Mem) (md : Int) (k : Nat) (τ : Mem) : Prop := τ 44 13 = ((kOrd T md k).2 : Int) ∧ ∀ j, j < (kOrd T md k).2 → τ 52 j = (kOrd T md k).1 j
theorem OR_no {T : Mem} {md : Int} {k : Nat} {τ : Mem} (h : OR T md k τ) (hk : ¬ kJn T k < 10000000) : OR T md (k + 1) τ := by
  unfold OR
  rw [show kOrd T md (k + 1) = kOrd T md k by rw [kOrd, if_neg hk]]; exact h
theorem OR_yes {T : Mem} {md : Int} {k : Nat} {τ υ : Mem} {x : Int} (h : OR T md k τ) (hk : kJn T k < 10000000) (hx : 0 ≤ x) (hpx : kpos (fun j => kKey T md ((kOrd T md k).1 j)) (kKey T md k) (kOrd T md k).2 = x.toNat) (h1 : υ 44 13 = τ 44 13 + 1) (h2 : ∀ j : Nat, (j : Int) ≤ τ 44 13 → υ 52 j = insA (τ 52) x.toNat k j) : OR T md (k + 1) υ := by
  have e : kOrd T md (k + 1) = (insA (kOrd T md k).1 (kpos (fun j => kKey T md ((kOrd T md k).1 j)) (kKey T md k) (kOrd T md k).2) k, (kOrd T md k).2 + 1) := by rw [kOrd, if_pos hk]
  unfold OR
  rw [e]
  obtain ⟨hs, ha⟩ := h
  have hp := kpos_le (fun j => kKey T md ((kOrd T md k).1 j)) (kKey T md k) (kOrd T md k).2
  rw [hpx] at hp ⊢
  refine ⟨by rw [h1, hs]; rfl, fun j hj => ?_⟩
  have hj : j < (kOrd T md k).2 + 1 := hj
  exact (h2 j (by omega)).trans (insA_cong hp (fun i hi => ha i hi) (by omega))
def kPlF (a ky : Nat → Int) (lane rule read : Int) : Nat → Int → Int → Int
  | 0, _, _ => -6
  | f + 1, i, h => if a i.toNat = lane then (if read < ky i.toNat - ky (if rule = 0 then max 0 (i - 1) else h).toNat then i else h) + 1 else kPlF a ky lane rule read f (i + 1) (if read < ky i.toNat - ky (if rule = 0 then max 0 (i - 1) else h).toNat then i else h)
theorem kPlF_cong {a a' ky ky' : Nat → Int} {lane rule read : Int} {m : Int} (h : ∀ j : Nat, (j : Int) < m → a j = a' j ∧ ky j = ky' j) : ∀ (f : Nat) (i hd : Int), 0 ≤ i → i + f ≤ m → 0 ≤ hd ∧ hd ≤ i → kPlF a ky lane rule read f i hd = kPlF a' ky' lane rule read f i hd
  | 0, _, _, _, _, _ => rfl
  | f + 1, i, hd, h0, h1, h2 => by
    rw [kPlF, kPlF, (h i.toNat (by omega)).1, (h i.toNat (by omega)).2, (h (if rule = 0 then max 0 (i - 1) else hd).toNat (by split <;> omega)).2]
    rw [kPlF_cong h f (i + 1) _ (by omega) (by omega) (by split <;> omega)]
def kOn (T : Mem) (md : Int) : Nat := (kOrd T md (T 1 2).toNat).2
def kOl (T : Mem) (md : Int) : Nat → Int := (kOrd T md (T 1 2).toNat).1
def kOAt (T : Mem) (md i : Int) : Int := if 0 ≤ i ∧ i < (kOn T md : Int) then kOl T md i.toNat else -6
def kPla (T : Mem) (lane rule : Int) : Int := kPlF (kOl T 0) (fun j => kKey T 0 (kOl T 0 j)) lane rule (T 8 1) (kOn T 0) 0 0
theorem kKey_b {T : Mem} (hI : TI T) {md lane : Int} (hl : 0 ≤ lane ∧ lane < T 1 2) : -100 ≤ kKey T md lane ∧ kKey T md lane ≤ 10000000 := by
  have h1 := hI.1
  have := kJn_b hI (lane := lane) (by omega); have h2 := kHe_b hI hl
  unfold kKey; split <;> omega
end
section
set_option maxHeartbeats 4000000 in
set_option maxRecDepth 100000 in
theorem c_X3_add {l : Launch} {D : va_G} {q : Nat → Nat} {g : Nat → ClassId} {σ : Mem} (hq : qok q) (lane key : Int) (hm : 0 ≤ σ 2 2 ∧ σ 2 2 < 6) (hkr : ∀ j : Nat, (j : Int) < σ 2 2 → zR (σ 10 j)) (hr_key : zR key) : RW l yX3_add cX3_add 4 none 0 0 D q g σ [.ref (q 2), .int (zI lane), .int (zI key)] vV (fun _ τ => Fr σ τ ∧ τ 2 2 = σ 2 2 + 1 ∧ ∀ j : Nat, (j : Int) ≤ σ 2 2 → τ 9 j = insA (σ 9) (kpos (σ 10) key (σ 2 2).toNat) lane j ∧ τ 10 j = insA (σ 10) (kpos (σ 10) key (σ 2 2).toNat) key j) := by
  refine RW.intro (plainFor_of_name (by decide)) (Nat.le_of_ble_eq_true rfl) (fun p e s m args below meth c ls B hP hS hl => ?_)
  have C := B.1
  have hl : lv_has ls 4 [(0, .ref (q 2)), (1, .int (zI lane)), (2, .int (zI key))] := hl
  refine z_aln C hl 0 rfl dX3_add_0 ?_
  refine gf_X3_18 C hP dX3_add_1 ?_
  refine z_aln C hl 0 rfl dX3_add_4 ?_
  refine gf_X3_9 C hP dX3_add_5 ?_
  refine z_alen C hP (i := 9) (by decide) (fun _ => rfl) dX3_add_8 ?_
  refine z_icmp_lt C 13 (by decide) (by omega) (by omega) dX3_add_9 (fun w1 => ?_) (fun w1 => False.elim (by omega))
  refine z_aln C hl 0 rfl dX3_add_13 ?_
  refine gf_X3_18 C hP dX3_add_14 ?_
  refine z_isn C hl [(3, .int (zI (σ 2 2))), (0, .ref (q 2)), (1, .int (zI lane)), (2, .int (zI key))] (by decide) rfl dX3_add_17 (fun ls hl => ?_)
  have L18 : ∀ (n : Nat) (x : Int)  (τ : Mem), x < (n : Int) → (0 ≤ x ∧ x ≤ σ 2 2) → (Fr σ τ) → (τ 2 2 = σ 2 2) → (kpos (σ 10) key (σ 2 2).toNat = kpos (σ 10) key x.toNat) → (shf (σ 9) (τ 9) x (σ 2 2)) → (shf (σ 10) (τ 10) x (σ 2 2)) → ∀ (H : Heap) (locs : List Loc), HP D q g τ H → va_S (aQ q) s.heap H locs → ∀ ls : Array Slot, lv_has ls 4 [(0, .ref (q 2)), (1, .int (zI lane)), (2, .int (zI key)), (3, .int (zI x))] → WW p l e 0 0 s m args below meth c H locs D q g vV (fun _ τ => Fr σ τ ∧ τ 2 2 = σ 2 2 + 1 ∧ ∀ j : Nat, (j : Int) ≤ σ 2 2 → τ 9 j = insA (σ 9) (kpos (σ 10) key (σ 2 2).toNat) lane j ∧ τ 10 j = insA (σ 10) (kpos (σ 10) key (σ 2 2).toNat) key j) (F0 m 18 ls []) := by
    intro n
    induction n with
    | zero => intro x τ hm hx hF hz hp h9 h10 H locs hP hS ls hl; exact False.elim (by omega)
    | succ n ih =>
      intro x τ hm hx hF hz hp h9 h10 H locs hP hS ls hl
      have ih18 := ih; clear ih
      refine z_iln C hl 3 rfl dX3_add_18 ?_
      refine z_if_le C 68 (by decide) (by omega) dX3_add_19 (fun w2 => ?_) (fun w2 => ?_)
      · skip
        have hpx : kpos (σ 10) key x.toNat = x.toNat := kpos_at hx.1 (by omega)
        refine z_aln C hl 0 rfl dX3_add_68 ?_
        refine gf_X3_15 C hP dX3_add_69 ?_
        refine z_iln C hl 3 rfl dX3_add_72 ?_
        refine z_iln C hl 2 rfl dX3_add_73 ?_
        refine z_iast C hq hP hS (i := 10) (by decide) (fun _ => rfl) (by omega) (by decide) dX3_add_74 (fun H locs hP hS => ?_)
        refine z_aln C hl 0 rfl dX3_add_75 ?_
        refine gf_X3_9 C hP dX3_add_76 ?_
        refine z_iln C hl 3 rfl dX3_add_79 ?_
        refine z_iln C hl 1 rfl dX3_add_80 ?_
        refine z_iast C hq hP hS (i := 9) (by decide) (fun _ => rfl) (by omega) (by decide) dX3_add_81 (fun H locs hP hS => ?_)
        refine z_aln C hl 0 rfl dX3_add_82 ?_
        refine z_dup C rfl dX3_add_83 ?_
        refine gf_X3_18 C hP dX3_add_84 ?_
        refine z_ic C dX3_add_87 ?_
        refine z_iadd C dX3_add_88 ?_
        refine pf_X3_18 C hq hP hS dX3_add_89 (fun H locs hP hS => ?_)
        exact z_vretW B hP hS ⟨Fr_um (Fr_um (Fr_um hF (by simp [sc])) (by simp [sc])) (by simp [sc]), by simp [um, hz], fun j hj => ⟨by rw [hp, hpx]; exact shf_end h9 hx (by simp [um]) (fun k hk => by simp [um, hk]) hj, by rw [hp, hpx]; exact shf_end h10 hx (by simp [um]) (fun k hk => by simp [um, hk]) hj⟩⟩ dX3_add_92
      · skip
        have hv := (h10 (x - 1).toNat).1 (by omega)
        have hvr := hkr (x - 1).toNat (by omega)
        refine z_aln C hl 0 rfl dX3_add_22 ?_
        refine gf_X3_15 C hP dX3_add_23 ?_
        refine z_iln C hl 3 rfl dX3_add_26 ?_
        refine z_ic C dX3_add_27 ?_
        refine z_isub C dX3_add_28 ?_
        refine z_iald C hP (i := 10) (by decide) (fun _ => rfl) (by omega) (by decide) dX3_add_29 ?_
        refine z_iln C hl 2 rfl dX3_add_30 ?_
        refine z_icmp_le C 68 (by decide) (by omega) (by omega) dX3_add_31 (fun w3 => ?_) (fun w3 => ?_)
        · skip
          have hpx : kpos (σ 10) key x.toNat = x.toNat := kpos_at hx.1 (by omega)
          refine z_aln C hl 0 rfl dX3_add_68 ?_
          refine gf_X3_15 C hP dX3_add_69 ?_
          refine z_iln C hl 3 rfl dX3_add_72 ?_
          refine z_iln C hl 2 rfl dX3_add_73 ?_
          refine z_iast C hq hP hS (i := 10) (by decide) (fun _ => rfl) (by omega) (by decide) dX3_add_74 (fun H locs hP hS => ?_)
          refine z_aln C hl 0 rfl dX3_add_75 ?_
          refine gf_X3_9 C hP dX3_add_76 ?_
          refine z_iln C hl 3 rfl dX3_add_79 ?_
          refine z_iln C hl 1 rfl dX3_add_80 ?_
          refine z_iast C hq hP hS (i := 9) (by decide) (fun _ => rfl) (by omega) (by decide) dX3_add_81 (fun H locs hP hS => ?_)
          refine z_aln C hl 0 rfl dX3_add_82 ?_
          refine z_dup C rfl dX3_add_83 ?_
          refine gf_X3_18 C hP dX3_add_84 ?_
          refine z_ic C dX3_add_87 ?_
          refine z_iadd C dX3_add_88 ?_
          refine pf_X3_18 C hq hP hS dX3_add_89 (fun H locs hP hS => ?_)
          exact z_vretW B hP hS ⟨Fr_um (Fr_um (Fr_um hF (by simp [sc])) (by simp [sc])) (by simp [sc]), by simp [um, hz], fun j hj => ⟨by rw [hp, hpx]; exact shf_end h9 hx (by simp [um]) (fun k hk => by simp [um, hk]) hj, by rw [hp, hpx]; exact shf_end h10 hx (by simp [um]) (fun k hk => by simp [um, hk]) hj⟩⟩ dX3_add_92
        · skip
          refine z_aln C hl 0 rfl dX3_add_34 ?_
          refine gf_X3_15 C hP dX3_add_35 ?_
          refine z_iln C hl 3 rfl dX3_add_38 ?_
          refine z_aln C hl 0 rfl dX3_add_39 ?_
          refine gf_X3_15 C hP dX3_add_40 ?_
          refine z_iln C hl 3 rfl dX3_add_43 ?_
          refine z_ic C dX3_add_44 ?_
          refine z_isub C dX3_add_45 ?_
          refine z_iald C hP (i := 10) (by decide) (fun _ => rfl) (by omega) (by decide) dX3_add_46 ?_
          refine z_iast C hq hP hS (i := 10) (by decide) (fun _ => rfl) (by omega) (by decide) dX3_add_47 (fun H locs hP hS => ?_)
          refine z_aln C hl 0 rfl dX3_add_48 ?_
          refine gf_X3_9 C hP dX3_add_49 ?_
          refine z_iln C hl 3 rfl dX3_add_52 ?_
          refine z_aln C hl 0 rfl dX3_add_53 ?_
          refine gf_X3_9 C hP dX3_add_54 ?_
          refine z_iln C hl 3 rfl dX3_add_57 ?_
          refine z_ic C dX3_add_58 ?_
          refine z_isub C dX3_add_59 ?_
          refine z_iald C hP (i := 9) (by decide) (fun _ => rfl) (by omega) (by decide) dX3_add_60 ?_
          refine z_iast C hq hP hS (i := 9) (by decide) (fun _ => rfl) (by omega) (by decide) dX3_add_61 (fun H locs hP hS => ?_)
          refine z_iinc C hl 3 rfl [(3, .int (zI (x + (-1)))), (0, .ref (q 2)), (1, .int (zI lane)), (2, .int (zI key))] (by decide) rfl dX3_add_62 (fun ls hl => ?_)
          refine z_goto C 18 (by decide) dX3_add_65 ?_
          exact ih18 (x + (-1)) (um (um τ 10 x.toNat (τ 10 (x - 1).toNat)) 9 x.toNat (um τ 10 x.toNat (τ 10 (x - 1).toNat) 9 (x - 1).toNat)) (by omega) (by omega) (Fr_um (Fr_um hF (by simp [sc])) (by simp [sc])) (by simp [um, hz]) (hp.trans (kpos_go (by omega) (by omega))) (shf_step h9 (by omega) (by simp [um]) (fun k hk => by simp [um, hk])) (shf_step h10 (by omega) (by simp [um]) (fun k hk => by simp [um, hk])) _ _ hP hS ls (lv_sub hl [1, 2, 3, 0] rfl)
  exact L18 (((σ 2 2) : Int).toNat + 1) (σ 2 2) σ (by omega) (by omega) Fr_rf rfl rfl shf_init shf_init _ _ hP hS ls (lv_sub hl [1, 2, 3, 0] rfl)

set_option maxHeartbeats 4000000 in
set_option maxRecDepth 100000 in
theorem c_X3_at {l : Launch} {D : va_G} {q : Nat → Nat} {g : Nat → ClassId} {σ : Mem} (i : Int) (hm : 0 ≤ σ 2 2 ∧ σ 2 2 ≤ 6) (hr_i : zR i) : RO l yX3_at cX3_at 2 (some .int) 1 22 D q g σ [.ref (q 2), .int (zI i)] (some (.int (zI (if 0 ≤ i ∧ i < σ 2 2 then σ 9 i.toNat else -6)))) := by
  refine RO.intro (plainFor_of_name (by decide)) (Nat.le_of_ble_eq_true rfl) (fun p e s m args below meth c ls B hP hl => ?_)
  have C := B.1
  have hl : lv_has ls 2 [(0, .ref (q 2)), (1, .int (zI i))] := hl
  refine z_iln C hl 1 rfl dX3_at_0 ?_
  refine z_ic C dX3_at_1 ?_
  refine z_aln C hl 0 rfl dX3_at_2 ?_
  refine gf_X3_18 C hP dX3_at_3 ?_
  refine z_ic C dX3_at_6 ?_
  refine z_isub C dX3_at_7 ?_
  refine z_snRO C hP hl (c_X8_within (σ := σ) i 0 ((σ 2 2) - 1) (by omega) (by omega) (by omega))  wg_212 wg_1 wm_367 wg_211 cw_X8_within ⟨Nat.le_of_ble_eq_true rfl, Nat.le_of_ble_eq_true rfl⟩ rfl rfl (Nat.le_of_ble_eq_true rfl) dX3_at_8 ?_
  refine z_bif_eq C 23 (by decide) dX3_at_11 (fun w1 => ?_) (fun w1 => ?_)
  · skip
    refine z_bp C dX3_at_23 rfl ?_
    exact z_iret B (by split <;> first | rfl | omega) dX3_at_25
  · skip
    refine z_aln C hl 0 rfl dX3_at_14 ?_
    refine gf_X3_9 C hP dX3_at_15 ?_
    refine z_iln C hl 1 rfl dX3_at_18 ?_
    refine z_iald C hP (i := 9) (by decide) (fun _ => rfl) (by omega) (by decide) dX3_at_19 ?_
    refine z_goto C 25 (by decide) dX3_at_20 ?_
    exact z_iret B (by split <;> first | rfl | omega) dX3_at_25

set_option maxHeartbeats 4000000 in
set_option maxRecDepth 100000 in
theorem c_X3_placeOf {l : Launch} {D : va_G} {q : Nat → Nat} {g : Nat → ClassId} {σ : Mem} (lane rule read : Int) (hm : 0 ≤ σ 2 2 ∧ σ 2 2 ≤ 6) (hkr : ∀ j : Nat, (j : Int) < σ 2 2 → -1000 ≤ σ 10 j ∧ σ 10 j ≤ 100000000) (hlr : ∀ j : Nat, (j : Int) < σ 2 2 → zR (σ 9 j)) (hr_lane : zR lane) (hr_rule : zR rule) (hr_read : zR read) : RO l yX3_placeOf cX3_placeOf 7 (some .int) 1 21 D q g σ [.ref (q 2), .int (zI lane), .int (zI rule), .int (zI read)] (some (.int (zI (kPlF (σ 9) (σ 10) lane rule read (σ 2 2).toNat 0 0)))) := by
  refine RO.intro (plainFor_of_name (by decide)) (Nat.le_of_ble_eq_true rfl) (fun p e s m args below meth c ls B hP hl => ?_)
  have C := B.1
  have hl : lv_has ls 7 [(0, .ref (q 2)), (1, .int (zI lane)), (2, .int (zI rule)), (3, .int (zI read))] := hl
  refine z_ic C dX3_placeOf_0 ?_
  refine z_ist C hl [(4, .int (zI 0)), (0, .ref (q 2)), (1, .int (zI lane)), (2, .int (zI rule)), (3, .int (zI read))] (by decide) rfl dX3_placeOf_1 (fun ls hl => ?_)
  refine z_ic C dX3_placeOf_3 ?_
  refine z_ist C hl [(5, .int (zI 0)), (4, .int (zI 0)), (0, .ref (q 2)), (1, .int (zI lane)), (2, .int (zI rule)), (3, .int (zI read))] (by decide) rfl dX3_placeOf_4 (fun ls hl => ?_)
  have L6 : ∀ (n : Nat) (hd : Int) (i : Int)  , σ 2 2 - i < (n : Int) → (0 ≤ i ∧ i ≤ σ 2 2) → (0 ≤ hd ∧ hd ≤ i) → (hd < σ 2 2 ∨ σ 2 2 = 0) → (kPlF (σ 9) (σ 10) lane rule read (σ 2 2).toNat 0 0 = kPlF (σ 9) (σ 10) lane rule read (σ 2 2 - i).toNat i hd) → ∀ ls : Array Slot, lv_has ls 7 [(0, .ref (q 2)), (1, .int (zI lane)), (2, .int (zI rule)), (3, .int (zI read)), (4, .int (zI hd)), (5, .int (zI i))] → WO p l e 1 21 s m args below meth c (some (.int (zI (kPlF (σ 9) (σ 10) lane rule read (σ 2 2).toNat 0 0)))) (F0 m 6 ls []) := by
    intro n
    induction n with
    | zero => intro hd i hm hi hh hz he ls hl; exact False.elim (by omega)
    | succ n ih =>
      intro hd i hm hi hh hz he ls hl
      have ih6 := ih; clear ih
      refine z_il C hl 5 rfl dX3_placeOf_6 ?_
      refine z_aln C hl 0 rfl dX3_placeOf_8 ?_
      refine gf_X3_18 C hP dX3_placeOf_9 ?_
      refine z_icmp_ge C 79 (by decide) (by omega) (by omega) dX3_placeOf_12 (fun w1 => ?_) (fun w1 => ?_)
      · skip
        refine z_bp C dX3_placeOf_79 rfl ?_
        exact z_iret B (by rw [he, show (σ 2 2 - i).toNat = 0 by omega]; rfl) dX3_placeOf_81
      · skip
        rw [show (σ 2 2 - i).toNat = (σ 2 2 - (i + 1)).toNat + 1 by omega, kPlF] at he
        have hv := hkr i.toNat (by omega)
        have hlv := hlr i.toNat (by omega)
        refine z_iln C hl 2 rfl dX3_placeOf_15 ?_
        refine z_if_ne C 30 (by decide) (by omega) dX3_placeOf_16 (fun w2 => ?_) (fun w2 => ?_)
        · skip
          refine z_il C hl 4 rfl dX3_placeOf_30 ?_
          have hah : (if rule = 0 then max 0 (i - 1) else hd) = hd := by split <;> omega
          rw [hah] at he
          have hv2 := hkr (hd).toNat (by omega)
          refine z_ist C hl [(6, .int (zI hd)), (0, .ref (q 2)), (1, .int (zI lane)), (2, .int (zI rule)), (3, .int (zI read)), (4, .int (zI hd)), (5, .int (zI i))] (by decide) rfl dX3_placeOf_32 (fun ls hl => ?_)
          refine z_aln C hl 1 rfl dX3_placeOf_34 ?_
          refine gf_X3_15 C hP dX3_placeOf_35 ?_
          refine z_il C hl 6 rfl dX3_placeOf_38 ?_
          refine z_iald C hP (i := 10) (by decide) (fun _ => rfl) (by omega) (by decide) dX3_placeOf_40 ?_
          refine z_aln C hl 1 rfl dX3_placeOf_41 ?_
          refine gf_X3_15 C hP dX3_placeOf_42 ?_
          refine z_il C hl 0 rfl dX3_placeOf_45 ?_
          refine z_iald C hP (i := 10) (by decide) (fun _ => rfl) (by omega) (by decide) dX3_placeOf_47 ?_
          refine z_isub C dX3_placeOf_48 ?_
          refine z_iln C hl 4 rfl dX3_placeOf_49 ?_
          refine z_icmp_le C 57 (by decide) (by omega) (by omega) dX3_placeOf_50 (fun w3 => ?_) (fun w3 => ?_)
          · skip
            refine z_aln C hl 1 rfl dX3_placeOf_57 ?_
            refine gf_X3_9 C hP dX3_placeOf_58 ?_
            refine z_il C hl 6 rfl dX3_placeOf_61 ?_
            refine z_iald C hP (i := 9) (by decide) (fun _ => rfl) (by omega) (by decide) dX3_placeOf_63 ?_
            refine z_iln C hl 2 rfl dX3_placeOf_64 ?_
            refine z_icmp_ne C 73 (by decide) (by omega) (by omega) dX3_placeOf_65 (fun w4 => ?_) (fun w4 => ?_)
            · skip
              refine z_iinc C hl 6 rfl [(5, .int (zI (i + 1))), (6, .int (zI hd)), (0, .ref (q 2)), (1, .int (zI lane)), (2, .int (zI rule)), (3, .int (zI read)), (4, .int (zI hd))] (by decide) rfl dX3_placeOf_73 (fun ls hl => ?_)
              refine z_goto C 6 (by decide) dX3_placeOf_76 ?_
              exact ih6 hd (i + 1) (by omega) (by omega) (by omega) (by omega) (by rw [he, if_neg w4, if_neg (by omega)]) ls (lv_sub hl [2, 3, 4, 5, 6, 0] rfl)
            · skip
              refine z_il C hl 5 rfl dX3_placeOf_68 ?_
              refine z_ic C dX3_placeOf_70 ?_
              refine z_iadd C dX3_placeOf_71 ?_
              exact z_iret B (by rw [he, if_pos w4, if_neg (by omega)]) dX3_placeOf_72
          · skip
            refine z_il C hl 6 rfl dX3_placeOf_53 ?_
            refine z_ist C hl [(4, .int (zI i)), (6, .int (zI hd)), (0, .ref (q 2)), (1, .int (zI lane)), (2, .int (zI rule)), (3, .int (zI read)), (5, .int (zI i))] (by decide) rfl dX3_placeOf_55 (fun ls hl => ?_)
            refine z_aln C hl 2 rfl dX3_placeOf_57 ?_
            refine gf_X3_9 C hP dX3_placeOf_58 ?_
            refine z_il C hl 6 rfl dX3_placeOf_61 ?_
            refine z_iald C hP (i := 9) (by decide) (fun _ => rfl) (by omega) (by decide) dX3_placeOf_63 ?_
            refine z_iln C hl 3 rfl dX3_placeOf_64 ?_
            refine z_icmp_ne C 73 (by decide) (by omega) (by omega) dX3_placeOf_65 (fun w5 => ?_) (fun w5 => ?_)
            · skip
              refine z_iinc C hl 6 rfl [(5, .int (zI (i + 1))), (4, .int (zI i)), (6, .int (zI hd)), (0, .ref (q 2)), (1, .int (zI lane)), (2, .int (zI rule)), (3, .int (zI read))] (by decide) rfl dX3_placeOf_73 (fun ls hl => ?_)
              refine z_goto C 6 (by decide) dX3_placeOf_76 ?_
              exact ih6 i (i + 1) (by omega) (by omega) (by omega) (by omega) (by rw [he, if_neg w5, if_pos (by omega)]) ls (lv_sub hl [3, 4, 5, 6, 1, 0] rfl)
            · skip
              refine z_il C hl 0 rfl dX3_placeOf_68 ?_
              refine z_ic C dX3_placeOf_70 ?_
              refine z_iadd C dX3_placeOf_71 ?_
              exact z_iret B (by rw [he, if_pos w5, if_pos (by omega)]) dX3_placeOf_72
        · skip
          refine z_ic C dX3_placeOf_19 ?_
          refine z_il C hl 5 rfl dX3_placeOf_20 ?_
          refine z_ic C dX3_placeOf_22 ?_
          refine z_isub C dX3_placeOf_23 ?_
          refine z_sRO C hP hl (c_J9_max_7cf53 (σ := σ) 0 (i - 1) (by omega) (by omega))  wg_298 wg_11 wg_376 wg_297 cw_J9_max_7cf53 ⟨Nat.le_of_ble_eq_true rfl, Nat.le_of_ble_eq_true rfl⟩ rfl rfl (Nat.le_of_ble_eq_true rfl) dX3_placeOf_24 ?_
          refine z_goto C 32 (by decide) dX3_placeOf_27 ?_
          have hah : (if rule = 0 then max 0 (i - 1) else hd) = max 0 (i - 1) := by split <;> omega
          rw [hah] at he
          have hv2 := hkr (max 0 (i - 1)).toNat (by omega)
          refine z_ist C hl [(6, .int (zI (max 0 (i - 1)))), (0, .ref (q 2)), (1, .int (zI lane)), (2, .int (zI rule)), (3, .int (zI read)), (4, .int (zI hd)), (5, .int (zI i))] (by decide) rfl dX3_placeOf_32 (fun ls hl => ?_)
          refine z_aln C hl 1 rfl dX3_placeOf_34 ?_
          refine gf_X3_15 C hP dX3_placeOf_35 ?_
          refine z_il C hl 6 rfl dX3_placeOf_38 ?_
          refine z_iald C hP (i := 10) (by decide) (fun _ => rfl) (by omega) (by decide) dX3_placeOf_40 ?_
          refine z_aln C hl 1 rfl dX3_placeOf_41 ?_
          refine gf_X3_15 C hP dX3_placeOf_42 ?_
          refine z_il C hl 0 rfl dX3_placeOf_45 ?_
          refine z_iald C hP (i := 10) (by decide) (fun _ => rfl) (by omega) (by decide) dX3_placeOf_47 ?_
          refine z_isub C dX3_placeOf_48 ?_
          refine z_iln C hl 4 rfl dX3_placeOf_49 ?_
          refine z_icmp_le C 57 (by decide) (by omega) (by omega) dX3_placeOf_50 (fun w6 => ?_) (fun w6 => ?_)
          · skip
            refine z_aln C hl 1 rfl dX3_placeOf_57 ?_
            refine gf_X3_9 C hP dX3_placeOf_58 ?_
            refine z_il C hl 6 rfl dX3_placeOf_61 ?_
            refine z_iald C hP (i := 9) (by decide) (fun _ => rfl) (by omega) (by decide) dX3_placeOf_63 ?_
            refine z_iln C hl 2 rfl dX3_placeOf_64 ?_
            refine z_icmp_ne C 73 (by decide) (by omega) (by omega) dX3_placeOf_65 (fun w7 => ?_) (fun w7 => ?_)
            · skip
              refine z_iinc C hl 6 rfl [(5, .int (zI (i + 1))), (6, .int (zI (max 0 (i - 1)))), (0, .ref (q 2)), (1, .int (zI lane)), (2, .int (zI rule)), (3, .int (zI read)), (4, .int (zI hd))] (by decide) rfl dX3_placeOf_73 (fun ls hl => ?_)
              refine z_goto C 6 (by decide) dX3_placeOf_76 ?_
              exact ih6 hd (i + 1) (by omega) (by omega) (by omega) (by omega) (by rw [he, if_neg w7, if_neg (by omega)]) ls (lv_sub hl [2, 3, 4, 5, 6, 0] rfl)
            · skip
              refine z_il C hl 5 rfl dX3_placeOf_68 ?_
              refine z_ic C dX3_placeOf_70 ?_
              refine z_iadd C dX3_placeOf_71 ?_
              exact z_iret B (by rw [he, if_pos w7, if_neg (by omega)]) dX3_placeOf_72
          · skip
            refine z_il C hl 6 rfl dX3_placeOf_53 ?_
            refine z_ist C hl [(4, .int (zI i)), (6, .int (zI (max 0 (i - 1)))), (0, .ref (q 2)), (1, .int (zI lane)), (2, .int (zI rule)), (3, .int (zI read)), (5, .int (zI i))] (by decide) rfl dX3_placeOf_55 (fun ls hl => ?_)
            refine z_aln C hl 2 rfl dX3_placeOf_57 ?_
            refine gf_X3_9 C hP dX3_placeOf_58 ?_
            refine z_il C hl 6 rfl dX3_placeOf_61 ?_
            refine z_iald C hP (i := 9) (by decide) (fun _ => rfl) (by omega) (by decide) dX3_placeOf_63 ?_
            refine z_iln C hl 3 rfl dX3_placeOf_64 ?_
            refine z_icmp_ne C 73 (by decide) (by omega) (by omega) dX3_placeOf_65 (fun w8 => ?_) (fun w8 => ?_)
            · skip
              refine z_iinc C hl 6 rfl [(5, .int (zI (i + 1))), (4, .int (zI i)), (6, .int (zI (max 0 (i - 1)))), (0, .ref (q 2)), (1, .int (zI lane)), (2, .int (zI rule)), (3, .int (zI read))] (by decide) rfl dX3_placeOf_73 (fun ls hl => ?_)
              refine z_goto C 6 (by decide) dX3_placeOf_76 ?_
              exact ih6 i (i + 1) (by omega) (by omega) (by omega) (by omega) (by rw [he, if_neg w8, if_pos (by omega)]) ls (lv_sub hl [3, 4, 5, 6, 1, 0] rfl)
            · skip
              refine z_il C hl 0 rfl dX3_placeOf_68 ?_
              refine z_ic C dX3_placeOf_70 ?_
              refine z_iadd C dX3_placeOf_71 ?_
              exact z_iret B (by rw [he, if_pos w8, if_pos (by omega)]) dX3_placeOf_72
  exact L6 ((σ 2 2 - 0 : Int).toNat + 1) 0 0 (by omega) (by omega) (by omega) (by omega) (by rw [Int.sub_zero]) ls (lv_sub hl [2, 3, 4, 5, 1, 0] rfl)

set_option maxHeartbeats 4000000 in
set_option maxRecDepth 100000 in
theorem c_X8_rank {l : Launch} {D : va_G} {q : Nat → Nat} {g : Nat → ClassId} {σ : Mem} (hq : qok q) (md : Int) (hI : TI σ) (hmd : 0 ≤ md ∧ md ≤ 1) : RW l yX8_rank cX8_rank 4 none 6 137 D q g σ [.ref (q 0), .int (zI md)] vV (fun _ τ => Fr σ τ ∧ RK (co σ) md (co σ 1 2).toNat τ) := by
  refine RW.intro (plainFor_of_name (by decide)) (Nat.le_of_ble_eq_true rfl) (fun p e s m args below meth c ls B hP hS hl => ?_)
  have C := B.1
  have hl : lv_has ls 4 [(0, .ref (q 0)), (1, .int (zI md))] := hl
  have h1 := hI.1
  have hIc := TI_cc hI
  have e12 : co σ 1 2 = σ 1 2 := rfl
  refine z_aln C hl 0 rfl dX8_rank_0 ?_
  refine gf_X8_19 C hP dX8_rank_1 ?_
  refine z_ic C dX8_rank_4 ?_
  refine pf_X8_130 C hq hP hS dX8_rank_5 (fun H locs hP hS => ?_)
  refine z_ic C dX8_rank_8 ?_
  refine z_isn C hl [(2, .int (zI 0)), (0, .ref (q 0)), (1, .int (zI md))] (by decide) rfl dX8_rank_9 (fun ls hl => ?_)
  have L10 : ∀ (n : Nat) (k : Int)  (τ : Mem), σ 1 2 - k < (n : Int) → (0 ≤ k ∧ k ≤ σ 1 2) → (Fr σ τ) → (RK (co σ) md k.toNat τ) → ∀ (H : Heap) (locs : List Loc), HP D q g τ H → va_S (aQ q) s.heap H locs → ∀ ls : Array Slot, lv_has ls 4 [(0, .ref (q 0)), (1, .int (zI md)), (2, .int (zI k))] → WW p l e 6 137 s m args below meth c H locs D q g vV (fun _ τ => Fr σ τ ∧ RK (co σ) md (co σ 1 2).toNat τ) (F0 m 10 ls []) := by
    intro n
    induction n with
    | zero => intro k τ hm hk hF hK H locs hP hS ls hl; exact False.elim (by omega)
    | succ n ih =>
      intro k τ hm hk hF hK H locs hP hS ls hl
      have ih10 := ih; clear ih
      refine z_iln C hl 2 rfl dX8_rank_10 ?_
      have e2 := hF 1 2 rfl
      refine z_aln C hl 0 rfl dX8_rank_11 ?_
      refine gf_X8_10 C hP dX8_rank_12 ?_
      refine gf_X8_118 C hP dX8_rank_15 ?_
      refine z_icmp_ge C 68 (by decide) (by omega) (by omega) dX8_rank_18 (fun w1 => ?_) (fun w1 => ?_)
      · skip
        exact z_vretW B hP hS ⟨hF, by have e2 := hF 1 2 rfl; rw [show (co σ 1 2).toNat = k.toNat by omega]; exact hK⟩ dX8_rank_68
      · skip
        have e2 := hF 1 2 rfl
        have hIt := Fr_TI hF hI
        have ec := Fr_co hF
        have hjb := kJn_b hIc (lane := k) (by omega)
        have hhb := kHe_b hIc (lane := k) (by omega)
        rw [← ec] at hjb hhb
        have hor := kOrd_rng (co σ) md k.toNat
        have hkr : ∀ j : Nat, (j : Int) < τ 2 2 → zR (τ 10 j) := fun j hj => by have hz := hK.1; have h3 := hK.2 j (by omega); have h4 := hor.2 j (by omega); have h5 := kKey_b hIc (md := md) (lane := (kOrd (co σ) md k.toNat).1 j) (by omega); omega
        have hk0 := hK.1
        refine z_aln C hl 0 rfl dX8_rank_21 ?_
        refine gf_X8_10 C hP dX8_rank_22 ?_
        refine z_iln C hl 2 rfl dX8_rank_25 ?_
        refine z_vRO C hP hl (c_X7_joined (σ := τ) k hIt (by omega)) (z_recv C hP (i := 1) (by decide) rfl (ci := 7) rfl) wg_308 wg_2 wg_305 wg_306 wg_307 cw_X7_joined ⟨Nat.le_of_ble_eq_true rfl, Nat.le_of_ble_eq_true rfl⟩ rfl rfl (Nat.le_of_ble_eq_true rfl) dX8_rank_26 ?_
        refine z_isn C hl [(3, .int (zI (kJn (co τ) k))), (0, .ref (q 0)), (1, .int (zI md)), (2, .int (zI k))] (by decide) rfl dX8_rank_29 (fun ls hl => ?_)
        refine z_iln C hl 0 rfl dX8_rank_30 ?_
        refine z_ldc C (n := 10000000) wg_304 (by decide) dX8_rank_31 ?_
        refine z_icmp_ge C 62 (by decide) (by omega) (by omega) dX8_rank_33 (fun w2 => ?_) (fun w2 => ?_)
        · skip
          refine z_iinc C hl 3 rfl [(2, .int (zI (k + 1))), (3, .int (zI (kJn (co τ) k))), (0, .ref (q 0)), (1, .int (zI md))] (by decide) rfl dX8_rank_62 (fun ls hl => ?_)
          refine z_goto C 10 (by decide) dX8_rank_65 ?_
          exact ih10 (k + 1) τ (by omega) (by omega) hF (by rw [show (k + 1).toNat = k.toNat + 1 by omega]; exact RK_no hK (by rw [show ((k.toNat : Nat) : Int) = k by omega, ← ec]; omega)) _ _ hP hS ls (lv_sub hl [2, 3, 0] rfl)
        · skip
          refine z_aln C hl 1 rfl dX8_rank_36 ?_
          refine gf_X8_19 C hP dX8_rank_37 ?_
          refine z_iln C hl 3 rfl dX8_rank_40 ?_
          refine z_iln C hl 2 rfl dX8_rank_41 ?_
          refine z_if_eq C 58 (by decide) (by omega) dX8_rank_42 (fun w3 => ?_) (fun w3 => ?_)
          · skip
            refine z_iln C hl 0 rfl dX8_rank_58 ?_
            refine z_vRWv C hP hS hl (c_X3_add (σ := τ) hq k (kJn (co τ) k) (by omega) hkr (by omega)) (z_recv C hP (i := 2) (by decide) rfl (ci := 3) rfl) wg_362 wg_4 wg_359 wg_360 wg_361 cw_X3_add ⟨Nat.le_of_ble_eq_true rfl, Nat.le_of_ble_eq_true rfl⟩ rfl rfl (Nat.le_of_ble_eq_true rfl) dX8_rank_59 (fun r59 τ59 H locs hp59 hP hS => ?_)
            refine z_iinc C hl 3 rfl [(2, .int (zI (k + 1))), (3, .int (zI (kJn (co τ) k))), (0, .ref (q 0)), (1, .int (zI md))] (by decide) rfl dX8_rank_62 (fun ls hl => ?_)
            refine z_goto C 10 (by decide) dX8_rank_65 ?_
            exact ih10 (k + 1) τ59 (by omega) (by omega) (Fr_tr hF hp59.1) (by rw [show (k + 1).toNat = k.toNat + 1 by omega]; have hkk : kKey (co σ) md ((k.toNat : Nat) : Int) = kJn (co τ) k := (by rw [show ((k.toNat : Nat) : Int) = k by omega, ec]; unfold kKey; split <;> omega); refine RK_yes hK (by rw [show ((k.toNat : Nat) : Int) = k by omega, ← ec]; omega) hp59.2.1 ?_; rw [hkk, show ((k.toNat : Nat) : Int) = k by omega]; exact hp59.2.2) _ _ hP hS ls (lv_sub hl [2, 3, 0] rfl)
          · skip
            refine z_iln C hl 0 rfl dX8_rank_45 ?_
            refine z_aln C hl 1 rfl dX8_rank_46 ?_
            refine gf_X8_10 C hP dX8_rank_47 ?_
            refine z_iln C hl 3 rfl dX8_rank_50 ?_
            refine z_vRO C hP hl (c_X7_hears (σ := τ) k hIt (by omega)) (z_recv C hP (i := 1) (by decide) rfl (ci := 7) rfl) wg_334 wg_2 wg_331 wg_332 wg_333 cw_X7_hears ⟨Nat.le_of_ble_eq_true rfl, Nat.le_of_ble_eq_true rfl⟩ rfl rfl (Nat.le_of_ble_eq_true rfl) dX8_rank_51 ?_
            refine z_isub C dX8_rank_54 ?_
            refine z_goto C 59 (by decide) dX8_rank_55 ?_
            refine z_vRWv C hP hS hl (c_X3_add (σ := τ) hq k ((kJn (co τ) k) - (kHe (co τ) k)) (by omega) hkr (by omega)) (z_recv C hP (i := 2) (by decide) rfl (ci := 3) rfl) wg_362 wg_4 wg_359 wg_360 wg_361 cw_X3_add ⟨Nat.le_of_ble_eq_true rfl, Nat.le_of_ble_eq_true rfl⟩ rfl rfl (Nat.le_of_ble_eq_true rfl) dX8_rank_59 (fun r59 τ59 H locs hp59 hP hS => ?_)
            refine z_iinc C hl 3 rfl [(2, .int (zI (k + 1))), (3, .int (zI (kJn (co τ) k))), (0, .ref (q 0)), (1, .int (zI md))] (by decide) rfl dX8_rank_62 (fun ls hl => ?_)
            refine z_goto C 10 (by decide) dX8_rank_65 ?_
            exact ih10 (k + 1) τ59 (by omega) (by omega) (Fr_tr hF hp59.1) (by rw [show (k + 1).toNat = k.toNat + 1 by omega]; have hkk : kKey (co σ) md ((k.toNat : Nat) : Int) = (kJn (co τ) k) - (kHe (co τ) k) := (by rw [show ((k.toNat : Nat) : Int) = k by omega, ec]; unfold kKey; split <;> omega); refine RK_yes hK (by rw [show ((k.toNat : Nat) : Int) = k by omega, ← ec]; omega) hp59.2.1 ?_; rw [hkk, show ((k.toNat : Nat) : Int) = k by omega]; exact hp59.2.2) _ _ hP hS ls (lv_sub hl [2, 3, 0] rfl)
  exact L10 ((σ 1 2 - 0 : Int).toNat + 1) 0 (um σ 2 2 0) (by omega) (by omega) (Fr_um Fr_rf (by simp [sc])) ⟨by simp [um]; rfl, fun j hj => by cases hj⟩ _ _ hP hS ls (lv_sub hl [1, 2, 0] rfl)

set_option maxHeartbeats 4000000 in
set_option maxRecDepth 100000 in
theorem c_X8_order {l : Launch} {D : va_G} {q : Nat → Nat} {g : Nat → ClassId} {σ : Mem} (hq : qok q) (i : Int) (hI : TI σ) (hr_i : zR i) : RW l yX8_order cX8_order 2 (some .int) 7 160 D q g σ [.ref (q 0), .int (zI i)] vI (fun r τ => Fr σ τ ∧ r = if i = -1 then (kOn (co σ) 0 : Int) else kOAt (co σ) 0 i) := by
  refine RW.intro (plainFor_of_name (by decide)) (Nat.le_of_ble_eq_true rfl) (fun p e s m args below meth c ls B hP hS hl => ?_)
  have C := B.1
  have hl : lv_has ls 2 [(0, .ref (q 0)), (1, .int (zI i))] := hl
  have h1 := hI.1
  have hIc := TI_cc hI
  have e12 : co σ 1 2 = σ 1 2 := rfl
  refine z_aln C hl 0 rfl dX8_order_0 ?_
  refine z_ic C dX8_order_1 ?_
  refine z_vRWv C hP hS hl (c_X8_rank (σ := σ) hq 0 hI (by omega)) (z_recv C hP (i := 0) (by decide) rfl (ci := 8) rfl) wg_358 wg_1 wg_355 wg_357 ws_X8_rank cw_X8_rank ⟨Nat.le_of_ble_eq_true rfl, Nat.le_of_ble_eq_true rfl⟩ rfl rfl (Nat.le_of_ble_eq_true rfl) dX8_order_2 (fun r2 τ2 H locs hp2 hP hS => ?_)
  obtain ⟨hF, hK⟩ := hp2
  have hor := kOrd_rng (co σ) 0 (co σ 1 2).toNat
  have hk0 := hK.1
  have hIt := Fr_TI hF hI
  refine z_iln C hl 1 rfl dX8_order_5 ?_
  refine z_ic C dX8_order_6 ?_
  refine z_icmp_ne C 20 (by decide) (by omega) (by omega) dX8_order_7 (fun w1 => ?_) (fun w1 => ?_)
  · skip
    refine z_aln C hl 0 rfl dX8_order_20 ?_
    refine gf_X8_19 C hP dX8_order_21 ?_
    refine z_iln C hl 1 rfl dX8_order_24 ?_
    refine z_vRO C hP hl (c_X3_at (σ := τ2) i (by omega) (by omega)) (z_recv C hP (i := 2) (by decide) rfl (ci := 3) rfl) wg_366 wg_4 wg_363 wg_364 wg_365 cw_X3_at ⟨Nat.le_of_ble_eq_true rfl, Nat.le_of_ble_eq_true rfl⟩ rfl rfl (Nat.le_of_ble_eq_true rfl) dX8_order_25 ?_
    exact z_iretW B hP hS ⟨hF, by rw [if_neg (show ¬ i = -1 by omega)]; unfold kOAt kOn kOl; rw [hk0]; split <;> first | exact (hK.2 i.toNat (by omega)).1 | rfl⟩ dX8_order_28
  · skip
    refine z_aln C hl 0 rfl dX8_order_10 ?_
    refine gf_X8_19 C hP dX8_order_11 ?_
    refine gf_X8_130 C hP dX8_order_14 ?_
    refine z_goto C 28 (by decide) dX8_order_17 ?_
    exact z_iretW B hP hS ⟨hF, by rw [if_pos (by omega)]; exact hk0⟩ dX8_order_28

set_option maxHeartbeats 4000000 in
set_option maxRecDepth 100000 in
theorem c_X8_mended {l : Launch} {D : va_G} {q : Nat → Nat} {g : Nat → ClassId} {σ : Mem} (hq : qok q) (i : Int) (hI : TI σ) (hr_i : zR i) : RW l yX8_mended cX8_mended 2 (some .int) 7 160 D q g σ [.ref (q 0), .int (zI i)] vI (fun r τ => Fr σ τ ∧ r = kOAt (co σ) 1 i) := by
  refine RW.intro (plainFor_of_name (by decide)) (Nat.le_of_ble_eq_true rfl) (fun p e s m args below meth c ls B hP hS hl => ?_)
  have C := B.1
  have hl : lv_has ls 2 [(0, .ref (q 0)), (1, .int (zI i))] := hl
  have h1 := hI.1
  have hIc := TI_cc hI
  have e12 : co σ 1 2 = σ 1 2 := rfl
  refine z_aln C hl 0 rfl dX8_mended_0 ?_
  refine z_ic C dX8_mended_1 ?_
  refine z_vRWv C hP hS hl (c_X8_rank (σ := σ) hq 1 hI (by omega)) (z_recv C hP (i := 0) (by decide) rfl (ci := 8) rfl) wg_358 wg_1 wg_355 wg_357 ws_X8_rank cw_X8_rank ⟨Nat.le_of_ble_eq_true rfl, Nat.le_of_ble_eq_true rfl⟩ rfl rfl (Nat.le_of_ble_eq_true rfl) dX8_mended_2 (fun r2 τ2 H locs hp2 hP hS => ?_)
  obtain ⟨hF, hK⟩ := hp2
  have hor := kOrd_rng (co σ) 1 (co σ 1 2).toNat
  have hk0 := hK.1
  have hIt := Fr_TI hF hI
  refine z_aln C hl 0 rfl dX8_mended_5 ?_
  refine gf_X8_19 C hP dX8_mended_6 ?_
  refine z_iln C hl 1 rfl dX8_mended_9 ?_
  refine z_vRO C hP hl (c_X3_at (σ := τ2) i (by omega) (by omega)) (z_recv C hP (i := 2) (by decide) rfl (ci := 3) rfl) wg_366 wg_4 wg_363 wg_364 wg_365 cw_X3_at ⟨Nat.le_of_ble_eq_true rfl, Nat.le_of_ble_eq_true rfl⟩ rfl rfl (Nat.le_of_ble_eq_true rfl) dX8_mended_10 ?_
  exact z_iretW B hP hS ⟨hF, by unfold kOAt kOn kOl; rw [hk0]; split <;> first | exact (hK.2 i.toNat (by omega)).1 | rfl⟩ dX8_mended_13
end
