section
-- ===== PART A: goes FIRST, ahead of the names: the tables' words, and 'selects' of the private methods out of them =====
/-- a private method of a class that the tables say can be made, by its rows of tables_1 -/
def lw_okq (q : MethodName × Nat) : Prop := (q.1.cls ≠ "java/lang/invoke/MethodHandle" ∧ q.1.cls ≠ "java/lang/invoke/VarHandle") ∧ Cond.instantiable q.1.cls q.2 ∈ tables_1 ∧ Cond.privateMethod q.1 ∈ tables_1 ∧ Cond.instanceMethod q.1 ∈ tables_1
theorem lw_p0 : lw_okq (⟨"RumorTombs", "recorded", "(I)I"⟩, 4) := ⟨⟨by decide +kernel, by decide +kernel⟩, List.mem_of_getElem? (i := 9) (by decide +kernel), List.mem_of_getElem? (i := 162) (by decide +kernel), List.mem_of_getElem? (i := 163) (by decide +kernel)⟩
theorem lw_p1 : lw_okq (⟨"RumorTombs$History", "dropOldest", "()V"⟩, 2) := ⟨⟨by decide +kernel, by decide +kernel⟩, List.mem_of_getElem? (i := 82) (by decide +kernel), List.mem_of_getElem? (i := 170) (by decide +kernel), List.mem_of_getElem? (i := 171) (by decide +kernel)⟩
theorem lw_p2 : lw_okq (⟨"RumorTombs$Village", "present", "()I"⟩, 15) := ⟨⟨by decide +kernel, by decide +kernel⟩, List.mem_of_getElem? (i := 17) (by decide +kernel), List.mem_of_getElem? (i := 188) (by decide +kernel), List.mem_of_getElem? (i := 189) (by decide +kernel)⟩
theorem lw_p3 : lw_okq (⟨"RumorTombs$Village", "isOver", "(II)Z"⟩, 15) := ⟨⟨by decide +kernel, by decide +kernel⟩, List.mem_of_getElem? (i := 17) (by decide +kernel), List.mem_of_getElem? (i := 199) (by decide +kernel), List.mem_of_getElem? (i := 200) (by decide +kernel)⟩
theorem lw_p4 : lw_okq (⟨"RumorTombs$Village", "write", "(III)V"⟩, 15) := ⟨⟨by decide +kernel, by decide +kernel⟩, List.mem_of_getElem? (i := 17) (by decide +kernel), List.mem_of_getElem? (i := 330) (by decide +kernel), List.mem_of_getElem? (i := 331) (by decide +kernel)⟩
theorem lw_p5 : lw_okq (⟨"RumorTombs$Village", "giver", "(III)I"⟩, 15) := ⟨⟨by decide +kernel, by decide +kernel⟩, List.mem_of_getElem? (i := 17) (by decide +kernel), List.mem_of_getElem? (i := 409) (by decide +kernel), List.mem_of_getElem? (i := 410) (by decide +kernel)⟩
theorem lw_p6 : lw_okq (⟨"RumorTombs$Village", "hand", "(III)V"⟩, 15) := ⟨⟨by decide +kernel, by decide +kernel⟩, List.mem_of_getElem? (i := 17) (by decide +kernel), List.mem_of_getElem? (i := 417) (by decide +kernel), List.mem_of_getElem? (i := 418) (by decide +kernel)⟩
theorem lw_p7 : lw_okq (⟨"RumorTombs$Village", "shareSight", "(III)V"⟩, 15) := ⟨⟨by decide +kernel, by decide +kernel⟩, List.mem_of_getElem? (i := 17) (by decide +kernel), List.mem_of_getElem? (i := 421) (by decide +kernel), List.mem_of_getElem? (i := 422) (by decide +kernel)⟩
def lw_privs_1 : List (MethodName × Nat) := [(⟨"RumorTombs", "recorded", "(I)I"⟩, 4), (⟨"RumorTombs$History", "dropOldest", "()V"⟩, 2), (⟨"RumorTombs$Village", "present", "()I"⟩, 15), (⟨"RumorTombs$Village", "isOver", "(II)Z"⟩, 15), (⟨"RumorTombs$Village", "write", "(III)V"⟩, 15), (⟨"RumorTombs$Village", "giver", "(III)I"⟩, 15), (⟨"RumorTombs$Village", "hand", "(III)V"⟩, 15), (⟨"RumorTombs$Village", "shareSight", "(III)V"⟩, 15)]
theorem lw_r1 : ∀ q ∈ lw_privs_1, lw_okq q := List.forall_mem_cons.mpr ⟨lw_p0, List.forall_mem_cons.mpr ⟨lw_p1, List.forall_mem_cons.mpr ⟨lw_p2, List.forall_mem_cons.mpr ⟨lw_p3, List.forall_mem_cons.mpr ⟨lw_p4, List.forall_mem_cons.mpr ⟨lw_p5, List.forall_mem_cons.mpr ⟨lw_p6, List.forall_mem_cons.mpr ⟨lw_p7, fun _ h => absurd h List.not_mem_nil⟩⟩⟩⟩⟩⟩⟩⟩
def lw_privs : List (MethodName × Nat) := lw_privs_1
def lw_tbl : List Cond := k2_sels lw_privs ++ tables_1
theorem lw_privs_ok : ∀ q ∈ lw_privs, lw_okq q := lw_r1
-- ===== end of PART A; then your names; then what follows =====
end
section
def RX0 : String := "RumorTombs$History"
def TX0 : u_T := fun k => match k with
  | 0 => ("RumorTombs$History", "states", "[LRumorTombs$Village;", true)
  | _ => ("RumorTombs$History", "kept", "I", false)
def tyX0 : Nat → FieldType := fun k => match k with
  | 0 => .array (.object "RumorTombs$Village")
  | _ => .int
abbrev wsX00 : List Cond := u_ws RX0 TX0 2
theorem nmX0 : ∀ a, a < 2 → ∀ b, b < 2 → a ≠ b → (TX0 a).2.1 ≠ (TX0 b).2.1 := by decide +kernel
theorem tyX0_ok : ∀ k, k < 2 → parseFieldDescriptor (TX0 k).2.2.1 = some (tyX0 k) := by decide +kernel
abbrev cX0_init : ByteArray := prog_2_method_1_code
def yX0_init : MethodName := ⟨RX0, "<init>", "()V"⟩
abbrev cX0_prepare : ByteArray := prog_2_method_2_code
def yX0_prepare : MethodName := ⟨RX0, "prepare", "(LRumorTombs$Village;)V"⟩
abbrev cX0_keep : ByteArray := prog_2_method_3_code
def yX0_keep : MethodName := ⟨RX0, "keep", "()V"⟩
abbrev cX0_dropOldest : ByteArray := prog_2_method_4_code
def yX0_dropOldest : MethodName := ⟨RX0, "dropOldest", "()V"⟩
abbrev cX0_restore : ByteArray := prog_2_method_5_code
def yX0_restore : MethodName := ⟨RX0, "restore", "(LRumorTombs$Village;)V"⟩
def RX1 : String := "RumorTombs$Orders"
def TX1 : u_T := fun k => match k with
  | 0 => ("RumorTombs$Orders", "signs", "[C", true)
  | 1 => ("RumorTombs$Orders", "length", "I", false)
  | 2 => ("RumorTombs$Orders", "numbers", "[I", true)
  | 3 => ("RumorTombs$Orders", "done", "I", false)
  | 4 => ("RumorTombs$Orders", "faultPosition", "I", false)
  | _ => ("RumorTombs$Orders", "faultReason", "I", false)
def tyX1 : Nat → FieldType := fun k => match k with
  | 0 => .array .char
  | 1 => .int
  | 2 => .array .int
  | 3 => .int
  | 4 => .int
  | _ => .int
abbrev wsX10 : List Cond := u_ws RX1 TX1 6
theorem nmX1 : ∀ a, a < 6 → ∀ b, b < 6 → a ≠ b → (TX1 a).2.1 ≠ (TX1 b).2.1 := by decide +kernel
theorem tyX1_ok : ∀ k, k < 6 → parseFieldDescriptor (TX1 k).2.2.1 = some (tyX1 k) := by decide +kernel
abbrev cX1_init : ByteArray := prog_3_method_1_code
def yX1_init : MethodName := ⟨RX1, "<init>", "()V"⟩
def RX2 : String := "RumorTombs$Village"
def TX2 : u_T := fun k => match k with
  | 0 => ("RumorTombs$Village", "villagers", "I", false)
  | 1 => ("RumorTombs$Village", "time", "I", false)
  | 2 => ("RumorTombs$Village", "watch", "I", false)
  | 3 => ("RumorTombs$Village", "tombsMade", "I", false)
  | 4 => ("RumorTombs$Village", "states", "[I", true)
  | 5 => ("RumorTombs$Village", "clocks", "[I", true)
  | 6 => ("RumorTombs$Village", "asleepSince", "[I", true)
  | 7 => ("RumorTombs$Village", "ghostsOf", "[I", true)
  | 8 => ("RumorTombs$Village", "stamps", "[I", true)
  | 9 => ("RumorTombs$Village", "kinds", "[I", true)
  | 10 => ("RumorTombs$Village", "values", "[I", true)
  | 11 => ("RumorTombs$Village", "made", "[I", true)
  | 12 => ("RumorTombs$Village", "seen", "[I", true)
  | 13 => ("RumorTombs$Village", "newestDropped", "[I", true)
  | _ => ("RumorTombs$Village", "newestTomb", "[I", true)
def tyX2 : Nat → FieldType := fun k => match k with
  | 0 => .int
  | 1 => .int
  | 2 => .int
  | 3 => .int
  | 4 => .array .int
  | 5 => .array .int
  | 6 => .array .int
  | 7 => .array .int
  | 8 => .array .int
  | 9 => .array .int
  | 10 => .array .int
  | 11 => .array .int
  | 12 => .array .int
  | 13 => .array .int
  | _ => .array .int
abbrev wsX20 : List Cond := u_ws RX2 TX2 15
theorem nmX2 : ∀ a, a < 15 → ∀ b, b < 15 → a ≠ b → (TX2 a).2.1 ≠ (TX2 b).2.1 := by decide +kernel
theorem tyX2_ok : ∀ k, k < 15 → parseFieldDescriptor (TX2 k).2.2.1 = some (tyX2 k) := by decide +kernel
abbrev cX2_init : ByteArray := prog_4_method_1_code
def yX2_init : MethodName := ⟨RX2, "<init>", "()V"⟩
abbrev cX2_copyFrom : ByteArray := prog_4_method_2_code
def yX2_copyFrom : MethodName := ⟨RX2, "copyFrom", "(LRumorTombs$Village;)V"⟩
abbrev cX2_copyRow : ByteArray := prog_4_method_3_code
def yX2_copyRow : MethodName := ⟨RX2, "copyRow", "([I[II)V"⟩
abbrev cX2_has : ByteArray := prog_4_method_4_code
def yX2_has : MethodName := ⟨RX2, "has", "(I)Z"⟩
abbrev cX2_areTwo : ByteArray := prog_4_method_5_code
def yX2_areTwo : MethodName := ⟨RX2, "areTwo", "(II)Z"⟩
abbrev cX2_isAwake : ByteArray := prog_4_method_6_code
def yX2_isAwake : MethodName := ⟨RX2, "isAwake", "(I)Z"⟩
abbrev cX2_isAsleep : ByteArray := prog_4_method_7_code
def yX2_isAsleep : MethodName := ⟨RX2, "isAsleep", "(I)Z"⟩
abbrev cX2_ticksAsleep : ByteArray := prog_4_method_8_code
def yX2_ticksAsleep : MethodName := ⟨RX2, "ticksAsleep", "(I)I"⟩
abbrev cX2_howMany : ByteArray := prog_4_method_9_code
def yX2_howMany : MethodName := ⟨RX2, "howMany", "(I)I"⟩
abbrev cX2_allGhosts : ByteArray := prog_4_method_10_code
def yX2_allGhosts : MethodName := ⟨RX2, "allGhosts", "()I"⟩
abbrev cX2_addVillager : ByteArray := prog_4_method_11_code
def yX2_addVillager : MethodName := ⟨RX2, "addVillager", "()I"⟩
abbrev cX2_fallAsleep : ByteArray := prog_4_method_12_code
def yX2_fallAsleep : MethodName := ⟨RX2, "fallAsleep", "(I)I"⟩
abbrev cX2_wakeUp : ByteArray := prog_4_method_13_code
def yX2_wakeUp : MethodName := ⟨RX2, "wakeUp", "(I)I"⟩
abbrev cX2_goAway : ByteArray := prog_4_method_14_code
def yX2_goAway : MethodName := ⟨RX2, "goAway", "(I)I"⟩
abbrev cX2_changeWatch : ByteArray := prog_4_method_15_code
def yX2_changeWatch : MethodName := ⟨RX2, "changeWatch", "(I)I"⟩
abbrev cX2_isTomb : ByteArray := prog_4_method_16_code
def yX2_isTomb : MethodName := ⟨RX2, "isTomb", "(I)Z"⟩
abbrev cX2_isRumor : ByteArray := prog_4_method_17_code
def yX2_isRumor : MethodName := ⟨RX2, "isRumor", "(I)Z"⟩
abbrev cX2_isDead : ByteArray := prog_4_method_18_code
def yX2_isDead : MethodName := ⟨RX2, "isDead", "(II)Z"⟩
abbrev cX2_author : ByteArray := prog_4_method_19_code
def yX2_author : MethodName := ⟨RX2, "author", "(I)I"⟩
abbrev cX2_rumorTopics : ByteArray := prog_4_method_20_code
def yX2_rumorTopics : MethodName := ⟨RX2, "rumorTopics", "(I)I"⟩
abbrev cX2_tombTopics : ByteArray := prog_4_method_21_code
def yX2_tombTopics : MethodName := ⟨RX2, "tombTopics", "(I)I"⟩
abbrev cX2_deadTopics : ByteArray := prog_4_method_22_code
def yX2_deadTopics : MethodName := ⟨RX2, "deadTopics", "(I)I"⟩
abbrev cX2_unlikeTopics : ByteArray := prog_4_method_23_code
def yX2_unlikeTopics : MethodName := ⟨RX2, "unlikeTopics", "(II)I"⟩
abbrev cX2_allRumors : ByteArray := prog_4_method_24_code
def yX2_allRumors : MethodName := ⟨RX2, "allRumors", "()I"⟩
abbrev cX2_allTombs : ByteArray := prog_4_method_25_code
def yX2_allTombs : MethodName := ⟨RX2, "allTombs", "()I"⟩
abbrev cX2_allDead : ByteArray := prog_4_method_26_code
def yX2_allDead : MethodName := ⟨RX2, "allDead", "()I"⟩
abbrev cX2_makeRumor : ByteArray := prog_4_method_28_code
def yX2_makeRumor : MethodName := ⟨RX2, "makeRumor", "(IIII)I"⟩
abbrev cX2_makeTomb : ByteArray := prog_4_method_29_code
def yX2_makeTomb : MethodName := ⟨RX2, "makeTomb", "(II)I"⟩
abbrev cX2_write : ByteArray := prog_4_method_30_code
def yX2_write : MethodName := ⟨RX2, "write", "(III)V"⟩
abbrev cX2_bringTogether : ByteArray := prog_4_method_31_code
def yX2_bringTogether : MethodName := ⟨RX2, "bringTogether", "(II)I"⟩
abbrev cX2_talk : ByteArray := prog_4_method_32_code
def yX2_talk : MethodName := ⟨RX2, "talk", "(II)I"⟩
abbrev cX2_giver : ByteArray := prog_4_method_34_code
def yX2_giver : MethodName := ⟨RX2, "giver", "(III)I"⟩
abbrev cX2_mayBeHanded : ByteArray := prog_4_method_35_code
def yX2_mayBeHanded : MethodName := ⟨RX2, "mayBeHanded", "(IZZ)Z"⟩
abbrev cX2_hand : ByteArray := prog_4_method_36_code
def yX2_hand : MethodName := ⟨RX2, "hand", "(III)V"⟩
abbrev cX2_shareSight : ByteArray := prog_4_method_37_code
def yX2_shareSight : MethodName := ⟨RX2, "shareSight", "(III)V"⟩
abbrev cX2_letGoBy : ByteArray := prog_4_method_40_code
def yX2_letGoBy : MethodName := ⟨RX2, "letGoBy", "(I)I"⟩
abbrev cX2_pass : ByteArray := prog_4_method_41_code
def yX2_pass : MethodName := ⟨RX2, "pass", "(I)I"⟩
abbrev cX2_isOver : ByteArray := prog_4_method_42_code
def yX2_isOver : MethodName := ⟨RX2, "isOver", "(II)Z"⟩
abbrev cX2_present : ByteArray := prog_4_method_43_code
def yX2_present : MethodName := ⟨RX2, "present", "()I"⟩
def RX3 : String := "RumorTombs"
def TX3 : u_T := fun k => match k with
  | 0 => ("RumorTombs", "now", "LRumorTombs$Village;", true)
  | 1 => ("RumorTombs", "trial", "LRumorTombs$Village;", true)
  | 2 => ("RumorTombs", "history", "LRumorTombs$History;", true)
  | _ => ("RumorTombs", "orders", "LRumorTombs$Orders;", true)
def tyX3 : Nat → FieldType := fun k => match k with
  | 0 => .object "RumorTombs$Village"
  | 1 => .object "RumorTombs$Village"
  | 2 => .object "RumorTombs$History"
  | _ => .object "RumorTombs$Orders"
abbrev wsX30 : List Cond := u_ws RX3 TX3 4
theorem nmX3 : ∀ a, a < 4 → ∀ b, b < 4 → a ≠ b → (TX3 a).2.1 ≠ (TX3 b).2.1 := by decide +kernel
theorem tyX3_ok : ∀ k, k < 4 → parseFieldDescriptor (TX3 k).2.2.1 = some (tyX3 k) := by decide +kernel
abbrev cX3_init : ByteArray := prog_1_method_1_code
def yX3_init : MethodName := ⟨RX3, "<init>", "()V"⟩
abbrev cX3_villager : ByteArray := prog_1_method_2_code
def yX3_villager : MethodName := ⟨RX3, "villager", "()I"⟩
abbrev cX3_sleep : ByteArray := prog_1_method_3_code
def yX3_sleep : MethodName := ⟨RX3, "sleep", "(I)I"⟩
abbrev cX3_wake : ByteArray := prog_1_method_4_code
def yX3_wake : MethodName := ⟨RX3, "wake", "(I)I"⟩
abbrev cX3_leave : ByteArray := prog_1_method_5_code
def yX3_leave : MethodName := ⟨RX3, "leave", "(I)I"⟩
abbrev cX3_watch : ByteArray := prog_1_method_6_code
def yX3_watch : MethodName := ⟨RX3, "watch", "(I)I"⟩
abbrev cX3_villagerOf : ByteArray := prog_1_method_7_code
def yX3_villagerOf : MethodName := ⟨RX3, "villagerOf", "(II)I"⟩
abbrev cX3_tell : ByteArray := prog_1_method_8_code
def yX3_tell : MethodName := ⟨RX3, "tell", "(IIII)I"⟩
abbrev cX3_bury : ByteArray := prog_1_method_9_code
def yX3_bury : MethodName := ⟨RX3, "bury", "(II)I"⟩
abbrev cX3_meet : ByteArray := prog_1_method_10_code
def yX3_meet : MethodName := ⟨RX3, "meet", "(II)I"⟩
abbrev cX3_entryOf : ByteArray := prog_1_method_11_code
def yX3_entryOf : MethodName := ⟨RX3, "entryOf", "(III)I"⟩
abbrev cX3_tick : ByteArray := prog_1_method_12_code
def yX3_tick : MethodName := ⟨RX3, "tick", "(I)I"⟩
abbrev cX3_unlike : ByteArray := prog_1_method_14_code
def yX3_unlike : MethodName := ⟨RX3, "unlike", "(II)I"⟩
abbrev cX3_dead : ByteArray := prog_1_method_15_code
def yX3_dead : MethodName := ⟨RX3, "dead", "(I)I"⟩
abbrev cX3_count : ByteArray := prog_1_method_19_code
def yX3_count : MethodName := ⟨RX3, "count", "(I)I"⟩
abbrev cX3_undo : ByteArray := prog_1_method_20_code
def yX3_undo : MethodName := ⟨RX3, "undo", "()I"⟩
abbrev cX3_recorded : ByteArray := prog_1_method_25_code
def yX3_recorded : MethodName := ⟨RX3, "recorded", "(I)I"⟩
abbrev cX3_isTopic : ByteArray := prog_1_method_26_code
def yX3_isTopic : MethodName := ⟨RX3, "isTopic", "(I)Z"⟩
abbrev cX3_place : ByteArray := prog_1_method_27_code
def yX3_place : MethodName := ⟨RX3, "place", "(II)I"⟩
def RX4 : String := "RumorTombsModel"
def TX4 : u_T := fun k => match k with
  | _ => ("", "", "", false)
def tyX4 : Nat → FieldType := fun k => match k with
  | _ => .int
abbrev wsX40 : List Cond := u_ws RX4 TX4 0
theorem nmX4 : ∀ a, a < 0 → ∀ b, b < 0 → a ≠ b → (TX4 a).2.1 ≠ (TX4 b).2.1 := by decide +kernel
theorem tyX4_ok : ∀ k, k < 0 → parseFieldDescriptor (TX4 k).2.2.1 = some (tyX4 k) := by decide +kernel
def RJ6 : String := "java/lang/Integer"
def TJ6 : u_T := fun k => match k with
  | _ => ("", "", "", false)
def tyJ6 : Nat → FieldType := fun k => match k with
  | _ => .int
theorem nmJ6 : ∀ a, a < 0 → ∀ b, b < 0 → a ≠ b → (TJ6 a).2.1 ≠ (TJ6 b).2.1 := by decide +kernel
theorem tyJ6_ok : ∀ k, k < 0 → parseFieldDescriptor (TJ6 k).2.2.1 = some (tyJ6 k) := by decide +kernel
abbrev cJ6_bitCount_0f7a4 : ByteArray := prog_7_method_49_code
def yJ6_bitCount_0f7a4 : MethodName := ⟨RJ6, "bitCount", "(I)I"⟩
def RJ9 : String := "java/lang/Math"
def TJ9 : u_T := fun k => match k with
  | _ => ("", "", "", false)
def tyJ9 : Nat → FieldType := fun k => match k with
  | _ => .int
theorem nmJ9 : ∀ a, a < 0 → ∀ b, b < 0 → a ≠ b → (TJ9 a).2.1 ≠ (TJ9 b).2.1 := by decide +kernel
theorem tyJ9_ok : ∀ k, k < 0 → parseFieldDescriptor (TJ9 k).2.2.1 = some (tyJ9 k) := by decide +kernel
abbrev cJ9_max_7cf53 : ByteArray := prog_8_method_65_code
def yJ9_max_7cf53 : MethodName := ⟨RJ9, "max", "(II)I"⟩
def RJ10 : String := "java/lang/System"
def TJ10 : u_T := fun k => match k with
  | _ => ("", "", "", false)
def tyJ10 : Nat → FieldType := fun k => match k with
  | _ => .int
theorem nmJ10 : ∀ a, a < 0 → ∀ b, b < 0 → a ≠ b → (TJ10 a).2.1 ≠ (TJ10 b).2.1 := by decide +kernel
theorem tyJ10_ok : ∀ k, k < 0 → parseFieldDescriptor (TJ10 k).2.2.1 = some (tyJ10 k) := by decide +kernel
def RL : String := "RumorTombsLaw"
abbrev cL_cell : ByteArray := method_2_code
def yL_cell : MethodName := ⟨RL, "cell", "([II)I"⟩
abbrev cL_rank : ByteArray := method_3_code
def yL_rank : MethodName := ⟨RL, "rank", "(LRumorTombs;II)I"⟩
abbrev cL_holds : ByteArray := method_4_code
def yL_holds : MethodName := ⟨RL, "holds", "(LRumorTombs;)Z"⟩
abbrev cL_meets : ByteArray := method_5_code
def yL_meets : MethodName := ⟨RL, "meets", "(LRumorTombs;II)Z"⟩
abbrev cL_acts : ByteArray := method_6_code
def yL_acts : MethodName := ⟨RL, "acts", "(LRumorTombs;I)Z"⟩
abbrev cL_law : ByteArray := code
def yL_law : MethodName := ⟨RL, "law", "([I)Z"⟩
abbrev vwCl : List vw_C := [(RX0, TX0, 2), (RX1, TX1, 6), (RX2, TX2, 15), (RX3, TX3, 4)]
end
section
theorem dX0_init_0 : decode cX0_init 0 = .ok (.aload_n 0, 1) := by decide +kernel
theorem dX0_init_1 : decode cX0_init 1 = .ok (.invokespecial 3, 3) := by decide +kernel
theorem dX0_init_4 : decode cX0_init 4 = .ok (.aload_n 0, 1) := by decide +kernel
theorem dX0_init_5 : decode cX0_init 5 = .ok (.iconst 5, 1) := by decide +kernel
theorem dX0_init_6 : decode cX0_init 6 = .ok (.anewarray 9, 3) := by decide +kernel
theorem dX0_init_9 : decode cX0_init 9 = .ok (.putfield 11, 3) := by decide +kernel
theorem dX0_init_12 : decode cX0_init 12 = .ok (.aload_n 0, 1) := by decide +kernel
theorem dX0_init_13 : decode cX0_init 13 = .ok (.iconst 0, 1) := by decide +kernel
theorem dX0_init_14 : decode cX0_init 14 = .ok (.putfield 17, 3) := by decide +kernel
theorem dX0_init_17 : decode cX0_init 17 = .ok (.iconst 0, 1) := by decide +kernel
theorem dX0_init_18 : decode cX0_init 18 = .ok (.istore_n 1, 1) := by decide +kernel
theorem dX0_init_19 : decode cX0_init 19 = .ok (.iload_n 1, 1) := by decide +kernel
theorem dX0_init_20 : decode cX0_init 20 = .ok (.aload_n 0, 1) := by decide +kernel
theorem dX0_init_21 : decode cX0_init 21 = .ok (.getfield 11, 3) := by decide +kernel
theorem dX0_init_24 : decode cX0_init 24 = .ok (.arraylength, 1) := by decide +kernel
theorem dX0_init_25 : decode cX0_init 25 = .ok (.if_icmp .ge 22, 3) := by decide +kernel
theorem dX0_init_28 : decode cX0_init 28 = .ok (.aload_n 0, 1) := by decide +kernel
theorem dX0_init_29 : decode cX0_init 29 = .ok (.getfield 11, 3) := by decide +kernel
theorem dX0_init_32 : decode cX0_init 32 = .ok (.iload_n 1, 1) := by decide +kernel
theorem dX0_init_33 : decode cX0_init 33 = .ok (.new 9, 3) := by decide +kernel
theorem dX0_init_36 : decode cX0_init 36 = .ok (.dup, 1) := by decide +kernel
theorem dX0_init_37 : decode cX0_init 37 = .ok (.invokespecial 21, 3) := by decide +kernel
theorem dX0_init_40 : decode cX0_init 40 = .ok (.aastore, 1) := by decide +kernel
theorem dX0_init_41 : decode cX0_init 41 = .ok (.iinc 1 1, 3) := by decide +kernel
theorem dX0_init_44 : decode cX0_init 44 = .ok (.goto (-25), 3) := by decide +kernel
theorem dX0_init_47 : decode cX0_init 47 = .ok (.return_, 1) := by decide +kernel
theorem dX0_prepare_0 : decode cX0_prepare 0 = .ok (.aload_n 0, 1) := by decide +kernel
theorem dX0_prepare_1 : decode cX0_prepare 1 = .ok (.getfield 11, 3) := by decide +kernel
theorem dX0_prepare_4 : decode cX0_prepare 4 = .ok (.aload_n 0, 1) := by decide +kernel
theorem dX0_prepare_5 : decode cX0_prepare 5 = .ok (.getfield 17, 3) := by decide +kernel
theorem dX0_prepare_8 : decode cX0_prepare 8 = .ok (.aaload, 1) := by decide +kernel
theorem dX0_prepare_9 : decode cX0_prepare 9 = .ok (.aload_n 1, 1) := by decide +kernel
theorem dX0_prepare_10 : decode cX0_prepare 10 = .ok (.invokevirtual 22, 3) := by decide +kernel
theorem dX0_prepare_13 : decode cX0_prepare 13 = .ok (.return_, 1) := by decide +kernel
theorem dX0_keep_0 : decode cX0_keep 0 = .ok (.aload_n 0, 1) := by decide +kernel
theorem dX0_keep_1 : decode cX0_keep 1 = .ok (.dup, 1) := by decide +kernel
theorem dX0_keep_2 : decode cX0_keep 2 = .ok (.getfield 17, 3) := by decide +kernel
theorem dX0_keep_5 : decode cX0_keep 5 = .ok (.iconst 1, 1) := by decide +kernel
theorem dX0_keep_6 : decode cX0_keep 6 = .ok (.iadd, 1) := by decide +kernel
theorem dX0_keep_7 : decode cX0_keep 7 = .ok (.putfield 17, 3) := by decide +kernel
theorem dX0_keep_10 : decode cX0_keep 10 = .ok (.aload_n 0, 1) := by decide +kernel
theorem dX0_keep_11 : decode cX0_keep 11 = .ok (.getfield 17, 3) := by decide +kernel
theorem dX0_keep_14 : decode cX0_keep 14 = .ok (.iconst 4, 1) := by decide +kernel
theorem dX0_keep_15 : decode cX0_keep 15 = .ok (.if_icmp .le 7, 3) := by decide +kernel
theorem dX0_keep_18 : decode cX0_keep 18 = .ok (.aload_n 0, 1) := by decide +kernel
theorem dX0_keep_19 : decode cX0_keep 19 = .ok (.invokevirtual 26, 3) := by decide +kernel
theorem dX0_keep_22 : decode cX0_keep 22 = .ok (.return_, 1) := by decide +kernel
theorem dX0_dropOldest_0 : decode cX0_dropOldest 0 = .ok (.aload_n 0, 1) := by decide +kernel
theorem dX0_dropOldest_1 : decode cX0_dropOldest 1 = .ok (.getfield 11, 3) := by decide +kernel
theorem dX0_dropOldest_4 : decode cX0_dropOldest 4 = .ok (.iconst 0, 1) := by decide +kernel
theorem dX0_dropOldest_5 : decode cX0_dropOldest 5 = .ok (.aaload, 1) := by decide +kernel
theorem dX0_dropOldest_6 : decode cX0_dropOldest 6 = .ok (.astore_n 1, 1) := by decide +kernel
theorem dX0_dropOldest_7 : decode cX0_dropOldest 7 = .ok (.iconst 0, 1) := by decide +kernel
theorem dX0_dropOldest_8 : decode cX0_dropOldest 8 = .ok (.istore_n 2, 1) := by decide +kernel
theorem dX0_dropOldest_9 : decode cX0_dropOldest 9 = .ok (.iload_n 2, 1) := by decide +kernel
theorem dX0_dropOldest_10 : decode cX0_dropOldest 10 = .ok (.iconst 4, 1) := by decide +kernel
theorem dX0_dropOldest_11 : decode cX0_dropOldest 11 = .ok (.if_icmp .ge 23, 3) := by decide +kernel
theorem dX0_dropOldest_14 : decode cX0_dropOldest 14 = .ok (.aload_n 0, 1) := by decide +kernel
theorem dX0_dropOldest_15 : decode cX0_dropOldest 15 = .ok (.getfield 11, 3) := by decide +kernel
theorem dX0_dropOldest_18 : decode cX0_dropOldest 18 = .ok (.iload_n 2, 1) := by decide +kernel
theorem dX0_dropOldest_19 : decode cX0_dropOldest 19 = .ok (.aload_n 0, 1) := by decide +kernel
theorem dX0_dropOldest_20 : decode cX0_dropOldest 20 = .ok (.getfield 11, 3) := by decide +kernel
theorem dX0_dropOldest_23 : decode cX0_dropOldest 23 = .ok (.iload_n 2, 1) := by decide +kernel
theorem dX0_dropOldest_24 : decode cX0_dropOldest 24 = .ok (.iconst 1, 1) := by decide +kernel
theorem dX0_dropOldest_25 : decode cX0_dropOldest 25 = .ok (.iadd, 1) := by decide +kernel
theorem dX0_dropOldest_26 : decode cX0_dropOldest 26 = .ok (.aaload, 1) := by decide +kernel
theorem dX0_dropOldest_27 : decode cX0_dropOldest 27 = .ok (.aastore, 1) := by decide +kernel
theorem dX0_dropOldest_28 : decode cX0_dropOldest 28 = .ok (.iinc 2 1, 3) := by decide +kernel
theorem dX0_dropOldest_31 : decode cX0_dropOldest 31 = .ok (.goto (-22), 3) := by decide +kernel
theorem dX0_dropOldest_34 : decode cX0_dropOldest 34 = .ok (.aload_n 0, 1) := by decide +kernel
theorem dX0_dropOldest_35 : decode cX0_dropOldest 35 = .ok (.getfield 11, 3) := by decide +kernel
theorem dX0_dropOldest_38 : decode cX0_dropOldest 38 = .ok (.iconst 4, 1) := by decide +kernel
theorem dX0_dropOldest_39 : decode cX0_dropOldest 39 = .ok (.aload_n 1, 1) := by decide +kernel
theorem dX0_dropOldest_40 : decode cX0_dropOldest 40 = .ok (.aastore, 1) := by decide +kernel
theorem dX0_dropOldest_41 : decode cX0_dropOldest 41 = .ok (.aload_n 0, 1) := by decide +kernel
theorem dX0_dropOldest_42 : decode cX0_dropOldest 42 = .ok (.dup, 1) := by decide +kernel
theorem dX0_dropOldest_43 : decode cX0_dropOldest 43 = .ok (.getfield 17, 3) := by decide +kernel
theorem dX0_dropOldest_46 : decode cX0_dropOldest 46 = .ok (.iconst 1, 1) := by decide +kernel
theorem dX0_dropOldest_47 : decode cX0_dropOldest 47 = .ok (.isub, 1) := by decide +kernel
theorem dX0_dropOldest_48 : decode cX0_dropOldest 48 = .ok (.putfield 17, 3) := by decide +kernel
theorem dX0_dropOldest_51 : decode cX0_dropOldest 51 = .ok (.return_, 1) := by decide +kernel
theorem dX0_restore_0 : decode cX0_restore 0 = .ok (.aload_n 0, 1) := by decide +kernel
theorem dX0_restore_1 : decode cX0_restore 1 = .ok (.dup, 1) := by decide +kernel
theorem dX0_restore_2 : decode cX0_restore 2 = .ok (.getfield 17, 3) := by decide +kernel
theorem dX0_restore_5 : decode cX0_restore 5 = .ok (.iconst 1, 1) := by decide +kernel
theorem dX0_restore_6 : decode cX0_restore 6 = .ok (.isub, 1) := by decide +kernel
theorem dX0_restore_7 : decode cX0_restore 7 = .ok (.putfield 17, 3) := by decide +kernel
theorem dX0_restore_10 : decode cX0_restore 10 = .ok (.aload_n 1, 1) := by decide +kernel
theorem dX0_restore_11 : decode cX0_restore 11 = .ok (.aload_n 0, 1) := by decide +kernel
theorem dX0_restore_12 : decode cX0_restore 12 = .ok (.getfield 11, 3) := by decide +kernel
theorem dX0_restore_15 : decode cX0_restore 15 = .ok (.aload_n 0, 1) := by decide +kernel
theorem dX0_restore_16 : decode cX0_restore 16 = .ok (.getfield 17, 3) := by decide +kernel
theorem dX0_restore_19 : decode cX0_restore 19 = .ok (.aaload, 1) := by decide +kernel
theorem dX0_restore_20 : decode cX0_restore 20 = .ok (.invokevirtual 22, 3) := by decide +kernel
theorem dX0_restore_23 : decode cX0_restore 23 = .ok (.return_, 1) := by decide +kernel
theorem dX1_init_0 : decode cX1_init 0 = .ok (.aload_n 0, 1) := by decide +kernel
theorem dX1_init_1 : decode cX1_init 1 = .ok (.invokespecial 3, 3) := by decide +kernel
theorem dX1_init_4 : decode cX1_init 4 = .ok (.aload_n 0, 1) := by decide +kernel
theorem dX1_init_5 : decode cX1_init 5 = .ok (.bipush 60, 2) := by decide +kernel
theorem dX1_init_7 : decode cX1_init 7 = .ok (.newarray .char, 2) := by decide +kernel
theorem dX1_init_9 : decode cX1_init 9 = .ok (.putfield 9, 3) := by decide +kernel
theorem dX1_init_12 : decode cX1_init 12 = .ok (.aload_n 0, 1) := by decide +kernel
theorem dX1_init_13 : decode cX1_init 13 = .ok (.iconst 0, 1) := by decide +kernel
theorem dX1_init_14 : decode cX1_init 14 = .ok (.putfield 15, 3) := by decide +kernel
theorem dX1_init_17 : decode cX1_init 17 = .ok (.aload_n 0, 1) := by decide +kernel
theorem dX1_init_18 : decode cX1_init 18 = .ok (.iconst 3, 1) := by decide +kernel
theorem dX1_init_19 : decode cX1_init 19 = .ok (.newarray .int, 2) := by decide +kernel
theorem dX1_init_21 : decode cX1_init 21 = .ok (.putfield 19, 3) := by decide +kernel
theorem dX1_init_24 : decode cX1_init 24 = .ok (.aload_n 0, 1) := by decide +kernel
theorem dX1_init_25 : decode cX1_init 25 = .ok (.iconst 0, 1) := by decide +kernel
theorem dX1_init_26 : decode cX1_init 26 = .ok (.putfield 23, 3) := by decide +kernel
theorem dX1_init_29 : decode cX1_init 29 = .ok (.aload_n 0, 1) := by decide +kernel
theorem dX1_init_30 : decode cX1_init 30 = .ok (.iconst 0, 1) := by decide +kernel
theorem dX1_init_31 : decode cX1_init 31 = .ok (.putfield 26, 3) := by decide +kernel
theorem dX1_init_34 : decode cX1_init 34 = .ok (.aload_n 0, 1) := by decide +kernel
theorem dX1_init_35 : decode cX1_init 35 = .ok (.iconst 0, 1) := by decide +kernel
theorem dX1_init_36 : decode cX1_init 36 = .ok (.putfield 29, 3) := by decide +kernel
theorem dX1_init_39 : decode cX1_init 39 = .ok (.return_, 1) := by decide +kernel
theorem dX2_init_0 : decode cX2_init 0 = .ok (.aload_n 0, 1) := by decide +kernel
theorem dX2_init_1 : decode cX2_init 1 = .ok (.invokespecial 3, 3) := by decide +kernel
theorem dX2_init_4 : decode cX2_init 4 = .ok (.aload_n 0, 1) := by decide +kernel
theorem dX2_init_5 : decode cX2_init 5 = .ok (.iconst 0, 1) := by decide +kernel
theorem dX2_init_6 : decode cX2_init 6 = .ok (.putfield 9, 3) := by decide +kernel
theorem dX2_init_9 : decode cX2_init 9 = .ok (.aload_n 0, 1) := by decide +kernel
theorem dX2_init_10 : decode cX2_init 10 = .ok (.iconst 0, 1) := by decide +kernel
theorem dX2_init_11 : decode cX2_init 11 = .ok (.putfield 15, 3) := by decide +kernel
theorem dX2_init_14 : decode cX2_init 14 = .ok (.aload_n 0, 1) := by decide +kernel
theorem dX2_init_15 : decode cX2_init 15 = .ok (.bipush 10, 2) := by decide +kernel
theorem dX2_init_17 : decode cX2_init 17 = .ok (.putfield 18, 3) := by decide +kernel
theorem dX2_init_20 : decode cX2_init 20 = .ok (.aload_n 0, 1) := by decide +kernel
theorem dX2_init_21 : decode cX2_init 21 = .ok (.iconst 0, 1) := by decide +kernel
theorem dX2_init_22 : decode cX2_init 22 = .ok (.putfield 21, 3) := by decide +kernel
theorem dX2_init_25 : decode cX2_init 25 = .ok (.aload_n 0, 1) := by decide +kernel
theorem dX2_init_26 : decode cX2_init 26 = .ok (.bipush 7, 2) := by decide +kernel
theorem dX2_init_28 : decode cX2_init 28 = .ok (.newarray .int, 2) := by decide +kernel
theorem dX2_init_30 : decode cX2_init 30 = .ok (.putfield 24, 3) := by decide +kernel
theorem dX2_init_33 : decode cX2_init 33 = .ok (.aload_n 0, 1) := by decide +kernel
theorem dX2_init_34 : decode cX2_init 34 = .ok (.bipush 7, 2) := by decide +kernel
theorem dX2_init_36 : decode cX2_init 36 = .ok (.newarray .int, 2) := by decide +kernel
theorem dX2_init_38 : decode cX2_init 38 = .ok (.putfield 28, 3) := by decide +kernel
theorem dX2_init_41 : decode cX2_init 41 = .ok (.aload_n 0, 1) := by decide +kernel
theorem dX2_init_42 : decode cX2_init 42 = .ok (.bipush 7, 2) := by decide +kernel
theorem dX2_init_44 : decode cX2_init 44 = .ok (.newarray .int, 2) := by decide +kernel
theorem dX2_init_46 : decode cX2_init 46 = .ok (.putfield 31, 3) := by decide +kernel
theorem dX2_init_49 : decode cX2_init 49 = .ok (.aload_n 0, 1) := by decide +kernel
theorem dX2_init_50 : decode cX2_init 50 = .ok (.bipush 7, 2) := by decide +kernel
theorem dX2_init_52 : decode cX2_init 52 = .ok (.newarray .int, 2) := by decide +kernel
theorem dX2_init_54 : decode cX2_init 54 = .ok (.putfield 34, 3) := by decide +kernel
theorem dX2_init_57 : decode cX2_init 57 = .ok (.aload_n 0, 1) := by decide +kernel
theorem dX2_init_58 : decode cX2_init 58 = .ok (.bipush 84, 2) := by decide +kernel
theorem dX2_init_60 : decode cX2_init 60 = .ok (.newarray .int, 2) := by decide +kernel
theorem dX2_init_62 : decode cX2_init 62 = .ok (.putfield 37, 3) := by decide +kernel
theorem dX2_init_65 : decode cX2_init 65 = .ok (.aload_n 0, 1) := by decide +kernel
theorem dX2_init_66 : decode cX2_init 66 = .ok (.bipush 84, 2) := by decide +kernel
theorem dX2_init_68 : decode cX2_init 68 = .ok (.newarray .int, 2) := by decide +kernel
theorem dX2_init_70 : decode cX2_init 70 = .ok (.putfield 40, 3) := by decide +kernel
theorem dX2_init_73 : decode cX2_init 73 = .ok (.aload_n 0, 1) := by decide +kernel
theorem dX2_init_74 : decode cX2_init 74 = .ok (.bipush 84, 2) := by decide +kernel
theorem dX2_init_76 : decode cX2_init 76 = .ok (.newarray .int, 2) := by decide +kernel
theorem dX2_init_78 : decode cX2_init 78 = .ok (.putfield 43, 3) := by decide +kernel
theorem dX2_init_81 : decode cX2_init 81 = .ok (.aload_n 0, 1) := by decide +kernel
theorem dX2_init_82 : decode cX2_init 82 = .ok (.bipush 84, 2) := by decide +kernel
theorem dX2_init_84 : decode cX2_init 84 = .ok (.newarray .int, 2) := by decide +kernel
theorem dX2_init_86 : decode cX2_init 86 = .ok (.putfield 46, 3) := by decide +kernel
theorem dX2_init_89 : decode cX2_init 89 = .ok (.aload_n 0, 1) := by decide +kernel
theorem dX2_init_90 : decode cX2_init 90 = .ok (.bipush 84, 2) := by decide +kernel
theorem dX2_init_92 : decode cX2_init 92 = .ok (.newarray .int, 2) := by decide +kernel
theorem dX2_init_94 : decode cX2_init 94 = .ok (.putfield 49, 3) := by decide +kernel
theorem dX2_init_97 : decode cX2_init 97 = .ok (.aload_n 0, 1) := by decide +kernel
theorem dX2_init_98 : decode cX2_init 98 = .ok (.bipush 84, 2) := by decide +kernel
theorem dX2_init_100 : decode cX2_init 100 = .ok (.newarray .int, 2) := by decide +kernel
theorem dX2_init_102 : decode cX2_init 102 = .ok (.putfield 52, 3) := by decide +kernel
theorem dX2_init_105 : decode cX2_init 105 = .ok (.aload_n 0, 1) := by decide +kernel
theorem dX2_init_106 : decode cX2_init 106 = .ok (.bipush 12, 2) := by decide +kernel
theorem dX2_init_108 : decode cX2_init 108 = .ok (.newarray .int, 2) := by decide +kernel
theorem dX2_init_110 : decode cX2_init 110 = .ok (.putfield 55, 3) := by decide +kernel
theorem dX2_init_113 : decode cX2_init 113 = .ok (.return_, 1) := by decide +kernel
theorem dX2_copyFrom_0 : decode cX2_copyFrom 0 = .ok (.aload_n 0, 1) := by decide +kernel
theorem dX2_copyFrom_1 : decode cX2_copyFrom 1 = .ok (.aload_n 1, 1) := by decide +kernel
theorem dX2_copyFrom_2 : decode cX2_copyFrom 2 = .ok (.getfield 9, 3) := by decide +kernel
theorem dX2_copyFrom_5 : decode cX2_copyFrom 5 = .ok (.putfield 9, 3) := by decide +kernel
theorem dX2_copyFrom_8 : decode cX2_copyFrom 8 = .ok (.aload_n 0, 1) := by decide +kernel
theorem dX2_copyFrom_9 : decode cX2_copyFrom 9 = .ok (.aload_n 1, 1) := by decide +kernel
theorem dX2_copyFrom_10 : decode cX2_copyFrom 10 = .ok (.getfield 15, 3) := by decide +kernel
theorem dX2_copyFrom_13 : decode cX2_copyFrom 13 = .ok (.putfield 15, 3) := by decide +kernel
theorem dX2_copyFrom_16 : decode cX2_copyFrom 16 = .ok (.aload_n 0, 1) := by decide +kernel
theorem dX2_copyFrom_17 : decode cX2_copyFrom 17 = .ok (.aload_n 1, 1) := by decide +kernel
theorem dX2_copyFrom_18 : decode cX2_copyFrom 18 = .ok (.getfield 18, 3) := by decide +kernel
theorem dX2_copyFrom_21 : decode cX2_copyFrom 21 = .ok (.putfield 18, 3) := by decide +kernel
theorem dX2_copyFrom_24 : decode cX2_copyFrom 24 = .ok (.aload_n 0, 1) := by decide +kernel
theorem dX2_copyFrom_25 : decode cX2_copyFrom 25 = .ok (.aload_n 1, 1) := by decide +kernel
theorem dX2_copyFrom_26 : decode cX2_copyFrom 26 = .ok (.getfield 21, 3) := by decide +kernel
theorem dX2_copyFrom_29 : decode cX2_copyFrom 29 = .ok (.putfield 21, 3) := by decide +kernel
theorem dX2_copyFrom_32 : decode cX2_copyFrom 32 = .ok (.aload_n 1, 1) := by decide +kernel
theorem dX2_copyFrom_33 : decode cX2_copyFrom 33 = .ok (.getfield 24, 3) := by decide +kernel
theorem dX2_copyFrom_36 : decode cX2_copyFrom 36 = .ok (.aload_n 0, 1) := by decide +kernel
theorem dX2_copyFrom_37 : decode cX2_copyFrom 37 = .ok (.getfield 24, 3) := by decide +kernel
theorem dX2_copyFrom_40 : decode cX2_copyFrom 40 = .ok (.bipush 7, 2) := by decide +kernel
theorem dX2_copyFrom_42 : decode cX2_copyFrom 42 = .ok (.invokestatic 58, 3) := by decide +kernel
theorem dX2_copyFrom_45 : decode cX2_copyFrom 45 = .ok (.aload_n 1, 1) := by decide +kernel
theorem dX2_copyFrom_46 : decode cX2_copyFrom 46 = .ok (.getfield 28, 3) := by decide +kernel
theorem dX2_copyFrom_49 : decode cX2_copyFrom 49 = .ok (.aload_n 0, 1) := by decide +kernel
theorem dX2_copyFrom_50 : decode cX2_copyFrom 50 = .ok (.getfield 28, 3) := by decide +kernel
theorem dX2_copyFrom_53 : decode cX2_copyFrom 53 = .ok (.bipush 7, 2) := by decide +kernel
theorem dX2_copyFrom_55 : decode cX2_copyFrom 55 = .ok (.invokestatic 58, 3) := by decide +kernel
theorem dX2_copyFrom_58 : decode cX2_copyFrom 58 = .ok (.aload_n 1, 1) := by decide +kernel
theorem dX2_copyFrom_59 : decode cX2_copyFrom 59 = .ok (.getfield 31, 3) := by decide +kernel
theorem dX2_copyFrom_62 : decode cX2_copyFrom 62 = .ok (.aload_n 0, 1) := by decide +kernel
theorem dX2_copyFrom_63 : decode cX2_copyFrom 63 = .ok (.getfield 31, 3) := by decide +kernel
theorem dX2_copyFrom_66 : decode cX2_copyFrom 66 = .ok (.bipush 7, 2) := by decide +kernel
theorem dX2_copyFrom_68 : decode cX2_copyFrom 68 = .ok (.invokestatic 58, 3) := by decide +kernel
theorem dX2_copyFrom_71 : decode cX2_copyFrom 71 = .ok (.aload_n 1, 1) := by decide +kernel
theorem dX2_copyFrom_72 : decode cX2_copyFrom 72 = .ok (.getfield 34, 3) := by decide +kernel
theorem dX2_copyFrom_75 : decode cX2_copyFrom 75 = .ok (.aload_n 0, 1) := by decide +kernel
theorem dX2_copyFrom_76 : decode cX2_copyFrom 76 = .ok (.getfield 34, 3) := by decide +kernel
theorem dX2_copyFrom_79 : decode cX2_copyFrom 79 = .ok (.bipush 7, 2) := by decide +kernel
theorem dX2_copyFrom_81 : decode cX2_copyFrom 81 = .ok (.invokestatic 58, 3) := by decide +kernel
theorem dX2_copyFrom_84 : decode cX2_copyFrom 84 = .ok (.aload_n 1, 1) := by decide +kernel
theorem dX2_copyFrom_85 : decode cX2_copyFrom 85 = .ok (.getfield 37, 3) := by decide +kernel
theorem dX2_copyFrom_88 : decode cX2_copyFrom 88 = .ok (.aload_n 0, 1) := by decide +kernel
theorem dX2_copyFrom_89 : decode cX2_copyFrom 89 = .ok (.getfield 37, 3) := by decide +kernel
theorem dX2_copyFrom_92 : decode cX2_copyFrom 92 = .ok (.bipush 84, 2) := by decide +kernel
theorem dX2_copyFrom_94 : decode cX2_copyFrom 94 = .ok (.invokestatic 58, 3) := by decide +kernel
theorem dX2_copyFrom_97 : decode cX2_copyFrom 97 = .ok (.aload_n 1, 1) := by decide +kernel
theorem dX2_copyFrom_98 : decode cX2_copyFrom 98 = .ok (.getfield 40, 3) := by decide +kernel
theorem dX2_copyFrom_101 : decode cX2_copyFrom 101 = .ok (.aload_n 0, 1) := by decide +kernel
theorem dX2_copyFrom_102 : decode cX2_copyFrom 102 = .ok (.getfield 40, 3) := by decide +kernel
theorem dX2_copyFrom_105 : decode cX2_copyFrom 105 = .ok (.bipush 84, 2) := by decide +kernel
theorem dX2_copyFrom_107 : decode cX2_copyFrom 107 = .ok (.invokestatic 58, 3) := by decide +kernel
theorem dX2_copyFrom_110 : decode cX2_copyFrom 110 = .ok (.aload_n 1, 1) := by decide +kernel
theorem dX2_copyFrom_111 : decode cX2_copyFrom 111 = .ok (.getfield 43, 3) := by decide +kernel
theorem dX2_copyFrom_114 : decode cX2_copyFrom 114 = .ok (.aload_n 0, 1) := by decide +kernel
theorem dX2_copyFrom_115 : decode cX2_copyFrom 115 = .ok (.getfield 43, 3) := by decide +kernel
theorem dX2_copyFrom_118 : decode cX2_copyFrom 118 = .ok (.bipush 84, 2) := by decide +kernel
theorem dX2_copyFrom_120 : decode cX2_copyFrom 120 = .ok (.invokestatic 58, 3) := by decide +kernel
theorem dX2_copyFrom_123 : decode cX2_copyFrom 123 = .ok (.aload_n 1, 1) := by decide +kernel
theorem dX2_copyFrom_124 : decode cX2_copyFrom 124 = .ok (.getfield 46, 3) := by decide +kernel
theorem dX2_copyFrom_127 : decode cX2_copyFrom 127 = .ok (.aload_n 0, 1) := by decide +kernel
theorem dX2_copyFrom_128 : decode cX2_copyFrom 128 = .ok (.getfield 46, 3) := by decide +kernel
theorem dX2_copyFrom_131 : decode cX2_copyFrom 131 = .ok (.bipush 84, 2) := by decide +kernel
theorem dX2_copyFrom_133 : decode cX2_copyFrom 133 = .ok (.invokestatic 58, 3) := by decide +kernel
theorem dX2_copyFrom_136 : decode cX2_copyFrom 136 = .ok (.aload_n 1, 1) := by decide +kernel
theorem dX2_copyFrom_137 : decode cX2_copyFrom 137 = .ok (.getfield 49, 3) := by decide +kernel
theorem dX2_copyFrom_140 : decode cX2_copyFrom 140 = .ok (.aload_n 0, 1) := by decide +kernel
theorem dX2_copyFrom_141 : decode cX2_copyFrom 141 = .ok (.getfield 49, 3) := by decide +kernel
theorem dX2_copyFrom_144 : decode cX2_copyFrom 144 = .ok (.bipush 84, 2) := by decide +kernel
theorem dX2_copyFrom_146 : decode cX2_copyFrom 146 = .ok (.invokestatic 58, 3) := by decide +kernel
theorem dX2_copyFrom_149 : decode cX2_copyFrom 149 = .ok (.aload_n 1, 1) := by decide +kernel
theorem dX2_copyFrom_150 : decode cX2_copyFrom 150 = .ok (.getfield 52, 3) := by decide +kernel
theorem dX2_copyFrom_153 : decode cX2_copyFrom 153 = .ok (.aload_n 0, 1) := by decide +kernel
theorem dX2_copyFrom_154 : decode cX2_copyFrom 154 = .ok (.getfield 52, 3) := by decide +kernel
theorem dX2_copyFrom_157 : decode cX2_copyFrom 157 = .ok (.bipush 84, 2) := by decide +kernel
theorem dX2_copyFrom_159 : decode cX2_copyFrom 159 = .ok (.invokestatic 58, 3) := by decide +kernel
theorem dX2_copyFrom_162 : decode cX2_copyFrom 162 = .ok (.aload_n 1, 1) := by decide +kernel
theorem dX2_copyFrom_163 : decode cX2_copyFrom 163 = .ok (.getfield 55, 3) := by decide +kernel
theorem dX2_copyFrom_166 : decode cX2_copyFrom 166 = .ok (.aload_n 0, 1) := by decide +kernel
theorem dX2_copyFrom_167 : decode cX2_copyFrom 167 = .ok (.getfield 55, 3) := by decide +kernel
theorem dX2_copyFrom_170 : decode cX2_copyFrom 170 = .ok (.bipush 12, 2) := by decide +kernel
theorem dX2_copyFrom_172 : decode cX2_copyFrom 172 = .ok (.invokestatic 58, 3) := by decide +kernel
theorem dX2_copyFrom_175 : decode cX2_copyFrom 175 = .ok (.return_, 1) := by decide +kernel
theorem dX2_copyRow_0 : decode cX2_copyRow 0 = .ok (.aload_n 0, 1) := by decide +kernel
theorem dX2_copyRow_1 : decode cX2_copyRow 1 = .ok (.iconst 0, 1) := by decide +kernel
theorem dX2_copyRow_2 : decode cX2_copyRow 2 = .ok (.aload_n 1, 1) := by decide +kernel
theorem dX2_copyRow_3 : decode cX2_copyRow 3 = .ok (.iconst 0, 1) := by decide +kernel
theorem dX2_copyRow_4 : decode cX2_copyRow 4 = .ok (.iload_n 2, 1) := by decide +kernel
theorem dX2_copyRow_5 : decode cX2_copyRow 5 = .ok (.invokestatic 62, 3) := by decide +kernel
theorem dX2_copyRow_8 : decode cX2_copyRow 8 = .ok (.return_, 1) := by decide +kernel
theorem dX2_has_0 : decode cX2_has 0 = .ok (.iload_n 1, 1) := by decide +kernel
theorem dX2_has_1 : decode cX2_has 1 = .ok (.ifCond .lt 15, 3) := by decide +kernel
theorem dX2_has_4 : decode cX2_has 4 = .ok (.iload_n 1, 1) := by decide +kernel
theorem dX2_has_5 : decode cX2_has 5 = .ok (.aload_n 0, 1) := by decide +kernel
theorem dX2_has_6 : decode cX2_has 6 = .ok (.getfield 9, 3) := by decide +kernel
theorem dX2_has_9 : decode cX2_has 9 = .ok (.if_icmp .ge 7, 3) := by decide +kernel
theorem dX2_has_12 : decode cX2_has 12 = .ok (.iconst 1, 1) := by decide +kernel
theorem dX2_has_13 : decode cX2_has 13 = .ok (.goto 4, 3) := by decide +kernel
theorem dX2_has_16 : decode cX2_has 16 = .ok (.iconst 0, 1) := by decide +kernel
theorem dX2_has_17 : decode cX2_has 17 = .ok (.ireturn, 1) := by decide +kernel
theorem dX2_areTwo_0 : decode cX2_areTwo 0 = .ok (.aload_n 0, 1) := by decide +kernel
theorem dX2_areTwo_1 : decode cX2_areTwo 1 = .ok (.iload_n 1, 1) := by decide +kernel
theorem dX2_areTwo_2 : decode cX2_areTwo 2 = .ok (.invokevirtual 68, 3) := by decide +kernel
theorem dX2_areTwo_5 : decode cX2_areTwo 5 = .ok (.ifCond .eq 20, 3) := by decide +kernel
theorem dX2_areTwo_8 : decode cX2_areTwo 8 = .ok (.aload_n 0, 1) := by decide +kernel
theorem dX2_areTwo_9 : decode cX2_areTwo 9 = .ok (.iload_n 2, 1) := by decide +kernel
theorem dX2_areTwo_10 : decode cX2_areTwo 10 = .ok (.invokevirtual 68, 3) := by decide +kernel
theorem dX2_areTwo_13 : decode cX2_areTwo 13 = .ok (.ifCond .eq 12, 3) := by decide +kernel
theorem dX2_areTwo_16 : decode cX2_areTwo 16 = .ok (.iload_n 1, 1) := by decide +kernel
theorem dX2_areTwo_17 : decode cX2_areTwo 17 = .ok (.iload_n 2, 1) := by decide +kernel
theorem dX2_areTwo_18 : decode cX2_areTwo 18 = .ok (.if_icmp .eq 7, 3) := by decide +kernel
theorem dX2_areTwo_21 : decode cX2_areTwo 21 = .ok (.iconst 1, 1) := by decide +kernel
theorem dX2_areTwo_22 : decode cX2_areTwo 22 = .ok (.goto 4, 3) := by decide +kernel
theorem dX2_areTwo_25 : decode cX2_areTwo 25 = .ok (.iconst 0, 1) := by decide +kernel
theorem dX2_areTwo_26 : decode cX2_areTwo 26 = .ok (.ireturn, 1) := by decide +kernel
theorem dX2_isAwake_0 : decode cX2_isAwake 0 = .ok (.aload_n 0, 1) := by decide +kernel
theorem dX2_isAwake_1 : decode cX2_isAwake 1 = .ok (.iload_n 1, 1) := by decide +kernel
theorem dX2_isAwake_2 : decode cX2_isAwake 2 = .ok (.invokevirtual 68, 3) := by decide +kernel
theorem dX2_isAwake_5 : decode cX2_isAwake 5 = .ok (.ifCond .eq 16, 3) := by decide +kernel
theorem dX2_isAwake_8 : decode cX2_isAwake 8 = .ok (.aload_n 0, 1) := by decide +kernel
theorem dX2_isAwake_9 : decode cX2_isAwake 9 = .ok (.getfield 24, 3) := by decide +kernel
theorem dX2_isAwake_12 : decode cX2_isAwake 12 = .ok (.iload_n 1, 1) := by decide +kernel
theorem dX2_isAwake_13 : decode cX2_isAwake 13 = .ok (.iaload, 1) := by decide +kernel
theorem dX2_isAwake_14 : decode cX2_isAwake 14 = .ok (.ifCond .ne 7, 3) := by decide +kernel
theorem dX2_isAwake_17 : decode cX2_isAwake 17 = .ok (.iconst 1, 1) := by decide +kernel
theorem dX2_isAwake_18 : decode cX2_isAwake 18 = .ok (.goto 4, 3) := by decide +kernel
theorem dX2_isAwake_21 : decode cX2_isAwake 21 = .ok (.iconst 0, 1) := by decide +kernel
theorem dX2_isAwake_22 : decode cX2_isAwake 22 = .ok (.ireturn, 1) := by decide +kernel
theorem dX2_isAsleep_0 : decode cX2_isAsleep 0 = .ok (.aload_n 0, 1) := by decide +kernel
theorem dX2_isAsleep_1 : decode cX2_isAsleep 1 = .ok (.iload_n 1, 1) := by decide +kernel
theorem dX2_isAsleep_2 : decode cX2_isAsleep 2 = .ok (.invokevirtual 68, 3) := by decide +kernel
theorem dX2_isAsleep_5 : decode cX2_isAsleep 5 = .ok (.ifCond .eq 17, 3) := by decide +kernel
theorem dX2_isAsleep_8 : decode cX2_isAsleep 8 = .ok (.aload_n 0, 1) := by decide +kernel
theorem dX2_isAsleep_9 : decode cX2_isAsleep 9 = .ok (.getfield 24, 3) := by decide +kernel
theorem dX2_isAsleep_12 : decode cX2_isAsleep 12 = .ok (.iload_n 1, 1) := by decide +kernel
theorem dX2_isAsleep_13 : decode cX2_isAsleep 13 = .ok (.iaload, 1) := by decide +kernel
theorem dX2_isAsleep_14 : decode cX2_isAsleep 14 = .ok (.iconst 1, 1) := by decide +kernel
theorem dX2_isAsleep_15 : decode cX2_isAsleep 15 = .ok (.if_icmp .ne 7, 3) := by decide +kernel
theorem dX2_isAsleep_18 : decode cX2_isAsleep 18 = .ok (.iconst 1, 1) := by decide +kernel
theorem dX2_isAsleep_19 : decode cX2_isAsleep 19 = .ok (.goto 4, 3) := by decide +kernel
theorem dX2_isAsleep_22 : decode cX2_isAsleep 22 = .ok (.iconst 0, 1) := by decide +kernel
theorem dX2_isAsleep_23 : decode cX2_isAsleep 23 = .ok (.ireturn, 1) := by decide +kernel
theorem dX2_ticksAsleep_0 : decode cX2_ticksAsleep 0 = .ok (.aload_n 0, 1) := by decide +kernel
theorem dX2_ticksAsleep_1 : decode cX2_ticksAsleep 1 = .ok (.getfield 15, 3) := by decide +kernel
theorem dX2_ticksAsleep_4 : decode cX2_ticksAsleep 4 = .ok (.aload_n 0, 1) := by decide +kernel
theorem dX2_ticksAsleep_5 : decode cX2_ticksAsleep 5 = .ok (.getfield 31, 3) := by decide +kernel
theorem dX2_ticksAsleep_8 : decode cX2_ticksAsleep 8 = .ok (.iload_n 1, 1) := by decide +kernel
theorem dX2_ticksAsleep_9 : decode cX2_ticksAsleep 9 = .ok (.iaload, 1) := by decide +kernel
theorem dX2_ticksAsleep_10 : decode cX2_ticksAsleep 10 = .ok (.isub, 1) := by decide +kernel
theorem dX2_ticksAsleep_11 : decode cX2_ticksAsleep 11 = .ok (.ireturn, 1) := by decide +kernel
theorem dX2_howMany_0 : decode cX2_howMany 0 = .ok (.iconst 0, 1) := by decide +kernel
theorem dX2_howMany_1 : decode cX2_howMany 1 = .ok (.istore_n 2, 1) := by decide +kernel
theorem dX2_howMany_2 : decode cX2_howMany 2 = .ok (.iconst 0, 1) := by decide +kernel
theorem dX2_howMany_3 : decode cX2_howMany 3 = .ok (.istore_n 3, 1) := by decide +kernel
theorem dX2_howMany_4 : decode cX2_howMany 4 = .ok (.iload_n 3, 1) := by decide +kernel
theorem dX2_howMany_5 : decode cX2_howMany 5 = .ok (.aload_n 0, 1) := by decide +kernel
theorem dX2_howMany_6 : decode cX2_howMany 6 = .ok (.getfield 9, 3) := by decide +kernel
theorem dX2_howMany_9 : decode cX2_howMany 9 = .ok (.if_icmp .ge 22, 3) := by decide +kernel
theorem dX2_howMany_12 : decode cX2_howMany 12 = .ok (.aload_n 0, 1) := by decide +kernel
theorem dX2_howMany_13 : decode cX2_howMany 13 = .ok (.getfield 24, 3) := by decide +kernel
theorem dX2_howMany_16 : decode cX2_howMany 16 = .ok (.iload_n 3, 1) := by decide +kernel
theorem dX2_howMany_17 : decode cX2_howMany 17 = .ok (.iaload, 1) := by decide +kernel
theorem dX2_howMany_18 : decode cX2_howMany 18 = .ok (.iload_n 1, 1) := by decide +kernel
theorem dX2_howMany_19 : decode cX2_howMany 19 = .ok (.if_icmp .ne 6, 3) := by decide +kernel
theorem dX2_howMany_22 : decode cX2_howMany 22 = .ok (.iinc 2 1, 3) := by decide +kernel
theorem dX2_howMany_25 : decode cX2_howMany 25 = .ok (.iinc 3 1, 3) := by decide +kernel
theorem dX2_howMany_28 : decode cX2_howMany 28 = .ok (.goto (-24), 3) := by decide +kernel
theorem dX2_howMany_31 : decode cX2_howMany 31 = .ok (.iload_n 2, 1) := by decide +kernel
theorem dX2_howMany_32 : decode cX2_howMany 32 = .ok (.ireturn, 1) := by decide +kernel
theorem dX2_allGhosts_0 : decode cX2_allGhosts 0 = .ok (.iconst 0, 1) := by decide +kernel
theorem dX2_allGhosts_1 : decode cX2_allGhosts 1 = .ok (.istore_n 1, 1) := by decide +kernel
theorem dX2_allGhosts_2 : decode cX2_allGhosts 2 = .ok (.iconst 0, 1) := by decide +kernel
theorem dX2_allGhosts_3 : decode cX2_allGhosts 3 = .ok (.istore_n 2, 1) := by decide +kernel
theorem dX2_allGhosts_4 : decode cX2_allGhosts 4 = .ok (.iload_n 2, 1) := by decide +kernel
theorem dX2_allGhosts_5 : decode cX2_allGhosts 5 = .ok (.aload_n 0, 1) := by decide +kernel
theorem dX2_allGhosts_6 : decode cX2_allGhosts 6 = .ok (.getfield 9, 3) := by decide +kernel
theorem dX2_allGhosts_9 : decode cX2_allGhosts 9 = .ok (.if_icmp .ge 18, 3) := by decide +kernel
theorem dX2_allGhosts_12 : decode cX2_allGhosts 12 = .ok (.iload_n 1, 1) := by decide +kernel
theorem dX2_allGhosts_13 : decode cX2_allGhosts 13 = .ok (.aload_n 0, 1) := by decide +kernel
theorem dX2_allGhosts_14 : decode cX2_allGhosts 14 = .ok (.getfield 34, 3) := by decide +kernel
theorem dX2_allGhosts_17 : decode cX2_allGhosts 17 = .ok (.iload_n 2, 1) := by decide +kernel
theorem dX2_allGhosts_18 : decode cX2_allGhosts 18 = .ok (.iaload, 1) := by decide +kernel
theorem dX2_allGhosts_19 : decode cX2_allGhosts 19 = .ok (.iadd, 1) := by decide +kernel
theorem dX2_allGhosts_20 : decode cX2_allGhosts 20 = .ok (.istore_n 1, 1) := by decide +kernel
theorem dX2_allGhosts_21 : decode cX2_allGhosts 21 = .ok (.iinc 2 1, 3) := by decide +kernel
theorem dX2_allGhosts_24 : decode cX2_allGhosts 24 = .ok (.goto (-20), 3) := by decide +kernel
theorem dX2_allGhosts_27 : decode cX2_allGhosts 27 = .ok (.iload_n 1, 1) := by decide +kernel
theorem dX2_allGhosts_28 : decode cX2_allGhosts 28 = .ok (.ireturn, 1) := by decide +kernel
theorem dX2_addVillager_0 : decode cX2_addVillager 0 = .ok (.aload_n 0, 1) := by decide +kernel
theorem dX2_addVillager_1 : decode cX2_addVillager 1 = .ok (.getfield 9, 3) := by decide +kernel
theorem dX2_addVillager_4 : decode cX2_addVillager 4 = .ok (.bipush 7, 2) := by decide +kernel
theorem dX2_addVillager_6 : decode cX2_addVillager 6 = .ok (.if_icmp .lt 6, 3) := by decide +kernel
theorem dX2_addVillager_9 : decode cX2_addVillager 9 = .ok (.ldc 72, 2) := by decide +kernel
theorem dX2_addVillager_11 : decode cX2_addVillager 11 = .ok (.ireturn, 1) := by decide +kernel
theorem dX2_addVillager_12 : decode cX2_addVillager 12 = .ok (.aload_n 0, 1) := by decide +kernel
theorem dX2_addVillager_13 : decode cX2_addVillager 13 = .ok (.dup, 1) := by decide +kernel
theorem dX2_addVillager_14 : decode cX2_addVillager 14 = .ok (.getfield 9, 3) := by decide +kernel
theorem dX2_addVillager_17 : decode cX2_addVillager 17 = .ok (.iconst 1, 1) := by decide +kernel
theorem dX2_addVillager_18 : decode cX2_addVillager 18 = .ok (.iadd, 1) := by decide +kernel
theorem dX2_addVillager_19 : decode cX2_addVillager 19 = .ok (.putfield 9, 3) := by decide +kernel
theorem dX2_addVillager_22 : decode cX2_addVillager 22 = .ok (.aload_n 0, 1) := by decide +kernel
theorem dX2_addVillager_23 : decode cX2_addVillager 23 = .ok (.getfield 9, 3) := by decide +kernel
theorem dX2_addVillager_26 : decode cX2_addVillager 26 = .ok (.iconst 1, 1) := by decide +kernel
theorem dX2_addVillager_27 : decode cX2_addVillager 27 = .ok (.isub, 1) := by decide +kernel
theorem dX2_addVillager_28 : decode cX2_addVillager 28 = .ok (.ireturn, 1) := by decide +kernel
theorem dX2_fallAsleep_0 : decode cX2_fallAsleep 0 = .ok (.aload_n 0, 1) := by decide +kernel
theorem dX2_fallAsleep_1 : decode cX2_fallAsleep 1 = .ok (.iload_n 1, 1) := by decide +kernel
theorem dX2_fallAsleep_2 : decode cX2_fallAsleep 2 = .ok (.invokevirtual 68, 3) := by decide +kernel
theorem dX2_fallAsleep_5 : decode cX2_fallAsleep 5 = .ok (.ifCond .ne 6, 3) := by decide +kernel
theorem dX2_fallAsleep_8 : decode cX2_fallAsleep 8 = .ok (.ldc 73, 2) := by decide +kernel
theorem dX2_fallAsleep_10 : decode cX2_fallAsleep 10 = .ok (.ireturn, 1) := by decide +kernel
theorem dX2_fallAsleep_11 : decode cX2_fallAsleep 11 = .ok (.aload_n 0, 1) := by decide +kernel
theorem dX2_fallAsleep_12 : decode cX2_fallAsleep 12 = .ok (.iload_n 1, 1) := by decide +kernel
theorem dX2_fallAsleep_13 : decode cX2_fallAsleep 13 = .ok (.invokevirtual 74, 3) := by decide +kernel
theorem dX2_fallAsleep_16 : decode cX2_fallAsleep 16 = .ok (.ifCond .ne 6, 3) := by decide +kernel
theorem dX2_fallAsleep_19 : decode cX2_fallAsleep 19 = .ok (.ldc 77, 2) := by decide +kernel
theorem dX2_fallAsleep_21 : decode cX2_fallAsleep 21 = .ok (.ireturn, 1) := by decide +kernel
theorem dX2_fallAsleep_22 : decode cX2_fallAsleep 22 = .ok (.aload_n 0, 1) := by decide +kernel
theorem dX2_fallAsleep_23 : decode cX2_fallAsleep 23 = .ok (.getfield 24, 3) := by decide +kernel
theorem dX2_fallAsleep_26 : decode cX2_fallAsleep 26 = .ok (.iload_n 1, 1) := by decide +kernel
theorem dX2_fallAsleep_27 : decode cX2_fallAsleep 27 = .ok (.iconst 1, 1) := by decide +kernel
theorem dX2_fallAsleep_28 : decode cX2_fallAsleep 28 = .ok (.iastore, 1) := by decide +kernel
theorem dX2_fallAsleep_29 : decode cX2_fallAsleep 29 = .ok (.aload_n 0, 1) := by decide +kernel
theorem dX2_fallAsleep_30 : decode cX2_fallAsleep 30 = .ok (.getfield 31, 3) := by decide +kernel
theorem dX2_fallAsleep_33 : decode cX2_fallAsleep 33 = .ok (.iload_n 1, 1) := by decide +kernel
theorem dX2_fallAsleep_34 : decode cX2_fallAsleep 34 = .ok (.aload_n 0, 1) := by decide +kernel
theorem dX2_fallAsleep_35 : decode cX2_fallAsleep 35 = .ok (.getfield 15, 3) := by decide +kernel
theorem dX2_fallAsleep_38 : decode cX2_fallAsleep 38 = .ok (.iastore, 1) := by decide +kernel
theorem dX2_fallAsleep_39 : decode cX2_fallAsleep 39 = .ok (.aload_n 0, 1) := by decide +kernel
theorem dX2_fallAsleep_40 : decode cX2_fallAsleep 40 = .ok (.iconst 0, 1) := by decide +kernel
theorem dX2_fallAsleep_41 : decode cX2_fallAsleep 41 = .ok (.invokevirtual 78, 3) := by decide +kernel
theorem dX2_fallAsleep_44 : decode cX2_fallAsleep 44 = .ok (.ireturn, 1) := by decide +kernel
theorem dX2_wakeUp_0 : decode cX2_wakeUp 0 = .ok (.aload_n 0, 1) := by decide +kernel
theorem dX2_wakeUp_1 : decode cX2_wakeUp 1 = .ok (.iload_n 1, 1) := by decide +kernel
theorem dX2_wakeUp_2 : decode cX2_wakeUp 2 = .ok (.invokevirtual 68, 3) := by decide +kernel
theorem dX2_wakeUp_5 : decode cX2_wakeUp 5 = .ok (.ifCond .ne 6, 3) := by decide +kernel
theorem dX2_wakeUp_8 : decode cX2_wakeUp 8 = .ok (.ldc 73, 2) := by decide +kernel
theorem dX2_wakeUp_10 : decode cX2_wakeUp 10 = .ok (.ireturn, 1) := by decide +kernel
theorem dX2_wakeUp_11 : decode cX2_wakeUp 11 = .ok (.aload_n 0, 1) := by decide +kernel
theorem dX2_wakeUp_12 : decode cX2_wakeUp 12 = .ok (.iload_n 1, 1) := by decide +kernel
theorem dX2_wakeUp_13 : decode cX2_wakeUp 13 = .ok (.invokevirtual 82, 3) := by decide +kernel
theorem dX2_wakeUp_16 : decode cX2_wakeUp 16 = .ok (.ifCond .ne 6, 3) := by decide +kernel
theorem dX2_wakeUp_19 : decode cX2_wakeUp 19 = .ok (.ldc 77, 2) := by decide +kernel
theorem dX2_wakeUp_21 : decode cX2_wakeUp 21 = .ok (.ireturn, 1) := by decide +kernel
theorem dX2_wakeUp_22 : decode cX2_wakeUp 22 = .ok (.aload_n 0, 1) := by decide +kernel
theorem dX2_wakeUp_23 : decode cX2_wakeUp 23 = .ok (.getfield 24, 3) := by decide +kernel
theorem dX2_wakeUp_26 : decode cX2_wakeUp 26 = .ok (.iload_n 1, 1) := by decide +kernel
theorem dX2_wakeUp_27 : decode cX2_wakeUp 27 = .ok (.iconst 0, 1) := by decide +kernel
theorem dX2_wakeUp_28 : decode cX2_wakeUp 28 = .ok (.iastore, 1) := by decide +kernel
theorem dX2_wakeUp_29 : decode cX2_wakeUp 29 = .ok (.aload_n 0, 1) := by decide +kernel
theorem dX2_wakeUp_30 : decode cX2_wakeUp 30 = .ok (.iload_n 1, 1) := by decide +kernel
theorem dX2_wakeUp_31 : decode cX2_wakeUp 31 = .ok (.invokevirtual 85, 3) := by decide +kernel
theorem dX2_wakeUp_34 : decode cX2_wakeUp 34 = .ok (.ireturn, 1) := by decide +kernel
theorem dX2_goAway_0 : decode cX2_goAway 0 = .ok (.aload_n 0, 1) := by decide +kernel
theorem dX2_goAway_1 : decode cX2_goAway 1 = .ok (.iload_n 1, 1) := by decide +kernel
theorem dX2_goAway_2 : decode cX2_goAway 2 = .ok (.invokevirtual 68, 3) := by decide +kernel
theorem dX2_goAway_5 : decode cX2_goAway 5 = .ok (.ifCond .ne 6, 3) := by decide +kernel
theorem dX2_goAway_8 : decode cX2_goAway 8 = .ok (.ldc 73, 2) := by decide +kernel
theorem dX2_goAway_10 : decode cX2_goAway 10 = .ok (.ireturn, 1) := by decide +kernel
theorem dX2_goAway_11 : decode cX2_goAway 11 = .ok (.aload_n 0, 1) := by decide +kernel
theorem dX2_goAway_12 : decode cX2_goAway 12 = .ok (.getfield 24, 3) := by decide +kernel
theorem dX2_goAway_15 : decode cX2_goAway 15 = .ok (.iload_n 1, 1) := by decide +kernel
theorem dX2_goAway_16 : decode cX2_goAway 16 = .ok (.iaload, 1) := by decide +kernel
theorem dX2_goAway_17 : decode cX2_goAway 17 = .ok (.iconst 2, 1) := by decide +kernel
theorem dX2_goAway_18 : decode cX2_goAway 18 = .ok (.if_icmp .ne 6, 3) := by decide +kernel
theorem dX2_goAway_21 : decode cX2_goAway 21 = .ok (.ldc 77, 2) := by decide +kernel
theorem dX2_goAway_23 : decode cX2_goAway 23 = .ok (.ireturn, 1) := by decide +kernel
theorem dX2_goAway_24 : decode cX2_goAway 24 = .ok (.aload_n 0, 1) := by decide +kernel
theorem dX2_goAway_25 : decode cX2_goAway 25 = .ok (.getfield 24, 3) := by decide +kernel
theorem dX2_goAway_28 : decode cX2_goAway 28 = .ok (.iload_n 1, 1) := by decide +kernel
theorem dX2_goAway_29 : decode cX2_goAway 29 = .ok (.iconst 2, 1) := by decide +kernel
theorem dX2_goAway_30 : decode cX2_goAway 30 = .ok (.iastore, 1) := by decide +kernel
theorem dX2_goAway_31 : decode cX2_goAway 31 = .ok (.iconst 0, 1) := by decide +kernel
theorem dX2_goAway_32 : decode cX2_goAway 32 = .ok (.istore_n 2, 1) := by decide +kernel
theorem dX2_goAway_33 : decode cX2_goAway 33 = .ok (.iload_n 2, 1) := by decide +kernel
theorem dX2_goAway_34 : decode cX2_goAway 34 = .ok (.bipush 12, 2) := by decide +kernel
theorem dX2_goAway_36 : decode cX2_goAway 36 = .ok (.if_icmp .ge 20, 3) := by decide +kernel
theorem dX2_goAway_39 : decode cX2_goAway 39 = .ok (.aload_n 0, 1) := by decide +kernel
theorem dX2_goAway_40 : decode cX2_goAway 40 = .ok (.getfield 37, 3) := by decide +kernel
theorem dX2_goAway_43 : decode cX2_goAway 43 = .ok (.iload_n 1, 1) := by decide +kernel
theorem dX2_goAway_44 : decode cX2_goAway 44 = .ok (.iload_n 2, 1) := by decide +kernel
theorem dX2_goAway_45 : decode cX2_goAway 45 = .ok (.invokestatic 88, 3) := by decide +kernel
theorem dX2_goAway_48 : decode cX2_goAway 48 = .ok (.iconst 0, 1) := by decide +kernel
theorem dX2_goAway_49 : decode cX2_goAway 49 = .ok (.iastore, 1) := by decide +kernel
theorem dX2_goAway_50 : decode cX2_goAway 50 = .ok (.iinc 2 1, 3) := by decide +kernel
theorem dX2_goAway_53 : decode cX2_goAway 53 = .ok (.goto (-20), 3) := by decide +kernel
theorem dX2_goAway_56 : decode cX2_goAway 56 = .ok (.aload_n 0, 1) := by decide +kernel
theorem dX2_goAway_57 : decode cX2_goAway 57 = .ok (.iconst 0, 1) := by decide +kernel
theorem dX2_goAway_58 : decode cX2_goAway 58 = .ok (.invokevirtual 78, 3) := by decide +kernel
theorem dX2_goAway_61 : decode cX2_goAway 61 = .ok (.aload_n 0, 1) := by decide +kernel
theorem dX2_goAway_62 : decode cX2_goAway 62 = .ok (.iconst 1, 1) := by decide +kernel
theorem dX2_goAway_63 : decode cX2_goAway 63 = .ok (.invokevirtual 78, 3) := by decide +kernel
theorem dX2_goAway_66 : decode cX2_goAway 66 = .ok (.iadd, 1) := by decide +kernel
theorem dX2_goAway_67 : decode cX2_goAway 67 = .ok (.ireturn, 1) := by decide +kernel
theorem dX2_changeWatch_0 : decode cX2_changeWatch 0 = .ok (.iload_n 1, 1) := by decide +kernel
theorem dX2_changeWatch_1 : decode cX2_changeWatch 1 = .ok (.iconst 1, 1) := by decide +kernel
theorem dX2_changeWatch_2 : decode cX2_changeWatch 2 = .ok (.if_icmp .lt 9, 3) := by decide +kernel
theorem dX2_changeWatch_5 : decode cX2_changeWatch 5 = .ok (.iload_n 1, 1) := by decide +kernel
theorem dX2_changeWatch_6 : decode cX2_changeWatch 6 = .ok (.bipush 60, 2) := by decide +kernel
theorem dX2_changeWatch_8 : decode cX2_changeWatch 8 = .ok (.if_icmp .le 6, 3) := by decide +kernel
theorem dX2_changeWatch_11 : decode cX2_changeWatch 11 = .ok (.ldc 73, 2) := by decide +kernel
theorem dX2_changeWatch_13 : decode cX2_changeWatch 13 = .ok (.ireturn, 1) := by decide +kernel
theorem dX2_changeWatch_14 : decode cX2_changeWatch 14 = .ok (.aload_n 0, 1) := by decide +kernel
theorem dX2_changeWatch_15 : decode cX2_changeWatch 15 = .ok (.getfield 18, 3) := by decide +kernel
theorem dX2_changeWatch_18 : decode cX2_changeWatch 18 = .ok (.istore_n 2, 1) := by decide +kernel
theorem dX2_changeWatch_19 : decode cX2_changeWatch 19 = .ok (.aload_n 0, 1) := by decide +kernel
theorem dX2_changeWatch_20 : decode cX2_changeWatch 20 = .ok (.iload_n 1, 1) := by decide +kernel
theorem dX2_changeWatch_21 : decode cX2_changeWatch 21 = .ok (.putfield 18, 3) := by decide +kernel
theorem dX2_changeWatch_24 : decode cX2_changeWatch 24 = .ok (.iload_n 2, 1) := by decide +kernel
theorem dX2_changeWatch_25 : decode cX2_changeWatch 25 = .ok (.ireturn, 1) := by decide +kernel
theorem dX2_isTomb_0 : decode cX2_isTomb 0 = .ok (.aload_n 0, 1) := by decide +kernel
theorem dX2_isTomb_1 : decode cX2_isTomb 1 = .ok (.getfield 37, 3) := by decide +kernel
theorem dX2_isTomb_4 : decode cX2_isTomb 4 = .ok (.iload_n 1, 1) := by decide +kernel
theorem dX2_isTomb_5 : decode cX2_isTomb 5 = .ok (.iaload, 1) := by decide +kernel
theorem dX2_isTomb_6 : decode cX2_isTomb 6 = .ok (.ifCond .eq 17, 3) := by decide +kernel
theorem dX2_isTomb_9 : decode cX2_isTomb 9 = .ok (.aload_n 0, 1) := by decide +kernel
theorem dX2_isTomb_10 : decode cX2_isTomb 10 = .ok (.getfield 40, 3) := by decide +kernel
theorem dX2_isTomb_13 : decode cX2_isTomb 13 = .ok (.iload_n 1, 1) := by decide +kernel
theorem dX2_isTomb_14 : decode cX2_isTomb 14 = .ok (.iaload, 1) := by decide +kernel
theorem dX2_isTomb_15 : decode cX2_isTomb 15 = .ok (.iconst 3, 1) := by decide +kernel
theorem dX2_isTomb_16 : decode cX2_isTomb 16 = .ok (.if_icmp .ne 7, 3) := by decide +kernel
theorem dX2_isTomb_19 : decode cX2_isTomb 19 = .ok (.iconst 1, 1) := by decide +kernel
theorem dX2_isTomb_20 : decode cX2_isTomb 20 = .ok (.goto 4, 3) := by decide +kernel
theorem dX2_isTomb_23 : decode cX2_isTomb 23 = .ok (.iconst 0, 1) := by decide +kernel
theorem dX2_isTomb_24 : decode cX2_isTomb 24 = .ok (.ireturn, 1) := by decide +kernel
theorem dX2_isRumor_0 : decode cX2_isRumor 0 = .ok (.aload_n 0, 1) := by decide +kernel
theorem dX2_isRumor_1 : decode cX2_isRumor 1 = .ok (.getfield 37, 3) := by decide +kernel
theorem dX2_isRumor_4 : decode cX2_isRumor 4 = .ok (.iload_n 1, 1) := by decide +kernel
theorem dX2_isRumor_5 : decode cX2_isRumor 5 = .ok (.iaload, 1) := by decide +kernel
theorem dX2_isRumor_6 : decode cX2_isRumor 6 = .ok (.ifCond .eq 17, 3) := by decide +kernel
theorem dX2_isRumor_9 : decode cX2_isRumor 9 = .ok (.aload_n 0, 1) := by decide +kernel
theorem dX2_isRumor_10 : decode cX2_isRumor 10 = .ok (.getfield 40, 3) := by decide +kernel
theorem dX2_isRumor_13 : decode cX2_isRumor 13 = .ok (.iload_n 1, 1) := by decide +kernel
theorem dX2_isRumor_14 : decode cX2_isRumor 14 = .ok (.iaload, 1) := by decide +kernel
theorem dX2_isRumor_15 : decode cX2_isRumor 15 = .ok (.iconst 3, 1) := by decide +kernel
theorem dX2_isRumor_16 : decode cX2_isRumor 16 = .ok (.if_icmp .eq 7, 3) := by decide +kernel
theorem dX2_isRumor_19 : decode cX2_isRumor 19 = .ok (.iconst 1, 1) := by decide +kernel
theorem dX2_isRumor_20 : decode cX2_isRumor 20 = .ok (.goto 4, 3) := by decide +kernel
theorem dX2_isRumor_23 : decode cX2_isRumor 23 = .ok (.iconst 0, 1) := by decide +kernel
theorem dX2_isRumor_24 : decode cX2_isRumor 24 = .ok (.ireturn, 1) := by decide +kernel
theorem dX2_isDead_0 : decode cX2_isDead 0 = .ok (.iload_n 1, 1) := by decide +kernel
theorem dX2_isDead_1 : decode cX2_isDead 1 = .ok (.iload_n 2, 1) := by decide +kernel
theorem dX2_isDead_2 : decode cX2_isDead 2 = .ok (.invokestatic 88, 3) := by decide +kernel
theorem dX2_isDead_5 : decode cX2_isDead 5 = .ok (.istore_n 3, 1) := by decide +kernel
theorem dX2_isDead_6 : decode cX2_isDead 6 = .ok (.aload_n 0, 1) := by decide +kernel
theorem dX2_isDead_7 : decode cX2_isDead 7 = .ok (.iload_n 3, 1) := by decide +kernel
theorem dX2_isDead_8 : decode cX2_isDead 8 = .ok (.invokevirtual 92, 3) := by decide +kernel
theorem dX2_isDead_11 : decode cX2_isDead 11 = .ok (.ifCond .eq 22, 3) := by decide +kernel
theorem dX2_isDead_14 : decode cX2_isDead 14 = .ok (.aload_n 0, 1) := by decide +kernel
theorem dX2_isDead_15 : decode cX2_isDead 15 = .ok (.getfield 37, 3) := by decide +kernel
theorem dX2_isDead_18 : decode cX2_isDead 18 = .ok (.iload_n 3, 1) := by decide +kernel
theorem dX2_isDead_19 : decode cX2_isDead 19 = .ok (.iaload, 1) := by decide +kernel
theorem dX2_isDead_20 : decode cX2_isDead 20 = .ok (.aload_n 0, 1) := by decide +kernel
theorem dX2_isDead_21 : decode cX2_isDead 21 = .ok (.getfield 55, 3) := by decide +kernel
theorem dX2_isDead_24 : decode cX2_isDead 24 = .ok (.iload_n 2, 1) := by decide +kernel
theorem dX2_isDead_25 : decode cX2_isDead 25 = .ok (.iaload, 1) := by decide +kernel
theorem dX2_isDead_26 : decode cX2_isDead 26 = .ok (.if_icmp .ge 7, 3) := by decide +kernel
theorem dX2_isDead_29 : decode cX2_isDead 29 = .ok (.iconst 1, 1) := by decide +kernel
theorem dX2_isDead_30 : decode cX2_isDead 30 = .ok (.goto 4, 3) := by decide +kernel
theorem dX2_isDead_33 : decode cX2_isDead 33 = .ok (.iconst 0, 1) := by decide +kernel
theorem dX2_isDead_34 : decode cX2_isDead 34 = .ok (.ireturn, 1) := by decide +kernel
theorem dX2_author_0 : decode cX2_author 0 = .ok (.aload_n 0, 1) := by decide +kernel
theorem dX2_author_1 : decode cX2_author 1 = .ok (.getfield 37, 3) := by decide +kernel
theorem dX2_author_4 : decode cX2_author 4 = .ok (.iload_n 1, 1) := by decide +kernel
theorem dX2_author_5 : decode cX2_author 5 = .ok (.iaload, 1) := by decide +kernel
theorem dX2_author_6 : decode cX2_author 6 = .ok (.bipush 8, 2) := by decide +kernel
theorem dX2_author_8 : decode cX2_author 8 = .ok (.irem, 1) := by decide +kernel
theorem dX2_author_9 : decode cX2_author 9 = .ok (.ireturn, 1) := by decide +kernel
theorem dX2_rumorTopics_0 : decode cX2_rumorTopics 0 = .ok (.iconst 0, 1) := by decide +kernel
theorem dX2_rumorTopics_1 : decode cX2_rumorTopics 1 = .ok (.istore_n 2, 1) := by decide +kernel
theorem dX2_rumorTopics_2 : decode cX2_rumorTopics 2 = .ok (.iconst 0, 1) := by decide +kernel
theorem dX2_rumorTopics_3 : decode cX2_rumorTopics 3 = .ok (.istore_n 3, 1) := by decide +kernel
theorem dX2_rumorTopics_4 : decode cX2_rumorTopics 4 = .ok (.iload_n 3, 1) := by decide +kernel
theorem dX2_rumorTopics_5 : decode cX2_rumorTopics 5 = .ok (.bipush 12, 2) := by decide +kernel
theorem dX2_rumorTopics_7 : decode cX2_rumorTopics 7 = .ok (.if_icmp .ge 27, 3) := by decide +kernel
theorem dX2_rumorTopics_10 : decode cX2_rumorTopics 10 = .ok (.aload_n 0, 1) := by decide +kernel
theorem dX2_rumorTopics_11 : decode cX2_rumorTopics 11 = .ok (.iload_n 1, 1) := by decide +kernel
theorem dX2_rumorTopics_12 : decode cX2_rumorTopics 12 = .ok (.iload_n 3, 1) := by decide +kernel
theorem dX2_rumorTopics_13 : decode cX2_rumorTopics 13 = .ok (.invokestatic 88, 3) := by decide +kernel
theorem dX2_rumorTopics_16 : decode cX2_rumorTopics 16 = .ok (.invokevirtual 92, 3) := by decide +kernel
theorem dX2_rumorTopics_19 : decode cX2_rumorTopics 19 = .ok (.ifCond .eq 9, 3) := by decide +kernel
theorem dX2_rumorTopics_22 : decode cX2_rumorTopics 22 = .ok (.iload_n 2, 1) := by decide +kernel
theorem dX2_rumorTopics_23 : decode cX2_rumorTopics 23 = .ok (.iconst 1, 1) := by decide +kernel
theorem dX2_rumorTopics_24 : decode cX2_rumorTopics 24 = .ok (.iload_n 3, 1) := by decide +kernel
theorem dX2_rumorTopics_25 : decode cX2_rumorTopics 25 = .ok (.ishl, 1) := by decide +kernel
theorem dX2_rumorTopics_26 : decode cX2_rumorTopics 26 = .ok (.ior, 1) := by decide +kernel
theorem dX2_rumorTopics_27 : decode cX2_rumorTopics 27 = .ok (.istore_n 2, 1) := by decide +kernel
theorem dX2_rumorTopics_28 : decode cX2_rumorTopics 28 = .ok (.iinc 3 1, 3) := by decide +kernel
theorem dX2_rumorTopics_31 : decode cX2_rumorTopics 31 = .ok (.goto (-27), 3) := by decide +kernel
theorem dX2_rumorTopics_34 : decode cX2_rumorTopics 34 = .ok (.iload_n 2, 1) := by decide +kernel
theorem dX2_rumorTopics_35 : decode cX2_rumorTopics 35 = .ok (.ireturn, 1) := by decide +kernel
theorem dX2_tombTopics_0 : decode cX2_tombTopics 0 = .ok (.iconst 0, 1) := by decide +kernel
theorem dX2_tombTopics_1 : decode cX2_tombTopics 1 = .ok (.istore_n 2, 1) := by decide +kernel
theorem dX2_tombTopics_2 : decode cX2_tombTopics 2 = .ok (.iconst 0, 1) := by decide +kernel
theorem dX2_tombTopics_3 : decode cX2_tombTopics 3 = .ok (.istore_n 3, 1) := by decide +kernel
theorem dX2_tombTopics_4 : decode cX2_tombTopics 4 = .ok (.iload_n 3, 1) := by decide +kernel
theorem dX2_tombTopics_5 : decode cX2_tombTopics 5 = .ok (.bipush 12, 2) := by decide +kernel
theorem dX2_tombTopics_7 : decode cX2_tombTopics 7 = .ok (.if_icmp .ge 27, 3) := by decide +kernel
theorem dX2_tombTopics_10 : decode cX2_tombTopics 10 = .ok (.aload_n 0, 1) := by decide +kernel
theorem dX2_tombTopics_11 : decode cX2_tombTopics 11 = .ok (.iload_n 1, 1) := by decide +kernel
theorem dX2_tombTopics_12 : decode cX2_tombTopics 12 = .ok (.iload_n 3, 1) := by decide +kernel
theorem dX2_tombTopics_13 : decode cX2_tombTopics 13 = .ok (.invokestatic 88, 3) := by decide +kernel
theorem dX2_tombTopics_16 : decode cX2_tombTopics 16 = .ok (.invokevirtual 95, 3) := by decide +kernel
theorem dX2_tombTopics_19 : decode cX2_tombTopics 19 = .ok (.ifCond .eq 9, 3) := by decide +kernel
theorem dX2_tombTopics_22 : decode cX2_tombTopics 22 = .ok (.iload_n 2, 1) := by decide +kernel
theorem dX2_tombTopics_23 : decode cX2_tombTopics 23 = .ok (.iconst 1, 1) := by decide +kernel
theorem dX2_tombTopics_24 : decode cX2_tombTopics 24 = .ok (.iload_n 3, 1) := by decide +kernel
theorem dX2_tombTopics_25 : decode cX2_tombTopics 25 = .ok (.ishl, 1) := by decide +kernel
theorem dX2_tombTopics_26 : decode cX2_tombTopics 26 = .ok (.ior, 1) := by decide +kernel
theorem dX2_tombTopics_27 : decode cX2_tombTopics 27 = .ok (.istore_n 2, 1) := by decide +kernel
theorem dX2_tombTopics_28 : decode cX2_tombTopics 28 = .ok (.iinc 3 1, 3) := by decide +kernel
theorem dX2_tombTopics_31 : decode cX2_tombTopics 31 = .ok (.goto (-27), 3) := by decide +kernel
theorem dX2_tombTopics_34 : decode cX2_tombTopics 34 = .ok (.iload_n 2, 1) := by decide +kernel
theorem dX2_tombTopics_35 : decode cX2_tombTopics 35 = .ok (.ireturn, 1) := by decide +kernel
theorem dX2_deadTopics_0 : decode cX2_deadTopics 0 = .ok (.iconst 0, 1) := by decide +kernel
theorem dX2_deadTopics_1 : decode cX2_deadTopics 1 = .ok (.istore_n 2, 1) := by decide +kernel
theorem dX2_deadTopics_2 : decode cX2_deadTopics 2 = .ok (.iconst 0, 1) := by decide +kernel
theorem dX2_deadTopics_3 : decode cX2_deadTopics 3 = .ok (.istore_n 3, 1) := by decide +kernel
theorem dX2_deadTopics_4 : decode cX2_deadTopics 4 = .ok (.iload_n 3, 1) := by decide +kernel
theorem dX2_deadTopics_5 : decode cX2_deadTopics 5 = .ok (.bipush 12, 2) := by decide +kernel
theorem dX2_deadTopics_7 : decode cX2_deadTopics 7 = .ok (.if_icmp .ge 24, 3) := by decide +kernel
theorem dX2_deadTopics_10 : decode cX2_deadTopics 10 = .ok (.aload_n 0, 1) := by decide +kernel
theorem dX2_deadTopics_11 : decode cX2_deadTopics 11 = .ok (.iload_n 1, 1) := by decide +kernel
theorem dX2_deadTopics_12 : decode cX2_deadTopics 12 = .ok (.iload_n 3, 1) := by decide +kernel
theorem dX2_deadTopics_13 : decode cX2_deadTopics 13 = .ok (.invokevirtual 98, 3) := by decide +kernel
theorem dX2_deadTopics_16 : decode cX2_deadTopics 16 = .ok (.ifCond .eq 9, 3) := by decide +kernel
theorem dX2_deadTopics_19 : decode cX2_deadTopics 19 = .ok (.iload_n 2, 1) := by decide +kernel
theorem dX2_deadTopics_20 : decode cX2_deadTopics 20 = .ok (.iconst 1, 1) := by decide +kernel
theorem dX2_deadTopics_21 : decode cX2_deadTopics 21 = .ok (.iload_n 3, 1) := by decide +kernel
theorem dX2_deadTopics_22 : decode cX2_deadTopics 22 = .ok (.ishl, 1) := by decide +kernel
theorem dX2_deadTopics_23 : decode cX2_deadTopics 23 = .ok (.ior, 1) := by decide +kernel
theorem dX2_deadTopics_24 : decode cX2_deadTopics 24 = .ok (.istore_n 2, 1) := by decide +kernel
theorem dX2_deadTopics_25 : decode cX2_deadTopics 25 = .ok (.iinc 3 1, 3) := by decide +kernel
theorem dX2_deadTopics_28 : decode cX2_deadTopics 28 = .ok (.goto (-24), 3) := by decide +kernel
theorem dX2_deadTopics_31 : decode cX2_deadTopics 31 = .ok (.iload_n 2, 1) := by decide +kernel
theorem dX2_deadTopics_32 : decode cX2_deadTopics 32 = .ok (.ireturn, 1) := by decide +kernel
theorem dX2_unlikeTopics_0 : decode cX2_unlikeTopics 0 = .ok (.iconst 0, 1) := by decide +kernel
theorem dX2_unlikeTopics_1 : decode cX2_unlikeTopics 1 = .ok (.istore_n 3, 1) := by decide +kernel
theorem dX2_unlikeTopics_2 : decode cX2_unlikeTopics 2 = .ok (.iconst 0, 1) := by decide +kernel
theorem dX2_unlikeTopics_3 : decode cX2_unlikeTopics 3 = .ok (.istore 4, 2) := by decide +kernel
theorem dX2_unlikeTopics_5 : decode cX2_unlikeTopics 5 = .ok (.iload 4, 2) := by decide +kernel
theorem dX2_unlikeTopics_7 : decode cX2_unlikeTopics 7 = .ok (.bipush 12, 2) := by decide +kernel
theorem dX2_unlikeTopics_9 : decode cX2_unlikeTopics 9 = .ok (.if_icmp .ge 41, 3) := by decide +kernel
theorem dX2_unlikeTopics_12 : decode cX2_unlikeTopics 12 = .ok (.aload_n 0, 1) := by decide +kernel
theorem dX2_unlikeTopics_13 : decode cX2_unlikeTopics 13 = .ok (.getfield 37, 3) := by decide +kernel
theorem dX2_unlikeTopics_16 : decode cX2_unlikeTopics 16 = .ok (.iload_n 1, 1) := by decide +kernel
theorem dX2_unlikeTopics_17 : decode cX2_unlikeTopics 17 = .ok (.iload 4, 2) := by decide +kernel
theorem dX2_unlikeTopics_19 : decode cX2_unlikeTopics 19 = .ok (.invokestatic 88, 3) := by decide +kernel
theorem dX2_unlikeTopics_22 : decode cX2_unlikeTopics 22 = .ok (.iaload, 1) := by decide +kernel
theorem dX2_unlikeTopics_23 : decode cX2_unlikeTopics 23 = .ok (.aload_n 0, 1) := by decide +kernel
theorem dX2_unlikeTopics_24 : decode cX2_unlikeTopics 24 = .ok (.getfield 37, 3) := by decide +kernel
theorem dX2_unlikeTopics_27 : decode cX2_unlikeTopics 27 = .ok (.iload_n 2, 1) := by decide +kernel
theorem dX2_unlikeTopics_28 : decode cX2_unlikeTopics 28 = .ok (.iload 4, 2) := by decide +kernel
theorem dX2_unlikeTopics_30 : decode cX2_unlikeTopics 30 = .ok (.invokestatic 88, 3) := by decide +kernel
theorem dX2_unlikeTopics_33 : decode cX2_unlikeTopics 33 = .ok (.iaload, 1) := by decide +kernel
theorem dX2_unlikeTopics_34 : decode cX2_unlikeTopics 34 = .ok (.if_icmp .eq 10, 3) := by decide +kernel
theorem dX2_unlikeTopics_37 : decode cX2_unlikeTopics 37 = .ok (.iload_n 3, 1) := by decide +kernel
theorem dX2_unlikeTopics_38 : decode cX2_unlikeTopics 38 = .ok (.iconst 1, 1) := by decide +kernel
theorem dX2_unlikeTopics_39 : decode cX2_unlikeTopics 39 = .ok (.iload 4, 2) := by decide +kernel
theorem dX2_unlikeTopics_41 : decode cX2_unlikeTopics 41 = .ok (.ishl, 1) := by decide +kernel
theorem dX2_unlikeTopics_42 : decode cX2_unlikeTopics 42 = .ok (.ior, 1) := by decide +kernel
theorem dX2_unlikeTopics_43 : decode cX2_unlikeTopics 43 = .ok (.istore_n 3, 1) := by decide +kernel
theorem dX2_unlikeTopics_44 : decode cX2_unlikeTopics 44 = .ok (.iinc 4 1, 3) := by decide +kernel
theorem dX2_unlikeTopics_47 : decode cX2_unlikeTopics 47 = .ok (.goto (-42), 3) := by decide +kernel
theorem dX2_unlikeTopics_50 : decode cX2_unlikeTopics 50 = .ok (.iload_n 3, 1) := by decide +kernel
theorem dX2_unlikeTopics_51 : decode cX2_unlikeTopics 51 = .ok (.ireturn, 1) := by decide +kernel
theorem dX2_allRumors_0 : decode cX2_allRumors 0 = .ok (.iconst 0, 1) := by decide +kernel
theorem dX2_allRumors_1 : decode cX2_allRumors 1 = .ok (.istore_n 1, 1) := by decide +kernel
theorem dX2_allRumors_2 : decode cX2_allRumors 2 = .ok (.iconst 0, 1) := by decide +kernel
theorem dX2_allRumors_3 : decode cX2_allRumors 3 = .ok (.istore_n 2, 1) := by decide +kernel
theorem dX2_allRumors_4 : decode cX2_allRumors 4 = .ok (.iload_n 2, 1) := by decide +kernel
theorem dX2_allRumors_5 : decode cX2_allRumors 5 = .ok (.aload_n 0, 1) := by decide +kernel
theorem dX2_allRumors_6 : decode cX2_allRumors 6 = .ok (.getfield 9, 3) := by decide +kernel
theorem dX2_allRumors_9 : decode cX2_allRumors 9 = .ok (.if_icmp .ge 20, 3) := by decide +kernel
theorem dX2_allRumors_12 : decode cX2_allRumors 12 = .ok (.iload_n 1, 1) := by decide +kernel
theorem dX2_allRumors_13 : decode cX2_allRumors 13 = .ok (.aload_n 0, 1) := by decide +kernel
theorem dX2_allRumors_14 : decode cX2_allRumors 14 = .ok (.iload_n 2, 1) := by decide +kernel
theorem dX2_allRumors_15 : decode cX2_allRumors 15 = .ok (.invokevirtual 102, 3) := by decide +kernel
theorem dX2_allRumors_18 : decode cX2_allRumors 18 = .ok (.invokestatic 105, 3) := by decide +kernel
theorem dX2_allRumors_21 : decode cX2_allRumors 21 = .ok (.iadd, 1) := by decide +kernel
theorem dX2_allRumors_22 : decode cX2_allRumors 22 = .ok (.istore_n 1, 1) := by decide +kernel
theorem dX2_allRumors_23 : decode cX2_allRumors 23 = .ok (.iinc 2 1, 3) := by decide +kernel
theorem dX2_allRumors_26 : decode cX2_allRumors 26 = .ok (.goto (-22), 3) := by decide +kernel
theorem dX2_allRumors_29 : decode cX2_allRumors 29 = .ok (.iload_n 1, 1) := by decide +kernel
theorem dX2_allRumors_30 : decode cX2_allRumors 30 = .ok (.ireturn, 1) := by decide +kernel
theorem dX2_allTombs_0 : decode cX2_allTombs 0 = .ok (.iconst 0, 1) := by decide +kernel
theorem dX2_allTombs_1 : decode cX2_allTombs 1 = .ok (.istore_n 1, 1) := by decide +kernel
theorem dX2_allTombs_2 : decode cX2_allTombs 2 = .ok (.iconst 0, 1) := by decide +kernel
theorem dX2_allTombs_3 : decode cX2_allTombs 3 = .ok (.istore_n 2, 1) := by decide +kernel
theorem dX2_allTombs_4 : decode cX2_allTombs 4 = .ok (.iload_n 2, 1) := by decide +kernel
theorem dX2_allTombs_5 : decode cX2_allTombs 5 = .ok (.aload_n 0, 1) := by decide +kernel
theorem dX2_allTombs_6 : decode cX2_allTombs 6 = .ok (.getfield 9, 3) := by decide +kernel
theorem dX2_allTombs_9 : decode cX2_allTombs 9 = .ok (.if_icmp .ge 20, 3) := by decide +kernel
theorem dX2_allTombs_12 : decode cX2_allTombs 12 = .ok (.iload_n 1, 1) := by decide +kernel
theorem dX2_allTombs_13 : decode cX2_allTombs 13 = .ok (.aload_n 0, 1) := by decide +kernel
theorem dX2_allTombs_14 : decode cX2_allTombs 14 = .ok (.iload_n 2, 1) := by decide +kernel
theorem dX2_allTombs_15 : decode cX2_allTombs 15 = .ok (.invokevirtual 110, 3) := by decide +kernel
theorem dX2_allTombs_18 : decode cX2_allTombs 18 = .ok (.invokestatic 105, 3) := by decide +kernel
theorem dX2_allTombs_21 : decode cX2_allTombs 21 = .ok (.iadd, 1) := by decide +kernel
theorem dX2_allTombs_22 : decode cX2_allTombs 22 = .ok (.istore_n 1, 1) := by decide +kernel
theorem dX2_allTombs_23 : decode cX2_allTombs 23 = .ok (.iinc 2 1, 3) := by decide +kernel
theorem dX2_allTombs_26 : decode cX2_allTombs 26 = .ok (.goto (-22), 3) := by decide +kernel
theorem dX2_allTombs_29 : decode cX2_allTombs 29 = .ok (.iload_n 1, 1) := by decide +kernel
theorem dX2_allTombs_30 : decode cX2_allTombs 30 = .ok (.ireturn, 1) := by decide +kernel
theorem dX2_allDead_0 : decode cX2_allDead 0 = .ok (.iconst 0, 1) := by decide +kernel
theorem dX2_allDead_1 : decode cX2_allDead 1 = .ok (.istore_n 1, 1) := by decide +kernel
theorem dX2_allDead_2 : decode cX2_allDead 2 = .ok (.iconst 0, 1) := by decide +kernel
theorem dX2_allDead_3 : decode cX2_allDead 3 = .ok (.istore_n 2, 1) := by decide +kernel
theorem dX2_allDead_4 : decode cX2_allDead 4 = .ok (.iload_n 2, 1) := by decide +kernel
theorem dX2_allDead_5 : decode cX2_allDead 5 = .ok (.aload_n 0, 1) := by decide +kernel
theorem dX2_allDead_6 : decode cX2_allDead 6 = .ok (.getfield 9, 3) := by decide +kernel
theorem dX2_allDead_9 : decode cX2_allDead 9 = .ok (.if_icmp .ge 20, 3) := by decide +kernel
theorem dX2_allDead_12 : decode cX2_allDead 12 = .ok (.iload_n 1, 1) := by decide +kernel
theorem dX2_allDead_13 : decode cX2_allDead 13 = .ok (.aload_n 0, 1) := by decide +kernel
theorem dX2_allDead_14 : decode cX2_allDead 14 = .ok (.iload_n 2, 1) := by decide +kernel
theorem dX2_allDead_15 : decode cX2_allDead 15 = .ok (.invokevirtual 113, 3) := by decide +kernel
theorem dX2_allDead_18 : decode cX2_allDead 18 = .ok (.invokestatic 105, 3) := by decide +kernel
theorem dX2_allDead_21 : decode cX2_allDead 21 = .ok (.iadd, 1) := by decide +kernel
theorem dX2_allDead_22 : decode cX2_allDead 22 = .ok (.istore_n 1, 1) := by decide +kernel
theorem dX2_allDead_23 : decode cX2_allDead 23 = .ok (.iinc 2 1, 3) := by decide +kernel
theorem dX2_allDead_26 : decode cX2_allDead 26 = .ok (.goto (-22), 3) := by decide +kernel
theorem dX2_allDead_29 : decode cX2_allDead 29 = .ok (.iload_n 1, 1) := by decide +kernel
theorem dX2_allDead_30 : decode cX2_allDead 30 = .ok (.ireturn, 1) := by decide +kernel
theorem dX2_makeRumor_0 : decode cX2_makeRumor 0 = .ok (.aload_n 0, 1) := by decide +kernel
theorem dX2_makeRumor_1 : decode cX2_makeRumor 1 = .ok (.iload_n 1, 1) := by decide +kernel
theorem dX2_makeRumor_2 : decode cX2_makeRumor 2 = .ok (.invokevirtual 68, 3) := by decide +kernel
theorem dX2_makeRumor_5 : decode cX2_makeRumor 5 = .ok (.ifCond .eq 31, 3) := by decide +kernel
theorem dX2_makeRumor_8 : decode cX2_makeRumor 8 = .ok (.iload_n 2, 1) := by decide +kernel
theorem dX2_makeRumor_9 : decode cX2_makeRumor 9 = .ok (.invokestatic 116, 3) := by decide +kernel
theorem dX2_makeRumor_12 : decode cX2_makeRumor 12 = .ok (.ifCond .eq 24, 3) := by decide +kernel
theorem dX2_makeRumor_15 : decode cX2_makeRumor 15 = .ok (.iload_n 3, 1) := by decide +kernel
theorem dX2_makeRumor_16 : decode cX2_makeRumor 16 = .ok (.ifCond .lt 20, 3) := by decide +kernel
theorem dX2_makeRumor_19 : decode cX2_makeRumor 19 = .ok (.iload_n 3, 1) := by decide +kernel
theorem dX2_makeRumor_20 : decode cX2_makeRumor 20 = .ok (.bipush 99, 2) := by decide +kernel
theorem dX2_makeRumor_22 : decode cX2_makeRumor 22 = .ok (.if_icmp .gt 14, 3) := by decide +kernel
theorem dX2_makeRumor_25 : decode cX2_makeRumor 25 = .ok (.iload 4, 2) := by decide +kernel
theorem dX2_makeRumor_27 : decode cX2_makeRumor 27 = .ok (.ifCond .lt 9, 3) := by decide +kernel
theorem dX2_makeRumor_30 : decode cX2_makeRumor 30 = .ok (.iload 4, 2) := by decide +kernel
theorem dX2_makeRumor_32 : decode cX2_makeRumor 32 = .ok (.iconst 2, 1) := by decide +kernel
theorem dX2_makeRumor_33 : decode cX2_makeRumor 33 = .ok (.if_icmp .le 6, 3) := by decide +kernel
theorem dX2_makeRumor_36 : decode cX2_makeRumor 36 = .ok (.ldc 73, 2) := by decide +kernel
theorem dX2_makeRumor_38 : decode cX2_makeRumor 38 = .ok (.ireturn, 1) := by decide +kernel
theorem dX2_makeRumor_39 : decode cX2_makeRumor 39 = .ok (.aload_n 0, 1) := by decide +kernel
theorem dX2_makeRumor_40 : decode cX2_makeRumor 40 = .ok (.iload_n 1, 1) := by decide +kernel
theorem dX2_makeRumor_41 : decode cX2_makeRumor 41 = .ok (.invokevirtual 74, 3) := by decide +kernel
theorem dX2_makeRumor_44 : decode cX2_makeRumor 44 = .ok (.ifCond .ne 6, 3) := by decide +kernel
theorem dX2_makeRumor_47 : decode cX2_makeRumor 47 = .ok (.ldc 77, 2) := by decide +kernel
theorem dX2_makeRumor_49 : decode cX2_makeRumor 49 = .ok (.ireturn, 1) := by decide +kernel
theorem dX2_makeRumor_50 : decode cX2_makeRumor 50 = .ok (.iload_n 1, 1) := by decide +kernel
theorem dX2_makeRumor_51 : decode cX2_makeRumor 51 = .ok (.iload_n 2, 1) := by decide +kernel
theorem dX2_makeRumor_52 : decode cX2_makeRumor 52 = .ok (.invokestatic 88, 3) := by decide +kernel
theorem dX2_makeRumor_55 : decode cX2_makeRumor 55 = .ok (.istore 5, 2) := by decide +kernel
theorem dX2_makeRumor_57 : decode cX2_makeRumor 57 = .ok (.aload_n 0, 1) := by decide +kernel
theorem dX2_makeRumor_58 : decode cX2_makeRumor 58 = .ok (.iload_n 1, 1) := by decide +kernel
theorem dX2_makeRumor_59 : decode cX2_makeRumor 59 = .ok (.iload 5, 2) := by decide +kernel
theorem dX2_makeRumor_61 : decode cX2_makeRumor 61 = .ok (.iload 4, 2) := by decide +kernel
theorem dX2_makeRumor_63 : decode cX2_makeRumor 63 = .ok (.invokevirtual 119, 3) := by decide +kernel
theorem dX2_makeRumor_66 : decode cX2_makeRumor 66 = .ok (.aload_n 0, 1) := by decide +kernel
theorem dX2_makeRumor_67 : decode cX2_makeRumor 67 = .ok (.getfield 43, 3) := by decide +kernel
theorem dX2_makeRumor_70 : decode cX2_makeRumor 70 = .ok (.iload 5, 2) := by decide +kernel
theorem dX2_makeRumor_72 : decode cX2_makeRumor 72 = .ok (.iload_n 3, 1) := by decide +kernel
theorem dX2_makeRumor_73 : decode cX2_makeRumor 73 = .ok (.iastore, 1) := by decide +kernel
theorem dX2_makeRumor_74 : decode cX2_makeRumor 74 = .ok (.aload_n 0, 1) := by decide +kernel
theorem dX2_makeRumor_75 : decode cX2_makeRumor 75 = .ok (.getfield 28, 3) := by decide +kernel
theorem dX2_makeRumor_78 : decode cX2_makeRumor 78 = .ok (.iload_n 1, 1) := by decide +kernel
theorem dX2_makeRumor_79 : decode cX2_makeRumor 79 = .ok (.iaload, 1) := by decide +kernel
theorem dX2_makeRumor_80 : decode cX2_makeRumor 80 = .ok (.ireturn, 1) := by decide +kernel
theorem dX2_makeTomb_0 : decode cX2_makeTomb 0 = .ok (.aload_n 0, 1) := by decide +kernel
theorem dX2_makeTomb_1 : decode cX2_makeTomb 1 = .ok (.iload_n 1, 1) := by decide +kernel
theorem dX2_makeTomb_2 : decode cX2_makeTomb 2 = .ok (.invokevirtual 68, 3) := by decide +kernel
theorem dX2_makeTomb_5 : decode cX2_makeTomb 5 = .ok (.ifCond .eq 10, 3) := by decide +kernel
theorem dX2_makeTomb_8 : decode cX2_makeTomb 8 = .ok (.iload_n 2, 1) := by decide +kernel
theorem dX2_makeTomb_9 : decode cX2_makeTomb 9 = .ok (.invokestatic 116, 3) := by decide +kernel
theorem dX2_makeTomb_12 : decode cX2_makeTomb 12 = .ok (.ifCond .ne 6, 3) := by decide +kernel
theorem dX2_makeTomb_15 : decode cX2_makeTomb 15 = .ok (.ldc 73, 2) := by decide +kernel
theorem dX2_makeTomb_17 : decode cX2_makeTomb 17 = .ok (.ireturn, 1) := by decide +kernel
theorem dX2_makeTomb_18 : decode cX2_makeTomb 18 = .ok (.iload_n 1, 1) := by decide +kernel
theorem dX2_makeTomb_19 : decode cX2_makeTomb 19 = .ok (.iload_n 2, 1) := by decide +kernel
theorem dX2_makeTomb_20 : decode cX2_makeTomb 20 = .ok (.invokestatic 88, 3) := by decide +kernel
theorem dX2_makeTomb_23 : decode cX2_makeTomb 23 = .ok (.istore_n 3, 1) := by decide +kernel
theorem dX2_makeTomb_24 : decode cX2_makeTomb 24 = .ok (.aload_n 0, 1) := by decide +kernel
theorem dX2_makeTomb_25 : decode cX2_makeTomb 25 = .ok (.iload_n 1, 1) := by decide +kernel
theorem dX2_makeTomb_26 : decode cX2_makeTomb 26 = .ok (.invokevirtual 74, 3) := by decide +kernel
theorem dX2_makeTomb_29 : decode cX2_makeTomb 29 = .ok (.ifCond .eq 11, 3) := by decide +kernel
theorem dX2_makeTomb_32 : decode cX2_makeTomb 32 = .ok (.aload_n 0, 1) := by decide +kernel
theorem dX2_makeTomb_33 : decode cX2_makeTomb 33 = .ok (.iload_n 3, 1) := by decide +kernel
theorem dX2_makeTomb_34 : decode cX2_makeTomb 34 = .ok (.invokevirtual 92, 3) := by decide +kernel
theorem dX2_makeTomb_37 : decode cX2_makeTomb 37 = .ok (.ifCond .ne 6, 3) := by decide +kernel
theorem dX2_makeTomb_40 : decode cX2_makeTomb 40 = .ok (.ldc 77, 2) := by decide +kernel
theorem dX2_makeTomb_42 : decode cX2_makeTomb 42 = .ok (.ireturn, 1) := by decide +kernel
theorem dX2_makeTomb_43 : decode cX2_makeTomb 43 = .ok (.aload_n 0, 1) := by decide +kernel
theorem dX2_makeTomb_44 : decode cX2_makeTomb 44 = .ok (.iload_n 1, 1) := by decide +kernel
theorem dX2_makeTomb_45 : decode cX2_makeTomb 45 = .ok (.iload_n 3, 1) := by decide +kernel
theorem dX2_makeTomb_46 : decode cX2_makeTomb 46 = .ok (.iconst 3, 1) := by decide +kernel
theorem dX2_makeTomb_47 : decode cX2_makeTomb 47 = .ok (.invokevirtual 119, 3) := by decide +kernel
theorem dX2_makeTomb_50 : decode cX2_makeTomb 50 = .ok (.aload_n 0, 1) := by decide +kernel
theorem dX2_makeTomb_51 : decode cX2_makeTomb 51 = .ok (.getfield 46, 3) := by decide +kernel
theorem dX2_makeTomb_54 : decode cX2_makeTomb 54 = .ok (.iload_n 3, 1) := by decide +kernel
theorem dX2_makeTomb_55 : decode cX2_makeTomb 55 = .ok (.aload_n 0, 1) := by decide +kernel
theorem dX2_makeTomb_56 : decode cX2_makeTomb 56 = .ok (.getfield 15, 3) := by decide +kernel
theorem dX2_makeTomb_59 : decode cX2_makeTomb 59 = .ok (.iastore, 1) := by decide +kernel
theorem dX2_makeTomb_60 : decode cX2_makeTomb 60 = .ok (.aload_n 0, 1) := by decide +kernel
theorem dX2_makeTomb_61 : decode cX2_makeTomb 61 = .ok (.getfield 49, 3) := by decide +kernel
theorem dX2_makeTomb_64 : decode cX2_makeTomb 64 = .ok (.iload_n 3, 1) := by decide +kernel
theorem dX2_makeTomb_65 : decode cX2_makeTomb 65 = .ok (.iconst 1, 1) := by decide +kernel
theorem dX2_makeTomb_66 : decode cX2_makeTomb 66 = .ok (.iload_n 1, 1) := by decide +kernel
theorem dX2_makeTomb_67 : decode cX2_makeTomb 67 = .ok (.ishl, 1) := by decide +kernel
theorem dX2_makeTomb_68 : decode cX2_makeTomb 68 = .ok (.iastore, 1) := by decide +kernel
theorem dX2_makeTomb_69 : decode cX2_makeTomb 69 = .ok (.aload_n 0, 1) := by decide +kernel
theorem dX2_makeTomb_70 : decode cX2_makeTomb 70 = .ok (.getfield 55, 3) := by decide +kernel
theorem dX2_makeTomb_73 : decode cX2_makeTomb 73 = .ok (.iload_n 2, 1) := by decide +kernel
theorem dX2_makeTomb_74 : decode cX2_makeTomb 74 = .ok (.aload_n 0, 1) := by decide +kernel
theorem dX2_makeTomb_75 : decode cX2_makeTomb 75 = .ok (.getfield 55, 3) := by decide +kernel
theorem dX2_makeTomb_78 : decode cX2_makeTomb 78 = .ok (.iload_n 2, 1) := by decide +kernel
theorem dX2_makeTomb_79 : decode cX2_makeTomb 79 = .ok (.iaload, 1) := by decide +kernel
theorem dX2_makeTomb_80 : decode cX2_makeTomb 80 = .ok (.aload_n 0, 1) := by decide +kernel
theorem dX2_makeTomb_81 : decode cX2_makeTomb 81 = .ok (.getfield 37, 3) := by decide +kernel
theorem dX2_makeTomb_84 : decode cX2_makeTomb 84 = .ok (.iload_n 3, 1) := by decide +kernel
theorem dX2_makeTomb_85 : decode cX2_makeTomb 85 = .ok (.iaload, 1) := by decide +kernel
theorem dX2_makeTomb_86 : decode cX2_makeTomb 86 = .ok (.invokestatic 123, 3) := by decide +kernel
theorem dX2_makeTomb_89 : decode cX2_makeTomb 89 = .ok (.iastore, 1) := by decide +kernel
theorem dX2_makeTomb_90 : decode cX2_makeTomb 90 = .ok (.aload_n 0, 1) := by decide +kernel
theorem dX2_makeTomb_91 : decode cX2_makeTomb 91 = .ok (.dup, 1) := by decide +kernel
theorem dX2_makeTomb_92 : decode cX2_makeTomb 92 = .ok (.getfield 21, 3) := by decide +kernel
theorem dX2_makeTomb_95 : decode cX2_makeTomb 95 = .ok (.iconst 1, 1) := by decide +kernel
theorem dX2_makeTomb_96 : decode cX2_makeTomb 96 = .ok (.iadd, 1) := by decide +kernel
theorem dX2_makeTomb_97 : decode cX2_makeTomb 97 = .ok (.putfield 21, 3) := by decide +kernel
theorem dX2_makeTomb_100 : decode cX2_makeTomb 100 = .ok (.aload_n 0, 1) := by decide +kernel
theorem dX2_makeTomb_101 : decode cX2_makeTomb 101 = .ok (.getfield 28, 3) := by decide +kernel
theorem dX2_makeTomb_104 : decode cX2_makeTomb 104 = .ok (.iload_n 1, 1) := by decide +kernel
theorem dX2_makeTomb_105 : decode cX2_makeTomb 105 = .ok (.iaload, 1) := by decide +kernel
theorem dX2_makeTomb_106 : decode cX2_makeTomb 106 = .ok (.ireturn, 1) := by decide +kernel
theorem dX2_write_0 : decode cX2_write 0 = .ok (.aload_n 0, 1) := by decide +kernel
theorem dX2_write_1 : decode cX2_write 1 = .ok (.getfield 28, 3) := by decide +kernel
theorem dX2_write_4 : decode cX2_write 4 = .ok (.iload_n 1, 1) := by decide +kernel
theorem dX2_write_5 : decode cX2_write 5 = .ok (.dup2, 1) := by decide +kernel
theorem dX2_write_6 : decode cX2_write 6 = .ok (.iaload, 1) := by decide +kernel
theorem dX2_write_7 : decode cX2_write 7 = .ok (.iconst 1, 1) := by decide +kernel
theorem dX2_write_8 : decode cX2_write 8 = .ok (.iadd, 1) := by decide +kernel
theorem dX2_write_9 : decode cX2_write 9 = .ok (.iastore, 1) := by decide +kernel
theorem dX2_write_10 : decode cX2_write 10 = .ok (.aload_n 0, 1) := by decide +kernel
theorem dX2_write_11 : decode cX2_write 11 = .ok (.getfield 37, 3) := by decide +kernel
theorem dX2_write_14 : decode cX2_write 14 = .ok (.iload_n 2, 1) := by decide +kernel
theorem dX2_write_15 : decode cX2_write 15 = .ok (.aload_n 0, 1) := by decide +kernel
theorem dX2_write_16 : decode cX2_write 16 = .ok (.getfield 28, 3) := by decide +kernel
theorem dX2_write_19 : decode cX2_write 19 = .ok (.iload_n 1, 1) := by decide +kernel
theorem dX2_write_20 : decode cX2_write 20 = .ok (.iaload, 1) := by decide +kernel
theorem dX2_write_21 : decode cX2_write 21 = .ok (.bipush 8, 2) := by decide +kernel
theorem dX2_write_23 : decode cX2_write 23 = .ok (.imul, 1) := by decide +kernel
theorem dX2_write_24 : decode cX2_write 24 = .ok (.iload_n 1, 1) := by decide +kernel
theorem dX2_write_25 : decode cX2_write 25 = .ok (.iadd, 1) := by decide +kernel
theorem dX2_write_26 : decode cX2_write 26 = .ok (.iastore, 1) := by decide +kernel
theorem dX2_write_27 : decode cX2_write 27 = .ok (.aload_n 0, 1) := by decide +kernel
theorem dX2_write_28 : decode cX2_write 28 = .ok (.getfield 40, 3) := by decide +kernel
theorem dX2_write_31 : decode cX2_write 31 = .ok (.iload_n 2, 1) := by decide +kernel
theorem dX2_write_32 : decode cX2_write 32 = .ok (.iload_n 3, 1) := by decide +kernel
theorem dX2_write_33 : decode cX2_write 33 = .ok (.iastore, 1) := by decide +kernel
theorem dX2_write_34 : decode cX2_write 34 = .ok (.return_, 1) := by decide +kernel
theorem dX2_bringTogether_0 : decode cX2_bringTogether 0 = .ok (.aload_n 0, 1) := by decide +kernel
theorem dX2_bringTogether_1 : decode cX2_bringTogether 1 = .ok (.iload_n 1, 1) := by decide +kernel
theorem dX2_bringTogether_2 : decode cX2_bringTogether 2 = .ok (.iload_n 2, 1) := by decide +kernel
theorem dX2_bringTogether_3 : decode cX2_bringTogether 3 = .ok (.invokevirtual 128, 3) := by decide +kernel
theorem dX2_bringTogether_6 : decode cX2_bringTogether 6 = .ok (.ifCond .ne 6, 3) := by decide +kernel
theorem dX2_bringTogether_9 : decode cX2_bringTogether 9 = .ok (.ldc 73, 2) := by decide +kernel
theorem dX2_bringTogether_11 : decode cX2_bringTogether 11 = .ok (.ireturn, 1) := by decide +kernel
theorem dX2_bringTogether_12 : decode cX2_bringTogether 12 = .ok (.aload_n 0, 1) := by decide +kernel
theorem dX2_bringTogether_13 : decode cX2_bringTogether 13 = .ok (.iload_n 1, 1) := by decide +kernel
theorem dX2_bringTogether_14 : decode cX2_bringTogether 14 = .ok (.invokevirtual 74, 3) := by decide +kernel
theorem dX2_bringTogether_17 : decode cX2_bringTogether 17 = .ok (.ifCond .eq 11, 3) := by decide +kernel
theorem dX2_bringTogether_20 : decode cX2_bringTogether 20 = .ok (.aload_n 0, 1) := by decide +kernel
theorem dX2_bringTogether_21 : decode cX2_bringTogether 21 = .ok (.iload_n 2, 1) := by decide +kernel
theorem dX2_bringTogether_22 : decode cX2_bringTogether 22 = .ok (.invokevirtual 74, 3) := by decide +kernel
theorem dX2_bringTogether_25 : decode cX2_bringTogether 25 = .ok (.ifCond .ne 6, 3) := by decide +kernel
theorem dX2_bringTogether_28 : decode cX2_bringTogether 28 = .ok (.ldc 77, 2) := by decide +kernel
theorem dX2_bringTogether_30 : decode cX2_bringTogether 30 = .ok (.ireturn, 1) := by decide +kernel
theorem dX2_bringTogether_31 : decode cX2_bringTogether 31 = .ok (.aload_n 0, 1) := by decide +kernel
theorem dX2_bringTogether_32 : decode cX2_bringTogether 32 = .ok (.iload_n 1, 1) := by decide +kernel
theorem dX2_bringTogether_33 : decode cX2_bringTogether 33 = .ok (.iload_n 2, 1) := by decide +kernel
theorem dX2_bringTogether_34 : decode cX2_bringTogether 34 = .ok (.invokevirtual 131, 3) := by decide +kernel
theorem dX2_bringTogether_37 : decode cX2_bringTogether 37 = .ok (.ireturn, 1) := by decide +kernel
theorem dX2_talk_0 : decode cX2_talk 0 = .ok (.aload_n 0, 1) := by decide +kernel
theorem dX2_talk_1 : decode cX2_talk 1 = .ok (.getfield 28, 3) := by decide +kernel
theorem dX2_talk_4 : decode cX2_talk 4 = .ok (.iload_n 1, 1) := by decide +kernel
theorem dX2_talk_5 : decode cX2_talk 5 = .ok (.iaload, 1) := by decide +kernel
theorem dX2_talk_6 : decode cX2_talk 6 = .ok (.aload_n 0, 1) := by decide +kernel
theorem dX2_talk_7 : decode cX2_talk 7 = .ok (.getfield 28, 3) := by decide +kernel
theorem dX2_talk_10 : decode cX2_talk 10 = .ok (.iload_n 2, 1) := by decide +kernel
theorem dX2_talk_11 : decode cX2_talk 11 = .ok (.iaload, 1) := by decide +kernel
theorem dX2_talk_12 : decode cX2_talk 12 = .ok (.invokestatic 123, 3) := by decide +kernel
theorem dX2_talk_15 : decode cX2_talk 15 = .ok (.istore_n 3, 1) := by decide +kernel
theorem dX2_talk_16 : decode cX2_talk 16 = .ok (.aload_n 0, 1) := by decide +kernel
theorem dX2_talk_17 : decode cX2_talk 17 = .ok (.getfield 28, 3) := by decide +kernel
theorem dX2_talk_20 : decode cX2_talk 20 = .ok (.iload_n 1, 1) := by decide +kernel
theorem dX2_talk_21 : decode cX2_talk 21 = .ok (.iload_n 3, 1) := by decide +kernel
theorem dX2_talk_22 : decode cX2_talk 22 = .ok (.iastore, 1) := by decide +kernel
theorem dX2_talk_23 : decode cX2_talk 23 = .ok (.aload_n 0, 1) := by decide +kernel
theorem dX2_talk_24 : decode cX2_talk 24 = .ok (.getfield 28, 3) := by decide +kernel
theorem dX2_talk_27 : decode cX2_talk 27 = .ok (.iload_n 2, 1) := by decide +kernel
theorem dX2_talk_28 : decode cX2_talk 28 = .ok (.iload_n 3, 1) := by decide +kernel
theorem dX2_talk_29 : decode cX2_talk 29 = .ok (.iastore, 1) := by decide +kernel
theorem dX2_talk_30 : decode cX2_talk 30 = .ok (.iconst 0, 1) := by decide +kernel
theorem dX2_talk_31 : decode cX2_talk 31 = .ok (.istore 4, 2) := by decide +kernel
theorem dX2_talk_33 : decode cX2_talk 33 = .ok (.iconst 0, 1) := by decide +kernel
theorem dX2_talk_34 : decode cX2_talk 34 = .ok (.istore 5, 2) := by decide +kernel
theorem dX2_talk_36 : decode cX2_talk 36 = .ok (.iload 5, 2) := by decide +kernel
theorem dX2_talk_38 : decode cX2_talk 38 = .ok (.bipush 12, 2) := by decide +kernel
theorem dX2_talk_40 : decode cX2_talk 40 = .ok (.if_icmp .ge 55, 3) := by decide +kernel
theorem dX2_talk_43 : decode cX2_talk 43 = .ok (.aload_n 0, 1) := by decide +kernel
theorem dX2_talk_44 : decode cX2_talk 44 = .ok (.iload_n 1, 1) := by decide +kernel
theorem dX2_talk_45 : decode cX2_talk 45 = .ok (.iload_n 2, 1) := by decide +kernel
theorem dX2_talk_46 : decode cX2_talk 46 = .ok (.iload 5, 2) := by decide +kernel
theorem dX2_talk_48 : decode cX2_talk 48 = .ok (.invokevirtual 134, 3) := by decide +kernel
theorem dX2_talk_51 : decode cX2_talk 51 = .ok (.istore 6, 2) := by decide +kernel
theorem dX2_talk_53 : decode cX2_talk 53 = .ok (.iload 6, 2) := by decide +kernel
theorem dX2_talk_55 : decode cX2_talk 55 = .ok (.iconst (-1), 1) := by decide +kernel
theorem dX2_talk_56 : decode cX2_talk 56 = .ok (.if_icmp .eq 25, 3) := by decide +kernel
theorem dX2_talk_59 : decode cX2_talk 59 = .ok (.aload_n 0, 1) := by decide +kernel
theorem dX2_talk_60 : decode cX2_talk 60 = .ok (.iload 5, 2) := by decide +kernel
theorem dX2_talk_62 : decode cX2_talk 62 = .ok (.iload 6, 2) := by decide +kernel
theorem dX2_talk_64 : decode cX2_talk 64 = .ok (.iload 6, 2) := by decide +kernel
theorem dX2_talk_66 : decode cX2_talk 66 = .ok (.iload_n 1, 1) := by decide +kernel
theorem dX2_talk_67 : decode cX2_talk 67 = .ok (.if_icmp .ne 7, 3) := by decide +kernel
theorem dX2_talk_70 : decode cX2_talk 70 = .ok (.iload_n 2, 1) := by decide +kernel
theorem dX2_talk_71 : decode cX2_talk 71 = .ok (.goto 4, 3) := by decide +kernel
theorem dX2_talk_74 : decode cX2_talk 74 = .ok (.iload_n 1, 1) := by decide +kernel
theorem dX2_talk_75 : decode cX2_talk 75 = .ok (.invokevirtual 138, 3) := by decide +kernel
theorem dX2_talk_78 : decode cX2_talk 78 = .ok (.iinc 4 1, 3) := by decide +kernel
theorem dX2_talk_81 : decode cX2_talk 81 = .ok (.aload_n 0, 1) := by decide +kernel
theorem dX2_talk_82 : decode cX2_talk 82 = .ok (.iload_n 1, 1) := by decide +kernel
theorem dX2_talk_83 : decode cX2_talk 83 = .ok (.iload_n 2, 1) := by decide +kernel
theorem dX2_talk_84 : decode cX2_talk 84 = .ok (.iload 5, 2) := by decide +kernel
theorem dX2_talk_86 : decode cX2_talk 86 = .ok (.invokevirtual 141, 3) := by decide +kernel
theorem dX2_talk_89 : decode cX2_talk 89 = .ok (.iinc 5 1, 3) := by decide +kernel
theorem dX2_talk_92 : decode cX2_talk 92 = .ok (.goto (-56), 3) := by decide +kernel
theorem dX2_talk_95 : decode cX2_talk 95 = .ok (.iload 4, 2) := by decide +kernel
theorem dX2_talk_97 : decode cX2_talk 97 = .ok (.ireturn, 1) := by decide +kernel
theorem dX2_giver_0 : decode cX2_giver 0 = .ok (.aload_n 0, 1) := by decide +kernel
theorem dX2_giver_1 : decode cX2_giver 1 = .ok (.getfield 37, 3) := by decide +kernel
theorem dX2_giver_4 : decode cX2_giver 4 = .ok (.iload_n 1, 1) := by decide +kernel
theorem dX2_giver_5 : decode cX2_giver 5 = .ok (.iload_n 3, 1) := by decide +kernel
theorem dX2_giver_6 : decode cX2_giver 6 = .ok (.invokestatic 88, 3) := by decide +kernel
theorem dX2_giver_9 : decode cX2_giver 9 = .ok (.iaload, 1) := by decide +kernel
theorem dX2_giver_10 : decode cX2_giver 10 = .ok (.istore 4, 2) := by decide +kernel
theorem dX2_giver_12 : decode cX2_giver 12 = .ok (.aload_n 0, 1) := by decide +kernel
theorem dX2_giver_13 : decode cX2_giver 13 = .ok (.getfield 37, 3) := by decide +kernel
theorem dX2_giver_16 : decode cX2_giver 16 = .ok (.iload_n 2, 1) := by decide +kernel
theorem dX2_giver_17 : decode cX2_giver 17 = .ok (.iload_n 3, 1) := by decide +kernel
theorem dX2_giver_18 : decode cX2_giver 18 = .ok (.invokestatic 88, 3) := by decide +kernel
theorem dX2_giver_21 : decode cX2_giver 21 = .ok (.iaload, 1) := by decide +kernel
theorem dX2_giver_22 : decode cX2_giver 22 = .ok (.istore 5, 2) := by decide +kernel
theorem dX2_giver_24 : decode cX2_giver 24 = .ok (.iload 4, 2) := by decide +kernel
theorem dX2_giver_26 : decode cX2_giver 26 = .ok (.iload 5, 2) := by decide +kernel
theorem dX2_giver_28 : decode cX2_giver 28 = .ok (.if_icmp .ne 5, 3) := by decide +kernel
theorem dX2_giver_31 : decode cX2_giver 31 = .ok (.iconst (-1), 1) := by decide +kernel
theorem dX2_giver_32 : decode cX2_giver 32 = .ok (.ireturn, 1) := by decide +kernel
theorem dX2_giver_33 : decode cX2_giver 33 = .ok (.iload 4, 2) := by decide +kernel
theorem dX2_giver_35 : decode cX2_giver 35 = .ok (.iload 5, 2) := by decide +kernel
theorem dX2_giver_37 : decode cX2_giver 37 = .ok (.if_icmp .le 7, 3) := by decide +kernel
theorem dX2_giver_40 : decode cX2_giver 40 = .ok (.iload_n 1, 1) := by decide +kernel
theorem dX2_giver_41 : decode cX2_giver 41 = .ok (.goto 4, 3) := by decide +kernel
theorem dX2_giver_44 : decode cX2_giver 44 = .ok (.iload_n 2, 1) := by decide +kernel
theorem dX2_giver_45 : decode cX2_giver 45 = .ok (.istore 6, 2) := by decide +kernel
theorem dX2_giver_47 : decode cX2_giver 47 = .ok (.iload 4, 2) := by decide +kernel
theorem dX2_giver_49 : decode cX2_giver 49 = .ok (.iload 5, 2) := by decide +kernel
theorem dX2_giver_51 : decode cX2_giver 51 = .ok (.if_icmp .le 7, 3) := by decide +kernel
theorem dX2_giver_54 : decode cX2_giver 54 = .ok (.iload_n 2, 1) := by decide +kernel
theorem dX2_giver_55 : decode cX2_giver 55 = .ok (.goto 4, 3) := by decide +kernel
theorem dX2_giver_58 : decode cX2_giver 58 = .ok (.iload_n 1, 1) := by decide +kernel
theorem dX2_giver_59 : decode cX2_giver 59 = .ok (.istore 7, 2) := by decide +kernel
theorem dX2_giver_61 : decode cX2_giver 61 = .ok (.iload 6, 2) := by decide +kernel
theorem dX2_giver_63 : decode cX2_giver 63 = .ok (.iload_n 3, 1) := by decide +kernel
theorem dX2_giver_64 : decode cX2_giver 64 = .ok (.invokestatic 88, 3) := by decide +kernel
theorem dX2_giver_67 : decode cX2_giver 67 = .ok (.istore 8, 2) := by decide +kernel
theorem dX2_giver_69 : decode cX2_giver 69 = .ok (.aload_n 0, 1) := by decide +kernel
theorem dX2_giver_70 : decode cX2_giver 70 = .ok (.getfield 40, 3) := by decide +kernel
theorem dX2_giver_73 : decode cX2_giver 73 = .ok (.iload 8, 2) := by decide +kernel
theorem dX2_giver_75 : decode cX2_giver 75 = .ok (.iaload, 1) := by decide +kernel
theorem dX2_giver_76 : decode cX2_giver 76 = .ok (.aload_n 0, 1) := by decide +kernel
theorem dX2_giver_77 : decode cX2_giver 77 = .ok (.iload 8, 2) := by decide +kernel
theorem dX2_giver_79 : decode cX2_giver 79 = .ok (.invokevirtual 144, 3) := by decide +kernel
theorem dX2_giver_82 : decode cX2_giver 82 = .ok (.iload 6, 2) := by decide +kernel
theorem dX2_giver_84 : decode cX2_giver 84 = .ok (.if_icmp .ne 7, 3) := by decide +kernel
theorem dX2_giver_87 : decode cX2_giver 87 = .ok (.iconst 1, 1) := by decide +kernel
theorem dX2_giver_88 : decode cX2_giver 88 = .ok (.goto 4, 3) := by decide +kernel
theorem dX2_giver_91 : decode cX2_giver 91 = .ok (.iconst 0, 1) := by decide +kernel
theorem dX2_giver_92 : decode cX2_giver 92 = .ok (.iload 7, 2) := by decide +kernel
theorem dX2_giver_94 : decode cX2_giver 94 = .ok (.iload 6, 2) := by decide +kernel
theorem dX2_giver_96 : decode cX2_giver 96 = .ok (.if_icmp .le 7, 3) := by decide +kernel
theorem dX2_giver_99 : decode cX2_giver 99 = .ok (.iconst 1, 1) := by decide +kernel
theorem dX2_giver_100 : decode cX2_giver 100 = .ok (.goto 4, 3) := by decide +kernel
theorem dX2_giver_103 : decode cX2_giver 103 = .ok (.iconst 0, 1) := by decide +kernel
theorem dX2_giver_104 : decode cX2_giver 104 = .ok (.invokestatic 147, 3) := by decide +kernel
theorem dX2_giver_107 : decode cX2_giver 107 = .ok (.ifCond .eq 8, 3) := by decide +kernel
theorem dX2_giver_110 : decode cX2_giver 110 = .ok (.iload 6, 2) := by decide +kernel
theorem dX2_giver_112 : decode cX2_giver 112 = .ok (.goto 4, 3) := by decide +kernel
theorem dX2_giver_115 : decode cX2_giver 115 = .ok (.iconst (-1), 1) := by decide +kernel
theorem dX2_giver_116 : decode cX2_giver 116 = .ok (.ireturn, 1) := by decide +kernel
theorem dX2_mayBeHanded_0 : decode cX2_mayBeHanded 0 = .ok (.iload_n 0, 1) := by decide +kernel
theorem dX2_mayBeHanded_1 : decode cX2_mayBeHanded 1 = .ok (.lookupswitch 43 #[(1, 27), (2, 29)], 27) := by decide +kernel
theorem dX2_mayBeHanded_28 : decode cX2_mayBeHanded 28 = .ok (.iload_n 1, 1) := by decide +kernel
theorem dX2_mayBeHanded_29 : decode cX2_mayBeHanded 29 = .ok (.ireturn, 1) := by decide +kernel
theorem dX2_mayBeHanded_30 : decode cX2_mayBeHanded 30 = .ok (.iload_n 1, 1) := by decide +kernel
theorem dX2_mayBeHanded_31 : decode cX2_mayBeHanded 31 = .ok (.ifCond .eq 11, 3) := by decide +kernel
theorem dX2_mayBeHanded_34 : decode cX2_mayBeHanded 34 = .ok (.iload_n 2, 1) := by decide +kernel
theorem dX2_mayBeHanded_35 : decode cX2_mayBeHanded 35 = .ok (.ifCond .eq 7, 3) := by decide +kernel
theorem dX2_mayBeHanded_38 : decode cX2_mayBeHanded 38 = .ok (.iconst 1, 1) := by decide +kernel
theorem dX2_mayBeHanded_39 : decode cX2_mayBeHanded 39 = .ok (.goto 4, 3) := by decide +kernel
theorem dX2_mayBeHanded_42 : decode cX2_mayBeHanded 42 = .ok (.iconst 0, 1) := by decide +kernel
theorem dX2_mayBeHanded_43 : decode cX2_mayBeHanded 43 = .ok (.ireturn, 1) := by decide +kernel
theorem dX2_mayBeHanded_44 : decode cX2_mayBeHanded 44 = .ok (.iconst 1, 1) := by decide +kernel
theorem dX2_mayBeHanded_45 : decode cX2_mayBeHanded 45 = .ok (.ireturn, 1) := by decide +kernel
theorem dX2_hand_0 : decode cX2_hand 0 = .ok (.iload_n 2, 1) := by decide +kernel
theorem dX2_hand_1 : decode cX2_hand 1 = .ok (.iload_n 1, 1) := by decide +kernel
theorem dX2_hand_2 : decode cX2_hand 2 = .ok (.invokestatic 88, 3) := by decide +kernel
theorem dX2_hand_5 : decode cX2_hand 5 = .ok (.istore 4, 2) := by decide +kernel
theorem dX2_hand_7 : decode cX2_hand 7 = .ok (.iload_n 3, 1) := by decide +kernel
theorem dX2_hand_8 : decode cX2_hand 8 = .ok (.iload_n 1, 1) := by decide +kernel
theorem dX2_hand_9 : decode cX2_hand 9 = .ok (.invokestatic 88, 3) := by decide +kernel
theorem dX2_hand_12 : decode cX2_hand 12 = .ok (.istore 5, 2) := by decide +kernel
theorem dX2_hand_14 : decode cX2_hand 14 = .ok (.aload_n 0, 1) := by decide +kernel
theorem dX2_hand_15 : decode cX2_hand 15 = .ok (.iload 4, 2) := by decide +kernel
theorem dX2_hand_17 : decode cX2_hand 17 = .ok (.invokevirtual 92, 3) := by decide +kernel
theorem dX2_hand_20 : decode cX2_hand 20 = .ok (.ifCond .eq 30, 3) := by decide +kernel
theorem dX2_hand_23 : decode cX2_hand 23 = .ok (.aload_n 0, 1) := by decide +kernel
theorem dX2_hand_24 : decode cX2_hand 24 = .ok (.getfield 37, 3) := by decide +kernel
theorem dX2_hand_27 : decode cX2_hand 27 = .ok (.iload 4, 2) := by decide +kernel
theorem dX2_hand_29 : decode cX2_hand 29 = .ok (.iaload, 1) := by decide +kernel
theorem dX2_hand_30 : decode cX2_hand 30 = .ok (.aload_n 0, 1) := by decide +kernel
theorem dX2_hand_31 : decode cX2_hand 31 = .ok (.getfield 52, 3) := by decide +kernel
theorem dX2_hand_34 : decode cX2_hand 34 = .ok (.iload 5, 2) := by decide +kernel
theorem dX2_hand_36 : decode cX2_hand 36 = .ok (.iaload, 1) := by decide +kernel
theorem dX2_hand_37 : decode cX2_hand 37 = .ok (.if_icmp .ge 13, 3) := by decide +kernel
theorem dX2_hand_40 : decode cX2_hand 40 = .ok (.aload_n 0, 1) := by decide +kernel
theorem dX2_hand_41 : decode cX2_hand 41 = .ok (.getfield 34, 3) := by decide +kernel
theorem dX2_hand_44 : decode cX2_hand 44 = .ok (.iload_n 3, 1) := by decide +kernel
theorem dX2_hand_45 : decode cX2_hand 45 = .ok (.dup2, 1) := by decide +kernel
theorem dX2_hand_46 : decode cX2_hand 46 = .ok (.iaload, 1) := by decide +kernel
theorem dX2_hand_47 : decode cX2_hand 47 = .ok (.iconst 1, 1) := by decide +kernel
theorem dX2_hand_48 : decode cX2_hand 48 = .ok (.iadd, 1) := by decide +kernel
theorem dX2_hand_49 : decode cX2_hand 49 = .ok (.iastore, 1) := by decide +kernel
theorem dX2_hand_50 : decode cX2_hand 50 = .ok (.aload_n 0, 1) := by decide +kernel
theorem dX2_hand_51 : decode cX2_hand 51 = .ok (.getfield 37, 3) := by decide +kernel
theorem dX2_hand_54 : decode cX2_hand 54 = .ok (.iload 5, 2) := by decide +kernel
theorem dX2_hand_56 : decode cX2_hand 56 = .ok (.aload_n 0, 1) := by decide +kernel
theorem dX2_hand_57 : decode cX2_hand 57 = .ok (.getfield 37, 3) := by decide +kernel
theorem dX2_hand_60 : decode cX2_hand 60 = .ok (.iload 4, 2) := by decide +kernel
theorem dX2_hand_62 : decode cX2_hand 62 = .ok (.iaload, 1) := by decide +kernel
theorem dX2_hand_63 : decode cX2_hand 63 = .ok (.iastore, 1) := by decide +kernel
theorem dX2_hand_64 : decode cX2_hand 64 = .ok (.aload_n 0, 1) := by decide +kernel
theorem dX2_hand_65 : decode cX2_hand 65 = .ok (.getfield 40, 3) := by decide +kernel
theorem dX2_hand_68 : decode cX2_hand 68 = .ok (.iload 5, 2) := by decide +kernel
theorem dX2_hand_70 : decode cX2_hand 70 = .ok (.aload_n 0, 1) := by decide +kernel
theorem dX2_hand_71 : decode cX2_hand 71 = .ok (.getfield 40, 3) := by decide +kernel
theorem dX2_hand_74 : decode cX2_hand 74 = .ok (.iload 4, 2) := by decide +kernel
theorem dX2_hand_76 : decode cX2_hand 76 = .ok (.iaload, 1) := by decide +kernel
theorem dX2_hand_77 : decode cX2_hand 77 = .ok (.iastore, 1) := by decide +kernel
theorem dX2_hand_78 : decode cX2_hand 78 = .ok (.aload_n 0, 1) := by decide +kernel
theorem dX2_hand_79 : decode cX2_hand 79 = .ok (.getfield 43, 3) := by decide +kernel
theorem dX2_hand_82 : decode cX2_hand 82 = .ok (.iload 5, 2) := by decide +kernel
theorem dX2_hand_84 : decode cX2_hand 84 = .ok (.aload_n 0, 1) := by decide +kernel
theorem dX2_hand_85 : decode cX2_hand 85 = .ok (.getfield 43, 3) := by decide +kernel
theorem dX2_hand_88 : decode cX2_hand 88 = .ok (.iload 4, 2) := by decide +kernel
theorem dX2_hand_90 : decode cX2_hand 90 = .ok (.iaload, 1) := by decide +kernel
theorem dX2_hand_91 : decode cX2_hand 91 = .ok (.iastore, 1) := by decide +kernel
theorem dX2_hand_92 : decode cX2_hand 92 = .ok (.aload_n 0, 1) := by decide +kernel
theorem dX2_hand_93 : decode cX2_hand 93 = .ok (.getfield 46, 3) := by decide +kernel
theorem dX2_hand_96 : decode cX2_hand 96 = .ok (.iload 5, 2) := by decide +kernel
theorem dX2_hand_98 : decode cX2_hand 98 = .ok (.aload_n 0, 1) := by decide +kernel
theorem dX2_hand_99 : decode cX2_hand 99 = .ok (.getfield 46, 3) := by decide +kernel
theorem dX2_hand_102 : decode cX2_hand 102 = .ok (.iload 4, 2) := by decide +kernel
theorem dX2_hand_104 : decode cX2_hand 104 = .ok (.iaload, 1) := by decide +kernel
theorem dX2_hand_105 : decode cX2_hand 105 = .ok (.iastore, 1) := by decide +kernel
theorem dX2_hand_106 : decode cX2_hand 106 = .ok (.aload_n 0, 1) := by decide +kernel
theorem dX2_hand_107 : decode cX2_hand 107 = .ok (.getfield 49, 3) := by decide +kernel
theorem dX2_hand_110 : decode cX2_hand 110 = .ok (.iload 5, 2) := by decide +kernel
theorem dX2_hand_112 : decode cX2_hand 112 = .ok (.aload_n 0, 1) := by decide +kernel
theorem dX2_hand_113 : decode cX2_hand 113 = .ok (.getfield 49, 3) := by decide +kernel
theorem dX2_hand_116 : decode cX2_hand 116 = .ok (.iload 4, 2) := by decide +kernel
theorem dX2_hand_118 : decode cX2_hand 118 = .ok (.iaload, 1) := by decide +kernel
theorem dX2_hand_119 : decode cX2_hand 119 = .ok (.iastore, 1) := by decide +kernel
theorem dX2_hand_120 : decode cX2_hand 120 = .ok (.return_, 1) := by decide +kernel
theorem dX2_shareSight_0 : decode cX2_shareSight 0 = .ok (.iload_n 1, 1) := by decide +kernel
theorem dX2_shareSight_1 : decode cX2_shareSight 1 = .ok (.iload_n 3, 1) := by decide +kernel
theorem dX2_shareSight_2 : decode cX2_shareSight 2 = .ok (.invokestatic 88, 3) := by decide +kernel
theorem dX2_shareSight_5 : decode cX2_shareSight 5 = .ok (.istore 4, 2) := by decide +kernel
theorem dX2_shareSight_7 : decode cX2_shareSight 7 = .ok (.iload_n 2, 1) := by decide +kernel
theorem dX2_shareSight_8 : decode cX2_shareSight 8 = .ok (.iload_n 3, 1) := by decide +kernel
theorem dX2_shareSight_9 : decode cX2_shareSight 9 = .ok (.invokestatic 88, 3) := by decide +kernel
theorem dX2_shareSight_12 : decode cX2_shareSight 12 = .ok (.istore 5, 2) := by decide +kernel
theorem dX2_shareSight_14 : decode cX2_shareSight 14 = .ok (.aload_n 0, 1) := by decide +kernel
theorem dX2_shareSight_15 : decode cX2_shareSight 15 = .ok (.iload 4, 2) := by decide +kernel
theorem dX2_shareSight_17 : decode cX2_shareSight 17 = .ok (.invokevirtual 95, 3) := by decide +kernel
theorem dX2_shareSight_20 : decode cX2_shareSight 20 = .ok (.ifCond .eq 63, 3) := by decide +kernel
theorem dX2_shareSight_23 : decode cX2_shareSight 23 = .ok (.aload_n 0, 1) := by decide +kernel
theorem dX2_shareSight_24 : decode cX2_shareSight 24 = .ok (.getfield 37, 3) := by decide +kernel
theorem dX2_shareSight_27 : decode cX2_shareSight 27 = .ok (.iload 4, 2) := by decide +kernel
theorem dX2_shareSight_29 : decode cX2_shareSight 29 = .ok (.iaload, 1) := by decide +kernel
theorem dX2_shareSight_30 : decode cX2_shareSight 30 = .ok (.aload_n 0, 1) := by decide +kernel
theorem dX2_shareSight_31 : decode cX2_shareSight 31 = .ok (.getfield 37, 3) := by decide +kernel
theorem dX2_shareSight_34 : decode cX2_shareSight 34 = .ok (.iload 5, 2) := by decide +kernel
theorem dX2_shareSight_36 : decode cX2_shareSight 36 = .ok (.iaload, 1) := by decide +kernel
theorem dX2_shareSight_37 : decode cX2_shareSight 37 = .ok (.if_icmp .ne 46, 3) := by decide +kernel
theorem dX2_shareSight_40 : decode cX2_shareSight 40 = .ok (.aload_n 0, 1) := by decide +kernel
theorem dX2_shareSight_41 : decode cX2_shareSight 41 = .ok (.getfield 49, 3) := by decide +kernel
theorem dX2_shareSight_44 : decode cX2_shareSight 44 = .ok (.iload 4, 2) := by decide +kernel
theorem dX2_shareSight_46 : decode cX2_shareSight 46 = .ok (.iaload, 1) := by decide +kernel
theorem dX2_shareSight_47 : decode cX2_shareSight 47 = .ok (.aload_n 0, 1) := by decide +kernel
theorem dX2_shareSight_48 : decode cX2_shareSight 48 = .ok (.getfield 49, 3) := by decide +kernel
theorem dX2_shareSight_51 : decode cX2_shareSight 51 = .ok (.iload 5, 2) := by decide +kernel
theorem dX2_shareSight_53 : decode cX2_shareSight 53 = .ok (.iaload, 1) := by decide +kernel
theorem dX2_shareSight_54 : decode cX2_shareSight 54 = .ok (.ior, 1) := by decide +kernel
theorem dX2_shareSight_55 : decode cX2_shareSight 55 = .ok (.iconst 1, 1) := by decide +kernel
theorem dX2_shareSight_56 : decode cX2_shareSight 56 = .ok (.iload_n 1, 1) := by decide +kernel
theorem dX2_shareSight_57 : decode cX2_shareSight 57 = .ok (.ishl, 1) := by decide +kernel
theorem dX2_shareSight_58 : decode cX2_shareSight 58 = .ok (.ior, 1) := by decide +kernel
theorem dX2_shareSight_59 : decode cX2_shareSight 59 = .ok (.iconst 1, 1) := by decide +kernel
theorem dX2_shareSight_60 : decode cX2_shareSight 60 = .ok (.iload_n 2, 1) := by decide +kernel
theorem dX2_shareSight_61 : decode cX2_shareSight 61 = .ok (.ishl, 1) := by decide +kernel
theorem dX2_shareSight_62 : decode cX2_shareSight 62 = .ok (.ior, 1) := by decide +kernel
theorem dX2_shareSight_63 : decode cX2_shareSight 63 = .ok (.istore 6, 2) := by decide +kernel
theorem dX2_shareSight_65 : decode cX2_shareSight 65 = .ok (.aload_n 0, 1) := by decide +kernel
theorem dX2_shareSight_66 : decode cX2_shareSight 66 = .ok (.getfield 49, 3) := by decide +kernel
theorem dX2_shareSight_69 : decode cX2_shareSight 69 = .ok (.iload 4, 2) := by decide +kernel
theorem dX2_shareSight_71 : decode cX2_shareSight 71 = .ok (.iload 6, 2) := by decide +kernel
theorem dX2_shareSight_73 : decode cX2_shareSight 73 = .ok (.iastore, 1) := by decide +kernel
theorem dX2_shareSight_74 : decode cX2_shareSight 74 = .ok (.aload_n 0, 1) := by decide +kernel
theorem dX2_shareSight_75 : decode cX2_shareSight 75 = .ok (.getfield 49, 3) := by decide +kernel
theorem dX2_shareSight_78 : decode cX2_shareSight 78 = .ok (.iload 5, 2) := by decide +kernel
theorem dX2_shareSight_80 : decode cX2_shareSight 80 = .ok (.iload 6, 2) := by decide +kernel
theorem dX2_shareSight_82 : decode cX2_shareSight 82 = .ok (.iastore, 1) := by decide +kernel
theorem dX2_shareSight_83 : decode cX2_shareSight 83 = .ok (.return_, 1) := by decide +kernel
theorem dX2_letGoBy_0 : decode cX2_letGoBy 0 = .ok (.iload_n 1, 1) := by decide +kernel
theorem dX2_letGoBy_1 : decode cX2_letGoBy 1 = .ok (.iconst 1, 1) := by decide +kernel
theorem dX2_letGoBy_2 : decode cX2_letGoBy 2 = .ok (.if_icmp .lt 9, 3) := by decide +kernel
theorem dX2_letGoBy_5 : decode cX2_letGoBy 5 = .ok (.iload_n 1, 1) := by decide +kernel
theorem dX2_letGoBy_6 : decode cX2_letGoBy 6 = .ok (.bipush 60, 2) := by decide +kernel
theorem dX2_letGoBy_8 : decode cX2_letGoBy 8 = .ok (.if_icmp .le 6, 3) := by decide +kernel
theorem dX2_letGoBy_11 : decode cX2_letGoBy 11 = .ok (.ldc 73, 2) := by decide +kernel
theorem dX2_letGoBy_13 : decode cX2_letGoBy 13 = .ok (.ireturn, 1) := by decide +kernel
theorem dX2_letGoBy_14 : decode cX2_letGoBy 14 = .ok (.aload_n 0, 1) := by decide +kernel
theorem dX2_letGoBy_15 : decode cX2_letGoBy 15 = .ok (.getfield 15, 3) := by decide +kernel
theorem dX2_letGoBy_18 : decode cX2_letGoBy 18 = .ok (.iload_n 1, 1) := by decide +kernel
theorem dX2_letGoBy_19 : decode cX2_letGoBy 19 = .ok (.iadd, 1) := by decide +kernel
theorem dX2_letGoBy_20 : decode cX2_letGoBy 20 = .ok (.ldc 154, 2) := by decide +kernel
theorem dX2_letGoBy_22 : decode cX2_letGoBy 22 = .ok (.if_icmp .le 6, 3) := by decide +kernel
theorem dX2_letGoBy_25 : decode cX2_letGoBy 25 = .ok (.ldc 72, 2) := by decide +kernel
theorem dX2_letGoBy_27 : decode cX2_letGoBy 27 = .ok (.ireturn, 1) := by decide +kernel
theorem dX2_letGoBy_28 : decode cX2_letGoBy 28 = .ok (.aload_n 0, 1) := by decide +kernel
theorem dX2_letGoBy_29 : decode cX2_letGoBy 29 = .ok (.iload_n 1, 1) := by decide +kernel
theorem dX2_letGoBy_30 : decode cX2_letGoBy 30 = .ok (.invokevirtual 155, 3) := by decide +kernel
theorem dX2_letGoBy_33 : decode cX2_letGoBy 33 = .ok (.ireturn, 1) := by decide +kernel
theorem dX2_pass_0 : decode cX2_pass 0 = .ok (.aload_n 0, 1) := by decide +kernel
theorem dX2_pass_1 : decode cX2_pass 1 = .ok (.dup, 1) := by decide +kernel
theorem dX2_pass_2 : decode cX2_pass 2 = .ok (.getfield 15, 3) := by decide +kernel
theorem dX2_pass_5 : decode cX2_pass 5 = .ok (.iload_n 1, 1) := by decide +kernel
theorem dX2_pass_6 : decode cX2_pass 6 = .ok (.iadd, 1) := by decide +kernel
theorem dX2_pass_7 : decode cX2_pass 7 = .ok (.putfield 15, 3) := by decide +kernel
theorem dX2_pass_10 : decode cX2_pass 10 = .ok (.iconst 0, 1) := by decide +kernel
theorem dX2_pass_11 : decode cX2_pass 11 = .ok (.istore_n 2, 1) := by decide +kernel
theorem dX2_pass_12 : decode cX2_pass 12 = .ok (.aload_n 0, 1) := by decide +kernel
theorem dX2_pass_13 : decode cX2_pass 13 = .ok (.invokevirtual 158, 3) := by decide +kernel
theorem dX2_pass_16 : decode cX2_pass 16 = .ok (.istore_n 3, 1) := by decide +kernel
theorem dX2_pass_17 : decode cX2_pass 17 = .ok (.iconst 0, 1) := by decide +kernel
theorem dX2_pass_18 : decode cX2_pass 18 = .ok (.istore 4, 2) := by decide +kernel
theorem dX2_pass_20 : decode cX2_pass 20 = .ok (.iload 4, 2) := by decide +kernel
theorem dX2_pass_22 : decode cX2_pass 22 = .ok (.aload_n 0, 1) := by decide +kernel
theorem dX2_pass_23 : decode cX2_pass 23 = .ok (.getfield 9, 3) := by decide +kernel
theorem dX2_pass_26 : decode cX2_pass 26 = .ok (.if_icmp .ge 88, 3) := by decide +kernel
theorem dX2_pass_29 : decode cX2_pass 29 = .ok (.iconst 0, 1) := by decide +kernel
theorem dX2_pass_30 : decode cX2_pass 30 = .ok (.istore 5, 2) := by decide +kernel
theorem dX2_pass_32 : decode cX2_pass 32 = .ok (.iload 5, 2) := by decide +kernel
theorem dX2_pass_34 : decode cX2_pass 34 = .ok (.bipush 12, 2) := by decide +kernel
theorem dX2_pass_36 : decode cX2_pass 36 = .ok (.if_icmp .ge 72, 3) := by decide +kernel
theorem dX2_pass_39 : decode cX2_pass 39 = .ok (.iload 4, 2) := by decide +kernel
theorem dX2_pass_41 : decode cX2_pass 41 = .ok (.iload 5, 2) := by decide +kernel
theorem dX2_pass_43 : decode cX2_pass 43 = .ok (.invokestatic 88, 3) := by decide +kernel
theorem dX2_pass_46 : decode cX2_pass 46 = .ok (.istore 6, 2) := by decide +kernel
theorem dX2_pass_48 : decode cX2_pass 48 = .ok (.aload_n 0, 1) := by decide +kernel
theorem dX2_pass_49 : decode cX2_pass 49 = .ok (.iload 6, 2) := by decide +kernel
theorem dX2_pass_51 : decode cX2_pass 51 = .ok (.invokevirtual 95, 3) := by decide +kernel
theorem dX2_pass_54 : decode cX2_pass 54 = .ok (.ifCond .eq 48, 3) := by decide +kernel
theorem dX2_pass_57 : decode cX2_pass 57 = .ok (.aload_n 0, 1) := by decide +kernel
theorem dX2_pass_58 : decode cX2_pass 58 = .ok (.iload 6, 2) := by decide +kernel
theorem dX2_pass_60 : decode cX2_pass 60 = .ok (.iload_n 3, 1) := by decide +kernel
theorem dX2_pass_61 : decode cX2_pass 61 = .ok (.invokevirtual 162, 3) := by decide +kernel
theorem dX2_pass_64 : decode cX2_pass 64 = .ok (.ifCond .eq 38, 3) := by decide +kernel
theorem dX2_pass_67 : decode cX2_pass 67 = .ok (.aload_n 0, 1) := by decide +kernel
theorem dX2_pass_68 : decode cX2_pass 68 = .ok (.getfield 52, 3) := by decide +kernel
theorem dX2_pass_71 : decode cX2_pass 71 = .ok (.iload 6, 2) := by decide +kernel
theorem dX2_pass_73 : decode cX2_pass 73 = .ok (.aload_n 0, 1) := by decide +kernel
theorem dX2_pass_74 : decode cX2_pass 74 = .ok (.getfield 52, 3) := by decide +kernel
theorem dX2_pass_77 : decode cX2_pass 77 = .ok (.iload 6, 2) := by decide +kernel
theorem dX2_pass_79 : decode cX2_pass 79 = .ok (.iaload, 1) := by decide +kernel
theorem dX2_pass_80 : decode cX2_pass 80 = .ok (.aload_n 0, 1) := by decide +kernel
theorem dX2_pass_81 : decode cX2_pass 81 = .ok (.getfield 37, 3) := by decide +kernel
theorem dX2_pass_84 : decode cX2_pass 84 = .ok (.iload 6, 2) := by decide +kernel
theorem dX2_pass_86 : decode cX2_pass 86 = .ok (.iaload, 1) := by decide +kernel
theorem dX2_pass_87 : decode cX2_pass 87 = .ok (.invokestatic 123, 3) := by decide +kernel
theorem dX2_pass_90 : decode cX2_pass 90 = .ok (.iastore, 1) := by decide +kernel
theorem dX2_pass_91 : decode cX2_pass 91 = .ok (.aload_n 0, 1) := by decide +kernel
theorem dX2_pass_92 : decode cX2_pass 92 = .ok (.getfield 37, 3) := by decide +kernel
theorem dX2_pass_95 : decode cX2_pass 95 = .ok (.iload 6, 2) := by decide +kernel
theorem dX2_pass_97 : decode cX2_pass 97 = .ok (.iconst 0, 1) := by decide +kernel
theorem dX2_pass_98 : decode cX2_pass 98 = .ok (.iastore, 1) := by decide +kernel
theorem dX2_pass_99 : decode cX2_pass 99 = .ok (.iinc 2 1, 3) := by decide +kernel
theorem dX2_pass_102 : decode cX2_pass 102 = .ok (.iinc 5 1, 3) := by decide +kernel
theorem dX2_pass_105 : decode cX2_pass 105 = .ok (.goto (-73), 3) := by decide +kernel
theorem dX2_pass_108 : decode cX2_pass 108 = .ok (.iinc 4 1, 3) := by decide +kernel
theorem dX2_pass_111 : decode cX2_pass 111 = .ok (.goto (-91), 3) := by decide +kernel
theorem dX2_pass_114 : decode cX2_pass 114 = .ok (.iload_n 2, 1) := by decide +kernel
theorem dX2_pass_115 : decode cX2_pass 115 = .ok (.ireturn, 1) := by decide +kernel
theorem dX2_isOver_0 : decode cX2_isOver 0 = .ok (.iload_n 2, 1) := by decide +kernel
theorem dX2_isOver_1 : decode cX2_isOver 1 = .ok (.aload_n 0, 1) := by decide +kernel
theorem dX2_isOver_2 : decode cX2_isOver 2 = .ok (.getfield 49, 3) := by decide +kernel
theorem dX2_isOver_5 : decode cX2_isOver 5 = .ok (.iload_n 1, 1) := by decide +kernel
theorem dX2_isOver_6 : decode cX2_isOver 6 = .ok (.iaload, 1) := by decide +kernel
theorem dX2_isOver_7 : decode cX2_isOver 7 = .ok (.iconst (-1), 1) := by decide +kernel
theorem dX2_isOver_8 : decode cX2_isOver 8 = .ok (.ixor, 1) := by decide +kernel
theorem dX2_isOver_9 : decode cX2_isOver 9 = .ok (.iand, 1) := by decide +kernel
theorem dX2_isOver_10 : decode cX2_isOver 10 = .ok (.ifCond .eq 21, 3) := by decide +kernel
theorem dX2_isOver_13 : decode cX2_isOver 13 = .ok (.aload_n 0, 1) := by decide +kernel
theorem dX2_isOver_14 : decode cX2_isOver 14 = .ok (.getfield 15, 3) := by decide +kernel
theorem dX2_isOver_17 : decode cX2_isOver 17 = .ok (.aload_n 0, 1) := by decide +kernel
theorem dX2_isOver_18 : decode cX2_isOver 18 = .ok (.getfield 46, 3) := by decide +kernel
theorem dX2_isOver_21 : decode cX2_isOver 21 = .ok (.iload_n 1, 1) := by decide +kernel
theorem dX2_isOver_22 : decode cX2_isOver 22 = .ok (.iaload, 1) := by decide +kernel
theorem dX2_isOver_23 : decode cX2_isOver 23 = .ok (.isub, 1) := by decide +kernel
theorem dX2_isOver_24 : decode cX2_isOver 24 = .ok (.aload_n 0, 1) := by decide +kernel
theorem dX2_isOver_25 : decode cX2_isOver 25 = .ok (.getfield 18, 3) := by decide +kernel
theorem dX2_isOver_28 : decode cX2_isOver 28 = .ok (.if_icmp .lt 7, 3) := by decide +kernel
theorem dX2_isOver_31 : decode cX2_isOver 31 = .ok (.iconst 1, 1) := by decide +kernel
theorem dX2_isOver_32 : decode cX2_isOver 32 = .ok (.goto 4, 3) := by decide +kernel
theorem dX2_isOver_35 : decode cX2_isOver 35 = .ok (.iconst 0, 1) := by decide +kernel
theorem dX2_isOver_36 : decode cX2_isOver 36 = .ok (.ireturn, 1) := by decide +kernel
theorem dX2_present_0 : decode cX2_present 0 = .ok (.iconst 0, 1) := by decide +kernel
theorem dX2_present_1 : decode cX2_present 1 = .ok (.istore_n 1, 1) := by decide +kernel
theorem dX2_present_2 : decode cX2_present 2 = .ok (.iconst 0, 1) := by decide +kernel
theorem dX2_present_3 : decode cX2_present 3 = .ok (.istore_n 2, 1) := by decide +kernel
theorem dX2_present_4 : decode cX2_present 4 = .ok (.iload_n 2, 1) := by decide +kernel
theorem dX2_present_5 : decode cX2_present 5 = .ok (.aload_n 0, 1) := by decide +kernel
theorem dX2_present_6 : decode cX2_present 6 = .ok (.getfield 9, 3) := by decide +kernel
theorem dX2_present_9 : decode cX2_present 9 = .ok (.if_icmp .ge 25, 3) := by decide +kernel
theorem dX2_present_12 : decode cX2_present 12 = .ok (.aload_n 0, 1) := by decide +kernel
theorem dX2_present_13 : decode cX2_present 13 = .ok (.getfield 24, 3) := by decide +kernel
theorem dX2_present_16 : decode cX2_present 16 = .ok (.iload_n 2, 1) := by decide +kernel
theorem dX2_present_17 : decode cX2_present 17 = .ok (.iaload, 1) := by decide +kernel
theorem dX2_present_18 : decode cX2_present 18 = .ok (.iconst 2, 1) := by decide +kernel
theorem dX2_present_19 : decode cX2_present 19 = .ok (.if_icmp .eq 9, 3) := by decide +kernel
theorem dX2_present_22 : decode cX2_present 22 = .ok (.iload_n 1, 1) := by decide +kernel
theorem dX2_present_23 : decode cX2_present 23 = .ok (.iconst 1, 1) := by decide +kernel
theorem dX2_present_24 : decode cX2_present 24 = .ok (.iload_n 2, 1) := by decide +kernel
theorem dX2_present_25 : decode cX2_present 25 = .ok (.ishl, 1) := by decide +kernel
theorem dX2_present_26 : decode cX2_present 26 = .ok (.ior, 1) := by decide +kernel
theorem dX2_present_27 : decode cX2_present 27 = .ok (.istore_n 1, 1) := by decide +kernel
theorem dX2_present_28 : decode cX2_present 28 = .ok (.iinc 2 1, 3) := by decide +kernel
theorem dX2_present_31 : decode cX2_present 31 = .ok (.goto (-27), 3) := by decide +kernel
theorem dX2_present_34 : decode cX2_present 34 = .ok (.iload_n 1, 1) := by decide +kernel
theorem dX2_present_35 : decode cX2_present 35 = .ok (.ireturn, 1) := by decide +kernel
theorem dX3_init_0 : decode cX3_init 0 = .ok (.aload_n 0, 1) := by decide +kernel
theorem dX3_init_1 : decode cX3_init 1 = .ok (.invokespecial 1, 3) := by decide +kernel
theorem dX3_init_4 : decode cX3_init 4 = .ok (.aload_n 0, 1) := by decide +kernel
theorem dX3_init_5 : decode cX3_init 5 = .ok (.new 7, 3) := by decide +kernel
theorem dX3_init_8 : decode cX3_init 8 = .ok (.dup, 1) := by decide +kernel
theorem dX3_init_9 : decode cX3_init 9 = .ok (.invokespecial 9, 3) := by decide +kernel
theorem dX3_init_12 : decode cX3_init 12 = .ok (.putfield 10, 3) := by decide +kernel
theorem dX3_init_15 : decode cX3_init 15 = .ok (.aload_n 0, 1) := by decide +kernel
theorem dX3_init_16 : decode cX3_init 16 = .ok (.new 7, 3) := by decide +kernel
theorem dX3_init_19 : decode cX3_init 19 = .ok (.dup, 1) := by decide +kernel
theorem dX3_init_20 : decode cX3_init 20 = .ok (.invokespecial 9, 3) := by decide +kernel
theorem dX3_init_23 : decode cX3_init 23 = .ok (.putfield 16, 3) := by decide +kernel
theorem dX3_init_26 : decode cX3_init 26 = .ok (.aload_n 0, 1) := by decide +kernel
theorem dX3_init_27 : decode cX3_init 27 = .ok (.new 19, 3) := by decide +kernel
theorem dX3_init_30 : decode cX3_init 30 = .ok (.dup, 1) := by decide +kernel
theorem dX3_init_31 : decode cX3_init 31 = .ok (.invokespecial 21, 3) := by decide +kernel
theorem dX3_init_34 : decode cX3_init 34 = .ok (.putfield 22, 3) := by decide +kernel
theorem dX3_init_37 : decode cX3_init 37 = .ok (.aload_n 0, 1) := by decide +kernel
theorem dX3_init_38 : decode cX3_init 38 = .ok (.new 26, 3) := by decide +kernel
theorem dX3_init_41 : decode cX3_init 41 = .ok (.dup, 1) := by decide +kernel
theorem dX3_init_42 : decode cX3_init 42 = .ok (.invokespecial 28, 3) := by decide +kernel
theorem dX3_init_45 : decode cX3_init 45 = .ok (.putfield 29, 3) := by decide +kernel
theorem dX3_init_48 : decode cX3_init 48 = .ok (.return_, 1) := by decide +kernel
theorem dX3_villager_0 : decode cX3_villager 0 = .ok (.aload_n 0, 1) := by decide +kernel
theorem dX3_villager_1 : decode cX3_villager 1 = .ok (.getfield 22, 3) := by decide +kernel
theorem dX3_villager_4 : decode cX3_villager 4 = .ok (.aload_n 0, 1) := by decide +kernel
theorem dX3_villager_5 : decode cX3_villager 5 = .ok (.getfield 10, 3) := by decide +kernel
theorem dX3_villager_8 : decode cX3_villager 8 = .ok (.invokevirtual 33, 3) := by decide +kernel
theorem dX3_villager_11 : decode cX3_villager 11 = .ok (.aload_n 0, 1) := by decide +kernel
theorem dX3_villager_12 : decode cX3_villager 12 = .ok (.aload_n 0, 1) := by decide +kernel
theorem dX3_villager_13 : decode cX3_villager 13 = .ok (.getfield 10, 3) := by decide +kernel
theorem dX3_villager_16 : decode cX3_villager 16 = .ok (.invokevirtual 37, 3) := by decide +kernel
theorem dX3_villager_19 : decode cX3_villager 19 = .ok (.invokevirtual 41, 3) := by decide +kernel
theorem dX3_villager_22 : decode cX3_villager 22 = .ok (.ireturn, 1) := by decide +kernel
theorem dX3_sleep_0 : decode cX3_sleep 0 = .ok (.aload_n 0, 1) := by decide +kernel
theorem dX3_sleep_1 : decode cX3_sleep 1 = .ok (.getfield 22, 3) := by decide +kernel
theorem dX3_sleep_4 : decode cX3_sleep 4 = .ok (.aload_n 0, 1) := by decide +kernel
theorem dX3_sleep_5 : decode cX3_sleep 5 = .ok (.getfield 10, 3) := by decide +kernel
theorem dX3_sleep_8 : decode cX3_sleep 8 = .ok (.invokevirtual 33, 3) := by decide +kernel
theorem dX3_sleep_11 : decode cX3_sleep 11 = .ok (.aload_n 0, 1) := by decide +kernel
theorem dX3_sleep_12 : decode cX3_sleep 12 = .ok (.aload_n 0, 1) := by decide +kernel
theorem dX3_sleep_13 : decode cX3_sleep 13 = .ok (.getfield 10, 3) := by decide +kernel
theorem dX3_sleep_16 : decode cX3_sleep 16 = .ok (.iload_n 1, 1) := by decide +kernel
theorem dX3_sleep_17 : decode cX3_sleep 17 = .ok (.invokevirtual 45, 3) := by decide +kernel
theorem dX3_sleep_20 : decode cX3_sleep 20 = .ok (.invokevirtual 41, 3) := by decide +kernel
theorem dX3_sleep_23 : decode cX3_sleep 23 = .ok (.ireturn, 1) := by decide +kernel
theorem dX3_wake_0 : decode cX3_wake 0 = .ok (.aload_n 0, 1) := by decide +kernel
theorem dX3_wake_1 : decode cX3_wake 1 = .ok (.getfield 22, 3) := by decide +kernel
theorem dX3_wake_4 : decode cX3_wake 4 = .ok (.aload_n 0, 1) := by decide +kernel
theorem dX3_wake_5 : decode cX3_wake 5 = .ok (.getfield 10, 3) := by decide +kernel
theorem dX3_wake_8 : decode cX3_wake 8 = .ok (.invokevirtual 33, 3) := by decide +kernel
theorem dX3_wake_11 : decode cX3_wake 11 = .ok (.aload_n 0, 1) := by decide +kernel
theorem dX3_wake_12 : decode cX3_wake 12 = .ok (.aload_n 0, 1) := by decide +kernel
theorem dX3_wake_13 : decode cX3_wake 13 = .ok (.getfield 10, 3) := by decide +kernel
theorem dX3_wake_16 : decode cX3_wake 16 = .ok (.iload_n 1, 1) := by decide +kernel
theorem dX3_wake_17 : decode cX3_wake 17 = .ok (.invokevirtual 48, 3) := by decide +kernel
theorem dX3_wake_20 : decode cX3_wake 20 = .ok (.invokevirtual 41, 3) := by decide +kernel
theorem dX3_wake_23 : decode cX3_wake 23 = .ok (.ireturn, 1) := by decide +kernel
theorem dX3_leave_0 : decode cX3_leave 0 = .ok (.aload_n 0, 1) := by decide +kernel
theorem dX3_leave_1 : decode cX3_leave 1 = .ok (.getfield 22, 3) := by decide +kernel
theorem dX3_leave_4 : decode cX3_leave 4 = .ok (.aload_n 0, 1) := by decide +kernel
theorem dX3_leave_5 : decode cX3_leave 5 = .ok (.getfield 10, 3) := by decide +kernel
theorem dX3_leave_8 : decode cX3_leave 8 = .ok (.invokevirtual 33, 3) := by decide +kernel
theorem dX3_leave_11 : decode cX3_leave 11 = .ok (.aload_n 0, 1) := by decide +kernel
theorem dX3_leave_12 : decode cX3_leave 12 = .ok (.aload_n 0, 1) := by decide +kernel
theorem dX3_leave_13 : decode cX3_leave 13 = .ok (.getfield 10, 3) := by decide +kernel
theorem dX3_leave_16 : decode cX3_leave 16 = .ok (.iload_n 1, 1) := by decide +kernel
theorem dX3_leave_17 : decode cX3_leave 17 = .ok (.invokevirtual 51, 3) := by decide +kernel
theorem dX3_leave_20 : decode cX3_leave 20 = .ok (.invokevirtual 41, 3) := by decide +kernel
theorem dX3_leave_23 : decode cX3_leave 23 = .ok (.ireturn, 1) := by decide +kernel
theorem dX3_watch_0 : decode cX3_watch 0 = .ok (.aload_n 0, 1) := by decide +kernel
theorem dX3_watch_1 : decode cX3_watch 1 = .ok (.getfield 22, 3) := by decide +kernel
theorem dX3_watch_4 : decode cX3_watch 4 = .ok (.aload_n 0, 1) := by decide +kernel
theorem dX3_watch_5 : decode cX3_watch 5 = .ok (.getfield 10, 3) := by decide +kernel
theorem dX3_watch_8 : decode cX3_watch 8 = .ok (.invokevirtual 33, 3) := by decide +kernel
theorem dX3_watch_11 : decode cX3_watch 11 = .ok (.aload_n 0, 1) := by decide +kernel
theorem dX3_watch_12 : decode cX3_watch 12 = .ok (.aload_n 0, 1) := by decide +kernel
theorem dX3_watch_13 : decode cX3_watch 13 = .ok (.getfield 10, 3) := by decide +kernel
theorem dX3_watch_16 : decode cX3_watch 16 = .ok (.iload_n 1, 1) := by decide +kernel
theorem dX3_watch_17 : decode cX3_watch 17 = .ok (.invokevirtual 54, 3) := by decide +kernel
theorem dX3_watch_20 : decode cX3_watch 20 = .ok (.invokevirtual 41, 3) := by decide +kernel
theorem dX3_watch_23 : decode cX3_watch 23 = .ok (.ireturn, 1) := by decide +kernel
theorem dX3_villagerOf_0 : decode cX3_villagerOf 0 = .ok (.aload_n 0, 1) := by decide +kernel
theorem dX3_villagerOf_1 : decode cX3_villagerOf 1 = .ok (.getfield 10, 3) := by decide +kernel
theorem dX3_villagerOf_4 : decode cX3_villagerOf 4 = .ok (.iload_n 1, 1) := by decide +kernel
theorem dX3_villagerOf_5 : decode cX3_villagerOf 5 = .ok (.invokevirtual 57, 3) := by decide +kernel
theorem dX3_villagerOf_8 : decode cX3_villagerOf 8 = .ok (.ifCond .ne 6, 3) := by decide +kernel
theorem dX3_villagerOf_11 : decode cX3_villagerOf 11 = .ok (.ldc 61, 2) := by decide +kernel
theorem dX3_villagerOf_13 : decode cX3_villagerOf 13 = .ok (.ireturn, 1) := by decide +kernel
theorem dX3_villagerOf_14 : decode cX3_villagerOf 14 = .ok (.iload_n 2, 1) := by decide +kernel
theorem dX3_villagerOf_15 : decode cX3_villagerOf 15 = .ok (.tableswitch 110 0 5 #[37, 47, 57, 66, 75, 85], 37) := by decide +kernel
theorem dX3_villagerOf_52 : decode cX3_villagerOf 52 = .ok (.aload_n 0, 1) := by decide +kernel
theorem dX3_villagerOf_53 : decode cX3_villagerOf 53 = .ok (.getfield 10, 3) := by decide +kernel
theorem dX3_villagerOf_56 : decode cX3_villagerOf 56 = .ok (.getfield 62, 3) := by decide +kernel
theorem dX3_villagerOf_59 : decode cX3_villagerOf 59 = .ok (.iload_n 1, 1) := by decide +kernel
theorem dX3_villagerOf_60 : decode cX3_villagerOf 60 = .ok (.iaload, 1) := by decide +kernel
theorem dX3_villagerOf_61 : decode cX3_villagerOf 61 = .ok (.ireturn, 1) := by decide +kernel
theorem dX3_villagerOf_62 : decode cX3_villagerOf 62 = .ok (.aload_n 0, 1) := by decide +kernel
theorem dX3_villagerOf_63 : decode cX3_villagerOf 63 = .ok (.getfield 10, 3) := by decide +kernel
theorem dX3_villagerOf_66 : decode cX3_villagerOf 66 = .ok (.getfield 66, 3) := by decide +kernel
theorem dX3_villagerOf_69 : decode cX3_villagerOf 69 = .ok (.iload_n 1, 1) := by decide +kernel
theorem dX3_villagerOf_70 : decode cX3_villagerOf 70 = .ok (.iaload, 1) := by decide +kernel
theorem dX3_villagerOf_71 : decode cX3_villagerOf 71 = .ok (.ireturn, 1) := by decide +kernel
theorem dX3_villagerOf_72 : decode cX3_villagerOf 72 = .ok (.aload_n 0, 1) := by decide +kernel
theorem dX3_villagerOf_73 : decode cX3_villagerOf 73 = .ok (.getfield 10, 3) := by decide +kernel
theorem dX3_villagerOf_76 : decode cX3_villagerOf 76 = .ok (.iload_n 1, 1) := by decide +kernel
theorem dX3_villagerOf_77 : decode cX3_villagerOf 77 = .ok (.invokevirtual 69, 3) := by decide +kernel
theorem dX3_villagerOf_80 : decode cX3_villagerOf 80 = .ok (.ireturn, 1) := by decide +kernel
theorem dX3_villagerOf_81 : decode cX3_villagerOf 81 = .ok (.aload_n 0, 1) := by decide +kernel
theorem dX3_villagerOf_82 : decode cX3_villagerOf 82 = .ok (.getfield 10, 3) := by decide +kernel
theorem dX3_villagerOf_85 : decode cX3_villagerOf 85 = .ok (.iload_n 1, 1) := by decide +kernel
theorem dX3_villagerOf_86 : decode cX3_villagerOf 86 = .ok (.invokevirtual 72, 3) := by decide +kernel
theorem dX3_villagerOf_89 : decode cX3_villagerOf 89 = .ok (.ireturn, 1) := by decide +kernel
theorem dX3_villagerOf_90 : decode cX3_villagerOf 90 = .ok (.aload_n 0, 1) := by decide +kernel
theorem dX3_villagerOf_91 : decode cX3_villagerOf 91 = .ok (.getfield 10, 3) := by decide +kernel
theorem dX3_villagerOf_94 : decode cX3_villagerOf 94 = .ok (.getfield 75, 3) := by decide +kernel
theorem dX3_villagerOf_97 : decode cX3_villagerOf 97 = .ok (.iload_n 1, 1) := by decide +kernel
theorem dX3_villagerOf_98 : decode cX3_villagerOf 98 = .ok (.iaload, 1) := by decide +kernel
theorem dX3_villagerOf_99 : decode cX3_villagerOf 99 = .ok (.ireturn, 1) := by decide +kernel
theorem dX3_villagerOf_100 : decode cX3_villagerOf 100 = .ok (.aload_n 0, 1) := by decide +kernel
theorem dX3_villagerOf_101 : decode cX3_villagerOf 101 = .ok (.getfield 10, 3) := by decide +kernel
theorem dX3_villagerOf_104 : decode cX3_villagerOf 104 = .ok (.iload_n 1, 1) := by decide +kernel
theorem dX3_villagerOf_105 : decode cX3_villagerOf 105 = .ok (.invokevirtual 78, 3) := by decide +kernel
theorem dX3_villagerOf_108 : decode cX3_villagerOf 108 = .ok (.ifCond .eq 14, 3) := by decide +kernel
theorem dX3_villagerOf_111 : decode cX3_villagerOf 111 = .ok (.aload_n 0, 1) := by decide +kernel
theorem dX3_villagerOf_112 : decode cX3_villagerOf 112 = .ok (.getfield 10, 3) := by decide +kernel
theorem dX3_villagerOf_115 : decode cX3_villagerOf 115 = .ok (.iload_n 1, 1) := by decide +kernel
theorem dX3_villagerOf_116 : decode cX3_villagerOf 116 = .ok (.invokevirtual 81, 3) := by decide +kernel
theorem dX3_villagerOf_119 : decode cX3_villagerOf 119 = .ok (.goto 5, 3) := by decide +kernel
theorem dX3_villagerOf_122 : decode cX3_villagerOf 122 = .ok (.ldc 84, 2) := by decide +kernel
theorem dX3_villagerOf_124 : decode cX3_villagerOf 124 = .ok (.ireturn, 1) := by decide +kernel
theorem dX3_villagerOf_125 : decode cX3_villagerOf 125 = .ok (.ldc 61, 2) := by decide +kernel
theorem dX3_villagerOf_127 : decode cX3_villagerOf 127 = .ok (.ireturn, 1) := by decide +kernel
theorem dX3_tell_0 : decode cX3_tell 0 = .ok (.aload_n 0, 1) := by decide +kernel
theorem dX3_tell_1 : decode cX3_tell 1 = .ok (.getfield 22, 3) := by decide +kernel
theorem dX3_tell_4 : decode cX3_tell 4 = .ok (.aload_n 0, 1) := by decide +kernel
theorem dX3_tell_5 : decode cX3_tell 5 = .ok (.getfield 10, 3) := by decide +kernel
theorem dX3_tell_8 : decode cX3_tell 8 = .ok (.invokevirtual 33, 3) := by decide +kernel
theorem dX3_tell_11 : decode cX3_tell 11 = .ok (.aload_n 0, 1) := by decide +kernel
theorem dX3_tell_12 : decode cX3_tell 12 = .ok (.aload_n 0, 1) := by decide +kernel
theorem dX3_tell_13 : decode cX3_tell 13 = .ok (.getfield 10, 3) := by decide +kernel
theorem dX3_tell_16 : decode cX3_tell 16 = .ok (.iload_n 1, 1) := by decide +kernel
theorem dX3_tell_17 : decode cX3_tell 17 = .ok (.iload_n 2, 1) := by decide +kernel
theorem dX3_tell_18 : decode cX3_tell 18 = .ok (.iload_n 3, 1) := by decide +kernel
theorem dX3_tell_19 : decode cX3_tell 19 = .ok (.iload 4, 2) := by decide +kernel
theorem dX3_tell_21 : decode cX3_tell 21 = .ok (.invokevirtual 85, 3) := by decide +kernel
theorem dX3_tell_24 : decode cX3_tell 24 = .ok (.invokevirtual 41, 3) := by decide +kernel
theorem dX3_tell_27 : decode cX3_tell 27 = .ok (.ireturn, 1) := by decide +kernel
theorem dX3_bury_0 : decode cX3_bury 0 = .ok (.aload_n 0, 1) := by decide +kernel
theorem dX3_bury_1 : decode cX3_bury 1 = .ok (.getfield 22, 3) := by decide +kernel
theorem dX3_bury_4 : decode cX3_bury 4 = .ok (.aload_n 0, 1) := by decide +kernel
theorem dX3_bury_5 : decode cX3_bury 5 = .ok (.getfield 10, 3) := by decide +kernel
theorem dX3_bury_8 : decode cX3_bury 8 = .ok (.invokevirtual 33, 3) := by decide +kernel
theorem dX3_bury_11 : decode cX3_bury 11 = .ok (.aload_n 0, 1) := by decide +kernel
theorem dX3_bury_12 : decode cX3_bury 12 = .ok (.aload_n 0, 1) := by decide +kernel
theorem dX3_bury_13 : decode cX3_bury 13 = .ok (.getfield 10, 3) := by decide +kernel
theorem dX3_bury_16 : decode cX3_bury 16 = .ok (.iload_n 1, 1) := by decide +kernel
theorem dX3_bury_17 : decode cX3_bury 17 = .ok (.iload_n 2, 1) := by decide +kernel
theorem dX3_bury_18 : decode cX3_bury 18 = .ok (.invokevirtual 89, 3) := by decide +kernel
theorem dX3_bury_21 : decode cX3_bury 21 = .ok (.invokevirtual 41, 3) := by decide +kernel
theorem dX3_bury_24 : decode cX3_bury 24 = .ok (.ireturn, 1) := by decide +kernel
theorem dX3_meet_0 : decode cX3_meet 0 = .ok (.aload_n 0, 1) := by decide +kernel
theorem dX3_meet_1 : decode cX3_meet 1 = .ok (.getfield 22, 3) := by decide +kernel
theorem dX3_meet_4 : decode cX3_meet 4 = .ok (.aload_n 0, 1) := by decide +kernel
theorem dX3_meet_5 : decode cX3_meet 5 = .ok (.getfield 10, 3) := by decide +kernel
theorem dX3_meet_8 : decode cX3_meet 8 = .ok (.invokevirtual 33, 3) := by decide +kernel
theorem dX3_meet_11 : decode cX3_meet 11 = .ok (.aload_n 0, 1) := by decide +kernel
theorem dX3_meet_12 : decode cX3_meet 12 = .ok (.aload_n 0, 1) := by decide +kernel
theorem dX3_meet_13 : decode cX3_meet 13 = .ok (.getfield 10, 3) := by decide +kernel
theorem dX3_meet_16 : decode cX3_meet 16 = .ok (.iload_n 1, 1) := by decide +kernel
theorem dX3_meet_17 : decode cX3_meet 17 = .ok (.iload_n 2, 1) := by decide +kernel
theorem dX3_meet_18 : decode cX3_meet 18 = .ok (.invokevirtual 93, 3) := by decide +kernel
theorem dX3_meet_21 : decode cX3_meet 21 = .ok (.invokevirtual 41, 3) := by decide +kernel
theorem dX3_meet_24 : decode cX3_meet 24 = .ok (.ireturn, 1) := by decide +kernel
theorem dX3_entryOf_0 : decode cX3_entryOf 0 = .ok (.aload_n 0, 1) := by decide +kernel
theorem dX3_entryOf_1 : decode cX3_entryOf 1 = .ok (.getfield 10, 3) := by decide +kernel
theorem dX3_entryOf_4 : decode cX3_entryOf 4 = .ok (.iload_n 1, 1) := by decide +kernel
theorem dX3_entryOf_5 : decode cX3_entryOf 5 = .ok (.invokevirtual 57, 3) := by decide +kernel
theorem dX3_entryOf_8 : decode cX3_entryOf 8 = .ok (.ifCond .eq 20, 3) := by decide +kernel
theorem dX3_entryOf_11 : decode cX3_entryOf 11 = .ok (.iload_n 2, 1) := by decide +kernel
theorem dX3_entryOf_12 : decode cX3_entryOf 12 = .ok (.invokestatic 96, 3) := by decide +kernel
theorem dX3_entryOf_15 : decode cX3_entryOf 15 = .ok (.ifCond .eq 13, 3) := by decide +kernel
theorem dX3_entryOf_18 : decode cX3_entryOf 18 = .ok (.iload_n 3, 1) := by decide +kernel
theorem dX3_entryOf_19 : decode cX3_entryOf 19 = .ok (.ifCond .lt 9, 3) := by decide +kernel
theorem dX3_entryOf_22 : decode cX3_entryOf 22 = .ok (.iload_n 3, 1) := by decide +kernel
theorem dX3_entryOf_23 : decode cX3_entryOf 23 = .ok (.bipush 7, 2) := by decide +kernel
theorem dX3_entryOf_25 : decode cX3_entryOf 25 = .ok (.if_icmp .le 6, 3) := by decide +kernel
theorem dX3_entryOf_28 : decode cX3_entryOf 28 = .ok (.ldc 61, 2) := by decide +kernel
theorem dX3_entryOf_30 : decode cX3_entryOf 30 = .ok (.ireturn, 1) := by decide +kernel
theorem dX3_entryOf_31 : decode cX3_entryOf 31 = .ok (.iload_n 1, 1) := by decide +kernel
theorem dX3_entryOf_32 : decode cX3_entryOf 32 = .ok (.iload_n 2, 1) := by decide +kernel
theorem dX3_entryOf_33 : decode cX3_entryOf 33 = .ok (.invokestatic 99, 3) := by decide +kernel
theorem dX3_entryOf_36 : decode cX3_entryOf 36 = .ok (.istore 4, 2) := by decide +kernel
theorem dX3_entryOf_38 : decode cX3_entryOf 38 = .ok (.aload_n 0, 1) := by decide +kernel
theorem dX3_entryOf_39 : decode cX3_entryOf 39 = .ok (.getfield 10, 3) := by decide +kernel
theorem dX3_entryOf_42 : decode cX3_entryOf 42 = .ok (.getfield 102, 3) := by decide +kernel
theorem dX3_entryOf_45 : decode cX3_entryOf 45 = .ok (.iload 4, 2) := by decide +kernel
theorem dX3_entryOf_47 : decode cX3_entryOf 47 = .ok (.iaload, 1) := by decide +kernel
theorem dX3_entryOf_48 : decode cX3_entryOf 48 = .ok (.ifCond .ne 6, 3) := by decide +kernel
theorem dX3_entryOf_51 : decode cX3_entryOf 51 = .ok (.ldc 84, 2) := by decide +kernel
theorem dX3_entryOf_53 : decode cX3_entryOf 53 = .ok (.ireturn, 1) := by decide +kernel
theorem dX3_entryOf_54 : decode cX3_entryOf 54 = .ok (.aload_n 0, 1) := by decide +kernel
theorem dX3_entryOf_55 : decode cX3_entryOf 55 = .ok (.getfield 10, 3) := by decide +kernel
theorem dX3_entryOf_58 : decode cX3_entryOf 58 = .ok (.iload 4, 2) := by decide +kernel
theorem dX3_entryOf_60 : decode cX3_entryOf 60 = .ok (.invokevirtual 105, 3) := by decide +kernel
theorem dX3_entryOf_63 : decode cX3_entryOf 63 = .ok (.istore 5, 2) := by decide +kernel
theorem dX3_entryOf_65 : decode cX3_entryOf 65 = .ok (.iload_n 3, 1) := by decide +kernel
theorem dX3_entryOf_66 : decode cX3_entryOf 66 = .ok (.tableswitch 161 0 6 #[42, 53, 67, 77, 98, 119, 140], 42) := by decide +kernel
theorem dX3_entryOf_108 : decode cX3_entryOf 108 = .ok (.iload 5, 2) := by decide +kernel
theorem dX3_entryOf_110 : decode cX3_entryOf 110 = .ok (.ifCond .eq 7, 3) := by decide +kernel
theorem dX3_entryOf_113 : decode cX3_entryOf 113 = .ok (.iconst 1, 1) := by decide +kernel
theorem dX3_entryOf_114 : decode cX3_entryOf 114 = .ok (.goto 4, 3) := by decide +kernel
theorem dX3_entryOf_117 : decode cX3_entryOf 117 = .ok (.iconst 0, 1) := by decide +kernel
theorem dX3_entryOf_118 : decode cX3_entryOf 118 = .ok (.ireturn, 1) := by decide +kernel
theorem dX3_entryOf_119 : decode cX3_entryOf 119 = .ok (.aload_n 0, 1) := by decide +kernel
theorem dX3_entryOf_120 : decode cX3_entryOf 120 = .ok (.getfield 10, 3) := by decide +kernel
theorem dX3_entryOf_123 : decode cX3_entryOf 123 = .ok (.getfield 102, 3) := by decide +kernel
theorem dX3_entryOf_126 : decode cX3_entryOf 126 = .ok (.iload 4, 2) := by decide +kernel
theorem dX3_entryOf_128 : decode cX3_entryOf 128 = .ok (.iaload, 1) := by decide +kernel
theorem dX3_entryOf_129 : decode cX3_entryOf 129 = .ok (.bipush 8, 2) := by decide +kernel
theorem dX3_entryOf_131 : decode cX3_entryOf 131 = .ok (.idiv, 1) := by decide +kernel
theorem dX3_entryOf_132 : decode cX3_entryOf 132 = .ok (.ireturn, 1) := by decide +kernel
theorem dX3_entryOf_133 : decode cX3_entryOf 133 = .ok (.aload_n 0, 1) := by decide +kernel
theorem dX3_entryOf_134 : decode cX3_entryOf 134 = .ok (.getfield 10, 3) := by decide +kernel
theorem dX3_entryOf_137 : decode cX3_entryOf 137 = .ok (.iload 4, 2) := by decide +kernel
theorem dX3_entryOf_139 : decode cX3_entryOf 139 = .ok (.invokevirtual 108, 3) := by decide +kernel
theorem dX3_entryOf_142 : decode cX3_entryOf 142 = .ok (.ireturn, 1) := by decide +kernel
theorem dX3_entryOf_143 : decode cX3_entryOf 143 = .ok (.iload 5, 2) := by decide +kernel
theorem dX3_entryOf_145 : decode cX3_entryOf 145 = .ok (.ifCond .eq 8, 3) := by decide +kernel
theorem dX3_entryOf_148 : decode cX3_entryOf 148 = .ok (.ldc 84, 2) := by decide +kernel
theorem dX3_entryOf_150 : decode cX3_entryOf 150 = .ok (.goto 13, 3) := by decide +kernel
theorem dX3_entryOf_153 : decode cX3_entryOf 153 = .ok (.aload_n 0, 1) := by decide +kernel
theorem dX3_entryOf_154 : decode cX3_entryOf 154 = .ok (.getfield 10, 3) := by decide +kernel
theorem dX3_entryOf_157 : decode cX3_entryOf 157 = .ok (.getfield 111, 3) := by decide +kernel
theorem dX3_entryOf_160 : decode cX3_entryOf 160 = .ok (.iload 4, 2) := by decide +kernel
theorem dX3_entryOf_162 : decode cX3_entryOf 162 = .ok (.iaload, 1) := by decide +kernel
theorem dX3_entryOf_163 : decode cX3_entryOf 163 = .ok (.ireturn, 1) := by decide +kernel
theorem dX3_entryOf_164 : decode cX3_entryOf 164 = .ok (.iload 5, 2) := by decide +kernel
theorem dX3_entryOf_166 : decode cX3_entryOf 166 = .ok (.ifCond .eq 8, 3) := by decide +kernel
theorem dX3_entryOf_169 : decode cX3_entryOf 169 = .ok (.ldc 84, 2) := by decide +kernel
theorem dX3_entryOf_171 : decode cX3_entryOf 171 = .ok (.goto 13, 3) := by decide +kernel
theorem dX3_entryOf_174 : decode cX3_entryOf 174 = .ok (.aload_n 0, 1) := by decide +kernel
theorem dX3_entryOf_175 : decode cX3_entryOf 175 = .ok (.getfield 10, 3) := by decide +kernel
theorem dX3_entryOf_178 : decode cX3_entryOf 178 = .ok (.getfield 114, 3) := by decide +kernel
theorem dX3_entryOf_181 : decode cX3_entryOf 181 = .ok (.iload 4, 2) := by decide +kernel
theorem dX3_entryOf_183 : decode cX3_entryOf 183 = .ok (.iaload, 1) := by decide +kernel
theorem dX3_entryOf_184 : decode cX3_entryOf 184 = .ok (.ireturn, 1) := by decide +kernel
theorem dX3_entryOf_185 : decode cX3_entryOf 185 = .ok (.iload 5, 2) := by decide +kernel
theorem dX3_entryOf_187 : decode cX3_entryOf 187 = .ok (.ifCond .eq 16, 3) := by decide +kernel
theorem dX3_entryOf_190 : decode cX3_entryOf 190 = .ok (.aload_n 0, 1) := by decide +kernel
theorem dX3_entryOf_191 : decode cX3_entryOf 191 = .ok (.getfield 10, 3) := by decide +kernel
theorem dX3_entryOf_194 : decode cX3_entryOf 194 = .ok (.getfield 117, 3) := by decide +kernel
theorem dX3_entryOf_197 : decode cX3_entryOf 197 = .ok (.iload 4, 2) := by decide +kernel
theorem dX3_entryOf_199 : decode cX3_entryOf 199 = .ok (.iaload, 1) := by decide +kernel
theorem dX3_entryOf_200 : decode cX3_entryOf 200 = .ok (.goto 5, 3) := by decide +kernel
theorem dX3_entryOf_203 : decode cX3_entryOf 203 = .ok (.ldc 84, 2) := by decide +kernel
theorem dX3_entryOf_205 : decode cX3_entryOf 205 = .ok (.ireturn, 1) := by decide +kernel
theorem dX3_entryOf_206 : decode cX3_entryOf 206 = .ok (.iload 5, 2) := by decide +kernel
theorem dX3_entryOf_208 : decode cX3_entryOf 208 = .ok (.ifCond .eq 16, 3) := by decide +kernel
theorem dX3_entryOf_211 : decode cX3_entryOf 211 = .ok (.aload_n 0, 1) := by decide +kernel
theorem dX3_entryOf_212 : decode cX3_entryOf 212 = .ok (.getfield 10, 3) := by decide +kernel
theorem dX3_entryOf_215 : decode cX3_entryOf 215 = .ok (.getfield 120, 3) := by decide +kernel
theorem dX3_entryOf_218 : decode cX3_entryOf 218 = .ok (.iload 4, 2) := by decide +kernel
theorem dX3_entryOf_220 : decode cX3_entryOf 220 = .ok (.iaload, 1) := by decide +kernel
theorem dX3_entryOf_221 : decode cX3_entryOf 221 = .ok (.goto 5, 3) := by decide +kernel
theorem dX3_entryOf_224 : decode cX3_entryOf 224 = .ok (.ldc 84, 2) := by decide +kernel
theorem dX3_entryOf_226 : decode cX3_entryOf 226 = .ok (.ireturn, 1) := by decide +kernel
theorem dX3_entryOf_227 : decode cX3_entryOf 227 = .ok (.iload 5, 2) := by decide +kernel
theorem dX3_entryOf_229 : decode cX3_entryOf 229 = .ok (.ifCond .eq 8, 3) := by decide +kernel
theorem dX3_entryOf_232 : decode cX3_entryOf 232 = .ok (.ldc 84, 2) := by decide +kernel
theorem dX3_entryOf_234 : decode cX3_entryOf 234 = .ok (.goto 20, 3) := by decide +kernel
theorem dX3_entryOf_237 : decode cX3_entryOf 237 = .ok (.aload_n 0, 1) := by decide +kernel
theorem dX3_entryOf_238 : decode cX3_entryOf 238 = .ok (.getfield 10, 3) := by decide +kernel
theorem dX3_entryOf_241 : decode cX3_entryOf 241 = .ok (.iload_n 1, 1) := by decide +kernel
theorem dX3_entryOf_242 : decode cX3_entryOf 242 = .ok (.iload_n 2, 1) := by decide +kernel
theorem dX3_entryOf_243 : decode cX3_entryOf 243 = .ok (.invokevirtual 123, 3) := by decide +kernel
theorem dX3_entryOf_246 : decode cX3_entryOf 246 = .ok (.ifCond .eq 7, 3) := by decide +kernel
theorem dX3_entryOf_249 : decode cX3_entryOf 249 = .ok (.iconst 1, 1) := by decide +kernel
theorem dX3_entryOf_250 : decode cX3_entryOf 250 = .ok (.goto 4, 3) := by decide +kernel
theorem dX3_entryOf_253 : decode cX3_entryOf 253 = .ok (.iconst 0, 1) := by decide +kernel
theorem dX3_entryOf_254 : decode cX3_entryOf 254 = .ok (.ireturn, 1) := by decide +kernel
theorem dX3_tick_0 : decode cX3_tick 0 = .ok (.aload_n 0, 1) := by decide +kernel
theorem dX3_tick_1 : decode cX3_tick 1 = .ok (.getfield 22, 3) := by decide +kernel
theorem dX3_tick_4 : decode cX3_tick 4 = .ok (.aload_n 0, 1) := by decide +kernel
theorem dX3_tick_5 : decode cX3_tick 5 = .ok (.getfield 10, 3) := by decide +kernel
theorem dX3_tick_8 : decode cX3_tick 8 = .ok (.invokevirtual 33, 3) := by decide +kernel
theorem dX3_tick_11 : decode cX3_tick 11 = .ok (.aload_n 0, 1) := by decide +kernel
theorem dX3_tick_12 : decode cX3_tick 12 = .ok (.aload_n 0, 1) := by decide +kernel
theorem dX3_tick_13 : decode cX3_tick 13 = .ok (.getfield 10, 3) := by decide +kernel
theorem dX3_tick_16 : decode cX3_tick 16 = .ok (.iload_n 1, 1) := by decide +kernel
theorem dX3_tick_17 : decode cX3_tick 17 = .ok (.invokevirtual 127, 3) := by decide +kernel
theorem dX3_tick_20 : decode cX3_tick 20 = .ok (.invokevirtual 41, 3) := by decide +kernel
theorem dX3_tick_23 : decode cX3_tick 23 = .ok (.ireturn, 1) := by decide +kernel
theorem dX3_unlike_0 : decode cX3_unlike 0 = .ok (.aload_n 0, 1) := by decide +kernel
theorem dX3_unlike_1 : decode cX3_unlike 1 = .ok (.getfield 10, 3) := by decide +kernel
theorem dX3_unlike_4 : decode cX3_unlike 4 = .ok (.iload_n 1, 1) := by decide +kernel
theorem dX3_unlike_5 : decode cX3_unlike 5 = .ok (.invokevirtual 57, 3) := by decide +kernel
theorem dX3_unlike_8 : decode cX3_unlike 8 = .ok (.ifCond .eq 14, 3) := by decide +kernel
theorem dX3_unlike_11 : decode cX3_unlike 11 = .ok (.aload_n 0, 1) := by decide +kernel
theorem dX3_unlike_12 : decode cX3_unlike 12 = .ok (.getfield 10, 3) := by decide +kernel
theorem dX3_unlike_15 : decode cX3_unlike 15 = .ok (.iload_n 2, 1) := by decide +kernel
theorem dX3_unlike_16 : decode cX3_unlike 16 = .ok (.invokevirtual 57, 3) := by decide +kernel
theorem dX3_unlike_19 : decode cX3_unlike 19 = .ok (.ifCond .ne 6, 3) := by decide +kernel
theorem dX3_unlike_22 : decode cX3_unlike 22 = .ok (.ldc 61, 2) := by decide +kernel
theorem dX3_unlike_24 : decode cX3_unlike 24 = .ok (.ireturn, 1) := by decide +kernel
theorem dX3_unlike_25 : decode cX3_unlike 25 = .ok (.aload_n 0, 1) := by decide +kernel
theorem dX3_unlike_26 : decode cX3_unlike 26 = .ok (.getfield 10, 3) := by decide +kernel
theorem dX3_unlike_29 : decode cX3_unlike 29 = .ok (.iload_n 1, 1) := by decide +kernel
theorem dX3_unlike_30 : decode cX3_unlike 30 = .ok (.iload_n 2, 1) := by decide +kernel
theorem dX3_unlike_31 : decode cX3_unlike 31 = .ok (.invokevirtual 133, 3) := by decide +kernel
theorem dX3_unlike_34 : decode cX3_unlike 34 = .ok (.ireturn, 1) := by decide +kernel
theorem dX3_dead_0 : decode cX3_dead 0 = .ok (.aload_n 0, 1) := by decide +kernel
theorem dX3_dead_1 : decode cX3_dead 1 = .ok (.getfield 10, 3) := by decide +kernel
theorem dX3_dead_4 : decode cX3_dead 4 = .ok (.iload_n 1, 1) := by decide +kernel
theorem dX3_dead_5 : decode cX3_dead 5 = .ok (.invokevirtual 57, 3) := by decide +kernel
theorem dX3_dead_8 : decode cX3_dead 8 = .ok (.ifCond .eq 14, 3) := by decide +kernel
theorem dX3_dead_11 : decode cX3_dead 11 = .ok (.aload_n 0, 1) := by decide +kernel
theorem dX3_dead_12 : decode cX3_dead 12 = .ok (.getfield 10, 3) := by decide +kernel
theorem dX3_dead_15 : decode cX3_dead 15 = .ok (.iload_n 1, 1) := by decide +kernel
theorem dX3_dead_16 : decode cX3_dead 16 = .ok (.invokevirtual 136, 3) := by decide +kernel
theorem dX3_dead_19 : decode cX3_dead 19 = .ok (.goto 5, 3) := by decide +kernel
theorem dX3_dead_22 : decode cX3_dead 22 = .ok (.ldc 61, 2) := by decide +kernel
theorem dX3_dead_24 : decode cX3_dead 24 = .ok (.ireturn, 1) := by decide +kernel
theorem dX3_count_0 : decode cX3_count 0 = .ok (.iload_n 1, 1) := by decide +kernel
theorem dX3_count_1 : decode cX3_count 1 = .ok (.tableswitch 161 0 11 #[63, 71, 80, 89, 97, 105, 113, 121, 129, 137, 145, 153], 63) := by decide +kernel
theorem dX3_count_64 : decode cX3_count 64 = .ok (.aload_n 0, 1) := by decide +kernel
theorem dX3_count_65 : decode cX3_count 65 = .ok (.getfield 10, 3) := by decide +kernel
theorem dX3_count_68 : decode cX3_count 68 = .ok (.getfield 168, 3) := by decide +kernel
theorem dX3_count_71 : decode cX3_count 71 = .ok (.ireturn, 1) := by decide +kernel
theorem dX3_count_72 : decode cX3_count 72 = .ok (.aload_n 0, 1) := by decide +kernel
theorem dX3_count_73 : decode cX3_count 73 = .ok (.getfield 10, 3) := by decide +kernel
theorem dX3_count_76 : decode cX3_count 76 = .ok (.iconst 0, 1) := by decide +kernel
theorem dX3_count_77 : decode cX3_count 77 = .ok (.invokevirtual 172, 3) := by decide +kernel
theorem dX3_count_80 : decode cX3_count 80 = .ok (.ireturn, 1) := by decide +kernel
theorem dX3_count_81 : decode cX3_count 81 = .ok (.aload_n 0, 1) := by decide +kernel
theorem dX3_count_82 : decode cX3_count 82 = .ok (.getfield 10, 3) := by decide +kernel
theorem dX3_count_85 : decode cX3_count 85 = .ok (.iconst 1, 1) := by decide +kernel
theorem dX3_count_86 : decode cX3_count 86 = .ok (.invokevirtual 172, 3) := by decide +kernel
theorem dX3_count_89 : decode cX3_count 89 = .ok (.ireturn, 1) := by decide +kernel
theorem dX3_count_90 : decode cX3_count 90 = .ok (.aload_n 0, 1) := by decide +kernel
theorem dX3_count_91 : decode cX3_count 91 = .ok (.getfield 10, 3) := by decide +kernel
theorem dX3_count_94 : decode cX3_count 94 = .ok (.getfield 175, 3) := by decide +kernel
theorem dX3_count_97 : decode cX3_count 97 = .ok (.ireturn, 1) := by decide +kernel
theorem dX3_count_98 : decode cX3_count 98 = .ok (.aload_n 0, 1) := by decide +kernel
theorem dX3_count_99 : decode cX3_count 99 = .ok (.getfield 10, 3) := by decide +kernel
theorem dX3_count_102 : decode cX3_count 102 = .ok (.getfield 178, 3) := by decide +kernel
theorem dX3_count_105 : decode cX3_count 105 = .ok (.ireturn, 1) := by decide +kernel
theorem dX3_count_106 : decode cX3_count 106 = .ok (.aload_n 0, 1) := by decide +kernel
theorem dX3_count_107 : decode cX3_count 107 = .ok (.getfield 10, 3) := by decide +kernel
theorem dX3_count_110 : decode cX3_count 110 = .ok (.invokevirtual 181, 3) := by decide +kernel
theorem dX3_count_113 : decode cX3_count 113 = .ok (.ireturn, 1) := by decide +kernel
theorem dX3_count_114 : decode cX3_count 114 = .ok (.aload_n 0, 1) := by decide +kernel
theorem dX3_count_115 : decode cX3_count 115 = .ok (.getfield 10, 3) := by decide +kernel
theorem dX3_count_118 : decode cX3_count 118 = .ok (.invokevirtual 184, 3) := by decide +kernel
theorem dX3_count_121 : decode cX3_count 121 = .ok (.ireturn, 1) := by decide +kernel
theorem dX3_count_122 : decode cX3_count 122 = .ok (.aload_n 0, 1) := by decide +kernel
theorem dX3_count_123 : decode cX3_count 123 = .ok (.getfield 10, 3) := by decide +kernel
theorem dX3_count_126 : decode cX3_count 126 = .ok (.invokevirtual 187, 3) := by decide +kernel
theorem dX3_count_129 : decode cX3_count 129 = .ok (.ireturn, 1) := by decide +kernel
theorem dX3_count_130 : decode cX3_count 130 = .ok (.aload_n 0, 1) := by decide +kernel
theorem dX3_count_131 : decode cX3_count 131 = .ok (.getfield 10, 3) := by decide +kernel
theorem dX3_count_134 : decode cX3_count 134 = .ok (.invokevirtual 152, 3) := by decide +kernel
theorem dX3_count_137 : decode cX3_count 137 = .ok (.ireturn, 1) := by decide +kernel
theorem dX3_count_138 : decode cX3_count 138 = .ok (.aload_n 0, 1) := by decide +kernel
theorem dX3_count_139 : decode cX3_count 139 = .ok (.getfield 10, 3) := by decide +kernel
theorem dX3_count_142 : decode cX3_count 142 = .ok (.getfield 190, 3) := by decide +kernel
theorem dX3_count_145 : decode cX3_count 145 = .ok (.ireturn, 1) := by decide +kernel
theorem dX3_count_146 : decode cX3_count 146 = .ok (.aload_n 0, 1) := by decide +kernel
theorem dX3_count_147 : decode cX3_count 147 = .ok (.getfield 22, 3) := by decide +kernel
theorem dX3_count_150 : decode cX3_count 150 = .ok (.getfield 193, 3) := by decide +kernel
theorem dX3_count_153 : decode cX3_count 153 = .ok (.ireturn, 1) := by decide +kernel
theorem dX3_count_154 : decode cX3_count 154 = .ok (.aload_n 0, 1) := by decide +kernel
theorem dX3_count_155 : decode cX3_count 155 = .ok (.getfield 29, 3) := by decide +kernel
theorem dX3_count_158 : decode cX3_count 158 = .ok (.getfield 196, 3) := by decide +kernel
theorem dX3_count_161 : decode cX3_count 161 = .ok (.ireturn, 1) := by decide +kernel
theorem dX3_count_162 : decode cX3_count 162 = .ok (.ldc 61, 2) := by decide +kernel
theorem dX3_count_164 : decode cX3_count 164 = .ok (.ireturn, 1) := by decide +kernel
theorem dX3_undo_0 : decode cX3_undo 0 = .ok (.aload_n 0, 1) := by decide +kernel
theorem dX3_undo_1 : decode cX3_undo 1 = .ok (.getfield 22, 3) := by decide +kernel
theorem dX3_undo_4 : decode cX3_undo 4 = .ok (.getfield 193, 3) := by decide +kernel
theorem dX3_undo_7 : decode cX3_undo 7 = .ok (.ifCond .ne 6, 3) := by decide +kernel
theorem dX3_undo_10 : decode cX3_undo 10 = .ok (.ldc 142, 2) := by decide +kernel
theorem dX3_undo_12 : decode cX3_undo 12 = .ok (.ireturn, 1) := by decide +kernel
theorem dX3_undo_13 : decode cX3_undo 13 = .ok (.aload_n 0, 1) := by decide +kernel
theorem dX3_undo_14 : decode cX3_undo 14 = .ok (.getfield 22, 3) := by decide +kernel
theorem dX3_undo_17 : decode cX3_undo 17 = .ok (.aload_n 0, 1) := by decide +kernel
theorem dX3_undo_18 : decode cX3_undo 18 = .ok (.getfield 10, 3) := by decide +kernel
theorem dX3_undo_21 : decode cX3_undo 21 = .ok (.invokevirtual 199, 3) := by decide +kernel
theorem dX3_undo_24 : decode cX3_undo 24 = .ok (.aload_n 0, 1) := by decide +kernel
theorem dX3_undo_25 : decode cX3_undo 25 = .ok (.getfield 22, 3) := by decide +kernel
theorem dX3_undo_28 : decode cX3_undo 28 = .ok (.getfield 193, 3) := by decide +kernel
theorem dX3_undo_31 : decode cX3_undo 31 = .ok (.ireturn, 1) := by decide +kernel
theorem dX3_recorded_0 : decode cX3_recorded 0 = .ok (.iload_n 1, 1) := by decide +kernel
theorem dX3_recorded_1 : decode cX3_recorded 1 = .ok (.ifCond .lt 10, 3) := by decide +kernel
theorem dX3_recorded_4 : decode cX3_recorded 4 = .ok (.aload_n 0, 1) := by decide +kernel
theorem dX3_recorded_5 : decode cX3_recorded 5 = .ok (.getfield 22, 3) := by decide +kernel
theorem dX3_recorded_8 : decode cX3_recorded 8 = .ok (.invokevirtual 219, 3) := by decide +kernel
theorem dX3_recorded_11 : decode cX3_recorded 11 = .ok (.iload_n 1, 1) := by decide +kernel
theorem dX3_recorded_12 : decode cX3_recorded 12 = .ok (.ireturn, 1) := by decide +kernel
theorem dX3_isTopic_0 : decode cX3_isTopic 0 = .ok (.iload_n 0, 1) := by decide +kernel
theorem dX3_isTopic_1 : decode cX3_isTopic 1 = .ok (.ifCond .lt 13, 3) := by decide +kernel
theorem dX3_isTopic_4 : decode cX3_isTopic 4 = .ok (.iload_n 0, 1) := by decide +kernel
theorem dX3_isTopic_5 : decode cX3_isTopic 5 = .ok (.bipush 12, 2) := by decide +kernel
theorem dX3_isTopic_7 : decode cX3_isTopic 7 = .ok (.if_icmp .ge 7, 3) := by decide +kernel
theorem dX3_isTopic_10 : decode cX3_isTopic 10 = .ok (.iconst 1, 1) := by decide +kernel
theorem dX3_isTopic_11 : decode cX3_isTopic 11 = .ok (.goto 4, 3) := by decide +kernel
theorem dX3_isTopic_14 : decode cX3_isTopic 14 = .ok (.iconst 0, 1) := by decide +kernel
theorem dX3_isTopic_15 : decode cX3_isTopic 15 = .ok (.ireturn, 1) := by decide +kernel
theorem dX3_place_0 : decode cX3_place 0 = .ok (.iload_n 0, 1) := by decide +kernel
theorem dX3_place_1 : decode cX3_place 1 = .ok (.bipush 12, 2) := by decide +kernel
theorem dX3_place_3 : decode cX3_place 3 = .ok (.imul, 1) := by decide +kernel
theorem dX3_place_4 : decode cX3_place 4 = .ok (.iload_n 1, 1) := by decide +kernel
theorem dX3_place_5 : decode cX3_place 5 = .ok (.iadd, 1) := by decide +kernel
theorem dX3_place_6 : decode cX3_place 6 = .ok (.ireturn, 1) := by decide +kernel
theorem dJ6_bitCount_0f7a4_0 : decode cJ6_bitCount_0f7a4 0 = .ok (.iload_n 0, 1) := by decide +kernel
theorem dJ6_bitCount_0f7a4_1 : decode cJ6_bitCount_0f7a4 1 = .ok (.iload_n 0, 1) := by decide +kernel
theorem dJ6_bitCount_0f7a4_2 : decode cJ6_bitCount_0f7a4 2 = .ok (.iconst 1, 1) := by decide +kernel
theorem dJ6_bitCount_0f7a4_3 : decode cJ6_bitCount_0f7a4 3 = .ok (.iushr, 1) := by decide +kernel
theorem dJ6_bitCount_0f7a4_4 : decode cJ6_bitCount_0f7a4 4 = .ok (.ldc_w 265, 3) := by decide +kernel
theorem dJ6_bitCount_0f7a4_7 : decode cJ6_bitCount_0f7a4 7 = .ok (.iand, 1) := by decide +kernel
theorem dJ6_bitCount_0f7a4_8 : decode cJ6_bitCount_0f7a4 8 = .ok (.isub, 1) := by decide +kernel
theorem dJ6_bitCount_0f7a4_9 : decode cJ6_bitCount_0f7a4 9 = .ok (.istore_n 0, 1) := by decide +kernel
theorem dJ6_bitCount_0f7a4_10 : decode cJ6_bitCount_0f7a4 10 = .ok (.iload_n 0, 1) := by decide +kernel
theorem dJ6_bitCount_0f7a4_11 : decode cJ6_bitCount_0f7a4 11 = .ok (.ldc_w 266, 3) := by decide +kernel
theorem dJ6_bitCount_0f7a4_14 : decode cJ6_bitCount_0f7a4 14 = .ok (.iand, 1) := by decide +kernel
theorem dJ6_bitCount_0f7a4_15 : decode cJ6_bitCount_0f7a4 15 = .ok (.iload_n 0, 1) := by decide +kernel
theorem dJ6_bitCount_0f7a4_16 : decode cJ6_bitCount_0f7a4 16 = .ok (.iconst 2, 1) := by decide +kernel
theorem dJ6_bitCount_0f7a4_17 : decode cJ6_bitCount_0f7a4 17 = .ok (.iushr, 1) := by decide +kernel
theorem dJ6_bitCount_0f7a4_18 : decode cJ6_bitCount_0f7a4 18 = .ok (.ldc_w 266, 3) := by decide +kernel
theorem dJ6_bitCount_0f7a4_21 : decode cJ6_bitCount_0f7a4 21 = .ok (.iand, 1) := by decide +kernel
theorem dJ6_bitCount_0f7a4_22 : decode cJ6_bitCount_0f7a4 22 = .ok (.iadd, 1) := by decide +kernel
theorem dJ6_bitCount_0f7a4_23 : decode cJ6_bitCount_0f7a4 23 = .ok (.istore_n 0, 1) := by decide +kernel
theorem dJ6_bitCount_0f7a4_24 : decode cJ6_bitCount_0f7a4 24 = .ok (.iload_n 0, 1) := by decide +kernel
theorem dJ6_bitCount_0f7a4_25 : decode cJ6_bitCount_0f7a4 25 = .ok (.iload_n 0, 1) := by decide +kernel
theorem dJ6_bitCount_0f7a4_26 : decode cJ6_bitCount_0f7a4 26 = .ok (.iconst 4, 1) := by decide +kernel
theorem dJ6_bitCount_0f7a4_27 : decode cJ6_bitCount_0f7a4 27 = .ok (.iushr, 1) := by decide +kernel
theorem dJ6_bitCount_0f7a4_28 : decode cJ6_bitCount_0f7a4 28 = .ok (.iadd, 1) := by decide +kernel
theorem dJ6_bitCount_0f7a4_29 : decode cJ6_bitCount_0f7a4 29 = .ok (.ldc_w 267, 3) := by decide +kernel
theorem dJ6_bitCount_0f7a4_32 : decode cJ6_bitCount_0f7a4 32 = .ok (.iand, 1) := by decide +kernel
theorem dJ6_bitCount_0f7a4_33 : decode cJ6_bitCount_0f7a4 33 = .ok (.istore_n 0, 1) := by decide +kernel
theorem dJ6_bitCount_0f7a4_34 : decode cJ6_bitCount_0f7a4 34 = .ok (.iload_n 0, 1) := by decide +kernel
theorem dJ6_bitCount_0f7a4_35 : decode cJ6_bitCount_0f7a4 35 = .ok (.iload_n 0, 1) := by decide +kernel
theorem dJ6_bitCount_0f7a4_36 : decode cJ6_bitCount_0f7a4 36 = .ok (.bipush 8, 2) := by decide +kernel
theorem dJ6_bitCount_0f7a4_38 : decode cJ6_bitCount_0f7a4 38 = .ok (.iushr, 1) := by decide +kernel
theorem dJ6_bitCount_0f7a4_39 : decode cJ6_bitCount_0f7a4 39 = .ok (.iadd, 1) := by decide +kernel
theorem dJ6_bitCount_0f7a4_40 : decode cJ6_bitCount_0f7a4 40 = .ok (.istore_n 0, 1) := by decide +kernel
theorem dJ6_bitCount_0f7a4_41 : decode cJ6_bitCount_0f7a4 41 = .ok (.iload_n 0, 1) := by decide +kernel
theorem dJ6_bitCount_0f7a4_42 : decode cJ6_bitCount_0f7a4 42 = .ok (.iload_n 0, 1) := by decide +kernel
theorem dJ6_bitCount_0f7a4_43 : decode cJ6_bitCount_0f7a4 43 = .ok (.bipush 16, 2) := by decide +kernel
theorem dJ6_bitCount_0f7a4_45 : decode cJ6_bitCount_0f7a4 45 = .ok (.iushr, 1) := by decide +kernel
theorem dJ6_bitCount_0f7a4_46 : decode cJ6_bitCount_0f7a4 46 = .ok (.iadd, 1) := by decide +kernel
theorem dJ6_bitCount_0f7a4_47 : decode cJ6_bitCount_0f7a4 47 = .ok (.istore_n 0, 1) := by decide +kernel
theorem dJ6_bitCount_0f7a4_48 : decode cJ6_bitCount_0f7a4 48 = .ok (.iload_n 0, 1) := by decide +kernel
theorem dJ6_bitCount_0f7a4_49 : decode cJ6_bitCount_0f7a4 49 = .ok (.bipush 63, 2) := by decide +kernel
theorem dJ6_bitCount_0f7a4_51 : decode cJ6_bitCount_0f7a4 51 = .ok (.iand, 1) := by decide +kernel
theorem dJ6_bitCount_0f7a4_52 : decode cJ6_bitCount_0f7a4 52 = .ok (.ireturn, 1) := by decide +kernel
end
section
theorem dL_cell_0 : decode cL_cell 0 = .ok (.iload_n 1, 1) := by decide +kernel
theorem dL_cell_1 : decode cL_cell 1 = .ok (.aload_n 0, 1) := by decide +kernel
theorem dL_cell_2 : decode cL_cell 2 = .ok (.arraylength, 1) := by decide +kernel
theorem dL_cell_3 : decode cL_cell 3 = .ok (.if_icmp .ge 9, 3) := by decide +kernel
theorem dL_cell_6 : decode cL_cell 6 = .ok (.aload_n 0, 1) := by decide +kernel
theorem dL_cell_7 : decode cL_cell 7 = .ok (.iload_n 1, 1) := by decide +kernel
theorem dL_cell_8 : decode cL_cell 8 = .ok (.iaload, 1) := by decide +kernel
theorem dL_cell_9 : decode cL_cell 9 = .ok (.goto 10, 3) := by decide +kernel
theorem dL_cell_12 : decode cL_cell 12 = .ok (.ldc 7, 2) := by decide +kernel
theorem dL_cell_14 : decode cL_cell 14 = .ok (.iload_n 1, 1) := by decide +kernel
theorem dL_cell_15 : decode cL_cell 15 = .ok (.bipush 37, 2) := by decide +kernel
theorem dL_cell_17 : decode cL_cell 17 = .ok (.iadd, 1) := by decide +kernel
theorem dL_cell_18 : decode cL_cell 18 = .ok (.imul, 1) := by decide +kernel
theorem dL_cell_19 : decode cL_cell 19 = .ok (.ldc 8, 2) := by decide +kernel
theorem dL_cell_21 : decode cL_cell 21 = .ok (.iand, 1) := by decide +kernel
theorem dL_cell_22 : decode cL_cell 22 = .ok (.ireturn, 1) := by decide +kernel
theorem dL_rank_0 : decode cL_rank 0 = .ok (.aload_n 0, 1) := by decide +kernel
theorem dL_rank_1 : decode cL_rank 1 = .ok (.iload_n 1, 1) := by decide +kernel
theorem dL_rank_2 : decode cL_rank 2 = .ok (.iload_n 2, 1) := by decide +kernel
theorem dL_rank_3 : decode cL_rank 3 = .ok (.iconst 0, 1) := by decide +kernel
theorem dL_rank_4 : decode cL_rank 4 = .ok (.invokevirtual 9, 3) := by decide +kernel
theorem dL_rank_7 : decode cL_rank 7 = .ok (.ifCond .ge 7, 3) := by decide +kernel
theorem dL_rank_10 : decode cL_rank 10 = .ok (.iconst 0, 1) := by decide +kernel
theorem dL_rank_11 : decode cL_rank 11 = .ok (.goto 21, 3) := by decide +kernel
theorem dL_rank_14 : decode cL_rank 14 = .ok (.bipush 8, 2) := by decide +kernel
theorem dL_rank_16 : decode cL_rank 16 = .ok (.aload_n 0, 1) := by decide +kernel
theorem dL_rank_17 : decode cL_rank 17 = .ok (.iload_n 1, 1) := by decide +kernel
theorem dL_rank_18 : decode cL_rank 18 = .ok (.iload_n 2, 1) := by decide +kernel
theorem dL_rank_19 : decode cL_rank 19 = .ok (.iconst 1, 1) := by decide +kernel
theorem dL_rank_20 : decode cL_rank 20 = .ok (.invokevirtual 9, 3) := by decide +kernel
theorem dL_rank_23 : decode cL_rank 23 = .ok (.imul, 1) := by decide +kernel
theorem dL_rank_24 : decode cL_rank 24 = .ok (.aload_n 0, 1) := by decide +kernel
theorem dL_rank_25 : decode cL_rank 25 = .ok (.iload_n 1, 1) := by decide +kernel
theorem dL_rank_26 : decode cL_rank 26 = .ok (.iload_n 2, 1) := by decide +kernel
theorem dL_rank_27 : decode cL_rank 27 = .ok (.iconst 2, 1) := by decide +kernel
theorem dL_rank_28 : decode cL_rank 28 = .ok (.invokevirtual 9, 3) := by decide +kernel
theorem dL_rank_31 : decode cL_rank 31 = .ok (.iadd, 1) := by decide +kernel
theorem dL_rank_32 : decode cL_rank 32 = .ok (.ireturn, 1) := by decide +kernel
theorem dL_holds_0 : decode cL_holds 0 = .ok (.iconst 0, 1) := by decide +kernel
theorem dL_holds_1 : decode cL_holds 1 = .ok (.istore_n 1, 1) := by decide +kernel
theorem dL_holds_2 : decode cL_holds 2 = .ok (.iconst 0, 1) := by decide +kernel
theorem dL_holds_3 : decode cL_holds 3 = .ok (.istore_n 2, 1) := by decide +kernel
theorem dL_holds_4 : decode cL_holds 4 = .ok (.iconst 0, 1) := by decide +kernel
theorem dL_holds_5 : decode cL_holds 5 = .ok (.istore_n 3, 1) := by decide +kernel
theorem dL_holds_6 : decode cL_holds 6 = .ok (.iconst 0, 1) := by decide +kernel
theorem dL_holds_7 : decode cL_holds 7 = .ok (.istore 4, 2) := by decide +kernel
theorem dL_holds_9 : decode cL_holds 9 = .ok (.iconst 0, 1) := by decide +kernel
theorem dL_holds_10 : decode cL_holds 10 = .ok (.istore 5, 2) := by decide +kernel
theorem dL_holds_12 : decode cL_holds 12 = .ok (.iconst 0, 1) := by decide +kernel
theorem dL_holds_13 : decode cL_holds 13 = .ok (.istore 6, 2) := by decide +kernel
theorem dL_holds_15 : decode cL_holds 15 = .ok (.iconst 1, 1) := by decide +kernel
theorem dL_holds_16 : decode cL_holds 16 = .ok (.istore 7, 2) := by decide +kernel
theorem dL_holds_18 : decode cL_holds 18 = .ok (.iconst 0, 1) := by decide +kernel
theorem dL_holds_19 : decode cL_holds 19 = .ok (.istore 8, 2) := by decide +kernel
theorem dL_holds_21 : decode cL_holds 21 = .ok (.iload 8, 2) := by decide +kernel
theorem dL_holds_23 : decode cL_holds 23 = .ok (.aload_n 0, 1) := by decide +kernel
theorem dL_holds_24 : decode cL_holds 24 = .ok (.iconst 0, 1) := by decide +kernel
theorem dL_holds_25 : decode cL_holds 25 = .ok (.invokevirtual 15, 3) := by decide +kernel
theorem dL_holds_28 : decode cL_holds 28 = .ok (.if_icmp .ge 382, 3) := by decide +kernel
theorem dL_holds_31 : decode cL_holds 31 = .ok (.iload 7, 2) := by decide +kernel
theorem dL_holds_33 : decode cL_holds 33 = .ok (.ifCond .eq 377, 3) := by decide +kernel
theorem dL_holds_36 : decode cL_holds 36 = .ok (.aload_n 0, 1) := by decide +kernel
theorem dL_holds_37 : decode cL_holds 37 = .ok (.iload 8, 2) := by decide +kernel
theorem dL_holds_39 : decode cL_holds 39 = .ok (.iconst 0, 1) := by decide +kernel
theorem dL_holds_40 : decode cL_holds 40 = .ok (.invokevirtual 19, 3) := by decide +kernel
theorem dL_holds_43 : decode cL_holds 43 = .ok (.istore 9, 2) := by decide +kernel
theorem dL_holds_45 : decode cL_holds 45 = .ok (.iload_n 1, 1) := by decide +kernel
theorem dL_holds_46 : decode cL_holds 46 = .ok (.iload 9, 2) := by decide +kernel
theorem dL_holds_48 : decode cL_holds 48 = .ok (.ifCond .ne 7, 3) := by decide +kernel
theorem dL_holds_51 : decode cL_holds 51 = .ok (.iconst 1, 1) := by decide +kernel
theorem dL_holds_52 : decode cL_holds 52 = .ok (.goto 4, 3) := by decide +kernel
theorem dL_holds_55 : decode cL_holds 55 = .ok (.iconst 0, 1) := by decide +kernel
theorem dL_holds_56 : decode cL_holds 56 = .ok (.iadd, 1) := by decide +kernel
theorem dL_holds_57 : decode cL_holds 57 = .ok (.istore_n 1, 1) := by decide +kernel
theorem dL_holds_58 : decode cL_holds 58 = .ok (.iload_n 2, 1) := by decide +kernel
theorem dL_holds_59 : decode cL_holds 59 = .ok (.iload 9, 2) := by decide +kernel
theorem dL_holds_61 : decode cL_holds 61 = .ok (.iconst 1, 1) := by decide +kernel
theorem dL_holds_62 : decode cL_holds 62 = .ok (.if_icmp .ne 7, 3) := by decide +kernel
theorem dL_holds_65 : decode cL_holds 65 = .ok (.iconst 1, 1) := by decide +kernel
theorem dL_holds_66 : decode cL_holds 66 = .ok (.goto 4, 3) := by decide +kernel
theorem dL_holds_69 : decode cL_holds 69 = .ok (.iconst 0, 1) := by decide +kernel
theorem dL_holds_70 : decode cL_holds 70 = .ok (.iadd, 1) := by decide +kernel
theorem dL_holds_71 : decode cL_holds 71 = .ok (.istore_n 2, 1) := by decide +kernel
theorem dL_holds_72 : decode cL_holds 72 = .ok (.iload 6, 2) := by decide +kernel
theorem dL_holds_74 : decode cL_holds 74 = .ok (.aload_n 0, 1) := by decide +kernel
theorem dL_holds_75 : decode cL_holds 75 = .ok (.iload 8, 2) := by decide +kernel
theorem dL_holds_77 : decode cL_holds 77 = .ok (.iconst 4, 1) := by decide +kernel
theorem dL_holds_78 : decode cL_holds 78 = .ok (.invokevirtual 19, 3) := by decide +kernel
theorem dL_holds_81 : decode cL_holds 81 = .ok (.iadd, 1) := by decide +kernel
theorem dL_holds_82 : decode cL_holds 82 = .ok (.istore 6, 2) := by decide +kernel
theorem dL_holds_84 : decode cL_holds 84 = .ok (.aload_n 0, 1) := by decide +kernel
theorem dL_holds_85 : decode cL_holds 85 = .ok (.iload 8, 2) := by decide +kernel
theorem dL_holds_87 : decode cL_holds 87 = .ok (.iconst 2, 1) := by decide +kernel
theorem dL_holds_88 : decode cL_holds 88 = .ok (.invokevirtual 19, 3) := by decide +kernel
theorem dL_holds_91 : decode cL_holds 91 = .ok (.istore 10, 2) := by decide +kernel
theorem dL_holds_93 : decode cL_holds 93 = .ok (.aload_n 0, 1) := by decide +kernel
theorem dL_holds_94 : decode cL_holds 94 = .ok (.iload 8, 2) := by decide +kernel
theorem dL_holds_96 : decode cL_holds 96 = .ok (.iconst 3, 1) := by decide +kernel
theorem dL_holds_97 : decode cL_holds 97 = .ok (.invokevirtual 19, 3) := by decide +kernel
theorem dL_holds_100 : decode cL_holds 100 = .ok (.istore 11, 2) := by decide +kernel
theorem dL_holds_102 : decode cL_holds 102 = .ok (.iload 10, 2) := by decide +kernel
theorem dL_holds_104 : decode cL_holds 104 = .ok (.iload 11, 2) := by decide +kernel
theorem dL_holds_106 : decode cL_holds 106 = .ok (.iand, 1) := by decide +kernel
theorem dL_holds_107 : decode cL_holds 107 = .ok (.ifCond .ne 64, 3) := by decide +kernel
theorem dL_holds_110 : decode cL_holds 110 = .ok (.iload 9, 2) := by decide +kernel
theorem dL_holds_112 : decode cL_holds 112 = .ok (.iconst 2, 1) := by decide +kernel
theorem dL_holds_113 : decode cL_holds 113 = .ok (.if_icmp .lt 11, 3) := by decide +kernel
theorem dL_holds_116 : decode cL_holds 116 = .ok (.iload 10, 2) := by decide +kernel
theorem dL_holds_118 : decode cL_holds 118 = .ok (.iload 11, 2) := by decide +kernel
theorem dL_holds_120 : decode cL_holds 120 = .ok (.iadd, 1) := by decide +kernel
theorem dL_holds_121 : decode cL_holds 121 = .ok (.ifCond .ne 50, 3) := by decide +kernel
theorem dL_holds_124 : decode cL_holds 124 = .ok (.aload_n 0, 1) := by decide +kernel
theorem dL_holds_125 : decode cL_holds 125 = .ok (.iload 8, 2) := by decide +kernel
theorem dL_holds_127 : decode cL_holds 127 = .ok (.invokevirtual 23, 3) := by decide +kernel
theorem dL_holds_130 : decode cL_holds 130 = .ok (.iload 10, 2) := by decide +kernel
theorem dL_holds_132 : decode cL_holds 132 = .ok (.iconst (-1), 1) := by decide +kernel
theorem dL_holds_133 : decode cL_holds 133 = .ok (.ixor, 1) := by decide +kernel
theorem dL_holds_134 : decode cL_holds 134 = .ok (.iand, 1) := by decide +kernel
theorem dL_holds_135 : decode cL_holds 135 = .ok (.ifCond .ne 36, 3) := by decide +kernel
theorem dL_holds_138 : decode cL_holds 138 = .ok (.aload_n 0, 1) := by decide +kernel
theorem dL_holds_139 : decode cL_holds 139 = .ok (.iload 8, 2) := by decide +kernel
theorem dL_holds_141 : decode cL_holds 141 = .ok (.iconst 5, 1) := by decide +kernel
theorem dL_holds_142 : decode cL_holds 142 = .ok (.invokevirtual 19, 3) := by decide +kernel
theorem dL_holds_145 : decode cL_holds 145 = .ok (.ifCond .lt 7, 3) := by decide +kernel
theorem dL_holds_148 : decode cL_holds 148 = .ok (.iconst 1, 1) := by decide +kernel
theorem dL_holds_149 : decode cL_holds 149 = .ok (.goto 4, 3) := by decide +kernel
theorem dL_holds_152 : decode cL_holds 152 = .ok (.iconst 0, 1) := by decide +kernel
theorem dL_holds_153 : decode cL_holds 153 = .ok (.iload 9, 2) := by decide +kernel
theorem dL_holds_155 : decode cL_holds 155 = .ok (.iconst 1, 1) := by decide +kernel
theorem dL_holds_156 : decode cL_holds 156 = .ok (.if_icmp .ne 7, 3) := by decide +kernel
theorem dL_holds_159 : decode cL_holds 159 = .ok (.iconst 1, 1) := by decide +kernel
theorem dL_holds_160 : decode cL_holds 160 = .ok (.goto 4, 3) := by decide +kernel
theorem dL_holds_163 : decode cL_holds 163 = .ok (.iconst 0, 1) := by decide +kernel
theorem dL_holds_164 : decode cL_holds 164 = .ok (.if_icmp .ne 7, 3) := by decide +kernel
theorem dL_holds_167 : decode cL_holds 167 = .ok (.iconst 1, 1) := by decide +kernel
theorem dL_holds_168 : decode cL_holds 168 = .ok (.goto 4, 3) := by decide +kernel
theorem dL_holds_171 : decode cL_holds 171 = .ok (.iconst 0, 1) := by decide +kernel
theorem dL_holds_172 : decode cL_holds 172 = .ok (.istore 7, 2) := by decide +kernel
theorem dL_holds_174 : decode cL_holds 174 = .ok (.iconst 0, 1) := by decide +kernel
theorem dL_holds_175 : decode cL_holds 175 = .ok (.istore 12, 2) := by decide +kernel
theorem dL_holds_177 : decode cL_holds 177 = .ok (.iload 12, 2) := by decide +kernel
theorem dL_holds_179 : decode cL_holds 179 = .ok (.bipush 12, 2) := by decide +kernel
theorem dL_holds_181 : decode cL_holds 181 = .ok (.if_icmp .ge 223, 3) := by decide +kernel
theorem dL_holds_184 : decode cL_holds 184 = .ok (.iload 7, 2) := by decide +kernel
theorem dL_holds_186 : decode cL_holds 186 = .ok (.ifCond .eq 218, 3) := by decide +kernel
theorem dL_holds_189 : decode cL_holds 189 = .ok (.aload_n 0, 1) := by decide +kernel
theorem dL_holds_190 : decode cL_holds 190 = .ok (.iload 8, 2) := by decide +kernel
theorem dL_holds_192 : decode cL_holds 192 = .ok (.iload 12, 2) := by decide +kernel
theorem dL_holds_194 : decode cL_holds 194 = .ok (.iconst 0, 1) := by decide +kernel
theorem dL_holds_195 : decode cL_holds 195 = .ok (.invokevirtual 9, 3) := by decide +kernel
theorem dL_holds_198 : decode cL_holds 198 = .ok (.istore 13, 2) := by decide +kernel
theorem dL_holds_200 : decode cL_holds 200 = .ok (.iload_n 3, 1) := by decide +kernel
theorem dL_holds_201 : decode cL_holds 201 = .ok (.iload 13, 2) := by decide +kernel
theorem dL_holds_203 : decode cL_holds 203 = .ok (.ifCond .ne 7, 3) := by decide +kernel
theorem dL_holds_206 : decode cL_holds 206 = .ok (.iconst 1, 1) := by decide +kernel
theorem dL_holds_207 : decode cL_holds 207 = .ok (.goto 4, 3) := by decide +kernel
theorem dL_holds_210 : decode cL_holds 210 = .ok (.iconst 0, 1) := by decide +kernel
theorem dL_holds_211 : decode cL_holds 211 = .ok (.iadd, 1) := by decide +kernel
theorem dL_holds_212 : decode cL_holds 212 = .ok (.istore_n 3, 1) := by decide +kernel
theorem dL_holds_213 : decode cL_holds 213 = .ok (.iload 4, 2) := by decide +kernel
theorem dL_holds_215 : decode cL_holds 215 = .ok (.iload 13, 2) := by decide +kernel
theorem dL_holds_217 : decode cL_holds 217 = .ok (.iconst 1, 1) := by decide +kernel
theorem dL_holds_218 : decode cL_holds 218 = .ok (.if_icmp .ne 7, 3) := by decide +kernel
theorem dL_holds_221 : decode cL_holds 221 = .ok (.iconst 1, 1) := by decide +kernel
theorem dL_holds_222 : decode cL_holds 222 = .ok (.goto 4, 3) := by decide +kernel
theorem dL_holds_225 : decode cL_holds 225 = .ok (.iconst 0, 1) := by decide +kernel
theorem dL_holds_226 : decode cL_holds 226 = .ok (.iadd, 1) := by decide +kernel
theorem dL_holds_227 : decode cL_holds 227 = .ok (.istore 4, 2) := by decide +kernel
theorem dL_holds_229 : decode cL_holds 229 = .ok (.iload 5, 2) := by decide +kernel
theorem dL_holds_231 : decode cL_holds 231 = .ok (.aload_n 0, 1) := by decide +kernel
theorem dL_holds_232 : decode cL_holds 232 = .ok (.iload 8, 2) := by decide +kernel
theorem dL_holds_234 : decode cL_holds 234 = .ok (.invokevirtual 23, 3) := by decide +kernel
theorem dL_holds_237 : decode cL_holds 237 = .ok (.iload 12, 2) := by decide +kernel
theorem dL_holds_239 : decode cL_holds 239 = .ok (.ishr, 1) := by decide +kernel
theorem dL_holds_240 : decode cL_holds 240 = .ok (.iconst 1, 1) := by decide +kernel
theorem dL_holds_241 : decode cL_holds 241 = .ok (.iand, 1) := by decide +kernel
theorem dL_holds_242 : decode cL_holds 242 = .ok (.iadd, 1) := by decide +kernel
theorem dL_holds_243 : decode cL_holds 243 = .ok (.istore 5, 2) := by decide +kernel
theorem dL_holds_245 : decode cL_holds 245 = .ok (.iload 10, 2) := by decide +kernel
theorem dL_holds_247 : decode cL_holds 247 = .ok (.iload 12, 2) := by decide +kernel
theorem dL_holds_249 : decode cL_holds 249 = .ok (.ishr, 1) := by decide +kernel
theorem dL_holds_250 : decode cL_holds 250 = .ok (.iconst 1, 1) := by decide +kernel
theorem dL_holds_251 : decode cL_holds 251 = .ok (.iand, 1) := by decide +kernel
theorem dL_holds_252 : decode cL_holds 252 = .ok (.iload 13, 2) := by decide +kernel
theorem dL_holds_254 : decode cL_holds 254 = .ok (.ifCond .ne 7, 3) := by decide +kernel
theorem dL_holds_257 : decode cL_holds 257 = .ok (.iconst 1, 1) := by decide +kernel
theorem dL_holds_258 : decode cL_holds 258 = .ok (.goto 4, 3) := by decide +kernel
theorem dL_holds_261 : decode cL_holds 261 = .ok (.iconst 0, 1) := by decide +kernel
theorem dL_holds_262 : decode cL_holds 262 = .ok (.if_icmp .ne 133, 3) := by decide +kernel
theorem dL_holds_265 : decode cL_holds 265 = .ok (.iload 11, 2) := by decide +kernel
theorem dL_holds_267 : decode cL_holds 267 = .ok (.iload 12, 2) := by decide +kernel
theorem dL_holds_269 : decode cL_holds 269 = .ok (.ishr, 1) := by decide +kernel
theorem dL_holds_270 : decode cL_holds 270 = .ok (.iconst 1, 1) := by decide +kernel
theorem dL_holds_271 : decode cL_holds 271 = .ok (.iand, 1) := by decide +kernel
theorem dL_holds_272 : decode cL_holds 272 = .ok (.iload 13, 2) := by decide +kernel
theorem dL_holds_274 : decode cL_holds 274 = .ok (.iconst 1, 1) := by decide +kernel
theorem dL_holds_275 : decode cL_holds 275 = .ok (.if_icmp .ne 7, 3) := by decide +kernel
theorem dL_holds_278 : decode cL_holds 278 = .ok (.iconst 1, 1) := by decide +kernel
theorem dL_holds_279 : decode cL_holds 279 = .ok (.goto 4, 3) := by decide +kernel
theorem dL_holds_282 : decode cL_holds 282 = .ok (.iconst 0, 1) := by decide +kernel
theorem dL_holds_283 : decode cL_holds 283 = .ok (.if_icmp .ne 112, 3) := by decide +kernel
theorem dL_holds_286 : decode cL_holds 286 = .ok (.iload 13, 2) := by decide +kernel
theorem dL_holds_288 : decode cL_holds 288 = .ok (.iconst 1, 1) := by decide +kernel
theorem dL_holds_289 : decode cL_holds 289 = .ok (.if_icmp .ne 65, 3) := by decide +kernel
theorem dL_holds_292 : decode cL_holds 292 = .ok (.aload_n 0, 1) := by decide +kernel
theorem dL_holds_293 : decode cL_holds 293 = .ok (.iload 8, 2) := by decide +kernel
theorem dL_holds_295 : decode cL_holds 295 = .ok (.iload 12, 2) := by decide +kernel
theorem dL_holds_297 : decode cL_holds 297 = .ok (.bipush 6, 2) := by decide +kernel
theorem dL_holds_299 : decode cL_holds 299 = .ok (.invokevirtual 9, 3) := by decide +kernel
theorem dL_holds_302 : decode cL_holds 302 = .ok (.iload 8, 2) := by decide +kernel
theorem dL_holds_304 : decode cL_holds 304 = .ok (.ishr, 1) := by decide +kernel
theorem dL_holds_305 : decode cL_holds 305 = .ok (.iconst 1, 1) := by decide +kernel
theorem dL_holds_306 : decode cL_holds 306 = .ok (.iand, 1) := by decide +kernel
theorem dL_holds_307 : decode cL_holds 307 = .ok (.iconst 1, 1) := by decide +kernel
theorem dL_holds_308 : decode cL_holds 308 = .ok (.if_icmp .ne 87, 3) := by decide +kernel
theorem dL_holds_311 : decode cL_holds 311 = .ok (.aload_n 0, 1) := by decide +kernel
theorem dL_holds_312 : decode cL_holds 312 = .ok (.iload 8, 2) := by decide +kernel
theorem dL_holds_314 : decode cL_holds 314 = .ok (.iload 12, 2) := by decide +kernel
theorem dL_holds_316 : decode cL_holds 316 = .ok (.bipush 6, 2) := by decide +kernel
theorem dL_holds_318 : decode cL_holds 318 = .ok (.invokevirtual 9, 3) := by decide +kernel
theorem dL_holds_321 : decode cL_holds 321 = .ok (.aload_n 0, 1) := by decide +kernel
theorem dL_holds_322 : decode cL_holds 322 = .ok (.iload 8, 2) := by decide +kernel
theorem dL_holds_324 : decode cL_holds 324 = .ok (.iload 12, 2) := by decide +kernel
theorem dL_holds_326 : decode cL_holds 326 = .ok (.iconst 2, 1) := by decide +kernel
theorem dL_holds_327 : decode cL_holds 327 = .ok (.invokevirtual 9, 3) := by decide +kernel
theorem dL_holds_330 : decode cL_holds 330 = .ok (.ishr, 1) := by decide +kernel
theorem dL_holds_331 : decode cL_holds 331 = .ok (.iconst 1, 1) := by decide +kernel
theorem dL_holds_332 : decode cL_holds 332 = .ok (.iand, 1) := by decide +kernel
theorem dL_holds_333 : decode cL_holds 333 = .ok (.iconst 1, 1) := by decide +kernel
theorem dL_holds_334 : decode cL_holds 334 = .ok (.if_icmp .ne 61, 3) := by decide +kernel
theorem dL_holds_337 : decode cL_holds 337 = .ok (.aload_n 0, 1) := by decide +kernel
theorem dL_holds_338 : decode cL_holds 338 = .ok (.iload 8, 2) := by decide +kernel
theorem dL_holds_340 : decode cL_holds 340 = .ok (.iload 12, 2) := by decide +kernel
theorem dL_holds_342 : decode cL_holds 342 = .ok (.iconst 5, 1) := by decide +kernel
theorem dL_holds_343 : decode cL_holds 343 = .ok (.invokevirtual 9, 3) := by decide +kernel
theorem dL_holds_346 : decode cL_holds 346 = .ok (.aload_n 0, 1) := by decide +kernel
theorem dL_holds_347 : decode cL_holds 347 = .ok (.iconst 3, 1) := by decide +kernel
theorem dL_holds_348 : decode cL_holds 348 = .ok (.invokevirtual 15, 3) := by decide +kernel
theorem dL_holds_351 : decode cL_holds 351 = .ok (.if_icmp .gt 44, 3) := by decide +kernel
theorem dL_holds_354 : decode cL_holds 354 = .ok (.iload 13, 2) := by decide +kernel
theorem dL_holds_356 : decode cL_holds 356 = .ok (.ifCond .lt 35, 3) := by decide +kernel
theorem dL_holds_359 : decode cL_holds 359 = .ok (.aload_n 0, 1) := by decide +kernel
theorem dL_holds_360 : decode cL_holds 360 = .ok (.iload 8, 2) := by decide +kernel
theorem dL_holds_362 : decode cL_holds 362 = .ok (.iload 12, 2) := by decide +kernel
theorem dL_holds_364 : decode cL_holds 364 = .ok (.iconst 1, 1) := by decide +kernel
theorem dL_holds_365 : decode cL_holds 365 = .ok (.invokevirtual 9, 3) := by decide +kernel
theorem dL_holds_368 : decode cL_holds 368 = .ok (.iconst 1, 1) := by decide +kernel
theorem dL_holds_369 : decode cL_holds 369 = .ok (.if_icmp .lt 26, 3) := by decide +kernel
theorem dL_holds_372 : decode cL_holds 372 = .ok (.aload_n 0, 1) := by decide +kernel
theorem dL_holds_373 : decode cL_holds 373 = .ok (.iload 8, 2) := by decide +kernel
theorem dL_holds_375 : decode cL_holds 375 = .ok (.iload 12, 2) := by decide +kernel
theorem dL_holds_377 : decode cL_holds 377 = .ok (.iconst 1, 1) := by decide +kernel
theorem dL_holds_378 : decode cL_holds 378 = .ok (.invokevirtual 9, 3) := by decide +kernel
theorem dL_holds_381 : decode cL_holds 381 = .ok (.aload_n 0, 1) := by decide +kernel
theorem dL_holds_382 : decode cL_holds 382 = .ok (.iload 8, 2) := by decide +kernel
theorem dL_holds_384 : decode cL_holds 384 = .ok (.iconst 1, 1) := by decide +kernel
theorem dL_holds_385 : decode cL_holds 385 = .ok (.invokevirtual 19, 3) := by decide +kernel
theorem dL_holds_388 : decode cL_holds 388 = .ok (.if_icmp .gt 7, 3) := by decide +kernel
theorem dL_holds_391 : decode cL_holds 391 = .ok (.iconst 1, 1) := by decide +kernel
theorem dL_holds_392 : decode cL_holds 392 = .ok (.goto 4, 3) := by decide +kernel
theorem dL_holds_395 : decode cL_holds 395 = .ok (.iconst 0, 1) := by decide +kernel
theorem dL_holds_396 : decode cL_holds 396 = .ok (.istore 7, 2) := by decide +kernel
theorem dL_holds_398 : decode cL_holds 398 = .ok (.iinc 12 1, 3) := by decide +kernel
theorem dL_holds_401 : decode cL_holds 401 = .ok (.goto (-224), 3) := by decide +kernel
theorem dL_holds_404 : decode cL_holds 404 = .ok (.iinc 8 1, 3) := by decide +kernel
theorem dL_holds_407 : decode cL_holds 407 = .ok (.goto (-386), 3) := by decide +kernel
theorem dL_holds_410 : decode cL_holds 410 = .ok (.iload 7, 2) := by decide +kernel
theorem dL_holds_412 : decode cL_holds 412 = .ok (.ifCond .eq 67, 3) := by decide +kernel
theorem dL_holds_415 : decode cL_holds 415 = .ok (.aload_n 0, 1) := by decide +kernel
theorem dL_holds_416 : decode cL_holds 416 = .ok (.iconst 1, 1) := by decide +kernel
theorem dL_holds_417 : decode cL_holds 417 = .ok (.invokevirtual 15, 3) := by decide +kernel
theorem dL_holds_420 : decode cL_holds 420 = .ok (.iload_n 1, 1) := by decide +kernel
theorem dL_holds_421 : decode cL_holds 421 = .ok (.if_icmp .ne 58, 3) := by decide +kernel
theorem dL_holds_424 : decode cL_holds 424 = .ok (.aload_n 0, 1) := by decide +kernel
theorem dL_holds_425 : decode cL_holds 425 = .ok (.iconst 2, 1) := by decide +kernel
theorem dL_holds_426 : decode cL_holds 426 = .ok (.invokevirtual 15, 3) := by decide +kernel
theorem dL_holds_429 : decode cL_holds 429 = .ok (.iload_n 2, 1) := by decide +kernel
theorem dL_holds_430 : decode cL_holds 430 = .ok (.if_icmp .ne 49, 3) := by decide +kernel
theorem dL_holds_433 : decode cL_holds 433 = .ok (.aload_n 0, 1) := by decide +kernel
theorem dL_holds_434 : decode cL_holds 434 = .ok (.iconst 5, 1) := by decide +kernel
theorem dL_holds_435 : decode cL_holds 435 = .ok (.invokevirtual 15, 3) := by decide +kernel
theorem dL_holds_438 : decode cL_holds 438 = .ok (.iload_n 3, 1) := by decide +kernel
theorem dL_holds_439 : decode cL_holds 439 = .ok (.if_icmp .ne 40, 3) := by decide +kernel
theorem dL_holds_442 : decode cL_holds 442 = .ok (.aload_n 0, 1) := by decide +kernel
theorem dL_holds_443 : decode cL_holds 443 = .ok (.bipush 6, 2) := by decide +kernel
theorem dL_holds_445 : decode cL_holds 445 = .ok (.invokevirtual 15, 3) := by decide +kernel
theorem dL_holds_448 : decode cL_holds 448 = .ok (.iload 4, 2) := by decide +kernel
theorem dL_holds_450 : decode cL_holds 450 = .ok (.if_icmp .ne 29, 3) := by decide +kernel
theorem dL_holds_453 : decode cL_holds 453 = .ok (.aload_n 0, 1) := by decide +kernel
theorem dL_holds_454 : decode cL_holds 454 = .ok (.bipush 7, 2) := by decide +kernel
theorem dL_holds_456 : decode cL_holds 456 = .ok (.invokevirtual 15, 3) := by decide +kernel
theorem dL_holds_459 : decode cL_holds 459 = .ok (.iload 5, 2) := by decide +kernel
theorem dL_holds_461 : decode cL_holds 461 = .ok (.if_icmp .ne 18, 3) := by decide +kernel
theorem dL_holds_464 : decode cL_holds 464 = .ok (.aload_n 0, 1) := by decide +kernel
theorem dL_holds_465 : decode cL_holds 465 = .ok (.bipush 8, 2) := by decide +kernel
theorem dL_holds_467 : decode cL_holds 467 = .ok (.invokevirtual 15, 3) := by decide +kernel
theorem dL_holds_470 : decode cL_holds 470 = .ok (.iload 6, 2) := by decide +kernel
theorem dL_holds_472 : decode cL_holds 472 = .ok (.if_icmp .ne 7, 3) := by decide +kernel
theorem dL_holds_475 : decode cL_holds 475 = .ok (.iconst 1, 1) := by decide +kernel
theorem dL_holds_476 : decode cL_holds 476 = .ok (.goto 4, 3) := by decide +kernel
theorem dL_holds_479 : decode cL_holds 479 = .ok (.iconst 0, 1) := by decide +kernel
theorem dL_holds_480 : decode cL_holds 480 = .ok (.ireturn, 1) := by decide +kernel
theorem dL_meets_0 : decode cL_meets 0 = .ok (.bipush 24, 2) := by decide +kernel
theorem dL_meets_2 : decode cL_meets 2 = .ok (.newarray .int, 2) := by decide +kernel
theorem dL_meets_4 : decode cL_meets 4 = .ok (.astore_n 3, 1) := by decide +kernel
theorem dL_meets_5 : decode cL_meets 5 = .ok (.iconst 0, 1) := by decide +kernel
theorem dL_meets_6 : decode cL_meets 6 = .ok (.istore 4, 2) := by decide +kernel
theorem dL_meets_8 : decode cL_meets 8 = .ok (.iload 4, 2) := by decide +kernel
theorem dL_meets_10 : decode cL_meets 10 = .ok (.bipush 12, 2) := by decide +kernel
theorem dL_meets_12 : decode cL_meets 12 = .ok (.if_icmp .ge 34, 3) := by decide +kernel
theorem dL_meets_15 : decode cL_meets 15 = .ok (.aload_n 3, 1) := by decide +kernel
theorem dL_meets_16 : decode cL_meets 16 = .ok (.iload 4, 2) := by decide +kernel
theorem dL_meets_18 : decode cL_meets 18 = .ok (.aload_n 0, 1) := by decide +kernel
theorem dL_meets_19 : decode cL_meets 19 = .ok (.iload_n 1, 1) := by decide +kernel
theorem dL_meets_20 : decode cL_meets 20 = .ok (.iload 4, 2) := by decide +kernel
theorem dL_meets_22 : decode cL_meets 22 = .ok (.invokestatic 26, 3) := by decide +kernel
theorem dL_meets_25 : decode cL_meets 25 = .ok (.iastore, 1) := by decide +kernel
theorem dL_meets_26 : decode cL_meets 26 = .ok (.aload_n 3, 1) := by decide +kernel
theorem dL_meets_27 : decode cL_meets 27 = .ok (.bipush 12, 2) := by decide +kernel
theorem dL_meets_29 : decode cL_meets 29 = .ok (.iload 4, 2) := by decide +kernel
theorem dL_meets_31 : decode cL_meets 31 = .ok (.iadd, 1) := by decide +kernel
theorem dL_meets_32 : decode cL_meets 32 = .ok (.aload_n 0, 1) := by decide +kernel
theorem dL_meets_33 : decode cL_meets 33 = .ok (.iload_n 2, 1) := by decide +kernel
theorem dL_meets_34 : decode cL_meets 34 = .ok (.iload 4, 2) := by decide +kernel
theorem dL_meets_36 : decode cL_meets 36 = .ok (.invokestatic 26, 3) := by decide +kernel
theorem dL_meets_39 : decode cL_meets 39 = .ok (.iastore, 1) := by decide +kernel
theorem dL_meets_40 : decode cL_meets 40 = .ok (.iinc 4 1, 3) := by decide +kernel
theorem dL_meets_43 : decode cL_meets 43 = .ok (.goto (-35), 3) := by decide +kernel
theorem dL_meets_46 : decode cL_meets 46 = .ok (.aload_n 0, 1) := by decide +kernel
theorem dL_meets_47 : decode cL_meets 47 = .ok (.iload_n 1, 1) := by decide +kernel
theorem dL_meets_48 : decode cL_meets 48 = .ok (.iload_n 2, 1) := by decide +kernel
theorem dL_meets_49 : decode cL_meets 49 = .ok (.invokevirtual 32, 3) := by decide +kernel
theorem dL_meets_52 : decode cL_meets 52 = .ok (.istore 4, 2) := by decide +kernel
theorem dL_meets_54 : decode cL_meets 54 = .ok (.aload_n 0, 1) := by decide +kernel
theorem dL_meets_55 : decode cL_meets 55 = .ok (.iload_n 1, 1) := by decide +kernel
theorem dL_meets_56 : decode cL_meets 56 = .ok (.iconst 1, 1) := by decide +kernel
theorem dL_meets_57 : decode cL_meets 57 = .ok (.invokevirtual 19, 3) := by decide +kernel
theorem dL_meets_60 : decode cL_meets 60 = .ok (.aload_n 0, 1) := by decide +kernel
theorem dL_meets_61 : decode cL_meets 61 = .ok (.iload_n 2, 1) := by decide +kernel
theorem dL_meets_62 : decode cL_meets 62 = .ok (.iconst 1, 1) := by decide +kernel
theorem dL_meets_63 : decode cL_meets 63 = .ok (.invokevirtual 19, 3) := by decide +kernel
theorem dL_meets_66 : decode cL_meets 66 = .ok (.if_icmp .le 12, 3) := by decide +kernel
theorem dL_meets_69 : decode cL_meets 69 = .ok (.aload_n 0, 1) := by decide +kernel
theorem dL_meets_70 : decode cL_meets 70 = .ok (.iload_n 1, 1) := by decide +kernel
theorem dL_meets_71 : decode cL_meets 71 = .ok (.iconst 1, 1) := by decide +kernel
theorem dL_meets_72 : decode cL_meets 72 = .ok (.invokevirtual 19, 3) := by decide +kernel
theorem dL_meets_75 : decode cL_meets 75 = .ok (.goto 9, 3) := by decide +kernel
theorem dL_meets_78 : decode cL_meets 78 = .ok (.aload_n 0, 1) := by decide +kernel
theorem dL_meets_79 : decode cL_meets 79 = .ok (.iload_n 2, 1) := by decide +kernel
theorem dL_meets_80 : decode cL_meets 80 = .ok (.iconst 1, 1) := by decide +kernel
theorem dL_meets_81 : decode cL_meets 81 = .ok (.invokevirtual 19, 3) := by decide +kernel
theorem dL_meets_84 : decode cL_meets 84 = .ok (.istore 5, 2) := by decide +kernel
theorem dL_meets_86 : decode cL_meets 86 = .ok (.aload_n 0, 1) := by decide +kernel
theorem dL_meets_87 : decode cL_meets 87 = .ok (.bipush 8, 2) := by decide +kernel
theorem dL_meets_89 : decode cL_meets 89 = .ok (.invokevirtual 15, 3) := by decide +kernel
theorem dL_meets_92 : decode cL_meets 92 = .ok (.istore 6, 2) := by decide +kernel
theorem dL_meets_94 : decode cL_meets 94 = .ok (.aload_n 0, 1) := by decide +kernel
theorem dL_meets_95 : decode cL_meets 95 = .ok (.iload_n 1, 1) := by decide +kernel
theorem dL_meets_96 : decode cL_meets 96 = .ok (.iload_n 2, 1) := by decide +kernel
theorem dL_meets_97 : decode cL_meets 97 = .ok (.invokevirtual 35, 3) := by decide +kernel
theorem dL_meets_100 : decode cL_meets 100 = .ok (.istore 7, 2) := by decide +kernel
theorem dL_meets_102 : decode cL_meets 102 = .ok (.iload 7, 2) := by decide +kernel
theorem dL_meets_104 : decode cL_meets 104 = .ok (.ifCond .ge 45, 3) := by decide +kernel
theorem dL_meets_107 : decode cL_meets 107 = .ok (.iload 7, 2) := by decide +kernel
theorem dL_meets_109 : decode cL_meets 109 = .ok (.ldc 38, 2) := by decide +kernel
theorem dL_meets_111 : decode cL_meets 111 = .ok (.if_icmp .ne 36, 3) := by decide +kernel
theorem dL_meets_114 : decode cL_meets 114 = .ok (.aload_n 0, 1) := by decide +kernel
theorem dL_meets_115 : decode cL_meets 115 = .ok (.iload_n 1, 1) := by decide +kernel
theorem dL_meets_116 : decode cL_meets 116 = .ok (.iconst 0, 1) := by decide +kernel
theorem dL_meets_117 : decode cL_meets 117 = .ok (.invokevirtual 19, 3) := by decide +kernel
theorem dL_meets_120 : decode cL_meets 120 = .ok (.ifCond .gt 12, 3) := by decide +kernel
theorem dL_meets_123 : decode cL_meets 123 = .ok (.aload_n 0, 1) := by decide +kernel
theorem dL_meets_124 : decode cL_meets 124 = .ok (.iload_n 2, 1) := by decide +kernel
theorem dL_meets_125 : decode cL_meets 125 = .ok (.iconst 0, 1) := by decide +kernel
theorem dL_meets_126 : decode cL_meets 126 = .ok (.invokevirtual 19, 3) := by decide +kernel
theorem dL_meets_129 : decode cL_meets 129 = .ok (.ifCond .le 18, 3) := by decide +kernel
theorem dL_meets_132 : decode cL_meets 132 = .ok (.aload_n 0, 1) := by decide +kernel
theorem dL_meets_133 : decode cL_meets 133 = .ok (.bipush 8, 2) := by decide +kernel
theorem dL_meets_135 : decode cL_meets 135 = .ok (.invokevirtual 15, 3) := by decide +kernel
theorem dL_meets_138 : decode cL_meets 138 = .ok (.iload 6, 2) := by decide +kernel
theorem dL_meets_140 : decode cL_meets 140 = .ok (.if_icmp .ne 7, 3) := by decide +kernel
theorem dL_meets_143 : decode cL_meets 143 = .ok (.iconst 1, 1) := by decide +kernel
theorem dL_meets_144 : decode cL_meets 144 = .ok (.goto 4, 3) := by decide +kernel
theorem dL_meets_147 : decode cL_meets 147 = .ok (.iconst 0, 1) := by decide +kernel
theorem dL_meets_148 : decode cL_meets 148 = .ok (.ireturn, 1) := by decide +kernel
theorem dL_meets_149 : decode cL_meets 149 = .ok (.iconst 0, 1) := by decide +kernel
theorem dL_meets_150 : decode cL_meets 150 = .ok (.istore 8, 2) := by decide +kernel
theorem dL_meets_152 : decode cL_meets 152 = .ok (.aload_n 0, 1) := by decide +kernel
theorem dL_meets_153 : decode cL_meets 153 = .ok (.iload_n 1, 1) := by decide +kernel
theorem dL_meets_154 : decode cL_meets 154 = .ok (.iconst 1, 1) := by decide +kernel
theorem dL_meets_155 : decode cL_meets 155 = .ok (.invokevirtual 19, 3) := by decide +kernel
theorem dL_meets_158 : decode cL_meets 158 = .ok (.iload 5, 2) := by decide +kernel
theorem dL_meets_160 : decode cL_meets 160 = .ok (.if_icmp .ne 18, 3) := by decide +kernel
theorem dL_meets_163 : decode cL_meets 163 = .ok (.aload_n 0, 1) := by decide +kernel
theorem dL_meets_164 : decode cL_meets 164 = .ok (.iload_n 2, 1) := by decide +kernel
theorem dL_meets_165 : decode cL_meets 165 = .ok (.iconst 1, 1) := by decide +kernel
theorem dL_meets_166 : decode cL_meets 166 = .ok (.invokevirtual 19, 3) := by decide +kernel
theorem dL_meets_169 : decode cL_meets 169 = .ok (.iload 5, 2) := by decide +kernel
theorem dL_meets_171 : decode cL_meets 171 = .ok (.if_icmp .ne 7, 3) := by decide +kernel
theorem dL_meets_174 : decode cL_meets 174 = .ok (.iconst 1, 1) := by decide +kernel
theorem dL_meets_175 : decode cL_meets 175 = .ok (.goto 4, 3) := by decide +kernel
theorem dL_meets_178 : decode cL_meets 178 = .ok (.iconst 0, 1) := by decide +kernel
theorem dL_meets_179 : decode cL_meets 179 = .ok (.istore 9, 2) := by decide +kernel
theorem dL_meets_181 : decode cL_meets 181 = .ok (.iconst 0, 1) := by decide +kernel
theorem dL_meets_182 : decode cL_meets 182 = .ok (.istore 10, 2) := by decide +kernel
theorem dL_meets_184 : decode cL_meets 184 = .ok (.iload 10, 2) := by decide +kernel
theorem dL_meets_186 : decode cL_meets 186 = .ok (.bipush 12, 2) := by decide +kernel
theorem dL_meets_188 : decode cL_meets 188 = .ok (.if_icmp .ge 173, 3) := by decide +kernel
theorem dL_meets_191 : decode cL_meets 191 = .ok (.iload 9, 2) := by decide +kernel
theorem dL_meets_193 : decode cL_meets 193 = .ok (.ifCond .eq 168, 3) := by decide +kernel
theorem dL_meets_196 : decode cL_meets 196 = .ok (.aload_n 0, 1) := by decide +kernel
theorem dL_meets_197 : decode cL_meets 197 = .ok (.iload_n 1, 1) := by decide +kernel
theorem dL_meets_198 : decode cL_meets 198 = .ok (.iload 10, 2) := by decide +kernel
theorem dL_meets_200 : decode cL_meets 200 = .ok (.invokestatic 26, 3) := by decide +kernel
theorem dL_meets_203 : decode cL_meets 203 = .ok (.istore 11, 2) := by decide +kernel
theorem dL_meets_205 : decode cL_meets 205 = .ok (.aload_n 0, 1) := by decide +kernel
theorem dL_meets_206 : decode cL_meets 206 = .ok (.iload_n 2, 1) := by decide +kernel
theorem dL_meets_207 : decode cL_meets 207 = .ok (.iload 10, 2) := by decide +kernel
theorem dL_meets_209 : decode cL_meets 209 = .ok (.invokestatic 26, 3) := by decide +kernel
theorem dL_meets_212 : decode cL_meets 212 = .ok (.istore 12, 2) := by decide +kernel
theorem dL_meets_214 : decode cL_meets 214 = .ok (.aload_n 3, 1) := by decide +kernel
theorem dL_meets_215 : decode cL_meets 215 = .ok (.iload 10, 2) := by decide +kernel
theorem dL_meets_217 : decode cL_meets 217 = .ok (.iaload, 1) := by decide +kernel
theorem dL_meets_218 : decode cL_meets 218 = .ok (.aload_n 3, 1) := by decide +kernel
theorem dL_meets_219 : decode cL_meets 219 = .ok (.bipush 12, 2) := by decide +kernel
theorem dL_meets_221 : decode cL_meets 221 = .ok (.iload 10, 2) := by decide +kernel
theorem dL_meets_223 : decode cL_meets 223 = .ok (.iadd, 1) := by decide +kernel
theorem dL_meets_224 : decode cL_meets 224 = .ok (.iaload, 1) := by decide +kernel
theorem dL_meets_225 : decode cL_meets 225 = .ok (.if_icmp .le 10, 3) := by decide +kernel
theorem dL_meets_228 : decode cL_meets 228 = .ok (.aload_n 3, 1) := by decide +kernel
theorem dL_meets_229 : decode cL_meets 229 = .ok (.iload 10, 2) := by decide +kernel
theorem dL_meets_231 : decode cL_meets 231 = .ok (.iaload, 1) := by decide +kernel
theorem dL_meets_232 : decode cL_meets 232 = .ok (.goto 10, 3) := by decide +kernel
theorem dL_meets_235 : decode cL_meets 235 = .ok (.aload_n 3, 1) := by decide +kernel
theorem dL_meets_236 : decode cL_meets 236 = .ok (.bipush 12, 2) := by decide +kernel
theorem dL_meets_238 : decode cL_meets 238 = .ok (.iload 10, 2) := by decide +kernel
theorem dL_meets_240 : decode cL_meets 240 = .ok (.iadd, 1) := by decide +kernel
theorem dL_meets_241 : decode cL_meets 241 = .ok (.iaload, 1) := by decide +kernel
theorem dL_meets_242 : decode cL_meets 242 = .ok (.istore 13, 2) := by decide +kernel
theorem dL_meets_244 : decode cL_meets 244 = .ok (.iload 8, 2) := by decide +kernel
theorem dL_meets_246 : decode cL_meets 246 = .ok (.iload 11, 2) := by decide +kernel
theorem dL_meets_248 : decode cL_meets 248 = .ok (.aload_n 3, 1) := by decide +kernel
theorem dL_meets_249 : decode cL_meets 249 = .ok (.iload 10, 2) := by decide +kernel
theorem dL_meets_251 : decode cL_meets 251 = .ok (.iaload, 1) := by decide +kernel
theorem dL_meets_252 : decode cL_meets 252 = .ok (.if_icmp .gt 15, 3) := by decide +kernel
theorem dL_meets_255 : decode cL_meets 255 = .ok (.iload 12, 2) := by decide +kernel
theorem dL_meets_257 : decode cL_meets 257 = .ok (.aload_n 3, 1) := by decide +kernel
theorem dL_meets_258 : decode cL_meets 258 = .ok (.bipush 12, 2) := by decide +kernel
theorem dL_meets_260 : decode cL_meets 260 = .ok (.iload 10, 2) := by decide +kernel
theorem dL_meets_262 : decode cL_meets 262 = .ok (.iadd, 1) := by decide +kernel
theorem dL_meets_263 : decode cL_meets 263 = .ok (.iaload, 1) := by decide +kernel
theorem dL_meets_264 : decode cL_meets 264 = .ok (.if_icmp .le 7, 3) := by decide +kernel
theorem dL_meets_267 : decode cL_meets 267 = .ok (.iconst 1, 1) := by decide +kernel
theorem dL_meets_268 : decode cL_meets 268 = .ok (.goto 4, 3) := by decide +kernel
theorem dL_meets_271 : decode cL_meets 271 = .ok (.iconst 0, 1) := by decide +kernel
theorem dL_meets_272 : decode cL_meets 272 = .ok (.iadd, 1) := by decide +kernel
theorem dL_meets_273 : decode cL_meets 273 = .ok (.istore 8, 2) := by decide +kernel
theorem dL_meets_275 : decode cL_meets 275 = .ok (.iload 11, 2) := by decide +kernel
theorem dL_meets_277 : decode cL_meets 277 = .ok (.aload_n 3, 1) := by decide +kernel
theorem dL_meets_278 : decode cL_meets 278 = .ok (.iload 10, 2) := by decide +kernel
theorem dL_meets_280 : decode cL_meets 280 = .ok (.iaload, 1) := by decide +kernel
theorem dL_meets_281 : decode cL_meets 281 = .ok (.if_icmp .lt 71, 3) := by decide +kernel
theorem dL_meets_284 : decode cL_meets 284 = .ok (.iload 12, 2) := by decide +kernel
theorem dL_meets_286 : decode cL_meets 286 = .ok (.aload_n 3, 1) := by decide +kernel
theorem dL_meets_287 : decode cL_meets 287 = .ok (.bipush 12, 2) := by decide +kernel
theorem dL_meets_289 : decode cL_meets 289 = .ok (.iload 10, 2) := by decide +kernel
theorem dL_meets_291 : decode cL_meets 291 = .ok (.iadd, 1) := by decide +kernel
theorem dL_meets_292 : decode cL_meets 292 = .ok (.iaload, 1) := by decide +kernel
theorem dL_meets_293 : decode cL_meets 293 = .ok (.if_icmp .lt 59, 3) := by decide +kernel
theorem dL_meets_296 : decode cL_meets 296 = .ok (.iload 11, 2) := by decide +kernel
theorem dL_meets_298 : decode cL_meets 298 = .ok (.iload 13, 2) := by decide +kernel
theorem dL_meets_300 : decode cL_meets 300 = .ok (.if_icmp .gt 52, 3) := by decide +kernel
theorem dL_meets_303 : decode cL_meets 303 = .ok (.iload 12, 2) := by decide +kernel
theorem dL_meets_305 : decode cL_meets 305 = .ok (.iload 13, 2) := by decide +kernel
theorem dL_meets_307 : decode cL_meets 307 = .ok (.if_icmp .gt 45, 3) := by decide +kernel
theorem dL_meets_310 : decode cL_meets 310 = .ok (.aload_n 0, 1) := by decide +kernel
theorem dL_meets_311 : decode cL_meets 311 = .ok (.iload_n 1, 1) := by decide +kernel
theorem dL_meets_312 : decode cL_meets 312 = .ok (.iload 10, 2) := by decide +kernel
theorem dL_meets_314 : decode cL_meets 314 = .ok (.iconst 0, 1) := by decide +kernel
theorem dL_meets_315 : decode cL_meets 315 = .ok (.invokevirtual 9, 3) := by decide +kernel
theorem dL_meets_318 : decode cL_meets 318 = .ok (.iconst 1, 1) := by decide +kernel
theorem dL_meets_319 : decode cL_meets 319 = .ok (.if_icmp .ne 29, 3) := by decide +kernel
theorem dL_meets_322 : decode cL_meets 322 = .ok (.aload_n 0, 1) := by decide +kernel
theorem dL_meets_323 : decode cL_meets 323 = .ok (.iload_n 2, 1) := by decide +kernel
theorem dL_meets_324 : decode cL_meets 324 = .ok (.iload 10, 2) := by decide +kernel
theorem dL_meets_326 : decode cL_meets 326 = .ok (.iconst 0, 1) := by decide +kernel
theorem dL_meets_327 : decode cL_meets 327 = .ok (.invokevirtual 9, 3) := by decide +kernel
theorem dL_meets_330 : decode cL_meets 330 = .ok (.iconst 1, 1) := by decide +kernel
theorem dL_meets_331 : decode cL_meets 331 = .ok (.if_icmp .ne 17, 3) := by decide +kernel
theorem dL_meets_334 : decode cL_meets 334 = .ok (.iload 11, 2) := by decide +kernel
theorem dL_meets_336 : decode cL_meets 336 = .ok (.iload 13, 2) := by decide +kernel
theorem dL_meets_338 : decode cL_meets 338 = .ok (.if_icmp .ne 14, 3) := by decide +kernel
theorem dL_meets_341 : decode cL_meets 341 = .ok (.iload 12, 2) := by decide +kernel
theorem dL_meets_343 : decode cL_meets 343 = .ok (.iload 13, 2) := by decide +kernel
theorem dL_meets_345 : decode cL_meets 345 = .ok (.if_icmp .ne 7, 3) := by decide +kernel
theorem dL_meets_348 : decode cL_meets 348 = .ok (.iconst 1, 1) := by decide +kernel
theorem dL_meets_349 : decode cL_meets 349 = .ok (.goto 4, 3) := by decide +kernel
theorem dL_meets_352 : decode cL_meets 352 = .ok (.iconst 0, 1) := by decide +kernel
theorem dL_meets_353 : decode cL_meets 353 = .ok (.istore 9, 2) := by decide +kernel
theorem dL_meets_355 : decode cL_meets 355 = .ok (.iinc 10 1, 3) := by decide +kernel
theorem dL_meets_358 : decode cL_meets 358 = .ok (.goto (-174), 3) := by decide +kernel
theorem dL_meets_361 : decode cL_meets 361 = .ok (.aload_n 0, 1) := by decide +kernel
theorem dL_meets_362 : decode cL_meets 362 = .ok (.iload_n 1, 1) := by decide +kernel
theorem dL_meets_363 : decode cL_meets 363 = .ok (.iload_n 2, 1) := by decide +kernel
theorem dL_meets_364 : decode cL_meets 364 = .ok (.invokevirtual 32, 3) := by decide +kernel
theorem dL_meets_367 : decode cL_meets 367 = .ok (.istore 10, 2) := by decide +kernel
theorem dL_meets_369 : decode cL_meets 369 = .ok (.iconst 0, 1) := by decide +kernel
theorem dL_meets_370 : decode cL_meets 370 = .ok (.istore 11, 2) := by decide +kernel
theorem dL_meets_372 : decode cL_meets 372 = .ok (.iload 11, 2) := by decide +kernel
theorem dL_meets_374 : decode cL_meets 374 = .ok (.bipush 12, 2) := by decide +kernel
theorem dL_meets_376 : decode cL_meets 376 = .ok (.if_icmp .ge 26, 3) := by decide +kernel
theorem dL_meets_379 : decode cL_meets 379 = .ok (.iload 8, 2) := by decide +kernel
theorem dL_meets_381 : decode cL_meets 381 = .ok (.iload 4, 2) := by decide +kernel
theorem dL_meets_383 : decode cL_meets 383 = .ok (.iload 10, 2) := by decide +kernel
theorem dL_meets_385 : decode cL_meets 385 = .ok (.iconst (-1), 1) := by decide +kernel
theorem dL_meets_386 : decode cL_meets 386 = .ok (.ixor, 1) := by decide +kernel
theorem dL_meets_387 : decode cL_meets 387 = .ok (.iand, 1) := by decide +kernel
theorem dL_meets_388 : decode cL_meets 388 = .ok (.iload 11, 2) := by decide +kernel
theorem dL_meets_390 : decode cL_meets 390 = .ok (.ishr, 1) := by decide +kernel
theorem dL_meets_391 : decode cL_meets 391 = .ok (.iconst 1, 1) := by decide +kernel
theorem dL_meets_392 : decode cL_meets 392 = .ok (.iand, 1) := by decide +kernel
theorem dL_meets_393 : decode cL_meets 393 = .ok (.isub, 1) := by decide +kernel
theorem dL_meets_394 : decode cL_meets 394 = .ok (.istore 8, 2) := by decide +kernel
theorem dL_meets_396 : decode cL_meets 396 = .ok (.iinc 11 1, 3) := by decide +kernel
theorem dL_meets_399 : decode cL_meets 399 = .ok (.goto (-27), 3) := by decide +kernel
theorem dL_meets_402 : decode cL_meets 402 = .ok (.iload 9, 2) := by decide +kernel
theorem dL_meets_404 : decode cL_meets 404 = .ok (.ifCond .eq 47, 3) := by decide +kernel
theorem dL_meets_407 : decode cL_meets 407 = .ok (.iload 8, 2) := by decide +kernel
theorem dL_meets_409 : decode cL_meets 409 = .ok (.ifCond .ne 42, 3) := by decide +kernel
theorem dL_meets_412 : decode cL_meets 412 = .ok (.iload 10, 2) := by decide +kernel
theorem dL_meets_414 : decode cL_meets 414 = .ok (.iload 4, 2) := by decide +kernel
theorem dL_meets_416 : decode cL_meets 416 = .ok (.iconst (-1), 1) := by decide +kernel
theorem dL_meets_417 : decode cL_meets 417 = .ok (.ixor, 1) := by decide +kernel
theorem dL_meets_418 : decode cL_meets 418 = .ok (.iand, 1) := by decide +kernel
theorem dL_meets_419 : decode cL_meets 419 = .ok (.ifCond .ne 32, 3) := by decide +kernel
theorem dL_meets_422 : decode cL_meets 422 = .ok (.aload_n 0, 1) := by decide +kernel
theorem dL_meets_423 : decode cL_meets 423 = .ok (.bipush 8, 2) := by decide +kernel
theorem dL_meets_425 : decode cL_meets 425 = .ok (.invokevirtual 15, 3) := by decide +kernel
theorem dL_meets_428 : decode cL_meets 428 = .ok (.iload 6, 2) := by decide +kernel
theorem dL_meets_430 : decode cL_meets 430 = .ok (.if_icmp .lt 21, 3) := by decide +kernel
theorem dL_meets_433 : decode cL_meets 433 = .ok (.aload_n 0, 1) := by decide +kernel
theorem dL_meets_434 : decode cL_meets 434 = .ok (.bipush 8, 2) := by decide +kernel
theorem dL_meets_436 : decode cL_meets 436 = .ok (.invokevirtual 15, 3) := by decide +kernel
theorem dL_meets_439 : decode cL_meets 439 = .ok (.iload 6, 2) := by decide +kernel
theorem dL_meets_441 : decode cL_meets 441 = .ok (.iload 7, 2) := by decide +kernel
theorem dL_meets_443 : decode cL_meets 443 = .ok (.iadd, 1) := by decide +kernel
theorem dL_meets_444 : decode cL_meets 444 = .ok (.if_icmp .gt 7, 3) := by decide +kernel
theorem dL_meets_447 : decode cL_meets 447 = .ok (.iconst 1, 1) := by decide +kernel
theorem dL_meets_448 : decode cL_meets 448 = .ok (.goto 4, 3) := by decide +kernel
theorem dL_meets_451 : decode cL_meets 451 = .ok (.iconst 0, 1) := by decide +kernel
theorem dL_meets_452 : decode cL_meets 452 = .ok (.ireturn, 1) := by decide +kernel
theorem dL_acts_0 : decode cL_acts 0 = .ok (.iload_n 1, 1) := by decide +kernel
theorem dL_acts_1 : decode cL_acts 1 = .ok (.bipush 16, 2) := by decide +kernel
theorem dL_acts_3 : decode cL_acts 3 = .ok (.idiv, 1) := by decide +kernel
theorem dL_acts_4 : decode cL_acts 4 = .ok (.istore_n 2, 1) := by decide +kernel
theorem dL_acts_5 : decode cL_acts 5 = .ok (.iload_n 2, 1) := by decide +kernel
theorem dL_acts_6 : decode cL_acts 6 = .ok (.iconst 5, 1) := by decide +kernel
theorem dL_acts_7 : decode cL_acts 7 = .ok (.irem, 1) := by decide +kernel
theorem dL_acts_8 : decode cL_acts 8 = .ok (.istore_n 3, 1) := by decide +kernel
theorem dL_acts_9 : decode cL_acts 9 = .ok (.iload_n 3, 1) := by decide +kernel
theorem dL_acts_10 : decode cL_acts 10 = .ok (.iconst 1, 1) := by decide +kernel
theorem dL_acts_11 : decode cL_acts 11 = .ok (.iadd, 1) := by decide +kernel
theorem dL_acts_12 : decode cL_acts 12 = .ok (.iload_n 2, 1) := by decide +kernel
theorem dL_acts_13 : decode cL_acts 13 = .ok (.bipush 8, 2) := by decide +kernel
theorem dL_acts_15 : decode cL_acts 15 = .ok (.idiv, 1) := by decide +kernel
theorem dL_acts_16 : decode cL_acts 16 = .ok (.iconst 4, 1) := by decide +kernel
theorem dL_acts_17 : decode cL_acts 17 = .ok (.irem, 1) := by decide +kernel
theorem dL_acts_18 : decode cL_acts 18 = .ok (.iadd, 1) := by decide +kernel
theorem dL_acts_19 : decode cL_acts 19 = .ok (.iconst 5, 1) := by decide +kernel
theorem dL_acts_20 : decode cL_acts 20 = .ok (.irem, 1) := by decide +kernel
theorem dL_acts_21 : decode cL_acts 21 = .ok (.istore 4, 2) := by decide +kernel
theorem dL_acts_23 : decode cL_acts 23 = .ok (.iload_n 2, 1) := by decide +kernel
theorem dL_acts_24 : decode cL_acts 24 = .ok (.bipush 32, 2) := by decide +kernel
theorem dL_acts_26 : decode cL_acts 26 = .ok (.idiv, 1) := by decide +kernel
theorem dL_acts_27 : decode cL_acts 27 = .ok (.iconst 3, 1) := by decide +kernel
theorem dL_acts_28 : decode cL_acts 28 = .ok (.irem, 1) := by decide +kernel
theorem dL_acts_29 : decode cL_acts 29 = .ok (.istore 5, 2) := by decide +kernel
theorem dL_acts_31 : decode cL_acts 31 = .ok (.aload_n 0, 1) := by decide +kernel
theorem dL_acts_32 : decode cL_acts 32 = .ok (.iload_n 3, 1) := by decide +kernel
theorem dL_acts_33 : decode cL_acts 33 = .ok (.iconst 1, 1) := by decide +kernel
theorem dL_acts_34 : decode cL_acts 34 = .ok (.invokevirtual 19, 3) := by decide +kernel
theorem dL_acts_37 : decode cL_acts 37 = .ok (.istore 6, 2) := by decide +kernel
theorem dL_acts_39 : decode cL_acts 39 = .ok (.iload_n 1, 1) := by decide +kernel
theorem dL_acts_40 : decode cL_acts 40 = .ok (.bipush 16, 2) := by decide +kernel
theorem dL_acts_42 : decode cL_acts 42 = .ok (.irem, 1) := by decide +kernel
theorem dL_acts_43 : decode cL_acts 43 = .ok (.tableswitch 495 0 12 #[65, 65, 65, 166, 166, 166, 280, 325, 325, 359, 359, 449, 469], 65) := by decide +kernel
theorem dL_acts_108 : decode cL_acts 108 = .ok (.aload_n 0, 1) := by decide +kernel
theorem dL_acts_109 : decode cL_acts 109 = .ok (.iload_n 3, 1) := by decide +kernel
theorem dL_acts_110 : decode cL_acts 110 = .ok (.iload 5, 2) := by decide +kernel
theorem dL_acts_112 : decode cL_acts 112 = .ok (.iload_n 2, 1) := by decide +kernel
theorem dL_acts_113 : decode cL_acts 113 = .ok (.sipush 128, 3) := by decide +kernel
theorem dL_acts_116 : decode cL_acts 116 = .ok (.idiv, 1) := by decide +kernel
theorem dL_acts_117 : decode cL_acts 117 = .ok (.bipush 100, 2) := by decide +kernel
theorem dL_acts_119 : decode cL_acts 119 = .ok (.irem, 1) := by decide +kernel
theorem dL_acts_120 : decode cL_acts 120 = .ok (.iload_n 2, 1) := by decide +kernel
theorem dL_acts_121 : decode cL_acts 121 = .ok (.sipush 16384, 3) := by decide +kernel
theorem dL_acts_124 : decode cL_acts 124 = .ok (.idiv, 1) := by decide +kernel
theorem dL_acts_125 : decode cL_acts 125 = .ok (.iconst 5, 1) := by decide +kernel
theorem dL_acts_126 : decode cL_acts 126 = .ok (.irem, 1) := by decide +kernel
theorem dL_acts_127 : decode cL_acts 127 = .ok (.iconst 2, 1) := by decide +kernel
theorem dL_acts_128 : decode cL_acts 128 = .ok (.if_icmp .le 7, 3) := by decide +kernel
theorem dL_acts_131 : decode cL_acts 131 = .ok (.iconst 0, 1) := by decide +kernel
theorem dL_acts_132 : decode cL_acts 132 = .ok (.goto 10, 3) := by decide +kernel
theorem dL_acts_135 : decode cL_acts 135 = .ok (.iload_n 2, 1) := by decide +kernel
theorem dL_acts_136 : decode cL_acts 136 = .ok (.sipush 16384, 3) := by decide +kernel
theorem dL_acts_139 : decode cL_acts 139 = .ok (.idiv, 1) := by decide +kernel
theorem dL_acts_140 : decode cL_acts 140 = .ok (.iconst 5, 1) := by decide +kernel
theorem dL_acts_141 : decode cL_acts 141 = .ok (.irem, 1) := by decide +kernel
theorem dL_acts_142 : decode cL_acts 142 = .ok (.invokevirtual 39, 3) := by decide +kernel
theorem dL_acts_145 : decode cL_acts 145 = .ok (.istore 7, 2) := by decide +kernel
theorem dL_acts_147 : decode cL_acts 147 = .ok (.iload 7, 2) := by decide +kernel
theorem dL_acts_149 : decode cL_acts 149 = .ok (.ldc 38, 2) := by decide +kernel
theorem dL_acts_151 : decode cL_acts 151 = .ok (.if_icmp .ne 20, 3) := by decide +kernel
theorem dL_acts_154 : decode cL_acts 154 = .ok (.aload_n 0, 1) := by decide +kernel
theorem dL_acts_155 : decode cL_acts 155 = .ok (.iload_n 3, 1) := by decide +kernel
theorem dL_acts_156 : decode cL_acts 156 = .ok (.iconst 0, 1) := by decide +kernel
theorem dL_acts_157 : decode cL_acts 157 = .ok (.invokevirtual 19, 3) := by decide +kernel
theorem dL_acts_160 : decode cL_acts 160 = .ok (.ifCond .le 7, 3) := by decide +kernel
theorem dL_acts_163 : decode cL_acts 163 = .ok (.iconst 1, 1) := by decide +kernel
theorem dL_acts_164 : decode cL_acts 164 = .ok (.goto 44, 3) := by decide +kernel
theorem dL_acts_167 : decode cL_acts 167 = .ok (.iconst 0, 1) := by decide +kernel
theorem dL_acts_168 : decode cL_acts 168 = .ok (.goto 40, 3) := by decide +kernel
theorem dL_acts_171 : decode cL_acts 171 = .ok (.iload 7, 2) := by decide +kernel
theorem dL_acts_173 : decode cL_acts 173 = .ok (.iload 6, 2) := by decide +kernel
theorem dL_acts_175 : decode cL_acts 175 = .ok (.iconst 1, 1) := by decide +kernel
theorem dL_acts_176 : decode cL_acts 176 = .ok (.iadd, 1) := by decide +kernel
theorem dL_acts_177 : decode cL_acts 177 = .ok (.if_icmp .ne 30, 3) := by decide +kernel
theorem dL_acts_180 : decode cL_acts 180 = .ok (.aload_n 0, 1) := by decide +kernel
theorem dL_acts_181 : decode cL_acts 181 = .ok (.iload_n 3, 1) := by decide +kernel
theorem dL_acts_182 : decode cL_acts 182 = .ok (.iload 5, 2) := by decide +kernel
theorem dL_acts_184 : decode cL_acts 184 = .ok (.iconst 0, 1) := by decide +kernel
theorem dL_acts_185 : decode cL_acts 185 = .ok (.invokevirtual 9, 3) := by decide +kernel
theorem dL_acts_188 : decode cL_acts 188 = .ok (.ifCond .ne 19, 3) := by decide +kernel
theorem dL_acts_191 : decode cL_acts 191 = .ok (.aload_n 0, 1) := by decide +kernel
theorem dL_acts_192 : decode cL_acts 192 = .ok (.iload_n 3, 1) := by decide +kernel
theorem dL_acts_193 : decode cL_acts 193 = .ok (.iload 5, 2) := by decide +kernel
theorem dL_acts_195 : decode cL_acts 195 = .ok (.iconst 2, 1) := by decide +kernel
theorem dL_acts_196 : decode cL_acts 196 = .ok (.invokevirtual 9, 3) := by decide +kernel
theorem dL_acts_199 : decode cL_acts 199 = .ok (.iload_n 3, 1) := by decide +kernel
theorem dL_acts_200 : decode cL_acts 200 = .ok (.if_icmp .ne 7, 3) := by decide +kernel
theorem dL_acts_203 : decode cL_acts 203 = .ok (.iconst 1, 1) := by decide +kernel
theorem dL_acts_204 : decode cL_acts 204 = .ok (.goto 4, 3) := by decide +kernel
theorem dL_acts_207 : decode cL_acts 207 = .ok (.iconst 0, 1) := by decide +kernel
theorem dL_acts_208 : decode cL_acts 208 = .ok (.ireturn, 1) := by decide +kernel
theorem dL_acts_209 : decode cL_acts 209 = .ok (.aload_n 0, 1) := by decide +kernel
theorem dL_acts_210 : decode cL_acts 210 = .ok (.bipush 9, 2) := by decide +kernel
theorem dL_acts_212 : decode cL_acts 212 = .ok (.invokevirtual 15, 3) := by decide +kernel
theorem dL_acts_215 : decode cL_acts 215 = .ok (.istore 8, 2) := by decide +kernel
theorem dL_acts_217 : decode cL_acts 217 = .ok (.aload_n 0, 1) := by decide +kernel
theorem dL_acts_218 : decode cL_acts 218 = .ok (.iload_n 3, 1) := by decide +kernel
theorem dL_acts_219 : decode cL_acts 219 = .ok (.iload 5, 2) := by decide +kernel
theorem dL_acts_221 : decode cL_acts 221 = .ok (.invokevirtual 43, 3) := by decide +kernel
theorem dL_acts_224 : decode cL_acts 224 = .ok (.istore 9, 2) := by decide +kernel
theorem dL_acts_226 : decode cL_acts 226 = .ok (.iload 9, 2) := by decide +kernel
theorem dL_acts_228 : decode cL_acts 228 = .ok (.ldc 38, 2) := by decide +kernel
theorem dL_acts_230 : decode cL_acts 230 = .ok (.if_icmp .ne 22, 3) := by decide +kernel
theorem dL_acts_233 : decode cL_acts 233 = .ok (.aload_n 0, 1) := by decide +kernel
theorem dL_acts_234 : decode cL_acts 234 = .ok (.bipush 9, 2) := by decide +kernel
theorem dL_acts_236 : decode cL_acts 236 = .ok (.invokevirtual 15, 3) := by decide +kernel
theorem dL_acts_239 : decode cL_acts 239 = .ok (.iload 8, 2) := by decide +kernel
theorem dL_acts_241 : decode cL_acts 241 = .ok (.if_icmp .ne 7, 3) := by decide +kernel
theorem dL_acts_244 : decode cL_acts 244 = .ok (.iconst 1, 1) := by decide +kernel
theorem dL_acts_245 : decode cL_acts 245 = .ok (.goto 77, 3) := by decide +kernel
theorem dL_acts_248 : decode cL_acts 248 = .ok (.iconst 0, 1) := by decide +kernel
theorem dL_acts_249 : decode cL_acts 249 = .ok (.goto 73, 3) := by decide +kernel
theorem dL_acts_252 : decode cL_acts 252 = .ok (.iload 9, 2) := by decide +kernel
theorem dL_acts_254 : decode cL_acts 254 = .ok (.iload 6, 2) := by decide +kernel
theorem dL_acts_256 : decode cL_acts 256 = .ok (.iconst 1, 1) := by decide +kernel
theorem dL_acts_257 : decode cL_acts 257 = .ok (.iadd, 1) := by decide +kernel
theorem dL_acts_258 : decode cL_acts 258 = .ok (.if_icmp .ne 63, 3) := by decide +kernel
theorem dL_acts_261 : decode cL_acts 261 = .ok (.aload_n 0, 1) := by decide +kernel
theorem dL_acts_262 : decode cL_acts 262 = .ok (.bipush 9, 2) := by decide +kernel
theorem dL_acts_264 : decode cL_acts 264 = .ok (.invokevirtual 15, 3) := by decide +kernel
theorem dL_acts_267 : decode cL_acts 267 = .ok (.iload 8, 2) := by decide +kernel
theorem dL_acts_269 : decode cL_acts 269 = .ok (.iconst 1, 1) := by decide +kernel
theorem dL_acts_270 : decode cL_acts 270 = .ok (.iadd, 1) := by decide +kernel
theorem dL_acts_271 : decode cL_acts 271 = .ok (.if_icmp .ne 50, 3) := by decide +kernel
theorem dL_acts_274 : decode cL_acts 274 = .ok (.aload_n 0, 1) := by decide +kernel
theorem dL_acts_275 : decode cL_acts 275 = .ok (.iload_n 3, 1) := by decide +kernel
theorem dL_acts_276 : decode cL_acts 276 = .ok (.iload 5, 2) := by decide +kernel
theorem dL_acts_278 : decode cL_acts 278 = .ok (.iconst 0, 1) := by decide +kernel
theorem dL_acts_279 : decode cL_acts 279 = .ok (.invokevirtual 9, 3) := by decide +kernel
theorem dL_acts_282 : decode cL_acts 282 = .ok (.iconst 1, 1) := by decide +kernel
theorem dL_acts_283 : decode cL_acts 283 = .ok (.if_icmp .ne 38, 3) := by decide +kernel
theorem dL_acts_286 : decode cL_acts 286 = .ok (.aload_n 0, 1) := by decide +kernel
theorem dL_acts_287 : decode cL_acts 287 = .ok (.iload_n 3, 1) := by decide +kernel
theorem dL_acts_288 : decode cL_acts 288 = .ok (.iload 5, 2) := by decide +kernel
theorem dL_acts_290 : decode cL_acts 290 = .ok (.bipush 6, 2) := by decide +kernel
theorem dL_acts_292 : decode cL_acts 292 = .ok (.invokevirtual 9, 3) := by decide +kernel
theorem dL_acts_295 : decode cL_acts 295 = .ok (.iconst 1, 1) := by decide +kernel
theorem dL_acts_296 : decode cL_acts 296 = .ok (.iload_n 3, 1) := by decide +kernel
theorem dL_acts_297 : decode cL_acts 297 = .ok (.ishl, 1) := by decide +kernel
theorem dL_acts_298 : decode cL_acts 298 = .ok (.if_icmp .ne 23, 3) := by decide +kernel
theorem dL_acts_301 : decode cL_acts 301 = .ok (.aload_n 0, 1) := by decide +kernel
theorem dL_acts_302 : decode cL_acts 302 = .ok (.iload_n 3, 1) := by decide +kernel
theorem dL_acts_303 : decode cL_acts 303 = .ok (.iload 5, 2) := by decide +kernel
theorem dL_acts_305 : decode cL_acts 305 = .ok (.iconst 5, 1) := by decide +kernel
theorem dL_acts_306 : decode cL_acts 306 = .ok (.invokevirtual 9, 3) := by decide +kernel
theorem dL_acts_309 : decode cL_acts 309 = .ok (.aload_n 0, 1) := by decide +kernel
theorem dL_acts_310 : decode cL_acts 310 = .ok (.iconst 3, 1) := by decide +kernel
theorem dL_acts_311 : decode cL_acts 311 = .ok (.invokevirtual 15, 3) := by decide +kernel
theorem dL_acts_314 : decode cL_acts 314 = .ok (.if_icmp .ne 7, 3) := by decide +kernel
theorem dL_acts_317 : decode cL_acts 317 = .ok (.iconst 1, 1) := by decide +kernel
theorem dL_acts_318 : decode cL_acts 318 = .ok (.goto 4, 3) := by decide +kernel
theorem dL_acts_321 : decode cL_acts 321 = .ok (.iconst 0, 1) := by decide +kernel
theorem dL_acts_322 : decode cL_acts 322 = .ok (.ireturn, 1) := by decide +kernel
theorem dL_acts_323 : decode cL_acts 323 = .ok (.aload_n 0, 1) := by decide +kernel
theorem dL_acts_324 : decode cL_acts 324 = .ok (.iconst 1, 1) := by decide +kernel
theorem dL_acts_325 : decode cL_acts 325 = .ok (.invokevirtual 15, 3) := by decide +kernel
theorem dL_acts_328 : decode cL_acts 328 = .ok (.istore 10, 2) := by decide +kernel
theorem dL_acts_330 : decode cL_acts 330 = .ok (.aload_n 0, 1) := by decide +kernel
theorem dL_acts_331 : decode cL_acts 331 = .ok (.iload_n 3, 1) := by decide +kernel
theorem dL_acts_332 : decode cL_acts 332 = .ok (.invokevirtual 46, 3) := by decide +kernel
theorem dL_acts_335 : decode cL_acts 335 = .ok (.istore 11, 2) := by decide +kernel
theorem dL_acts_337 : decode cL_acts 337 = .ok (.iload 11, 2) := by decide +kernel
theorem dL_acts_339 : decode cL_acts 339 = .ok (.ldc 38, 2) := by decide +kernel
theorem dL_acts_341 : decode cL_acts 341 = .ok (.if_icmp .eq 21, 3) := by decide +kernel
theorem dL_acts_344 : decode cL_acts 344 = .ok (.iload 11, 2) := by decide +kernel
theorem dL_acts_346 : decode cL_acts 346 = .ok (.iload 10, 2) := by decide +kernel
theorem dL_acts_348 : decode cL_acts 348 = .ok (.iconst 1, 1) := by decide +kernel
theorem dL_acts_349 : decode cL_acts 349 = .ok (.isub, 1) := by decide +kernel
theorem dL_acts_350 : decode cL_acts 350 = .ok (.if_icmp .ne 16, 3) := by decide +kernel
theorem dL_acts_353 : decode cL_acts 353 = .ok (.aload_n 0, 1) := by decide +kernel
theorem dL_acts_354 : decode cL_acts 354 = .ok (.iload_n 3, 1) := by decide +kernel
theorem dL_acts_355 : decode cL_acts 355 = .ok (.iconst 5, 1) := by decide +kernel
theorem dL_acts_356 : decode cL_acts 356 = .ok (.invokevirtual 19, 3) := by decide +kernel
theorem dL_acts_359 : decode cL_acts 359 = .ok (.ifCond .ne 7, 3) := by decide +kernel
theorem dL_acts_362 : decode cL_acts 362 = .ok (.iconst 1, 1) := by decide +kernel
theorem dL_acts_363 : decode cL_acts 363 = .ok (.goto 4, 3) := by decide +kernel
theorem dL_acts_366 : decode cL_acts 366 = .ok (.iconst 0, 1) := by decide +kernel
theorem dL_acts_367 : decode cL_acts 367 = .ok (.ireturn, 1) := by decide +kernel
theorem dL_acts_368 : decode cL_acts 368 = .ok (.aload_n 0, 1) := by decide +kernel
theorem dL_acts_369 : decode cL_acts 369 = .ok (.iload_n 3, 1) := by decide +kernel
theorem dL_acts_370 : decode cL_acts 370 = .ok (.iconst 5, 1) := by decide +kernel
theorem dL_acts_371 : decode cL_acts 371 = .ok (.invokevirtual 19, 3) := by decide +kernel
theorem dL_acts_374 : decode cL_acts 374 = .ok (.istore 12, 2) := by decide +kernel
theorem dL_acts_376 : decode cL_acts 376 = .ok (.aload_n 0, 1) := by decide +kernel
theorem dL_acts_377 : decode cL_acts 377 = .ok (.iload_n 3, 1) := by decide +kernel
theorem dL_acts_378 : decode cL_acts 378 = .ok (.invokevirtual 49, 3) := by decide +kernel
theorem dL_acts_381 : decode cL_acts 381 = .ok (.iload 12, 2) := by decide +kernel
theorem dL_acts_383 : decode cL_acts 383 = .ok (.ifCond .ge 8, 3) := by decide +kernel
theorem dL_acts_386 : decode cL_acts 386 = .ok (.ldc 38, 2) := by decide +kernel
theorem dL_acts_388 : decode cL_acts 388 = .ok (.goto 5, 3) := by decide +kernel
theorem dL_acts_391 : decode cL_acts 391 = .ok (.iload 12, 2) := by decide +kernel
theorem dL_acts_393 : decode cL_acts 393 = .ok (.if_icmp .ne 7, 3) := by decide +kernel
theorem dL_acts_396 : decode cL_acts 396 = .ok (.iconst 1, 1) := by decide +kernel
theorem dL_acts_397 : decode cL_acts 397 = .ok (.goto 4, 3) := by decide +kernel
theorem dL_acts_400 : decode cL_acts 400 = .ok (.iconst 0, 1) := by decide +kernel
theorem dL_acts_401 : decode cL_acts 401 = .ok (.ireturn, 1) := by decide +kernel
theorem dL_acts_402 : decode cL_acts 402 = .ok (.aload_n 0, 1) := by decide +kernel
theorem dL_acts_403 : decode cL_acts 403 = .ok (.bipush 6, 2) := by decide +kernel
theorem dL_acts_405 : decode cL_acts 405 = .ok (.invokevirtual 15, 3) := by decide +kernel
theorem dL_acts_408 : decode cL_acts 408 = .ok (.istore 13, 2) := by decide +kernel
theorem dL_acts_410 : decode cL_acts 410 = .ok (.aload_n 0, 1) := by decide +kernel
theorem dL_acts_411 : decode cL_acts 411 = .ok (.iconst 5, 1) := by decide +kernel
theorem dL_acts_412 : decode cL_acts 412 = .ok (.invokevirtual 15, 3) := by decide +kernel
theorem dL_acts_415 : decode cL_acts 415 = .ok (.istore 14, 2) := by decide +kernel
theorem dL_acts_417 : decode cL_acts 417 = .ok (.aload_n 0, 1) := by decide +kernel
theorem dL_acts_418 : decode cL_acts 418 = .ok (.iconst 3, 1) := by decide +kernel
theorem dL_acts_419 : decode cL_acts 419 = .ok (.invokevirtual 15, 3) := by decide +kernel
theorem dL_acts_422 : decode cL_acts 422 = .ok (.istore 15, 2) := by decide +kernel
theorem dL_acts_424 : decode cL_acts 424 = .ok (.aload_n 0, 1) := by decide +kernel
theorem dL_acts_425 : decode cL_acts 425 = .ok (.iconst 1, 1) := by decide +kernel
theorem dL_acts_426 : decode cL_acts 426 = .ok (.iload_n 2, 1) := by decide +kernel
theorem dL_acts_427 : decode cL_acts 427 = .ok (.bipush 8, 2) := by decide +kernel
theorem dL_acts_429 : decode cL_acts 429 = .ok (.idiv, 1) := by decide +kernel
theorem dL_acts_430 : decode cL_acts 430 = .ok (.iconst 4, 1) := by decide +kernel
theorem dL_acts_431 : decode cL_acts 431 = .ok (.irem, 1) := by decide +kernel
theorem dL_acts_432 : decode cL_acts 432 = .ok (.iadd, 1) := by decide +kernel
theorem dL_acts_433 : decode cL_acts 433 = .ok (.invokevirtual 52, 3) := by decide +kernel
theorem dL_acts_436 : decode cL_acts 436 = .ok (.istore 16, 2) := by decide +kernel
theorem dL_acts_438 : decode cL_acts 438 = .ok (.iload 16, 2) := by decide +kernel
theorem dL_acts_440 : decode cL_acts 440 = .ok (.ifCond .lt 50, 3) := by decide +kernel
theorem dL_acts_443 : decode cL_acts 443 = .ok (.aload_n 0, 1) := by decide +kernel
theorem dL_acts_444 : decode cL_acts 444 = .ok (.bipush 6, 2) := by decide +kernel
theorem dL_acts_446 : decode cL_acts 446 = .ok (.invokevirtual 15, 3) := by decide +kernel
theorem dL_acts_449 : decode cL_acts 449 = .ok (.iload 13, 2) := by decide +kernel
theorem dL_acts_451 : decode cL_acts 451 = .ok (.iload 16, 2) := by decide +kernel
theorem dL_acts_453 : decode cL_acts 453 = .ok (.isub, 1) := by decide +kernel
theorem dL_acts_454 : decode cL_acts 454 = .ok (.if_icmp .ne 36, 3) := by decide +kernel
theorem dL_acts_457 : decode cL_acts 457 = .ok (.aload_n 0, 1) := by decide +kernel
theorem dL_acts_458 : decode cL_acts 458 = .ok (.iconst 5, 1) := by decide +kernel
theorem dL_acts_459 : decode cL_acts 459 = .ok (.invokevirtual 15, 3) := by decide +kernel
theorem dL_acts_462 : decode cL_acts 462 = .ok (.iload 14, 2) := by decide +kernel
theorem dL_acts_464 : decode cL_acts 464 = .ok (.if_icmp .ne 26, 3) := by decide +kernel
theorem dL_acts_467 : decode cL_acts 467 = .ok (.aload_n 0, 1) := by decide +kernel
theorem dL_acts_468 : decode cL_acts 468 = .ok (.iconst 3, 1) := by decide +kernel
theorem dL_acts_469 : decode cL_acts 469 = .ok (.invokevirtual 15, 3) := by decide +kernel
theorem dL_acts_472 : decode cL_acts 472 = .ok (.iload 15, 2) := by decide +kernel
theorem dL_acts_474 : decode cL_acts 474 = .ok (.iconst 1, 1) := by decide +kernel
theorem dL_acts_475 : decode cL_acts 475 = .ok (.iadd, 1) := by decide +kernel
theorem dL_acts_476 : decode cL_acts 476 = .ok (.iload_n 2, 1) := by decide +kernel
theorem dL_acts_477 : decode cL_acts 477 = .ok (.bipush 8, 2) := by decide +kernel
theorem dL_acts_479 : decode cL_acts 479 = .ok (.idiv, 1) := by decide +kernel
theorem dL_acts_480 : decode cL_acts 480 = .ok (.iconst 4, 1) := by decide +kernel
theorem dL_acts_481 : decode cL_acts 481 = .ok (.irem, 1) := by decide +kernel
theorem dL_acts_482 : decode cL_acts 482 = .ok (.iadd, 1) := by decide +kernel
theorem dL_acts_483 : decode cL_acts 483 = .ok (.if_icmp .ne 7, 3) := by decide +kernel
theorem dL_acts_486 : decode cL_acts 486 = .ok (.iconst 1, 1) := by decide +kernel
theorem dL_acts_487 : decode cL_acts 487 = .ok (.goto 4, 3) := by decide +kernel
theorem dL_acts_490 : decode cL_acts 490 = .ok (.iconst 0, 1) := by decide +kernel
theorem dL_acts_491 : decode cL_acts 491 = .ok (.ireturn, 1) := by decide +kernel
theorem dL_acts_492 : decode cL_acts 492 = .ok (.aload_n 0, 1) := by decide +kernel
theorem dL_acts_493 : decode cL_acts 493 = .ok (.iconst 1, 1) := by decide +kernel
theorem dL_acts_494 : decode cL_acts 494 = .ok (.iload_n 2, 1) := by decide +kernel
theorem dL_acts_495 : decode cL_acts 495 = .ok (.bipush 30, 2) := by decide +kernel
theorem dL_acts_497 : decode cL_acts 497 = .ok (.irem, 1) := by decide +kernel
theorem dL_acts_498 : decode cL_acts 498 = .ok (.iadd, 1) := by decide +kernel
theorem dL_acts_499 : decode cL_acts 499 = .ok (.invokevirtual 55, 3) := by decide +kernel
theorem dL_acts_502 : decode cL_acts 502 = .ok (.iconst 1, 1) := by decide +kernel
theorem dL_acts_503 : decode cL_acts 503 = .ok (.if_icmp .lt 7, 3) := by decide +kernel
theorem dL_acts_506 : decode cL_acts 506 = .ok (.iconst 1, 1) := by decide +kernel
theorem dL_acts_507 : decode cL_acts 507 = .ok (.goto 4, 3) := by decide +kernel
theorem dL_acts_510 : decode cL_acts 510 = .ok (.iconst 0, 1) := by decide +kernel
theorem dL_acts_511 : decode cL_acts 511 = .ok (.ireturn, 1) := by decide +kernel
theorem dL_acts_512 : decode cL_acts 512 = .ok (.iload_n 2, 1) := by decide +kernel
theorem dL_acts_513 : decode cL_acts 513 = .ok (.bipush 32, 2) := by decide +kernel
theorem dL_acts_515 : decode cL_acts 515 = .ok (.idiv, 1) := by decide +kernel
theorem dL_acts_516 : decode cL_acts 516 = .ok (.bipush 8, 2) := by decide +kernel
theorem dL_acts_518 : decode cL_acts 518 = .ok (.irem, 1) := by decide +kernel
theorem dL_acts_519 : decode cL_acts 519 = .ok (.ifCond .gt 13, 3) := by decide +kernel
theorem dL_acts_522 : decode cL_acts 522 = .ok (.aload_n 0, 1) := by decide +kernel
theorem dL_acts_523 : decode cL_acts 523 = .ok (.iload_n 3, 1) := by decide +kernel
theorem dL_acts_524 : decode cL_acts 524 = .ok (.invokevirtual 58, 3) := by decide +kernel
theorem dL_acts_527 : decode cL_acts 527 = .ok (.ldc 61, 2) := by decide +kernel
theorem dL_acts_529 : decode cL_acts 529 = .ok (.if_icmp .eq 7, 3) := by decide +kernel
theorem dL_acts_532 : decode cL_acts 532 = .ok (.iconst 1, 1) := by decide +kernel
theorem dL_acts_533 : decode cL_acts 533 = .ok (.goto 4, 3) := by decide +kernel
theorem dL_acts_536 : decode cL_acts 536 = .ok (.iconst 0, 1) := by decide +kernel
theorem dL_acts_537 : decode cL_acts 537 = .ok (.ireturn, 1) := by decide +kernel
theorem dL_acts_538 : decode cL_acts 538 = .ok (.aload_n 0, 1) := by decide +kernel
theorem dL_acts_539 : decode cL_acts 539 = .ok (.iload_n 3, 1) := by decide +kernel
theorem dL_acts_540 : decode cL_acts 540 = .ok (.iload 4, 2) := by decide +kernel
theorem dL_acts_542 : decode cL_acts 542 = .ok (.invokestatic 62, 3) := by decide +kernel
theorem dL_acts_545 : decode cL_acts 545 = .ok (.ireturn, 1) := by decide +kernel
theorem dL_law_0 : decode cL_law 0 = .ok (.new 10, 3) := by decide +kernel
theorem dL_law_3 : decode cL_law 3 = .ok (.dup, 1) := by decide +kernel
theorem dL_law_4 : decode cL_law 4 = .ok (.invokespecial 66, 3) := by decide +kernel
theorem dL_law_7 : decode cL_law 7 = .ok (.astore_n 1, 1) := by decide +kernel
theorem dL_law_8 : decode cL_law 8 = .ok (.aload_n 1, 1) := by decide +kernel
theorem dL_law_9 : decode cL_law 9 = .ok (.invokestatic 67, 3) := by decide +kernel
theorem dL_law_12 : decode cL_law 12 = .ok (.istore_n 2, 1) := by decide +kernel
theorem dL_law_13 : decode cL_law 13 = .ok (.iconst 0, 1) := by decide +kernel
theorem dL_law_14 : decode cL_law 14 = .ok (.istore_n 3, 1) := by decide +kernel
theorem dL_law_15 : decode cL_law 15 = .ok (.iload_n 3, 1) := by decide +kernel
theorem dL_law_16 : decode cL_law 16 = .ok (.iconst 5, 1) := by decide +kernel
theorem dL_law_17 : decode cL_law 17 = .ok (.if_icmp .ge 34, 3) := by decide +kernel
theorem dL_law_20 : decode cL_law 20 = .ok (.iload_n 2, 1) := by decide +kernel
theorem dL_law_21 : decode cL_law 21 = .ok (.ifCond .eq 30, 3) := by decide +kernel
theorem dL_law_24 : decode cL_law 24 = .ok (.aload_n 1, 1) := by decide +kernel
theorem dL_law_25 : decode cL_law 25 = .ok (.invokevirtual 71, 3) := by decide +kernel
theorem dL_law_28 : decode cL_law 28 = .ok (.iload_n 3, 1) := by decide +kernel
theorem dL_law_29 : decode cL_law 29 = .ok (.if_icmp .ne 14, 3) := by decide +kernel
theorem dL_law_32 : decode cL_law 32 = .ok (.aload_n 1, 1) := by decide +kernel
theorem dL_law_33 : decode cL_law 33 = .ok (.invokestatic 67, 3) := by decide +kernel
theorem dL_law_36 : decode cL_law 36 = .ok (.ifCond .eq 7, 3) := by decide +kernel
theorem dL_law_39 : decode cL_law 39 = .ok (.iconst 1, 1) := by decide +kernel
theorem dL_law_40 : decode cL_law 40 = .ok (.goto 4, 3) := by decide +kernel
theorem dL_law_43 : decode cL_law 43 = .ok (.iconst 0, 1) := by decide +kernel
theorem dL_law_44 : decode cL_law 44 = .ok (.istore_n 2, 1) := by decide +kernel
theorem dL_law_45 : decode cL_law 45 = .ok (.iinc 3 1, 3) := by decide +kernel
theorem dL_law_48 : decode cL_law 48 = .ok (.goto (-33), 3) := by decide +kernel
theorem dL_law_51 : decode cL_law 51 = .ok (.iconst 0, 1) := by decide +kernel
theorem dL_law_52 : decode cL_law 52 = .ok (.istore_n 3, 1) := by decide +kernel
theorem dL_law_53 : decode cL_law 53 = .ok (.iload_n 3, 1) := by decide +kernel
theorem dL_law_54 : decode cL_law 54 = .ok (.bipush 34, 2) := by decide +kernel
theorem dL_law_56 : decode cL_law 56 = .ok (.if_icmp .ge 38, 3) := by decide +kernel
theorem dL_law_59 : decode cL_law 59 = .ok (.iload_n 2, 1) := by decide +kernel
theorem dL_law_60 : decode cL_law 60 = .ok (.ifCond .eq 34, 3) := by decide +kernel
theorem dL_law_63 : decode cL_law 63 = .ok (.aload_n 1, 1) := by decide +kernel
theorem dL_law_64 : decode cL_law 64 = .ok (.aload_n 0, 1) := by decide +kernel
theorem dL_law_65 : decode cL_law 65 = .ok (.iload_n 3, 1) := by decide +kernel
theorem dL_law_66 : decode cL_law 66 = .ok (.invokestatic 75, 3) := by decide +kernel
theorem dL_law_69 : decode cL_law 69 = .ok (.invokestatic 79, 3) := by decide +kernel
theorem dL_law_72 : decode cL_law 72 = .ok (.ifCond .eq 14, 3) := by decide +kernel
theorem dL_law_75 : decode cL_law 75 = .ok (.aload_n 1, 1) := by decide +kernel
theorem dL_law_76 : decode cL_law 76 = .ok (.invokestatic 67, 3) := by decide +kernel
theorem dL_law_79 : decode cL_law 79 = .ok (.ifCond .eq 7, 3) := by decide +kernel
theorem dL_law_82 : decode cL_law 82 = .ok (.iconst 1, 1) := by decide +kernel
theorem dL_law_83 : decode cL_law 83 = .ok (.goto 4, 3) := by decide +kernel
theorem dL_law_86 : decode cL_law 86 = .ok (.iconst 0, 1) := by decide +kernel
theorem dL_law_87 : decode cL_law 87 = .ok (.istore_n 2, 1) := by decide +kernel
theorem dL_law_88 : decode cL_law 88 = .ok (.iinc 3 1, 3) := by decide +kernel
theorem dL_law_91 : decode cL_law 91 = .ok (.goto (-38), 3) := by decide +kernel
theorem dL_law_94 : decode cL_law 94 = .ok (.aload_n 1, 1) := by decide +kernel
theorem dL_law_95 : decode cL_law 95 = .ok (.iconst 3, 1) := by decide +kernel
theorem dL_law_96 : decode cL_law 96 = .ok (.invokevirtual 15, 3) := by decide +kernel
theorem dL_law_99 : decode cL_law 99 = .ok (.istore_n 3, 1) := by decide +kernel
theorem dL_law_100 : decode cL_law 100 = .ok (.aload_n 1, 1) := by decide +kernel
theorem dL_law_101 : decode cL_law 101 = .ok (.bipush 6, 2) := by decide +kernel
theorem dL_law_103 : decode cL_law 103 = .ok (.invokevirtual 15, 3) := by decide +kernel
theorem dL_law_106 : decode cL_law 106 = .ok (.istore 4, 2) := by decide +kernel
theorem dL_law_108 : decode cL_law 108 = .ok (.iload_n 2, 1) := by decide +kernel
theorem dL_law_109 : decode cL_law 109 = .ok (.ifCond .eq 32, 3) := by decide +kernel
theorem dL_law_112 : decode cL_law 112 = .ok (.aload_n 1, 1) := by decide +kernel
theorem dL_law_113 : decode cL_law 113 = .ok (.bipush 60, 2) := by decide +kernel
theorem dL_law_115 : decode cL_law 115 = .ok (.invokevirtual 52, 3) := by decide +kernel
theorem dL_law_118 : decode cL_law 118 = .ok (.ifCond .lt 23, 3) := by decide +kernel
theorem dL_law_121 : decode cL_law 121 = .ok (.aload_n 1, 1) := by decide +kernel
theorem dL_law_122 : decode cL_law 122 = .ok (.bipush 6, 2) := by decide +kernel
theorem dL_law_124 : decode cL_law 124 = .ok (.invokevirtual 15, 3) := by decide +kernel
theorem dL_law_127 : decode cL_law 127 = .ok (.ifCond .ne 14, 3) := by decide +kernel
theorem dL_law_130 : decode cL_law 130 = .ok (.aload_n 1, 1) := by decide +kernel
theorem dL_law_131 : decode cL_law 131 = .ok (.invokestatic 67, 3) := by decide +kernel
theorem dL_law_134 : decode cL_law 134 = .ok (.ifCond .eq 7, 3) := by decide +kernel
theorem dL_law_137 : decode cL_law 137 = .ok (.iconst 1, 1) := by decide +kernel
theorem dL_law_138 : decode cL_law 138 = .ok (.goto 4, 3) := by decide +kernel
theorem dL_law_141 : decode cL_law 141 = .ok (.iconst 0, 1) := by decide +kernel
theorem dL_law_142 : decode cL_law 142 = .ok (.istore_n 2, 1) := by decide +kernel
theorem dL_law_143 : decode cL_law 143 = .ok (.iload_n 2, 1) := by decide +kernel
theorem dL_law_144 : decode cL_law 144 = .ok (.ifCond .eq 41, 3) := by decide +kernel
theorem dL_law_147 : decode cL_law 147 = .ok (.aload_n 1, 1) := by decide +kernel
theorem dL_law_148 : decode cL_law 148 = .ok (.invokevirtual 83, 3) := by decide +kernel
theorem dL_law_151 : decode cL_law 151 = .ok (.ifCond .lt 34, 3) := by decide +kernel
theorem dL_law_154 : decode cL_law 154 = .ok (.aload_n 1, 1) := by decide +kernel
theorem dL_law_155 : decode cL_law 155 = .ok (.iconst 3, 1) := by decide +kernel
theorem dL_law_156 : decode cL_law 156 = .ok (.invokevirtual 15, 3) := by decide +kernel
theorem dL_law_159 : decode cL_law 159 = .ok (.iload_n 3, 1) := by decide +kernel
theorem dL_law_160 : decode cL_law 160 = .ok (.if_icmp .ne 25, 3) := by decide +kernel
theorem dL_law_163 : decode cL_law 163 = .ok (.aload_n 1, 1) := by decide +kernel
theorem dL_law_164 : decode cL_law 164 = .ok (.bipush 6, 2) := by decide +kernel
theorem dL_law_166 : decode cL_law 166 = .ok (.invokevirtual 15, 3) := by decide +kernel
theorem dL_law_169 : decode cL_law 169 = .ok (.iload 4, 2) := by decide +kernel
theorem dL_law_171 : decode cL_law 171 = .ok (.if_icmp .ne 14, 3) := by decide +kernel
theorem dL_law_174 : decode cL_law 174 = .ok (.aload_n 1, 1) := by decide +kernel
theorem dL_law_175 : decode cL_law 175 = .ok (.invokestatic 67, 3) := by decide +kernel
theorem dL_law_178 : decode cL_law 178 = .ok (.ifCond .eq 7, 3) := by decide +kernel
theorem dL_law_181 : decode cL_law 181 = .ok (.iconst 1, 1) := by decide +kernel
theorem dL_law_182 : decode cL_law 182 = .ok (.goto 4, 3) := by decide +kernel
theorem dL_law_185 : decode cL_law 185 = .ok (.iconst 0, 1) := by decide +kernel
theorem dL_law_186 : decode cL_law 186 = .ok (.ireturn, 1) := by decide +kernel
end
section
/-! the tables' good words, by their places; the nest words apart -/
def TB : List Cond := lw_tbl.filter goodWord
def NWq : Cond → Bool
  | .fieldLinkNest .. => true
  | .methodLinkNest .. => true
  | _ => false
def NL : List Cond := lw_tbl.filter NWq
theorem tb_of {w : Cond} (i : Nat) (h : lw_tbl[i]? = some w) (hg : goodWord w = true) : w ∈ TB := List.mem_filter.mpr ⟨List.mem_of_getElem? h, hg⟩
theorem nl_of {w : Cond} (i : Nat) (h : lw_tbl[i]? = some w) (hg : NWq w = true) : w ∈ NL := List.mem_filter.mpr ⟨List.mem_of_getElem? h, hg⟩
theorem tb_good : ∀ w ∈ TB, w ∈ TB ∧ ((w.onTables && w.keeps) = true ∨ ∃ ty, w = .arrayClass ty) := fun w h => ⟨h, good_of_word (List.mem_filter.mp h).2⟩
theorem tb_in {w : Cond} (h : w ∈ TB) : w ∈ lw_tbl := (List.mem_filter.mp h).1
def MI (y : MethodName) (b : ByteArray) (mL : Nat) (ret : Option FieldType) (n : Nat) : Prop := Cond.instanceMethod y ∈ TB ∧ Cond.selects y.cls y y ∈ TB ∧ Cond.initialized y.cls ∈ TB ∧ Cond.code y b mL ret ∈ TB ∧ (y.cls ≠ "java/lang/invoke/MethodHandle" ∧ y.cls ≠ "java/lang/invoke/VarHandle" ∧ (parseMethodDescriptor y.desc).map (fun d => d.parameters.length) = some n) ∧ plainName y.cls = true
def MS (y : MethodName) (b : ByteArray) (mL : Nat) (ret : Option FieldType) (n : Nat) : Prop := Cond.static y ∈ TB ∧ Cond.initialized y.cls ∈ TB ∧ Cond.code y b mL ret ∈ TB ∧ (y.cls ≠ "java/lang/invoke/MethodHandle" ∧ y.cls ≠ "java/lang/invoke/VarHandle" ∧ (parseMethodDescriptor y.desc).map (fun d => d.parameters.length) = some n) ∧ plainName y.cls = true
theorem ini_L : Cond.initialized "RumorTombsLaw" ∈ TB := tb_of 8 (by decide +kernel) rfl
theorem ini_X3 : Cond.initialized RX3 ∈ TB := tb_of 9 (by decide +kernel) rfl
theorem ini_X2 : Cond.initialized RX2 ∈ TB := tb_of 10 (by decide +kernel) rfl
theorem ini_X0 : Cond.initialized RX0 ∈ TB := tb_of 11 (by decide +kernel) rfl
theorem ini_X1 : Cond.initialized RX1 ∈ TB := tb_of 12 (by decide +kernel) rfl
theorem ini_J6 : Cond.initialized RJ6 ∈ TB := tb_of 13 (by decide +kernel) rfl
theorem ini_J10 : Cond.initialized RJ10 ∈ TB := tb_of 14 (by decide +kernel) rfl
theorem ini_J9 : Cond.initialized RJ9 ∈ TB := tb_of 15 (by decide +kernel) rfl
theorem ml_L_66 : Cond.methodLink "RumorTombsLaw" 66 yX3_init ∈ TB := tb_of 18 (by decide +kernel) rfl
theorem ml_X3_1 : Cond.methodLink RX3 1 objectInit ∈ TB := tb_of 21 (by decide +kernel) rfl
theorem mn_X3_9 : Cond.methodLinkNest RX3 9 yX2_init "RumorTombs" ∈ NL := nl_of 26 (by decide +kernel) rfl
theorem ml_X2_3 : Cond.methodLink RX2 3 objectInit ∈ TB := tb_of 29 (by decide +kernel) rfl
theorem fl_X2_9 : Cond.fieldLink RX2 9 "RumorTombs$Village" "villagers" "I" ∈ TB := tb_of 30 (by decide +kernel) rfl
theorem fn_X3_168 : Cond.fieldLinkNest RX3 168 "RumorTombs$Village" "villagers" "I" "RumorTombs" ∈ NL := nl_of 31 (by decide +kernel) rfl
theorem fl_X2_15 : Cond.fieldLink RX2 15 "RumorTombs$Village" "time" "I" ∈ TB := tb_of 32 (by decide +kernel) rfl
theorem fn_X3_175 : Cond.fieldLinkNest RX3 175 "RumorTombs$Village" "time" "I" "RumorTombs" ∈ NL := nl_of 33 (by decide +kernel) rfl
theorem fl_X2_18 : Cond.fieldLink RX2 18 "RumorTombs$Village" "watch" "I" ∈ TB := tb_of 34 (by decide +kernel) rfl
theorem fn_X3_178 : Cond.fieldLinkNest RX3 178 "RumorTombs$Village" "watch" "I" "RumorTombs" ∈ NL := nl_of 35 (by decide +kernel) rfl
theorem fl_X2_21 : Cond.fieldLink RX2 21 "RumorTombs$Village" "tombsMade" "I" ∈ TB := tb_of 36 (by decide +kernel) rfl
theorem fn_X3_190 : Cond.fieldLinkNest RX3 190 "RumorTombs$Village" "tombsMade" "I" "RumorTombs" ∈ NL := nl_of 37 (by decide +kernel) rfl
theorem fl_X2_24 : Cond.fieldLink RX2 24 "RumorTombs$Village" "states" "[I" ∈ TB := tb_of 38 (by decide +kernel) rfl
theorem fn_X3_62 : Cond.fieldLinkNest RX3 62 "RumorTombs$Village" "states" "[I" "RumorTombs" ∈ NL := nl_of 39 (by decide +kernel) rfl
theorem fl_X2_28 : Cond.fieldLink RX2 28 "RumorTombs$Village" "clocks" "[I" ∈ TB := tb_of 40 (by decide +kernel) rfl
theorem fn_X3_66 : Cond.fieldLinkNest RX3 66 "RumorTombs$Village" "clocks" "[I" "RumorTombs" ∈ NL := nl_of 41 (by decide +kernel) rfl
theorem fl_X2_31 : Cond.fieldLink RX2 31 "RumorTombs$Village" "asleepSince" "[I" ∈ TB := tb_of 42 (by decide +kernel) rfl
theorem fl_X2_34 : Cond.fieldLink RX2 34 "RumorTombs$Village" "ghostsOf" "[I" ∈ TB := tb_of 43 (by decide +kernel) rfl
theorem fn_X3_75 : Cond.fieldLinkNest RX3 75 "RumorTombs$Village" "ghostsOf" "[I" "RumorTombs" ∈ NL := nl_of 44 (by decide +kernel) rfl
theorem fl_X2_37 : Cond.fieldLink RX2 37 "RumorTombs$Village" "stamps" "[I" ∈ TB := tb_of 45 (by decide +kernel) rfl
theorem fn_X3_102 : Cond.fieldLinkNest RX3 102 "RumorTombs$Village" "stamps" "[I" "RumorTombs" ∈ NL := nl_of 46 (by decide +kernel) rfl
theorem fl_X2_40 : Cond.fieldLink RX2 40 "RumorTombs$Village" "kinds" "[I" ∈ TB := tb_of 47 (by decide +kernel) rfl
theorem fn_X3_114 : Cond.fieldLinkNest RX3 114 "RumorTombs$Village" "kinds" "[I" "RumorTombs" ∈ NL := nl_of 48 (by decide +kernel) rfl
theorem fl_X2_43 : Cond.fieldLink RX2 43 "RumorTombs$Village" "values" "[I" ∈ TB := tb_of 49 (by decide +kernel) rfl
theorem fn_X3_111 : Cond.fieldLinkNest RX3 111 "RumorTombs$Village" "values" "[I" "RumorTombs" ∈ NL := nl_of 50 (by decide +kernel) rfl
theorem fl_X2_46 : Cond.fieldLink RX2 46 "RumorTombs$Village" "made" "[I" ∈ TB := tb_of 51 (by decide +kernel) rfl
theorem fn_X3_117 : Cond.fieldLinkNest RX3 117 "RumorTombs$Village" "made" "[I" "RumorTombs" ∈ NL := nl_of 52 (by decide +kernel) rfl
theorem fl_X2_49 : Cond.fieldLink RX2 49 "RumorTombs$Village" "seen" "[I" ∈ TB := tb_of 53 (by decide +kernel) rfl
theorem fn_X3_120 : Cond.fieldLinkNest RX3 120 "RumorTombs$Village" "seen" "[I" "RumorTombs" ∈ NL := nl_of 54 (by decide +kernel) rfl
theorem fl_X2_52 : Cond.fieldLink RX2 52 "RumorTombs$Village" "newestDropped" "[I" ∈ TB := tb_of 55 (by decide +kernel) rfl
theorem fl_X2_55 : Cond.fieldLink RX2 55 "RumorTombs$Village" "newestTomb" "[I" ∈ TB := tb_of 56 (by decide +kernel) rfl
theorem ml_X3_21 : Cond.methodLink RX3 21 yX0_init ∈ TB := tb_of 91 (by decide +kernel) rfl
theorem ml_X0_3 : Cond.methodLink RX0 3 objectInit ∈ TB := tb_of 94 (by decide +kernel) rfl
theorem mn_X0_21 : Cond.methodLinkNest RX0 21 yX2_init "RumorTombs" ∈ NL := nl_of 97 (by decide +kernel) rfl
theorem fl_X0_11 : Cond.fieldLink RX0 11 "RumorTombs$History" "states" "[LRumorTombs$Village;" ∈ TB := tb_of 98 (by decide +kernel) rfl
theorem fl_X0_17 : Cond.fieldLink RX0 17 "RumorTombs$History" "kept" "I" ∈ TB := tb_of 99 (by decide +kernel) rfl
theorem fn_X3_193 : Cond.fieldLinkNest RX3 193 "RumorTombs$History" "kept" "I" "RumorTombs" ∈ NL := nl_of 100 (by decide +kernel) rfl
theorem mn_X3_28 : Cond.methodLinkNest RX3 28 yX1_init "RumorTombs" ∈ NL := nl_of 108 (by decide +kernel) rfl
theorem ml_X1_3 : Cond.methodLink RX1 3 objectInit ∈ TB := tb_of 111 (by decide +kernel) rfl
theorem fl_X1_9 : Cond.fieldLink RX1 9 "RumorTombs$Orders" "signs" "[C" ∈ TB := tb_of 112 (by decide +kernel) rfl
theorem fl_X1_15 : Cond.fieldLink RX1 15 "RumorTombs$Orders" "length" "I" ∈ TB := tb_of 113 (by decide +kernel) rfl
theorem fn_X3_196 : Cond.fieldLinkNest RX3 196 "RumorTombs$Orders" "length" "I" "RumorTombs" ∈ NL := nl_of 114 (by decide +kernel) rfl
theorem fl_X1_19 : Cond.fieldLink RX1 19 "RumorTombs$Orders" "numbers" "[I" ∈ TB := tb_of 115 (by decide +kernel) rfl
theorem fl_X1_23 : Cond.fieldLink RX1 23 "RumorTombs$Orders" "done" "I" ∈ TB := tb_of 116 (by decide +kernel) rfl
theorem fl_X1_26 : Cond.fieldLink RX1 26 "RumorTombs$Orders" "faultPosition" "I" ∈ TB := tb_of 117 (by decide +kernel) rfl
theorem fl_X1_29 : Cond.fieldLink RX1 29 "RumorTombs$Orders" "faultReason" "I" ∈ TB := tb_of 118 (by decide +kernel) rfl
theorem fl_X3_10 : Cond.fieldLink RX3 10 "RumorTombs" "now" "LRumorTombs$Village;" ∈ TB := tb_of 133 (by decide +kernel) rfl
theorem fl_X3_16 : Cond.fieldLink RX3 16 "RumorTombs" "trial" "LRumorTombs$Village;" ∈ TB := tb_of 134 (by decide +kernel) rfl
theorem fl_X3_22 : Cond.fieldLink RX3 22 "RumorTombs" "history" "LRumorTombs$History;" ∈ TB := tb_of 135 (by decide +kernel) rfl
theorem fl_X3_29 : Cond.fieldLink RX3 29 "RumorTombs" "orders" "LRumorTombs$Orders;" ∈ TB := tb_of 136 (by decide +kernel) rfl
theorem ml_L_71 : Cond.methodLink "RumorTombsLaw" 71 yX3_villager ∈ TB := tb_of 146 (by decide +kernel) rfl
theorem ml_X3_33 : Cond.methodLink RX3 33 yX0_prepare ∈ TB := tb_of 150 (by decide +kernel) rfl
theorem ml_X0_22 : Cond.methodLink RX0 22 yX2_copyFrom ∈ TB := tb_of 154 (by decide +kernel) rfl
theorem ml_X2_58 : Cond.methodLink RX2 58 yX2_copyRow ∈ TB := tb_of 158 (by decide +kernel) rfl
theorem ml_X2_62 : Cond.methodLink RX2 62 arraycopyName ∈ TB := tb_of 161 (by decide +kernel) rfl
theorem ml_X3_37 : Cond.methodLink RX3 37 yX2_addVillager ∈ TB := tb_of 164 (by decide +kernel) rfl
theorem cn_X2_72 : Cond.constant RX2 72 (-1000003) ∈ TB := tb_of 168 (by decide +kernel) rfl
theorem ml_X3_41 : Cond.methodLink RX3 41 yX3_recorded ∈ TB := tb_of 169 (by decide +kernel) rfl
theorem ml_X3_219 : Cond.methodLink RX3 219 yX0_keep ∈ TB := tb_of 173 (by decide +kernel) rfl
theorem ml_X0_26 : Cond.methodLink RX0 26 yX0_dropOldest ∈ TB := tb_of 177 (by decide +kernel) rfl
theorem ml_L_52 : Cond.methodLink "RumorTombsLaw" 52 yX3_tick ∈ TB := tb_of 181 (by decide +kernel) rfl
theorem ml_X3_127 : Cond.methodLink RX3 127 yX2_letGoBy ∈ TB := tb_of 185 (by decide +kernel) rfl
theorem cn_X2_73 : Cond.constant RX2 73 (-1000001) ∈ TB := tb_of 189 (by decide +kernel) rfl
theorem cn_X2_154 : Cond.constant RX2 154 (100000) ∈ TB := tb_of 190 (by decide +kernel) rfl
theorem ml_X2_155 : Cond.methodLink RX2 155 yX2_pass ∈ TB := tb_of 191 (by decide +kernel) rfl
theorem ml_X2_158 : Cond.methodLink RX2 158 yX2_present ∈ TB := tb_of 195 (by decide +kernel) rfl
theorem mn_X2_88 : Cond.methodLinkNest RX2 88 yX3_place "RumorTombs" ∈ NL := nl_of 199 (by decide +kernel) rfl
theorem ml_X2_95 : Cond.methodLink RX2 95 yX2_isTomb ∈ TB := tb_of 202 (by decide +kernel) rfl
theorem ml_X2_162 : Cond.methodLink RX2 162 yX2_isOver ∈ TB := tb_of 206 (by decide +kernel) rfl
theorem ml_X2_123 : Cond.methodLink RX2 123 Lib.Math.max.name ∈ TB := tb_of 210 (by decide +kernel) rfl
theorem ml_L_15 : Cond.methodLink "RumorTombsLaw" 15 yX3_count ∈ TB := tb_of 213 (by decide +kernel) rfl
theorem ml_X3_172 : Cond.methodLink RX3 172 yX2_howMany ∈ TB := tb_of 217 (by decide +kernel) rfl
theorem ml_X3_181 : Cond.methodLink RX3 181 yX2_allRumors ∈ TB := tb_of 221 (by decide +kernel) rfl
theorem ml_X2_102 : Cond.methodLink RX2 102 yX2_rumorTopics ∈ TB := tb_of 225 (by decide +kernel) rfl
theorem ml_X2_92 : Cond.methodLink RX2 92 yX2_isRumor ∈ TB := tb_of 229 (by decide +kernel) rfl
theorem ml_X2_105 : Cond.methodLink RX2 105 yJ6_bitCount_0f7a4 ∈ TB := tb_of 233 (by decide +kernel) rfl
theorem cn_J6_265 : Cond.constant RJ6 265 (1431655765) ∈ TB := tb_of 236 (by decide +kernel) rfl
theorem cn_J6_266 : Cond.constant RJ6 266 (858993459) ∈ TB := tb_of 237 (by decide +kernel) rfl
theorem cn_J6_267 : Cond.constant RJ6 267 (252645135) ∈ TB := tb_of 238 (by decide +kernel) rfl
theorem ml_X3_184 : Cond.methodLink RX3 184 yX2_allTombs ∈ TB := tb_of 239 (by decide +kernel) rfl
theorem ml_X2_110 : Cond.methodLink RX2 110 yX2_tombTopics ∈ TB := tb_of 243 (by decide +kernel) rfl
theorem ml_X3_187 : Cond.methodLink RX3 187 yX2_allDead ∈ TB := tb_of 247 (by decide +kernel) rfl
theorem ml_X2_113 : Cond.methodLink RX2 113 yX2_deadTopics ∈ TB := tb_of 251 (by decide +kernel) rfl
theorem ml_X2_98 : Cond.methodLink RX2 98 yX2_isDead ∈ TB := tb_of 255 (by decide +kernel) rfl
theorem ml_X3_152 : Cond.methodLink RX3 152 yX2_allGhosts ∈ TB := tb_of 259 (by decide +kernel) rfl
theorem cn_X3_61 : Cond.constant RX3 61 (-1000001) ∈ TB := tb_of 263 (by decide +kernel) rfl
theorem ml_L_83 : Cond.methodLink "RumorTombsLaw" 83 yX3_undo ∈ TB := tb_of 264 (by decide +kernel) rfl
theorem cn_X3_142 : Cond.constant RX3 142 (-1000002) ∈ TB := tb_of 268 (by decide +kernel) rfl
theorem ml_X3_199 : Cond.methodLink RX3 199 yX0_restore ∈ TB := tb_of 269 (by decide +kernel) rfl
theorem ml_L_75 : Cond.methodLink "RumorTombsLaw" 75 yL_cell ∈ TB := tb_of 273 (by decide +kernel) rfl
theorem cn_L_7 : Cond.constant "RumorTombsLaw" 7 (134775813) ∈ TB := tb_of 276 (by decide +kernel) rfl
theorem cn_L_8 : Cond.constant "RumorTombsLaw" 8 (2147483647) ∈ TB := tb_of 277 (by decide +kernel) rfl
theorem ml_L_67 : Cond.methodLink "RumorTombsLaw" 67 yL_holds ∈ TB := tb_of 278 (by decide +kernel) rfl
theorem ml_L_19 : Cond.methodLink "RumorTombsLaw" 19 yX3_villagerOf ∈ TB := tb_of 281 (by decide +kernel) rfl
theorem ml_X3_57 : Cond.methodLink RX3 57 yX2_has ∈ TB := tb_of 285 (by decide +kernel) rfl
theorem ml_X3_69 : Cond.methodLink RX3 69 yX2_rumorTopics ∈ TB := tb_of 289 (by decide +kernel) rfl
theorem ml_X3_72 : Cond.methodLink RX3 72 yX2_tombTopics ∈ TB := tb_of 290 (by decide +kernel) rfl
theorem ml_X3_78 : Cond.methodLink RX3 78 yX2_isAsleep ∈ TB := tb_of 291 (by decide +kernel) rfl
theorem ml_X2_68 : Cond.methodLink RX2 68 yX2_has ∈ TB := tb_of 295 (by decide +kernel) rfl
theorem ml_X3_81 : Cond.methodLink RX3 81 yX2_ticksAsleep ∈ TB := tb_of 296 (by decide +kernel) rfl
theorem cn_X3_84 : Cond.constant RX3 84 (-1000004) ∈ TB := tb_of 300 (by decide +kernel) rfl
theorem ml_L_23 : Cond.methodLink "RumorTombsLaw" 23 yX3_dead ∈ TB := tb_of 301 (by decide +kernel) rfl
theorem ml_X3_136 : Cond.methodLink RX3 136 yX2_deadTopics ∈ TB := tb_of 305 (by decide +kernel) rfl
theorem ml_L_9 : Cond.methodLink "RumorTombsLaw" 9 yX3_entryOf ∈ TB := tb_of 306 (by decide +kernel) rfl
theorem ml_X3_96 : Cond.methodLink RX3 96 yX3_isTopic ∈ TB := tb_of 310 (by decide +kernel) rfl
theorem ml_X3_99 : Cond.methodLink RX3 99 yX3_place ∈ TB := tb_of 313 (by decide +kernel) rfl
theorem ml_X3_105 : Cond.methodLink RX3 105 yX2_isTomb ∈ TB := tb_of 314 (by decide +kernel) rfl
theorem ml_X3_108 : Cond.methodLink RX3 108 yX2_author ∈ TB := tb_of 315 (by decide +kernel) rfl
theorem ml_X3_123 : Cond.methodLink RX3 123 yX2_isDead ∈ TB := tb_of 319 (by decide +kernel) rfl
theorem ml_L_79 : Cond.methodLink "RumorTombsLaw" 79 yL_acts ∈ TB := tb_of 320 (by decide +kernel) rfl
theorem ml_L_39 : Cond.methodLink "RumorTombsLaw" 39 yX3_tell ∈ TB := tb_of 323 (by decide +kernel) rfl
theorem ml_X3_85 : Cond.methodLink RX3 85 yX2_makeRumor ∈ TB := tb_of 327 (by decide +kernel) rfl
theorem mn_X2_116 : Cond.methodLinkNest RX2 116 yX3_isTopic "RumorTombs" ∈ NL := nl_of 331 (by decide +kernel) rfl
theorem ml_X2_74 : Cond.methodLink RX2 74 yX2_isAwake ∈ TB := tb_of 332 (by decide +kernel) rfl
theorem cn_X2_77 : Cond.constant RX2 77 (-1000002) ∈ TB := tb_of 336 (by decide +kernel) rfl
theorem ml_X2_119 : Cond.methodLink RX2 119 yX2_write ∈ TB := tb_of 337 (by decide +kernel) rfl
theorem cn_L_38 : Cond.constant "RumorTombsLaw" 38 (-1000002) ∈ TB := tb_of 341 (by decide +kernel) rfl
theorem ml_L_43 : Cond.methodLink "RumorTombsLaw" 43 yX3_bury ∈ TB := tb_of 342 (by decide +kernel) rfl
theorem ml_X3_89 : Cond.methodLink RX3 89 yX2_makeTomb ∈ TB := tb_of 346 (by decide +kernel) rfl
theorem ml_L_46 : Cond.methodLink "RumorTombsLaw" 46 yX3_sleep ∈ TB := tb_of 350 (by decide +kernel) rfl
theorem ml_X3_45 : Cond.methodLink RX3 45 yX2_fallAsleep ∈ TB := tb_of 354 (by decide +kernel) rfl
theorem ml_X2_78 : Cond.methodLink RX2 78 yX2_howMany ∈ TB := tb_of 358 (by decide +kernel) rfl
theorem ml_L_49 : Cond.methodLink "RumorTombsLaw" 49 yX3_wake ∈ TB := tb_of 359 (by decide +kernel) rfl
theorem ml_X3_48 : Cond.methodLink RX3 48 yX2_wakeUp ∈ TB := tb_of 363 (by decide +kernel) rfl
theorem ml_X2_82 : Cond.methodLink RX2 82 yX2_isAsleep ∈ TB := tb_of 367 (by decide +kernel) rfl
theorem ml_X2_85 : Cond.methodLink RX2 85 yX2_ticksAsleep ∈ TB := tb_of 368 (by decide +kernel) rfl
theorem ml_L_55 : Cond.methodLink "RumorTombsLaw" 55 yX3_watch ∈ TB := tb_of 369 (by decide +kernel) rfl
theorem ml_X3_54 : Cond.methodLink RX3 54 yX2_changeWatch ∈ TB := tb_of 373 (by decide +kernel) rfl
theorem ml_L_58 : Cond.methodLink "RumorTombsLaw" 58 yX3_leave ∈ TB := tb_of 377 (by decide +kernel) rfl
theorem ml_X3_51 : Cond.methodLink RX3 51 yX2_goAway ∈ TB := tb_of 381 (by decide +kernel) rfl
theorem cn_L_61 : Cond.constant "RumorTombsLaw" 61 (-1000001) ∈ TB := tb_of 385 (by decide +kernel) rfl
theorem ml_L_62 : Cond.methodLink "RumorTombsLaw" 62 yL_meets ∈ TB := tb_of 386 (by decide +kernel) rfl
theorem ml_L_26 : Cond.methodLink "RumorTombsLaw" 26 yL_rank ∈ TB := tb_of 389 (by decide +kernel) rfl
theorem ml_L_32 : Cond.methodLink "RumorTombsLaw" 32 yX3_unlike ∈ TB := tb_of 392 (by decide +kernel) rfl
theorem ml_X3_133 : Cond.methodLink RX3 133 yX2_unlikeTopics ∈ TB := tb_of 396 (by decide +kernel) rfl
theorem ml_L_35 : Cond.methodLink "RumorTombsLaw" 35 yX3_meet ∈ TB := tb_of 400 (by decide +kernel) rfl
theorem ml_X3_93 : Cond.methodLink RX3 93 yX2_bringTogether ∈ TB := tb_of 404 (by decide +kernel) rfl
theorem ml_X2_128 : Cond.methodLink RX2 128 yX2_areTwo ∈ TB := tb_of 408 (by decide +kernel) rfl
theorem ml_X2_131 : Cond.methodLink RX2 131 yX2_talk ∈ TB := tb_of 412 (by decide +kernel) rfl
theorem ml_X2_134 : Cond.methodLink RX2 134 yX2_giver ∈ TB := tb_of 416 (by decide +kernel) rfl
theorem ml_X2_144 : Cond.methodLink RX2 144 yX2_author ∈ TB := tb_of 420 (by decide +kernel) rfl
theorem ml_X2_147 : Cond.methodLink RX2 147 yX2_mayBeHanded ∈ TB := tb_of 421 (by decide +kernel) rfl
theorem ml_X2_138 : Cond.methodLink RX2 138 yX2_hand ∈ TB := tb_of 424 (by decide +kernel) rfl
theorem ml_X2_141 : Cond.methodLink RX2 141 yX2_shareSight ∈ TB := tb_of 428 (by decide +kernel) rfl
set_option maxRecDepth 20000 in
theorem mi_X3_villager : MI yX3_villager cX3_villager 1 (some .int) 0 := ⟨tb_of 147 (by decide +kernel) rfl, tb_of 148 (by decide +kernel) rfl, ini_X3, tb_of 149 (by exact rfl) rfl, ⟨by decide +kernel, by decide +kernel, by decide +kernel⟩, by decide +kernel⟩
set_option maxRecDepth 20000 in
theorem mi_X0_prepare : MI yX0_prepare cX0_prepare 2 none 1 := ⟨tb_of 151 (by decide +kernel) rfl, tb_of 152 (by decide +kernel) rfl, ini_X0, tb_of 153 (by exact rfl) rfl, ⟨by decide +kernel, by decide +kernel, by decide +kernel⟩, by decide +kernel⟩
set_option maxRecDepth 20000 in
theorem mi_X2_copyFrom : MI yX2_copyFrom cX2_copyFrom 2 none 1 := ⟨tb_of 155 (by decide +kernel) rfl, tb_of 156 (by decide +kernel) rfl, ini_X2, tb_of 157 (by exact rfl) rfl, ⟨by decide +kernel, by decide +kernel, by decide +kernel⟩, by decide +kernel⟩
set_option maxRecDepth 20000 in
theorem mi_X2_copyRow : MS yX2_copyRow cX2_copyRow 3 none 3 := ⟨tb_of 159 (by decide +kernel) rfl, ini_X2, tb_of 160 (by exact rfl) rfl, ⟨by decide +kernel, by decide +kernel, by decide +kernel⟩, by decide +kernel⟩
set_option maxRecDepth 20000 in
theorem mi_X2_addVillager : MI yX2_addVillager cX2_addVillager 1 (some .int) 0 := ⟨tb_of 165 (by decide +kernel) rfl, tb_of 166 (by decide +kernel) rfl, ini_X2, tb_of 167 (by exact rfl) rfl, ⟨by decide +kernel, by decide +kernel, by decide +kernel⟩, by decide +kernel⟩
set_option maxRecDepth 20000 in
theorem mi_X3_recorded : MI yX3_recorded cX3_recorded 2 (some .int) 1 := ⟨tb_of 171 (by decide +kernel) rfl, tb_of 0 (by decide +kernel) rfl, ini_X3, tb_of 172 (by exact rfl) rfl, ⟨by decide +kernel, by decide +kernel, by decide +kernel⟩, by decide +kernel⟩
set_option maxRecDepth 20000 in
theorem mi_X0_keep : MI yX0_keep cX0_keep 1 none 0 := ⟨tb_of 174 (by decide +kernel) rfl, tb_of 175 (by decide +kernel) rfl, ini_X0, tb_of 176 (by exact rfl) rfl, ⟨by decide +kernel, by decide +kernel, by decide +kernel⟩, by decide +kernel⟩
set_option maxRecDepth 20000 in
theorem mi_X0_dropOldest : MI yX0_dropOldest cX0_dropOldest 3 none 0 := ⟨tb_of 179 (by decide +kernel) rfl, tb_of 1 (by decide +kernel) rfl, ini_X0, tb_of 180 (by exact rfl) rfl, ⟨by decide +kernel, by decide +kernel, by decide +kernel⟩, by decide +kernel⟩
set_option maxRecDepth 20000 in
theorem mi_X3_tick : MI yX3_tick cX3_tick 2 (some .int) 1 := ⟨tb_of 182 (by decide +kernel) rfl, tb_of 183 (by decide +kernel) rfl, ini_X3, tb_of 184 (by exact rfl) rfl, ⟨by decide +kernel, by decide +kernel, by decide +kernel⟩, by decide +kernel⟩
set_option maxRecDepth 20000 in
theorem mi_X2_letGoBy : MI yX2_letGoBy cX2_letGoBy 2 (some .int) 1 := ⟨tb_of 186 (by decide +kernel) rfl, tb_of 187 (by decide +kernel) rfl, ini_X2, tb_of 188 (by exact rfl) rfl, ⟨by decide +kernel, by decide +kernel, by decide +kernel⟩, by decide +kernel⟩
set_option maxRecDepth 20000 in
theorem mi_X2_pass : MI yX2_pass cX2_pass 7 (some .int) 1 := ⟨tb_of 192 (by decide +kernel) rfl, tb_of 193 (by decide +kernel) rfl, ini_X2, tb_of 194 (by exact rfl) rfl, ⟨by decide +kernel, by decide +kernel, by decide +kernel⟩, by decide +kernel⟩
set_option maxRecDepth 20000 in
theorem mi_X2_present : MI yX2_present cX2_present 3 (some .int) 0 := ⟨tb_of 197 (by decide +kernel) rfl, tb_of 2 (by decide +kernel) rfl, ini_X2, tb_of 198 (by exact rfl) rfl, ⟨by decide +kernel, by decide +kernel, by decide +kernel⟩, by decide +kernel⟩
set_option maxRecDepth 20000 in
theorem mi_X3_place : MS yX3_place cX3_place 2 (some .int) 2 := ⟨tb_of 200 (by decide +kernel) rfl, ini_X3, tb_of 201 (by exact rfl) rfl, ⟨by decide +kernel, by decide +kernel, by decide +kernel⟩, by decide +kernel⟩
set_option maxRecDepth 20000 in
theorem mi_X2_isTomb : MI yX2_isTomb cX2_isTomb 2 (some .boolean) 1 := ⟨tb_of 203 (by decide +kernel) rfl, tb_of 204 (by decide +kernel) rfl, ini_X2, tb_of 205 (by exact rfl) rfl, ⟨by decide +kernel, by decide +kernel, by decide +kernel⟩, by decide +kernel⟩
set_option maxRecDepth 20000 in
theorem mi_X2_isOver : MI yX2_isOver cX2_isOver 3 (some .boolean) 2 := ⟨tb_of 208 (by decide +kernel) rfl, tb_of 3 (by decide +kernel) rfl, ini_X2, tb_of 209 (by exact rfl) rfl, ⟨by decide +kernel, by decide +kernel, by decide +kernel⟩, by decide +kernel⟩
set_option maxRecDepth 20000 in
theorem mi_X3_count : MI yX3_count cX3_count 2 (some .int) 1 := ⟨tb_of 214 (by decide +kernel) rfl, tb_of 215 (by decide +kernel) rfl, ini_X3, tb_of 216 (by exact rfl) rfl, ⟨by decide +kernel, by decide +kernel, by decide +kernel⟩, by decide +kernel⟩
set_option maxRecDepth 20000 in
theorem mi_X2_howMany : MI yX2_howMany cX2_howMany 4 (some .int) 1 := ⟨tb_of 218 (by decide +kernel) rfl, tb_of 219 (by decide +kernel) rfl, ini_X2, tb_of 220 (by exact rfl) rfl, ⟨by decide +kernel, by decide +kernel, by decide +kernel⟩, by decide +kernel⟩
set_option maxRecDepth 20000 in
theorem mi_X2_allRumors : MI yX2_allRumors cX2_allRumors 3 (some .int) 0 := ⟨tb_of 222 (by decide +kernel) rfl, tb_of 223 (by decide +kernel) rfl, ini_X2, tb_of 224 (by exact rfl) rfl, ⟨by decide +kernel, by decide +kernel, by decide +kernel⟩, by decide +kernel⟩
set_option maxRecDepth 20000 in
theorem mi_X2_rumorTopics : MI yX2_rumorTopics cX2_rumorTopics 4 (some .int) 1 := ⟨tb_of 226 (by decide +kernel) rfl, tb_of 227 (by decide +kernel) rfl, ini_X2, tb_of 228 (by exact rfl) rfl, ⟨by decide +kernel, by decide +kernel, by decide +kernel⟩, by decide +kernel⟩
set_option maxRecDepth 20000 in
theorem mi_X2_isRumor : MI yX2_isRumor cX2_isRumor 2 (some .boolean) 1 := ⟨tb_of 230 (by decide +kernel) rfl, tb_of 231 (by decide +kernel) rfl, ini_X2, tb_of 232 (by exact rfl) rfl, ⟨by decide +kernel, by decide +kernel, by decide +kernel⟩, by decide +kernel⟩
set_option maxRecDepth 20000 in
theorem mi_J6_bitCount_0f7a4 : MS yJ6_bitCount_0f7a4 cJ6_bitCount_0f7a4 1 (some .int) 1 := ⟨tb_of 234 (by decide +kernel) rfl, ini_J6, tb_of 235 (by exact rfl) rfl, ⟨by decide +kernel, by decide +kernel, by decide +kernel⟩, by decide +kernel⟩
set_option maxRecDepth 20000 in
theorem mi_X2_allTombs : MI yX2_allTombs cX2_allTombs 3 (some .int) 0 := ⟨tb_of 240 (by decide +kernel) rfl, tb_of 241 (by decide +kernel) rfl, ini_X2, tb_of 242 (by exact rfl) rfl, ⟨by decide +kernel, by decide +kernel, by decide +kernel⟩, by decide +kernel⟩
set_option maxRecDepth 20000 in
theorem mi_X2_tombTopics : MI yX2_tombTopics cX2_tombTopics 4 (some .int) 1 := ⟨tb_of 244 (by decide +kernel) rfl, tb_of 245 (by decide +kernel) rfl, ini_X2, tb_of 246 (by exact rfl) rfl, ⟨by decide +kernel, by decide +kernel, by decide +kernel⟩, by decide +kernel⟩
set_option maxRecDepth 20000 in
theorem mi_X2_allDead : MI yX2_allDead cX2_allDead 3 (some .int) 0 := ⟨tb_of 248 (by decide +kernel) rfl, tb_of 249 (by decide +kernel) rfl, ini_X2, tb_of 250 (by exact rfl) rfl, ⟨by decide +kernel, by decide +kernel, by decide +kernel⟩, by decide +kernel⟩
set_option maxRecDepth 20000 in
theorem mi_X2_deadTopics : MI yX2_deadTopics cX2_deadTopics 4 (some .int) 1 := ⟨tb_of 252 (by decide +kernel) rfl, tb_of 253 (by decide +kernel) rfl, ini_X2, tb_of 254 (by exact rfl) rfl, ⟨by decide +kernel, by decide +kernel, by decide +kernel⟩, by decide +kernel⟩
set_option maxRecDepth 20000 in
theorem mi_X2_isDead : MI yX2_isDead cX2_isDead 4 (some .boolean) 2 := ⟨tb_of 256 (by decide +kernel) rfl, tb_of 257 (by decide +kernel) rfl, ini_X2, tb_of 258 (by exact rfl) rfl, ⟨by decide +kernel, by decide +kernel, by decide +kernel⟩, by decide +kernel⟩
set_option maxRecDepth 20000 in
theorem mi_X2_allGhosts : MI yX2_allGhosts cX2_allGhosts 3 (some .int) 0 := ⟨tb_of 260 (by decide +kernel) rfl, tb_of 261 (by decide +kernel) rfl, ini_X2, tb_of 262 (by exact rfl) rfl, ⟨by decide +kernel, by decide +kernel, by decide +kernel⟩, by decide +kernel⟩
set_option maxRecDepth 20000 in
theorem mi_X3_undo : MI yX3_undo cX3_undo 1 (some .int) 0 := ⟨tb_of 265 (by decide +kernel) rfl, tb_of 266 (by decide +kernel) rfl, ini_X3, tb_of 267 (by exact rfl) rfl, ⟨by decide +kernel, by decide +kernel, by decide +kernel⟩, by decide +kernel⟩
set_option maxRecDepth 20000 in
theorem mi_X0_restore : MI yX0_restore cX0_restore 2 none 1 := ⟨tb_of 270 (by decide +kernel) rfl, tb_of 271 (by decide +kernel) rfl, ini_X0, tb_of 272 (by exact rfl) rfl, ⟨by decide +kernel, by decide +kernel, by decide +kernel⟩, by decide +kernel⟩
set_option maxRecDepth 20000 in
theorem mi_L_cell : MS yL_cell cL_cell 2 (some .int) 2 := ⟨tb_of 274 (by decide +kernel) rfl, ini_L, tb_of 275 (by exact rfl) rfl, ⟨by decide +kernel, by decide +kernel, by decide +kernel⟩, by decide +kernel⟩
set_option maxRecDepth 20000 in
theorem mi_L_holds : MS yL_holds cL_holds 14 (some .boolean) 1 := ⟨tb_of 279 (by decide +kernel) rfl, ini_L, tb_of 280 (by exact rfl) rfl, ⟨by decide +kernel, by decide +kernel, by decide +kernel⟩, by decide +kernel⟩
set_option maxRecDepth 20000 in
theorem mi_X3_villagerOf : MI yX3_villagerOf cX3_villagerOf 3 (some .int) 2 := ⟨tb_of 282 (by decide +kernel) rfl, tb_of 283 (by decide +kernel) rfl, ini_X3, tb_of 284 (by exact rfl) rfl, ⟨by decide +kernel, by decide +kernel, by decide +kernel⟩, by decide +kernel⟩
set_option maxRecDepth 20000 in
theorem mi_X2_has : MI yX2_has cX2_has 2 (some .boolean) 1 := ⟨tb_of 286 (by decide +kernel) rfl, tb_of 287 (by decide +kernel) rfl, ini_X2, tb_of 288 (by exact rfl) rfl, ⟨by decide +kernel, by decide +kernel, by decide +kernel⟩, by decide +kernel⟩
set_option maxRecDepth 20000 in
theorem mi_X2_isAsleep : MI yX2_isAsleep cX2_isAsleep 2 (some .boolean) 1 := ⟨tb_of 292 (by decide +kernel) rfl, tb_of 293 (by decide +kernel) rfl, ini_X2, tb_of 294 (by exact rfl) rfl, ⟨by decide +kernel, by decide +kernel, by decide +kernel⟩, by decide +kernel⟩
set_option maxRecDepth 20000 in
theorem mi_X2_ticksAsleep : MI yX2_ticksAsleep cX2_ticksAsleep 2 (some .int) 1 := ⟨tb_of 297 (by decide +kernel) rfl, tb_of 298 (by decide +kernel) rfl, ini_X2, tb_of 299 (by exact rfl) rfl, ⟨by decide +kernel, by decide +kernel, by decide +kernel⟩, by decide +kernel⟩
set_option maxRecDepth 20000 in
theorem mi_X3_dead : MI yX3_dead cX3_dead 2 (some .int) 1 := ⟨tb_of 302 (by decide +kernel) rfl, tb_of 303 (by decide +kernel) rfl, ini_X3, tb_of 304 (by exact rfl) rfl, ⟨by decide +kernel, by decide +kernel, by decide +kernel⟩, by decide +kernel⟩
set_option maxRecDepth 20000 in
theorem mi_X3_entryOf : MI yX3_entryOf cX3_entryOf 6 (some .int) 3 := ⟨tb_of 307 (by decide +kernel) rfl, tb_of 308 (by decide +kernel) rfl, ini_X3, tb_of 309 (by exact rfl) rfl, ⟨by decide +kernel, by decide +kernel, by decide +kernel⟩, by decide +kernel⟩
set_option maxRecDepth 20000 in
theorem mi_X3_isTopic : MS yX3_isTopic cX3_isTopic 1 (some .boolean) 1 := ⟨tb_of 311 (by decide +kernel) rfl, ini_X3, tb_of 312 (by exact rfl) rfl, ⟨by decide +kernel, by decide +kernel, by decide +kernel⟩, by decide +kernel⟩
set_option maxRecDepth 20000 in
theorem mi_X2_author : MI yX2_author cX2_author 2 (some .int) 1 := ⟨tb_of 316 (by decide +kernel) rfl, tb_of 317 (by decide +kernel) rfl, ini_X2, tb_of 318 (by exact rfl) rfl, ⟨by decide +kernel, by decide +kernel, by decide +kernel⟩, by decide +kernel⟩
set_option maxRecDepth 20000 in
theorem mi_L_acts : MS yL_acts cL_acts 17 (some .boolean) 2 := ⟨tb_of 321 (by decide +kernel) rfl, ini_L, tb_of 322 (by exact rfl) rfl, ⟨by decide +kernel, by decide +kernel, by decide +kernel⟩, by decide +kernel⟩
set_option maxRecDepth 20000 in
theorem mi_X3_tell : MI yX3_tell cX3_tell 5 (some .int) 4 := ⟨tb_of 324 (by decide +kernel) rfl, tb_of 325 (by decide +kernel) rfl, ini_X3, tb_of 326 (by exact rfl) rfl, ⟨by decide +kernel, by decide +kernel, by decide +kernel⟩, by decide +kernel⟩
set_option maxRecDepth 20000 in
theorem mi_X2_makeRumor : MI yX2_makeRumor cX2_makeRumor 6 (some .int) 4 := ⟨tb_of 328 (by decide +kernel) rfl, tb_of 329 (by decide +kernel) rfl, ini_X2, tb_of 330 (by exact rfl) rfl, ⟨by decide +kernel, by decide +kernel, by decide +kernel⟩, by decide +kernel⟩
set_option maxRecDepth 20000 in
theorem mi_X2_isAwake : MI yX2_isAwake cX2_isAwake 2 (some .boolean) 1 := ⟨tb_of 333 (by decide +kernel) rfl, tb_of 334 (by decide +kernel) rfl, ini_X2, tb_of 335 (by exact rfl) rfl, ⟨by decide +kernel, by decide +kernel, by decide +kernel⟩, by decide +kernel⟩
set_option maxRecDepth 20000 in
theorem mi_X2_write : MI yX2_write cX2_write 4 none 3 := ⟨tb_of 339 (by decide +kernel) rfl, tb_of 4 (by decide +kernel) rfl, ini_X2, tb_of 340 (by exact rfl) rfl, ⟨by decide +kernel, by decide +kernel, by decide +kernel⟩, by decide +kernel⟩
set_option maxRecDepth 20000 in
theorem mi_X3_bury : MI yX3_bury cX3_bury 3 (some .int) 2 := ⟨tb_of 343 (by decide +kernel) rfl, tb_of 344 (by decide +kernel) rfl, ini_X3, tb_of 345 (by exact rfl) rfl, ⟨by decide +kernel, by decide +kernel, by decide +kernel⟩, by decide +kernel⟩
set_option maxRecDepth 20000 in
theorem mi_X2_makeTomb : MI yX2_makeTomb cX2_makeTomb 4 (some .int) 2 := ⟨tb_of 347 (by decide +kernel) rfl, tb_of 348 (by decide +kernel) rfl, ini_X2, tb_of 349 (by exact rfl) rfl, ⟨by decide +kernel, by decide +kernel, by decide +kernel⟩, by decide +kernel⟩
set_option maxRecDepth 20000 in
theorem mi_X3_sleep : MI yX3_sleep cX3_sleep 2 (some .int) 1 := ⟨tb_of 351 (by decide +kernel) rfl, tb_of 352 (by decide +kernel) rfl, ini_X3, tb_of 353 (by exact rfl) rfl, ⟨by decide +kernel, by decide +kernel, by decide +kernel⟩, by decide +kernel⟩
set_option maxRecDepth 20000 in
theorem mi_X2_fallAsleep : MI yX2_fallAsleep cX2_fallAsleep 2 (some .int) 1 := ⟨tb_of 355 (by decide +kernel) rfl, tb_of 356 (by decide +kernel) rfl, ini_X2, tb_of 357 (by exact rfl) rfl, ⟨by decide +kernel, by decide +kernel, by decide +kernel⟩, by decide +kernel⟩
set_option maxRecDepth 20000 in
theorem mi_X3_wake : MI yX3_wake cX3_wake 2 (some .int) 1 := ⟨tb_of 360 (by decide +kernel) rfl, tb_of 361 (by decide +kernel) rfl, ini_X3, tb_of 362 (by exact rfl) rfl, ⟨by decide +kernel, by decide +kernel, by decide +kernel⟩, by decide +kernel⟩
set_option maxRecDepth 20000 in
theorem mi_X2_wakeUp : MI yX2_wakeUp cX2_wakeUp 2 (some .int) 1 := ⟨tb_of 364 (by decide +kernel) rfl, tb_of 365 (by decide +kernel) rfl, ini_X2, tb_of 366 (by exact rfl) rfl, ⟨by decide +kernel, by decide +kernel, by decide +kernel⟩, by decide +kernel⟩
set_option maxRecDepth 20000 in
theorem mi_X3_watch : MI yX3_watch cX3_watch 2 (some .int) 1 := ⟨tb_of 370 (by decide +kernel) rfl, tb_of 371 (by decide +kernel) rfl, ini_X3, tb_of 372 (by exact rfl) rfl, ⟨by decide +kernel, by decide +kernel, by decide +kernel⟩, by decide +kernel⟩
set_option maxRecDepth 20000 in
theorem mi_X2_changeWatch : MI yX2_changeWatch cX2_changeWatch 3 (some .int) 1 := ⟨tb_of 374 (by decide +kernel) rfl, tb_of 375 (by decide +kernel) rfl, ini_X2, tb_of 376 (by exact rfl) rfl, ⟨by decide +kernel, by decide +kernel, by decide +kernel⟩, by decide +kernel⟩
set_option maxRecDepth 20000 in
theorem mi_X3_leave : MI yX3_leave cX3_leave 2 (some .int) 1 := ⟨tb_of 378 (by decide +kernel) rfl, tb_of 379 (by decide +kernel) rfl, ini_X3, tb_of 380 (by exact rfl) rfl, ⟨by decide +kernel, by decide +kernel, by decide +kernel⟩, by decide +kernel⟩
set_option maxRecDepth 20000 in
theorem mi_X2_goAway : MI yX2_goAway cX2_goAway 3 (some .int) 1 := ⟨tb_of 382 (by decide +kernel) rfl, tb_of 383 (by decide +kernel) rfl, ini_X2, tb_of 384 (by exact rfl) rfl, ⟨by decide +kernel, by decide +kernel, by decide +kernel⟩, by decide +kernel⟩
set_option maxRecDepth 20000 in
theorem mi_L_meets : MS yL_meets cL_meets 14 (some .boolean) 3 := ⟨tb_of 387 (by decide +kernel) rfl, ini_L, tb_of 388 (by exact rfl) rfl, ⟨by decide +kernel, by decide +kernel, by decide +kernel⟩, by decide +kernel⟩
set_option maxRecDepth 20000 in
theorem mi_L_rank : MS yL_rank cL_rank 3 (some .int) 3 := ⟨tb_of 390 (by decide +kernel) rfl, ini_L, tb_of 391 (by exact rfl) rfl, ⟨by decide +kernel, by decide +kernel, by decide +kernel⟩, by decide +kernel⟩
set_option maxRecDepth 20000 in
theorem mi_X3_unlike : MI yX3_unlike cX3_unlike 3 (some .int) 2 := ⟨tb_of 393 (by decide +kernel) rfl, tb_of 394 (by decide +kernel) rfl, ini_X3, tb_of 395 (by exact rfl) rfl, ⟨by decide +kernel, by decide +kernel, by decide +kernel⟩, by decide +kernel⟩
set_option maxRecDepth 20000 in
theorem mi_X2_unlikeTopics : MI yX2_unlikeTopics cX2_unlikeTopics 5 (some .int) 2 := ⟨tb_of 397 (by decide +kernel) rfl, tb_of 398 (by decide +kernel) rfl, ini_X2, tb_of 399 (by exact rfl) rfl, ⟨by decide +kernel, by decide +kernel, by decide +kernel⟩, by decide +kernel⟩
set_option maxRecDepth 20000 in
theorem mi_X3_meet : MI yX3_meet cX3_meet 3 (some .int) 2 := ⟨tb_of 401 (by decide +kernel) rfl, tb_of 402 (by decide +kernel) rfl, ini_X3, tb_of 403 (by exact rfl) rfl, ⟨by decide +kernel, by decide +kernel, by decide +kernel⟩, by decide +kernel⟩
set_option maxRecDepth 20000 in
theorem mi_X2_bringTogether : MI yX2_bringTogether cX2_bringTogether 3 (some .int) 2 := ⟨tb_of 405 (by decide +kernel) rfl, tb_of 406 (by decide +kernel) rfl, ini_X2, tb_of 407 (by exact rfl) rfl, ⟨by decide +kernel, by decide +kernel, by decide +kernel⟩, by decide +kernel⟩
set_option maxRecDepth 20000 in
theorem mi_X2_areTwo : MI yX2_areTwo cX2_areTwo 3 (some .boolean) 2 := ⟨tb_of 409 (by decide +kernel) rfl, tb_of 410 (by decide +kernel) rfl, ini_X2, tb_of 411 (by exact rfl) rfl, ⟨by decide +kernel, by decide +kernel, by decide +kernel⟩, by decide +kernel⟩
set_option maxRecDepth 20000 in
theorem mi_X2_talk : MI yX2_talk cX2_talk 7 (some .int) 2 := ⟨tb_of 413 (by decide +kernel) rfl, tb_of 414 (by decide +kernel) rfl, ini_X2, tb_of 415 (by exact rfl) rfl, ⟨by decide +kernel, by decide +kernel, by decide +kernel⟩, by decide +kernel⟩
set_option maxRecDepth 20000 in
theorem mi_X2_giver : MI yX2_giver cX2_giver 9 (some .int) 3 := ⟨tb_of 418 (by decide +kernel) rfl, tb_of 5 (by decide +kernel) rfl, ini_X2, tb_of 419 (by exact rfl) rfl, ⟨by decide +kernel, by decide +kernel, by decide +kernel⟩, by decide +kernel⟩
set_option maxRecDepth 20000 in
theorem mi_X2_mayBeHanded : MS yX2_mayBeHanded cX2_mayBeHanded 3 (some .boolean) 3 := ⟨tb_of 422 (by decide +kernel) rfl, ini_X2, tb_of 423 (by exact rfl) rfl, ⟨by decide +kernel, by decide +kernel, by decide +kernel⟩, by decide +kernel⟩
set_option maxRecDepth 20000 in
theorem mi_X2_hand : MI yX2_hand cX2_hand 6 none 3 := ⟨tb_of 426 (by decide +kernel) rfl, tb_of 6 (by decide +kernel) rfl, ini_X2, tb_of 427 (by exact rfl) rfl, ⟨by decide +kernel, by decide +kernel, by decide +kernel⟩, by decide +kernel⟩
set_option maxRecDepth 20000 in
theorem mi_X2_shareSight : MI yX2_shareSight cX2_shareSight 7 none 3 := ⟨tb_of 430 (by decide +kernel) rfl, tb_of 7 (by decide +kernel) rfl, ini_X2, tb_of 431 (by exact rfl) rfl, ⟨by decide +kernel, by decide +kernel, by decide +kernel⟩, by decide +kernel⟩
set_option maxRecDepth 20000 in
theorem inT_X0 : ∀ w ∈ wsX00, w ∈ TB := by
  have h : wsX00.all (fun w => decide (w ∈ lw_tbl) && goodWord w) = true := by decide +kernel
  intro w hw
  have h1 := List.all_eq_true.mp h w hw
  simp only [Bool.and_eq_true, decide_eq_true_eq] at h1
  exact List.mem_filter.mpr h1
set_option maxRecDepth 20000 in
theorem inT_X1 : ∀ w ∈ wsX10, w ∈ TB := by
  have h : wsX10.all (fun w => decide (w ∈ lw_tbl) && goodWord w) = true := by decide +kernel
  intro w hw
  have h1 := List.all_eq_true.mp h w hw
  simp only [Bool.and_eq_true, decide_eq_true_eq] at h1
  exact List.mem_filter.mpr h1
set_option maxRecDepth 20000 in
theorem inT_X2 : ∀ w ∈ wsX20, w ∈ TB := by
  have h : wsX20.all (fun w => decide (w ∈ lw_tbl) && goodWord w) = true := by decide +kernel
  intro w hw
  have h1 := List.all_eq_true.mp h w hw
  simp only [Bool.and_eq_true, decide_eq_true_eq] at h1
  exact List.mem_filter.mpr h1
set_option maxRecDepth 20000 in
theorem inT_X3 : ∀ w ∈ wsX30, w ∈ TB := by
  have h : wsX30.all (fun w => decide (w ∈ lw_tbl) && goodWord w) = true := by decide +kernel
  intro w hw
  have h1 := List.all_eq_true.mp h w hw
  simp only [Bool.and_eq_true, decide_eq_true_eq] at h1
  exact List.mem_filter.mpr h1
end
section
/-! THE WORLD as numbers: objects 0..6 villages (0 now, 1 trial, 2..6 the history's), 7 orders, 8 history, 9 the reference, 10 the class's own object; part 0 of an object: its int fields by their slots, part k its k-th array -/
abbrev WD : Type := (Nat → Nat → Nat → Nat) × (Nat → Nat)
def upN (f : Nat → Nat) (k x : Nat) : Nat → Nat := fun j => if j = k then x else f j
theorem upN_I (f : Nat → Nat) (k x : Nat) : upd (fun j => nI (f j)) k (nI x) = fun j => nI (upN f k x j) := by
  funext j
  by_cases h : j = k
  · simp [upd, upN, h]
  · simp [upd, upN, h]
theorem upN_s (f : Nat → Nat) (k x : Nat) : upN f k x k = x := by simp [upN]
theorem upN_n (f : Nat → Nat) {k j : Nat} (x : Nat) (h : j ≠ k) : upN f k x j = f j := by simp [upN, h]
abbrev Geo : Type := va_G × (Nat → Nat → Nat) × (ClassId × ClassId × ClassId × Bool)
def g_ad (g : Geo) : Nat → Nat → Nat := g.2.1
def g_ty (g : Geo) : List (ClassId × FieldType) := [(g.2.2.1, .int), (g.2.2.2.1, .char), (g.2.2.2.2.1, .object RX2)]
def lnV (k : Nat) : Nat := if k < 5 then 7 else if k < 11 then 84 else 12
def lnM (_ : Nat) : Nat := 24
def g_ci (o : Nat) : Nat := if o < 7 then 2 else if o = 7 then 1 else if o = 8 then 0 else 3
def fsV (g : Geo) (w : WD) (o : Nat) : List Value := [.int (nI (w.1 o 0 0)), .int (nI (w.1 o 0 1)), .int (nI (w.1 o 0 2)), .int (nI (w.1 o 0 3)), .ref (g_ad g o 1), .ref (g_ad g o 2), .ref (g_ad g o 3), .ref (g_ad g o 4), .ref (g_ad g o 5), .ref (g_ad g o 6), .ref (g_ad g o 7), .ref (g_ad g o 8), .ref (g_ad g o 9), .ref (g_ad g o 10), .ref (g_ad g o 11)]
def fsO (g : Geo) (w : WD) : List Value := [.ref (g_ad g 7 1), .int (nI (w.1 7 0 1)), .ref (g_ad g 7 2), .int (nI (w.1 7 0 3)), .int (nI (w.1 7 0 4)), .int (nI (w.1 7 0 5))]
def fsH (g : Geo) (w : WD) : List Value := [.ref (g_ad g 8 1), .int (nI (w.1 8 0 1))]
def fsR (g : Geo) : List Value := [.ref (g_ad g 0 0), .ref (g_ad g 1 0), .ref (g_ad g 8 0), .ref (g_ad g 7 0)]
def g_fs (g : Geo) (w : WD) (o : Nat) : List Value := if o < 7 then fsV g w o else if o = 7 then fsO g w else if o = 8 then fsH g w else fsR g
def g_ch (o k : Nat) : Bool := decide (o = 7) && decide (k = 1)
def g_ln (o k : Nat) : Nat := if o < 7 then lnV k else if o = 7 then (if k = 1 then 60 else 3) else lnM k
def g_cell (g : Geo) (w : WD) (o k : Nat) : va_E := if k = 0 then .inr (g_ci o, g_fs g w o) else if o = 8 then .inl (g.2.2.2.2.1, 5, .inr (.inr (.inr (.inr (fun i => some (g_ad g (w.2 i) 0)))))) else .inl ((if g_ch o k = true then g.2.2.2.1 else g.2.2.1), g_ln o k, .inl (fun j => nI (w.1 o k j)))
def g_d0 : List (Nat × Nat) := (List.range 7).flatMap (fun o => (List.range 12).map (fun k => (o, k))) ++ [(7,0),(7,1),(7,2),(8,0),(8,1),(10,0)]
def g_dF : List (Nat × Nat) := g_d0 ++ [(9,1)]
def g_fl (g : Geo) : Bool := g.2.2.2.2.2
def g_dm (g : Geo) : List (Nat × Nat) := g_d0 ++ (if g_fl g = true then [(9,1)] else [])
theorem dmb {g : Geo} {q : Nat × Nat} (h : q ∈ g_d0) : q ∈ g_dm g := List.mem_append_left _ h
theorem dm9 {g : Geo} (h : g_fl g = true) : (9, 1) ∈ g_dm g := List.mem_append_right _ (by rw [if_pos h]; exact List.mem_cons_self)
theorem dmF {g : Geo} {q : Nat × Nat} (h : q ∈ g_dm g) : q ∈ g_dF := by
  rcases List.mem_append.mp h with h | h
  · exact List.mem_append_left _ h
  · refine List.mem_append_right _ ?_
    by_cases hf : g_fl g = true
    · rw [if_pos hf] at h; exact h
    · rw [if_neg hf] at h; exact absurd h List.not_mem_nil
theorem d0V {o k : Nat} (ho : o < 7) (hk : k < 12) : (o, k) ∈ g_d0 := List.mem_append_left _ (List.mem_flatMap.mpr ⟨o, List.mem_range.mpr ho, List.mem_map.mpr ⟨k, List.mem_range.mpr hk, rfl⟩⟩)
theorem dmV {g : Geo} {o k : Nat} (ho : o < 7) (hk : k < 12) : (o, k) ∈ g_dm g := dmb (d0V ho hk)
theorem dm_inj {g : Geo} {i j : Nat} {q : Nat × Nat} (h1 : (g_dm g)[i]? = some q) (h2 : (g_dm g)[j]? = some q) : i = j := by
  unfold g_dm at h1 h2
  by_cases hf : g_fl g = true
  · rw [if_pos hf] at h1 h2
    exact va_nd_inj ((g_d0 ++ [(9,1)]).map (fun q : Nat × Nat => 100 * q.1 + q.2)) (by decide +kernel) i j (100 * q.1 + q.2) (by rw [List.getElem?_map, h1]; rfl) (by rw [List.getElem?_map, h2]; rfl)
  · rw [if_neg hf] at h1 h2
    exact va_nd_inj ((g_d0 ++ []).map (fun q : Nat × Nat => 100 * q.1 + q.2)) (by decide +kernel) i j (100 * q.1 + q.2) (by rw [List.getElem?_map, h1]; rfl) (by rw [List.getElem?_map, h2]; rfl)
def g_wl (g : Geo) (w : WD) : va_W := (g_dm g).map (fun q => (g_ad g q.1 q.2, g_cell g w q.1 q.2))
theorem wl_at (g : Geo) {q : Nat × Nat} (h : q ∈ g_dm g) : ∃ i : Nat, (g_dm g)[i]? = some q ∧ ∀ w : WD, (g_wl g w)[i]? = some (g_ad g q.1 q.2, g_cell g w q.1 q.2) := by
  obtain ⟨i, hi⟩ := List.getElem?_of_mem h
  exact ⟨i, hi, fun w => by simp [g_wl, List.getElem?_map, hi]⟩
theorem wl_set {g : Geo} {w w' : WD} {q : Nat × Nat} {i : Nat} (hi : (g_dm g)[i]? = some q) (hne : ∀ o k, (o, k) ∈ g_dm g → (o, k) ≠ q → g_cell g w' o k = g_cell g w o k) {e : va_E} (he : g_cell g w' q.1 q.2 = e) : (g_wl g w).set i (g_ad g q.1 q.2, e) = g_wl g w' := by
  subst he
  apply List.ext_getElem?
  intro j
  have hlt : i < (g_dm g).length := (List.getElem?_eq_some_iff.mp hi).1
  by_cases hj : i = j
  · subst hj
    rw [List.getElem?_set_self (by simpa [g_wl] using hlt)]
    simp [g_wl, List.getElem?_map, hi]
  · rw [List.getElem?_set_ne hj]
    simp only [g_wl, List.getElem?_map]
    cases hq : (g_dm g)[j]? with
    | none => rfl
    | some q' =>
      have hne' : q' ≠ q := by
        intro h
        subst h
        exact hj (dm_inj hi hq)
      simp only [Option.map_some]
      rw [hne q'.1 q'.2 (List.mem_of_getElem? hq) hne']
/-- a new content of a part of an object -/
def wA (w : WD) (o k : Nat) (f : Nat → Nat) : WD := (fun a b => if a = o ∧ b = k then f else w.1 a b, w.2)
def wH (w : WD) (i v : Nat) : WD := (w.1, fun j => if j = i then v else w.2 j)
theorem wA_s (w : WD) (o k : Nat) (f : Nat → Nat) : (wA w o k f).1 o k = f := by simp [wA]
theorem wA_n (w : WD) {o k o' k' : Nat} (f : Nat → Nat) (h : ¬ (o' = o ∧ k' = k)) : (wA w o k f).1 o' k' = w.1 o' k' := by simp only [wA]; rw [if_neg h]
theorem wA_2 (w : WD) (o k : Nat) (f : Nat → Nat) : (wA w o k f).2 = w.2 := rfl
theorem wA_id (w : WD) (o k : Nat) : wA w o k (w.1 o k) = w := by
  refine Prod.ext (funext fun a => funext fun b => ?_) rfl
  by_cases h : a = o ∧ b = k
  · obtain ⟨rfl, rfl⟩ := h; simp [wA]
  · simp only [wA]; rw [if_neg h]
theorem wA_wA (w : WD) (o k : Nat) (f f' : Nat → Nat) : wA (wA w o k f) o k f' = wA w o k f' := by
  refine Prod.ext (funext fun a => funext fun b => ?_) rfl
  simp only [wA]
  by_cases h : a = o ∧ b = k
  · rw [if_pos h, if_pos h]
  · rw [if_neg h, if_neg h, if_neg h]
theorem cell_wA {g : Geo} {w : WD} {o k o' k' : Nat} {f : Nat → Nat} (h : (o', k') ≠ (o, k)) : g_cell g (wA w o k f) o' k' = g_cell g w o' k' := by
  have hn : ¬ (o' = o ∧ k' = k) := fun z => h (by rw [z.1, z.2])
  unfold g_cell
  by_cases hk : k' = 0
  · subst hk
    rw [if_pos rfl, if_pos rfl]
    have e : ∀ a, a = o' → (wA w o k f).1 a 0 = w.1 a 0 := fun a ha => wA_n w f (by rw [ha]; exact hn)
    unfold g_fs
    by_cases h1 : o' < 7
    · simp only [if_pos h1, fsV, e o' rfl]
    · by_cases h2 : o' = 7
      · subst h2; simp [fsO, e 7 rfl]
      · by_cases h3 : o' = 8
        · subst h3; simp [fsH, e 8 rfl]
        · simp only [if_neg h1, if_neg h2, if_neg h3]
  · rw [if_neg hk, if_neg hk, wA_n w f hn]
    rfl
theorem cell_wH {g : Geo} {w : WD} {i v o' k' : Nat} (h : (o', k') ≠ (8, 1)) (hk2 : k' < 2 ∨ o' ≠ 8) : g_cell g (wH w i v) o' k' = g_cell g w o' k' := by
  unfold g_cell
  by_cases hk : k' = 0
  · subst hk; rfl
  · rw [if_neg hk, if_neg hk]
    by_cases h8 : o' = 8
    · exact absurd (show (o', k') = (8, 1) by rw [h8, show k' = 1 by omega]) h
    · rw [if_neg h8, if_neg h8]; rfl
/-- locals by their slots -/
def lg : List (Option Value) → Nat → Option Value
  | [], _ => none
  | a :: _, 0 => a
  | _ :: l, n + 1 => lg l n
def lst : List (Option Value) → Nat → Value → List (Option Value)
  | [], _, _ => []
  | _ :: l, 0, v => some v :: l
  | a :: l, n + 1, v => a :: lst l n v
theorem lg_lst : ∀ (l : List (Option Value)) (i j : Nat) (v u : Value), lg (lst l i v) j = some u → (j = i ∧ u = v) ∨ (j ≠ i ∧ lg l j = some u)
  | [], _, _, _, _, h => by simp [lst, lg] at h
  | _ :: l, 0, 0, v, u, h => Or.inl ⟨rfl, by simpa [lst, lg] using h.symm⟩
  | _ :: l, 0, j + 1, v, u, h => Or.inr ⟨by omega, by simpa [lst, lg] using h⟩
  | _ :: l, i + 1, 0, v, u, h => Or.inr ⟨by omega, by simpa [lst, lg] using h⟩
  | _ :: l, i + 1, j + 1, v, u, h => by
    rcases lg_lst l i j v u (by simpa [lst, lg] using h) with ⟨a, b⟩ | ⟨a, b⟩
    · exact Or.inl ⟨by omega, b⟩
    · exact Or.inr ⟨by omega, by simpa [lg] using b⟩
def lvh (ls : Array Slot) (nL : Nat) (lv : List (Option Value)) : Prop := ls.size = nL ∧ lv_wf ls ∧ ∀ i v, lg lv i = some v → ls[i]? = some (.val v) ∧ v.category = 1
def lvl (nL : Nat) (lv : List (Option Value)) : List (Nat × Value) := (List.range nL).filterMap (fun i => (lg lv i).map (fun v => (i, v)))
theorem lvl_mem {nL : Nat} {lv : List (Option Value)} {i : Nat} {v : Value} (hi : i < nL) (h : lg lv i = some v) : (i, v) ∈ lvl nL lv := List.mem_filterMap.mpr ⟨i, List.mem_range.mpr hi, by rw [h]; rfl⟩
theorem lvh.has {ls : Array Slot} {nL : Nat} {lv : List (Option Value)} (h : lvh ls nL lv) : lv_has ls nL (lvl nL lv) := by
  refine ⟨h.1, h.2.1, fun q hq => ?_⟩
  obtain ⟨i, -, hi⟩ := List.mem_filterMap.mp hq
  cases hg : lg lv i with
  | none => rw [hg] at hi; cases hi
  | some v =>
    rw [hg] at hi
    cases hi
    exact (h.2.2 i v hg).1
theorem lvh.put {ls ls' : Array Slot} {nL i : Nat} {lv : List (Option Value)} {v : Value} (h : lvh ls nL lv) (hc : v.category = 1) (h' : lv_has ls' nL ((i, v) :: (lvl nL lv).filter (fun q => !(q.1 == i) && !(q.1 + 1 == i && q.2.category == 2)))) : lvh ls' nL (lst lv i v) := by
  refine ⟨h'.1, h'.2.1, fun j u hj => ?_⟩
  rcases lg_lst lv i j v u hj with ⟨rfl, rfl⟩ | ⟨hne, hg⟩
  · exact ⟨h'.2.2 _ List.mem_cons_self, hc⟩
  · obtain ⟨g1, g2⟩ := h.2.2 j u hg
    have hjn : j < nL := by rw [← h.1]; exact lv_lt g1
    refine ⟨h'.2.2 (j, u) (List.mem_cons_of_mem _ (List.mem_filter.mpr ⟨lvl_mem hjn hg, ?_⟩)), g2⟩
    have e1 : (j == i) = false := by simpa using hne
    have e2 : (u.category == 2) = false := by rw [g2]; rfl
    simp only [e1, e2, Bool.and_false, Bool.not_false, Bool.and_self]
/-- the nest words stay -/
theorem nl_warm {s U : State} (hW : s.WarmedH U.vm) (h : ∀ x ∈ NL, va_Nw x s) : ∀ x ∈ NL, va_Nw x U := by
  intro x hx
  have h1 := h x hx
  have h2 := (List.mem_filter.mp hx).2
  cases x <;> first | exact va_Nw.warmF hW h1 | exact va_Nw.warmM hW h1 | (simp [NWq] at h2)
theorem nl_same {s U : State} (hv : s.vm = U.vm) (h : ∀ x ∈ NL, va_Nw x s) : ∀ x ∈ NL, va_Nw x U := by
  intro x hx
  have h1 := h x hx
  have h2 := (List.mem_filter.mp hx).2
  cases x <;> first | exact va_Nw.same rfl hv h1 | (simp [NWq] at h2)
def Ag (g : Geo) : Nat → Prop := fun q => ∃ z ∈ g_dm g, q = g_ad g z.1 z.2
def Ginj (g : Geo) : Prop := ∀ z ∈ g_dm g, ∀ z' ∈ g_dm g, g_ad g z.1 z.2 = g_ad g z'.1 z'.2 → z = z'
theorem g_D {g : Geo} {A : Nat → Prop} (hi : Ginj g) (hA : ∀ q, Ag g q → A q) (w : WD) : va_D A (g_wl g w) := by
  refine ⟨fun i j p q hp hq he => ?_, fun k q hk => ?_⟩
  · simp only [g_wl, List.getElem?_map] at hp hq
    cases h1 : (g_dm g)[i]? with
    | none => rw [h1] at hp; cases hp
    | some z =>
      cases h2 : (g_dm g)[j]? with
      | none => rw [h2] at hq; cases hq
      | some z' =>
        rw [h1] at hp; rw [h2] at hq
        cases hp; cases hq
        have e := hi z (List.mem_of_getElem? h1) z' (List.mem_of_getElem? h2) he
        subst e
        exact dm_inj h1 h2
  · simp only [g_wl, List.getElem?_map] at hk
    cases h1 : (g_dm g)[k]? with
    | none => rw [h1] at hk; cases hk
    | some z =>
      rw [h1] at hk
      cases hk
      exact hA _ ⟨z, List.mem_of_getElem? h1, rfl⟩
/-- a point of a method's run: the world, the place, the locals, the stack -/
abbrev PT : Type := WD → Nat → List (Option Value) → List Value → Prop
def Gd (l : Launch) (g : Geo) (own : String) (cc : ByteArray) (rm : Room) (nL : Nat) (ret : Option FieldType) (fin : Option Value → WD → Prop) (X : Nat → Nat → (Nat → Int32) → Prop) (P : PT) : Prop :=
  ∃ (p : Program) (e : Env) (s : State) (m : MethodId) (args : Array Value) (below : List Frame) (meth : Method) (c : Code) (cells slots : Nat) (Q : State → Prop) (A : Nat → Prop),
    P = (fun w pc lv st => ∀ (H : Heap) (locs : List Loc) (ls : Array Slot), va_P g.1 vwCl (g_wl g w) H → va_S A s.heap H locs → lvh ls nL lv → W p l e rm s m args below meth c H locs cells slots Q (F0 m pc ls st)) ∧
    p.tables.exec = Jvm.exec ∧ c.code = cc ∧ c.maxLocals = nL ∧ s.vm.findClass own = some m.cls ∧ (∀ w ∈ TB, w.before args s = true) ∧ (∀ x ∈ NL, va_Nw x s) ∧ va_K g.1 vwCl (g_ty g) s ∧ (Ginj g ∧ ∀ q, Ag g q → A q) ∧ (cells ≤ rm.cells ∧ slots ≤ rm.slots) ∧
    (∀ b L xs, X b L xs → b < s.heap.size ∧ ¬ A b ∧ va_X b L xs s s.heap) ∧
    (∀ w pc lv v, decode cc pc = .ok (.ireturn, 1) → (∃ ty, ret = some ty ∧ narrow ty (.int v) = .int v) → fin (some (.int v)) w → P w pc lv [.int v]) ∧
    (∀ w pc lv, decode cc pc = .ok (.return_, 1) → ret = none → fin none w → P w pc lv [])
/-- a method's contract over the whole world: what it answers, what the world is then -/
def Ct (l : Launch) (g : Geo) (y : MethodName) (bytes : ByteArray) (maxL : Nat) (ret : Option FieldType) (rm : Room) (av : List Value) (w : WD) (T : Option Value → WD → Prop) : Prop :=
  Met l y (.code y bytes maxL ret :: TB) rm (va_Pc av (fun U => va_P g.1 vwCl (g_wl g w) U.heap ∧ va_K g.1 vwCl (g_ty g) U ∧ (∀ x ∈ NL, va_Nw x U) ∧ Ginj g)) (fun _ st o t => ∃ (r : Option Value) (w' : WD), o = .returned r ∧ T r w' ∧ va_P g.1 vwCl (g_wl g w') t.heap ∧ va_F (Ag g) st t) 0 0 (Ag g)
def lvOf (nL : Nat) (av : List Value) : List (Option Value) := av.map some ++ List.replicate (nL - av.length) none
theorem lg_of : ∀ (n : Nat) (av : List Value) (i : Nat) (v : Value) (b : Nat), (∀ v ∈ av, v.category = 1) → lg (av.map some ++ List.replicate n none) i = some v → (b + i, v) ∈ lv_args b av ∧ v.category = 1
  | n, [], i, v, b, _, h => by
    exfalso
    have : ∀ (n i : Nat), lg (List.replicate n none) i = none := by
      intro n
      induction n with
      | zero => intro i; rfl
      | succ n ih => intro i; cases i with
        | zero => rfl
        | succ i => exact ih i
    rw [List.map_nil, List.nil_append, this] at h
    cases h
  | n, a :: av, 0, v, b, hc, h => by
    have e : a = v := by simpa [lg] using h
    subst e
    exact ⟨List.mem_cons_self, hc a List.mem_cons_self⟩
  | n, a :: av, i + 1, v, b, hc, h => by
    have h1 := lg_of n av i v (b + 1) (fun u hu => hc u (List.mem_cons_of_mem _ hu)) (by simpa [lg] using h)
    have h2 : ¬ a.category = 2 := by rw [hc a List.mem_cons_self]; decide
    refine ⟨?_, h1.2⟩
    show (b + (i + 1), v) ∈ (b, a) :: lv_args (if a.category = 2 then b + 2 else b + 1) av
    rw [if_neg h2, show b + (i + 1) = b + 1 + i by omega]
    exact List.mem_cons_of_mem _ h1.1
theorem lg_slen (av : List Value) (hc : ∀ v ∈ av, v.category = 1) : (lg_sl av).length = av.length := by
  induction av with
  | nil => rfl
  | cons a av ih =>
    have h2 : ¬ a.category = 2 := by rw [hc a List.mem_cons_self]; decide
    have := ih (fun u hu => hc u (List.mem_cons_of_mem _ hu))
    simp only [lg_sl] at this
    simp [lg_sl, h2, this]
theorem ct_of {l : Launch} {g : Geo} {y : MethodName} {bytes : ByteArray} {maxL : Nat} {ret : Option FieldType} {rm : Room} {av : List Value} {w : WD} {T : Option Value → WD → Prop} (hy : plainName y.cls = true) (hrc : rm.cells = 0 ∧ rm.slots = 0) (hcat : ∀ v ∈ av, v.category = 1) (hlen : av.length ≤ maxL)
    (body : ∀ P : PT, Gd l g y.cls bytes rm maxL ret T (fun _ _ _ => False) P → P w 0 (lvOf maxL av) []) : Ct l g y bytes maxL ret rm av w T := by
  refine Met.ofW (cc := bytes) (maxL := maxL) (ret := ret) hy rfl ?_
  intro p e s m args below meth c s₁ B hml hv
  obtain ⟨rfl, hP, hK, hN, hG⟩ := hv
  have hx := B.exec
  have hb := B.bytes
  have hr := B.returns
  have hts := atoms_spec (ws := Cond.code y bytes maxL ret :: TB) B.pre
  have hown : s.vm.findClass y.cls = some m.cls := findClass_of_methodNamed B.named
  have hlocks := B.notSynchronized
  have hl := lv_entry av (n := maxL) (by rw [lg_slen av hcat]; exact hlen)
  rw [lg_entry_eq]
  generalize (lg_sl av ++ List.replicate (maxL - (lg_sl av).length) Slot.unset).toArray = ls at hl ⊢
  have hlv : lvh ls maxL (lvOf maxL av) := ⟨hl.1, hl.2.1, fun i v h => by
    have h1 := lg_of _ av i v 0 hcat h
    rw [Nat.zero_add] at h1
    exact ⟨hl.2.2 _ h1.1, h1.2⟩⟩
  refine body _ ⟨p, e, s, m, av.toArray, below, meth, c, 0, 0, MQ below (fun _ st o t => ∃ (r : Option Value) (w' : WD), o = .returned r ∧ T r w' ∧ va_P g.1 vwCl (g_wl g w') t.heap ∧ va_F (Ag g) st t) av.toArray s 0 0 (Ag g), Ag g, rfl, hx, hb, hml, hown, fun w hw => hts w (List.mem_cons_of_mem _ hw), hN, hK, ⟨hG, fun _ h => h⟩, ⟨Nat.zero_le _, Nat.zero_le _⟩, fun _ _ _ h => h.elim, ?_, ?_⟩ s.heap [] ls hP va_S.rf hlv
  · intro w2 pc lv v hd hty hfin H locs ls hP hS hl
    obtain ⟨ty, hty, hn⟩ := hty
    exact W.zret hx hb (hr.trans hty) hn (fun t ht _ => ⟨_, w2, rfl, hfin, by rw [ht]; exact hP, hS.F ht⟩) hS.2.2 hd
  · intro w2 pc lv hd hty hfin H locs ls hP hS hl
    exact W.vret hx hb (hr.trans hty) (fun t ht _ => ⟨_, w2, rfl, hfin, by rw [ht]; exact hP, hS.F ht⟩) hS.2.2 hd
end
section
theorem ofI (k : Nat) (h : k < 2 ^ 31) : Int32.ofInt (k : Int) = nI k := by
  apply Int32.toInt_inj.mp
  rw [nI_toInt h, Int32.toInt_ofInt_of_le (by omega) (by omega)]
theorem lvh.gi {ls : Array Slot} {nL i : Nat} {lv : List (Option Value)} {v : Value} (h : lvh ls nL lv) (hl : lg lv i = some v) : ls[i]? = some (.val v) := (h.2.2 i v hl).1
def bI (b : Bool) : Int32 := if b = true then nI 1 else nI 0
theorem bI_t : bI true = nI 1 := rfl
theorem bI_f : bI false = nI 0 := rfl
theorem bI_nar (b : Bool) : narrow .boolean (.int (bI b)) = .int (bI b) := by cases b <;> rfl
theorem bI_eq0 (b : Bool) : bI b = 0 ↔ b = false := by cases b <;> decide
def weq (w w' : WD) : Prop := (∀ o k j, (o, k) ∈ g_dF → j < (if k = 0 then 10 else g_ln o k) → w.1 o k j = w'.1 o k j) ∧ ∀ i, i < 5 → w.2 i = w'.2 i
theorem arrV_congr {cA : ClassId} {n : Nat} {f f' : Nat → Value} (h : ∀ j, j < n → f j = f' j) : arrV cA n f = arrV cA n f' := by
  have e : (Array.ofFn (n := n) fun j => f j.val) = Array.ofFn (n := n) fun j => f' j.val := by
    apply congrArg
    funext j
    exact h j.val j.isLt
  simp only [arrV, e]
theorem weq_fs {g : Geo} {w w' : WD} {o : Nat} (h : weq w w') (hz : (o, 0) ∈ g_dF) : g_fs g w o = g_fs g w' o := by
  have e : ∀ j, j < 10 → w.1 o 0 j = w'.1 o 0 j := fun j hj => h.1 o 0 j hz (by rw [if_pos rfl]; exact hj)
  unfold g_fs
  by_cases h1 : o < 7
  · simp only [if_pos h1, fsV, e 0 (by omega), e 1 (by omega), e 2 (by omega), e 3 (by omega)]
  · by_cases h2 : o = 7
    · subst h2; simp [fsO, e 1 (by omega), e 3 (by omega), e 4 (by omega), e 5 (by omega)]
    · by_cases h3 : o = 8
      · subst h3; simp [fsH, e 1 (by omega)]
      · simp only [if_neg h1, if_neg h2, if_neg h3]
theorem weq_P {g : Geo} {w w' : WD} {H : Heap} (h : weq w w') (hP : va_P g.1 vwCl (g_wl g w) H) : va_P g.1 vwCl (g_wl g w') H := by
  intro i q hq
  simp only [g_wl, List.getElem?_map] at hq
  cases hz : (g_dm g)[i]? with
  | none => rw [hz] at hq; cases hq
  | some z =>
    rw [hz] at hq
    cases hq
    have h1 := hP i (g_ad g z.1 z.2, g_cell g w z.1 z.2) (by simp [g_wl, List.getElem?_map, hz])
    obtain ⟨o, k⟩ := z
    have hm : (o, k) ∈ g_dF := dmF (List.mem_of_getElem? hz)
    dsimp only at h1 ⊢
    unfold g_cell at h1 ⊢
    by_cases hk : k = 0
    · subst hk
      rw [if_pos rfl] at h1 ⊢
      rw [← weq_fs h hm]
      exact h1
    · rw [if_neg hk] at h1 ⊢
      by_cases h8 : o = 8
      · rw [if_pos h8] at h1 ⊢
        have e : arrV g.2.2.2.2.1 5 (fun j => va_rf (some (g_ad g (w.2 j) 0))) = arrV g.2.2.2.2.1 5 (fun j => va_rf (some (g_ad g (w'.2 j) 0))) := arrV_congr (fun j hj => by rw [h.2 j hj])
        show H[_]? = some (vp_cell _ _)
        have h2 : H[_]? = some (vp_cell _ _) := h1
        rw [vp_cell_q] at h2 ⊢
        rw [← e]; exact h2
      · rw [if_neg h8] at h1 ⊢
        have e : ∀ cA, arrV cA (g_ln o k) (fun j => Value.int (nI (w.1 o k j))) = arrV cA (g_ln o k) (fun j => Value.int (nI (w'.1 o k j))) := fun cA => arrV_congr (fun j hj => by rw [h.1 o k j hm (by rw [if_neg hk]; exact hj)])
        show H[_]? = some (vp_cell _ _)
        have h2 : H[_]? = some (vp_cell _ _) := h1
        rw [vp_cell_i] at h2 ⊢
        rw [← e]; exact h2
theorem pw_weq {l : Launch} {g : Geo} {own : String} {cc : ByteArray} {rm : Room} {nL : Nat} {ret : Option FieldType} {fin : Option Value → WD → Prop} {X : Nat → Nat → (Nat → Int32) → Prop} {P : PT} (hX : Gd l g own cc rm nL ret fin X P) {w : WD} {pc : Nat} {lv : List (Option Value)} {st : List Value} {w' : WD} (h : weq w w') (kk : P w' pc lv st) : P w pc lv st := by
  obtain ⟨p, e, s, m, args, below, meth, c, cells, slots, Q, A, rfl, hx, hb, hml, hown, hTB, hNL, hK, hG, hcs, hScr, hri, hrv⟩ := hX
  intro H locs ls hP hS hl
  exact kk H locs ls (weq_P h hP) hS hl
theorem pw_eq {P : PT} {w w' : WD} {pc : Nat} {lv lv' : List (Option Value)} {st st' : List Value} (hw : w = w') (hl : lv = lv') (hs : st = st') (kk : P w' pc lv' st') : P w pc lv st := by rw [hw, hl, hs]; exact kk
theorem pw_iconst {l : Launch} {g : Geo} {own : String} {cc : ByteArray} {rm : Room} {nL : Nat} {ret : Option FieldType} {fin : Option Value → WD → Prop} {X : Nat → Nat → (Nat → Int32) → Prop} {P : PT} (hX : Gd l g own cc rm nL ret fin X P) {w : WD} {pc q : Nat} {lv : List (Option Value)} {st : List Value} {n : Int} {k : Nat} (hn : n = (k : Int)) (hk : k < 2 ^ 31) (hd : decode cc pc = .ok (.iconst n, 1)) (hq : pc + 1 = q) (kk : P w q lv (.int (nI k) :: st)) : P w pc lv (st) := by
  obtain ⟨p, e, s, m, args, below, meth, c, cells, slots, Q, A, rfl, hx, hb, hml, hown, hTB, hNL, hK, hG, hcs, hScr, hri, hrv⟩ := hX
  subst hq
  intro H locs ls hP hS hl
  exact lv_iconst hx hb hd (by rw [hn]; exact ofI k hk) (kk H locs ls hP hS hl)
theorem pw_iconstm {l : Launch} {g : Geo} {own : String} {cc : ByteArray} {rm : Room} {nL : Nat} {ret : Option FieldType} {fin : Option Value → WD → Prop} {X : Nat → Nat → (Nat → Int32) → Prop} {P : PT} (hX : Gd l g own cc rm nL ret fin X P) {w : WD} {pc q : Nat} {lv : List (Option Value)} {st : List Value}  (hd : decode cc pc = .ok (.iconst (-1), 1)) (hq : pc + 1 = q) (kk : P w q lv (.int (-1) :: st)) : P w pc lv (st) := by
  obtain ⟨p, e, s, m, args, below, meth, c, cells, slots, Q, A, rfl, hx, hb, hml, hown, hTB, hNL, hK, hG, hcs, hScr, hri, hrv⟩ := hX
  subst hq
  intro H locs ls hP hS hl
  exact lv_iconst hx hb hd (by decide) (kk H locs ls hP hS hl)
theorem pw_bipush {l : Launch} {g : Geo} {own : String} {cc : ByteArray} {rm : Room} {nL : Nat} {ret : Option FieldType} {fin : Option Value → WD → Prop} {X : Nat → Nat → (Nat → Int32) → Prop} {P : PT} (hX : Gd l g own cc rm nL ret fin X P) {w : WD} {pc q : Nat} {lv : List (Option Value)} {st : List Value} {n : Int} {k : Nat} (hn : (Int8.ofInt n).toInt32 = nI k) (hd : decode cc pc = .ok (.bipush n, 2)) (hq : pc + 2 = q) (kk : P w q lv (.int (nI k) :: st)) : P w pc lv (st) := by
  obtain ⟨p, e, s, m, args, below, meth, c, cells, slots, Q, A, rfl, hx, hb, hml, hown, hTB, hNL, hK, hG, hcs, hScr, hri, hrv⟩ := hX
  subst hq
  intro H locs ls hP hS hl
  exact lv_bipush hx hb hd hn (kk H locs ls hP hS hl)
theorem pw_sipush {l : Launch} {g : Geo} {own : String} {cc : ByteArray} {rm : Room} {nL : Nat} {ret : Option FieldType} {fin : Option Value → WD → Prop} {X : Nat → Nat → (Nat → Int32) → Prop} {P : PT} (hX : Gd l g own cc rm nL ret fin X P) {w : WD} {pc q : Nat} {lv : List (Option Value)} {st : List Value} {n : Int} {k : Nat} (hn : (Int16.ofInt n).toInt32 = nI k) (hd : decode cc pc = .ok (.sipush n, 3)) (hq : pc + 3 = q) (kk : P w q lv (.int (nI k) :: st)) : P w pc lv (st) := by
  obtain ⟨p, e, s, m, args, below, meth, c, cells, slots, Q, A, rfl, hx, hb, hml, hown, hTB, hNL, hK, hG, hcs, hScr, hri, hrv⟩ := hX
  subst hq
  intro H locs ls hP hS hl
  exact lv_sipush hx hb hd hn (kk H locs ls hP hS hl)
theorem pw_ldc {l : Launch} {g : Geo} {own : String} {cc : ByteArray} {rm : Room} {nL : Nat} {ret : Option FieldType} {fin : Option Value → WD → Prop} {X : Nat → Nat → (Nat → Int32) → Prop} {P : PT} (hX : Gd l g own cc rm nL ret fin X P) {w : WD} {pc q : Nat} {lv : List (Option Value)} {st : List Value} {i : Nat} {v : Int32} (hc : Cond.constant own i v ∈ TB) (hd : decode cc pc = .ok (.ldc i, 2)) (hq : pc + 2 = q) (kk : P w q lv (.int v :: st)) : P w pc lv (st) := by
  obtain ⟨p, e, s, m, args, below, meth, c, cells, slots, Q, A, rfl, hx, hb, hml, hown, hTB, hNL, hK, hG, hcs, hScr, hri, hrv⟩ := hX
  subst hq
  intro H locs ls hP hS hl
  exact lv_ldc hx hb hown (hTB _ hc) hd (kk H locs ls hP hS hl)
theorem pw_ldcw {l : Launch} {g : Geo} {own : String} {cc : ByteArray} {rm : Room} {nL : Nat} {ret : Option FieldType} {fin : Option Value → WD → Prop} {X : Nat → Nat → (Nat → Int32) → Prop} {P : PT} (hX : Gd l g own cc rm nL ret fin X P) {w : WD} {pc q : Nat} {lv : List (Option Value)} {st : List Value} {i : Nat} {v : Int32} (hc : Cond.constant own i v ∈ TB) (hd : decode cc pc = .ok (.ldc_w i, 3)) (hq : pc + 3 = q) (kk : P w q lv (.int v :: st)) : P w pc lv (st) := by
  obtain ⟨p, e, s, m, args, below, meth, c, cells, slots, Q, A, rfl, hx, hb, hml, hown, hTB, hNL, hK, hG, hcs, hScr, hri, hrv⟩ := hX
  subst hq
  intro H locs ls hP hS hl
  exact lv_ldcw hx hb hown (hTB _ hc) hd (kk H locs ls hP hS hl)
theorem pw_iload_n {l : Launch} {g : Geo} {own : String} {cc : ByteArray} {rm : Room} {nL : Nat} {ret : Option FieldType} {fin : Option Value → WD → Prop} {X : Nat → Nat → (Nat → Int32) → Prop} {P : PT} (hX : Gd l g own cc rm nL ret fin X P) {w : WD} {pc q : Nat} {lv : List (Option Value)} {st : List Value} {k : Fin 4} {x : Int32} (hg : lg lv k = some (.int x)) (hd : decode cc pc = .ok (.iload_n k, 1)) (hq : pc + 1 = q) (kk : P w q lv (.int x :: st)) : P w pc lv (st) := by
  obtain ⟨p, e, s, m, args, below, meth, c, cells, slots, Q, A, rfl, hx, hb, hml, hown, hTB, hNL, hK, hG, hcs, hScr, hri, hrv⟩ := hX
  subst hq
  intro H locs ls hP hS hl
  exact lv_iload_n hx hb hd rfl (hl.gi hg) (kk H locs ls hP hS hl)
theorem pw_iload {l : Launch} {g : Geo} {own : String} {cc : ByteArray} {rm : Room} {nL : Nat} {ret : Option FieldType} {fin : Option Value → WD → Prop} {X : Nat → Nat → (Nat → Int32) → Prop} {P : PT} (hX : Gd l g own cc rm nL ret fin X P) {w : WD} {pc q : Nat} {lv : List (Option Value)} {st : List Value} {i : Nat} {x : Int32} (hg : lg lv i = some (.int x)) (hd : decode cc pc = .ok (.iload i, 2)) (hq : pc + 2 = q) (kk : P w q lv (.int x :: st)) : P w pc lv (st) := by
  obtain ⟨p, e, s, m, args, below, meth, c, cells, slots, Q, A, rfl, hx, hb, hml, hown, hTB, hNL, hK, hG, hcs, hScr, hri, hrv⟩ := hX
  subst hq
  intro H locs ls hP hS hl
  exact lv_iload hx hb hd (hl.gi hg) (kk H locs ls hP hS hl)
theorem pw_aload_n {l : Launch} {g : Geo} {own : String} {cc : ByteArray} {rm : Room} {nL : Nat} {ret : Option FieldType} {fin : Option Value → WD → Prop} {X : Nat → Nat → (Nat → Int32) → Prop} {P : PT} (hX : Gd l g own cc rm nL ret fin X P) {w : WD} {pc q : Nat} {lv : List (Option Value)} {st : List Value} {k : Fin 4} {x : Nat} (hg : lg lv k = some (.ref x)) (hd : decode cc pc = .ok (.aload_n k, 1)) (hq : pc + 1 = q) (kk : P w q lv (.ref x :: st)) : P w pc lv (st) := by
  obtain ⟨p, e, s, m, args, below, meth, c, cells, slots, Q, A, rfl, hx, hb, hml, hown, hTB, hNL, hK, hG, hcs, hScr, hri, hrv⟩ := hX
  subst hq
  intro H locs ls hP hS hl
  exact lv_aload_n hx hb hd rfl (hl.gi hg) (kk H locs ls hP hS hl)
theorem pw_aload {l : Launch} {g : Geo} {own : String} {cc : ByteArray} {rm : Room} {nL : Nat} {ret : Option FieldType} {fin : Option Value → WD → Prop} {X : Nat → Nat → (Nat → Int32) → Prop} {P : PT} (hX : Gd l g own cc rm nL ret fin X P) {w : WD} {pc q : Nat} {lv : List (Option Value)} {st : List Value} {i : Nat} {x : Nat} (hg : lg lv i = some (.ref x)) (hd : decode cc pc = .ok (.aload i, 2)) (hq : pc + 2 = q) (kk : P w q lv (.ref x :: st)) : P w pc lv (st) := by
  obtain ⟨p, e, s, m, args, below, meth, c, cells, slots, Q, A, rfl, hx, hb, hml, hown, hTB, hNL, hK, hG, hcs, hScr, hri, hrv⟩ := hX
  subst hq
  intro H locs ls hP hS hl
  exact lv_aload hx hb hd (hl.gi hg) (kk H locs ls hP hS hl)
theorem pw_istore_n {l : Launch} {g : Geo} {own : String} {cc : ByteArray} {rm : Room} {nL : Nat} {ret : Option FieldType} {fin : Option Value → WD → Prop} {X : Nat → Nat → (Nat → Int32) → Prop} {P : PT} (hX : Gd l g own cc rm nL ret fin X P) {w : WD} {pc q : Nat} {lv : List (Option Value)} {st : List Value} {k : Fin 4} {x : Int32} (hi : (k : Nat) < nL) (hd : decode cc pc = .ok (.istore_n k, 1)) (hq : pc + 1 = q) (kk : P w q (lst lv k (.int x)) (st)) : P w pc lv (.int x :: st) := by
  obtain ⟨p, e, s, m, args, below, meth, c, cells, slots, Q, A, rfl, hx, hb, hml, hown, hTB, hNL, hK, hG, hcs, hScr, hri, hrv⟩ := hX
  subst hq
  intro H locs ls hP hS hl
  exact lv_istore_n hx hb hd rfl hl.has hi rfl (fun ls' h' => kk H locs ls' hP hS (hl.put rfl h'))
theorem pw_istore {l : Launch} {g : Geo} {own : String} {cc : ByteArray} {rm : Room} {nL : Nat} {ret : Option FieldType} {fin : Option Value → WD → Prop} {X : Nat → Nat → (Nat → Int32) → Prop} {P : PT} (hX : Gd l g own cc rm nL ret fin X P) {w : WD} {pc q : Nat} {lv : List (Option Value)} {st : List Value} {i : Nat} {x : Int32} (hi : i < nL) (hd : decode cc pc = .ok (.istore i, 2)) (hq : pc + 2 = q) (kk : P w q (lst lv i (.int x)) (st)) : P w pc lv (.int x :: st) := by
  obtain ⟨p, e, s, m, args, below, meth, c, cells, slots, Q, A, rfl, hx, hb, hml, hown, hTB, hNL, hK, hG, hcs, hScr, hri, hrv⟩ := hX
  subst hq
  intro H locs ls hP hS hl
  exact lv_istore hx hb hd hl.has hi rfl (fun ls' h' => kk H locs ls' hP hS (hl.put rfl h'))
theorem pw_astore_n {l : Launch} {g : Geo} {own : String} {cc : ByteArray} {rm : Room} {nL : Nat} {ret : Option FieldType} {fin : Option Value → WD → Prop} {X : Nat → Nat → (Nat → Int32) → Prop} {P : PT} (hX : Gd l g own cc rm nL ret fin X P) {w : WD} {pc q : Nat} {lv : List (Option Value)} {st : List Value} {k : Fin 4} {x : Nat} (hi : (k : Nat) < nL) (hd : decode cc pc = .ok (.astore_n k, 1)) (hq : pc + 1 = q) (kk : P w q (lst lv k (.ref x)) (st)) : P w pc lv (.ref x :: st) := by
  obtain ⟨p, e, s, m, args, below, meth, c, cells, slots, Q, A, rfl, hx, hb, hml, hown, hTB, hNL, hK, hG, hcs, hScr, hri, hrv⟩ := hX
  subst hq
  intro H locs ls hP hS hl
  exact lv_astore_n hx hb hd rfl hl.has hi rfl (fun ls' h' => kk H locs ls' hP hS (hl.put rfl h'))
theorem pw_iinc {l : Launch} {g : Geo} {own : String} {cc : ByteArray} {rm : Room} {nL : Nat} {ret : Option FieldType} {fin : Option Value → WD → Prop} {X : Nat → Nat → (Nat → Int32) → Prop} {P : PT} (hX : Gd l g own cc rm nL ret fin X P) {w : WD} {pc q : Nat} {lv : List (Option Value)} {st : List Value} {i : Nat} {n : Int} {x y : Int32} (hg : lg lv i = some (.int x)) (hi : i < nL) (hy : x + Int32.ofInt n = y) (hd : decode cc pc = .ok (.iinc i n, 3)) (hq : pc + 3 = q) (kk : P w q (lst lv i (.int y)) (st)) : P w pc lv (st) := by
  obtain ⟨p, e, s, m, args, below, meth, c, cells, slots, Q, A, rfl, hx, hb, hml, hown, hTB, hNL, hK, hG, hcs, hScr, hri, hrv⟩ := hX
  subst hq
  intro H locs ls hP hS hl
  obtain ⟨k, hk⟩ := List.getElem?_of_mem (lvl_mem hi hg)
  exact lv_iinc hx hb hd hl.has hk hy hi rfl (fun ls' h' => kk H locs ls' hP hS (hl.put rfl h'))
theorem pw_iadd {l : Launch} {g : Geo} {own : String} {cc : ByteArray} {rm : Room} {nL : Nat} {ret : Option FieldType} {fin : Option Value → WD → Prop} {X : Nat → Nat → (Nat → Int32) → Prop} {P : PT} (hX : Gd l g own cc rm nL ret fin X P) {w : WD} {pc q : Nat} {lv : List (Option Value)} {st : List Value} {x y : Int32} (hd : decode cc pc = .ok (.iadd, 1)) (hq : pc + 1 = q) (kk : P w q lv (.int (x + y) :: st)) : P w pc lv (.int y :: .int x :: st) := by
  obtain ⟨p, e, s, m, args, below, meth, c, cells, slots, Q, A, rfl, hx, hb, hml, hown, hTB, hNL, hK, hG, hcs, hScr, hri, hrv⟩ := hX
  subst hq
  intro H locs ls hP hS hl
  exact lv_iadd hx hb hd (kk H locs ls hP hS hl)
theorem pw_isub {l : Launch} {g : Geo} {own : String} {cc : ByteArray} {rm : Room} {nL : Nat} {ret : Option FieldType} {fin : Option Value → WD → Prop} {X : Nat → Nat → (Nat → Int32) → Prop} {P : PT} (hX : Gd l g own cc rm nL ret fin X P) {w : WD} {pc q : Nat} {lv : List (Option Value)} {st : List Value} {x y : Int32} (hd : decode cc pc = .ok (.isub, 1)) (hq : pc + 1 = q) (kk : P w q lv (.int (x - y) :: st)) : P w pc lv (.int y :: .int x :: st) := by
  obtain ⟨p, e, s, m, args, below, meth, c, cells, slots, Q, A, rfl, hx, hb, hml, hown, hTB, hNL, hK, hG, hcs, hScr, hri, hrv⟩ := hX
  subst hq
  intro H locs ls hP hS hl
  exact lv_isub hx hb hd (kk H locs ls hP hS hl)
theorem pw_imul {l : Launch} {g : Geo} {own : String} {cc : ByteArray} {rm : Room} {nL : Nat} {ret : Option FieldType} {fin : Option Value → WD → Prop} {X : Nat → Nat → (Nat → Int32) → Prop} {P : PT} (hX : Gd l g own cc rm nL ret fin X P) {w : WD} {pc q : Nat} {lv : List (Option Value)} {st : List Value} {x y : Int32} (hd : decode cc pc = .ok (.imul, 1)) (hq : pc + 1 = q) (kk : P w q lv (.int (x * y) :: st)) : P w pc lv (.int y :: .int x :: st) := by
  obtain ⟨p, e, s, m, args, below, meth, c, cells, slots, Q, A, rfl, hx, hb, hml, hown, hTB, hNL, hK, hG, hcs, hScr, hri, hrv⟩ := hX
  subst hq
  intro H locs ls hP hS hl
  exact lv_imul hx hb hd (kk H locs ls hP hS hl)
theorem pw_iand {l : Launch} {g : Geo} {own : String} {cc : ByteArray} {rm : Room} {nL : Nat} {ret : Option FieldType} {fin : Option Value → WD → Prop} {X : Nat → Nat → (Nat → Int32) → Prop} {P : PT} (hX : Gd l g own cc rm nL ret fin X P) {w : WD} {pc q : Nat} {lv : List (Option Value)} {st : List Value} {x y : Int32} (hd : decode cc pc = .ok (.iand, 1)) (hq : pc + 1 = q) (kk : P w q lv (.int (x &&& y) :: st)) : P w pc lv (.int y :: .int x :: st) := by
  obtain ⟨p, e, s, m, args, below, meth, c, cells, slots, Q, A, rfl, hx, hb, hml, hown, hTB, hNL, hK, hG, hcs, hScr, hri, hrv⟩ := hX
  subst hq
  intro H locs ls hP hS hl
  exact lv_iand hx hb hd (kk H locs ls hP hS hl)
theorem pw_ior {l : Launch} {g : Geo} {own : String} {cc : ByteArray} {rm : Room} {nL : Nat} {ret : Option FieldType} {fin : Option Value → WD → Prop} {X : Nat → Nat → (Nat → Int32) → Prop} {P : PT} (hX : Gd l g own cc rm nL ret fin X P) {w : WD} {pc q : Nat} {lv : List (Option Value)} {st : List Value} {x y : Int32} (hd : decode cc pc = .ok (.ior, 1)) (hq : pc + 1 = q) (kk : P w q lv (.int (x ||| y) :: st)) : P w pc lv (.int y :: .int x :: st) := by
  obtain ⟨p, e, s, m, args, below, meth, c, cells, slots, Q, A, rfl, hx, hb, hml, hown, hTB, hNL, hK, hG, hcs, hScr, hri, hrv⟩ := hX
  subst hq
  intro H locs ls hP hS hl
  exact lv_ior hx hb hd (kk H locs ls hP hS hl)
theorem pw_ixor {l : Launch} {g : Geo} {own : String} {cc : ByteArray} {rm : Room} {nL : Nat} {ret : Option FieldType} {fin : Option Value → WD → Prop} {X : Nat → Nat → (Nat → Int32) → Prop} {P : PT} (hX : Gd l g own cc rm nL ret fin X P) {w : WD} {pc q : Nat} {lv : List (Option Value)} {st : List Value} {x y : Int32} (hd : decode cc pc = .ok (.ixor, 1)) (hq : pc + 1 = q) (kk : P w q lv (.int (x ^^^ y) :: st)) : P w pc lv (.int y :: .int x :: st) := by
  obtain ⟨p, e, s, m, args, below, meth, c, cells, slots, Q, A, rfl, hx, hb, hml, hown, hTB, hNL, hK, hG, hcs, hScr, hri, hrv⟩ := hX
  subst hq
  intro H locs ls hP hS hl
  exact lv_ixor hx hb hd (kk H locs ls hP hS hl)
theorem pw_ishl {l : Launch} {g : Geo} {own : String} {cc : ByteArray} {rm : Room} {nL : Nat} {ret : Option FieldType} {fin : Option Value → WD → Prop} {X : Nat → Nat → (Nat → Int32) → Prop} {P : PT} (hX : Gd l g own cc rm nL ret fin X P) {w : WD} {pc q : Nat} {lv : List (Option Value)} {st : List Value} {x y : Int32} (hd : decode cc pc = .ok (.ishl, 1)) (hq : pc + 1 = q) (kk : P w q lv (.int (x <<< (y &&& 31)) :: st)) : P w pc lv (.int y :: .int x :: st) := by
  obtain ⟨p, e, s, m, args, below, meth, c, cells, slots, Q, A, rfl, hx, hb, hml, hown, hTB, hNL, hK, hG, hcs, hScr, hri, hrv⟩ := hX
  subst hq
  intro H locs ls hP hS hl
  exact lv_ishl hx hb hd (kk H locs ls hP hS hl)
theorem pw_iushr {l : Launch} {g : Geo} {own : String} {cc : ByteArray} {rm : Room} {nL : Nat} {ret : Option FieldType} {fin : Option Value → WD → Prop} {X : Nat → Nat → (Nat → Int32) → Prop} {P : PT} (hX : Gd l g own cc rm nL ret fin X P) {w : WD} {pc q : Nat} {lv : List (Option Value)} {st : List Value} {x y : Int32} (hd : decode cc pc = .ok (.iushr, 1)) (hq : pc + 1 = q) (kk : P w q lv (.int ((x.toUInt32 >>> (y.toUInt32 &&& Int32.toUInt32 31)).toInt32) :: st)) : P w pc lv (.int y :: .int x :: st) := by
  obtain ⟨p, e, s, m, args, below, meth, c, cells, slots, Q, A, rfl, hx, hb, hml, hown, hTB, hNL, hK, hG, hcs, hScr, hri, hrv⟩ := hX
  subst hq
  intro H locs ls hP hS hl
  exact lv_iushr hx hb hd rfl (kk H locs ls hP hS hl)
theorem pw_irem {l : Launch} {g : Geo} {own : String} {cc : ByteArray} {rm : Room} {nL : Nat} {ret : Option FieldType} {fin : Option Value → WD → Prop} {X : Nat → Nat → (Nat → Int32) → Prop} {P : PT} (hX : Gd l g own cc rm nL ret fin X P) {w : WD} {pc q : Nat} {lv : List (Option Value)} {st : List Value} {x y : Int32} (hy : ¬ y = 0) (hd : decode cc pc = .ok (.irem, 1)) (hq : pc + 1 = q) (kk : P w q lv (.int (x - x / y * y) :: st)) : P w pc lv (.int y :: .int x :: st) := by
  obtain ⟨p, e, s, m, args, below, meth, c, cells, slots, Q, A, rfl, hx, hb, hml, hown, hTB, hNL, hK, hG, hcs, hScr, hri, hrv⟩ := hX
  subst hq
  intro H locs ls hP hS hl
  exact lv_irem hx hb hd hy (kk H locs ls hP hS hl)
theorem pw_idiv {l : Launch} {g : Geo} {own : String} {cc : ByteArray} {rm : Room} {nL : Nat} {ret : Option FieldType} {fin : Option Value → WD → Prop} {X : Nat → Nat → (Nat → Int32) → Prop} {P : PT} (hX : Gd l g own cc rm nL ret fin X P) {w : WD} {pc q : Nat} {lv : List (Option Value)} {st : List Value} {x y : Int32} (hy : ¬ y = 0) (hd : decode cc pc = .ok (.idiv, 1)) (hq : pc + 1 = q) (kk : P w q lv (.int (x / y) :: st)) : P w pc lv (.int y :: .int x :: st) := by
  obtain ⟨p, e, s, m, args, below, meth, c, cells, slots, Q, A, rfl, hx, hb, hml, hown, hTB, hNL, hK, hG, hcs, hScr, hri, hrv⟩ := hX
  subst hq
  intro H locs ls hP hS hl
  exact lv_idiv hx hb hd hy (kk H locs ls hP hS hl)
theorem pw_i2c {l : Launch} {g : Geo} {own : String} {cc : ByteArray} {rm : Room} {nL : Nat} {ret : Option FieldType} {fin : Option Value → WD → Prop} {X : Nat → Nat → (Nat → Int32) → Prop} {P : PT} (hX : Gd l g own cc rm nL ret fin X P) {w : WD} {pc q : Nat} {lv : List (Option Value)} {st : List Value} {x v : Int32} (hv : (x.toUInt32 % 65536).toInt32 = v) (hd : decode cc pc = .ok (.i2c, 1)) (hq : pc + 1 = q) (kk : P w q lv (.int v :: st)) : P w pc lv (.int x :: st) := by
  obtain ⟨p, e, s, m, args, below, meth, c, cells, slots, Q, A, rfl, hx, hb, hml, hown, hTB, hNL, hK, hG, hcs, hScr, hri, hrv⟩ := hX
  subst hq
  intro H locs ls hP hS hl
  exact lv_i2c hx hb hd hv (kk H locs ls hP hS hl)
theorem pw_iaddN {l : Launch} {g : Geo} {own : String} {cc : ByteArray} {rm : Room} {nL : Nat} {ret : Option FieldType} {fin : Option Value → WD → Prop} {X : Nat → Nat → (Nat → Int32) → Prop} {P : PT} (hX : Gd l g own cc rm nL ret fin X P) {w : WD} {pc q : Nat} {lv : List (Option Value)} {st : List Value} {a b : Nat} (hd : decode cc pc = .ok (.iadd, 1)) (hq : pc + 1 = q) (kk : P w q lv (.int (nI (a + b)) :: st)) : P w pc lv (.int (nI b) :: .int (nI a) :: st) := pw_iadd hX hd hq (by rw [nI_add]; exact kk)
theorem pw_imulN {l : Launch} {g : Geo} {own : String} {cc : ByteArray} {rm : Room} {nL : Nat} {ret : Option FieldType} {fin : Option Value → WD → Prop} {X : Nat → Nat → (Nat → Int32) → Prop} {P : PT} (hX : Gd l g own cc rm nL ret fin X P) {w : WD} {pc q : Nat} {lv : List (Option Value)} {st : List Value} {a b : Nat} (hd : decode cc pc = .ok (.imul, 1)) (hq : pc + 1 = q) (kk : P w q lv (.int (nI (a * b)) :: st)) : P w pc lv (.int (nI b) :: .int (nI a) :: st) := pw_imul hX hd hq (by rw [pk_mul]; exact kk)
theorem pw_isubN {l : Launch} {g : Geo} {own : String} {cc : ByteArray} {rm : Room} {nL : Nat} {ret : Option FieldType} {fin : Option Value → WD → Prop} {X : Nat → Nat → (Nat → Int32) → Prop} {P : PT} (hX : Gd l g own cc rm nL ret fin X P) {w : WD} {pc q : Nat} {lv : List (Option Value)} {st : List Value} {a b : Nat} (hab : b ≤ a) (hd : decode cc pc = .ok (.isub, 1)) (hq : pc + 1 = q) (kk : P w q lv (.int (nI (a - b)) :: st)) : P w pc lv (.int (nI b) :: .int (nI a) :: st) := pw_isub hX hd hq (by rw [pk_sub hab]; exact kk)
theorem pw_dup {l : Launch} {g : Geo} {own : String} {cc : ByteArray} {rm : Room} {nL : Nat} {ret : Option FieldType} {fin : Option Value → WD → Prop} {X : Nat → Nat → (Nat → Int32) → Prop} {P : PT} (hX : Gd l g own cc rm nL ret fin X P) {w : WD} {pc q : Nat} {lv : List (Option Value)} {st : List Value} {v : Value} (hv : v.category = 1) (hd : decode cc pc = .ok (.dup, 1)) (hq : pc + 1 = q) (kk : P w q lv (v :: v :: st)) : P w pc lv (v :: st) := by
  obtain ⟨p, e, s, m, args, below, meth, c, cells, slots, Q, A, rfl, hx, hb, hml, hown, hTB, hNL, hK, hG, hcs, hScr, hri, hrv⟩ := hX
  subst hq
  intro H locs ls hP hS hl
  exact lv_dup hx hb hd hv (kk H locs ls hP hS hl)
theorem pw_dup2 {l : Launch} {g : Geo} {own : String} {cc : ByteArray} {rm : Room} {nL : Nat} {ret : Option FieldType} {fin : Option Value → WD → Prop} {X : Nat → Nat → (Nat → Int32) → Prop} {P : PT} (hX : Gd l g own cc rm nL ret fin X P) {w : WD} {pc q : Nat} {lv : List (Option Value)} {st : List Value} {v u : Value} (hv : v.category = 1) (hu : u.category = 1) (hd : decode cc pc = .ok (.dup2, 1)) (hq : pc + 1 = q) (kk : P w q lv (v :: u :: v :: u :: st)) : P w pc lv (v :: u :: st) := by
  obtain ⟨p, e, s, m, args, below, meth, c, cells, slots, Q, A, rfl, hx, hb, hml, hown, hTB, hNL, hK, hG, hcs, hScr, hri, hrv⟩ := hX
  subst hq
  intro H locs ls hP hS hl
  exact lv_dup2_11 hx hb hd hv hu (kk H locs ls hP hS hl)
theorem pw_pop {l : Launch} {g : Geo} {own : String} {cc : ByteArray} {rm : Room} {nL : Nat} {ret : Option FieldType} {fin : Option Value → WD → Prop} {X : Nat → Nat → (Nat → Int32) → Prop} {P : PT} (hX : Gd l g own cc rm nL ret fin X P) {w : WD} {pc q : Nat} {lv : List (Option Value)} {st : List Value} {v : Value} (hv : v.category = 1) (hd : decode cc pc = .ok (.pop, 1)) (hq : pc + 1 = q) (kk : P w q lv (st)) : P w pc lv (v :: st) := by
  obtain ⟨p, e, s, m, args, below, meth, c, cells, slots, Q, A, rfl, hx, hb, hml, hown, hTB, hNL, hK, hG, hcs, hScr, hri, hrv⟩ := hX
  subst hq
  intro H locs ls hP hS hl
  exact lv_pop hx hb hd hv (kk H locs ls hP hS hl)
theorem pw_if_eq {l : Launch} {g : Geo} {own : String} {cc : ByteArray} {rm : Room} {nL : Nat} {ret : Option FieldType} {fin : Option Value → WD → Prop} {X : Nat → Nat → (Nat → Int32) → Prop} {P : PT} (hX : Gd l g own cc rm nL ret fin X P) {w : WD} {pc q : Nat} {lv : List (Option Value)} {st : List Value} {x : Int32} {off : Int} {tgt : Nat} (hd : decode cc pc = .ok (.ifCond .eq off, 3)) (hq : pc + 3 = q) (ht : (pc : Int) + off = (tgt : Int)) (kt : x = 0 → P w tgt lv st) (kf : ¬ x = 0 → P w q lv st) : P w pc lv (.int x :: st) := by
  obtain ⟨p, e, s, m, args, below, meth, c, cells, slots, Q, A, rfl, hx, hb, hml, hown, hTB, hNL, hK, hG, hcs, hScr, hri, hrv⟩ := hX
  subst hq
  intro H locs ls hP hS hl
  exact lv_if_eq hx hb hd ht (fun h => kt h H locs ls hP hS hl) (fun h => kf h H locs ls hP hS hl)
theorem pw_icmp_eq {l : Launch} {g : Geo} {own : String} {cc : ByteArray} {rm : Room} {nL : Nat} {ret : Option FieldType} {fin : Option Value → WD → Prop} {X : Nat → Nat → (Nat → Int32) → Prop} {P : PT} (hX : Gd l g own cc rm nL ret fin X P) {w : WD} {pc q : Nat} {lv : List (Option Value)} {st : List Value} {x y : Int32} {off : Int} {tgt : Nat} (hd : decode cc pc = .ok (.if_icmp .eq off, 3)) (hq : pc + 3 = q) (ht : (pc : Int) + off = (tgt : Int)) (kt : x = y → P w tgt lv st) (kf : ¬ x = y → P w q lv st) : P w pc lv (.int y :: .int x :: st) := by
  obtain ⟨p, e, s, m, args, below, meth, c, cells, slots, Q, A, rfl, hx, hb, hml, hown, hTB, hNL, hK, hG, hcs, hScr, hri, hrv⟩ := hX
  subst hq
  intro H locs ls hP hS hl
  exact lv_icmp_eq hx hb hd ht (fun h => kt h H locs ls hP hS hl) (fun h => kf h H locs ls hP hS hl)
theorem pw_if_ne {l : Launch} {g : Geo} {own : String} {cc : ByteArray} {rm : Room} {nL : Nat} {ret : Option FieldType} {fin : Option Value → WD → Prop} {X : Nat → Nat → (Nat → Int32) → Prop} {P : PT} (hX : Gd l g own cc rm nL ret fin X P) {w : WD} {pc q : Nat} {lv : List (Option Value)} {st : List Value} {x : Int32} {off : Int} {tgt : Nat} (hd : decode cc pc = .ok (.ifCond .ne off, 3)) (hq : pc + 3 = q) (ht : (pc : Int) + off = (tgt : Int)) (kt : ¬ x = 0 → P w tgt lv st) (kf : x = 0 → P w q lv st) : P w pc lv (.int x :: st) := by
  obtain ⟨p, e, s, m, args, below, meth, c, cells, slots, Q, A, rfl, hx, hb, hml, hown, hTB, hNL, hK, hG, hcs, hScr, hri, hrv⟩ := hX
  subst hq
  intro H locs ls hP hS hl
  exact lv_if_ne hx hb hd ht (fun h => kt h H locs ls hP hS hl) (fun h => kf h H locs ls hP hS hl)
theorem pw_icmp_ne {l : Launch} {g : Geo} {own : String} {cc : ByteArray} {rm : Room} {nL : Nat} {ret : Option FieldType} {fin : Option Value → WD → Prop} {X : Nat → Nat → (Nat → Int32) → Prop} {P : PT} (hX : Gd l g own cc rm nL ret fin X P) {w : WD} {pc q : Nat} {lv : List (Option Value)} {st : List Value} {x y : Int32} {off : Int} {tgt : Nat} (hd : decode cc pc = .ok (.if_icmp .ne off, 3)) (hq : pc + 3 = q) (ht : (pc : Int) + off = (tgt : Int)) (kt : ¬ x = y → P w tgt lv st) (kf : x = y → P w q lv st) : P w pc lv (.int y :: .int x :: st) := by
  obtain ⟨p, e, s, m, args, below, meth, c, cells, slots, Q, A, rfl, hx, hb, hml, hown, hTB, hNL, hK, hG, hcs, hScr, hri, hrv⟩ := hX
  subst hq
  intro H locs ls hP hS hl
  exact lv_icmp_ne hx hb hd ht (fun h => kt h H locs ls hP hS hl) (fun h => kf h H locs ls hP hS hl)
theorem pw_if_lt {l : Launch} {g : Geo} {own : String} {cc : ByteArray} {rm : Room} {nL : Nat} {ret : Option FieldType} {fin : Option Value → WD → Prop} {X : Nat → Nat → (Nat → Int32) → Prop} {P : PT} (hX : Gd l g own cc rm nL ret fin X P) {w : WD} {pc q : Nat} {lv : List (Option Value)} {st : List Value} {x : Int32} {off : Int} {tgt : Nat} (hd : decode cc pc = .ok (.ifCond .lt off, 3)) (hq : pc + 3 = q) (ht : (pc : Int) + off = (tgt : Int)) (kt : x < 0 → P w tgt lv st) (kf : ¬ x < 0 → P w q lv st) : P w pc lv (.int x :: st) := by
  obtain ⟨p, e, s, m, args, below, meth, c, cells, slots, Q, A, rfl, hx, hb, hml, hown, hTB, hNL, hK, hG, hcs, hScr, hri, hrv⟩ := hX
  subst hq
  intro H locs ls hP hS hl
  exact lv_if_lt hx hb hd ht (fun h => kt h H locs ls hP hS hl) (fun h => kf h H locs ls hP hS hl)
theorem pw_icmp_lt {l : Launch} {g : Geo} {own : String} {cc : ByteArray} {rm : Room} {nL : Nat} {ret : Option FieldType} {fin : Option Value → WD → Prop} {X : Nat → Nat → (Nat → Int32) → Prop} {P : PT} (hX : Gd l g own cc rm nL ret fin X P) {w : WD} {pc q : Nat} {lv : List (Option Value)} {st : List Value} {x y : Int32} {off : Int} {tgt : Nat} (hd : decode cc pc = .ok (.if_icmp .lt off, 3)) (hq : pc + 3 = q) (ht : (pc : Int) + off = (tgt : Int)) (kt : x < y → P w tgt lv st) (kf : ¬ x < y → P w q lv st) : P w pc lv (.int y :: .int x :: st) := by
  obtain ⟨p, e, s, m, args, below, meth, c, cells, slots, Q, A, rfl, hx, hb, hml, hown, hTB, hNL, hK, hG, hcs, hScr, hri, hrv⟩ := hX
  subst hq
  intro H locs ls hP hS hl
  exact lv_icmp_lt hx hb hd ht (fun h => kt h H locs ls hP hS hl) (fun h => kf h H locs ls hP hS hl)
theorem pw_if_ge {l : Launch} {g : Geo} {own : String} {cc : ByteArray} {rm : Room} {nL : Nat} {ret : Option FieldType} {fin : Option Value → WD → Prop} {X : Nat → Nat → (Nat → Int32) → Prop} {P : PT} (hX : Gd l g own cc rm nL ret fin X P) {w : WD} {pc q : Nat} {lv : List (Option Value)} {st : List Value} {x : Int32} {off : Int} {tgt : Nat} (hd : decode cc pc = .ok (.ifCond .ge off, 3)) (hq : pc + 3 = q) (ht : (pc : Int) + off = (tgt : Int)) (kt : 0 ≤ x → P w tgt lv st) (kf : ¬ 0 ≤ x → P w q lv st) : P w pc lv (.int x :: st) := by
  obtain ⟨p, e, s, m, args, below, meth, c, cells, slots, Q, A, rfl, hx, hb, hml, hown, hTB, hNL, hK, hG, hcs, hScr, hri, hrv⟩ := hX
  subst hq
  intro H locs ls hP hS hl
  exact lv_if_ge hx hb hd ht (fun h => kt h H locs ls hP hS hl) (fun h => kf h H locs ls hP hS hl)
theorem pw_icmp_ge {l : Launch} {g : Geo} {own : String} {cc : ByteArray} {rm : Room} {nL : Nat} {ret : Option FieldType} {fin : Option Value → WD → Prop} {X : Nat → Nat → (Nat → Int32) → Prop} {P : PT} (hX : Gd l g own cc rm nL ret fin X P) {w : WD} {pc q : Nat} {lv : List (Option Value)} {st : List Value} {x y : Int32} {off : Int} {tgt : Nat} (hd : decode cc pc = .ok (.if_icmp .ge off, 3)) (hq : pc + 3 = q) (ht : (pc : Int) + off = (tgt : Int)) (kt : y ≤ x → P w tgt lv st) (kf : ¬ y ≤ x → P w q lv st) : P w pc lv (.int y :: .int x :: st) := by
  obtain ⟨p, e, s, m, args, below, meth, c, cells, slots, Q, A, rfl, hx, hb, hml, hown, hTB, hNL, hK, hG, hcs, hScr, hri, hrv⟩ := hX
  subst hq
  intro H locs ls hP hS hl
  exact lv_icmp_ge hx hb hd ht (fun h => kt h H locs ls hP hS hl) (fun h => kf h H locs ls hP hS hl)
theorem pw_if_gt {l : Launch} {g : Geo} {own : String} {cc : ByteArray} {rm : Room} {nL : Nat} {ret : Option FieldType} {fin : Option Value → WD → Prop} {X : Nat → Nat → (Nat → Int32) → Prop} {P : PT} (hX : Gd l g own cc rm nL ret fin X P) {w : WD} {pc q : Nat} {lv : List (Option Value)} {st : List Value} {x : Int32} {off : Int} {tgt : Nat} (hd : decode cc pc = .ok (.ifCond .gt off, 3)) (hq : pc + 3 = q) (ht : (pc : Int) + off = (tgt : Int)) (kt : 0 < x → P w tgt lv st) (kf : ¬ 0 < x → P w q lv st) : P w pc lv (.int x :: st) := by
  obtain ⟨p, e, s, m, args, below, meth, c, cells, slots, Q, A, rfl, hx, hb, hml, hown, hTB, hNL, hK, hG, hcs, hScr, hri, hrv⟩ := hX
  subst hq
  intro H locs ls hP hS hl
  exact lv_if_gt hx hb hd ht (fun h => kt h H locs ls hP hS hl) (fun h => kf h H locs ls hP hS hl)
theorem pw_icmp_gt {l : Launch} {g : Geo} {own : String} {cc : ByteArray} {rm : Room} {nL : Nat} {ret : Option FieldType} {fin : Option Value → WD → Prop} {X : Nat → Nat → (Nat → Int32) → Prop} {P : PT} (hX : Gd l g own cc rm nL ret fin X P) {w : WD} {pc q : Nat} {lv : List (Option Value)} {st : List Value} {x y : Int32} {off : Int} {tgt : Nat} (hd : decode cc pc = .ok (.if_icmp .gt off, 3)) (hq : pc + 3 = q) (ht : (pc : Int) + off = (tgt : Int)) (kt : y < x → P w tgt lv st) (kf : ¬ y < x → P w q lv st) : P w pc lv (.int y :: .int x :: st) := by
  obtain ⟨p, e, s, m, args, below, meth, c, cells, slots, Q, A, rfl, hx, hb, hml, hown, hTB, hNL, hK, hG, hcs, hScr, hri, hrv⟩ := hX
  subst hq
  intro H locs ls hP hS hl
  exact lv_icmp_gt hx hb hd ht (fun h => kt h H locs ls hP hS hl) (fun h => kf h H locs ls hP hS hl)
theorem pw_if_le {l : Launch} {g : Geo} {own : String} {cc : ByteArray} {rm : Room} {nL : Nat} {ret : Option FieldType} {fin : Option Value → WD → Prop} {X : Nat → Nat → (Nat → Int32) → Prop} {P : PT} (hX : Gd l g own cc rm nL ret fin X P) {w : WD} {pc q : Nat} {lv : List (Option Value)} {st : List Value} {x : Int32} {off : Int} {tgt : Nat} (hd : decode cc pc = .ok (.ifCond .le off, 3)) (hq : pc + 3 = q) (ht : (pc : Int) + off = (tgt : Int)) (kt : x ≤ 0 → P w tgt lv st) (kf : ¬ x ≤ 0 → P w q lv st) : P w pc lv (.int x :: st) := by
  obtain ⟨p, e, s, m, args, below, meth, c, cells, slots, Q, A, rfl, hx, hb, hml, hown, hTB, hNL, hK, hG, hcs, hScr, hri, hrv⟩ := hX
  subst hq
  intro H locs ls hP hS hl
  exact lv_if_le hx hb hd ht (fun h => kt h H locs ls hP hS hl) (fun h => kf h H locs ls hP hS hl)
theorem pw_icmp_le {l : Launch} {g : Geo} {own : String} {cc : ByteArray} {rm : Room} {nL : Nat} {ret : Option FieldType} {fin : Option Value → WD → Prop} {X : Nat → Nat → (Nat → Int32) → Prop} {P : PT} (hX : Gd l g own cc rm nL ret fin X P) {w : WD} {pc q : Nat} {lv : List (Option Value)} {st : List Value} {x y : Int32} {off : Int} {tgt : Nat} (hd : decode cc pc = .ok (.if_icmp .le off, 3)) (hq : pc + 3 = q) (ht : (pc : Int) + off = (tgt : Int)) (kt : x ≤ y → P w tgt lv st) (kf : ¬ x ≤ y → P w q lv st) : P w pc lv (.int y :: .int x :: st) := by
  obtain ⟨p, e, s, m, args, below, meth, c, cells, slots, Q, A, rfl, hx, hb, hml, hown, hTB, hNL, hK, hG, hcs, hScr, hri, hrv⟩ := hX
  subst hq
  intro H locs ls hP hS hl
  exact lv_icmp_le hx hb hd ht (fun h => kt h H locs ls hP hS hl) (fun h => kf h H locs ls hP hS hl)
theorem pw_icmpN_eq {l : Launch} {g : Geo} {own : String} {cc : ByteArray} {rm : Room} {nL : Nat} {ret : Option FieldType} {fin : Option Value → WD → Prop} {X : Nat → Nat → (Nat → Int32) → Prop} {P : PT} (hX : Gd l g own cc rm nL ret fin X P) {w : WD} {pc q : Nat} {lv : List (Option Value)} {st : List Value} {a b : Nat} (ha : a < 2 ^ 31) (hb : b < 2 ^ 31) {off : Int} {tgt : Nat} (hd : decode cc pc = .ok (.if_icmp .eq off, 3)) (hq : pc + 3 = q) (ht : (pc : Int) + off = (tgt : Int)) (kt : a = b → P w tgt lv st) (kf : a ≠ b → P w q lv st) : P w pc lv (.int (nI b) :: .int (nI a) :: st) := pw_icmp_eq hX hd hq ht (fun h => kt ((nI_eq ha hb).mp h)) (fun h => kf (fun z => h ((nI_eq ha hb).mpr z)))
theorem pw_icmpN_ne {l : Launch} {g : Geo} {own : String} {cc : ByteArray} {rm : Room} {nL : Nat} {ret : Option FieldType} {fin : Option Value → WD → Prop} {X : Nat → Nat → (Nat → Int32) → Prop} {P : PT} (hX : Gd l g own cc rm nL ret fin X P) {w : WD} {pc q : Nat} {lv : List (Option Value)} {st : List Value} {a b : Nat} (ha : a < 2 ^ 31) (hb : b < 2 ^ 31) {off : Int} {tgt : Nat} (hd : decode cc pc = .ok (.if_icmp .ne off, 3)) (hq : pc + 3 = q) (ht : (pc : Int) + off = (tgt : Int)) (kt : a ≠ b → P w tgt lv st) (kf : a = b → P w q lv st) : P w pc lv (.int (nI b) :: .int (nI a) :: st) := pw_icmp_ne hX hd hq ht (fun h => kt (fun z => h ((nI_eq ha hb).mpr z))) (fun h => kf ((nI_eq ha hb).mp h))
theorem pw_icmpN_lt {l : Launch} {g : Geo} {own : String} {cc : ByteArray} {rm : Room} {nL : Nat} {ret : Option FieldType} {fin : Option Value → WD → Prop} {X : Nat → Nat → (Nat → Int32) → Prop} {P : PT} (hX : Gd l g own cc rm nL ret fin X P) {w : WD} {pc q : Nat} {lv : List (Option Value)} {st : List Value} {a b : Nat} (ha : a < 2 ^ 31) (hb : b < 2 ^ 31) {off : Int} {tgt : Nat} (hd : decode cc pc = .ok (.if_icmp .lt off, 3)) (hq : pc + 3 = q) (ht : (pc : Int) + off = (tgt : Int)) (kt : a < b → P w tgt lv st) (kf : b ≤ a → P w q lv st) : P w pc lv (.int (nI b) :: .int (nI a) :: st) := pw_icmp_lt hX hd hq ht (fun h => kt ((nI_ltI ha hb).mp h)) (fun h => kf (Nat.not_lt.mp (fun z => h ((nI_ltI ha hb).mpr z))))
theorem pw_icmpN_ge {l : Launch} {g : Geo} {own : String} {cc : ByteArray} {rm : Room} {nL : Nat} {ret : Option FieldType} {fin : Option Value → WD → Prop} {X : Nat → Nat → (Nat → Int32) → Prop} {P : PT} (hX : Gd l g own cc rm nL ret fin X P) {w : WD} {pc q : Nat} {lv : List (Option Value)} {st : List Value} {a b : Nat} (ha : a < 2 ^ 31) (hb : b < 2 ^ 31) {off : Int} {tgt : Nat} (hd : decode cc pc = .ok (.if_icmp .ge off, 3)) (hq : pc + 3 = q) (ht : (pc : Int) + off = (tgt : Int)) (kt : b ≤ a → P w tgt lv st) (kf : a < b → P w q lv st) : P w pc lv (.int (nI b) :: .int (nI a) :: st) := pw_icmp_ge hX hd hq ht (fun h => kt ((nI_leI hb ha).mp h)) (fun h => kf (Nat.not_le.mp (fun z => h ((nI_leI hb ha).mpr z))))
theorem pw_icmpN_gt {l : Launch} {g : Geo} {own : String} {cc : ByteArray} {rm : Room} {nL : Nat} {ret : Option FieldType} {fin : Option Value → WD → Prop} {X : Nat → Nat → (Nat → Int32) → Prop} {P : PT} (hX : Gd l g own cc rm nL ret fin X P) {w : WD} {pc q : Nat} {lv : List (Option Value)} {st : List Value} {a b : Nat} (ha : a < 2 ^ 31) (hb : b < 2 ^ 31) {off : Int} {tgt : Nat} (hd : decode cc pc = .ok (.if_icmp .gt off, 3)) (hq : pc + 3 = q) (ht : (pc : Int) + off = (tgt : Int)) (kt : b < a → P w tgt lv st) (kf : a ≤ b → P w q lv st) : P w pc lv (.int (nI b) :: .int (nI a) :: st) := pw_icmp_gt hX hd hq ht (fun h => kt ((nI_ltI hb ha).mp h)) (fun h => kf (Nat.not_lt.mp (fun z => h ((nI_ltI hb ha).mpr z))))
theorem pw_icmpN_le {l : Launch} {g : Geo} {own : String} {cc : ByteArray} {rm : Room} {nL : Nat} {ret : Option FieldType} {fin : Option Value → WD → Prop} {X : Nat → Nat → (Nat → Int32) → Prop} {P : PT} (hX : Gd l g own cc rm nL ret fin X P) {w : WD} {pc q : Nat} {lv : List (Option Value)} {st : List Value} {a b : Nat} (ha : a < 2 ^ 31) (hb : b < 2 ^ 31) {off : Int} {tgt : Nat} (hd : decode cc pc = .ok (.if_icmp .le off, 3)) (hq : pc + 3 = q) (ht : (pc : Int) + off = (tgt : Int)) (kt : a ≤ b → P w tgt lv st) (kf : b < a → P w q lv st) : P w pc lv (.int (nI b) :: .int (nI a) :: st) := pw_icmp_le hX hd hq ht (fun h => kt ((nI_leI ha hb).mp h)) (fun h => kf (Nat.not_le.mp (fun z => h ((nI_leI ha hb).mpr z))))
theorem pw_ifB_eq {l : Launch} {g : Geo} {own : String} {cc : ByteArray} {rm : Room} {nL : Nat} {ret : Option FieldType} {fin : Option Value → WD → Prop} {X : Nat → Nat → (Nat → Int32) → Prop} {P : PT} (hX : Gd l g own cc rm nL ret fin X P) {w : WD} {pc q : Nat} {lv : List (Option Value)} {st : List Value} {b : Bool} {off : Int} {tgt : Nat} (hd : decode cc pc = .ok (.ifCond .eq off, 3)) (hq : pc + 3 = q) (ht : (pc : Int) + off = (tgt : Int)) (kt : b = false → P w tgt lv st) (kf : b = true → P w q lv st) : P w pc lv (.int (bI b) :: st) := pw_if_eq hX hd hq ht (fun h => kt (by exact (bI_eq0 b).mp h)) (fun h => kf (by simpa [bI_eq0] using h))
theorem pw_ifB_ne {l : Launch} {g : Geo} {own : String} {cc : ByteArray} {rm : Room} {nL : Nat} {ret : Option FieldType} {fin : Option Value → WD → Prop} {X : Nat → Nat → (Nat → Int32) → Prop} {P : PT} (hX : Gd l g own cc rm nL ret fin X P) {w : WD} {pc q : Nat} {lv : List (Option Value)} {st : List Value} {b : Bool} {off : Int} {tgt : Nat} (hd : decode cc pc = .ok (.ifCond .ne off, 3)) (hq : pc + 3 = q) (ht : (pc : Int) + off = (tgt : Int)) (kt : b = true → P w tgt lv st) (kf : b = false → P w q lv st) : P w pc lv (.int (bI b) :: st) := pw_if_ne hX hd hq ht (fun h => kt (by simpa [bI_eq0] using h)) (fun h => kf (by exact (bI_eq0 b).mp h))
theorem pw_ifN_eq {l : Launch} {g : Geo} {own : String} {cc : ByteArray} {rm : Room} {nL : Nat} {ret : Option FieldType} {fin : Option Value → WD → Prop} {X : Nat → Nat → (Nat → Int32) → Prop} {P : PT} (hX : Gd l g own cc rm nL ret fin X P) {w : WD} {pc q : Nat} {lv : List (Option Value)} {st : List Value} {a : Nat} (ha : a < 2 ^ 31) {off : Int} {tgt : Nat} (hd : decode cc pc = .ok (.ifCond .eq off, 3)) (hq : pc + 3 = q) (ht : (pc : Int) + off = (tgt : Int)) (kt : a = 0 → P w tgt lv st) (kf : a ≠ 0 → P w q lv st) : P w pc lv (.int (nI a) :: st) := pw_if_eq hX hd hq ht (fun h => kt ((nI_eq ha (by decide)).mp (h.trans nI_0.symm))) (fun h => kf (fun z => h (((nI_eq ha (by decide)).mpr z).trans nI_0)))
theorem pw_ifN_ne {l : Launch} {g : Geo} {own : String} {cc : ByteArray} {rm : Room} {nL : Nat} {ret : Option FieldType} {fin : Option Value → WD → Prop} {X : Nat → Nat → (Nat → Int32) → Prop} {P : PT} (hX : Gd l g own cc rm nL ret fin X P) {w : WD} {pc q : Nat} {lv : List (Option Value)} {st : List Value} {a : Nat} (ha : a < 2 ^ 31) {off : Int} {tgt : Nat} (hd : decode cc pc = .ok (.ifCond .ne off, 3)) (hq : pc + 3 = q) (ht : (pc : Int) + off = (tgt : Int)) (kt : a ≠ 0 → P w tgt lv st) (kf : a = 0 → P w q lv st) : P w pc lv (.int (nI a) :: st) := pw_if_ne hX hd hq ht (fun h => kt (fun z => h (((nI_eq ha (by decide)).mpr z).trans nI_0))) (fun h => kf ((nI_eq ha (by decide)).mp (h.trans nI_0.symm)))
theorem pw_ifN_le {l : Launch} {g : Geo} {own : String} {cc : ByteArray} {rm : Room} {nL : Nat} {ret : Option FieldType} {fin : Option Value → WD → Prop} {X : Nat → Nat → (Nat → Int32) → Prop} {P : PT} (hX : Gd l g own cc rm nL ret fin X P) {w : WD} {pc q : Nat} {lv : List (Option Value)} {st : List Value} {a : Nat} (ha : a < 2 ^ 31) {off : Int} {tgt : Nat} (hd : decode cc pc = .ok (.ifCond .le off, 3)) (hq : pc + 3 = q) (ht : (pc : Int) + off = (tgt : Int)) (kt : a = 0 → P w tgt lv st) (kf : 0 < a → P w q lv st) : P w pc lv (.int (nI a) :: st) := pw_if_le hX hd hq ht (fun h => kt (Nat.eq_zero_of_le_zero ((nI_leI ha (by decide)).mp (by rw [nI_0]; exact h)))) (fun h => kf (Nat.not_le.mp (fun z => h (by rw [← nI_0]; exact (nI_leI ha (by decide)).mpr z))))
theorem pw_ifN_gt {l : Launch} {g : Geo} {own : String} {cc : ByteArray} {rm : Room} {nL : Nat} {ret : Option FieldType} {fin : Option Value → WD → Prop} {X : Nat → Nat → (Nat → Int32) → Prop} {P : PT} (hX : Gd l g own cc rm nL ret fin X P) {w : WD} {pc q : Nat} {lv : List (Option Value)} {st : List Value} {a : Nat} (ha : a < 2 ^ 31) {off : Int} {tgt : Nat} (hd : decode cc pc = .ok (.ifCond .gt off, 3)) (hq : pc + 3 = q) (ht : (pc : Int) + off = (tgt : Int)) (kt : 0 < a → P w tgt lv st) (kf : a = 0 → P w q lv st) : P w pc lv (.int (nI a) :: st) := pw_if_gt hX hd hq ht (fun h => kt ((nI_ltI (by decide) ha).mp (by rw [nI_0]; exact h))) (fun h => kf (Nat.eq_zero_of_not_pos (fun z => h (by rw [← nI_0]; exact (nI_ltI (by decide) ha).mpr z))))
theorem inc1 (i : Nat) : nI i + Int32.ofInt 1 = nI (i + 1) := by rw [show Int32.ofInt 1 = nI 1 by decide, nI_add]
theorem pw_goto {l : Launch} {g : Geo} {own : String} {cc : ByteArray} {rm : Room} {nL : Nat} {ret : Option FieldType} {fin : Option Value → WD → Prop} {X : Nat → Nat → (Nat → Int32) → Prop} {P : PT} (hX : Gd l g own cc rm nL ret fin X P) {w : WD} {pc : Nat} {lv : List (Option Value)} {st : List Value} {off : Int} {tgt : Nat} (hd : decode cc pc = .ok (.goto off, 3)) (ht : (pc : Int) + off = (tgt : Int)) (kk : P w tgt lv st) : P w pc lv st := by
  obtain ⟨p, e, s, m, args, below, meth, c, cells, slots, Q, A, rfl, hx, hb, hml, hown, hTB, hNL, hK, hG, hcs, hScr, hri, hrv⟩ := hX
  intro H locs ls hP hS hl
  exact lv_goto hx hb hd ht (kk H locs ls hP hS hl)
theorem pw_lookup {l : Launch} {g : Geo} {own : String} {cc : ByteArray} {rm : Room} {nL : Nat} {ret : Option FieldType} {fin : Option Value → WD → Prop} {X : Nat → Nat → (Nat → Int32) → Prop} {P : PT} (hX : Gd l g own cc rm nL ret fin X P) {w : WD} {pc : Nat} {lv : List (Option Value)} {st : List Value} {dflt : Int} {ps : Array (Int × Int)} {len : Nat} {x : Int32} {off : Int} {tgt : Nat} (hd : decode cc pc = .ok (.lookupswitch dflt ps, len)) (hp : (ps.toList.zip (ps.toList.drop 1)).all (fun (a, next) => a.1 < next.1) = true) (ho : Op.lookupswitch.offset ps.toList dflt x.toInt = off) (ht : (pc : Int) + off = (tgt : Int)) (kk : P w tgt lv st) : P w pc lv (.int x :: st) := by
  obtain ⟨p, e, s, m, args, below, meth, c, cells, slots, Q, A, rfl, hx, hb, hml, hown, hTB, hNL, hK, hG, hcs, hScr, hri, hrv⟩ := hX
  intro H locs ls hP hS hl
  exact lv_lookup hx hb hd hp ho ht (kk H locs ls hP hS hl)
theorem pw_tabOut {l : Launch} {g : Geo} {own : String} {cc : ByteArray} {rm : Room} {nL : Nat} {ret : Option FieldType} {fin : Option Value → WD → Prop} {X : Nat → Nat → (Nat → Int32) → Prop} {P : PT} (hX : Gd l g own cc rm nL ret fin X P) {w : WD} {pc : Nat} {lv : List (Option Value)} {st : List Value} {dflt lo hi : Int} {offs : Array Int} {len : Nat} {x : Int32} {tgt : Nat} (hd : decode cc pc = .ok (.tableswitch dflt lo hi offs, len)) (h : x.toInt < lo ∨ hi < x.toInt) (ht : (pc : Int) + dflt = (tgt : Int)) (kk : P w tgt lv st) : P w pc lv (.int x :: st) := by
  obtain ⟨p, e, s, m, args, below, meth, c, cells, slots, Q, A, rfl, hx, hb, hml, hown, hTB, hNL, hK, hG, hcs, hScr, hri, hrv⟩ := hX
  intro H locs ls hP hS hl
  exact lv_tableOut hx hb hd h ht (kk H locs ls hP hS hl)
theorem pw_tabIn {l : Launch} {g : Geo} {own : String} {cc : ByteArray} {rm : Room} {nL : Nat} {ret : Option FieldType} {fin : Option Value → WD → Prop} {X : Nat → Nat → (Nat → Int32) → Prop} {P : PT} (hX : Gd l g own cc rm nL ret fin X P) {w : WD} {pc : Nat} {lv : List (Option Value)} {st : List Value} {dflt lo hi : Int} {offs : Array Int} {len : Nat} {x : Int32} {off : Int} {tgt : Nat} (hd : decode cc pc = .ok (.tableswitch dflt lo hi offs, len)) (h1 : ¬ x.toInt < lo) (h2 : ¬ hi < x.toInt) (ho : offs[(x.toInt - lo).toNat]? = some off) (ht : (pc : Int) + off = (tgt : Int)) (kk : P w tgt lv st) : P w pc lv (.int x :: st) := by
  obtain ⟨p, e, s, m, args, below, meth, c, cells, slots, Q, A, rfl, hx, hb, hml, hown, hTB, hNL, hK, hG, hcs, hScr, hri, hrv⟩ := hX
  intro H locs ls hP hS hl
  exact lv_tableIn hx hb hd h1 h2 ho ht (kk H locs ls hP hS hl)
theorem pw_ireturn {l : Launch} {g : Geo} {own : String} {cc : ByteArray} {rm : Room} {nL : Nat} {ret : Option FieldType} {fin : Option Value → WD → Prop} {X : Nat → Nat → (Nat → Int32) → Prop} {P : PT} (hX : Gd l g own cc rm nL ret fin X P) {w : WD} {pc : Nat} {lv : List (Option Value)} {v : Int32} (hd : decode cc pc = .ok (.ireturn, 1)) (hr : ∃ ty, ret = some ty ∧ narrow ty (.int v) = .int v) (hf : fin (some (.int v)) w) : P w pc lv [.int v] := by
  obtain ⟨p, e, s, m, args, below, meth, c, cells, slots, Q, A, rfl, hx, hb, hml, hown, hTB, hNL, hK, hG, hcs, hScr, hri, hrv⟩ := hX
  exact hri w pc lv v hd hr hf
theorem pw_return {l : Launch} {g : Geo} {own : String} {cc : ByteArray} {rm : Room} {nL : Nat} {ret : Option FieldType} {fin : Option Value → WD → Prop} {X : Nat → Nat → (Nat → Int32) → Prop} {P : PT} (hX : Gd l g own cc rm nL ret fin X P) {w : WD} {pc : Nat} {lv : List (Option Value)} (hd : decode cc pc = .ok (.return_, 1)) (hr : ret = none) (hf : fin none w) : P w pc lv [] := by
  obtain ⟨p, e, s, m, args, below, meth, c, cells, slots, Q, A, rfl, hx, hb, hml, hown, hTB, hNL, hK, hG, hcs, hScr, hri, hrv⟩ := hX
  exact hrv w pc lv hd hr hf
theorem wl_o (g : Geo) (w : WD) {o : Nat} (h : (o, 0) ∈ g_dm g) : ∃ i : Nat, (g_dm g)[i]? = some (o, 0) ∧ (g_wl g w)[i]? = some (g_ad g o 0, .inr (g_ci o, g_fs g w o)) := by
  obtain ⟨i, h1, h2⟩ := wl_at g h
  exact ⟨i, h1, by rw [h2 w]; rfl⟩
theorem wl_a (g : Geo) (w : WD) {o k : Nat} (h : (o, k) ∈ g_dm g) (hk : k ≠ 0) (h8 : o ≠ 8) : ∃ i : Nat, (g_dm g)[i]? = some (o, k) ∧ (g_wl g w)[i]? = some (g_ad g o k, .inl ((if g_ch o k = true then g.2.2.2.1 else g.2.2.1), g_ln o k, .inl (fun j => nI (w.1 o k j)))) := by
  obtain ⟨i, h1, h2⟩ := wl_at g h
  refine ⟨i, h1, ?_⟩
  rw [h2 w]
  simp only [g_cell, if_neg hk, if_neg h8]
theorem pw_getf {l : Launch} {g : Geo} {own : String} {cc : ByteArray} {rm : Room} {nL : Nat} {ret : Option FieldType} {fin : Option Value → WD → Prop} {X : Nat → Nat → (Nat → Int32) → Prop} {P : PT} (hX : Gd l g own cc rm nL ret fin X P) {w : WD} {pc q : Nat} {lv : List (Option Value)} {st : List Value} {o k index ci N : Nat} {C : String} {T : u_T} {v : Value} (ho : (o, 0) ∈ g_dm g) (hci : g_ci o = ci) (hc : vwCl[ci]? = some (C, T, N)) (hin : ∀ w ∈ u_ws C T N, w ∈ TB) (hk : k < N) (hlink : Cond.fieldLink own index (T k).1 (T k).2.1 (T k).2.2.1 ∈ TB) (hv : (g_fs g w o)[k]? = some v) (hd : decode cc pc = .ok (.getfield index, 3)) (hq : pc + 3 = q) (kk : P w q lv (v :: st)) : P w pc lv (.ref (g_ad g o 0) :: st) := by
  obtain ⟨p, e, s, m, args, below, meth, c, cells, slots, Q, A, rfl, hx, hb, hml, hown, hTB, hNL, hK, hG, hcs, hScr, hri, hrv⟩ := hX
  subst hq
  intro H locs ls hP hS hl
  subst hci
  obtain ⟨i, -, hi⟩ := wl_o g w ho
  exact va_get hx hb hTB hin hown hK hP i hi hc k hk (hTB _ hlink) (fun _ h => h) hv hd (kk H locs ls hP hS hl)
theorem pw_getfN {l : Launch} {g : Geo} {own : String} {cc : ByteArray} {rm : Room} {nL : Nat} {ret : Option FieldType} {fin : Option Value → WD → Prop} {X : Nat → Nat → (Nat → Int32) → Prop} {P : PT} (hX : Gd l g own cc rm nL ret fin X P) {w : WD} {pc q : Nat} {lv : List (Option Value)} {st : List Value} {o k index ci N : Nat} {C host : String} {T : u_T} {v : Value} (ho : (o, 0) ∈ g_dm g) (hci : g_ci o = ci) (hc : vwCl[ci]? = some (C, T, N)) (hin : ∀ w ∈ u_ws C T N, w ∈ TB) (hk : k < N) (hlink : Cond.fieldLinkNest own index (T k).1 (T k).2.1 (T k).2.2.1 host ∈ NL) (hv : (g_fs g w o)[k]? = some v) (hd : decode cc pc = .ok (.getfield index, 3)) (hq : pc + 3 = q) (kk : P w q lv (v :: st)) : P w pc lv (.ref (g_ad g o 0) :: st) := by
  obtain ⟨p, e, s, m, args, below, meth, c, cells, slots, Q, A, rfl, hx, hb, hml, hown, hTB, hNL, hK, hG, hcs, hScr, hri, hrv⟩ := hX
  subst hq
  intro H locs ls hP hS hl
  subst hci
  obtain ⟨i, -, hi⟩ := wl_o g w ho
  exact va_getN hx hb hTB hin hown hK hP i hi hc k hk (va_Nw.use rfl (hNL _ hlink)) (fun _ h => h) hv hd (kk H locs ls hP hS hl)
theorem pw_putf {l : Launch} {g : Geo} {own : String} {cc : ByteArray} {rm : Room} {nL : Nat} {ret : Option FieldType} {fin : Option Value → WD → Prop} {X : Nat → Nat → (Nat → Int32) → Prop} {P : PT} (hX : Gd l g own cc rm nL ret fin X P) {w : WD} {pc q : Nat} {lv : List (Option Value)} {st : List Value} {o k index ci N : Nat} {C : String} {T : u_T} {x : Nat} (ty0 : Nat → FieldType) (hty : ∀ k, k < N → parseFieldDescriptor (T k).2.2.1 = some (ty0 k)) (hnm : ∀ a, a < N → ∀ b, b < N → a ≠ b → (T a).2.1 ≠ (T b).2.1) (ho : (o, 0) ∈ g_dm g) (hci : g_ci o = ci) (hc : vwCl[ci]? = some (C, T, N)) (hin : ∀ w ∈ u_ws C T N, w ∈ TB) (hk : k < N) (hlink : Cond.fieldLink own index (T k).1 (T k).2.1 (T k).2.2.1 ∈ TB) (hfin : (T k).2.2.2 = false) (hd0 : parseFieldDescriptor (T k).2.2.1 = some .int) (hfs : g_fs g (wA w o 0 (upN (w.1 o 0) k x)) o = (g_fs g w o).set k (.int (nI x))) (hln : k < (g_fs g w o).length) (hd : decode cc pc = .ok (.putfield index, 3)) (hq : pc + 3 = q) (kk : P (wA w o 0 (upN (w.1 o 0) k x)) q lv (st)) : P w pc lv (.int (nI x) :: .ref (g_ad g o 0) :: st) := by
  obtain ⟨p, e, s, m, args, below, meth, c, cells, slots, Q, A, rfl, hx, hb, hml, hown, hTB, hNL, hK, hG, hcs, hScr, hri, hrv⟩ := hX
  subst hq
  intro H locs ls hP hS hl
  subst hci
  obtain ⟨i, h1, hi⟩ := wl_o g w ho
  refine va_put hx hb hTB hin ty0 hty hnm hown hK hP (g_D hG.1 hG.2 w) hS i hi hc k hk (hTB _ hlink) (fun _ h => h) hfin hd0 rfl rfl hln hd (fun H1 locs1 hP1 _ hS1 => kk H1 locs1 ls ?_ hS1 hl)
  have e := wl_set (g := g) (w := w) (w' := wA w o 0 (upN (w.1 o 0) k x)) (q := (o, 0)) h1 (fun o' k' _ h => cell_wA h) (e := .inr (g_ci o, (g_fs g w o).set k (.int (nI x)))) (by simp only [g_cell, if_pos]; rw [hfs])
  rw [← e]; exact hP1
theorem pw_putfN {l : Launch} {g : Geo} {own : String} {cc : ByteArray} {rm : Room} {nL : Nat} {ret : Option FieldType} {fin : Option Value → WD → Prop} {X : Nat → Nat → (Nat → Int32) → Prop} {P : PT} (hX : Gd l g own cc rm nL ret fin X P) {w : WD} {pc q : Nat} {lv : List (Option Value)} {st : List Value} {o k index ci N : Nat} {C host : String} {T : u_T} {x : Nat} (ty0 : Nat → FieldType) (hty : ∀ k, k < N → parseFieldDescriptor (T k).2.2.1 = some (ty0 k)) (hnm : ∀ a, a < N → ∀ b, b < N → a ≠ b → (T a).2.1 ≠ (T b).2.1) (ho : (o, 0) ∈ g_dm g) (hci : g_ci o = ci) (hc : vwCl[ci]? = some (C, T, N)) (hin : ∀ w ∈ u_ws C T N, w ∈ TB) (hk : k < N) (hlink : Cond.fieldLinkNest own index (T k).1 (T k).2.1 (T k).2.2.1 host ∈ NL) (hfin : (T k).2.2.2 = false) (hd0 : parseFieldDescriptor (T k).2.2.1 = some .int) (hfs : g_fs g (wA w o 0 (upN (w.1 o 0) k x)) o = (g_fs g w o).set k (.int (nI x))) (hln : k < (g_fs g w o).length) (hd : decode cc pc = .ok (.putfield index, 3)) (hq : pc + 3 = q) (kk : P (wA w o 0 (upN (w.1 o 0) k x)) q lv (st)) : P w pc lv (.int (nI x) :: .ref (g_ad g o 0) :: st) := by
  obtain ⟨p, e, s, m, args, below, meth, c, cells, slots, Q, A, rfl, hx, hb, hml, hown, hTB, hNL, hK, hG, hcs, hScr, hri, hrv⟩ := hX
  subst hq
  intro H locs ls hP hS hl
  subst hci
  obtain ⟨i, h1, hi⟩ := wl_o g w ho
  refine va_putN hx hb hTB hin ty0 hty hnm hown hK hP (g_D hG.1 hG.2 w) hS i hi hc k hk (va_Nw.use rfl (hNL _ hlink)) (fun _ h => h) hfin hd0 rfl rfl hln hd (fun H1 locs1 hP1 _ hS1 => kk H1 locs1 ls ?_ hS1 hl)
  have e := wl_set (g := g) (w := w) (w' := wA w o 0 (upN (w.1 o 0) k x)) (q := (o, 0)) h1 (fun o' k' _ h => cell_wA h) (e := .inr (g_ci o, (g_fs g w o).set k (.int (nI x)))) (by simp only [g_cell, if_pos]; rw [hfs])
  rw [← e]; exact hP1
theorem g_ln_le (o k : Nat) : g_ln o k ≤ 3252 := by
  unfold g_ln lnV lnM
  repeat' split
  all_goals omega
theorem nIc {i : Nat} (h : i < 3252) : (nI i).toNatClampNeg = i := nI_clamp (by omega)
theorem pw_iald {l : Launch} {g : Geo} {own : String} {cc : ByteArray} {rm : Room} {nL : Nat} {ret : Option FieldType} {fin : Option Value → WD → Prop} {X : Nat → Nat → (Nat → Int32) → Prop} {P : PT} (hX : Gd l g own cc rm nL ret fin X P) {w : WD} {pc q : Nat} {lv : List (Option Value)} {st : List Value} {o k i : Nat} (hz : (o, k) ∈ g_dm g) (hk : k ≠ 0) (h8 : o ≠ 8) (hch : g_ch o k = false) (hlt : i < g_ln o k) (hd : decode cc pc = .ok (.iaload, 1)) (hq : pc + 1 = q) (kk : P w q lv (.int (nI (w.1 o k i)) :: st)) : P w pc lv (.int (nI i) :: .ref (g_ad g o k) :: st) := by
  obtain ⟨p, e, s, m, args, below, meth, c, cells, slots, Q, A, rfl, hx, hb, hml, hown, hTB, hNL, hK, hG, hcs, hScr, hri, hrv⟩ := hX
  subst hq
  intro H locs ls hP hS hl
  obtain ⟨j, -, hj⟩ := wl_a g w hz hk h8
  rw [hch] at hj
  refine va_iald hx hb hK hP j 0 (i := nI i) hj rfl (vp_in_nI hlt (Nat.lt_of_le_of_lt (g_ln_le o k) (by decide))) hd ?_
  rw [nIc (Nat.lt_of_lt_of_le hlt (g_ln_le o k))]
  exact kk H locs ls hP hS hl
theorem pw_iast {l : Launch} {g : Geo} {own : String} {cc : ByteArray} {rm : Room} {nL : Nat} {ret : Option FieldType} {fin : Option Value → WD → Prop} {X : Nat → Nat → (Nat → Int32) → Prop} {P : PT} (hX : Gd l g own cc rm nL ret fin X P) {w : WD} {pc q : Nat} {lv : List (Option Value)} {st : List Value} {o k i : Nat} (hz : (o, k) ∈ g_dm g) (hk : k ≠ 0) (h8 : o ≠ 8) (hch : g_ch o k = false) (hlt : i < g_ln o k) {x : Nat} (hd : decode cc pc = .ok (.iastore, 1)) (hq : pc + 1 = q) (kk : P (wA w o k (upN (w.1 o k) i x)) q lv (st)) : P w pc lv (.int (nI x) :: .int (nI i) :: .ref (g_ad g o k) :: st) := by
  obtain ⟨p, e, s, m, args, below, meth, c, cells, slots, Q, A, rfl, hx, hb, hml, hown, hTB, hNL, hK, hG, hcs, hScr, hri, hrv⟩ := hX
  subst hq
  intro H locs ls hP hS hl
  obtain ⟨j, h1, hj⟩ := wl_a g w hz hk h8
  rw [hch] at hj
  refine va_iast hx hb hK hP (g_D hG.1 hG.2 w) hS j 0 hj rfl (vp_in_nI hlt (Nat.lt_of_le_of_lt (g_ln_le o k) (by decide))) hd (fun H1 locs1 hP1 _ hS1 => kk H1 locs1 ls ?_ hS1 hl)
  rw [nIc (Nat.lt_of_lt_of_le hlt (g_ln_le o k)), upN_I] at hP1
  have e := wl_set (g := g) (w := w) (w' := wA w o k (upN (w.1 o k) i x)) (q := (o, k)) h1 (fun o' k' _ h => cell_wA h) (e := .inl (_, g_ln o k, .inl (fun j => nI (upN (w.1 o k) i x j)))) (by simp only [g_cell, if_neg hk, if_neg h8, wA_s, hch]; rfl)
  rw [← e]; exact hP1
theorem pw_cald {l : Launch} {g : Geo} {own : String} {cc : ByteArray} {rm : Room} {nL : Nat} {ret : Option FieldType} {fin : Option Value → WD → Prop} {X : Nat → Nat → (Nat → Int32) → Prop} {P : PT} (hX : Gd l g own cc rm nL ret fin X P) {w : WD} {pc q : Nat} {lv : List (Option Value)} {st : List Value} {o k i : Nat} (hz : (o, k) ∈ g_dm g) (hk : k ≠ 0) (h8 : o ≠ 8) (hch : g_ch o k = true) (hlt : i < g_ln o k) (hd : decode cc pc = .ok (.caload, 1)) (hq : pc + 1 = q) (kk : P w q lv (.int (nI (w.1 o k i)) :: st)) : P w pc lv (.int (nI i) :: .ref (g_ad g o k) :: st) := by
  obtain ⟨p, e, s, m, args, below, meth, c, cells, slots, Q, A, rfl, hx, hb, hml, hown, hTB, hNL, hK, hG, hcs, hScr, hri, hrv⟩ := hX
  subst hq
  intro H locs ls hP hS hl
  obtain ⟨j, -, hj⟩ := wl_a g w hz hk h8
  rw [hch] at hj
  refine va_cald hx hb hK hP j 1 (i := nI i) hj rfl (vp_in_nI hlt (Nat.lt_of_le_of_lt (g_ln_le o k) (by decide))) hd ?_
  rw [nIc (Nat.lt_of_lt_of_le hlt (g_ln_le o k))]
  exact kk H locs ls hP hS hl
theorem pw_cast {l : Launch} {g : Geo} {own : String} {cc : ByteArray} {rm : Room} {nL : Nat} {ret : Option FieldType} {fin : Option Value → WD → Prop} {X : Nat → Nat → (Nat → Int32) → Prop} {P : PT} (hX : Gd l g own cc rm nL ret fin X P) {w : WD} {pc q : Nat} {lv : List (Option Value)} {st : List Value} {o k i : Nat} (hz : (o, k) ∈ g_dm g) (hk : k ≠ 0) (h8 : o ≠ 8) (hch : g_ch o k = true) (hlt : i < g_ln o k) {x : Nat} (hxc : x < 65536) (hd : decode cc pc = .ok (.castore, 1)) (hq : pc + 1 = q) (kk : P (wA w o k (upN (w.1 o k) i x)) q lv (st)) : P w pc lv (.int (nI x) :: .int (nI i) :: .ref (g_ad g o k) :: st) := by
  obtain ⟨p, e, s, m, args, below, meth, c, cells, slots, Q, A, rfl, hx, hb, hml, hown, hTB, hNL, hK, hG, hcs, hScr, hri, hrv⟩ := hX
  subst hq
  intro H locs ls hP hS hl
  have hnar : vp_nar .char (nI x) = nI x := by have hh := (pk_charN hxc).1; unfold vp_nar; rw [hh]
  obtain ⟨j, h1, hj⟩ := wl_a g w hz hk h8
  rw [hch] at hj
  refine va_cast hx hb hK hP (g_D hG.1 hG.2 w) hS j 1 hj rfl (vp_in_nI hlt (Nat.lt_of_le_of_lt (g_ln_le o k) (by decide))) hd (fun H1 locs1 hP1 _ hS1 => kk H1 locs1 ls ?_ hS1 hl)
  rw [hnar] at hP1
  rw [nIc (Nat.lt_of_lt_of_le hlt (g_ln_le o k)), upN_I] at hP1
  have e := wl_set (g := g) (w := w) (w' := wA w o k (upN (w.1 o k) i x)) (q := (o, k)) h1 (fun o' k' _ h => cell_wA h) (e := .inl (_, g_ln o k, .inl (fun j => nI (upN (w.1 o k) i x j)))) (by simp only [g_cell, if_neg hk, if_neg h8, wA_s, hch]; rfl)
  rw [← e]; exact hP1
theorem dm8 {g : Geo} {k : Nat} (h : (8, k) ∈ g_dm g) : k < 2 := by
  have h0 : g_dF.all (fun q => decide (q.1 = 8 → q.2 < 2)) = true := by decide +kernel
  exact of_decide_eq_true (List.all_eq_true.mp h0 _ (dmF h)) rfl
theorem wl_h (g : Geo) (w : WD) : ∃ i : Nat, (g_dm g)[i]? = some (8, 1) ∧ (g_wl g w)[i]? = some (g_ad g 8 1, .inl (g.2.2.2.2.1, 5, .inr (.inr (.inr (.inr (fun i => some (g_ad g (w.2 i) 0))))))) := by
  obtain ⟨i, h1, h2⟩ := wl_at g (q := (8, 1)) (dmb (by decide))
  exact ⟨i, h1, by rw [h2 w]; rfl⟩
theorem pw_aald {l : Launch} {g : Geo} {own : String} {cc : ByteArray} {rm : Room} {nL : Nat} {ret : Option FieldType} {fin : Option Value → WD → Prop} {X : Nat → Nat → (Nat → Int32) → Prop} {P : PT} (hX : Gd l g own cc rm nL ret fin X P) {w : WD} {pc q : Nat} {lv : List (Option Value)} {st : List Value} {i : Nat} (hlt : i < 5) (hd : decode cc pc = .ok (.aaload, 1)) (hq : pc + 1 = q) (kk : P w q lv (.ref (g_ad g (w.2 i) 0) :: st)) : P w pc lv (.int (nI i) :: .ref (g_ad g 8 1) :: st) := by
  obtain ⟨p, e, s, m, args, below, meth, c, cells, slots, Q, A, rfl, hx, hb, hml, hown, hTB, hNL, hK, hG, hcs, hScr, hri, hrv⟩ := hX
  subst hq
  intro H locs ls hP hS hl
  obtain ⟨j, -, hj⟩ := wl_h g w
  refine va_aldq hx hb hK hP j 2 (i := nI i) hj rfl (vp_in_nI hlt (by decide)) hd ?_
  rw [nIc (by omega)]
  exact kk H locs ls hP hS hl
theorem pw_aast {l : Launch} {g : Geo} {own : String} {cc : ByteArray} {rm : Room} {nL : Nat} {ret : Option FieldType} {fin : Option Value → WD → Prop} {X : Nat → Nat → (Nat → Int32) → Prop} {P : PT} (hX : Gd l g own cc rm nL ret fin X P) {w : WD} {pc q : Nat} {lv : List (Option Value)} {st : List Value} {i v : Nat} (hlt : i < 5) (hv : v < 7) (hd : decode cc pc = .ok (.aastore, 1)) (hq : pc + 1 = q) (kk : P (wH w i v) q lv (st)) : P w pc lv (.ref (g_ad g v 0) :: .int (nI i) :: .ref (g_ad g 8 1) :: st) := by
  obtain ⟨p, e, s, m, args, below, meth, c, cells, slots, Q, A, rfl, hx, hb, hml, hown, hTB, hNL, hK, hG, hcs, hScr, hri, hrv⟩ := hX
  subst hq
  intro H locs ls hP hS hl
  obtain ⟨j, h1, hj⟩ := wl_h g w
  obtain ⟨jv, -, hjv⟩ := wl_o g w (dmV hv (k := 0) (by decide))
  have hc2 : g_ci v = 2 := by simp only [g_ci, if_pos hv]
  rw [hc2] at hjv
  refine va_astq hx hb hK hP (g_D hG.1 hG.2 w) hS j 2 jv 2 (r := (RX2, TX2, 15)) hj rfl hjv rfl (vp_in_nI hlt (by decide)) hd (fun H1 locs1 hP1 _ hS1 => kk H1 locs1 ls ?_ hS1 hl)
  rw [nIc (by omega)] at hP1
  have e := wl_set (g := g) (w := w) (w' := wH w i v) (q := (8, 1)) h1 (fun o' k' hm h => by
    by_cases h8 : o' = 8
    · subst h8; exact cell_wH h (Or.inl (dm8 hm))
    · exact cell_wH h (Or.inr h8)) (e := .inl (g.2.2.2.2.1, 5, .inr (.inr (.inr (.inr (va_up (fun i => some (g_ad g (w.2 i) 0)) i (some (g_ad g v 0)))))))) (by
    simp only [g_cell, wH]
    simp
    funext b
    by_cases hb : b = i
    · subst hb; simp [va_up]
    · simp [va_up, hb])
  rw [← e]; exact hP1
end
section
theorem ciV {o : Nat} (h : o < 7) : g_ci o = 2 := by simp only [g_ci, if_pos h]
theorem fs_V (g : Geo) (w : WD) {o : Nat} (h : o < 7) : g_fs g w o = fsV g w o := by simp only [g_fs, if_pos h]
theorem fs_Vput (g : Geo) (w : WD) {o k : Nat} (h : o < 7) (hk : k < 4) (x : Nat) : g_fs g (wA w o 0 (upN (w.1 o 0) k x)) o = (g_fs g w o).set k (.int (nI x)) := by
  rw [fs_V g _ h, fs_V g _ h]
  rcases (show k = 0 ∨ k = 1 ∨ k = 2 ∨ k = 3 by omega) with rfl | rfl | rfl | rfl <;> simp [fsV, wA_s, upN]
theorem fs_Oput (g : Geo) (w : WD) {k : Nat} (hk : k = 1 ∨ k = 3 ∨ k = 4 ∨ k = 5) (x : Nat) : g_fs g (wA w 7 0 (upN (w.1 7 0) k x)) 7 = (g_fs g w 7).set k (.int (nI x)) := by
  rcases hk with rfl | rfl | rfl | rfl <;> simp [g_fs, fsO, wA_s, upN]
theorem fs_Hput (g : Geo) (w : WD) {k : Nat} (hk : k = 1) (x : Nat) : g_fs g (wA w 8 0 (upN (w.1 8 0) k x)) 8 = (g_fs g w 8).set k (.int (nI x)) := by
  subst hk; simp [g_fs, fsH, wA_s, upN]
theorem fs_len (g : Geo) (w : WD) {o : Nat} (h : o < 7) : (g_fs g w o).length = 15 := by rw [fs_V g w h]; rfl
theorem pw_getV {l : Launch} {g : Geo} {own : String} {cc : ByteArray} {rm : Room} {nL : Nat} {ret : Option FieldType} {fin : Option Value → WD → Prop} {X : Nat → Nat → (Nat → Int32) → Prop} {P : PT} (hX : Gd l g own cc rm nL ret fin X P) {w : WD} {pc q : Nat} {lv : List (Option Value)} {st : List Value} {o : Nat} (ho : o < 7) (k : Nat) {v : Value} {index : Nat} (hk : k < 15) (hlink : Cond.fieldLink own index (TX2 k).1 (TX2 k).2.1 (TX2 k).2.2.1 ∈ TB) (hv : (fsV g w o)[k]? = some v) (hd : decode cc pc = .ok (.getfield index, 3)) (hq : pc + 3 = q) (kk : P w q lv (v :: st)) : P w pc lv (.ref (g_ad g o 0) :: st) := pw_getf hX (dmV ho (by decide)) (ciV ho) rfl inT_X2 hk hlink (by rw [fs_V g w ho]; exact hv) hd hq kk
theorem pw_getVN {l : Launch} {g : Geo} {own : String} {cc : ByteArray} {rm : Room} {nL : Nat} {ret : Option FieldType} {fin : Option Value → WD → Prop} {X : Nat → Nat → (Nat → Int32) → Prop} {P : PT} (hX : Gd l g own cc rm nL ret fin X P) {w : WD} {pc q : Nat} {lv : List (Option Value)} {st : List Value} {o : Nat} (ho : o < 7) (k : Nat) {v : Value} {index : Nat} {host : String} (hk : k < 15) (hlink : Cond.fieldLinkNest own index (TX2 k).1 (TX2 k).2.1 (TX2 k).2.2.1 host ∈ NL) (hv : (fsV g w o)[k]? = some v) (hd : decode cc pc = .ok (.getfield index, 3)) (hq : pc + 3 = q) (kk : P w q lv (v :: st)) : P w pc lv (.ref (g_ad g o 0) :: st) := pw_getfN hX (dmV ho (by decide)) (ciV ho) rfl inT_X2 hk hlink (by rw [fs_V g w ho]; exact hv) hd hq kk
theorem pw_putV {l : Launch} {g : Geo} {own : String} {cc : ByteArray} {rm : Room} {nL : Nat} {ret : Option FieldType} {fin : Option Value → WD → Prop} {X : Nat → Nat → (Nat → Int32) → Prop} {P : PT} (hX : Gd l g own cc rm nL ret fin X P) {w : WD} {pc q : Nat} {lv : List (Option Value)} {st : List Value} {o : Nat} (ho : o < 7) (k : Nat) {x : Nat} {index : Nat} (hk : k < 4) (hlink : Cond.fieldLink own index (TX2 k).1 (TX2 k).2.1 (TX2 k).2.2.1 ∈ TB) (hd : decode cc pc = .ok (.putfield index, 3)) (hq : pc + 3 = q) (kk : P (wA w o 0 (upN (w.1 o 0) k x)) q lv st) : P w pc lv (.int (nI x) :: .ref (g_ad g o 0) :: st) := by
  have hf : (TX2 k).2.2.2 = false := by rcases (show k = 0 ∨ k = 1 ∨ k = 2 ∨ k = 3 by omega) with rfl | rfl | rfl | rfl <;> rfl
  have hf2 : parseFieldDescriptor (TX2 k).2.2.1 = some .int := by rcases (show k = 0 ∨ k = 1 ∨ k = 2 ∨ k = 3 by omega) with rfl | rfl | rfl | rfl <;> decide +kernel
  exact pw_putf hX tyX2 tyX2_ok nmX2 (dmV ho (by decide)) (ciV ho) rfl inT_X2 (by omega) hlink hf hf2 (fs_Vput g w ho hk x) (by rw [fs_len g w ho]; omega) hd hq kk
theorem pw_getO {l : Launch} {g : Geo} {own : String} {cc : ByteArray} {rm : Room} {nL : Nat} {ret : Option FieldType} {fin : Option Value → WD → Prop} {X : Nat → Nat → (Nat → Int32) → Prop} {P : PT} (hX : Gd l g own cc rm nL ret fin X P) {w : WD} {pc q : Nat} {lv : List (Option Value)} {st : List Value} (k : Nat) {v : Value} {index : Nat} (hk : k < 6) (hlink : Cond.fieldLink own index (TX1 k).1 (TX1 k).2.1 (TX1 k).2.2.1 ∈ TB) (hv : (fsO g w)[k]? = some v) (hd : decode cc pc = .ok (.getfield index, 3)) (hq : pc + 3 = q) (kk : P w q lv (v :: st)) : P w pc lv (.ref (g_ad g 7 0) :: st) := pw_getf hX (dmb (by decide)) rfl rfl inT_X1 hk hlink hv hd hq kk
theorem pw_getON {l : Launch} {g : Geo} {own : String} {cc : ByteArray} {rm : Room} {nL : Nat} {ret : Option FieldType} {fin : Option Value → WD → Prop} {X : Nat → Nat → (Nat → Int32) → Prop} {P : PT} (hX : Gd l g own cc rm nL ret fin X P) {w : WD} {pc q : Nat} {lv : List (Option Value)} {st : List Value} (k : Nat) {v : Value} {index : Nat} {host : String} (hk : k < 6) (hlink : Cond.fieldLinkNest own index (TX1 k).1 (TX1 k).2.1 (TX1 k).2.2.1 host ∈ NL) (hv : (fsO g w)[k]? = some v) (hd : decode cc pc = .ok (.getfield index, 3)) (hq : pc + 3 = q) (kk : P w q lv (v :: st)) : P w pc lv (.ref (g_ad g 7 0) :: st) := pw_getfN hX (dmb (by decide)) rfl rfl inT_X1 hk hlink hv hd hq kk
theorem pw_putO {l : Launch} {g : Geo} {own : String} {cc : ByteArray} {rm : Room} {nL : Nat} {ret : Option FieldType} {fin : Option Value → WD → Prop} {X : Nat → Nat → (Nat → Int32) → Prop} {P : PT} (hX : Gd l g own cc rm nL ret fin X P) {w : WD} {pc q : Nat} {lv : List (Option Value)} {st : List Value} (k : Nat) {x : Nat} {index : Nat} (hk : k = 1 ∨ k = 3 ∨ k = 4 ∨ k = 5) (hlink : Cond.fieldLink own index (TX1 k).1 (TX1 k).2.1 (TX1 k).2.2.1 ∈ TB) (hd : decode cc pc = .ok (.putfield index, 3)) (hq : pc + 3 = q) (kk : P (wA w 7 0 (upN (w.1 7 0) k x)) q lv st) : P w pc lv (.int (nI x) :: .ref (g_ad g 7 0) :: st) := by
  have hf : (TX1 k).2.2.2 = false := by rcases hk with rfl | rfl | rfl | rfl <;> rfl
  have hf2 : parseFieldDescriptor (TX1 k).2.2.1 = some .int := by rcases hk with rfl | rfl | rfl | rfl <;> decide +kernel
  exact pw_putf hX tyX1 tyX1_ok nmX1 (dmb (by decide)) rfl rfl inT_X1 (by omega) hlink hf hf2 (fs_Oput g w hk x) (by show k < 6; omega) hd hq kk
theorem pw_putON {l : Launch} {g : Geo} {own : String} {cc : ByteArray} {rm : Room} {nL : Nat} {ret : Option FieldType} {fin : Option Value → WD → Prop} {X : Nat → Nat → (Nat → Int32) → Prop} {P : PT} (hX : Gd l g own cc rm nL ret fin X P) {w : WD} {pc q : Nat} {lv : List (Option Value)} {st : List Value} (k : Nat) {x : Nat} {index : Nat} {host : String} (hk : k = 1 ∨ k = 3 ∨ k = 4 ∨ k = 5) (hlink : Cond.fieldLinkNest own index (TX1 k).1 (TX1 k).2.1 (TX1 k).2.2.1 host ∈ NL) (hd : decode cc pc = .ok (.putfield index, 3)) (hq : pc + 3 = q) (kk : P (wA w 7 0 (upN (w.1 7 0) k x)) q lv st) : P w pc lv (.int (nI x) :: .ref (g_ad g 7 0) :: st) := by
  have hf : (TX1 k).2.2.2 = false := by rcases hk with rfl | rfl | rfl | rfl <;> rfl
  have hf2 : parseFieldDescriptor (TX1 k).2.2.1 = some .int := by rcases hk with rfl | rfl | rfl | rfl <;> decide +kernel
  exact pw_putfN hX tyX1 tyX1_ok nmX1 (dmb (by decide)) rfl rfl inT_X1 (by omega) hlink hf hf2 (fs_Oput g w hk x) (by show k < 6; omega) hd hq kk
theorem pw_getH {l : Launch} {g : Geo} {own : String} {cc : ByteArray} {rm : Room} {nL : Nat} {ret : Option FieldType} {fin : Option Value → WD → Prop} {X : Nat → Nat → (Nat → Int32) → Prop} {P : PT} (hX : Gd l g own cc rm nL ret fin X P) {w : WD} {pc q : Nat} {lv : List (Option Value)} {st : List Value} (k : Nat) {v : Value} {index : Nat} (hk : k < 2) (hlink : Cond.fieldLink own index (TX0 k).1 (TX0 k).2.1 (TX0 k).2.2.1 ∈ TB) (hv : (fsH g w)[k]? = some v) (hd : decode cc pc = .ok (.getfield index, 3)) (hq : pc + 3 = q) (kk : P w q lv (v :: st)) : P w pc lv (.ref (g_ad g 8 0) :: st) := pw_getf hX (dmb (by decide)) rfl rfl inT_X0 hk hlink hv hd hq kk
theorem pw_getHN {l : Launch} {g : Geo} {own : String} {cc : ByteArray} {rm : Room} {nL : Nat} {ret : Option FieldType} {fin : Option Value → WD → Prop} {X : Nat → Nat → (Nat → Int32) → Prop} {P : PT} (hX : Gd l g own cc rm nL ret fin X P) {w : WD} {pc q : Nat} {lv : List (Option Value)} {st : List Value} (k : Nat) {v : Value} {index : Nat} {host : String} (hk : k < 2) (hlink : Cond.fieldLinkNest own index (TX0 k).1 (TX0 k).2.1 (TX0 k).2.2.1 host ∈ NL) (hv : (fsH g w)[k]? = some v) (hd : decode cc pc = .ok (.getfield index, 3)) (hq : pc + 3 = q) (kk : P w q lv (v :: st)) : P w pc lv (.ref (g_ad g 8 0) :: st) := pw_getfN hX (dmb (by decide)) rfl rfl inT_X0 hk hlink hv hd hq kk
theorem pw_putH {l : Launch} {g : Geo} {own : String} {cc : ByteArray} {rm : Room} {nL : Nat} {ret : Option FieldType} {fin : Option Value → WD → Prop} {X : Nat → Nat → (Nat → Int32) → Prop} {P : PT} (hX : Gd l g own cc rm nL ret fin X P) {w : WD} {pc q : Nat} {lv : List (Option Value)} {st : List Value} (k : Nat) {x : Nat} {index : Nat} (hk : k = 1) (hlink : Cond.fieldLink own index (TX0 k).1 (TX0 k).2.1 (TX0 k).2.2.1 ∈ TB) (hd : decode cc pc = .ok (.putfield index, 3)) (hq : pc + 3 = q) (kk : P (wA w 8 0 (upN (w.1 8 0) k x)) q lv st) : P w pc lv (.int (nI x) :: .ref (g_ad g 8 0) :: st) := by
  have hf : (TX0 k).2.2.2 = false := by subst hk <;> rfl
  have hf2 : parseFieldDescriptor (TX0 k).2.2.1 = some .int := by subst hk <;> decide +kernel
  exact pw_putf hX tyX0 tyX0_ok nmX0 (dmb (by decide)) rfl rfl inT_X0 (by omega) hlink hf hf2 (fs_Hput g w hk x) (by show k < 2; omega) hd hq kk
theorem pw_getR {l : Launch} {g : Geo} {own : String} {cc : ByteArray} {rm : Room} {nL : Nat} {ret : Option FieldType} {fin : Option Value → WD → Prop} {X : Nat → Nat → (Nat → Int32) → Prop} {P : PT} (hX : Gd l g own cc rm nL ret fin X P) {w : WD} {pc q : Nat} {lv : List (Option Value)} {st : List Value} (k : Nat) {v : Value} {index : Nat} (hk : k < 4) (hlink : Cond.fieldLink own index (TX3 k).1 (TX3 k).2.1 (TX3 k).2.2.1 ∈ TB) (hv : (fsR g)[k]? = some v) (hd : decode cc pc = .ok (.getfield index, 3)) (hq : pc + 3 = q) (kk : P w q lv (v :: st)) : P w pc lv (.ref (g_ad g 10 0) :: st) := pw_getf hX (dmb (by decide)) rfl rfl inT_X3 hk hlink hv hd hq kk
theorem g_chV {o k : Nat} (h : o < 7) : g_ch o k = false := by simp [g_ch]; omega
theorem g_lnV {o k : Nat} (h : o < 7) : g_ln o k = lnV k := by simp only [g_ln, if_pos h]
theorem pw_ialdV {l : Launch} {g : Geo} {own : String} {cc : ByteArray} {rm : Room} {nL : Nat} {ret : Option FieldType} {fin : Option Value → WD → Prop} {X : Nat → Nat → (Nat → Int32) → Prop} {P : PT} (hX : Gd l g own cc rm nL ret fin X P) {w : WD} {pc q : Nat} {lv : List (Option Value)} {st : List Value} {o : Nat} (ho : o < 7) (k : Nat) {i : Nat} (hk : 1 ≤ k ∧ k < 12) (hlt : i < lnV k) (hd : decode cc pc = .ok (.iaload, 1)) (hq : pc + 1 = q) (kk : P w q lv (.int (nI (w.1 o k i)) :: st)) : P w pc lv (.int (nI i) :: .ref (g_ad g o k) :: st) := pw_iald hX (dmV ho hk.2) (by omega) (by omega) (g_chV ho) (by rw [g_lnV ho]; exact hlt) hd hq kk
theorem pw_iastV {l : Launch} {g : Geo} {own : String} {cc : ByteArray} {rm : Room} {nL : Nat} {ret : Option FieldType} {fin : Option Value → WD → Prop} {X : Nat → Nat → (Nat → Int32) → Prop} {P : PT} (hX : Gd l g own cc rm nL ret fin X P) {w : WD} {pc q : Nat} {lv : List (Option Value)} {st : List Value} {o : Nat} (ho : o < 7) (k : Nat) {i : Nat} {x : Nat} (hk : 1 ≤ k ∧ k < 12) (hlt : i < lnV k) (hd : decode cc pc = .ok (.iastore, 1)) (hq : pc + 1 = q) (kk : P (wA w o k (upN (w.1 o k) i x)) q lv (st)) : P w pc lv (.int (nI x) :: .int (nI i) :: .ref (g_ad g o k) :: st) := pw_iast hX (dmV ho hk.2) (by omega) (by omega) (g_chV ho) (by rw [g_lnV ho]; exact hlt) hd hq kk
theorem pw_ialdG {l : Launch} {g : Geo} {own : String} {cc : ByteArray} {rm : Room} {nL : Nat} {ret : Option FieldType} {fin : Option Value → WD → Prop} {X : Nat → Nat → (Nat → Int32) → Prop} {P : PT} (hX : Gd l g own cc rm nL ret fin X P) {w : WD} {pc q : Nat} {lv : List (Option Value)} {st : List Value} {i : Nat} (hlt : i < 3) (hd : decode cc pc = .ok (.iaload, 1)) (hq : pc + 1 = q) (kk : P w q lv (.int (nI (w.1 7 2 i)) :: st)) : P w pc lv (.int (nI i) :: .ref (g_ad g 7 2) :: st) := pw_iald hX (dmb (by decide)) (by decide) (by decide) rfl hlt hd hq kk
theorem pw_iastG {l : Launch} {g : Geo} {own : String} {cc : ByteArray} {rm : Room} {nL : Nat} {ret : Option FieldType} {fin : Option Value → WD → Prop} {X : Nat → Nat → (Nat → Int32) → Prop} {P : PT} (hX : Gd l g own cc rm nL ret fin X P) {w : WD} {pc q : Nat} {lv : List (Option Value)} {st : List Value} {i : Nat} {x : Nat} (hlt : i < 3) (hd : decode cc pc = .ok (.iastore, 1)) (hq : pc + 1 = q) (kk : P (wA w 7 2 (upN (w.1 7 2) i x)) q lv st) : P w pc lv (.int (nI x) :: .int (nI i) :: .ref (g_ad g 7 2) :: st) := pw_iast hX (dmb (by decide)) (by decide) (by decide) rfl hlt hd hq kk
theorem pw_caldG {l : Launch} {g : Geo} {own : String} {cc : ByteArray} {rm : Room} {nL : Nat} {ret : Option FieldType} {fin : Option Value → WD → Prop} {X : Nat → Nat → (Nat → Int32) → Prop} {P : PT} (hX : Gd l g own cc rm nL ret fin X P) {w : WD} {pc q : Nat} {lv : List (Option Value)} {st : List Value} {i : Nat} (hlt : i < 60) (hd : decode cc pc = .ok (.caload, 1)) (hq : pc + 1 = q) (kk : P w q lv (.int (nI (w.1 7 1 i)) :: st)) : P w pc lv (.int (nI i) :: .ref (g_ad g 7 1) :: st) := pw_cald hX (dmb (by decide)) (by decide) (by decide) rfl hlt hd hq kk
theorem pw_castG {l : Launch} {g : Geo} {own : String} {cc : ByteArray} {rm : Room} {nL : Nat} {ret : Option FieldType} {fin : Option Value → WD → Prop} {X : Nat → Nat → (Nat → Int32) → Prop} {P : PT} (hX : Gd l g own cc rm nL ret fin X P) {w : WD} {pc q : Nat} {lv : List (Option Value)} {st : List Value} {i : Nat} {x : Nat} (hlt : i < 60) (hxc : x < 65536) (hd : decode cc pc = .ok (.castore, 1)) (hq : pc + 1 = q) (kk : P (wA w 7 1 (upN (w.1 7 1) i x)) q lv st) : P w pc lv (.int (nI x) :: .int (nI i) :: .ref (g_ad g 7 1) :: st) := pw_cast hX (dmb (by decide)) (by decide) (by decide) rfl hlt hxc hd hq kk
def Rc (o : Nat) (C : String) : Prop := (o, 0) ∈ g_d0 ∧ ∃ r : vw_C, vwCl[g_ci o]? = some r ∧ r.1 = C
theorem rcV {o : Nat} (h : o < 7) : Rc o RX2 := ⟨d0V h (by decide), _, by rw [ciV h]; rfl, rfl⟩
theorem rcO : Rc 7 RX1 := ⟨by decide, _, rfl, rfl⟩
theorem rcH : Rc 8 RX0 := ⟨by decide, _, rfl, rfl⟩
theorem rcR : Rc 10 RX3 := ⟨by decide, _, rfl, rfl⟩
theorem ct_blind {g : Geo} {av : List Value} {w : WD} : FrameBlind (va_Pc av (fun U => va_P g.1 vwCl (g_wl g w) U.heap ∧ va_K g.1 vwCl (g_ty g) U ∧ (∀ x ∈ NL, va_Nw x U) ∧ Ginj g)) := fun a U fr mk q => by
  obtain ⟨q0, qP, qK, qN, qG⟩ := q
  exact ⟨q0, qP, va_K.moved (u := U) (U := U.calling fr mk a) (Vm.Alike.refl U.vm) qK, nl_same (s := U) (U := U.calling fr mk a) rfl qN, qG⟩
theorem ct_pre {g : Geo} {av : List Value} {w : WD} {s : State} {H : Heap} (hP : va_P g.1 vwCl (g_wl g w) H) (hK : va_K g.1 vwCl (g_ty g) s) (hN : ∀ x ∈ NL, va_Nw x s) (hG : Ginj g) : ∀ U : State, U.heap = H → s.WarmedH U.vm → va_Pc av (fun U => va_P g.1 vwCl (g_wl g w) U.heap ∧ va_K g.1 vwCl (g_ty g) U ∧ (∀ x ∈ NL, va_Nw x U) ∧ Ginj g) av.toArray U :=
  fun U hU hW => ⟨rfl, by rw [hU]; exact hP, va_K.moved hW.alike hK, nl_warm hW hN, hG⟩
theorem ct_ws {s : State} {args : Array Value} {y : MethodName} {bytes : ByteArray} {maxL : Nat} {ret : Option FieldType} (hTB : ∀ w ∈ TB, w.before args s = true) (hc : Cond.code y bytes maxL ret ∈ TB) : ∀ w ∈ (Cond.code y bytes maxL ret :: TB), ∀ (a' : Array Value) (U : State), s.WarmedH U.vm → w.before a' U = true := by
  intro w hw a' U hW
  have hw2 : w ∈ TB := by
    rcases List.mem_cons.mp hw with h | h
    · rw [h]; exact hc
    · exact h
  exact word_at hW (tb_good w hw2).2 (hTB w hw2)
abbrev RmOk (rm rmc : Room) (maxL : Nat) : Prop := rmc.cells = 0 ∧ rmc.slots = 0 ∧ rmc.frames + 1 ≤ rm.frames ∧ 8 + (maxL + 11) + rmc.locals ≤ rm.locals
theorem pw_callV {l : Launch} {g : Geo} {own : String} {cc : ByteArray} {rm : Room} {nL : Nat} {ret : Option FieldType} {fin : Option Value → WD → Prop} {X : Nat → Nat → (Nat → Int32) → Prop} {P : PT} (hX : Gd l g own cc rm nL ret fin X P) {w : WD} {pc q : Nat} {lv : List (Option Value)} {st : List Value} {y : MethodName} {bytes : ByteArray} {maxL n index : Nat} {rt : Option FieldType} {rmc : Room} {T : Option Value → WD → Prop} {o : Nat} {As : List Value} {st0 : List Value} (hd : decode cc pc = .ok (.invokevirtual index, 3)) (hq : pc + 3 = q) (hM : MI y bytes maxL rt n) (hlk : Cond.methodLink own index y ∈ TB) (hrc : Rc o y.cls) (hrm : RmOk rm rmc maxL) (hn : As.length = n) (hst : st0 = As.reverse ++ .ref (g_ad g o 0) :: st) (hcat : (st.map fun v => v.category).sum ≤ 8) (hC : Ct l g y bytes maxL rt rmc (.ref (g_ad g o 0) :: As) w T) (kk : ∀ r w', T r w' → P w' q lv (r.toList ++ st)) : P w pc lv st0 := by
  subst hst
  obtain ⟨p, e, s, m, args, below, meth, c, cells, slots, Q, A, rfl, hx, hb, hml, hown, hTB, hNL, hK, hG, hcs, hScr, hri, hrv⟩ := hX
  subst hq
  intro H locs ls hP hS hl
  obtain ⟨h1, h2, h3, h4, h5, h6⟩ := hM
  obtain ⟨ho, rr, hrr, hrC⟩ := hrc
  obtain ⟨io, -, hio⟩ := wl_o g w (dmb ho)
  have hrecv := va_recv hK hP hrr hio
  rw [hrC] at hrecv
  have hr := va_runV (own := own) (C := y.cls) (index := index) (n := n) (y := y) (bytes := bytes) (maxL := maxL) (ret := rt) (As := As) (rest := st) (g := F0 m pc ls (As.reverse ++ .ref (g_ad g o 0) :: st)) (p := p) (e := e) (s := s) (m := m) (args := args) (below := below) (meth := meth) (c := c) (H := H) (locs := locs) (cells := cells) (slots := slots) (R := rm) ⟨hx, hb, hml, hown, hTB⟩ hC ⟨⟨hrm.1, hrm.2.1, hrm.2.2.1, hrm.2.2.2, ct_ws hTB h4, List.mem_cons_self, hTB _ h4, hTB _ h3, ⟨h5.1, h5.2.1⟩, fun sig hs => by have h9 := h5.2.2; rw [hs] at h9; exact (Option.some.inj h9).symm, hTB _ hlk⟩, hTB _ h1, hTB _ h2⟩ ⟨ct_blind, hrecv, ct_pre hP hK hNL hG.1⟩ rfl hn hl.1 rfl (lv_room hcat) hd ⟨hcs.1, hcs.2⟩
  intro TT hT XX
  obtain ⟨v, st₀, t, T', L, h0, X', hL, e1, e2, ⟨r, w', hv, hT', hP', hF⟩, stp⟩ := hr TT hT XX
  cases hv
  obtain ⟨hz, hk⟩ := hF
  rw [h0] at hz hk
  have hS1 : va_S A s.heap T'.heap (locs ++ L) := ⟨Nat.le_trans hS.1 (by rw [e1]; exact hz), fun q h1 h2 => by rw [e1, hk q (Nat.lt_of_lt_of_le h1 hS.1) (fun z => h2 (hG.2 q z))]; exact hS.2.1 q h1 h2, fun q hq => by
    rcases List.mem_append.mp hq with h | h
    · exact hS.2.2 q h
    · exact hG.2 _ (hL q h)⟩
  obtain ⟨t2, a1, b1⟩ := kk _ w' hT' T'.heap (locs ++ L) ls (by rw [e1]; exact hP') hS1 hl T' rfl X'
  exact ⟨t2, stp t2 a1, b1⟩
theorem pw_callS {l : Launch} {g : Geo} {own : String} {cc : ByteArray} {rm : Room} {nL : Nat} {ret : Option FieldType} {fin : Option Value → WD → Prop} {X : Nat → Nat → (Nat → Int32) → Prop} {P : PT} (hX : Gd l g own cc rm nL ret fin X P) {w : WD} {pc q : Nat} {lv : List (Option Value)} {st : List Value} {y : MethodName} {bytes : ByteArray} {maxL n index : Nat} {rt : Option FieldType} {rmc : Room} {T : Option Value → WD → Prop} {As : List Value} {st0 : List Value} (hd : decode cc pc = .ok (.invokestatic index, 3)) (hq : pc + 3 = q) (hM : MS y bytes maxL rt n) (hlk : Cond.methodLink own index y ∈ TB) (hrm : RmOk rm rmc maxL) (hn : As.length = n) (hst : st0 = As.reverse ++ st) (hcat : (st.map fun v => v.category).sum ≤ 8) (hC : Ct l g y bytes maxL rt rmc As w T) (kk : ∀ r w', T r w' → P w' q lv (r.toList ++ st)) : P w pc lv st0 := by
  subst hst
  obtain ⟨p, e, s, m, args, below, meth, c, cells, slots, Q, A, rfl, hx, hb, hml, hown, hTB, hNL, hK, hG, hcs, hScr, hri, hrv⟩ := hX
  subst hq
  intro H locs ls hP hS hl
  obtain ⟨h1, h3, h4, h5, h6⟩ := hM
  have hr := va_runS (own := own) (index := index) (n := n) (y := y) (bytes := bytes) (maxL := maxL) (ret := rt) (As := As) (rest := st) (g := F0 m pc ls (As.reverse ++ st)) (p := p) (e := e) (s := s) (m := m) (args := args) (below := below) (meth := meth) (c := c) (H := H) (locs := locs) (cells := cells) (slots := slots) (R := rm) ⟨hx, hb, hml, hown, hTB⟩ hC ⟨⟨hrm.1, hrm.2.1, hrm.2.2.1, hrm.2.2.2, ct_ws hTB h4, List.mem_cons_self, hTB _ h4, hTB _ h3, ⟨h5.1, h5.2.1⟩, fun sig hs => by have h9 := h5.2.2; rw [hs] at h9; exact (Option.some.inj h9).symm, hTB _ hlk⟩, hTB _ h1⟩ ⟨ct_blind, ct_pre hP hK hNL hG.1⟩ rfl hn hl.1 rfl (lv_room hcat) hd ⟨hcs.1, hcs.2⟩
  intro TT hT XX
  obtain ⟨v, st₀, t, T', L, h0, X', hL, e1, e2, ⟨r, w', hv, hT', hP', hF⟩, stp⟩ := hr TT hT XX
  cases hv
  obtain ⟨hz, hk⟩ := hF
  rw [h0] at hz hk
  have hS1 : va_S A s.heap T'.heap (locs ++ L) := ⟨Nat.le_trans hS.1 (by rw [e1]; exact hz), fun q h1 h2 => by rw [e1, hk q (Nat.lt_of_lt_of_le h1 hS.1) (fun z => h2 (hG.2 q z))]; exact hS.2.1 q h1 h2, fun q hq => by
    rcases List.mem_append.mp hq with h | h
    · exact hS.2.2 q h
    · exact hG.2 _ (hL q h)⟩
  obtain ⟨t2, a1, b1⟩ := kk _ w' hT' T'.heap (locs ++ L) ls (by rw [e1]; exact hP') hS1 hl T' rfl X'
  exact ⟨t2, stp t2 a1, b1⟩
theorem pw_callN {l : Launch} {g : Geo} {own : String} {cc : ByteArray} {rm : Room} {nL : Nat} {ret : Option FieldType} {fin : Option Value → WD → Prop} {X : Nat → Nat → (Nat → Int32) → Prop} {P : PT} (hX : Gd l g own cc rm nL ret fin X P) {w : WD} {pc q : Nat} {lv : List (Option Value)} {st : List Value} {y : MethodName} {bytes : ByteArray} {maxL n index : Nat} {rt : Option FieldType} {rmc : Room} {T : Option Value → WD → Prop} {As : List Value} {st0 : List Value} {host : String} (hd : decode cc pc = .ok (.invokestatic index, 3)) (hq : pc + 3 = q) (hM : MS y bytes maxL rt n) (hlk : Cond.methodLinkNest own index y host ∈ NL) (hrm : RmOk rm rmc maxL) (hn : As.length = n) (hst : st0 = As.reverse ++ st) (hcat : (st.map fun v => v.category).sum ≤ 8) (hC : Ct l g y bytes maxL rt rmc As w T) (kk : ∀ r w', T r w' → P w' q lv (r.toList ++ st)) : P w pc lv st0 := by
  subst hst
  obtain ⟨p, e, s, m, args, below, meth, c, cells, slots, Q, A, rfl, hx, hb, hml, hown, hTB, hNL, hK, hG, hcs, hScr, hri, hrv⟩ := hX
  subst hq
  intro H locs ls hP hS hl
  obtain ⟨h1, h3, h4, h5, h6⟩ := hM
  have hr := va_runSN (own := own) (index := index) (host := host) (n := n) (y := y) (bytes := bytes) (maxL := maxL) (ret := rt) (As := As) (rest := st) (g := F0 m pc ls (As.reverse ++ st)) (p := p) (e := e) (s := s) (m := m) (args := args) (below := below) (meth := meth) (c := c) (H := H) (locs := locs) (cells := cells) (slots := slots) (R := rm) ⟨hx, hb, hml, hown, hTB⟩ hC ⟨⟨⟨hrm.1, hrm.2.1, hrm.2.2.1, hrm.2.2.2, ct_ws hTB h4, List.mem_cons_self⟩, hTB _ h4, hTB _ h3, ⟨h5.1, h5.2.1⟩, fun sig hs => by have h9 := h5.2.2; rw [hs] at h9; exact (Option.some.inj h9).symm, va_Nw.use rfl (hNL _ hlk)⟩, hTB _ h1, trivial⟩ ⟨ct_blind, ct_pre hP hK hNL hG.1⟩ rfl hn hl.1 rfl (lv_room hcat) hd ⟨hcs.1, hcs.2⟩
  intro TT hT XX
  obtain ⟨v, st₀, t, T', L, h0, X', hL, e1, e2, ⟨r, w', hv, hT', hP', hF⟩, stp⟩ := hr TT hT XX
  cases hv
  obtain ⟨hz, hk⟩ := hF
  rw [h0] at hz hk
  have hS1 : va_S A s.heap T'.heap (locs ++ L) := ⟨Nat.le_trans hS.1 (by rw [e1]; exact hz), fun q h1 h2 => by rw [e1, hk q (Nat.lt_of_lt_of_le h1 hS.1) (fun z => h2 (hG.2 q z))]; exact hS.2.1 q h1 h2, fun q hq => by
    rcases List.mem_append.mp hq with h | h
    · exact hS.2.2 q h
    · exact hG.2 _ (hL q h)⟩
  obtain ⟨t2, a1, b1⟩ := kk _ w' hT' T'.heap (locs ++ L) ls (by rw [e1]; exact hP') hS1 hl T' rfl X'
  exact ⟨t2, stp t2 a1, b1⟩
def CtI (l : Launch) (g : Geo) (y : MethodName) (bytes : ByteArray) (maxL : Nat) (ret : Option FieldType) (rm : Room) (av : List Value) (w : WD) (r : Int32) (w' : WD) : Prop := Ct l g y bytes maxL ret rm av w (fun x z => x = some (.int r) ∧ z = w')
def CtV (l : Launch) (g : Geo) (y : MethodName) (bytes : ByteArray) (maxL : Nat) (ret : Option FieldType) (rm : Room) (av : List Value) (w : WD) (w' : WD) : Prop := Ct l g y bytes maxL ret rm av w (fun x z => x = none ∧ z = w')
theorem pw_cvI0 {l : Launch} {g : Geo} {own : String} {cc : ByteArray} {rm : Room} {nL : Nat} {ret : Option FieldType} {fin : Option Value → WD → Prop} {X : Nat → Nat → (Nat → Int32) → Prop} {P : PT} (hX : Gd l g own cc rm nL ret fin X P) {w : WD} {pc q : Nat} {lv : List (Option Value)} {st : List Value} {y : MethodName} {bytes : ByteArray} {maxL n index : Nat} {rt : Option FieldType} {rmc : Room} {w' : WD} {r : Int32} {o : Nat} (hd : decode cc pc = .ok (.invokevirtual index, 3)) (hq : pc + 3 = q) (hM : MI y bytes maxL rt n) (hlk : Cond.methodLink own index y ∈ TB) (hrc : Rc o y.cls) (hrm : RmOk rm rmc maxL) (hn : 0 = n) (hcat : (st.map fun v => v.category).sum ≤ 8) (hC : CtI l g y bytes maxL rt rmc [.ref (g_ad g o 0)] w r w') (kk : P w' q lv (.int r :: st)) : P w pc lv (.ref (g_ad g o 0) :: st) := pw_callV hX (As := []) hd hq hM hlk hrc hrm hn rfl hcat hC (fun r w2 h => by obtain ⟨rfl, rfl⟩ := h; exact kk)
theorem pw_cvV0 {l : Launch} {g : Geo} {own : String} {cc : ByteArray} {rm : Room} {nL : Nat} {ret : Option FieldType} {fin : Option Value → WD → Prop} {X : Nat → Nat → (Nat → Int32) → Prop} {P : PT} (hX : Gd l g own cc rm nL ret fin X P) {w : WD} {pc q : Nat} {lv : List (Option Value)} {st : List Value} {y : MethodName} {bytes : ByteArray} {maxL n index : Nat} {rt : Option FieldType} {rmc : Room} {w' : WD} {o : Nat} (hd : decode cc pc = .ok (.invokevirtual index, 3)) (hq : pc + 3 = q) (hM : MI y bytes maxL rt n) (hlk : Cond.methodLink own index y ∈ TB) (hrc : Rc o y.cls) (hrm : RmOk rm rmc maxL) (hn : 0 = n) (hcat : (st.map fun v => v.category).sum ≤ 8) (hC : CtV l g y bytes maxL rt rmc [.ref (g_ad g o 0)] w w') (kk : P w' q lv (st)) : P w pc lv (.ref (g_ad g o 0) :: st) := pw_callV hX (As := []) hd hq hM hlk hrc hrm hn rfl hcat hC (fun r w2 h => by obtain ⟨rfl, rfl⟩ := h; exact kk)
theorem pw_cvI1 {l : Launch} {g : Geo} {own : String} {cc : ByteArray} {rm : Room} {nL : Nat} {ret : Option FieldType} {fin : Option Value → WD → Prop} {X : Nat → Nat → (Nat → Int32) → Prop} {P : PT} (hX : Gd l g own cc rm nL ret fin X P) {w : WD} {pc q : Nat} {lv : List (Option Value)} {st : List Value} {y : MethodName} {bytes : ByteArray} {maxL n index : Nat} {rt : Option FieldType} {rmc : Room} {w' : WD} {r : Int32} {o : Nat} {v1 : Value} (hd : decode cc pc = .ok (.invokevirtual index, 3)) (hq : pc + 3 = q) (hM : MI y bytes maxL rt n) (hlk : Cond.methodLink own index y ∈ TB) (hrc : Rc o y.cls) (hrm : RmOk rm rmc maxL) (hn : 1 = n) (hcat : (st.map fun v => v.category).sum ≤ 8) (hC : CtI l g y bytes maxL rt rmc [.ref (g_ad g o 0), v1] w r w') (kk : P w' q lv (.int r :: st)) : P w pc lv (v1 :: .ref (g_ad g o 0) :: st) := pw_callV hX (As := [v1]) hd hq hM hlk hrc hrm hn rfl hcat hC (fun r w2 h => by obtain ⟨rfl, rfl⟩ := h; exact kk)
theorem pw_csI1 {l : Launch} {g : Geo} {own : String} {cc : ByteArray} {rm : Room} {nL : Nat} {ret : Option FieldType} {fin : Option Value → WD → Prop} {X : Nat → Nat → (Nat → Int32) → Prop} {P : PT} (hX : Gd l g own cc rm nL ret fin X P) {w : WD} {pc q : Nat} {lv : List (Option Value)} {st : List Value} {y : MethodName} {bytes : ByteArray} {maxL n index : Nat} {rt : Option FieldType} {rmc : Room} {w' : WD} {r : Int32} {v1 : Value} (hd : decode cc pc = .ok (.invokestatic index, 3)) (hq : pc + 3 = q) (hM : MS y bytes maxL rt n) (hlk : Cond.methodLink own index y ∈ TB) (hrm : RmOk rm rmc maxL) (hn : 1 = n) (hcat : (st.map fun v => v.category).sum ≤ 8) (hC : CtI l g y bytes maxL rt rmc [v1] w r w') (kk : P w' q lv (.int r :: st)) : P w pc lv (v1 :: st) := pw_callS hX (As := [v1]) hd hq hM hlk hrm hn rfl hcat hC (fun r w2 h => by obtain ⟨rfl, rfl⟩ := h; exact kk)
theorem pw_cnI1 {l : Launch} {g : Geo} {own : String} {cc : ByteArray} {rm : Room} {nL : Nat} {ret : Option FieldType} {fin : Option Value → WD → Prop} {X : Nat → Nat → (Nat → Int32) → Prop} {P : PT} (hX : Gd l g own cc rm nL ret fin X P) {w : WD} {pc q : Nat} {lv : List (Option Value)} {st : List Value} {y : MethodName} {bytes : ByteArray} {maxL n index : Nat} {rt : Option FieldType} {rmc : Room} {w' : WD} {r : Int32} {v1 : Value} {host : String} (hd : decode cc pc = .ok (.invokestatic index, 3)) (hq : pc + 3 = q) (hM : MS y bytes maxL rt n) (hlk : Cond.methodLinkNest own index y host ∈ NL) (hrm : RmOk rm rmc maxL) (hn : 1 = n) (hcat : (st.map fun v => v.category).sum ≤ 8) (hC : CtI l g y bytes maxL rt rmc [v1] w r w') (kk : P w' q lv (.int r :: st)) : P w pc lv (v1 :: st) := pw_callN hX (As := [v1]) hd hq hM hlk hrm hn rfl hcat hC (fun r w2 h => by obtain ⟨rfl, rfl⟩ := h; exact kk)
theorem pw_cvV1 {l : Launch} {g : Geo} {own : String} {cc : ByteArray} {rm : Room} {nL : Nat} {ret : Option FieldType} {fin : Option Value → WD → Prop} {X : Nat → Nat → (Nat → Int32) → Prop} {P : PT} (hX : Gd l g own cc rm nL ret fin X P) {w : WD} {pc q : Nat} {lv : List (Option Value)} {st : List Value} {y : MethodName} {bytes : ByteArray} {maxL n index : Nat} {rt : Option FieldType} {rmc : Room} {w' : WD} {o : Nat} {v1 : Value} (hd : decode cc pc = .ok (.invokevirtual index, 3)) (hq : pc + 3 = q) (hM : MI y bytes maxL rt n) (hlk : Cond.methodLink own index y ∈ TB) (hrc : Rc o y.cls) (hrm : RmOk rm rmc maxL) (hn : 1 = n) (hcat : (st.map fun v => v.category).sum ≤ 8) (hC : CtV l g y bytes maxL rt rmc [.ref (g_ad g o 0), v1] w w') (kk : P w' q lv (st)) : P w pc lv (v1 :: .ref (g_ad g o 0) :: st) := pw_callV hX (As := [v1]) hd hq hM hlk hrc hrm hn rfl hcat hC (fun r w2 h => by obtain ⟨rfl, rfl⟩ := h; exact kk)
theorem pw_csV1 {l : Launch} {g : Geo} {own : String} {cc : ByteArray} {rm : Room} {nL : Nat} {ret : Option FieldType} {fin : Option Value → WD → Prop} {X : Nat → Nat → (Nat → Int32) → Prop} {P : PT} (hX : Gd l g own cc rm nL ret fin X P) {w : WD} {pc q : Nat} {lv : List (Option Value)} {st : List Value} {y : MethodName} {bytes : ByteArray} {maxL n index : Nat} {rt : Option FieldType} {rmc : Room} {w' : WD} {v1 : Value} (hd : decode cc pc = .ok (.invokestatic index, 3)) (hq : pc + 3 = q) (hM : MS y bytes maxL rt n) (hlk : Cond.methodLink own index y ∈ TB) (hrm : RmOk rm rmc maxL) (hn : 1 = n) (hcat : (st.map fun v => v.category).sum ≤ 8) (hC : CtV l g y bytes maxL rt rmc [v1] w w') (kk : P w' q lv (st)) : P w pc lv (v1 :: st) := pw_callS hX (As := [v1]) hd hq hM hlk hrm hn rfl hcat hC (fun r w2 h => by obtain ⟨rfl, rfl⟩ := h; exact kk)
theorem pw_cnV1 {l : Launch} {g : Geo} {own : String} {cc : ByteArray} {rm : Room} {nL : Nat} {ret : Option FieldType} {fin : Option Value → WD → Prop} {X : Nat → Nat → (Nat → Int32) → Prop} {P : PT} (hX : Gd l g own cc rm nL ret fin X P) {w : WD} {pc q : Nat} {lv : List (Option Value)} {st : List Value} {y : MethodName} {bytes : ByteArray} {maxL n index : Nat} {rt : Option FieldType} {rmc : Room} {w' : WD} {v1 : Value} {host : String} (hd : decode cc pc = .ok (.invokestatic index, 3)) (hq : pc + 3 = q) (hM : MS y bytes maxL rt n) (hlk : Cond.methodLinkNest own index y host ∈ NL) (hrm : RmOk rm rmc maxL) (hn : 1 = n) (hcat : (st.map fun v => v.category).sum ≤ 8) (hC : CtV l g y bytes maxL rt rmc [v1] w w') (kk : P w' q lv (st)) : P w pc lv (v1 :: st) := pw_callN hX (As := [v1]) hd hq hM hlk hrm hn rfl hcat hC (fun r w2 h => by obtain ⟨rfl, rfl⟩ := h; exact kk)
theorem pw_cvI2 {l : Launch} {g : Geo} {own : String} {cc : ByteArray} {rm : Room} {nL : Nat} {ret : Option FieldType} {fin : Option Value → WD → Prop} {X : Nat → Nat → (Nat → Int32) → Prop} {P : PT} (hX : Gd l g own cc rm nL ret fin X P) {w : WD} {pc q : Nat} {lv : List (Option Value)} {st : List Value} {y : MethodName} {bytes : ByteArray} {maxL n index : Nat} {rt : Option FieldType} {rmc : Room} {w' : WD} {r : Int32} {o : Nat} {v1 v2 : Value} (hd : decode cc pc = .ok (.invokevirtual index, 3)) (hq : pc + 3 = q) (hM : MI y bytes maxL rt n) (hlk : Cond.methodLink own index y ∈ TB) (hrc : Rc o y.cls) (hrm : RmOk rm rmc maxL) (hn : 2 = n) (hcat : (st.map fun v => v.category).sum ≤ 8) (hC : CtI l g y bytes maxL rt rmc [.ref (g_ad g o 0), v1, v2] w r w') (kk : P w' q lv (.int r :: st)) : P w pc lv (v2 :: v1 :: .ref (g_ad g o 0) :: st) := pw_callV hX (As := [v1, v2]) hd hq hM hlk hrc hrm hn rfl hcat hC (fun r w2 h => by obtain ⟨rfl, rfl⟩ := h; exact kk)
theorem pw_csI2 {l : Launch} {g : Geo} {own : String} {cc : ByteArray} {rm : Room} {nL : Nat} {ret : Option FieldType} {fin : Option Value → WD → Prop} {X : Nat → Nat → (Nat → Int32) → Prop} {P : PT} (hX : Gd l g own cc rm nL ret fin X P) {w : WD} {pc q : Nat} {lv : List (Option Value)} {st : List Value} {y : MethodName} {bytes : ByteArray} {maxL n index : Nat} {rt : Option FieldType} {rmc : Room} {w' : WD} {r : Int32} {v1 v2 : Value} (hd : decode cc pc = .ok (.invokestatic index, 3)) (hq : pc + 3 = q) (hM : MS y bytes maxL rt n) (hlk : Cond.methodLink own index y ∈ TB) (hrm : RmOk rm rmc maxL) (hn : 2 = n) (hcat : (st.map fun v => v.category).sum ≤ 8) (hC : CtI l g y bytes maxL rt rmc [v1, v2] w r w') (kk : P w' q lv (.int r :: st)) : P w pc lv (v2 :: v1 :: st) := pw_callS hX (As := [v1, v2]) hd hq hM hlk hrm hn rfl hcat hC (fun r w2 h => by obtain ⟨rfl, rfl⟩ := h; exact kk)
theorem pw_cnI2 {l : Launch} {g : Geo} {own : String} {cc : ByteArray} {rm : Room} {nL : Nat} {ret : Option FieldType} {fin : Option Value → WD → Prop} {X : Nat → Nat → (Nat → Int32) → Prop} {P : PT} (hX : Gd l g own cc rm nL ret fin X P) {w : WD} {pc q : Nat} {lv : List (Option Value)} {st : List Value} {y : MethodName} {bytes : ByteArray} {maxL n index : Nat} {rt : Option FieldType} {rmc : Room} {w' : WD} {r : Int32} {v1 v2 : Value} {host : String} (hd : decode cc pc = .ok (.invokestatic index, 3)) (hq : pc + 3 = q) (hM : MS y bytes maxL rt n) (hlk : Cond.methodLinkNest own index y host ∈ NL) (hrm : RmOk rm rmc maxL) (hn : 2 = n) (hcat : (st.map fun v => v.category).sum ≤ 8) (hC : CtI l g y bytes maxL rt rmc [v1, v2] w r w') (kk : P w' q lv (.int r :: st)) : P w pc lv (v2 :: v1 :: st) := pw_callN hX (As := [v1, v2]) hd hq hM hlk hrm hn rfl hcat hC (fun r w2 h => by obtain ⟨rfl, rfl⟩ := h; exact kk)
theorem pw_cvV2 {l : Launch} {g : Geo} {own : String} {cc : ByteArray} {rm : Room} {nL : Nat} {ret : Option FieldType} {fin : Option Value → WD → Prop} {X : Nat → Nat → (Nat → Int32) → Prop} {P : PT} (hX : Gd l g own cc rm nL ret fin X P) {w : WD} {pc q : Nat} {lv : List (Option Value)} {st : List Value} {y : MethodName} {bytes : ByteArray} {maxL n index : Nat} {rt : Option FieldType} {rmc : Room} {w' : WD} {o : Nat} {v1 v2 : Value} (hd : decode cc pc = .ok (.invokevirtual index, 3)) (hq : pc + 3 = q) (hM : MI y bytes maxL rt n) (hlk : Cond.methodLink own index y ∈ TB) (hrc : Rc o y.cls) (hrm : RmOk rm rmc maxL) (hn : 2 = n) (hcat : (st.map fun v => v.category).sum ≤ 8) (hC : CtV l g y bytes maxL rt rmc [.ref (g_ad g o 0), v1, v2] w w') (kk : P w' q lv (st)) : P w pc lv (v2 :: v1 :: .ref (g_ad g o 0) :: st) := pw_callV hX (As := [v1, v2]) hd hq hM hlk hrc hrm hn rfl hcat hC (fun r w2 h => by obtain ⟨rfl, rfl⟩ := h; exact kk)
theorem pw_csV2 {l : Launch} {g : Geo} {own : String} {cc : ByteArray} {rm : Room} {nL : Nat} {ret : Option FieldType} {fin : Option Value → WD → Prop} {X : Nat → Nat → (Nat → Int32) → Prop} {P : PT} (hX : Gd l g own cc rm nL ret fin X P) {w : WD} {pc q : Nat} {lv : List (Option Value)} {st : List Value} {y : MethodName} {bytes : ByteArray} {maxL n index : Nat} {rt : Option FieldType} {rmc : Room} {w' : WD} {v1 v2 : Value} (hd : decode cc pc = .ok (.invokestatic index, 3)) (hq : pc + 3 = q) (hM : MS y bytes maxL rt n) (hlk : Cond.methodLink own index y ∈ TB) (hrm : RmOk rm rmc maxL) (hn : 2 = n) (hcat : (st.map fun v => v.category).sum ≤ 8) (hC : CtV l g y bytes maxL rt rmc [v1, v2] w w') (kk : P w' q lv (st)) : P w pc lv (v2 :: v1 :: st) := pw_callS hX (As := [v1, v2]) hd hq hM hlk hrm hn rfl hcat hC (fun r w2 h => by obtain ⟨rfl, rfl⟩ := h; exact kk)
theorem pw_cnV2 {l : Launch} {g : Geo} {own : String} {cc : ByteArray} {rm : Room} {nL : Nat} {ret : Option FieldType} {fin : Option Value → WD → Prop} {X : Nat → Nat → (Nat → Int32) → Prop} {P : PT} (hX : Gd l g own cc rm nL ret fin X P) {w : WD} {pc q : Nat} {lv : List (Option Value)} {st : List Value} {y : MethodName} {bytes : ByteArray} {maxL n index : Nat} {rt : Option FieldType} {rmc : Room} {w' : WD} {v1 v2 : Value} {host : String} (hd : decode cc pc = .ok (.invokestatic index, 3)) (hq : pc + 3 = q) (hM : MS y bytes maxL rt n) (hlk : Cond.methodLinkNest own index y host ∈ NL) (hrm : RmOk rm rmc maxL) (hn : 2 = n) (hcat : (st.map fun v => v.category).sum ≤ 8) (hC : CtV l g y bytes maxL rt rmc [v1, v2] w w') (kk : P w' q lv (st)) : P w pc lv (v2 :: v1 :: st) := pw_callN hX (As := [v1, v2]) hd hq hM hlk hrm hn rfl hcat hC (fun r w2 h => by obtain ⟨rfl, rfl⟩ := h; exact kk)
theorem pw_cvI3 {l : Launch} {g : Geo} {own : String} {cc : ByteArray} {rm : Room} {nL : Nat} {ret : Option FieldType} {fin : Option Value → WD → Prop} {X : Nat → Nat → (Nat → Int32) → Prop} {P : PT} (hX : Gd l g own cc rm nL ret fin X P) {w : WD} {pc q : Nat} {lv : List (Option Value)} {st : List Value} {y : MethodName} {bytes : ByteArray} {maxL n index : Nat} {rt : Option FieldType} {rmc : Room} {w' : WD} {r : Int32} {o : Nat} {v1 v2 v3 : Value} (hd : decode cc pc = .ok (.invokevirtual index, 3)) (hq : pc + 3 = q) (hM : MI y bytes maxL rt n) (hlk : Cond.methodLink own index y ∈ TB) (hrc : Rc o y.cls) (hrm : RmOk rm rmc maxL) (hn : 3 = n) (hcat : (st.map fun v => v.category).sum ≤ 8) (hC : CtI l g y bytes maxL rt rmc [.ref (g_ad g o 0), v1, v2, v3] w r w') (kk : P w' q lv (.int r :: st)) : P w pc lv (v3 :: v2 :: v1 :: .ref (g_ad g o 0) :: st) := pw_callV hX (As := [v1, v2, v3]) hd hq hM hlk hrc hrm hn rfl hcat hC (fun r w2 h => by obtain ⟨rfl, rfl⟩ := h; exact kk)
theorem pw_csI3 {l : Launch} {g : Geo} {own : String} {cc : ByteArray} {rm : Room} {nL : Nat} {ret : Option FieldType} {fin : Option Value → WD → Prop} {X : Nat → Nat → (Nat → Int32) → Prop} {P : PT} (hX : Gd l g own cc rm nL ret fin X P) {w : WD} {pc q : Nat} {lv : List (Option Value)} {st : List Value} {y : MethodName} {bytes : ByteArray} {maxL n index : Nat} {rt : Option FieldType} {rmc : Room} {w' : WD} {r : Int32} {v1 v2 v3 : Value} (hd : decode cc pc = .ok (.invokestatic index, 3)) (hq : pc + 3 = q) (hM : MS y bytes maxL rt n) (hlk : Cond.methodLink own index y ∈ TB) (hrm : RmOk rm rmc maxL) (hn : 3 = n) (hcat : (st.map fun v => v.category).sum ≤ 8) (hC : CtI l g y bytes maxL rt rmc [v1, v2, v3] w r w') (kk : P w' q lv (.int r :: st)) : P w pc lv (v3 :: v2 :: v1 :: st) := pw_callS hX (As := [v1, v2, v3]) hd hq hM hlk hrm hn rfl hcat hC (fun r w2 h => by obtain ⟨rfl, rfl⟩ := h; exact kk)
theorem pw_cnI3 {l : Launch} {g : Geo} {own : String} {cc : ByteArray} {rm : Room} {nL : Nat} {ret : Option FieldType} {fin : Option Value → WD → Prop} {X : Nat → Nat → (Nat → Int32) → Prop} {P : PT} (hX : Gd l g own cc rm nL ret fin X P) {w : WD} {pc q : Nat} {lv : List (Option Value)} {st : List Value} {y : MethodName} {bytes : ByteArray} {maxL n index : Nat} {rt : Option FieldType} {rmc : Room} {w' : WD} {r : Int32} {v1 v2 v3 : Value} {host : String} (hd : decode cc pc = .ok (.invokestatic index, 3)) (hq : pc + 3 = q) (hM : MS y bytes maxL rt n) (hlk : Cond.methodLinkNest own index y host ∈ NL) (hrm : RmOk rm rmc maxL) (hn : 3 = n) (hcat : (st.map fun v => v.category).sum ≤ 8) (hC : CtI l g y bytes maxL rt rmc [v1, v2, v3] w r w') (kk : P w' q lv (.int r :: st)) : P w pc lv (v3 :: v2 :: v1 :: st) := pw_callN hX (As := [v1, v2, v3]) hd hq hM hlk hrm hn rfl hcat hC (fun r w2 h => by obtain ⟨rfl, rfl⟩ := h; exact kk)
theorem pw_cvV3 {l : Launch} {g : Geo} {own : String} {cc : ByteArray} {rm : Room} {nL : Nat} {ret : Option FieldType} {fin : Option Value → WD → Prop} {X : Nat → Nat → (Nat → Int32) → Prop} {P : PT} (hX : Gd l g own cc rm nL ret fin X P) {w : WD} {pc q : Nat} {lv : List (Option Value)} {st : List Value} {y : MethodName} {bytes : ByteArray} {maxL n index : Nat} {rt : Option FieldType} {rmc : Room} {w' : WD} {o : Nat} {v1 v2 v3 : Value} (hd : decode cc pc = .ok (.invokevirtual index, 3)) (hq : pc + 3 = q) (hM : MI y bytes maxL rt n) (hlk : Cond.methodLink own index y ∈ TB) (hrc : Rc o y.cls) (hrm : RmOk rm rmc maxL) (hn : 3 = n) (hcat : (st.map fun v => v.category).sum ≤ 8) (hC : CtV l g y bytes maxL rt rmc [.ref (g_ad g o 0), v1, v2, v3] w w') (kk : P w' q lv (st)) : P w pc lv (v3 :: v2 :: v1 :: .ref (g_ad g o 0) :: st) := pw_callV hX (As := [v1, v2, v3]) hd hq hM hlk hrc hrm hn rfl hcat hC (fun r w2 h => by obtain ⟨rfl, rfl⟩ := h; exact kk)
theorem pw_csV3 {l : Launch} {g : Geo} {own : String} {cc : ByteArray} {rm : Room} {nL : Nat} {ret : Option FieldType} {fin : Option Value → WD → Prop} {X : Nat → Nat → (Nat → Int32) → Prop} {P : PT} (hX : Gd l g own cc rm nL ret fin X P) {w : WD} {pc q : Nat} {lv : List (Option Value)} {st : List Value} {y : MethodName} {bytes : ByteArray} {maxL n index : Nat} {rt : Option FieldType} {rmc : Room} {w' : WD} {v1 v2 v3 : Value} (hd : decode cc pc = .ok (.invokestatic index, 3)) (hq : pc + 3 = q) (hM : MS y bytes maxL rt n) (hlk : Cond.methodLink own index y ∈ TB) (hrm : RmOk rm rmc maxL) (hn : 3 = n) (hcat : (st.map fun v => v.category).sum ≤ 8) (hC : CtV l g y bytes maxL rt rmc [v1, v2, v3] w w') (kk : P w' q lv (st)) : P w pc lv (v3 :: v2 :: v1 :: st) := pw_callS hX (As := [v1, v2, v3]) hd hq hM hlk hrm hn rfl hcat hC (fun r w2 h => by obtain ⟨rfl, rfl⟩ := h; exact kk)
theorem pw_cnV3 {l : Launch} {g : Geo} {own : String} {cc : ByteArray} {rm : Room} {nL : Nat} {ret : Option FieldType} {fin : Option Value → WD → Prop} {X : Nat → Nat → (Nat → Int32) → Prop} {P : PT} (hX : Gd l g own cc rm nL ret fin X P) {w : WD} {pc q : Nat} {lv : List (Option Value)} {st : List Value} {y : MethodName} {bytes : ByteArray} {maxL n index : Nat} {rt : Option FieldType} {rmc : Room} {w' : WD} {v1 v2 v3 : Value} {host : String} (hd : decode cc pc = .ok (.invokestatic index, 3)) (hq : pc + 3 = q) (hM : MS y bytes maxL rt n) (hlk : Cond.methodLinkNest own index y host ∈ NL) (hrm : RmOk rm rmc maxL) (hn : 3 = n) (hcat : (st.map fun v => v.category).sum ≤ 8) (hC : CtV l g y bytes maxL rt rmc [v1, v2, v3] w w') (kk : P w' q lv (st)) : P w pc lv (v3 :: v2 :: v1 :: st) := pw_callN hX (As := [v1, v2, v3]) hd hq hM hlk hrm hn rfl hcat hC (fun r w2 h => by obtain ⟨rfl, rfl⟩ := h; exact kk)
theorem pw_cvI4 {l : Launch} {g : Geo} {own : String} {cc : ByteArray} {rm : Room} {nL : Nat} {ret : Option FieldType} {fin : Option Value → WD → Prop} {X : Nat → Nat → (Nat → Int32) → Prop} {P : PT} (hX : Gd l g own cc rm nL ret fin X P) {w : WD} {pc q : Nat} {lv : List (Option Value)} {st : List Value} {y : MethodName} {bytes : ByteArray} {maxL n index : Nat} {rt : Option FieldType} {rmc : Room} {w' : WD} {r : Int32} {o : Nat} {v1 v2 v3 v4 : Value} (hd : decode cc pc = .ok (.invokevirtual index, 3)) (hq : pc + 3 = q) (hM : MI y bytes maxL rt n) (hlk : Cond.methodLink own index y ∈ TB) (hrc : Rc o y.cls) (hrm : RmOk rm rmc maxL) (hn : 4 = n) (hcat : (st.map fun v => v.category).sum ≤ 8) (hC : CtI l g y bytes maxL rt rmc [.ref (g_ad g o 0), v1, v2, v3, v4] w r w') (kk : P w' q lv (.int r :: st)) : P w pc lv (v4 :: v3 :: v2 :: v1 :: .ref (g_ad g o 0) :: st) := pw_callV hX (As := [v1, v2, v3, v4]) hd hq hM hlk hrc hrm hn rfl hcat hC (fun r w2 h => by obtain ⟨rfl, rfl⟩ := h; exact kk)
theorem pw_csI4 {l : Launch} {g : Geo} {own : String} {cc : ByteArray} {rm : Room} {nL : Nat} {ret : Option FieldType} {fin : Option Value → WD → Prop} {X : Nat → Nat → (Nat → Int32) → Prop} {P : PT} (hX : Gd l g own cc rm nL ret fin X P) {w : WD} {pc q : Nat} {lv : List (Option Value)} {st : List Value} {y : MethodName} {bytes : ByteArray} {maxL n index : Nat} {rt : Option FieldType} {rmc : Room} {w' : WD} {r : Int32} {v1 v2 v3 v4 : Value} (hd : decode cc pc = .ok (.invokestatic index, 3)) (hq : pc + 3 = q) (hM : MS y bytes maxL rt n) (hlk : Cond.methodLink own index y ∈ TB) (hrm : RmOk rm rmc maxL) (hn : 4 = n) (hcat : (st.map fun v => v.category).sum ≤ 8) (hC : CtI l g y bytes maxL rt rmc [v1, v2, v3, v4] w r w') (kk : P w' q lv (.int r :: st)) : P w pc lv (v4 :: v3 :: v2 :: v1 :: st) := pw_callS hX (As := [v1, v2, v3, v4]) hd hq hM hlk hrm hn rfl hcat hC (fun r w2 h => by obtain ⟨rfl, rfl⟩ := h; exact kk)
theorem pw_cnI4 {l : Launch} {g : Geo} {own : String} {cc : ByteArray} {rm : Room} {nL : Nat} {ret : Option FieldType} {fin : Option Value → WD → Prop} {X : Nat → Nat → (Nat → Int32) → Prop} {P : PT} (hX : Gd l g own cc rm nL ret fin X P) {w : WD} {pc q : Nat} {lv : List (Option Value)} {st : List Value} {y : MethodName} {bytes : ByteArray} {maxL n index : Nat} {rt : Option FieldType} {rmc : Room} {w' : WD} {r : Int32} {v1 v2 v3 v4 : Value} {host : String} (hd : decode cc pc = .ok (.invokestatic index, 3)) (hq : pc + 3 = q) (hM : MS y bytes maxL rt n) (hlk : Cond.methodLinkNest own index y host ∈ NL) (hrm : RmOk rm rmc maxL) (hn : 4 = n) (hcat : (st.map fun v => v.category).sum ≤ 8) (hC : CtI l g y bytes maxL rt rmc [v1, v2, v3, v4] w r w') (kk : P w' q lv (.int r :: st)) : P w pc lv (v4 :: v3 :: v2 :: v1 :: st) := pw_callN hX (As := [v1, v2, v3, v4]) hd hq hM hlk hrm hn rfl hcat hC (fun r w2 h => by obtain ⟨rfl, rfl⟩ := h; exact kk)
theorem pw_cvV4 {l : Launch} {g : Geo} {own : String} {cc : ByteArray} {rm : Room} {nL : Nat} {ret : Option FieldType} {fin : Option Value → WD → Prop} {X : Nat → Nat → (Nat → Int32) → Prop} {P : PT} (hX : Gd l g own cc rm nL ret fin X P) {w : WD} {pc q : Nat} {lv : List (Option Value)} {st : List Value} {y : MethodName} {bytes : ByteArray} {maxL n index : Nat} {rt : Option FieldType} {rmc : Room} {w' : WD} {o : Nat} {v1 v2 v3 v4 : Value} (hd : decode cc pc = .ok (.invokevirtual index, 3)) (hq : pc + 3 = q) (hM : MI y bytes maxL rt n) (hlk : Cond.methodLink own index y ∈ TB) (hrc : Rc o y.cls) (hrm : RmOk rm rmc maxL) (hn : 4 = n) (hcat : (st.map fun v => v.category).sum ≤ 8) (hC : CtV l g y bytes maxL rt rmc [.ref (g_ad g o 0), v1, v2, v3, v4] w w') (kk : P w' q lv (st)) : P w pc lv (v4 :: v3 :: v2 :: v1 :: .ref (g_ad g o 0) :: st) := pw_callV hX (As := [v1, v2, v3, v4]) hd hq hM hlk hrc hrm hn rfl hcat hC (fun r w2 h => by obtain ⟨rfl, rfl⟩ := h; exact kk)
theorem pw_csV4 {l : Launch} {g : Geo} {own : String} {cc : ByteArray} {rm : Room} {nL : Nat} {ret : Option FieldType} {fin : Option Value → WD → Prop} {X : Nat → Nat → (Nat → Int32) → Prop} {P : PT} (hX : Gd l g own cc rm nL ret fin X P) {w : WD} {pc q : Nat} {lv : List (Option Value)} {st : List Value} {y : MethodName} {bytes : ByteArray} {maxL n index : Nat} {rt : Option FieldType} {rmc : Room} {w' : WD} {v1 v2 v3 v4 : Value} (hd : decode cc pc = .ok (.invokestatic index, 3)) (hq : pc + 3 = q) (hM : MS y bytes maxL rt n) (hlk : Cond.methodLink own index y ∈ TB) (hrm : RmOk rm rmc maxL) (hn : 4 = n) (hcat : (st.map fun v => v.category).sum ≤ 8) (hC : CtV l g y bytes maxL rt rmc [v1, v2, v3, v4] w w') (kk : P w' q lv (st)) : P w pc lv (v4 :: v3 :: v2 :: v1 :: st) := pw_callS hX (As := [v1, v2, v3, v4]) hd hq hM hlk hrm hn rfl hcat hC (fun r w2 h => by obtain ⟨rfl, rfl⟩ := h; exact kk)
theorem pw_cnV4 {l : Launch} {g : Geo} {own : String} {cc : ByteArray} {rm : Room} {nL : Nat} {ret : Option FieldType} {fin : Option Value → WD → Prop} {X : Nat → Nat → (Nat → Int32) → Prop} {P : PT} (hX : Gd l g own cc rm nL ret fin X P) {w : WD} {pc q : Nat} {lv : List (Option Value)} {st : List Value} {y : MethodName} {bytes : ByteArray} {maxL n index : Nat} {rt : Option FieldType} {rmc : Room} {w' : WD} {v1 v2 v3 v4 : Value} {host : String} (hd : decode cc pc = .ok (.invokestatic index, 3)) (hq : pc + 3 = q) (hM : MS y bytes maxL rt n) (hlk : Cond.methodLinkNest own index y host ∈ NL) (hrm : RmOk rm rmc maxL) (hn : 4 = n) (hcat : (st.map fun v => v.category).sum ≤ 8) (hC : CtV l g y bytes maxL rt rmc [v1, v2, v3, v4] w w') (kk : P w' q lv (st)) : P w pc lv (v4 :: v3 :: v2 :: v1 :: st) := pw_callN hX (As := [v1, v2, v3, v4]) hd hq hM hlk hrm hn rfl hcat hC (fun r w2 h => by obtain ⟨rfl, rfl⟩ := h; exact kk)
theorem pw_cvI5 {l : Launch} {g : Geo} {own : String} {cc : ByteArray} {rm : Room} {nL : Nat} {ret : Option FieldType} {fin : Option Value → WD → Prop} {X : Nat → Nat → (Nat → Int32) → Prop} {P : PT} (hX : Gd l g own cc rm nL ret fin X P) {w : WD} {pc q : Nat} {lv : List (Option Value)} {st : List Value} {y : MethodName} {bytes : ByteArray} {maxL n index : Nat} {rt : Option FieldType} {rmc : Room} {w' : WD} {r : Int32} {o : Nat} {v1 v2 v3 v4 v5 : Value} (hd : decode cc pc = .ok (.invokevirtual index, 3)) (hq : pc + 3 = q) (hM : MI y bytes maxL rt n) (hlk : Cond.methodLink own index y ∈ TB) (hrc : Rc o y.cls) (hrm : RmOk rm rmc maxL) (hn : 5 = n) (hcat : (st.map fun v => v.category).sum ≤ 8) (hC : CtI l g y bytes maxL rt rmc [.ref (g_ad g o 0), v1, v2, v3, v4, v5] w r w') (kk : P w' q lv (.int r :: st)) : P w pc lv (v5 :: v4 :: v3 :: v2 :: v1 :: .ref (g_ad g o 0) :: st) := pw_callV hX (As := [v1, v2, v3, v4, v5]) hd hq hM hlk hrc hrm hn rfl hcat hC (fun r w2 h => by obtain ⟨rfl, rfl⟩ := h; exact kk)
theorem pw_cvV5 {l : Launch} {g : Geo} {own : String} {cc : ByteArray} {rm : Room} {nL : Nat} {ret : Option FieldType} {fin : Option Value → WD → Prop} {X : Nat → Nat → (Nat → Int32) → Prop} {P : PT} (hX : Gd l g own cc rm nL ret fin X P) {w : WD} {pc q : Nat} {lv : List (Option Value)} {st : List Value} {y : MethodName} {bytes : ByteArray} {maxL n index : Nat} {rt : Option FieldType} {rmc : Room} {w' : WD} {o : Nat} {v1 v2 v3 v4 v5 : Value} (hd : decode cc pc = .ok (.invokevirtual index, 3)) (hq : pc + 3 = q) (hM : MI y bytes maxL rt n) (hlk : Cond.methodLink own index y ∈ TB) (hrc : Rc o y.cls) (hrm : RmOk rm rmc maxL) (hn : 5 = n) (hcat : (st.map fun v => v.category).sum ≤ 8) (hC : CtV l g y bytes maxL rt rmc [.ref (g_ad g o 0), v1, v2, v3, v4, v5] w w') (kk : P w' q lv (st)) : P w pc lv (v5 :: v4 :: v3 :: v2 :: v1 :: .ref (g_ad g o 0) :: st) := pw_callV hX (As := [v1, v2, v3, v4, v5]) hd hq hM hlk hrc hrm hn rfl hcat hC (fun r w2 h => by obtain ⟨rfl, rfl⟩ := h; exact kk)
theorem pw_max {l : Launch} {g : Geo} {own : String} {cc : ByteArray} {rm : Room} {nL : Nat} {ret : Option FieldType} {fin : Option Value → WD → Prop} {X : Nat → Nat → (Nat → Int32) → Prop} {P : PT} (hX : Gd l g own cc rm nL ret fin X P) {w : WD} {pc q : Nat} {lv : List (Option Value)} {st : List Value} {index : Nat} {x y : Int32} (hd : decode cc pc = .ok (.invokestatic index, 3)) (hq : pc + 3 = q) (hlk : Cond.methodLink own index Lib.Math.max.name ∈ TB) (h1 : Cond.static Lib.Math.max.name ∈ TB) (h2 : Cond.initialized "java/lang/Math" ∈ TB) (h3 : Cond.code Lib.Math.max.name Lib.Math.max.code 2 (some .int) ∈ TB) (hfr : 1 ≤ rm.frames) (hlo : (st.map fun v => v.category).sum + 13 ≤ rm.locals) (kk : P w q lv (.int (if x < y then y else x) :: st)) : P w pc lv (.int y :: .int x :: st) := by
  obtain ⟨p, e, s, m, args, below, meth, c, cells, slots, Q, A, rfl, hx, hb, hml, hown, hTB, hNL, hK, hG, hcs, hScr, hri, hrv⟩ := hX
  subst hq
  intro H locs ls hP hS hl
  exact va_mmax hx hb (hml.trans hl.1.symm) hown (hTB _ hlk) (hTB _ h1) (hTB _ h2) (hTB _ h3) hfr hlo hcs.1 hcs.2 hd (kk H locs ls hP hS hl)
theorem cpy_I (f g : Nat → Nat) (a b n : Nat) : va_cpy (fun j => nI (f j)) (fun j => nI (g j)) a b n = fun j => nI (va_cpy f g a b n j) := by
  funext j
  simp only [va_cpy]
  split <;> rfl
theorem pw_copy {l : Launch} {g : Geo} {own : String} {cc : ByteArray} {rm : Room} {nL : Nat} {ret : Option FieldType} {fin : Option Value → WD → Prop} {X : Nat → Nat → (Nat → Int32) → Prop} {P : PT} (hX : Gd l g own cc rm nL ret fin X P) {w : WD} {pc q : Nat} {lv : List (Option Value)} {st : List Value} {index : Nat} {o1 k1 o2 k2 n : Nat} {i0 i1 i2 : Int32} (hd : decode cc pc = .ok (.invokestatic index, 3)) (hq : pc + 3 = q) (hlk : Cond.methodLink own index arraycopyName ∈ TB) (h1 : Cond.native arraycopyName ∈ TB) (h2 : Cond.static arraycopyName ∈ TB) (h3 : Cond.initialized "java/lang/System" ∈ TB)
    (hz1 : (o1, k1) ∈ g_dm g) (hk1 : k1 ≠ 0) (h81 : o1 ≠ 8) (hc1 : g_ch o1 k1 = false) (hl1 : g_ln o1 k1 = n) (hz2 : (o2, k2) ∈ g_dm g) (hk2 : k2 ≠ 0) (h82 : o2 ≠ 8) (hc2 : g_ch o2 k2 = false) (hl2 : g_ln o2 k2 = n) (hi0 : i0 = nI 0) (hi1 : i1 = nI 0) (hi2 : i2 = nI n)
    (hfr : 1 ≤ rm.frames) (hlo : (st.map fun v => v.category).sum + (nativeFrameWords "java/lang/System" "arraycopy" 5 + 11) ≤ rm.locals) (kk : P (wA w o2 k2 (w.1 o1 k1)) q lv st) : P w pc lv (.int i2 :: .int i1 :: .ref (g_ad g o2 k2) :: .int i0 :: .ref (g_ad g o1 k1) :: st) := by
  obtain ⟨p, e, s, m, args, below, meth, c, cells, slots, Q, A, rfl, hx, hb, hml, hown, hTB, hNL, hK, hG, hcs, hScr, hri, hrv⟩ := hX
  subst hq hi0 hi1 hi2
  intro H locs ls hP hS hl
  obtain ⟨j1, -, hj1⟩ := wl_a g w hz1 hk1 h81
  obtain ⟨j2, hi2, hj2⟩ := wl_a g w hz2 hk2 h82
  rw [hc1] at hj1
  rw [hc2] at hj2
  rw [hl1] at hj1
  rw [hl2] at hj2
  have hn : n ≤ 3252 := hl1 ▸ g_ln_le o1 k1
  have c0 : (nI 0).toNatClampNeg = 0 := nIc (by decide)
  have cn : (nI n).toNatClampNeg = n := nI_clamp (by omega)
  refine va_copyi hx hb (hml.trans hl.1.symm) hown (hTB _ hlk) (hTB _ h1) (hTB _ h2) (hTB _ h3) hK hP (g_D hG.1 hG.2 w) hS j1 j2 0 0 hj1 hj2 rfl rfl rfl (nI_pos (by decide)) (nI_pos (by decide)) (nI_pos (by omega)) (by rw [c0, cn]; omega) (by rw [c0, cn]; omega) (fun i _ => rfl) hfr hlo hd (fun H1 locs1 hP1 _ hS1 => kk H1 locs1 ls ?_ hS1 hl)
  rw [c0, cn, cpy_I] at hP1
  have e := wl_set (g := g) (w := w) (w' := wA w o2 k2 (va_cpy (w.1 o1 k1) (w.1 o2 k2) 0 0 n)) (q := (o2, k2)) hi2 (fun o' k' _ h => cell_wA h) (e := .inl (_, n, .inl (fun j => nI (va_cpy (w.1 o1 k1) (w.1 o2 k2) 0 0 n j)))) (by simp only [g_cell, if_neg hk2, if_neg h82, wA_s, hc2, hl2]; rfl)
  have hP2 : va_P g.1 vwCl (g_wl g (wA w o2 k2 (va_cpy (w.1 o1 k1) (w.1 o2 k2) 0 0 n))) H1 := by rw [← e]; exact hP1
  refine weq_P (w := wA w o2 k2 (va_cpy (w.1 o1 k1) (w.1 o2 k2) 0 0 n)) ⟨fun o k j hz hj => ?_, fun _ _ => rfl⟩ hP2
  by_cases h : o = o2 ∧ k = k2
  · obtain ⟨rfl, rfl⟩ := h
    rw [wA_s, wA_s]
    rw [if_neg hk2, hl2] at hj
    rw [pk_cpy_in (Nat.zero_le _) (by omega)]
    simp
  · rw [wA_n _ _ h, wA_n _ _ h]
end
section
/-- object o's parts are V -/
def wO (w : WD) (o : Nat) (V : Nat → Nat → Nat) : WD := (fun a => if a = o then V else w.1 a, w.2)
def vA (V : Nat → Nat → Nat) (k : Nat) (f : Nat → Nat) : Nat → Nat → Nat := fun b => if b = k then f else V b
def vU (V : Nat → Nat → Nat) (k i x : Nat) : Nat → Nat → Nat := vA V k (upN (V k) i x)
theorem wO_s (w : WD) (o : Nat) (V : Nat → Nat → Nat) : (wO w o V).1 o = V := by simp [wO]
theorem wO_n (w : WD) {o a : Nat} (V : Nat → Nat → Nat) (h : a ≠ o) : (wO w o V).1 a = w.1 a := by simp [wO, h]
theorem wO_2 (w : WD) (o : Nat) (V : Nat → Nat → Nat) : (wO w o V).2 = w.2 := rfl
theorem wO_id (w : WD) (o : Nat) : wO w o (w.1 o) = w := by
  refine Prod.ext (funext fun a => ?_) rfl
  by_cases h : a = o
  · subst h; simp [wO]
  · simp [wO, h]
theorem wO_wO (w : WD) (o : Nat) (V V' : Nat → Nat → Nat) : wO (wO w o V) o V' = wO w o V' := by
  refine Prod.ext (funext fun a => ?_) rfl
  by_cases h : a = o
  · subst h; simp [wO]
  · simp [wO, h]
theorem wO_comm (w : WD) {o o' : Nat} (V V' : Nat → Nat → Nat) (h : o ≠ o') : wO (wO w o V) o' V' = wO (wO w o' V') o V := by
  refine Prod.ext (funext fun a => ?_) rfl
  by_cases h1 : a = o
  · subst h1; simp [wO, h]
  · by_cases h2 : a = o'
    · subst h2; simp [wO, h1]
    · simp [wO, h1, h2]
theorem vA_s (V : Nat → Nat → Nat) (k : Nat) (f : Nat → Nat) : vA V k f k = f := by simp [vA]
theorem vA_n (V : Nat → Nat → Nat) {k b : Nat} (f : Nat → Nat) (h : b ≠ k) : vA V k f b = V b := by simp [vA, h]
theorem vA_vA (V : Nat → Nat → Nat) (k : Nat) (f f' : Nat → Nat) : vA (vA V k f) k f' = vA V k f' := by
  funext b
  by_cases h : b = k
  · subst h; simp [vA]
  · simp [vA, h]
theorem vA_id (V : Nat → Nat → Nat) (k : Nat) : vA V k (V k) = V := by
  funext b
  by_cases h : b = k
  · subst h; simp [vA]
  · simp [vA, h]
theorem vU_s (V : Nat → Nat → Nat) (k i x : Nat) : vU V k i x k = upN (V k) i x := by simp [vU, vA]
theorem vU_n (V : Nat → Nat → Nat) {k b : Nat} (i x : Nat) (h : b ≠ k) : vU V k i x b = V b := by simp [vU, vA, h]
theorem wA_wO (w : WD) (o k : Nat) (V : Nat → Nat → Nat) (f : Nat → Nat) : wA (wO w o V) o k f = wO w o (vA V k f) := by
  refine Prod.ext (funext fun a => funext fun b => ?_) rfl
  by_cases h : a = o
  · subst h
    by_cases hb : b = k
    · subst hb; simp [wA, wO, vA]
    · simp [wA, wO, vA, hb]
  · simp [wA, wO, h]
def fsVF (g : Geo) (o : Nat) (V : Nat → Nat → Nat) : List Value := [.int (nI (V 0 0)), .int (nI (V 0 1)), .int (nI (V 0 2)), .int (nI (V 0 3)), .ref (g_ad g o 1), .ref (g_ad g o 2), .ref (g_ad g o 3), .ref (g_ad g o 4), .ref (g_ad g o 5), .ref (g_ad g o 6), .ref (g_ad g o 7), .ref (g_ad g o 8), .ref (g_ad g o 9), .ref (g_ad g o 10), .ref (g_ad g o 11)]
theorem fsVF_e (g : Geo) (w : WD) (o : Nat) (V : Nat → Nat → Nat) : fsV g (wO w o V) o = fsVF g o V := by simp [fsV, fsVF, wO_s]
theorem pw_getVF {l : Launch} {g : Geo} {own : String} {cc : ByteArray} {rm : Room} {nL : Nat} {ret : Option FieldType} {fin : Option Value → WD → Prop} {X : Nat → Nat → (Nat → Int32) → Prop} {P : PT} (hX : Gd l g own cc rm nL ret fin X P) {w : WD} {pc q : Nat} {lv : List (Option Value)} {st : List Value} {V : Nat → Nat → Nat} {o : Nat} (ho : o < 7) (k : Nat) {v : Value} {index : Nat} (hk : k < 15) (hlink : Cond.fieldLink own index (TX2 k).1 (TX2 k).2.1 (TX2 k).2.2.1 ∈ TB) (hv : (fsVF g o V)[k]? = some v) (hd : decode cc pc = .ok (.getfield index, 3)) (hq : pc + 3 = q) (kk : P (wO w o V) q lv (v :: st)) : P (wO w o V) pc lv (.ref (g_ad g o 0) :: st) := pw_getV hX ho k hk hlink (by rw [fsVF_e]; exact hv) hd hq kk
theorem pw_putVF {l : Launch} {g : Geo} {own : String} {cc : ByteArray} {rm : Room} {nL : Nat} {ret : Option FieldType} {fin : Option Value → WD → Prop} {X : Nat → Nat → (Nat → Int32) → Prop} {P : PT} (hX : Gd l g own cc rm nL ret fin X P) {w : WD} {pc q : Nat} {lv : List (Option Value)} {st : List Value} {V : Nat → Nat → Nat} {o : Nat} (ho : o < 7) (k : Nat) {x index : Nat} (hk : k < 4) (hlink : Cond.fieldLink own index (TX2 k).1 (TX2 k).2.1 (TX2 k).2.2.1 ∈ TB) (hd : decode cc pc = .ok (.putfield index, 3)) (hq : pc + 3 = q) (kk : P (wO w o (vU V 0 k x)) q lv st) : P (wO w o V) pc lv (.int (nI x) :: .ref (g_ad g o 0) :: st) := pw_putV hX ho k hk hlink hd hq (by rw [wA_wO, wO_s]; exact kk)
theorem pw_ialdVF {l : Launch} {g : Geo} {own : String} {cc : ByteArray} {rm : Room} {nL : Nat} {ret : Option FieldType} {fin : Option Value → WD → Prop} {X : Nat → Nat → (Nat → Int32) → Prop} {P : PT} (hX : Gd l g own cc rm nL ret fin X P) {w : WD} {pc q : Nat} {lv : List (Option Value)} {st : List Value} {V : Nat → Nat → Nat} {o : Nat} (ho : o < 7) (k : Nat) {i : Nat} (hk : 1 ≤ k ∧ k < 12) (hlt : i < lnV k) (hd : decode cc pc = .ok (.iaload, 1)) (hq : pc + 1 = q) (kk : P (wO w o V) q lv (.int (nI (V k i)) :: st)) : P (wO w o V) pc lv (.int (nI i) :: .ref (g_ad g o k) :: st) := pw_ialdV hX ho k hk hlt hd hq (by rw [wO_s]; exact kk)
theorem pw_iastVF {l : Launch} {g : Geo} {own : String} {cc : ByteArray} {rm : Room} {nL : Nat} {ret : Option FieldType} {fin : Option Value → WD → Prop} {X : Nat → Nat → (Nat → Int32) → Prop} {P : PT} (hX : Gd l g own cc rm nL ret fin X P) {w : WD} {pc q : Nat} {lv : List (Option Value)} {st : List Value} {V : Nat → Nat → Nat} {o : Nat} (ho : o < 7) (k : Nat) {i x : Nat} (hk : 1 ≤ k ∧ k < 12) (hlt : i < lnV k) (hd : decode cc pc = .ok (.iastore, 1)) (hq : pc + 1 = q) (kk : P (wO w o (vU V k i x)) q lv st) : P (wO w o V) pc lv (.int (nI x) :: .int (nI i) :: .ref (g_ad g o k) :: st) := pw_iastV hX ho k hk hlt hd hq (by rw [wA_wO, wO_s]; exact kk)
theorem n_or (a b : Nat) : nI a ||| nI b = nI (a ||| b) := by
  apply Int32.toBitVec_inj.mp
  show BitVec.ofNat 32 a ||| BitVec.ofNat 32 b = BitVec.ofNat 32 (a ||| b)
  apply BitVec.eq_of_toNat_eq
  simp [BitVec.toNat_or, Nat.or_mod_two_pow]
theorem n_and (a b : Nat) : nI a &&& nI b = nI (a &&& b) := by
  apply Int32.toBitVec_inj.mp
  show BitVec.ofNat 32 a &&& BitVec.ofNat 32 b = BitVec.ofNat 32 (a &&& b)
  apply BitVec.eq_of_toNat_eq
  simp [BitVec.toNat_and, Nat.and_mod_two_pow]
theorem n_shc : ∀ n, n < 31 → (nI 1) <<< (nI n &&& 31) = nI (2 ^ n) := by decide +kernel
theorem pw_iorN {l : Launch} {g : Geo} {own : String} {cc : ByteArray} {rm : Room} {nL : Nat} {ret : Option FieldType} {fin : Option Value → WD → Prop} {X : Nat → Nat → (Nat → Int32) → Prop} {P : PT} (hX : Gd l g own cc rm nL ret fin X P) {w : WD} {pc q : Nat} {lv : List (Option Value)} {st : List Value} {a b : Nat} (hd : decode cc pc = .ok (.ior, 1)) (hq : pc + 1 = q) (kk : P w q lv (.int (nI (a ||| b)) :: st)) : P w pc lv (.int (nI b) :: .int (nI a) :: st) := pw_ior hX hd hq (by rw [n_or]; exact kk)
theorem pw_iandN {l : Launch} {g : Geo} {own : String} {cc : ByteArray} {rm : Room} {nL : Nat} {ret : Option FieldType} {fin : Option Value → WD → Prop} {X : Nat → Nat → (Nat → Int32) → Prop} {P : PT} (hX : Gd l g own cc rm nL ret fin X P) {w : WD} {pc q : Nat} {lv : List (Option Value)} {st : List Value} {a b : Nat} (hd : decode cc pc = .ok (.iand, 1)) (hq : pc + 1 = q) (kk : P w q lv (.int (nI (a &&& b)) :: st)) : P w pc lv (.int (nI b) :: .int (nI a) :: st) := pw_iand hX hd hq (by rw [n_and]; exact kk)
theorem pw_ishl1 {l : Launch} {g : Geo} {own : String} {cc : ByteArray} {rm : Room} {nL : Nat} {ret : Option FieldType} {fin : Option Value → WD → Prop} {X : Nat → Nat → (Nat → Int32) → Prop} {P : PT} (hX : Gd l g own cc rm nL ret fin X P) {w : WD} {pc q : Nat} {lv : List (Option Value)} {st : List Value} {b : Nat} (hb : b < 31) (hd : decode cc pc = .ok (.ishl, 1)) (hq : pc + 1 = q) (kk : P w q lv (.int (nI (2 ^ b)) :: st)) : P w pc lv (.int (nI b) :: .int (nI 1) :: st) := pw_ishl hX hd hq (by rw [n_shc _ hb]; exact kk)
theorem pw_iremN {l : Launch} {g : Geo} {own : String} {cc : ByteArray} {rm : Room} {nL : Nat} {ret : Option FieldType} {fin : Option Value → WD → Prop} {X : Nat → Nat → (Nat → Int32) → Prop} {P : PT} (hX : Gd l g own cc rm nL ret fin X P) {w : WD} {pc q : Nat} {lv : List (Option Value)} {st : List Value} {a b : Nat} (ha : a < 2 ^ 31) (h0 : 0 < b) (hb : b < 2 ^ 31) (hd : decode cc pc = .ok (.irem, 1)) (hq : pc + 1 = q) (kk : P w q lv (.int (nI (a % b)) :: st)) : P w pc lv (.int (nI b) :: .int (nI a) :: st) := pw_irem hX (fun z => by have h9 := (nI_eq (by omega) (by decide)).mp (z.trans nI_0.symm); omega) hd hq (by rw [pk_rem ha h0 hb]; exact kk)
theorem pw_idivN {l : Launch} {g : Geo} {own : String} {cc : ByteArray} {rm : Room} {nL : Nat} {ret : Option FieldType} {fin : Option Value → WD → Prop} {X : Nat → Nat → (Nat → Int32) → Prop} {P : PT} (hX : Gd l g own cc rm nL ret fin X P) {w : WD} {pc q : Nat} {lv : List (Option Value)} {st : List Value} {a b : Nat} (ha : a < 2 ^ 31) (h0 : 0 < b) (hb : b < 2 ^ 31) (hd : decode cc pc = .ok (.idiv, 1)) (hq : pc + 1 = q) (kk : P w q lv (.int (nI (a / b)) :: st)) : P w pc lv (.int (nI b) :: .int (nI a) :: st) := pw_idiv hX (fun z => by have h9 := (nI_eq (by omega) (by decide)).mp (z.trans nI_0.symm); omega) hd hq (by rw [pk_div ha h0 hb]; exact kk)
theorem loopUp {Z : Nat → Prop} {e : Nat} (h : ∀ i, i ≤ e → (i < e → Z (i + 1)) → Z i) : ∀ i, i ≤ e → Z i := by
  have key : ∀ d i, i ≤ e → e - i ≤ d → Z i := by
    intro d
    induction d with
    | zero => intro i hi hd; exact h i hi (fun hlt => by omega)
    | succ d ih => intro i hi hd; exact h i hi (fun hlt => ih (i + 1) (by omega) (by omega))
  exact fun i hi => key (e - i) i hi (Nat.le_refl _)
theorem CtI.at {l : Launch} {g : Geo} {y : MethodName} {bytes : ByteArray} {maxL : Nat} {ret : Option FieldType} {rm : Room} {av : List Value} {o : Nat} {w : WD} {r : Int32} {V' : Nat → Nat → Nat} (h : CtI l g y bytes maxL ret rm av (wO w o (w.1 o)) r (wO w o V')) : CtI l g y bytes maxL ret rm av w r (wO w o V') := by
  rw [wO_id] at h; exact h
theorem CtV.at {l : Launch} {g : Geo} {y : MethodName} {bytes : ByteArray} {maxL : Nat} {ret : Option FieldType} {rm : Room} {av : List Value} {o : Nat} {w : WD} {V' : Nat → Nat → Nat} (h : CtV l g y bytes maxL ret rm av (wO w o (w.1 o)) (wO w o V')) : CtV l g y bytes maxL ret rm av w (wO w o V') := by
  rw [wO_id] at h; exact h
/-- a number that an index test lets through -/
def hasN (n : Nat) (v : Int32) : Bool := decide (0 ≤ v.toInt ∧ v.toInt < n)
theorem hasN_nI {n i : Nat} (hi : i < 2 ^ 31) : hasN n (nI i) = decide (i < n) := by
  unfold hasN
  rw [nI_toInt hi]
  by_cases h : i < n
  · simp [h]
  · simp [h]
theorem hasN_of {n : Nat} {v : Int32} (hn : n < 2 ^ 31) (h : hasN n v = true) : ∃ i, i < n ∧ v = nI i := by
  unfold hasN at h
  have h := of_decide_eq_true h
  refine ⟨v.toInt.toNat, by omega, ?_⟩
  apply Int32.toInt_inj.mp
  rw [nI_toInt (by omega)]
  omega
/-- the reference: its row s is S, all else of it V -/
theorem vA_comm (V : Nat → Nat → Nat) {k k' : Nat} (f f' : Nat → Nat) (h : k ≠ k') : vA (vA V k f) k' f' = vA (vA V k' f') k f := by
  funext b
  by_cases h1 : b = k
  · subst h1; simp [vA, h]
  · by_cases h2 : b = k'
    · subst h2; simp [vA, h1]
    · simp [vA, h1, h2]
theorem jn {A B : Prop} (a : A) (f : A → B) : B := f a
def lle (l' l : List (Option Value)) : Prop := ∀ i v, lg l' i = some v → lg l i = some v
theorem lle_nil {l : List (Option Value)} : lle [] l := fun i v h => by simp [lg] at h
theorem lle_rfl {l : List (Option Value)} : lle l l := fun i v h => h
theorem lle_cons {a : Option Value} {l l' : List (Option Value)} (h : lle l' l) : lle (a :: l') (a :: l) := fun i v hi => by
  cases i with
  | zero => exact hi
  | succ i => exact h i v hi
theorem lle_none {b : Option Value} {l l' : List (Option Value)} (h : lle l' l) : lle (none :: l') (b :: l) := fun i v hi => by
  cases i with
  | zero => simp [lg] at hi
  | succ i => exact h i v hi
def ix (v : Int32) : Nat := v.toInt.toNat
theorem ix_nI {i : Nat} (h : i < 2 ^ 31) : ix (nI i) = i := by unfold ix; rw [nI_toInt h]; omega
/-- the first n of f, then g -/
def cp (n : Nat) (f g : Nat → Nat) : Nat → Nat := fun k => if k < n then f k else g k
theorem cp_0 (f g : Nat → Nat) : cp 0 f g = g := by funext k; simp [cp]
theorem cp_s (n : Nat) (f g : Nat → Nat) : upN (cp n f g) n (f n) = cp (n + 1) f g := by
  funext k
  by_cases h : k = n
  · subst h; simp [upN, cp]
  · simp only [upN, if_neg h, cp]
    by_cases h2 : k < n
    · rw [if_pos h2, if_pos (by omega)]
    · rw [if_neg h2, if_neg (by omega)]
theorem pw_fg {l : Launch} {g : Geo} {own : String} {cc : ByteArray} {rm : Room} {nL : Nat} {ret : Option FieldType} {fin : Option Value → WD → Prop} {X : Nat → Nat → (Nat → Int32) → Prop} {P : PT} (hX : Gd l g own cc rm nL ret fin X P) {w : WD} {pc : Nat} {lv : List (Option Value)} {st : List Value} {lv' : List (Option Value)} (hle : lle lv' lv) (kk : P w pc lv' st) : P w pc lv st := by
  obtain ⟨p, e, s, m, args, below, meth, c, cells, slots, Q, A, rfl, hx, hb, hml, hown, hTB, hNL, hK, hG, hcs, hScr, hri, hrv⟩ := hX
  intro H locs ls hP hS hl
  exact kk H locs ls hP hS ⟨hl.1, hl.2.1, fun i v h => hl.2.2 i v (hle i v h)⟩
end
section
/-- lo to hi -/
def inN (lo hi : Nat) (v : Int32) : Bool := decide ((lo : Int) ≤ v.toInt ∧ v.toInt ≤ hi)
theorem inN_of {lo hi : Nat} {v : Int32} (hn : hi < 2 ^ 31) (h : inN lo hi v = true) : ∃ i, lo ≤ i ∧ i ≤ hi ∧ v = nI i := by
  unfold inN at h
  have h := of_decide_eq_true h
  refine ⟨v.toInt.toNat, by omega, by omega, ?_⟩
  apply Int32.toInt_inj.mp
  rw [nI_toInt (by omega)]
  omega
theorem inN_nI {lo hi i : Nat} (hi' : i < 2 ^ 31) : inN lo hi (nI i) = decide (lo ≤ i ∧ i ≤ hi) := by
  unfold inN
  rw [nI_toInt hi']
  simp
/-- how many of the first n -/
def cnt (p : Nat → Bool) : Nat → Nat
  | 0 => 0
  | n + 1 => cnt p n + if p n = true then 1 else 0
/-- a set of numbers below n -/
def bits (p : Nat → Bool) : Nat → Nat
  | 0 => 0
  | n + 1 => bits p n ||| (if p n = true then 2 ^ n else 0)
theorem bits_lt (p : Nat → Bool) : ∀ n, bits p n < 2 ^ n
  | 0 => by show 0 < 1; decide
  | n + 1 => by
    show bits p n ||| (if p n = true then 2 ^ n else 0) < 2 ^ (n + 1)
    refine Nat.or_lt_two_pow (Nat.lt_trans (bits_lt p n) (Nat.pow_lt_pow_right (by decide) (by omega))) ?_
    split
    · exact Nat.pow_lt_pow_right (by decide) (by omega)
    · exact Nat.two_pow_pos _
/-- 0 for nobody, else the number and one more -/
def bv (b : Nat) : Int32 := if b = 0 then -1 else nI (b - 1)
theorem bv_s (b : Nat) : bv (b + 1) = nI b := rfl
theorem cnt_s (p : Nat → Bool) (n : Nat) : cnt p (n + 1) = cnt p n + if p n = true then 1 else 0 := rfl
theorem upN_upN (f : Nat → Nat) (k x y : Nat) : upN (upN f k x) k y = upN f k y := by
  funext j; simp only [upN]; split <;> rfl
theorem loopDn {Z : Nat → Prop} (h : ∀ f, (0 < f → Z (f - 1)) → Z f) : ∀ f, Z f
  | 0 => h 0 (fun z => absurd z (Nat.lt_irrefl 0))
  | f + 1 => h (f + 1) (fun _ => loopDn h f)
theorem nI_nn {a : Nat} (h : a < 2 ^ 31) {k : Int32} (hk : k.toInt < 0) : nI a ≠ k := fun z => by
  have h1 := nI_toInt h
  rw [z] at h1
  omega
end
section
theorem tw_ac_s : Cond.static arraycopyName ∈ TB := tb_of 162 (by decide +kernel) rfl
theorem tw_ac_n : Cond.native arraycopyName ∈ TB := tb_of 163 (by decide +kernel) rfl
theorem tw_ac_i : Cond.initialized "java/lang/System" ∈ TB := tb_of 14 (by decide +kernel) rfl
theorem tw_max_s : Cond.static Lib.Math.max.name ∈ TB := tb_of 211 (by decide +kernel) rfl
theorem tw_max_i : Cond.initialized "java/lang/Math" ∈ TB := tb_of 15 (by decide +kernel) rfl
theorem tw_max_c : Cond.code Lib.Math.max.name Lib.Math.max.code 2 (some .int) ∈ TB := tb_of 212 (by decide +kernel) rfl
/-- the numbers of a village are small; those of ghosts and of tombs made may be any -/
def bV (V : Nat → Nat → Nat) : Prop := (∀ k i, 1 ≤ k → k ≤ 3 → i < 7 → V k i < 2 ^ 30) ∧ (∀ k i, 5 ≤ k → k ≤ 10 → i < 84 → V k i < 2 ^ 30) ∧ (∀ i, i < 12 → V 11 i < 2 ^ 30) ∧ V 0 0 ≤ 7 ∧ V 0 1 < 2 ^ 30 ∧ V 0 2 < 2 ^ 30
theorem bV7 {V : Nat → Nat → Nat} (h : bV V) {k i : Nat} (h1 : 1 ≤ k ∧ k ≤ 3) (hi : i < 7) : V k i < 2 ^ 31 := by have := h.1 k i h1.1 h1.2 hi; omega
theorem bV84 {V : Nat → Nat → Nat} (h : bV V) {k i : Nat} (h1 : 5 ≤ k ∧ k ≤ 10) (hi : i < 84) : V k i < 2 ^ 31 := by have := h.2.1 k i h1.1 h1.2 hi; omega
theorem bV12 {V : Nat → Nat → Nat} (h : bV V) {i : Nat} (hi : i < 12) : V 11 i < 2 ^ 31 := by have := h.2.2.1 i hi; omega
theorem bV_0 {V : Nat → Nat → Nat} (h : bV V) : V 0 0 < 2 ^ 31 := by have := h.2.2.2.1; omega
theorem bV_1 {V : Nat → Nat → Nat} (h : bV V) : V 0 1 < 2 ^ 31 := by have := h.2.2.2.2.1; omega
theorem bV_2 {V : Nat → Nat → Nat} (h : bV V) : V 0 2 < 2 ^ 31 := by have := h.2.2.2.2.2; omega
theorem inN_lo {lo hi : Nat} (h1 : lo < 2 ^ 31) {v : Int32} (h : v < nI lo) : inN lo hi v = false := by
  unfold inN
  rw [Int32.lt_iff_toInt_lt, nI_toInt h1] at h
  exact decide_eq_false (by omega)
theorem inN_hi {lo hi : Nat} (h1 : hi < 2 ^ 31) {v : Int32} (h : nI hi < v) : inN lo hi v = false := by
  unfold inN
  rw [Int32.lt_iff_toInt_lt, nI_toInt h1] at h
  exact decide_eq_false (by omega)
theorem inN_ok {lo hi : Nat} (h1 : lo < 2 ^ 31) (h2 : hi < 2 ^ 31) {v : Int32} (h : ¬ v < nI lo) (h' : ¬ nI hi < v) : inN lo hi v = true := by
  unfold inN
  rw [Int32.lt_iff_toInt_lt, nI_toInt h1] at h
  rw [Int32.lt_iff_toInt_lt, nI_toInt h2] at h'
  exact decide_eq_true (by omega)
theorem hasN_lo {n : Nat} {v : Int32} (h : v < 0) : hasN n v = false := by
  unfold hasN
  rw [Int32.lt_iff_toInt_lt, show (0 : Int32).toInt = 0 by decide] at h
  exact decide_eq_false (by omega)
theorem hasN_hi {n : Nat} (h1 : n < 2 ^ 31) {v : Int32} (h : nI n ≤ v) : hasN n v = false := by
  unfold hasN
  rw [Int32.le_iff_toInt_le, nI_toInt h1] at h
  exact decide_eq_false (by omega)
theorem hasN_ok {n : Nat} (h1 : n < 2 ^ 31) {v : Int32} (h : ¬ v < 0) (h' : ¬ nI n ≤ v) : hasN n v = true := by
  unfold hasN
  rw [Int32.lt_iff_toInt_lt, show (0 : Int32).toInt = 0 by decide] at h
  rw [Int32.le_iff_toInt_le, nI_toInt h1] at h'
  exact decide_eq_true (by omega)
def kCp (V U : Nat → Nat → Nat) : Nat → Nat → Nat := fun k => if k = 0 then (fun j => if j < 4 then U 0 j else V 0 j) else if k < 12 then U k else V k
def kAw (V : Nat → Nat → Nat) (v : Int32) : Bool := hasN (V 0 0) v && decide (V 1 (ix v) = 0)
def kAs (V : Nat → Nat → Nat) (v : Int32) : Bool := hasN (V 0 0) v && decide (V 1 (ix v) = 1)
def kRum (V : Nat → Nat → Nat) (p : Nat) : Bool := decide (V 5 p ≠ 0 ∧ V 6 p ≠ 3)
def kTmb (V : Nat → Nat → Nat) (p : Nat) : Bool := decide (V 5 p ≠ 0 ∧ V 6 p = 3)
def kDead (V : Nat → Nat → Nat) (v t : Nat) : Bool := kRum V (v * 12 + t) && decide (V 5 (v * 12 + t) < V 11 t)
def kMany (V : Nat → Nat → Nat) (a : Nat) : Nat := cnt (fun v => decide (V 1 v = a)) (V 0 0)
def sm (f : Nat → Nat) : Nat → Nat
  | 0 => 0
  | n + 1 => sm f n + f n
theorem bits_s (p : Nat → Bool) (n : Nat) : bits p (n + 1) = bits p n ||| (if p n = true then 2 ^ n else 0) := rfl
def kWr (V : Nat → Nat → Nat) (v p k : Nat) : Nat → Nat → Nat := vU (vU (vU V 2 v (V 2 v + 1)) 5 p ((V 2 v + 1) * 8 + v)) 6 p k
abbrev rm_X3_place : Room := { frames := 0, cells := 0, slots := 0, locals := 0 }
set_option maxHeartbeats 800000 in
set_option maxRecDepth 20000 in
theorem c_X3_place {l : Launch} {g : Geo} {w : WD} {v t : Nat}  : CtI l g yX3_place cX3_place 2 (some .int) rm_X3_place [.int (nI v), .int (nI t)] (w) (nI (v * 12 + t)) (w) := by
  refine ct_of mi_X3_place.2.2.2.2 ⟨rfl, rfl⟩ (List.forall_mem_cons.mpr ⟨rfl, List.forall_mem_cons.mpr ⟨rfl, fun _ h => absurd h List.not_mem_nil⟩⟩) (Nat.le_of_ble_eq_true rfl) (fun P hX => ?_)
  replace hX : Gd l g RX3 cX3_place rm_X3_place 2 (some .int) _ _ P := hX
  show P (w) 0 [some (.int (nI v)), some (.int (nI t))] []
  refine pw_iload_n hX rfl dX3_place_0 (q := 1) rfl ?_
  refine pw_bipush hX (k := 12) (by decide) dX3_place_1 (q := 3) rfl ?_
  refine pw_imulN hX dX3_place_3 (q := 4) rfl ?_
  refine pw_iload_n hX rfl dX3_place_4 (q := 5) rfl ?_
  refine pw_iaddN hX dX3_place_5 (q := 6) rfl ?_
  refine pw_ireturn hX dX3_place_6 ⟨_, rfl, rfl⟩ ⟨congrArg (fun z => some (Value.int z)) ?_, ?_⟩
  · rfl
  · rfl
abbrev rm_X3_isTopic : Room := { frames := 0, cells := 0, slots := 0, locals := 0 }
set_option maxHeartbeats 800000 in
set_option maxRecDepth 20000 in
theorem c_X3_isTopic {l : Launch} {g : Geo} {w : WD} {v : Int32}  : CtI l g yX3_isTopic cX3_isTopic 1 (some .boolean) rm_X3_isTopic [.int v] (w) (bI (hasN 12 v)) (w) := by
  refine ct_of mi_X3_isTopic.2.2.2.2 ⟨rfl, rfl⟩ (List.forall_mem_cons.mpr ⟨rfl, fun _ h => absurd h List.not_mem_nil⟩) (Nat.le_of_ble_eq_true rfl) (fun P hX => ?_)
  replace hX : Gd l g RX3 cX3_isTopic rm_X3_isTopic 1 (some .boolean) _ _ P := hX
  show P (w) 0 [some (.int v)] []
  refine pw_iload_n hX rfl dX3_isTopic_0 (q := 1) rfl ?_
  refine pw_if_lt hX (tgt := 14) dX3_isTopic_1 (q := 4) rfl (by decide) (fun h_1 => ?_) (fun h_1 => ?_)
  · refine pw_iconst hX (k := 0) rfl (by decide) dX3_isTopic_14 (q := 15) rfl ?_
    refine pw_ireturn hX dX3_isTopic_15 ⟨_, rfl, by first | exact bI_nar _ | decide | rfl⟩ ⟨congrArg (fun z => some (Value.int z)) ?_, ?_⟩
    · first | (rw [hasN_lo h_1]; rfl) | (rw [hasN_hi (by decide) h_7]; rfl) | (rw [hasN_ok (by decide) h_1 h_7]; rfl)
    · rfl
  · refine pw_iload_n hX rfl dX3_isTopic_4 (q := 5) rfl ?_
    refine pw_bipush hX (k := 12) (by decide) dX3_isTopic_5 (q := 7) rfl ?_
    refine pw_icmp_ge hX (tgt := 14) dX3_isTopic_7 (q := 10) rfl (by decide) (fun h_7 => ?_) (fun h_7 => ?_)
    · refine pw_iconst hX (k := 0) rfl (by decide) dX3_isTopic_14 (q := 15) rfl ?_
      refine pw_ireturn hX dX3_isTopic_15 ⟨_, rfl, by first | exact bI_nar _ | decide | rfl⟩ ⟨congrArg (fun z => some (Value.int z)) ?_, ?_⟩
      · first | (rw [hasN_lo h_1]; rfl) | (rw [hasN_hi (by decide) h_7]; rfl) | (rw [hasN_ok (by decide) h_1 h_7]; rfl)
      · rfl
    · refine pw_iconst hX (k := 1) rfl (by decide) dX3_isTopic_10 (q := 11) rfl ?_
      refine pw_goto hX (tgt := 15) dX3_isTopic_11 (by decide) ?_
      refine pw_ireturn hX dX3_isTopic_15 ⟨_, rfl, by first | exact bI_nar _ | decide | rfl⟩ ⟨congrArg (fun z => some (Value.int z)) ?_, ?_⟩
      · first | (rw [hasN_lo h_1]; rfl) | (rw [hasN_hi (by decide) h_7]; rfl) | (rw [hasN_ok (by decide) h_1 h_7]; rfl)
      · rfl
abbrev rm_X2_copyRow : Room := { frames := 1, cells := 0, slots := 0, locals := 26 }
set_option maxHeartbeats 800000 in
set_option maxRecDepth 20000 in
theorem c_X2_copyRow {l : Launch} {g : Geo} {w : WD} {o1 k1 o2 k2 n : Nat} (hz1 : (o1, k1) ∈ g_dm g) (hk1 : k1 ≠ 0) (h81 : o1 ≠ 8) (hc1 : g_ch o1 k1 = false) (hl1 : g_ln o1 k1 = n) (hz2 : (o2, k2) ∈ g_dm g) (hk2 : k2 ≠ 0) (h82 : o2 ≠ 8) (hc2 : g_ch o2 k2 = false) (hl2 : g_ln o2 k2 = n) : CtV l g yX2_copyRow cX2_copyRow 3 none rm_X2_copyRow [.ref (g_ad g o1 k1), .ref (g_ad g o2 k2), .int (nI n)] (w) (wA w o2 k2 (w.1 o1 k1)) := by
  refine ct_of mi_X2_copyRow.2.2.2.2 ⟨rfl, rfl⟩ (List.forall_mem_cons.mpr ⟨rfl, List.forall_mem_cons.mpr ⟨rfl, List.forall_mem_cons.mpr ⟨rfl, fun _ h => absurd h List.not_mem_nil⟩⟩⟩) (Nat.le_of_ble_eq_true rfl) (fun P hX => ?_)
  replace hX : Gd l g RX2 cX2_copyRow rm_X2_copyRow 3 none _ _ P := hX
  show P (w) 0 [some (.ref (g_ad g o1 k1)), some (.ref (g_ad g o2 k2)), some (.int (nI n))] []
  refine pw_aload_n hX rfl dX2_copyRow_0 (q := 1) rfl ?_
  refine pw_iconst hX (k := 0) rfl (by decide) dX2_copyRow_1 (q := 2) rfl ?_
  refine pw_aload_n hX rfl dX2_copyRow_2 (q := 3) rfl ?_
  refine pw_iconst hX (k := 0) rfl (by decide) dX2_copyRow_3 (q := 4) rfl ?_
  refine pw_iload_n hX rfl dX2_copyRow_4 (q := 5) rfl ?_
  refine pw_copy hX dX2_copyRow_5 (q := 8) rfl ml_X2_62 tw_ac_n tw_ac_s tw_ac_i hz1 hk1 h81 hc1 hl1 hz2 hk2 h82 hc2 hl2 rfl rfl rfl (by decide) (Nat.le_of_ble_eq_true rfl) ?_
  refine pw_return hX dX2_copyRow_8 rfl ⟨rfl, ?_⟩
  rfl
abbrev rm_X2_has : Room := { frames := 0, cells := 0, slots := 0, locals := 0 }
set_option maxHeartbeats 800000 in
set_option maxRecDepth 20000 in
theorem c_X2_has {l : Launch} {g : Geo} {w : WD} {V : Nat → Nat → Nat} {o : Nat} {v : Int32} (ho : o < 7) (hV : bV V) : CtI l g yX2_has cX2_has 2 (some .boolean) rm_X2_has [.ref (g_ad g o 0), .int v] (wO w o V) (bI (hasN (V 0 0) v)) (wO w o V) := by
  refine ct_of mi_X2_has.2.2.2.2.2 ⟨rfl, rfl⟩ (List.forall_mem_cons.mpr ⟨rfl, List.forall_mem_cons.mpr ⟨rfl, fun _ h => absurd h List.not_mem_nil⟩⟩) (Nat.le_of_ble_eq_true rfl) (fun P hX => ?_)
  replace hX : Gd l g RX2 cX2_has rm_X2_has 2 (some .boolean) _ _ P := hX
  show P (wO w o V) 0 [some (.ref (g_ad g o 0)), some (.int v)] []
  refine pw_iload_n hX rfl dX2_has_0 (q := 1) rfl ?_
  refine pw_if_lt hX (tgt := 16) dX2_has_1 (q := 4) rfl (by decide) (fun h_1 => ?_) (fun h_1 => ?_)
  · refine pw_iconst hX (k := 0) rfl (by decide) dX2_has_16 (q := 17) rfl ?_
    refine pw_ireturn hX dX2_has_17 ⟨_, rfl, by first | exact bI_nar _ | decide | rfl⟩ ⟨congrArg (fun z => some (Value.int z)) ?_, ?_⟩
    · first | (rw [hasN_lo h_1]; rfl) | (rw [hasN_hi (bV_0 hV) h_9]; rfl) | (rw [hasN_ok (bV_0 hV) h_1 h_9]; rfl)
    · rfl
  · refine pw_iload_n hX rfl dX2_has_4 (q := 5) rfl ?_
    refine pw_aload_n hX rfl dX2_has_5 (q := 6) rfl ?_
    refine pw_getVF hX ho 0 (by decide) fl_X2_9 rfl dX2_has_6 (q := 9) rfl ?_
    refine pw_icmp_ge hX (tgt := 16) dX2_has_9 (q := 12) rfl (by decide) (fun h_9 => ?_) (fun h_9 => ?_)
    · refine pw_iconst hX (k := 0) rfl (by decide) dX2_has_16 (q := 17) rfl ?_
      refine pw_ireturn hX dX2_has_17 ⟨_, rfl, by first | exact bI_nar _ | decide | rfl⟩ ⟨congrArg (fun z => some (Value.int z)) ?_, ?_⟩
      · first | (rw [hasN_lo h_1]; rfl) | (rw [hasN_hi (bV_0 hV) h_9]; rfl) | (rw [hasN_ok (bV_0 hV) h_1 h_9]; rfl)
      · rfl
    · refine pw_iconst hX (k := 1) rfl (by decide) dX2_has_12 (q := 13) rfl ?_
      refine pw_goto hX (tgt := 17) dX2_has_13 (by decide) ?_
      refine pw_ireturn hX dX2_has_17 ⟨_, rfl, by first | exact bI_nar _ | decide | rfl⟩ ⟨congrArg (fun z => some (Value.int z)) ?_, ?_⟩
      · first | (rw [hasN_lo h_1]; rfl) | (rw [hasN_hi (bV_0 hV) h_9]; rfl) | (rw [hasN_ok (bV_0 hV) h_1 h_9]; rfl)
      · rfl
abbrev rm_X2_isAwake : Room := { frames := 1, cells := 0, slots := 0, locals := 21 }
set_option maxHeartbeats 800000 in
set_option maxRecDepth 20000 in
theorem c_X2_isAwake {l : Launch} {g : Geo} {w : WD} {V : Nat → Nat → Nat} {o : Nat} {v : Int32} (ho : o < 7) (hV : bV V) : CtI l g yX2_isAwake cX2_isAwake 2 (some .boolean) rm_X2_isAwake [.ref (g_ad g o 0), .int v] (wO w o V) (bI (kAw V v)) (wO w o V) := by
  refine ct_of mi_X2_isAwake.2.2.2.2.2 ⟨rfl, rfl⟩ (List.forall_mem_cons.mpr ⟨rfl, List.forall_mem_cons.mpr ⟨rfl, fun _ h => absurd h List.not_mem_nil⟩⟩) (Nat.le_of_ble_eq_true rfl) (fun P hX => ?_)
  replace hX : Gd l g RX2 cX2_isAwake rm_X2_isAwake 2 (some .boolean) _ _ P := hX
  show P (wO w o V) 0 [some (.ref (g_ad g o 0)), some (.int v)] []
  refine pw_aload_n hX rfl dX2_isAwake_0 (q := 1) rfl ?_
  refine pw_iload_n hX rfl dX2_isAwake_1 (q := 2) rfl ?_
  refine pw_cvI1 hX dX2_isAwake_2 (q := 5) rfl mi_X2_has ml_X2_68 (rcV ho) ⟨rfl, rfl, by decide, by decide⟩ rfl (Nat.le_of_ble_eq_true rfl) (c_X2_has (by first | assumption | omega) (by first | assumption | omega)) ?_
  refine pw_ifB_eq hX (tgt := 21) dX2_isAwake_5 (q := 8) rfl (by decide) (fun h_5 => ?_) (fun h_5 => ?_)
  · refine pw_iconst hX (k := 0) rfl (by decide) dX2_isAwake_21 (q := 22) rfl ?_
    refine pw_ireturn hX dX2_isAwake_22 ⟨_, rfl, by first | exact bI_nar _ | decide | rfl⟩ ⟨congrArg (fun z => some (Value.int z)) ?_, ?_⟩
    · rw [kAw]; first | (rw [h_5, hx, decide_eq_true h_14]; rfl) | (rw [h_5, hx, decide_eq_false h_14]; rfl) | (rw [h_5]; rfl)
    · rfl
  · obtain ⟨i, hi, rfl⟩ := hasN_of (bV_0 hV) h_5
    have hx : ix (nI i) = i := ix_nI (by have := hV.2.2.2.1; omega)
    have h7 := hV.2.2.2.1
    refine pw_aload_n hX rfl dX2_isAwake_8 (q := 9) rfl ?_
    refine pw_getVF hX ho 4 (by decide) fl_X2_24 rfl dX2_isAwake_9 (q := 12) rfl ?_
    refine pw_iload_n hX rfl dX2_isAwake_12 (q := 13) rfl ?_
    refine pw_ialdVF hX ho 1 (by decide) (show _ < 7 by omega) dX2_isAwake_13 (q := 14) rfl ?_
    refine pw_ifN_ne hX (by first | omega | exact bV_0 hV | exact bV7 hV (by decide) (by omega) | exact bV84 hV (by decide) (by omega) | exact bV12 hV (by omega) | exact bV_1 hV | exact bV_2 hV) (tgt := 21) dX2_isAwake_14 (q := 17) rfl (by decide) (fun h_14 => ?_) (fun h_14 => ?_)
    · refine pw_iconst hX (k := 0) rfl (by decide) dX2_isAwake_21 (q := 22) rfl ?_
      refine pw_ireturn hX dX2_isAwake_22 ⟨_, rfl, by first | exact bI_nar _ | decide | rfl⟩ ⟨congrArg (fun z => some (Value.int z)) ?_, ?_⟩
      · rw [kAw]; first | (rw [h_5, hx, decide_eq_true h_14]; rfl) | (rw [h_5, hx, decide_eq_false h_14]; rfl) | (rw [h_5]; rfl)
      · rfl
    · refine pw_iconst hX (k := 1) rfl (by decide) dX2_isAwake_17 (q := 18) rfl ?_
      refine pw_goto hX (tgt := 22) dX2_isAwake_18 (by decide) ?_
      refine pw_ireturn hX dX2_isAwake_22 ⟨_, rfl, by first | exact bI_nar _ | decide | rfl⟩ ⟨congrArg (fun z => some (Value.int z)) ?_, ?_⟩
      · rw [kAw]; first | (rw [h_5, hx, decide_eq_true h_14]; rfl) | (rw [h_5, hx, decide_eq_false h_14]; rfl) | (rw [h_5]; rfl)
      · rfl
abbrev rm_X2_isAsleep : Room := { frames := 1, cells := 0, slots := 0, locals := 21 }
set_option maxHeartbeats 800000 in
set_option maxRecDepth 20000 in
theorem c_X2_isAsleep {l : Launch} {g : Geo} {w : WD} {V : Nat → Nat → Nat} {o : Nat} {v : Int32} (ho : o < 7) (hV : bV V) : CtI l g yX2_isAsleep cX2_isAsleep 2 (some .boolean) rm_X2_isAsleep [.ref (g_ad g o 0), .int v] (wO w o V) (bI (kAs V v)) (wO w o V) := by
  refine ct_of mi_X2_isAsleep.2.2.2.2.2 ⟨rfl, rfl⟩ (List.forall_mem_cons.mpr ⟨rfl, List.forall_mem_cons.mpr ⟨rfl, fun _ h => absurd h List.not_mem_nil⟩⟩) (Nat.le_of_ble_eq_true rfl) (fun P hX => ?_)
  replace hX : Gd l g RX2 cX2_isAsleep rm_X2_isAsleep 2 (some .boolean) _ _ P := hX
  show P (wO w o V) 0 [some (.ref (g_ad g o 0)), some (.int v)] []
  refine pw_aload_n hX rfl dX2_isAsleep_0 (q := 1) rfl ?_
  refine pw_iload_n hX rfl dX2_isAsleep_1 (q := 2) rfl ?_
  refine pw_cvI1 hX dX2_isAsleep_2 (q := 5) rfl mi_X2_has ml_X2_68 (rcV ho) ⟨rfl, rfl, by decide, by decide⟩ rfl (Nat.le_of_ble_eq_true rfl) (c_X2_has (by first | assumption | omega) (by first | assumption | omega)) ?_
  refine pw_ifB_eq hX (tgt := 22) dX2_isAsleep_5 (q := 8) rfl (by decide) (fun h_5 => ?_) (fun h_5 => ?_)
  · refine pw_iconst hX (k := 0) rfl (by decide) dX2_isAsleep_22 (q := 23) rfl ?_
    refine pw_ireturn hX dX2_isAsleep_23 ⟨_, rfl, by first | exact bI_nar _ | decide | rfl⟩ ⟨congrArg (fun z => some (Value.int z)) ?_, ?_⟩
    · rw [kAs]; first | (rw [h_5, hx, decide_eq_true h_15]; rfl) | (rw [h_5, hx, decide_eq_false h_15]; rfl) | (rw [h_5]; rfl)
    · rfl
  · obtain ⟨i, hi, rfl⟩ := hasN_of (bV_0 hV) h_5
    have hx : ix (nI i) = i := ix_nI (by have := hV.2.2.2.1; omega)
    have h7 := hV.2.2.2.1
    refine pw_aload_n hX rfl dX2_isAsleep_8 (q := 9) rfl ?_
    refine pw_getVF hX ho 4 (by decide) fl_X2_24 rfl dX2_isAsleep_9 (q := 12) rfl ?_
    refine pw_iload_n hX rfl dX2_isAsleep_12 (q := 13) rfl ?_
    refine pw_ialdVF hX ho 1 (by decide) (show _ < 7 by omega) dX2_isAsleep_13 (q := 14) rfl ?_
    refine pw_iconst hX (k := 1) rfl (by decide) dX2_isAsleep_14 (q := 15) rfl ?_
    refine pw_icmpN_ne hX (by first | omega | exact bV_0 hV | exact bV7 hV (by decide) (by omega) | exact bV84 hV (by decide) (by omega) | exact bV12 hV (by omega) | exact bV_1 hV | exact bV_2 hV) (by first | omega | exact bV_0 hV | exact bV7 hV (by decide) (by omega) | exact bV84 hV (by decide) (by omega) | exact bV12 hV (by omega) | exact bV_1 hV | exact bV_2 hV) (tgt := 22) dX2_isAsleep_15 (q := 18) rfl (by decide) (fun h_15 => ?_) (fun h_15 => ?_)
    · refine pw_iconst hX (k := 0) rfl (by decide) dX2_isAsleep_22 (q := 23) rfl ?_
      refine pw_ireturn hX dX2_isAsleep_23 ⟨_, rfl, by first | exact bI_nar _ | decide | rfl⟩ ⟨congrArg (fun z => some (Value.int z)) ?_, ?_⟩
      · rw [kAs]; first | (rw [h_5, hx, decide_eq_true h_15]; rfl) | (rw [h_5, hx, decide_eq_false h_15]; rfl) | (rw [h_5]; rfl)
      · rfl
    · refine pw_iconst hX (k := 1) rfl (by decide) dX2_isAsleep_18 (q := 19) rfl ?_
      refine pw_goto hX (tgt := 23) dX2_isAsleep_19 (by decide) ?_
      refine pw_ireturn hX dX2_isAsleep_23 ⟨_, rfl, by first | exact bI_nar _ | decide | rfl⟩ ⟨congrArg (fun z => some (Value.int z)) ?_, ?_⟩
      · rw [kAs]; first | (rw [h_5, hx, decide_eq_true h_15]; rfl) | (rw [h_5, hx, decide_eq_false h_15]; rfl) | (rw [h_5]; rfl)
      · rfl
abbrev rm_X2_isRumor : Room := { frames := 0, cells := 0, slots := 0, locals := 0 }
set_option maxHeartbeats 800000 in
set_option maxRecDepth 20000 in
theorem c_X2_isRumor {l : Launch} {g : Geo} {w : WD} {V : Nat → Nat → Nat} {o : Nat} {p : Nat} (ho : o < 7) (hV : bV V) (hp : p < 84) : CtI l g yX2_isRumor cX2_isRumor 2 (some .boolean) rm_X2_isRumor [.ref (g_ad g o 0), .int (nI p)] (wO w o V) (bI (kRum V p)) (wO w o V) := by
  refine ct_of mi_X2_isRumor.2.2.2.2.2 ⟨rfl, rfl⟩ (List.forall_mem_cons.mpr ⟨rfl, List.forall_mem_cons.mpr ⟨rfl, fun _ h => absurd h List.not_mem_nil⟩⟩) (Nat.le_of_ble_eq_true rfl) (fun P hX => ?_)
  replace hX : Gd l g RX2 cX2_isRumor rm_X2_isRumor 2 (some .boolean) _ _ P := hX
  show P (wO w o V) 0 [some (.ref (g_ad g o 0)), some (.int (nI p))] []
  refine pw_aload_n hX rfl dX2_isRumor_0 (q := 1) rfl ?_
  refine pw_getVF hX ho 8 (by decide) fl_X2_37 rfl dX2_isRumor_1 (q := 4) rfl ?_
  refine pw_iload_n hX rfl dX2_isRumor_4 (q := 5) rfl ?_
  refine pw_ialdVF hX ho 5 (by decide) (show _ < 84 by omega) dX2_isRumor_5 (q := 6) rfl ?_
  refine pw_ifN_eq hX (by first | omega | exact bV_0 hV | exact bV7 hV (by decide) (by omega) | exact bV84 hV (by decide) (by omega) | exact bV12 hV (by omega) | exact bV_1 hV | exact bV_2 hV) (tgt := 23) dX2_isRumor_6 (q := 9) rfl (by decide) (fun h_6 => ?_) (fun h_6 => ?_)
  · refine pw_iconst hX (k := 0) rfl (by decide) dX2_isRumor_23 (q := 24) rfl ?_
    refine pw_ireturn hX dX2_isRumor_24 ⟨_, rfl, by first | exact bI_nar _ | decide | rfl⟩ ⟨congrArg (fun z => some (Value.int z)) ?_, ?_⟩
    · first | (rw [show kRum V p = false from decide_eq_false (by omega)]; rfl) | (rw [show kRum V p = true from decide_eq_true (by omega)]; rfl)
    · rfl
  · refine pw_aload_n hX rfl dX2_isRumor_9 (q := 10) rfl ?_
    refine pw_getVF hX ho 9 (by decide) fl_X2_40 rfl dX2_isRumor_10 (q := 13) rfl ?_
    refine pw_iload_n hX rfl dX2_isRumor_13 (q := 14) rfl ?_
    refine pw_ialdVF hX ho 6 (by decide) (show _ < 84 by omega) dX2_isRumor_14 (q := 15) rfl ?_
    refine pw_iconst hX (k := 3) rfl (by decide) dX2_isRumor_15 (q := 16) rfl ?_
    refine pw_icmpN_eq hX (by first | omega | exact bV_0 hV | exact bV7 hV (by decide) (by omega) | exact bV84 hV (by decide) (by omega) | exact bV12 hV (by omega) | exact bV_1 hV | exact bV_2 hV) (by first | omega | exact bV_0 hV | exact bV7 hV (by decide) (by omega) | exact bV84 hV (by decide) (by omega) | exact bV12 hV (by omega) | exact bV_1 hV | exact bV_2 hV) (tgt := 23) dX2_isRumor_16 (q := 19) rfl (by decide) (fun h_16 => ?_) (fun h_16 => ?_)
    · refine pw_iconst hX (k := 0) rfl (by decide) dX2_isRumor_23 (q := 24) rfl ?_
      refine pw_ireturn hX dX2_isRumor_24 ⟨_, rfl, by first | exact bI_nar _ | decide | rfl⟩ ⟨congrArg (fun z => some (Value.int z)) ?_, ?_⟩
      · first | (rw [show kRum V p = false from decide_eq_false (by omega)]; rfl) | (rw [show kRum V p = true from decide_eq_true (by omega)]; rfl)
      · rfl
    · refine pw_iconst hX (k := 1) rfl (by decide) dX2_isRumor_19 (q := 20) rfl ?_
      refine pw_goto hX (tgt := 24) dX2_isRumor_20 (by decide) ?_
      refine pw_ireturn hX dX2_isRumor_24 ⟨_, rfl, by first | exact bI_nar _ | decide | rfl⟩ ⟨congrArg (fun z => some (Value.int z)) ?_, ?_⟩
      · first | (rw [show kRum V p = false from decide_eq_false (by omega)]; rfl) | (rw [show kRum V p = true from decide_eq_true (by omega)]; rfl)
      · rfl
abbrev rm_X2_isTomb : Room := { frames := 0, cells := 0, slots := 0, locals := 0 }
set_option maxHeartbeats 800000 in
set_option maxRecDepth 20000 in
theorem c_X2_isTomb {l : Launch} {g : Geo} {w : WD} {V : Nat → Nat → Nat} {o : Nat} {p : Nat} (ho : o < 7) (hV : bV V) (hp : p < 84) : CtI l g yX2_isTomb cX2_isTomb 2 (some .boolean) rm_X2_isTomb [.ref (g_ad g o 0), .int (nI p)] (wO w o V) (bI (kTmb V p)) (wO w o V) := by
  refine ct_of mi_X2_isTomb.2.2.2.2.2 ⟨rfl, rfl⟩ (List.forall_mem_cons.mpr ⟨rfl, List.forall_mem_cons.mpr ⟨rfl, fun _ h => absurd h List.not_mem_nil⟩⟩) (Nat.le_of_ble_eq_true rfl) (fun P hX => ?_)
  replace hX : Gd l g RX2 cX2_isTomb rm_X2_isTomb 2 (some .boolean) _ _ P := hX
  show P (wO w o V) 0 [some (.ref (g_ad g o 0)), some (.int (nI p))] []
  refine pw_aload_n hX rfl dX2_isTomb_0 (q := 1) rfl ?_
  refine pw_getVF hX ho 8 (by decide) fl_X2_37 rfl dX2_isTomb_1 (q := 4) rfl ?_
  refine pw_iload_n hX rfl dX2_isTomb_4 (q := 5) rfl ?_
  refine pw_ialdVF hX ho 5 (by decide) (show _ < 84 by omega) dX2_isTomb_5 (q := 6) rfl ?_
  refine pw_ifN_eq hX (by first | omega | exact bV_0 hV | exact bV7 hV (by decide) (by omega) | exact bV84 hV (by decide) (by omega) | exact bV12 hV (by omega) | exact bV_1 hV | exact bV_2 hV) (tgt := 23) dX2_isTomb_6 (q := 9) rfl (by decide) (fun h_6 => ?_) (fun h_6 => ?_)
  · refine pw_iconst hX (k := 0) rfl (by decide) dX2_isTomb_23 (q := 24) rfl ?_
    refine pw_ireturn hX dX2_isTomb_24 ⟨_, rfl, by first | exact bI_nar _ | decide | rfl⟩ ⟨congrArg (fun z => some (Value.int z)) ?_, ?_⟩
    · first | (rw [show kTmb V p = false from decide_eq_false (by omega)]; rfl) | (rw [show kTmb V p = true from decide_eq_true (by omega)]; rfl)
    · rfl
  · refine pw_aload_n hX rfl dX2_isTomb_9 (q := 10) rfl ?_
    refine pw_getVF hX ho 9 (by decide) fl_X2_40 rfl dX2_isTomb_10 (q := 13) rfl ?_
    refine pw_iload_n hX rfl dX2_isTomb_13 (q := 14) rfl ?_
    refine pw_ialdVF hX ho 6 (by decide) (show _ < 84 by omega) dX2_isTomb_14 (q := 15) rfl ?_
    refine pw_iconst hX (k := 3) rfl (by decide) dX2_isTomb_15 (q := 16) rfl ?_
    refine pw_icmpN_ne hX (by first | omega | exact bV_0 hV | exact bV7 hV (by decide) (by omega) | exact bV84 hV (by decide) (by omega) | exact bV12 hV (by omega) | exact bV_1 hV | exact bV_2 hV) (by first | omega | exact bV_0 hV | exact bV7 hV (by decide) (by omega) | exact bV84 hV (by decide) (by omega) | exact bV12 hV (by omega) | exact bV_1 hV | exact bV_2 hV) (tgt := 23) dX2_isTomb_16 (q := 19) rfl (by decide) (fun h_16 => ?_) (fun h_16 => ?_)
    · refine pw_iconst hX (k := 0) rfl (by decide) dX2_isTomb_23 (q := 24) rfl ?_
      refine pw_ireturn hX dX2_isTomb_24 ⟨_, rfl, by first | exact bI_nar _ | decide | rfl⟩ ⟨congrArg (fun z => some (Value.int z)) ?_, ?_⟩
      · first | (rw [show kTmb V p = false from decide_eq_false (by omega)]; rfl) | (rw [show kTmb V p = true from decide_eq_true (by omega)]; rfl)
      · rfl
    · refine pw_iconst hX (k := 1) rfl (by decide) dX2_isTomb_19 (q := 20) rfl ?_
      refine pw_goto hX (tgt := 24) dX2_isTomb_20 (by decide) ?_
      refine pw_ireturn hX dX2_isTomb_24 ⟨_, rfl, by first | exact bI_nar _ | decide | rfl⟩ ⟨congrArg (fun z => some (Value.int z)) ?_, ?_⟩
      · first | (rw [show kTmb V p = false from decide_eq_false (by omega)]; rfl) | (rw [show kTmb V p = true from decide_eq_true (by omega)]; rfl)
      · rfl
abbrev rm_X2_isDead : Room := { frames := 1, cells := 0, slots := 0, locals := 21 }
set_option maxHeartbeats 800000 in
set_option maxRecDepth 20000 in
theorem c_X2_isDead {l : Launch} {g : Geo} {w : WD} {V : Nat → Nat → Nat} {o : Nat} {v t : Nat} (ho : o < 7) (hV : bV V) (hv : v < 7) (ht : t < 12) : CtI l g yX2_isDead cX2_isDead 4 (some .boolean) rm_X2_isDead [.ref (g_ad g o 0), .int (nI v), .int (nI t)] (wO w o V) (bI (kDead V v t)) (wO w o V) := by
  refine ct_of mi_X2_isDead.2.2.2.2.2 ⟨rfl, rfl⟩ (List.forall_mem_cons.mpr ⟨rfl, List.forall_mem_cons.mpr ⟨rfl, List.forall_mem_cons.mpr ⟨rfl, fun _ h => absurd h List.not_mem_nil⟩⟩⟩) (Nat.le_of_ble_eq_true rfl) (fun P hX => ?_)
  replace hX : Gd l g RX2 cX2_isDead rm_X2_isDead 4 (some .boolean) _ _ P := hX
  show P (wO w o V) 0 [some (.ref (g_ad g o 0)), some (.int (nI v)), some (.int (nI t)), none] []
  refine pw_iload_n hX rfl dX2_isDead_0 (q := 1) rfl ?_
  refine pw_iload_n hX rfl dX2_isDead_1 (q := 2) rfl ?_
  refine pw_cnI2 hX dX2_isDead_2 (q := 5) rfl mi_X3_place mn_X2_88 ⟨rfl, rfl, by decide, by decide⟩ rfl (Nat.le_of_ble_eq_true rfl) (c_X3_place) ?_
  refine pw_istore_n hX (by decide) dX2_isDead_5 (q := 6) rfl ?_
  refine pw_aload_n hX rfl dX2_isDead_6 (q := 7) rfl ?_
  refine pw_iload_n hX rfl dX2_isDead_7 (q := 8) rfl ?_
  refine pw_cvI1 hX dX2_isDead_8 (q := 11) rfl mi_X2_isRumor ml_X2_92 (rcV ho) ⟨rfl, rfl, by decide, by decide⟩ rfl (Nat.le_of_ble_eq_true rfl) (c_X2_isRumor ho hV (by omega)) ?_
  refine pw_ifB_eq hX (tgt := 33) dX2_isDead_11 (q := 14) rfl (by decide) (fun h_11 => ?_) (fun h_11 => ?_)
  · refine pw_iconst hX (k := 0) rfl (by decide) dX2_isDead_33 (q := 34) rfl ?_
    refine pw_ireturn hX dX2_isDead_34 ⟨_, rfl, by first | exact bI_nar _ | decide | rfl⟩ ⟨congrArg (fun z => some (Value.int z)) ?_, ?_⟩
    · rw [kDead]; first | (rw [h_11, decide_eq_false (by omega)]; rfl) | (rw [h_11, decide_eq_true (by omega)]; rfl) | (rw [h_11]; rfl)
    · rfl
  · refine pw_aload_n hX rfl dX2_isDead_14 (q := 15) rfl ?_
    refine pw_getVF hX ho 8 (by decide) fl_X2_37 rfl dX2_isDead_15 (q := 18) rfl ?_
    refine pw_iload_n hX rfl dX2_isDead_18 (q := 19) rfl ?_
    refine pw_ialdVF hX ho 5 (by decide) (show _ < 84 by omega) dX2_isDead_19 (q := 20) rfl ?_
    refine pw_aload_n hX rfl dX2_isDead_20 (q := 21) rfl ?_
    refine pw_getVF hX ho 14 (by decide) fl_X2_55 rfl dX2_isDead_21 (q := 24) rfl ?_
    refine pw_iload_n hX rfl dX2_isDead_24 (q := 25) rfl ?_
    refine pw_ialdVF hX ho 11 (by decide) (show _ < 12 by omega) dX2_isDead_25 (q := 26) rfl ?_
    refine pw_icmpN_ge hX (by first | omega | exact bV_0 hV | exact bV7 hV (by decide) (by omega) | exact bV84 hV (by decide) (by omega) | exact bV12 hV (by omega) | exact bV_1 hV | exact bV_2 hV) (by first | omega | exact bV_0 hV | exact bV7 hV (by decide) (by omega) | exact bV84 hV (by decide) (by omega) | exact bV12 hV (by omega) | exact bV_1 hV | exact bV_2 hV) (tgt := 33) dX2_isDead_26 (q := 29) rfl (by decide) (fun h_26 => ?_) (fun h_26 => ?_)
    · refine pw_iconst hX (k := 0) rfl (by decide) dX2_isDead_33 (q := 34) rfl ?_
      refine pw_ireturn hX dX2_isDead_34 ⟨_, rfl, by first | exact bI_nar _ | decide | rfl⟩ ⟨congrArg (fun z => some (Value.int z)) ?_, ?_⟩
      · rw [kDead]; first | (rw [h_11, decide_eq_false (by omega)]; rfl) | (rw [h_11, decide_eq_true (by omega)]; rfl) | (rw [h_11]; rfl)
      · rfl
    · refine pw_iconst hX (k := 1) rfl (by decide) dX2_isDead_29 (q := 30) rfl ?_
      refine pw_goto hX (tgt := 34) dX2_isDead_30 (by decide) ?_
      refine pw_ireturn hX dX2_isDead_34 ⟨_, rfl, by first | exact bI_nar _ | decide | rfl⟩ ⟨congrArg (fun z => some (Value.int z)) ?_, ?_⟩
      · rw [kDead]; first | (rw [h_11, decide_eq_false (by omega)]; rfl) | (rw [h_11, decide_eq_true (by omega)]; rfl) | (rw [h_11]; rfl)
      · rfl
abbrev rm_X2_author : Room := { frames := 0, cells := 0, slots := 0, locals := 0 }
set_option maxHeartbeats 800000 in
set_option maxRecDepth 20000 in
theorem c_X2_author {l : Launch} {g : Geo} {w : WD} {V : Nat → Nat → Nat} {o : Nat} {p : Nat} (ho : o < 7) (hV : bV V) (hp : p < 84) : CtI l g yX2_author cX2_author 2 (some .int) rm_X2_author [.ref (g_ad g o 0), .int (nI p)] (wO w o V) (nI (V 5 p % 8)) (wO w o V) := by
  refine ct_of mi_X2_author.2.2.2.2.2 ⟨rfl, rfl⟩ (List.forall_mem_cons.mpr ⟨rfl, List.forall_mem_cons.mpr ⟨rfl, fun _ h => absurd h List.not_mem_nil⟩⟩) (Nat.le_of_ble_eq_true rfl) (fun P hX => ?_)
  replace hX : Gd l g RX2 cX2_author rm_X2_author 2 (some .int) _ _ P := hX
  show P (wO w o V) 0 [some (.ref (g_ad g o 0)), some (.int (nI p))] []
  refine pw_aload_n hX rfl dX2_author_0 (q := 1) rfl ?_
  refine pw_getVF hX ho 8 (by decide) fl_X2_37 rfl dX2_author_1 (q := 4) rfl ?_
  refine pw_iload_n hX rfl dX2_author_4 (q := 5) rfl ?_
  refine pw_ialdVF hX ho 5 (by decide) (show _ < 84 by omega) dX2_author_5 (q := 6) rfl ?_
  refine pw_bipush hX (k := 8) (by decide) dX2_author_6 (q := 8) rfl ?_
  refine pw_iremN hX (by first | omega | exact bV_0 hV | exact bV7 hV (by decide) (by omega) | exact bV84 hV (by decide) (by omega) | exact bV12 hV (by omega) | exact bV_1 hV | exact bV_2 hV) (by decide) (by decide) dX2_author_8 (q := 9) rfl ?_
  refine pw_ireturn hX dX2_author_9 ⟨_, rfl, rfl⟩ ⟨congrArg (fun z => some (Value.int z)) ?_, ?_⟩
  · rfl
  · rfl
abbrev rm_X2_rumorTopics : Room := { frames := 1, cells := 0, slots := 0, locals := 21 }
set_option maxHeartbeats 800000 in
set_option maxRecDepth 20000 in
theorem c_X2_rumorTopics {l : Launch} {g : Geo} {w : WD} {V : Nat → Nat → Nat} {o : Nat} {v : Nat} (ho : o < 7) (hV : bV V) (hv : v < 7) : CtI l g yX2_rumorTopics cX2_rumorTopics 4 (some .int) rm_X2_rumorTopics [.ref (g_ad g o 0), .int (nI v)] (wO w o V) (nI (bits (fun t => kRum V (v * 12 + t)) 12)) (wO w o V) := by
  refine ct_of mi_X2_rumorTopics.2.2.2.2.2 ⟨rfl, rfl⟩ (List.forall_mem_cons.mpr ⟨rfl, List.forall_mem_cons.mpr ⟨rfl, fun _ h => absurd h List.not_mem_nil⟩⟩) (Nat.le_of_ble_eq_true rfl) (fun P hX => ?_)
  replace hX : Gd l g RX2 cX2_rumorTopics rm_X2_rumorTopics 4 (some .int) _ _ P := hX
  show P (wO w o V) 0 [some (.ref (g_ad g o 0)), some (.int (nI v)), none, none] []
  refine pw_iconst hX (k := 0) rfl (by decide) dX2_rumorTopics_0 (q := 1) rfl ?_
  refine pw_istore_n hX (by decide) dX2_rumorTopics_1 (q := 2) rfl ?_
  refine pw_iconst hX (k := 0) rfl (by decide) dX2_rumorTopics_2 (q := 3) rfl ?_
  refine pw_istore_n hX (by decide) dX2_rumorTopics_3 (q := 4) rfl ?_
  suffices L : ∀ t, t ≤ 12 → P (wO w o V) 4 [some (.ref (g_ad g o 0)), some (.int (nI v)), some (.int (nI (bits (fun t => kRum V (v * 12 + t)) t))), some (.int (nI t))] [] by exact L 0 (Nat.zero_le _)
  refine loopUp (fun t ht ih => ?_)
  refine pw_iload_n hX rfl dX2_rumorTopics_4 (q := 5) rfl ?_
  refine pw_bipush hX (k := 12) (by decide) dX2_rumorTopics_5 (q := 7) rfl ?_
  refine pw_icmpN_ge hX (by first | omega | exact bV_0 hV | exact bV7 hV (by decide) (by omega) | exact bV84 hV (by decide) (by omega) | exact bV12 hV (by omega) | exact bV_1 hV | exact bV_2 hV) (by first | omega | exact bV_0 hV | exact bV7 hV (by decide) (by omega) | exact bV84 hV (by decide) (by omega) | exact bV12 hV (by omega) | exact bV_1 hV | exact bV_2 hV) (tgt := 34) dX2_rumorTopics_7 (q := 10) rfl (by decide) (fun h_7 => ?_) (fun h_7 => ?_)
  · refine pw_iload_n hX rfl dX2_rumorTopics_34 (q := 35) rfl ?_
    refine pw_ireturn hX dX2_rumorTopics_35 ⟨_, rfl, rfl⟩ ⟨congrArg (fun z => some (Value.int z)) ?_, ?_⟩
    · rw [show t = 12 by omega]
    · rfl
  · refine pw_aload_n hX rfl dX2_rumorTopics_10 (q := 11) rfl ?_
    refine pw_iload_n hX rfl dX2_rumorTopics_11 (q := 12) rfl ?_
    refine pw_iload_n hX rfl dX2_rumorTopics_12 (q := 13) rfl ?_
    refine pw_cnI2 hX dX2_rumorTopics_13 (q := 16) rfl mi_X3_place mn_X2_88 ⟨rfl, rfl, by decide, by decide⟩ rfl (Nat.le_of_ble_eq_true rfl) (c_X3_place) ?_
    refine pw_cvI1 hX dX2_rumorTopics_16 (q := 19) rfl mi_X2_isRumor ml_X2_92 (rcV ho) ⟨rfl, rfl, by decide, by decide⟩ rfl (Nat.le_of_ble_eq_true rfl) (c_X2_isRumor ho hV (by omega)) ?_
    refine pw_ifB_eq hX (tgt := 28) dX2_rumorTopics_19 (q := 22) rfl (by decide) (fun h_19 => ?_) (fun h_19 => ?_)
    · refine pw_iinc hX rfl (by decide) (inc1 _) dX2_rumorTopics_28 (q := 31) rfl ?_
      refine pw_goto hX (tgt := 4) dX2_rumorTopics_31 (by decide) ?_
      exact pw_eq rfl (by simp_all [lst, bits]) rfl (ih (by omega))
    · refine pw_iload_n hX rfl dX2_rumorTopics_22 (q := 23) rfl ?_
      refine pw_iconst hX (k := 1) rfl (by decide) dX2_rumorTopics_23 (q := 24) rfl ?_
      refine pw_iload_n hX rfl dX2_rumorTopics_24 (q := 25) rfl ?_
      refine pw_ishl1 hX (by omega) dX2_rumorTopics_25 (q := 26) rfl ?_
      refine pw_iorN hX dX2_rumorTopics_26 (q := 27) rfl ?_
      refine pw_istore_n hX (by decide) dX2_rumorTopics_27 (q := 28) rfl ?_
      refine pw_iinc hX rfl (by decide) (inc1 _) dX2_rumorTopics_28 (q := 31) rfl ?_
      refine pw_goto hX (tgt := 4) dX2_rumorTopics_31 (by decide) ?_
      exact pw_eq rfl (by simp_all [lst, bits]) rfl (ih (by omega))
abbrev rm_X2_tombTopics : Room := { frames := 1, cells := 0, slots := 0, locals := 21 }
set_option maxHeartbeats 800000 in
set_option maxRecDepth 20000 in
theorem c_X2_tombTopics {l : Launch} {g : Geo} {w : WD} {V : Nat → Nat → Nat} {o : Nat} {v : Nat} (ho : o < 7) (hV : bV V) (hv : v < 7) : CtI l g yX2_tombTopics cX2_tombTopics 4 (some .int) rm_X2_tombTopics [.ref (g_ad g o 0), .int (nI v)] (wO w o V) (nI (bits (fun t => kTmb V (v * 12 + t)) 12)) (wO w o V) := by
  refine ct_of mi_X2_tombTopics.2.2.2.2.2 ⟨rfl, rfl⟩ (List.forall_mem_cons.mpr ⟨rfl, List.forall_mem_cons.mpr ⟨rfl, fun _ h => absurd h List.not_mem_nil⟩⟩) (Nat.le_of_ble_eq_true rfl) (fun P hX => ?_)
  replace hX : Gd l g RX2 cX2_tombTopics rm_X2_tombTopics 4 (some .int) _ _ P := hX
  show P (wO w o V) 0 [some (.ref (g_ad g o 0)), some (.int (nI v)), none, none] []
  refine pw_iconst hX (k := 0) rfl (by decide) dX2_tombTopics_0 (q := 1) rfl ?_
  refine pw_istore_n hX (by decide) dX2_tombTopics_1 (q := 2) rfl ?_
  refine pw_iconst hX (k := 0) rfl (by decide) dX2_tombTopics_2 (q := 3) rfl ?_
  refine pw_istore_n hX (by decide) dX2_tombTopics_3 (q := 4) rfl ?_
  suffices L : ∀ t, t ≤ 12 → P (wO w o V) 4 [some (.ref (g_ad g o 0)), some (.int (nI v)), some (.int (nI (bits (fun t => kTmb V (v * 12 + t)) t))), some (.int (nI t))] [] by exact L 0 (Nat.zero_le _)
  refine loopUp (fun t ht ih => ?_)
  refine pw_iload_n hX rfl dX2_tombTopics_4 (q := 5) rfl ?_
  refine pw_bipush hX (k := 12) (by decide) dX2_tombTopics_5 (q := 7) rfl ?_
  refine pw_icmpN_ge hX (by first | omega | exact bV_0 hV | exact bV7 hV (by decide) (by omega) | exact bV84 hV (by decide) (by omega) | exact bV12 hV (by omega) | exact bV_1 hV | exact bV_2 hV) (by first | omega | exact bV_0 hV | exact bV7 hV (by decide) (by omega) | exact bV84 hV (by decide) (by omega) | exact bV12 hV (by omega) | exact bV_1 hV | exact bV_2 hV) (tgt := 34) dX2_tombTopics_7 (q := 10) rfl (by decide) (fun h_7 => ?_) (fun h_7 => ?_)
  · refine pw_iload_n hX rfl dX2_tombTopics_34 (q := 35) rfl ?_
    refine pw_ireturn hX dX2_tombTopics_35 ⟨_, rfl, rfl⟩ ⟨congrArg (fun z => some (Value.int z)) ?_, ?_⟩
    · rw [show t = 12 by omega]
    · rfl
  · refine pw_aload_n hX rfl dX2_tombTopics_10 (q := 11) rfl ?_
    refine pw_iload_n hX rfl dX2_tombTopics_11 (q := 12) rfl ?_
    refine pw_iload_n hX rfl dX2_tombTopics_12 (q := 13) rfl ?_
    refine pw_cnI2 hX dX2_tombTopics_13 (q := 16) rfl mi_X3_place mn_X2_88 ⟨rfl, rfl, by decide, by decide⟩ rfl (Nat.le_of_ble_eq_true rfl) (c_X3_place) ?_
    refine pw_cvI1 hX dX2_tombTopics_16 (q := 19) rfl mi_X2_isTomb ml_X2_95 (rcV ho) ⟨rfl, rfl, by decide, by decide⟩ rfl (Nat.le_of_ble_eq_true rfl) (c_X2_isTomb ho hV (by omega)) ?_
    refine pw_ifB_eq hX (tgt := 28) dX2_tombTopics_19 (q := 22) rfl (by decide) (fun h_19 => ?_) (fun h_19 => ?_)
    · refine pw_iinc hX rfl (by decide) (inc1 _) dX2_tombTopics_28 (q := 31) rfl ?_
      refine pw_goto hX (tgt := 4) dX2_tombTopics_31 (by decide) ?_
      exact pw_eq rfl (by simp_all [lst, bits]) rfl (ih (by omega))
    · refine pw_iload_n hX rfl dX2_tombTopics_22 (q := 23) rfl ?_
      refine pw_iconst hX (k := 1) rfl (by decide) dX2_tombTopics_23 (q := 24) rfl ?_
      refine pw_iload_n hX rfl dX2_tombTopics_24 (q := 25) rfl ?_
      refine pw_ishl1 hX (by omega) dX2_tombTopics_25 (q := 26) rfl ?_
      refine pw_iorN hX dX2_tombTopics_26 (q := 27) rfl ?_
      refine pw_istore_n hX (by decide) dX2_tombTopics_27 (q := 28) rfl ?_
      refine pw_iinc hX rfl (by decide) (inc1 _) dX2_tombTopics_28 (q := 31) rfl ?_
      refine pw_goto hX (tgt := 4) dX2_tombTopics_31 (by decide) ?_
      exact pw_eq rfl (by simp_all [lst, bits]) rfl (ih (by omega))
abbrev rm_X2_deadTopics : Room := { frames := 2, cells := 0, slots := 0, locals := 44 }
set_option maxHeartbeats 800000 in
set_option maxRecDepth 20000 in
theorem c_X2_deadTopics {l : Launch} {g : Geo} {w : WD} {V : Nat → Nat → Nat} {o : Nat} {v : Nat} (ho : o < 7) (hV : bV V) (hv : v < 7) : CtI l g yX2_deadTopics cX2_deadTopics 4 (some .int) rm_X2_deadTopics [.ref (g_ad g o 0), .int (nI v)] (wO w o V) (nI (bits (fun t => kDead V v t) 12)) (wO w o V) := by
  refine ct_of mi_X2_deadTopics.2.2.2.2.2 ⟨rfl, rfl⟩ (List.forall_mem_cons.mpr ⟨rfl, List.forall_mem_cons.mpr ⟨rfl, fun _ h => absurd h List.not_mem_nil⟩⟩) (Nat.le_of_ble_eq_true rfl) (fun P hX => ?_)
  replace hX : Gd l g RX2 cX2_deadTopics rm_X2_deadTopics 4 (some .int) _ _ P := hX
  show P (wO w o V) 0 [some (.ref (g_ad g o 0)), some (.int (nI v)), none, none] []
  refine pw_iconst hX (k := 0) rfl (by decide) dX2_deadTopics_0 (q := 1) rfl ?_
  refine pw_istore_n hX (by decide) dX2_deadTopics_1 (q := 2) rfl ?_
  refine pw_iconst hX (k := 0) rfl (by decide) dX2_deadTopics_2 (q := 3) rfl ?_
  refine pw_istore_n hX (by decide) dX2_deadTopics_3 (q := 4) rfl ?_
  suffices L : ∀ t, t ≤ 12 → P (wO w o V) 4 [some (.ref (g_ad g o 0)), some (.int (nI v)), some (.int (nI (bits (fun t => kDead V v t) t))), some (.int (nI t))] [] by exact L 0 (Nat.zero_le _)
  refine loopUp (fun t ht ih => ?_)
  refine pw_iload_n hX rfl dX2_deadTopics_4 (q := 5) rfl ?_
  refine pw_bipush hX (k := 12) (by decide) dX2_deadTopics_5 (q := 7) rfl ?_
  refine pw_icmpN_ge hX (by first | omega | exact bV_0 hV | exact bV7 hV (by decide) (by omega) | exact bV84 hV (by decide) (by omega) | exact bV12 hV (by omega) | exact bV_1 hV | exact bV_2 hV) (by first | omega | exact bV_0 hV | exact bV7 hV (by decide) (by omega) | exact bV84 hV (by decide) (by omega) | exact bV12 hV (by omega) | exact bV_1 hV | exact bV_2 hV) (tgt := 31) dX2_deadTopics_7 (q := 10) rfl (by decide) (fun h_7 => ?_) (fun h_7 => ?_)
  · refine pw_iload_n hX rfl dX2_deadTopics_31 (q := 32) rfl ?_
    refine pw_ireturn hX dX2_deadTopics_32 ⟨_, rfl, rfl⟩ ⟨congrArg (fun z => some (Value.int z)) ?_, ?_⟩
    · rw [show t = 12 by omega]
    · rfl
  · refine pw_aload_n hX rfl dX2_deadTopics_10 (q := 11) rfl ?_
    refine pw_iload_n hX rfl dX2_deadTopics_11 (q := 12) rfl ?_
    refine pw_iload_n hX rfl dX2_deadTopics_12 (q := 13) rfl ?_
    refine pw_cvI2 hX dX2_deadTopics_13 (q := 16) rfl mi_X2_isDead ml_X2_98 (rcV ho) ⟨rfl, rfl, by decide, by decide⟩ rfl (Nat.le_of_ble_eq_true rfl) (c_X2_isDead ho hV hv (by omega)) ?_
    refine pw_ifB_eq hX (tgt := 25) dX2_deadTopics_16 (q := 19) rfl (by decide) (fun h_16 => ?_) (fun h_16 => ?_)
    · refine pw_iinc hX rfl (by decide) (inc1 _) dX2_deadTopics_25 (q := 28) rfl ?_
      refine pw_goto hX (tgt := 4) dX2_deadTopics_28 (by decide) ?_
      exact pw_eq rfl (by simp_all [lst, bits]) rfl (ih (by omega))
    · refine pw_iload_n hX rfl dX2_deadTopics_19 (q := 20) rfl ?_
      refine pw_iconst hX (k := 1) rfl (by decide) dX2_deadTopics_20 (q := 21) rfl ?_
      refine pw_iload_n hX rfl dX2_deadTopics_21 (q := 22) rfl ?_
      refine pw_ishl1 hX (by omega) dX2_deadTopics_22 (q := 23) rfl ?_
      refine pw_iorN hX dX2_deadTopics_23 (q := 24) rfl ?_
      refine pw_istore_n hX (by decide) dX2_deadTopics_24 (q := 25) rfl ?_
      refine pw_iinc hX rfl (by decide) (inc1 _) dX2_deadTopics_25 (q := 28) rfl ?_
      refine pw_goto hX (tgt := 4) dX2_deadTopics_28 (by decide) ?_
      exact pw_eq rfl (by simp_all [lst, bits]) rfl (ih (by omega))
abbrev rm_X2_unlikeTopics : Room := { frames := 1, cells := 0, slots := 0, locals := 21 }
set_option maxHeartbeats 800000 in
set_option maxRecDepth 20000 in
theorem c_X2_unlikeTopics {l : Launch} {g : Geo} {w : WD} {V : Nat → Nat → Nat} {o : Nat} {v u : Nat} (ho : o < 7) (hV : bV V) (hv : v < 7) (hu : u < 7) : CtI l g yX2_unlikeTopics cX2_unlikeTopics 5 (some .int) rm_X2_unlikeTopics [.ref (g_ad g o 0), .int (nI v), .int (nI u)] (wO w o V) (nI (bits (fun t => !(decide (V 5 (v * 12 + t) = V 5 (u * 12 + t)))) 12)) (wO w o V) := by
  refine ct_of mi_X2_unlikeTopics.2.2.2.2.2 ⟨rfl, rfl⟩ (List.forall_mem_cons.mpr ⟨rfl, List.forall_mem_cons.mpr ⟨rfl, List.forall_mem_cons.mpr ⟨rfl, fun _ h => absurd h List.not_mem_nil⟩⟩⟩) (Nat.le_of_ble_eq_true rfl) (fun P hX => ?_)
  replace hX : Gd l g RX2 cX2_unlikeTopics rm_X2_unlikeTopics 5 (some .int) _ _ P := hX
  show P (wO w o V) 0 [some (.ref (g_ad g o 0)), some (.int (nI v)), some (.int (nI u)), none, none] []
  refine pw_iconst hX (k := 0) rfl (by decide) dX2_unlikeTopics_0 (q := 1) rfl ?_
  refine pw_istore_n hX (by decide) dX2_unlikeTopics_1 (q := 2) rfl ?_
  refine pw_iconst hX (k := 0) rfl (by decide) dX2_unlikeTopics_2 (q := 3) rfl ?_
  refine pw_istore hX (by decide) dX2_unlikeTopics_3 (q := 5) rfl ?_
  suffices L : ∀ t, t ≤ 12 → P (wO w o V) 5 [some (.ref (g_ad g o 0)), some (.int (nI v)), some (.int (nI u)), some (.int (nI (bits (fun t => !(decide (V 5 (v * 12 + t) = V 5 (u * 12 + t)))) t))), some (.int (nI t))] [] by exact L 0 (Nat.zero_le _)
  refine loopUp (fun t ht ih => ?_)
  refine pw_iload hX rfl dX2_unlikeTopics_5 (q := 7) rfl ?_
  refine pw_bipush hX (k := 12) (by decide) dX2_unlikeTopics_7 (q := 9) rfl ?_
  refine pw_icmpN_ge hX (by first | omega | exact bV_0 hV | exact bV7 hV (by decide) (by omega) | exact bV84 hV (by decide) (by omega) | exact bV12 hV (by omega) | exact bV_1 hV | exact bV_2 hV) (by first | omega | exact bV_0 hV | exact bV7 hV (by decide) (by omega) | exact bV84 hV (by decide) (by omega) | exact bV12 hV (by omega) | exact bV_1 hV | exact bV_2 hV) (tgt := 50) dX2_unlikeTopics_9 (q := 12) rfl (by decide) (fun h_9 => ?_) (fun h_9 => ?_)
  · refine pw_iload_n hX rfl dX2_unlikeTopics_50 (q := 51) rfl ?_
    refine pw_ireturn hX dX2_unlikeTopics_51 ⟨_, rfl, rfl⟩ ⟨congrArg (fun z => some (Value.int z)) ?_, ?_⟩
    · rw [show t = 12 by omega]
    · rfl
  · refine pw_aload_n hX rfl dX2_unlikeTopics_12 (q := 13) rfl ?_
    refine pw_getVF hX ho 8 (by decide) fl_X2_37 rfl dX2_unlikeTopics_13 (q := 16) rfl ?_
    refine pw_iload_n hX rfl dX2_unlikeTopics_16 (q := 17) rfl ?_
    refine pw_iload hX rfl dX2_unlikeTopics_17 (q := 19) rfl ?_
    refine pw_cnI2 hX dX2_unlikeTopics_19 (q := 22) rfl mi_X3_place mn_X2_88 ⟨rfl, rfl, by decide, by decide⟩ rfl (Nat.le_of_ble_eq_true rfl) (c_X3_place) ?_
    refine pw_ialdVF hX ho 5 (by decide) (show _ < 84 by omega) dX2_unlikeTopics_22 (q := 23) rfl ?_
    refine pw_aload_n hX rfl dX2_unlikeTopics_23 (q := 24) rfl ?_
    refine pw_getVF hX ho 8 (by decide) fl_X2_37 rfl dX2_unlikeTopics_24 (q := 27) rfl ?_
    refine pw_iload_n hX rfl dX2_unlikeTopics_27 (q := 28) rfl ?_
    refine pw_iload hX rfl dX2_unlikeTopics_28 (q := 30) rfl ?_
    refine pw_cnI2 hX dX2_unlikeTopics_30 (q := 33) rfl mi_X3_place mn_X2_88 ⟨rfl, rfl, by decide, by decide⟩ rfl (Nat.le_of_ble_eq_true rfl) (c_X3_place) ?_
    refine pw_ialdVF hX ho 5 (by decide) (show _ < 84 by omega) dX2_unlikeTopics_33 (q := 34) rfl ?_
    refine pw_icmpN_eq hX (by first | omega | exact bV_0 hV | exact bV7 hV (by decide) (by omega) | exact bV84 hV (by decide) (by omega) | exact bV12 hV (by omega) | exact bV_1 hV | exact bV_2 hV) (by first | omega | exact bV_0 hV | exact bV7 hV (by decide) (by omega) | exact bV84 hV (by decide) (by omega) | exact bV12 hV (by omega) | exact bV_1 hV | exact bV_2 hV) (tgt := 44) dX2_unlikeTopics_34 (q := 37) rfl (by decide) (fun h_34 => ?_) (fun h_34 => ?_)
    · refine pw_iinc hX rfl (by decide) (inc1 _) dX2_unlikeTopics_44 (q := 47) rfl ?_
      refine pw_goto hX (tgt := 5) dX2_unlikeTopics_47 (by decide) ?_
      exact pw_eq rfl (by simp_all [lst, bits]) rfl (ih (by omega))
    · refine pw_iload_n hX rfl dX2_unlikeTopics_37 (q := 38) rfl ?_
      refine pw_iconst hX (k := 1) rfl (by decide) dX2_unlikeTopics_38 (q := 39) rfl ?_
      refine pw_iload hX rfl dX2_unlikeTopics_39 (q := 41) rfl ?_
      refine pw_ishl1 hX (by omega) dX2_unlikeTopics_41 (q := 42) rfl ?_
      refine pw_iorN hX dX2_unlikeTopics_42 (q := 43) rfl ?_
      refine pw_istore_n hX (by decide) dX2_unlikeTopics_43 (q := 44) rfl ?_
      refine pw_iinc hX rfl (by decide) (inc1 _) dX2_unlikeTopics_44 (q := 47) rfl ?_
      refine pw_goto hX (tgt := 5) dX2_unlikeTopics_47 (by decide) ?_
      exact pw_eq rfl (by simp_all [lst, bits]) rfl (ih (by omega))
abbrev rm_X2_howMany : Room := { frames := 0, cells := 0, slots := 0, locals := 0 }
set_option maxHeartbeats 800000 in
set_option maxRecDepth 20000 in
theorem c_X2_howMany {l : Launch} {g : Geo} {w : WD} {V : Nat → Nat → Nat} {o : Nat} {a : Nat} (ho : o < 7) (hV : bV V) (ha : a < 2 ^ 31) : CtI l g yX2_howMany cX2_howMany 4 (some .int) rm_X2_howMany [.ref (g_ad g o 0), .int (nI a)] (wO w o V) (nI (kMany V a)) (wO w o V) := by
  refine ct_of mi_X2_howMany.2.2.2.2.2 ⟨rfl, rfl⟩ (List.forall_mem_cons.mpr ⟨rfl, List.forall_mem_cons.mpr ⟨rfl, fun _ h => absurd h List.not_mem_nil⟩⟩) (Nat.le_of_ble_eq_true rfl) (fun P hX => ?_)
  replace hX : Gd l g RX2 cX2_howMany rm_X2_howMany 4 (some .int) _ _ P := hX
  show P (wO w o V) 0 [some (.ref (g_ad g o 0)), some (.int (nI a)), none, none] []
  have h7 := hV.2.2.2.1
  refine pw_iconst hX (k := 0) rfl (by decide) dX2_howMany_0 (q := 1) rfl ?_
  refine pw_istore_n hX (by decide) dX2_howMany_1 (q := 2) rfl ?_
  refine pw_iconst hX (k := 0) rfl (by decide) dX2_howMany_2 (q := 3) rfl ?_
  refine pw_istore_n hX (by decide) dX2_howMany_3 (q := 4) rfl ?_
  suffices L : ∀ v, v ≤ V 0 0 → P (wO w o V) 4 [some (.ref (g_ad g o 0)), some (.int (nI a)), some (.int (nI (cnt (fun v => decide (V 1 v = a)) v))), some (.int (nI v))] [] by exact L 0 (Nat.zero_le _)
  refine loopUp (fun v hv ih => ?_)
  refine pw_iload_n hX rfl dX2_howMany_4 (q := 5) rfl ?_
  refine pw_aload_n hX rfl dX2_howMany_5 (q := 6) rfl ?_
  refine pw_getVF hX ho 0 (by decide) fl_X2_9 rfl dX2_howMany_6 (q := 9) rfl ?_
  refine pw_icmpN_ge hX (by first | omega | exact bV_0 hV | exact bV7 hV (by decide) (by omega) | exact bV84 hV (by decide) (by omega) | exact bV12 hV (by omega) | exact bV_1 hV | exact bV_2 hV) (by first | omega | exact bV_0 hV | exact bV7 hV (by decide) (by omega) | exact bV84 hV (by decide) (by omega) | exact bV12 hV (by omega) | exact bV_1 hV | exact bV_2 hV) (tgt := 31) dX2_howMany_9 (q := 12) rfl (by decide) (fun h_9 => ?_) (fun h_9 => ?_)
  · refine pw_iload_n hX rfl dX2_howMany_31 (q := 32) rfl ?_
    refine pw_ireturn hX dX2_howMany_32 ⟨_, rfl, rfl⟩ ⟨congrArg (fun z => some (Value.int z)) ?_, ?_⟩
    · rw [show v = V 0 0 by omega]; rfl
    · rfl
  · refine pw_aload_n hX rfl dX2_howMany_12 (q := 13) rfl ?_
    refine pw_getVF hX ho 4 (by decide) fl_X2_24 rfl dX2_howMany_13 (q := 16) rfl ?_
    refine pw_iload_n hX rfl dX2_howMany_16 (q := 17) rfl ?_
    refine pw_ialdVF hX ho 1 (by decide) (show _ < 7 by omega) dX2_howMany_17 (q := 18) rfl ?_
    refine pw_iload_n hX rfl dX2_howMany_18 (q := 19) rfl ?_
    refine pw_icmpN_ne hX (by first | omega | exact bV_0 hV | exact bV7 hV (by decide) (by omega) | exact bV84 hV (by decide) (by omega) | exact bV12 hV (by omega) | exact bV_1 hV | exact bV_2 hV) (by first | omega | exact bV_0 hV | exact bV7 hV (by decide) (by omega) | exact bV84 hV (by decide) (by omega) | exact bV12 hV (by omega) | exact bV_1 hV | exact bV_2 hV) (tgt := 25) dX2_howMany_19 (q := 22) rfl (by decide) (fun h_19 => ?_) (fun h_19 => ?_)
    · refine pw_iinc hX rfl (by decide) (inc1 _) dX2_howMany_25 (q := 28) rfl ?_
      refine pw_goto hX (tgt := 4) dX2_howMany_28 (by decide) ?_
      exact pw_eq rfl (by simp_all [lst, cnt]) rfl (ih (by omega))
    · refine pw_iinc hX rfl (by decide) (inc1 _) dX2_howMany_22 (q := 25) rfl ?_
      refine pw_iinc hX rfl (by decide) (inc1 _) dX2_howMany_25 (q := 28) rfl ?_
      refine pw_goto hX (tgt := 4) dX2_howMany_28 (by decide) ?_
      exact pw_eq rfl (by simp_all [lst, cnt]) rfl (ih (by omega))
abbrev rm_X2_allGhosts : Room := { frames := 0, cells := 0, slots := 0, locals := 0 }
set_option maxHeartbeats 800000 in
set_option maxRecDepth 20000 in
theorem c_X2_allGhosts {l : Launch} {g : Geo} {w : WD} {V : Nat → Nat → Nat} {o : Nat} (ho : o < 7) (hV : bV V) : CtI l g yX2_allGhosts cX2_allGhosts 3 (some .int) rm_X2_allGhosts [.ref (g_ad g o 0)] (wO w o V) (nI (sm (V 4) (V 0 0))) (wO w o V) := by
  refine ct_of mi_X2_allGhosts.2.2.2.2.2 ⟨rfl, rfl⟩ (List.forall_mem_cons.mpr ⟨rfl, fun _ h => absurd h List.not_mem_nil⟩) (Nat.le_of_ble_eq_true rfl) (fun P hX => ?_)
  replace hX : Gd l g RX2 cX2_allGhosts rm_X2_allGhosts 3 (some .int) _ _ P := hX
  show P (wO w o V) 0 [some (.ref (g_ad g o 0)), none, none] []
  have h7 := hV.2.2.2.1
  refine pw_iconst hX (k := 0) rfl (by decide) dX2_allGhosts_0 (q := 1) rfl ?_
  refine pw_istore_n hX (by decide) dX2_allGhosts_1 (q := 2) rfl ?_
  refine pw_iconst hX (k := 0) rfl (by decide) dX2_allGhosts_2 (q := 3) rfl ?_
  refine pw_istore_n hX (by decide) dX2_allGhosts_3 (q := 4) rfl ?_
  suffices L : ∀ v, v ≤ V 0 0 → P (wO w o V) 4 [some (.ref (g_ad g o 0)), some (.int (nI (sm (V 4) v))), some (.int (nI v))] [] by exact L 0 (Nat.zero_le _)
  refine loopUp (fun v hv ih => ?_)
  refine pw_iload_n hX rfl dX2_allGhosts_4 (q := 5) rfl ?_
  refine pw_aload_n hX rfl dX2_allGhosts_5 (q := 6) rfl ?_
  refine pw_getVF hX ho 0 (by decide) fl_X2_9 rfl dX2_allGhosts_6 (q := 9) rfl ?_
  refine pw_icmpN_ge hX (by first | omega | exact bV_0 hV | exact bV7 hV (by decide) (by omega) | exact bV84 hV (by decide) (by omega) | exact bV12 hV (by omega) | exact bV_1 hV | exact bV_2 hV) (by first | omega | exact bV_0 hV | exact bV7 hV (by decide) (by omega) | exact bV84 hV (by decide) (by omega) | exact bV12 hV (by omega) | exact bV_1 hV | exact bV_2 hV) (tgt := 27) dX2_allGhosts_9 (q := 12) rfl (by decide) (fun h_9 => ?_) (fun h_9 => ?_)
  · refine pw_iload_n hX rfl dX2_allGhosts_27 (q := 28) rfl ?_
    refine pw_ireturn hX dX2_allGhosts_28 ⟨_, rfl, rfl⟩ ⟨congrArg (fun z => some (Value.int z)) ?_, ?_⟩
    · rw [show v = V 0 0 by omega]
    · rfl
  · refine pw_iload_n hX rfl dX2_allGhosts_12 (q := 13) rfl ?_
    refine pw_aload_n hX rfl dX2_allGhosts_13 (q := 14) rfl ?_
    refine pw_getVF hX ho 7 (by decide) fl_X2_34 rfl dX2_allGhosts_14 (q := 17) rfl ?_
    refine pw_iload_n hX rfl dX2_allGhosts_17 (q := 18) rfl ?_
    refine pw_ialdVF hX ho 4 (by decide) (show _ < 7 by omega) dX2_allGhosts_18 (q := 19) rfl ?_
    refine pw_iaddN hX dX2_allGhosts_19 (q := 20) rfl ?_
    refine pw_istore_n hX (by decide) dX2_allGhosts_20 (q := 21) rfl ?_
    refine pw_iinc hX rfl (by decide) (inc1 _) dX2_allGhosts_21 (q := 24) rfl ?_
    refine pw_goto hX (tgt := 4) dX2_allGhosts_24 (by decide) ?_
    exact pw_eq rfl rfl rfl (ih (by omega))
abbrev rm_X2_ticksAsleep : Room := { frames := 0, cells := 0, slots := 0, locals := 0 }
set_option maxHeartbeats 800000 in
set_option maxRecDepth 20000 in
theorem c_X2_ticksAsleep {l : Launch} {g : Geo} {w : WD} {V : Nat → Nat → Nat} {o : Nat} {v : Nat} (ho : o < 7) (hv : v < 7) : CtI l g yX2_ticksAsleep cX2_ticksAsleep 2 (some .int) rm_X2_ticksAsleep [.ref (g_ad g o 0), .int (nI v)] (wO w o V) (nI (V 0 1) - nI (V 3 v)) (wO w o V) := by
  refine ct_of mi_X2_ticksAsleep.2.2.2.2.2 ⟨rfl, rfl⟩ (List.forall_mem_cons.mpr ⟨rfl, List.forall_mem_cons.mpr ⟨rfl, fun _ h => absurd h List.not_mem_nil⟩⟩) (Nat.le_of_ble_eq_true rfl) (fun P hX => ?_)
  replace hX : Gd l g RX2 cX2_ticksAsleep rm_X2_ticksAsleep 2 (some .int) _ _ P := hX
  show P (wO w o V) 0 [some (.ref (g_ad g o 0)), some (.int (nI v))] []
  refine pw_aload_n hX rfl dX2_ticksAsleep_0 (q := 1) rfl ?_
  refine pw_getVF hX ho 1 (by decide) fl_X2_15 rfl dX2_ticksAsleep_1 (q := 4) rfl ?_
  refine pw_aload_n hX rfl dX2_ticksAsleep_4 (q := 5) rfl ?_
  refine pw_getVF hX ho 6 (by decide) fl_X2_31 rfl dX2_ticksAsleep_5 (q := 8) rfl ?_
  refine pw_iload_n hX rfl dX2_ticksAsleep_8 (q := 9) rfl ?_
  refine pw_ialdVF hX ho 3 (by decide) (show _ < 7 by omega) dX2_ticksAsleep_9 (q := 10) rfl ?_
  refine pw_isub hX dX2_ticksAsleep_10 (q := 11) rfl ?_
  refine pw_ireturn hX dX2_ticksAsleep_11 ⟨_, rfl, rfl⟩ ⟨congrArg (fun z => some (Value.int z)) ?_, ?_⟩
  · rfl
  · rfl
abbrev rm_X2_write : Room := { frames := 0, cells := 0, slots := 0, locals := 0 }
set_option maxHeartbeats 800000 in
set_option maxRecDepth 20000 in
theorem c_X2_write {l : Launch} {g : Geo} {w : WD} {V : Nat → Nat → Nat} {o : Nat} {v p k : Nat} (ho : o < 7) (hv : v < 7) (hp : p < 84) : CtV l g yX2_write cX2_write 4 none rm_X2_write [.ref (g_ad g o 0), .int (nI v), .int (nI p), .int (nI k)] (wO w o V) (wO w o (kWr V v p k)) := by
  refine ct_of mi_X2_write.2.2.2.2.2 ⟨rfl, rfl⟩ (List.forall_mem_cons.mpr ⟨rfl, List.forall_mem_cons.mpr ⟨rfl, List.forall_mem_cons.mpr ⟨rfl, List.forall_mem_cons.mpr ⟨rfl, fun _ h => absurd h List.not_mem_nil⟩⟩⟩⟩) (Nat.le_of_ble_eq_true rfl) (fun P hX => ?_)
  replace hX : Gd l g RX2 cX2_write rm_X2_write 4 none _ _ P := hX
  show P (wO w o V) 0 [some (.ref (g_ad g o 0)), some (.int (nI v)), some (.int (nI p)), some (.int (nI k))] []
  refine pw_aload_n hX rfl dX2_write_0 (q := 1) rfl ?_
  refine pw_getVF hX ho 5 (by decide) fl_X2_28 rfl dX2_write_1 (q := 4) rfl ?_
  refine pw_iload_n hX rfl dX2_write_4 (q := 5) rfl ?_
  refine pw_dup2 hX rfl rfl dX2_write_5 (q := 6) rfl ?_
  refine pw_ialdVF hX ho 2 (by decide) (show _ < 7 by omega) dX2_write_6 (q := 7) rfl ?_
  refine pw_iconst hX (k := 1) rfl (by decide) dX2_write_7 (q := 8) rfl ?_
  refine pw_iaddN hX dX2_write_8 (q := 9) rfl ?_
  refine pw_iastVF hX ho 2 (by decide) (show _ < 7 by omega) dX2_write_9 (q := 10) rfl ?_
  refine pw_aload_n hX rfl dX2_write_10 (q := 11) rfl ?_
  refine pw_getVF hX ho 8 (by decide) fl_X2_37 rfl dX2_write_11 (q := 14) rfl ?_
  refine pw_iload_n hX rfl dX2_write_14 (q := 15) rfl ?_
  refine pw_aload_n hX rfl dX2_write_15 (q := 16) rfl ?_
  refine pw_getVF hX ho 5 (by decide) fl_X2_28 rfl dX2_write_16 (q := 19) rfl ?_
  refine pw_iload_n hX rfl dX2_write_19 (q := 20) rfl ?_
  refine pw_ialdVF hX ho 2 (by decide) (show _ < 7 by omega) dX2_write_20 (q := 21) rfl ?_
  rw [show vU V 2 v (V 2 v + 1) 2 v = V 2 v + 1 by rw [vU_s, upN_s]]
  refine pw_bipush hX (k := 8) (by decide) dX2_write_21 (q := 23) rfl ?_
  refine pw_imulN hX dX2_write_23 (q := 24) rfl ?_
  refine pw_iload_n hX rfl dX2_write_24 (q := 25) rfl ?_
  refine pw_iaddN hX dX2_write_25 (q := 26) rfl ?_
  refine pw_iastVF hX ho 5 (by decide) (show _ < 84 by omega) dX2_write_26 (q := 27) rfl ?_
  refine pw_aload_n hX rfl dX2_write_27 (q := 28) rfl ?_
  refine pw_getVF hX ho 9 (by decide) fl_X2_40 rfl dX2_write_28 (q := 31) rfl ?_
  refine pw_iload_n hX rfl dX2_write_31 (q := 32) rfl ?_
  refine pw_iload_n hX rfl dX2_write_32 (q := 33) rfl ?_
  refine pw_iastVF hX ho 6 (by decide) (show _ < 84 by omega) dX2_write_33 (q := 34) rfl ?_
  refine pw_return hX dX2_write_34 rfl ⟨rfl, ?_⟩
  rfl
end
section
theorem kCp_e (V U : Nat → Nat → Nat) : vA (vA (vA (vA (vA (vA (vA (vA (vA (vA (vA (vU (vU (vU (vU V 0 0 (U 0 0)) 0 1 (U 0 1)) 0 2 (U 0 2)) 0 3 (U 0 3)) 1 (U 1)) 2 (U 2)) 3 (U 3)) 4 (U 4)) 5 (U 5)) 6 (U 6)) 7 (U 7)) 8 (U 8)) 9 (U 9)) 10 (U 10)) 11 (U 11) = kCp V U := by
  funext k
  rcases (show k = 0 ∨ k = 1 ∨ k = 2 ∨ k = 3 ∨ k = 4 ∨ k = 5 ∨ k = 6 ∨ k = 7 ∨ k = 8 ∨ k = 9 ∨ k = 10 ∨ k = 11 ∨ 12 ≤ k by omega) with rfl | rfl | rfl | rfl | rfl | rfl | rfl | rfl | rfl | rfl | rfl | rfl | h
  · funext j
    show upN (upN (upN (upN (V 0) 0 (U 0 0)) 1 (U 0 1)) 2 (U 0 2)) 3 (U 0 3) j = if j < 4 then U 0 j else V 0 j
    rcases (show j = 0 ∨ j = 1 ∨ j = 2 ∨ j = 3 ∨ 4 ≤ j by omega) with rfl | rfl | rfl | rfl | h
    · rfl
    · rfl
    · rfl
    · rfl
    · rw [if_neg (by omega), upN_n _ _ (by omega), upN_n _ _ (by omega), upN_n _ _ (by omega), upN_n _ _ (by omega)]
  all_goals first
    | rfl
    | (unfold kCp; rw [if_neg (by omega), if_neg (by omega)]
       repeat rw [vA_n _ _ (by omega)]
       repeat rw [vU_n _ _ _ (by omega)])
theorem bV_vU {V : Nat → Nat → Nat} (h : bV V) {k i x : Nat} (hx : x < 2 ^ 30) (h0 : ¬ (k = 0 ∧ i = 0)) : bV (vU V k i x) := by
  obtain ⟨h1, h2, h3, h4, h5, h6⟩ := h
  have key : ∀ b j, V b j < 2 ^ 30 → vU V k i x b j < 2 ^ 30 := by
    intro b j hb
    by_cases hk : b = k
    · subst hk
      rw [vU_s]
      unfold upN
      split
      · exact hx
      · exact hb
    · rw [vU_n _ _ _ hk]; exact hb
  refine ⟨fun b j a1 a2 a3 => key b j (h1 b j a1 a2 a3), fun b j a1 a2 a3 => key b j (h2 b j a1 a2 a3), fun j a => key 11 j (h3 j a), ?_, key 0 1 h5, key 0 2 h6⟩
  by_cases hk : 0 = k
  · subst hk
    rw [vU_s, upN_n _ _ (by omega)]; exact h4
  · rw [vU_n _ _ _ hk]; exact h4
theorem bV_v4 {V : Nat → Nat → Nat} (h : bV V) (i x : Nat) : bV (vU V 4 i x) := by
  obtain ⟨h1, h2, h3, h4, h5, h6⟩ := h
  refine ⟨fun b j a1 a2 a3 => ?_, fun b j a1 a2 a3 => ?_, h3, h4, h5, h6⟩
  · rw [vU_n _ _ _ (by omega)]; exact h1 b j a1 a2 a3
  · rw [vU_n _ _ _ (by omega)]; exact h2 b j a1 a2 a3
theorem bV_v3 {V : Nat → Nat → Nat} (h : bV V) (x : Nat) : bV (vU V 0 3 x) := by
  obtain ⟨h1, h2, h3, h4, h5, h6⟩ := h
  refine ⟨fun b j a1 a2 a3 => ?_, fun b j a1 a2 a3 => ?_, h3, h4, h5, h6⟩
  · rw [vU_n _ _ _ (by omega)]; exact h1 b j a1 a2 a3
  · rw [vU_n _ _ _ (by omega)]; exact h2 b j a1 a2 a3
def mx (a b : Nat) : Nat := if a < b then b else a
theorem mx_lt {a b n : Nat} (ha : a < n) (hb : b < n) : mx a b < n := by unfold mx; split <;> assumption
theorem n_max {x y : Nat} (hx : x < 2 ^ 31) (hy : y < 2 ^ 31) : (if nI x < nI y then nI y else nI x) = nI (mx x y) := by
  unfold mx
  by_cases h : x < y
  · rw [if_pos h, if_pos ((nI_ltI hx hy).mpr h)]
  · rw [if_neg h, if_neg (fun z => h ((nI_ltI hx hy).mp z))]
theorem inN_lo0 {hi : Nat} {v : Int32} (h : v < 0) : inN 0 hi v = false := inN_lo (by decide) (by rw [nI_0]; exact h)
theorem inN_ok0 {hi : Nat} (h2 : hi < 2 ^ 31) {v : Int32} (h : ¬ v < 0) (h' : ¬ nI hi < v) : inN 0 hi v = true := inN_ok (by decide) h2 (by rw [nI_0]; exact h) h'
theorem kAw_n {V : Nat → Nat → Nat} {i : Nat} (h : hasN (V 0 0) (nI i) = true) (hx : ix (nI i) = i) : kAw V (nI i) = decide (V 1 i = 0) := by rw [kAw, h, hx]; rfl
theorem kAs_n {V : Nat → Nat → Nat} {i : Nat} (h : hasN (V 0 0) (nI i) = true) (hx : ix (nI i) = i) : kAs V (nI i) = decide (V 1 i = 1) := by rw [kAs, h, hx]; rfl
def kMR (V : Nat → Nat → Nat) (v t a k : Int32) : (Nat → Nat → Nat) × Int32 := if hasN (V 0 0) v = true ∧ hasN 12 t = true ∧ inN 0 99 a = true ∧ inN 0 2 k = true then (if V 1 (ix v) = 0 then (vU (kWr V (ix v) (ix v * 12 + ix t) (ix k)) 7 (ix v * 12 + ix t) (ix a), nI (V 2 (ix v) + 1)) else (V, -1000002)) else (V, -1000001)
def kTb (V : Nat → Nat → Nat) (v t : Nat) : Nat → Nat → Nat := vU (vU (vU (vU (kWr V v (v * 12 + t) 3) 8 (v * 12 + t) (V 0 1)) 9 (v * 12 + t) (2 ^ v)) 11 t (mx (V 11 t) ((V 2 v + 1) * 8 + v))) 0 3 (V 0 3 + 1)
def kMT (V : Nat → Nat → Nat) (v t : Int32) : (Nat → Nat → Nat) × Int32 := if hasN (V 0 0) v = true ∧ hasN 12 t = true then (if V 1 (ix v) = 0 ∧ kRum V (ix v * 12 + ix t) = true then (kTb V (ix v) (ix t), nI (V 2 (ix v) + 1)) else (V, -1000002)) else (V, -1000001)
def kTwo (V : Nat → Nat → Nat) (v u : Int32) : Bool := hasN (V 0 0) v && (hasN (V 0 0) u && decide (v ≠ u))
def kHand (V : Nat → Nat → Nat) (t f p : Nat) : Bool := if V 6 (f * 12 + t) = 1 then decide (V 5 (f * 12 + t) % 8 = f) else if V 6 (f * 12 + t) = 2 then decide (V 5 (f * 12 + t) % 8 = f ∧ f < p) else true
theorem swK (c : Nat) : Op.lookupswitch.offset [((1 : Int), (27 : Int)), (2, 29)] 43 (c : Int) = if c = 1 then 27 else if c = 2 then 29 else 43 := by
  simp only [Op.lookupswitch.offset_cons, Op.lookupswitch.offset_nil]
  have e : ∀ n : Nat, ((n : Int) = (c : Int)) = (c = n) := fun n => propext ⟨fun h => by omega, fun h => by omega⟩
  rw [show (1 : Int) = ((1 : Nat) : Int) from rfl, show (2 : Int) = ((2 : Nat) : Int) from rfl]
  simp only [e]
def kMay (k x y : Nat) : Bool := if k = 1 then decide (x = 1) else if k = 2 then decide (x = 1 ∧ y = 1) else true
theorem kHM {V : Nat → Nat → Nat} {t f p x y : Nat} (h1 : x = 1 ↔ V 5 (f * 12 + t) % 8 = f) (h2 : y = 1 ↔ f < p) : kHand V t f p = kMay (V 6 (f * 12 + t)) x y := by
  unfold kHand kMay
  rw [decide_eq_decide.mpr h1, decide_eq_decide.mpr (and_congr h1 h2)]
def kGv (V : Nat → Nat → Nat) (a b t : Nat) : Nat := if V 5 (a * 12 + t) = V 5 (b * 12 + t) then 0 else if V 5 (b * 12 + t) < V 5 (a * 12 + t) then (if kHand V t a b = true then a + 1 else 0) else (if kHand V t b a = true then b + 1 else 0)
def kH1 (V : Nat → Nat → Nat) (t f p : Nat) : Nat → Nat → Nat := if kRum V (f * 12 + t) = true ∧ V 5 (f * 12 + t) < V 10 (p * 12 + t) then vU V 4 p (V 4 p + 1) else V
def kH2 (V : Nat → Nat → Nat) (f p : Nat) : Nat → Nat → Nat := vU (vU (vU (vU (vU V 5 p (V 5 f)) 6 p (V 6 f)) 7 p (V 7 f)) 8 p (V 8 f)) 9 p (V 9 f)
def kHn (V : Nat → Nat → Nat) (t f p : Nat) : Nat → Nat → Nat := kH2 (kH1 V t f p) (f * 12 + t) (p * 12 + t)
def kBoth (V : Nat → Nat → Nat) (a b t : Nat) : Nat := V 9 (a * 12 + t) ||| V 9 (b * 12 + t) ||| 2 ^ a ||| 2 ^ b
def kSh (V : Nat → Nat → Nat) (a b t : Nat) : Nat → Nat → Nat := if kTmb V (a * 12 + t) = true ∧ V 5 (a * 12 + t) = V 5 (b * 12 + t) then vU (vU V 9 (a * 12 + t) (kBoth V a b t)) 9 (b * 12 + t) (kBoth V a b t) else V
abbrev rm_X2_copyFrom : Room := { frames := 2, cells := 0, slots := 0, locals := 48 }
set_option maxHeartbeats 800000 in
set_option maxRecDepth 20000 in
theorem c_X2_copyFrom {l : Launch} {g : Geo} {w : WD} {V : Nat → Nat → Nat} {o o2 : Nat} (ho : o < 7) (ho2 : o2 < 7) (hne : o2 ≠ o) : CtV l g yX2_copyFrom cX2_copyFrom 2 none rm_X2_copyFrom [.ref (g_ad g o 0), .ref (g_ad g o2 0)] (wO w o V) (wO w o (kCp V (w.1 o2))) := by
  refine ct_of mi_X2_copyFrom.2.2.2.2.2 ⟨rfl, rfl⟩ (List.forall_mem_cons.mpr ⟨rfl, List.forall_mem_cons.mpr ⟨rfl, fun _ h => absurd h List.not_mem_nil⟩⟩) (Nat.le_of_ble_eq_true rfl) (fun P hX => ?_)
  replace hX : Gd l g RX2 cX2_copyFrom rm_X2_copyFrom 2 none _ _ P := hX
  show P (wO w o V) 0 [some (.ref (g_ad g o 0)), some (.ref (g_ad g o2 0))] []
  refine pw_aload_n hX rfl dX2_copyFrom_0 (q := 1) rfl ?_
  refine pw_aload_n hX rfl dX2_copyFrom_1 (q := 2) rfl ?_
  refine pw_getV hX ho2 0 (by decide) fl_X2_9 rfl dX2_copyFrom_2 (q := 5) rfl ?_
  rw [wO_n _ _ hne]
  refine pw_putVF hX ho 0 (by decide) fl_X2_9 dX2_copyFrom_5 (q := 8) rfl ?_
  refine pw_aload_n hX rfl dX2_copyFrom_8 (q := 9) rfl ?_
  refine pw_aload_n hX rfl dX2_copyFrom_9 (q := 10) rfl ?_
  refine pw_getV hX ho2 1 (by decide) fl_X2_15 rfl dX2_copyFrom_10 (q := 13) rfl ?_
  rw [wO_n _ _ hne]
  refine pw_putVF hX ho 1 (by decide) fl_X2_15 dX2_copyFrom_13 (q := 16) rfl ?_
  refine pw_aload_n hX rfl dX2_copyFrom_16 (q := 17) rfl ?_
  refine pw_aload_n hX rfl dX2_copyFrom_17 (q := 18) rfl ?_
  refine pw_getV hX ho2 2 (by decide) fl_X2_18 rfl dX2_copyFrom_18 (q := 21) rfl ?_
  rw [wO_n _ _ hne]
  refine pw_putVF hX ho 2 (by decide) fl_X2_18 dX2_copyFrom_21 (q := 24) rfl ?_
  refine pw_aload_n hX rfl dX2_copyFrom_24 (q := 25) rfl ?_
  refine pw_aload_n hX rfl dX2_copyFrom_25 (q := 26) rfl ?_
  refine pw_getV hX ho2 3 (by decide) fl_X2_21 rfl dX2_copyFrom_26 (q := 29) rfl ?_
  rw [wO_n _ _ hne]
  refine pw_putVF hX ho 3 (by decide) fl_X2_21 dX2_copyFrom_29 (q := 32) rfl ?_
  refine pw_aload_n hX rfl dX2_copyFrom_32 (q := 33) rfl ?_
  refine pw_getV hX ho2 4 (by decide) fl_X2_24 rfl dX2_copyFrom_33 (q := 36) rfl ?_
  refine pw_aload_n hX rfl dX2_copyFrom_36 (q := 37) rfl ?_
  refine pw_getVF hX ho 4 (by decide) fl_X2_24 rfl dX2_copyFrom_37 (q := 40) rfl ?_
  refine pw_bipush hX (k := 7) (by decide) dX2_copyFrom_40 (q := 42) rfl ?_
  refine pw_csV3 hX dX2_copyFrom_42 (q := 45) rfl mi_X2_copyRow ml_X2_58 ⟨rfl, rfl, by decide, by decide⟩ rfl (Nat.le_of_ble_eq_true rfl) (c_X2_copyRow (dmV ho2 (by decide)) (by decide) (by omega) (g_chV ho2) (g_lnV ho2) (dmV ho (by decide)) (by decide) (by omega) (g_chV ho) (g_lnV ho)) ?_
  rw [wA_wO, wO_n _ _ hne]
  refine pw_aload_n hX rfl dX2_copyFrom_45 (q := 46) rfl ?_
  refine pw_getV hX ho2 5 (by decide) fl_X2_28 rfl dX2_copyFrom_46 (q := 49) rfl ?_
  refine pw_aload_n hX rfl dX2_copyFrom_49 (q := 50) rfl ?_
  refine pw_getVF hX ho 5 (by decide) fl_X2_28 rfl dX2_copyFrom_50 (q := 53) rfl ?_
  refine pw_bipush hX (k := 7) (by decide) dX2_copyFrom_53 (q := 55) rfl ?_
  refine pw_csV3 hX dX2_copyFrom_55 (q := 58) rfl mi_X2_copyRow ml_X2_58 ⟨rfl, rfl, by decide, by decide⟩ rfl (Nat.le_of_ble_eq_true rfl) (c_X2_copyRow (dmV ho2 (by decide)) (by decide) (by omega) (g_chV ho2) (g_lnV ho2) (dmV ho (by decide)) (by decide) (by omega) (g_chV ho) (g_lnV ho)) ?_
  rw [wA_wO, wO_n _ _ hne]
  refine pw_aload_n hX rfl dX2_copyFrom_58 (q := 59) rfl ?_
  refine pw_getV hX ho2 6 (by decide) fl_X2_31 rfl dX2_copyFrom_59 (q := 62) rfl ?_
  refine pw_aload_n hX rfl dX2_copyFrom_62 (q := 63) rfl ?_
  refine pw_getVF hX ho 6 (by decide) fl_X2_31 rfl dX2_copyFrom_63 (q := 66) rfl ?_
  refine pw_bipush hX (k := 7) (by decide) dX2_copyFrom_66 (q := 68) rfl ?_
  refine pw_csV3 hX dX2_copyFrom_68 (q := 71) rfl mi_X2_copyRow ml_X2_58 ⟨rfl, rfl, by decide, by decide⟩ rfl (Nat.le_of_ble_eq_true rfl) (c_X2_copyRow (dmV ho2 (by decide)) (by decide) (by omega) (g_chV ho2) (g_lnV ho2) (dmV ho (by decide)) (by decide) (by omega) (g_chV ho) (g_lnV ho)) ?_
  rw [wA_wO, wO_n _ _ hne]
  refine pw_aload_n hX rfl dX2_copyFrom_71 (q := 72) rfl ?_
  refine pw_getV hX ho2 7 (by decide) fl_X2_34 rfl dX2_copyFrom_72 (q := 75) rfl ?_
  refine pw_aload_n hX rfl dX2_copyFrom_75 (q := 76) rfl ?_
  refine pw_getVF hX ho 7 (by decide) fl_X2_34 rfl dX2_copyFrom_76 (q := 79) rfl ?_
  refine pw_bipush hX (k := 7) (by decide) dX2_copyFrom_79 (q := 81) rfl ?_
  refine pw_csV3 hX dX2_copyFrom_81 (q := 84) rfl mi_X2_copyRow ml_X2_58 ⟨rfl, rfl, by decide, by decide⟩ rfl (Nat.le_of_ble_eq_true rfl) (c_X2_copyRow (dmV ho2 (by decide)) (by decide) (by omega) (g_chV ho2) (g_lnV ho2) (dmV ho (by decide)) (by decide) (by omega) (g_chV ho) (g_lnV ho)) ?_
  rw [wA_wO, wO_n _ _ hne]
  refine pw_aload_n hX rfl dX2_copyFrom_84 (q := 85) rfl ?_
  refine pw_getV hX ho2 8 (by decide) fl_X2_37 rfl dX2_copyFrom_85 (q := 88) rfl ?_
  refine pw_aload_n hX rfl dX2_copyFrom_88 (q := 89) rfl ?_
  refine pw_getVF hX ho 8 (by decide) fl_X2_37 rfl dX2_copyFrom_89 (q := 92) rfl ?_
  refine pw_bipush hX (k := 84) (by decide) dX2_copyFrom_92 (q := 94) rfl ?_
  refine pw_csV3 hX dX2_copyFrom_94 (q := 97) rfl mi_X2_copyRow ml_X2_58 ⟨rfl, rfl, by decide, by decide⟩ rfl (Nat.le_of_ble_eq_true rfl) (c_X2_copyRow (dmV ho2 (by decide)) (by decide) (by omega) (g_chV ho2) (g_lnV ho2) (dmV ho (by decide)) (by decide) (by omega) (g_chV ho) (g_lnV ho)) ?_
  rw [wA_wO, wO_n _ _ hne]
  refine pw_aload_n hX rfl dX2_copyFrom_97 (q := 98) rfl ?_
  refine pw_getV hX ho2 9 (by decide) fl_X2_40 rfl dX2_copyFrom_98 (q := 101) rfl ?_
  refine pw_aload_n hX rfl dX2_copyFrom_101 (q := 102) rfl ?_
  refine pw_getVF hX ho 9 (by decide) fl_X2_40 rfl dX2_copyFrom_102 (q := 105) rfl ?_
  refine pw_bipush hX (k := 84) (by decide) dX2_copyFrom_105 (q := 107) rfl ?_
  refine pw_csV3 hX dX2_copyFrom_107 (q := 110) rfl mi_X2_copyRow ml_X2_58 ⟨rfl, rfl, by decide, by decide⟩ rfl (Nat.le_of_ble_eq_true rfl) (c_X2_copyRow (dmV ho2 (by decide)) (by decide) (by omega) (g_chV ho2) (g_lnV ho2) (dmV ho (by decide)) (by decide) (by omega) (g_chV ho) (g_lnV ho)) ?_
  rw [wA_wO, wO_n _ _ hne]
  refine pw_aload_n hX rfl dX2_copyFrom_110 (q := 111) rfl ?_
  refine pw_getV hX ho2 10 (by decide) fl_X2_43 rfl dX2_copyFrom_111 (q := 114) rfl ?_
  refine pw_aload_n hX rfl dX2_copyFrom_114 (q := 115) rfl ?_
  refine pw_getVF hX ho 10 (by decide) fl_X2_43 rfl dX2_copyFrom_115 (q := 118) rfl ?_
  refine pw_bipush hX (k := 84) (by decide) dX2_copyFrom_118 (q := 120) rfl ?_
  refine pw_csV3 hX dX2_copyFrom_120 (q := 123) rfl mi_X2_copyRow ml_X2_58 ⟨rfl, rfl, by decide, by decide⟩ rfl (Nat.le_of_ble_eq_true rfl) (c_X2_copyRow (dmV ho2 (by decide)) (by decide) (by omega) (g_chV ho2) (g_lnV ho2) (dmV ho (by decide)) (by decide) (by omega) (g_chV ho) (g_lnV ho)) ?_
  rw [wA_wO, wO_n _ _ hne]
  refine pw_aload_n hX rfl dX2_copyFrom_123 (q := 124) rfl ?_
  refine pw_getV hX ho2 11 (by decide) fl_X2_46 rfl dX2_copyFrom_124 (q := 127) rfl ?_
  refine pw_aload_n hX rfl dX2_copyFrom_127 (q := 128) rfl ?_
  refine pw_getVF hX ho 11 (by decide) fl_X2_46 rfl dX2_copyFrom_128 (q := 131) rfl ?_
  refine pw_bipush hX (k := 84) (by decide) dX2_copyFrom_131 (q := 133) rfl ?_
  refine pw_csV3 hX dX2_copyFrom_133 (q := 136) rfl mi_X2_copyRow ml_X2_58 ⟨rfl, rfl, by decide, by decide⟩ rfl (Nat.le_of_ble_eq_true rfl) (c_X2_copyRow (dmV ho2 (by decide)) (by decide) (by omega) (g_chV ho2) (g_lnV ho2) (dmV ho (by decide)) (by decide) (by omega) (g_chV ho) (g_lnV ho)) ?_
  rw [wA_wO, wO_n _ _ hne]
  refine pw_aload_n hX rfl dX2_copyFrom_136 (q := 137) rfl ?_
  refine pw_getV hX ho2 12 (by decide) fl_X2_49 rfl dX2_copyFrom_137 (q := 140) rfl ?_
  refine pw_aload_n hX rfl dX2_copyFrom_140 (q := 141) rfl ?_
  refine pw_getVF hX ho 12 (by decide) fl_X2_49 rfl dX2_copyFrom_141 (q := 144) rfl ?_
  refine pw_bipush hX (k := 84) (by decide) dX2_copyFrom_144 (q := 146) rfl ?_
  refine pw_csV3 hX dX2_copyFrom_146 (q := 149) rfl mi_X2_copyRow ml_X2_58 ⟨rfl, rfl, by decide, by decide⟩ rfl (Nat.le_of_ble_eq_true rfl) (c_X2_copyRow (dmV ho2 (by decide)) (by decide) (by omega) (g_chV ho2) (g_lnV ho2) (dmV ho (by decide)) (by decide) (by omega) (g_chV ho) (g_lnV ho)) ?_
  rw [wA_wO, wO_n _ _ hne]
  refine pw_aload_n hX rfl dX2_copyFrom_149 (q := 150) rfl ?_
  refine pw_getV hX ho2 13 (by decide) fl_X2_52 rfl dX2_copyFrom_150 (q := 153) rfl ?_
  refine pw_aload_n hX rfl dX2_copyFrom_153 (q := 154) rfl ?_
  refine pw_getVF hX ho 13 (by decide) fl_X2_52 rfl dX2_copyFrom_154 (q := 157) rfl ?_
  refine pw_bipush hX (k := 84) (by decide) dX2_copyFrom_157 (q := 159) rfl ?_
  refine pw_csV3 hX dX2_copyFrom_159 (q := 162) rfl mi_X2_copyRow ml_X2_58 ⟨rfl, rfl, by decide, by decide⟩ rfl (Nat.le_of_ble_eq_true rfl) (c_X2_copyRow (dmV ho2 (by decide)) (by decide) (by omega) (g_chV ho2) (g_lnV ho2) (dmV ho (by decide)) (by decide) (by omega) (g_chV ho) (g_lnV ho)) ?_
  rw [wA_wO, wO_n _ _ hne]
  refine pw_aload_n hX rfl dX2_copyFrom_162 (q := 163) rfl ?_
  refine pw_getV hX ho2 14 (by decide) fl_X2_55 rfl dX2_copyFrom_163 (q := 166) rfl ?_
  refine pw_aload_n hX rfl dX2_copyFrom_166 (q := 167) rfl ?_
  refine pw_getVF hX ho 14 (by decide) fl_X2_55 rfl dX2_copyFrom_167 (q := 170) rfl ?_
  refine pw_bipush hX (k := 12) (by decide) dX2_copyFrom_170 (q := 172) rfl ?_
  refine pw_csV3 hX dX2_copyFrom_172 (q := 175) rfl mi_X2_copyRow ml_X2_58 ⟨rfl, rfl, by decide, by decide⟩ rfl (Nat.le_of_ble_eq_true rfl) (c_X2_copyRow (dmV ho2 (by decide)) (by decide) (by omega) (g_chV ho2) (g_lnV ho2) (dmV ho (by decide)) (by decide) (by omega) (g_chV ho) (g_lnV ho)) ?_
  rw [wA_wO, wO_n _ _ hne]
  refine pw_return hX dX2_copyFrom_175 rfl ⟨rfl, ?_⟩
  rw [kCp_e]
abbrev rm_X2_makeRumor : Room := { frames := 2, cells := 0, slots := 0, locals := 42 }
set_option maxHeartbeats 800000 in
set_option maxRecDepth 20000 in
theorem c_X2_makeRumor {l : Launch} {g : Geo} {w : WD} {V : Nat → Nat → Nat} {o : Nat} {v t a k : Int32} (ho : o < 7) (hV : bV V) : CtI l g yX2_makeRumor cX2_makeRumor 6 (some .int) rm_X2_makeRumor [.ref (g_ad g o 0), .int v, .int t, .int a, .int k] (wO w o V) ((kMR V v t a k).2) (wO w o (kMR V v t a k).1) := by
  refine ct_of mi_X2_makeRumor.2.2.2.2.2 ⟨rfl, rfl⟩ (List.forall_mem_cons.mpr ⟨rfl, List.forall_mem_cons.mpr ⟨rfl, List.forall_mem_cons.mpr ⟨rfl, List.forall_mem_cons.mpr ⟨rfl, List.forall_mem_cons.mpr ⟨rfl, fun _ h => absurd h List.not_mem_nil⟩⟩⟩⟩⟩) (Nat.le_of_ble_eq_true rfl) (fun P hX => ?_)
  replace hX : Gd l g RX2 cX2_makeRumor rm_X2_makeRumor 6 (some .int) _ _ P := hX
  show P (wO w o V) 0 [some (.ref (g_ad g o 0)), some (.int v), some (.int t), some (.int a), some (.int k), none] []
  refine pw_aload_n hX rfl dX2_makeRumor_0 (q := 1) rfl ?_
  refine pw_iload_n hX rfl dX2_makeRumor_1 (q := 2) rfl ?_
  refine pw_cvI1 hX dX2_makeRumor_2 (q := 5) rfl mi_X2_has ml_X2_68 (rcV ho) ⟨rfl, rfl, by decide, by decide⟩ rfl (Nat.le_of_ble_eq_true rfl) (c_X2_has (by first | assumption | omega) (by first | assumption | omega)) ?_
  refine pw_ifB_eq hX (tgt := 36) dX2_makeRumor_5 (q := 8) rfl (by decide) (fun h_5 => ?_) (fun h_5 => ?_)
  · have hz : ¬ (hasN (V 0 0) v = true ∧ hasN 12 t = true ∧ inN 0 99 a = true ∧ inN 0 2 k = true) := fun z => by rw [h_5] at z; exact absurd z.1 (by decide)
    refine pw_ldc hX cn_X2_73 dX2_makeRumor_36 (q := 38) rfl ?_
    refine pw_ireturn hX dX2_makeRumor_38 ⟨_, rfl, rfl⟩ ⟨congrArg (fun z => some (Value.int z)) ?_, ?_⟩
    · rw [kMR, if_neg hz]
    · rw [kMR, if_neg hz]
  · obtain ⟨i, hi, rfl⟩ := hasN_of (bV_0 hV) h_5
    have hx : ix (nI i) = i := ix_nI (by have := hV.2.2.2.1; omega)
    have h7 := hV.2.2.2.1
    refine pw_iload_n hX rfl dX2_makeRumor_8 (q := 9) rfl ?_
    refine pw_cnI1 hX dX2_makeRumor_9 (q := 12) rfl mi_X3_isTopic mn_X2_116 ⟨rfl, rfl, by decide, by decide⟩ rfl (Nat.le_of_ble_eq_true rfl) (c_X3_isTopic) ?_
    refine pw_ifB_eq hX (tgt := 36) dX2_makeRumor_12 (q := 15) rfl (by decide) (fun h_12 => ?_) (fun h_12 => ?_)
    · have hz : ¬ (hasN (V 0 0) (nI i) = true ∧ hasN 12 t = true ∧ inN 0 99 a = true ∧ inN 0 2 k = true) := fun z => by rw [h_12] at z; exact absurd z.2.1 (by decide)
      refine pw_ldc hX cn_X2_73 dX2_makeRumor_36 (q := 38) rfl ?_
      refine pw_ireturn hX dX2_makeRumor_38 ⟨_, rfl, rfl⟩ ⟨congrArg (fun z => some (Value.int z)) ?_, ?_⟩
      · rw [kMR, if_neg hz]
      · rw [kMR, if_neg hz]
    · obtain ⟨j, hj, rfl⟩ := hasN_of (by decide) h_12
      have hxj : ix (nI j) = j := ix_nI (by omega)
      refine pw_iload_n hX rfl dX2_makeRumor_15 (q := 16) rfl ?_
      refine pw_if_lt hX (tgt := 36) dX2_makeRumor_16 (q := 19) rfl (by decide) (fun h_16 => ?_) (fun h_16 => ?_)
      · have hz : ¬ (hasN (V 0 0) (nI i) = true ∧ hasN 12 (nI j) = true ∧ inN 0 99 a = true ∧ inN 0 2 k = true) := fun z => by rw [inN_lo0 h_16] at z; exact absurd z.2.2.1 (by decide)
        refine pw_ldc hX cn_X2_73 dX2_makeRumor_36 (q := 38) rfl ?_
        refine pw_ireturn hX dX2_makeRumor_38 ⟨_, rfl, rfl⟩ ⟨congrArg (fun z => some (Value.int z)) ?_, ?_⟩
        · rw [kMR, if_neg hz]
        · rw [kMR, if_neg hz]
      · refine pw_iload_n hX rfl dX2_makeRumor_19 (q := 20) rfl ?_
        refine pw_bipush hX (k := 99) (by decide) dX2_makeRumor_20 (q := 22) rfl ?_
        refine pw_icmp_gt hX (tgt := 36) dX2_makeRumor_22 (q := 25) rfl (by decide) (fun h_22 => ?_) (fun h_22 => ?_)
        · have hz : ¬ (hasN (V 0 0) (nI i) = true ∧ hasN 12 (nI j) = true ∧ inN 0 99 a = true ∧ inN 0 2 k = true) := fun z => by rw [inN_hi (by decide) h_22] at z; exact absurd z.2.2.1 (by decide)
          refine pw_ldc hX cn_X2_73 dX2_makeRumor_36 (q := 38) rfl ?_
          refine pw_ireturn hX dX2_makeRumor_38 ⟨_, rfl, rfl⟩ ⟨congrArg (fun z => some (Value.int z)) ?_, ?_⟩
          · rw [kMR, if_neg hz]
          · rw [kMR, if_neg hz]
        · refine pw_iload hX rfl dX2_makeRumor_25 (q := 27) rfl ?_
          refine pw_if_lt hX (tgt := 36) dX2_makeRumor_27 (q := 30) rfl (by decide) (fun h_27 => ?_) (fun h_27 => ?_)
          · have hz : ¬ (hasN (V 0 0) (nI i) = true ∧ hasN 12 (nI j) = true ∧ inN 0 99 a = true ∧ inN 0 2 k = true) := fun z => by rw [inN_lo0 h_27] at z; exact absurd z.2.2.2 (by decide)
            refine pw_ldc hX cn_X2_73 dX2_makeRumor_36 (q := 38) rfl ?_
            refine pw_ireturn hX dX2_makeRumor_38 ⟨_, rfl, rfl⟩ ⟨congrArg (fun z => some (Value.int z)) ?_, ?_⟩
            · rw [kMR, if_neg hz]
            · rw [kMR, if_neg hz]
          · refine pw_iload hX rfl dX2_makeRumor_30 (q := 32) rfl ?_
            refine pw_iconst hX (k := 2) rfl (by decide) dX2_makeRumor_32 (q := 33) rfl ?_
            refine pw_icmp_le hX (tgt := 39) dX2_makeRumor_33 (q := 36) rfl (by decide) (fun h_33 => ?_) (fun h_33 => ?_)
            · obtain ⟨x, -, hx3, rfl⟩ := inN_of (by decide) (inN_ok0 (by decide) h_16 h_22)
              obtain ⟨y, -, hy3, rfl⟩ := inN_of (by decide) (inN_ok0 (by decide) h_27 (Int32.not_lt.mpr h_33))
              have hc : (hasN (V 0 0) (nI i) = true ∧ hasN 12 (nI j) = true ∧ inN 0 99 (nI x) = true ∧ inN 0 2 (nI y) = true) := ⟨h_5, h_12, by rw [inN_nI (by omega)]; exact decide_eq_true ⟨Nat.zero_le _, hx3⟩, by rw [inN_nI (by omega)]; exact decide_eq_true ⟨Nat.zero_le _, hy3⟩⟩
              have hxx : ix (nI x) = x := ix_nI (by omega)
              have hxy : ix (nI y) = y := ix_nI (by omega)
              refine pw_aload_n hX rfl dX2_makeRumor_39 (q := 40) rfl ?_
              refine pw_iload_n hX rfl dX2_makeRumor_40 (q := 41) rfl ?_
              refine pw_cvI1 hX dX2_makeRumor_41 (q := 44) rfl mi_X2_isAwake ml_X2_74 (rcV ho) ⟨rfl, rfl, by decide, by decide⟩ rfl (Nat.le_of_ble_eq_true rfl) (c_X2_isAwake (by first | assumption | omega) (by first | assumption | omega)) ?_
              rw [kAw_n h_5 hx]
              refine pw_ifB_ne hX (tgt := 50) dX2_makeRumor_44 (q := 47) rfl (by decide) (fun h_44 => ?_) (fun h_44 => ?_)
              · have h_44 := of_decide_eq_true h_44
                refine pw_iload_n hX rfl dX2_makeRumor_50 (q := 51) rfl ?_
                refine pw_iload_n hX rfl dX2_makeRumor_51 (q := 52) rfl ?_
                refine pw_cnI2 hX dX2_makeRumor_52 (q := 55) rfl mi_X3_place mn_X2_88 ⟨rfl, rfl, by decide, by decide⟩ rfl (Nat.le_of_ble_eq_true rfl) (c_X3_place) ?_
                refine pw_istore hX (by decide) dX2_makeRumor_55 (q := 57) rfl ?_
                refine pw_aload_n hX rfl dX2_makeRumor_57 (q := 58) rfl ?_
                refine pw_iload_n hX rfl dX2_makeRumor_58 (q := 59) rfl ?_
                refine pw_iload hX rfl dX2_makeRumor_59 (q := 61) rfl ?_
                refine pw_iload hX rfl dX2_makeRumor_61 (q := 63) rfl ?_
                refine pw_cvV3 hX dX2_makeRumor_63 (q := 66) rfl mi_X2_write ml_X2_119 (rcV ho) ⟨rfl, rfl, by decide, by decide⟩ rfl (Nat.le_of_ble_eq_true rfl) (c_X2_write ho (by omega) (by omega)) ?_
                refine pw_aload_n hX rfl dX2_makeRumor_66 (q := 67) rfl ?_
                refine pw_getVF hX ho 10 (by decide) fl_X2_43 rfl dX2_makeRumor_67 (q := 70) rfl ?_
                refine pw_iload hX rfl dX2_makeRumor_70 (q := 72) rfl ?_
                refine pw_iload_n hX rfl dX2_makeRumor_72 (q := 73) rfl ?_
                refine pw_iastVF hX ho 7 (by decide) (show _ < 84 by omega) dX2_makeRumor_73 (q := 74) rfl ?_
                refine pw_aload_n hX rfl dX2_makeRumor_74 (q := 75) rfl ?_
                refine pw_getVF hX ho 5 (by decide) fl_X2_28 rfl dX2_makeRumor_75 (q := 78) rfl ?_
                refine pw_iload_n hX rfl dX2_makeRumor_78 (q := 79) rfl ?_
                refine pw_ialdVF hX ho 2 (by decide) (show _ < 7 by omega) dX2_makeRumor_79 (q := 80) rfl ?_
                rw [show vU (kWr V i (i * 12 + j) y) 7 (i * 12 + j) x 2 i = upN (V 2) i (V 2 i + 1) i from rfl, upN_s]
                refine pw_ireturn hX dX2_makeRumor_80 ⟨_, rfl, rfl⟩ ⟨congrArg (fun z => some (Value.int z)) ?_, ?_⟩
                · rw [kMR, if_pos hc, hx, hxj, hxx, hxy]; first | rw [if_pos h_44] | rw [if_neg h_44]
                · rw [kMR, if_pos hc, hx, hxj, hxx, hxy]; first | rw [if_pos h_44] | rw [if_neg h_44]
              · have h_44 := of_decide_eq_false h_44
                refine pw_ldc hX cn_X2_77 dX2_makeRumor_47 (q := 49) rfl ?_
                refine pw_ireturn hX dX2_makeRumor_49 ⟨_, rfl, rfl⟩ ⟨congrArg (fun z => some (Value.int z)) ?_, ?_⟩
                · rw [kMR, if_pos hc, hx, hxj, hxx, hxy]; first | rw [if_pos h_44] | rw [if_neg h_44]
                · rw [kMR, if_pos hc, hx, hxj, hxx, hxy]; first | rw [if_pos h_44] | rw [if_neg h_44]
            · have hz : ¬ (hasN (V 0 0) (nI i) = true ∧ hasN 12 (nI j) = true ∧ inN 0 99 a = true ∧ inN 0 2 k = true) := fun z => by rw [inN_hi (by decide) (Int32.not_le.mp h_33)] at z; exact absurd z.2.2.2 (by decide)
              refine pw_ldc hX cn_X2_73 dX2_makeRumor_36 (q := 38) rfl ?_
              refine pw_ireturn hX dX2_makeRumor_38 ⟨_, rfl, rfl⟩ ⟨congrArg (fun z => some (Value.int z)) ?_, ?_⟩
              · rw [kMR, if_neg hz]
              · rw [kMR, if_neg hz]
abbrev rm_X2_makeTomb : Room := { frames := 2, cells := 0, slots := 0, locals := 42 }
set_option maxHeartbeats 800000 in
set_option maxRecDepth 20000 in
theorem c_X2_makeTomb {l : Launch} {g : Geo} {w : WD} {V : Nat → Nat → Nat} {o : Nat} {v t : Int32} (ho : o < 7) (hV : bV V) (hc2 : ∀ i, i < 7 → (V 2 i + 1) * 8 + i < 2 ^ 30) : CtI l g yX2_makeTomb cX2_makeTomb 4 (some .int) rm_X2_makeTomb [.ref (g_ad g o 0), .int v, .int t] (wO w o V) ((kMT V v t).2) (wO w o (kMT V v t).1) := by
  refine ct_of mi_X2_makeTomb.2.2.2.2.2 ⟨rfl, rfl⟩ (List.forall_mem_cons.mpr ⟨rfl, List.forall_mem_cons.mpr ⟨rfl, List.forall_mem_cons.mpr ⟨rfl, fun _ h => absurd h List.not_mem_nil⟩⟩⟩) (Nat.le_of_ble_eq_true rfl) (fun P hX => ?_)
  replace hX : Gd l g RX2 cX2_makeTomb rm_X2_makeTomb 4 (some .int) _ _ P := hX
  show P (wO w o V) 0 [some (.ref (g_ad g o 0)), some (.int v), some (.int t), none] []
  refine pw_aload_n hX rfl dX2_makeTomb_0 (q := 1) rfl ?_
  refine pw_iload_n hX rfl dX2_makeTomb_1 (q := 2) rfl ?_
  refine pw_cvI1 hX dX2_makeTomb_2 (q := 5) rfl mi_X2_has ml_X2_68 (rcV ho) ⟨rfl, rfl, by decide, by decide⟩ rfl (Nat.le_of_ble_eq_true rfl) (c_X2_has (by first | assumption | omega) (by first | assumption | omega)) ?_
  refine pw_ifB_eq hX (tgt := 15) dX2_makeTomb_5 (q := 8) rfl (by decide) (fun h_5 => ?_) (fun h_5 => ?_)
  · have hz : ¬ (hasN (V 0 0) v = true ∧ hasN 12 t = true) := fun z => by rw [h_5] at z; exact absurd z.1 (by decide)
    refine pw_ldc hX cn_X2_73 dX2_makeTomb_15 (q := 17) rfl ?_
    refine pw_ireturn hX dX2_makeTomb_17 ⟨_, rfl, rfl⟩ ⟨congrArg (fun z => some (Value.int z)) ?_, ?_⟩
    · rw [kMT, if_neg hz]
    · rw [kMT, if_neg hz]
  · obtain ⟨i, hi, rfl⟩ := hasN_of (bV_0 hV) h_5
    have hx : ix (nI i) = i := ix_nI (by have := hV.2.2.2.1; omega)
    have h7 := hV.2.2.2.1
    refine pw_iload_n hX rfl dX2_makeTomb_8 (q := 9) rfl ?_
    refine pw_cnI1 hX dX2_makeTomb_9 (q := 12) rfl mi_X3_isTopic mn_X2_116 ⟨rfl, rfl, by decide, by decide⟩ rfl (Nat.le_of_ble_eq_true rfl) (c_X3_isTopic) ?_
    refine pw_ifB_ne hX (tgt := 18) dX2_makeTomb_12 (q := 15) rfl (by decide) (fun h_12 => ?_) (fun h_12 => ?_)
    · obtain ⟨j, hj, rfl⟩ := hasN_of (by decide) h_12
      have hxj : ix (nI j) = j := ix_nI (by omega)
      refine pw_iload_n hX rfl dX2_makeTomb_18 (q := 19) rfl ?_
      refine pw_iload_n hX rfl dX2_makeTomb_19 (q := 20) rfl ?_
      refine pw_cnI2 hX dX2_makeTomb_20 (q := 23) rfl mi_X3_place mn_X2_88 ⟨rfl, rfl, by decide, by decide⟩ rfl (Nat.le_of_ble_eq_true rfl) (c_X3_place) ?_
      refine pw_istore_n hX (by decide) dX2_makeTomb_23 (q := 24) rfl ?_
      refine pw_aload_n hX rfl dX2_makeTomb_24 (q := 25) rfl ?_
      refine pw_iload_n hX rfl dX2_makeTomb_25 (q := 26) rfl ?_
      refine pw_cvI1 hX dX2_makeTomb_26 (q := 29) rfl mi_X2_isAwake ml_X2_74 (rcV ho) ⟨rfl, rfl, by decide, by decide⟩ rfl (Nat.le_of_ble_eq_true rfl) (c_X2_isAwake (by first | assumption | omega) (by first | assumption | omega)) ?_
      rw [kAw_n h_5 hx]
      refine pw_ifB_eq hX (tgt := 40) dX2_makeTomb_29 (q := 32) rfl (by decide) (fun h_29 => ?_) (fun h_29 => ?_)
      · have h_29 := of_decide_eq_false h_29
        refine pw_ldc hX cn_X2_77 dX2_makeTomb_40 (q := 42) rfl ?_
        refine pw_ireturn hX dX2_makeTomb_42 ⟨_, rfl, rfl⟩ ⟨congrArg (fun z => some (Value.int z)) ?_, ?_⟩
        · rw [kMT, if_pos ⟨h_5, h_12⟩, hx, hxj]; first | rw [if_pos (show V 1 i = 0 ∧ kRum V (i * 12 + j) = true from ⟨h_29, h_37⟩)] | rw [if_neg (show ¬ (V 1 i = 0 ∧ kRum V (i * 12 + j) = true) from fun z => h_29 z.1)] | rw [if_neg (show ¬ (V 1 i = 0 ∧ kRum V (i * 12 + j) = true) from fun z => by rw [h_37] at z; exact absurd z.2 (by decide))]
        · rw [kMT, if_pos ⟨h_5, h_12⟩, hx, hxj]; first | (rw [if_pos (show V 1 i = 0 ∧ kRum V (i * 12 + j) = true from ⟨h_29, h_37⟩)]; rfl) | rw [if_neg (show ¬ (V 1 i = 0 ∧ kRum V (i * 12 + j) = true) from fun z => h_29 z.1)] | rw [if_neg (show ¬ (V 1 i = 0 ∧ kRum V (i * 12 + j) = true) from fun z => by rw [h_37] at z; exact absurd z.2 (by decide))]
      · have h_29 := of_decide_eq_true h_29
        refine pw_aload_n hX rfl dX2_makeTomb_32 (q := 33) rfl ?_
        refine pw_iload_n hX rfl dX2_makeTomb_33 (q := 34) rfl ?_
        refine pw_cvI1 hX dX2_makeTomb_34 (q := 37) rfl mi_X2_isRumor ml_X2_92 (rcV ho) ⟨rfl, rfl, by decide, by decide⟩ rfl (Nat.le_of_ble_eq_true rfl) (c_X2_isRumor ho hV (by omega)) ?_
        refine pw_ifB_ne hX (tgt := 43) dX2_makeTomb_37 (q := 40) rfl (by decide) (fun h_37 => ?_) (fun h_37 => ?_)
        · refine pw_aload_n hX rfl dX2_makeTomb_43 (q := 44) rfl ?_
          refine pw_iload_n hX rfl dX2_makeTomb_44 (q := 45) rfl ?_
          refine pw_iload_n hX rfl dX2_makeTomb_45 (q := 46) rfl ?_
          refine pw_iconst hX (k := 3) rfl (by decide) dX2_makeTomb_46 (q := 47) rfl ?_
          refine pw_cvV3 hX dX2_makeTomb_47 (q := 50) rfl mi_X2_write ml_X2_119 (rcV ho) ⟨rfl, rfl, by decide, by decide⟩ rfl (Nat.le_of_ble_eq_true rfl) (c_X2_write ho (by omega) (by omega)) ?_
          refine pw_aload_n hX rfl dX2_makeTomb_50 (q := 51) rfl ?_
          refine pw_getVF hX ho 11 (by decide) fl_X2_46 rfl dX2_makeTomb_51 (q := 54) rfl ?_
          refine pw_iload_n hX rfl dX2_makeTomb_54 (q := 55) rfl ?_
          refine pw_aload_n hX rfl dX2_makeTomb_55 (q := 56) rfl ?_
          refine pw_getVF hX ho 1 (by decide) fl_X2_15 rfl dX2_makeTomb_56 (q := 59) rfl ?_
          rw [show (kWr V i (i * 12 + j) 3) 0 1 = V 0 1 from rfl]
          refine pw_iastVF hX ho 8 (by decide) (show _ < 84 by omega) dX2_makeTomb_59 (q := 60) rfl ?_
          refine pw_aload_n hX rfl dX2_makeTomb_60 (q := 61) rfl ?_
          refine pw_getVF hX ho 12 (by decide) fl_X2_49 rfl dX2_makeTomb_61 (q := 64) rfl ?_
          refine pw_iload_n hX rfl dX2_makeTomb_64 (q := 65) rfl ?_
          refine pw_iconst hX (k := 1) rfl (by decide) dX2_makeTomb_65 (q := 66) rfl ?_
          refine pw_iload_n hX rfl dX2_makeTomb_66 (q := 67) rfl ?_
          refine pw_ishl1 hX (by omega) dX2_makeTomb_67 (q := 68) rfl ?_
          refine pw_iastVF hX ho 9 (by decide) (show _ < 84 by omega) dX2_makeTomb_68 (q := 69) rfl ?_
          refine pw_aload_n hX rfl dX2_makeTomb_69 (q := 70) rfl ?_
          refine pw_getVF hX ho 14 (by decide) fl_X2_55 rfl dX2_makeTomb_70 (q := 73) rfl ?_
          refine pw_iload_n hX rfl dX2_makeTomb_73 (q := 74) rfl ?_
          refine pw_aload_n hX rfl dX2_makeTomb_74 (q := 75) rfl ?_
          refine pw_getVF hX ho 14 (by decide) fl_X2_55 rfl dX2_makeTomb_75 (q := 78) rfl ?_
          refine pw_iload_n hX rfl dX2_makeTomb_78 (q := 79) rfl ?_
          refine pw_ialdVF hX ho 11 (by decide) (show _ < 12 by omega) dX2_makeTomb_79 (q := 80) rfl ?_
          refine pw_aload_n hX rfl dX2_makeTomb_80 (q := 81) rfl ?_
          refine pw_getVF hX ho 8 (by decide) fl_X2_37 rfl dX2_makeTomb_81 (q := 84) rfl ?_
          refine pw_iload_n hX rfl dX2_makeTomb_84 (q := 85) rfl ?_
          refine pw_ialdVF hX ho 5 (by decide) (show _ < 84 by omega) dX2_makeTomb_85 (q := 86) rfl ?_
          refine pw_max hX dX2_makeTomb_86 (q := 89) rfl ml_X2_123 tw_max_s tw_max_i tw_max_c (by decide) (Nat.le_of_ble_eq_true rfl) ?_
          rw [show vU (vU (kWr V i (i * 12 + j) 3) 8 (i * 12 + j) (V 0 1)) 9 (i * 12 + j) (2 ^ i) 11 j = V 11 j from rfl, show vU (vU (kWr V i (i * 12 + j) 3) 8 (i * 12 + j) (V 0 1)) 9 (i * 12 + j) (2 ^ i) 5 (i * 12 + j) = upN (V 5) (i * 12 + j) ((V 2 i + 1) * 8 + i) (i * 12 + j) from rfl, upN_s, n_max (bV12 hV hj) (by have := hc2 i (by omega); omega)]
          refine pw_iastVF hX ho 11 (by decide) (show _ < 12 by omega) dX2_makeTomb_89 (q := 90) rfl ?_
          refine pw_aload_n hX rfl dX2_makeTomb_90 (q := 91) rfl ?_
          refine pw_dup hX rfl dX2_makeTomb_91 (q := 92) rfl ?_
          refine pw_getVF hX ho 3 (by decide) fl_X2_21 rfl dX2_makeTomb_92 (q := 95) rfl ?_
          rw [show vU (vU (vU (kWr V i (i * 12 + j) 3) 8 (i * 12 + j) (V 0 1)) 9 (i * 12 + j) (2 ^ i)) 11 j (mx (V 11 j) ((V 2 i + 1) * 8 + i)) 0 3 = V 0 3 from rfl]
          refine pw_iconst hX (k := 1) rfl (by decide) dX2_makeTomb_95 (q := 96) rfl ?_
          refine pw_iaddN hX dX2_makeTomb_96 (q := 97) rfl ?_
          refine pw_putVF hX ho 3 (by decide) fl_X2_21 dX2_makeTomb_97 (q := 100) rfl ?_
          refine pw_aload_n hX rfl dX2_makeTomb_100 (q := 101) rfl ?_
          refine pw_getVF hX ho 5 (by decide) fl_X2_28 rfl dX2_makeTomb_101 (q := 104) rfl ?_
          refine pw_iload_n hX rfl dX2_makeTomb_104 (q := 105) rfl ?_
          refine pw_ialdVF hX ho 2 (by decide) (show _ < 7 by omega) dX2_makeTomb_105 (q := 106) rfl ?_
          rw [show vU (vU (vU (vU (kWr V i (i * 12 + j) 3) 8 (i * 12 + j) (V 0 1)) 9 (i * 12 + j) (2 ^ i)) 11 j (mx (V 11 j) ((V 2 i + 1) * 8 + i))) 0 3 (V 0 3 + 1) 2 i = upN (V 2) i (V 2 i + 1) i from rfl, upN_s]
          refine pw_ireturn hX dX2_makeTomb_106 ⟨_, rfl, rfl⟩ ⟨congrArg (fun z => some (Value.int z)) ?_, ?_⟩
          · rw [kMT, if_pos ⟨h_5, h_12⟩, hx, hxj]; first | rw [if_pos (show V 1 i = 0 ∧ kRum V (i * 12 + j) = true from ⟨h_29, h_37⟩)] | rw [if_neg (show ¬ (V 1 i = 0 ∧ kRum V (i * 12 + j) = true) from fun z => h_29 z.1)] | rw [if_neg (show ¬ (V 1 i = 0 ∧ kRum V (i * 12 + j) = true) from fun z => by rw [h_37] at z; exact absurd z.2 (by decide))]
          · rw [kMT, if_pos ⟨h_5, h_12⟩, hx, hxj]; first | (rw [if_pos (show V 1 i = 0 ∧ kRum V (i * 12 + j) = true from ⟨h_29, h_37⟩)]; rfl) | rw [if_neg (show ¬ (V 1 i = 0 ∧ kRum V (i * 12 + j) = true) from fun z => h_29 z.1)] | rw [if_neg (show ¬ (V 1 i = 0 ∧ kRum V (i * 12 + j) = true) from fun z => by rw [h_37] at z; exact absurd z.2 (by decide))]
        · refine pw_ldc hX cn_X2_77 dX2_makeTomb_40 (q := 42) rfl ?_
          refine pw_ireturn hX dX2_makeTomb_42 ⟨_, rfl, rfl⟩ ⟨congrArg (fun z => some (Value.int z)) ?_, ?_⟩
          · rw [kMT, if_pos ⟨h_5, h_12⟩, hx, hxj]; first | rw [if_pos (show V 1 i = 0 ∧ kRum V (i * 12 + j) = true from ⟨h_29, h_37⟩)] | rw [if_neg (show ¬ (V 1 i = 0 ∧ kRum V (i * 12 + j) = true) from fun z => h_29 z.1)] | rw [if_neg (show ¬ (V 1 i = 0 ∧ kRum V (i * 12 + j) = true) from fun z => by rw [h_37] at z; exact absurd z.2 (by decide))]
          · rw [kMT, if_pos ⟨h_5, h_12⟩, hx, hxj]; first | (rw [if_pos (show V 1 i = 0 ∧ kRum V (i * 12 + j) = true from ⟨h_29, h_37⟩)]; rfl) | rw [if_neg (show ¬ (V 1 i = 0 ∧ kRum V (i * 12 + j) = true) from fun z => h_29 z.1)] | rw [if_neg (show ¬ (V 1 i = 0 ∧ kRum V (i * 12 + j) = true) from fun z => by rw [h_37] at z; exact absurd z.2 (by decide))]
    · have hz : ¬ (hasN (V 0 0) (nI i) = true ∧ hasN 12 t = true) := fun z => by rw [h_12] at z; exact absurd z.2 (by decide)
      refine pw_ldc hX cn_X2_73 dX2_makeTomb_15 (q := 17) rfl ?_
      refine pw_ireturn hX dX2_makeTomb_17 ⟨_, rfl, rfl⟩ ⟨congrArg (fun z => some (Value.int z)) ?_, ?_⟩
      · rw [kMT, if_neg hz]
      · rw [kMT, if_neg hz]
abbrev rm_X2_areTwo : Room := { frames := 1, cells := 0, slots := 0, locals := 21 }
set_option maxHeartbeats 800000 in
set_option maxRecDepth 20000 in
theorem c_X2_areTwo {l : Launch} {g : Geo} {w : WD} {V : Nat → Nat → Nat} {o : Nat} {v u : Int32} (ho : o < 7) (hV : bV V) : CtI l g yX2_areTwo cX2_areTwo 3 (some .boolean) rm_X2_areTwo [.ref (g_ad g o 0), .int v, .int u] (wO w o V) (bI (kTwo V v u)) (wO w o V) := by
  refine ct_of mi_X2_areTwo.2.2.2.2.2 ⟨rfl, rfl⟩ (List.forall_mem_cons.mpr ⟨rfl, List.forall_mem_cons.mpr ⟨rfl, List.forall_mem_cons.mpr ⟨rfl, fun _ h => absurd h List.not_mem_nil⟩⟩⟩) (Nat.le_of_ble_eq_true rfl) (fun P hX => ?_)
  replace hX : Gd l g RX2 cX2_areTwo rm_X2_areTwo 3 (some .boolean) _ _ P := hX
  show P (wO w o V) 0 [some (.ref (g_ad g o 0)), some (.int v), some (.int u)] []
  refine pw_aload_n hX rfl dX2_areTwo_0 (q := 1) rfl ?_
  refine pw_iload_n hX rfl dX2_areTwo_1 (q := 2) rfl ?_
  refine pw_cvI1 hX dX2_areTwo_2 (q := 5) rfl mi_X2_has ml_X2_68 (rcV ho) ⟨rfl, rfl, by decide, by decide⟩ rfl (Nat.le_of_ble_eq_true rfl) (c_X2_has (by first | assumption | omega) (by first | assumption | omega)) ?_
  refine pw_ifB_eq hX (tgt := 25) dX2_areTwo_5 (q := 8) rfl (by decide) (fun h_5 => ?_) (fun h_5 => ?_)
  · refine pw_iconst hX (k := 0) rfl (by decide) dX2_areTwo_25 (q := 26) rfl ?_
    refine pw_ireturn hX dX2_areTwo_26 ⟨_, rfl, by first | exact bI_nar _ | decide | rfl⟩ ⟨congrArg (fun z => some (Value.int z)) ?_, ?_⟩
    · rw [kTwo]; first | (rw [h_5]; rfl) | (rw [h_5, h_13]; rfl) | (rw [h_5, h_13, decide_eq_false (fun z => z h_18)]; rfl) | (rw [h_5, h_13, decide_eq_true h_18]; rfl)
    · rfl
  · refine pw_aload_n hX rfl dX2_areTwo_8 (q := 9) rfl ?_
    refine pw_iload_n hX rfl dX2_areTwo_9 (q := 10) rfl ?_
    refine pw_cvI1 hX dX2_areTwo_10 (q := 13) rfl mi_X2_has ml_X2_68 (rcV ho) ⟨rfl, rfl, by decide, by decide⟩ rfl (Nat.le_of_ble_eq_true rfl) (c_X2_has (by first | assumption | omega) (by first | assumption | omega)) ?_
    refine pw_ifB_eq hX (tgt := 25) dX2_areTwo_13 (q := 16) rfl (by decide) (fun h_13 => ?_) (fun h_13 => ?_)
    · refine pw_iconst hX (k := 0) rfl (by decide) dX2_areTwo_25 (q := 26) rfl ?_
      refine pw_ireturn hX dX2_areTwo_26 ⟨_, rfl, by first | exact bI_nar _ | decide | rfl⟩ ⟨congrArg (fun z => some (Value.int z)) ?_, ?_⟩
      · rw [kTwo]; first | (rw [h_5]; rfl) | (rw [h_5, h_13]; rfl) | (rw [h_5, h_13, decide_eq_false (fun z => z h_18)]; rfl) | (rw [h_5, h_13, decide_eq_true h_18]; rfl)
      · rfl
    · refine pw_iload_n hX rfl dX2_areTwo_16 (q := 17) rfl ?_
      refine pw_iload_n hX rfl dX2_areTwo_17 (q := 18) rfl ?_
      refine pw_icmp_eq hX (tgt := 25) dX2_areTwo_18 (q := 21) rfl (by decide) (fun h_18 => ?_) (fun h_18 => ?_)
      · refine pw_iconst hX (k := 0) rfl (by decide) dX2_areTwo_25 (q := 26) rfl ?_
        refine pw_ireturn hX dX2_areTwo_26 ⟨_, rfl, by first | exact bI_nar _ | decide | rfl⟩ ⟨congrArg (fun z => some (Value.int z)) ?_, ?_⟩
        · rw [kTwo]; first | (rw [h_5]; rfl) | (rw [h_5, h_13]; rfl) | (rw [h_5, h_13, decide_eq_false (fun z => z h_18)]; rfl) | (rw [h_5, h_13, decide_eq_true h_18]; rfl)
        · rfl
      · refine pw_iconst hX (k := 1) rfl (by decide) dX2_areTwo_21 (q := 22) rfl ?_
        refine pw_goto hX (tgt := 26) dX2_areTwo_22 (by decide) ?_
        refine pw_ireturn hX dX2_areTwo_26 ⟨_, rfl, by first | exact bI_nar _ | decide | rfl⟩ ⟨congrArg (fun z => some (Value.int z)) ?_, ?_⟩
        · rw [kTwo]; first | (rw [h_5]; rfl) | (rw [h_5, h_13]; rfl) | (rw [h_5, h_13, decide_eq_false (fun z => z h_18)]; rfl) | (rw [h_5, h_13, decide_eq_true h_18]; rfl)
        · rfl
abbrev rm_X2_mayBeHanded : Room := { frames := 0, cells := 0, slots := 0, locals := 0 }
set_option maxHeartbeats 800000 in
set_option maxRecDepth 20000 in
theorem c_X2_mayBeHanded {l : Launch} {g : Geo} {w : WD} {k x y : Nat} (hk0 : k < 2 ^ 31) (hx : x ≤ 1) (hy : y ≤ 1) : CtI l g yX2_mayBeHanded cX2_mayBeHanded 3 (some .boolean) rm_X2_mayBeHanded [.int (nI k), .int (nI x), .int (nI y)] (w) (bI (kMay k x y)) (w) := by
  refine ct_of mi_X2_mayBeHanded.2.2.2.2 ⟨rfl, rfl⟩ (List.forall_mem_cons.mpr ⟨rfl, List.forall_mem_cons.mpr ⟨rfl, List.forall_mem_cons.mpr ⟨rfl, fun _ h => absurd h List.not_mem_nil⟩⟩⟩) (Nat.le_of_ble_eq_true rfl) (fun P hX => ?_)
  replace hX : Gd l g RX2 cX2_mayBeHanded rm_X2_mayBeHanded 3 (some .boolean) _ _ P := hX
  show P (w) 0 [some (.int (nI k)), some (.int (nI x)), some (.int (nI y))] []
  rcases (show x = 0 ∨ x = 1 by omega) with rfl | rfl <;> rcases (show y = 0 ∨ y = 1 by omega) with rfl | rfl <;> rcases (show k = 1 ∨ k = 2 ∨ (k ≠ 1 ∧ k ≠ 2) by omega) with hk | hk | hk
  · skip
    refine pw_iload_n hX rfl dX2_mayBeHanded_0 (q := 1) rfl ?_
    · refine pw_lookup hX (off := 27) (tgt := 28) dX2_mayBeHanded_1 (by decide) (by rw [nI_toInt hk0]; exact (swK _).trans (if_pos hk)) (by decide) ?_
      refine pw_iload_n hX rfl dX2_mayBeHanded_28 (q := 29) rfl ?_
      refine pw_ireturn hX dX2_mayBeHanded_29 ⟨_, rfl, by first | exact bI_nar _ | decide | rfl⟩ ⟨congrArg (fun z => some (Value.int z)) ?_, ?_⟩
      · rw [kMay, if_pos hk]; rfl
      · rfl
  · skip
    refine pw_iload_n hX rfl dX2_mayBeHanded_0 (q := 1) rfl ?_
    · refine pw_lookup hX (off := 29) (tgt := 30) dX2_mayBeHanded_1 (by decide) (by rw [nI_toInt hk0]; exact (swK _).trans (by rw [if_neg (by omega), if_pos hk])) (by decide) ?_
      refine pw_iload_n hX rfl dX2_mayBeHanded_30 (q := 31) rfl ?_
      refine pw_ifN_eq hX (by first | omega) (tgt := 42) dX2_mayBeHanded_31 (q := 34) rfl (by decide) (fun h_31 => ?_) (fun h_31 => ?_)
      · refine pw_iconst hX (k := 0) rfl (by decide) dX2_mayBeHanded_42 (q := 43) rfl ?_
        refine pw_ireturn hX dX2_mayBeHanded_43 ⟨_, rfl, by first | exact bI_nar _ | decide | rfl⟩ ⟨congrArg (fun z => some (Value.int z)) ?_, ?_⟩
        · rw [kMay, if_neg (by omega), if_pos hk]; first | rfl | (exfalso; omega)
        · rfl
      · refine pw_iload_n hX rfl dX2_mayBeHanded_34 (q := 35) rfl ?_
        refine pw_ifN_eq hX (by first | omega) (tgt := 42) dX2_mayBeHanded_35 (q := 38) rfl (by decide) (fun h_35 => ?_) (fun h_35 => ?_)
        · refine pw_iconst hX (k := 0) rfl (by decide) dX2_mayBeHanded_42 (q := 43) rfl ?_
          refine pw_ireturn hX dX2_mayBeHanded_43 ⟨_, rfl, by first | exact bI_nar _ | decide | rfl⟩ ⟨congrArg (fun z => some (Value.int z)) ?_, ?_⟩
          · rw [kMay, if_neg (by omega), if_pos hk]; first | rfl | (exfalso; omega)
          · rfl
        · refine pw_iconst hX (k := 1) rfl (by decide) dX2_mayBeHanded_38 (q := 39) rfl ?_
          refine pw_goto hX (tgt := 43) dX2_mayBeHanded_39 (by decide) ?_
          refine pw_ireturn hX dX2_mayBeHanded_43 ⟨_, rfl, by first | exact bI_nar _ | decide | rfl⟩ ⟨congrArg (fun z => some (Value.int z)) ?_, ?_⟩
          · rw [kMay, if_neg (by omega), if_pos hk]; first | rfl | (exfalso; omega)
          · rfl
  · skip
    refine pw_iload_n hX rfl dX2_mayBeHanded_0 (q := 1) rfl ?_
    · refine pw_lookup hX (off := 43) (tgt := 44) dX2_mayBeHanded_1 (by decide) (by rw [nI_toInt hk0]; exact (swK _).trans (by rw [if_neg hk.1, if_neg hk.2])) (by decide) ?_
      refine pw_iconst hX (k := 1) rfl (by decide) dX2_mayBeHanded_44 (q := 45) rfl ?_
      refine pw_ireturn hX dX2_mayBeHanded_45 ⟨_, rfl, by first | exact bI_nar _ | decide | rfl⟩ ⟨congrArg (fun z => some (Value.int z)) ?_, ?_⟩
      · rw [kMay, if_neg hk.1, if_neg hk.2]; rfl
      · rfl
  · skip
    refine pw_iload_n hX rfl dX2_mayBeHanded_0 (q := 1) rfl ?_
    · refine pw_lookup hX (off := 27) (tgt := 28) dX2_mayBeHanded_1 (by decide) (by rw [nI_toInt hk0]; exact (swK _).trans (if_pos hk)) (by decide) ?_
      refine pw_iload_n hX rfl dX2_mayBeHanded_28 (q := 29) rfl ?_
      refine pw_ireturn hX dX2_mayBeHanded_29 ⟨_, rfl, by first | exact bI_nar _ | decide | rfl⟩ ⟨congrArg (fun z => some (Value.int z)) ?_, ?_⟩
      · rw [kMay, if_pos hk]; rfl
      · rfl
  · skip
    refine pw_iload_n hX rfl dX2_mayBeHanded_0 (q := 1) rfl ?_
    · refine pw_lookup hX (off := 29) (tgt := 30) dX2_mayBeHanded_1 (by decide) (by rw [nI_toInt hk0]; exact (swK _).trans (by rw [if_neg (by omega), if_pos hk])) (by decide) ?_
      refine pw_iload_n hX rfl dX2_mayBeHanded_30 (q := 31) rfl ?_
      refine pw_ifN_eq hX (by first | omega) (tgt := 42) dX2_mayBeHanded_31 (q := 34) rfl (by decide) (fun h_31 => ?_) (fun h_31 => ?_)
      · refine pw_iconst hX (k := 0) rfl (by decide) dX2_mayBeHanded_42 (q := 43) rfl ?_
        refine pw_ireturn hX dX2_mayBeHanded_43 ⟨_, rfl, by first | exact bI_nar _ | decide | rfl⟩ ⟨congrArg (fun z => some (Value.int z)) ?_, ?_⟩
        · rw [kMay, if_neg (by omega), if_pos hk]; first | rfl | (exfalso; omega)
        · rfl
      · refine pw_iload_n hX rfl dX2_mayBeHanded_34 (q := 35) rfl ?_
        refine pw_ifN_eq hX (by first | omega) (tgt := 42) dX2_mayBeHanded_35 (q := 38) rfl (by decide) (fun h_35 => ?_) (fun h_35 => ?_)
        · refine pw_iconst hX (k := 0) rfl (by decide) dX2_mayBeHanded_42 (q := 43) rfl ?_
          refine pw_ireturn hX dX2_mayBeHanded_43 ⟨_, rfl, by first | exact bI_nar _ | decide | rfl⟩ ⟨congrArg (fun z => some (Value.int z)) ?_, ?_⟩
          · rw [kMay, if_neg (by omega), if_pos hk]; first | rfl | (exfalso; omega)
          · rfl
        · refine pw_iconst hX (k := 1) rfl (by decide) dX2_mayBeHanded_38 (q := 39) rfl ?_
          refine pw_goto hX (tgt := 43) dX2_mayBeHanded_39 (by decide) ?_
          refine pw_ireturn hX dX2_mayBeHanded_43 ⟨_, rfl, by first | exact bI_nar _ | decide | rfl⟩ ⟨congrArg (fun z => some (Value.int z)) ?_, ?_⟩
          · rw [kMay, if_neg (by omega), if_pos hk]; first | rfl | (exfalso; omega)
          · rfl
  · skip
    refine pw_iload_n hX rfl dX2_mayBeHanded_0 (q := 1) rfl ?_
    · refine pw_lookup hX (off := 43) (tgt := 44) dX2_mayBeHanded_1 (by decide) (by rw [nI_toInt hk0]; exact (swK _).trans (by rw [if_neg hk.1, if_neg hk.2])) (by decide) ?_
      refine pw_iconst hX (k := 1) rfl (by decide) dX2_mayBeHanded_44 (q := 45) rfl ?_
      refine pw_ireturn hX dX2_mayBeHanded_45 ⟨_, rfl, by first | exact bI_nar _ | decide | rfl⟩ ⟨congrArg (fun z => some (Value.int z)) ?_, ?_⟩
      · rw [kMay, if_neg hk.1, if_neg hk.2]; rfl
      · rfl
  · skip
    refine pw_iload_n hX rfl dX2_mayBeHanded_0 (q := 1) rfl ?_
    · refine pw_lookup hX (off := 27) (tgt := 28) dX2_mayBeHanded_1 (by decide) (by rw [nI_toInt hk0]; exact (swK _).trans (if_pos hk)) (by decide) ?_
      refine pw_iload_n hX rfl dX2_mayBeHanded_28 (q := 29) rfl ?_
      refine pw_ireturn hX dX2_mayBeHanded_29 ⟨_, rfl, by first | exact bI_nar _ | decide | rfl⟩ ⟨congrArg (fun z => some (Value.int z)) ?_, ?_⟩
      · rw [kMay, if_pos hk]; rfl
      · rfl
  · skip
    refine pw_iload_n hX rfl dX2_mayBeHanded_0 (q := 1) rfl ?_
    · refine pw_lookup hX (off := 29) (tgt := 30) dX2_mayBeHanded_1 (by decide) (by rw [nI_toInt hk0]; exact (swK _).trans (by rw [if_neg (by omega), if_pos hk])) (by decide) ?_
      refine pw_iload_n hX rfl dX2_mayBeHanded_30 (q := 31) rfl ?_
      refine pw_ifN_eq hX (by first | omega) (tgt := 42) dX2_mayBeHanded_31 (q := 34) rfl (by decide) (fun h_31 => ?_) (fun h_31 => ?_)
      · refine pw_iconst hX (k := 0) rfl (by decide) dX2_mayBeHanded_42 (q := 43) rfl ?_
        refine pw_ireturn hX dX2_mayBeHanded_43 ⟨_, rfl, by first | exact bI_nar _ | decide | rfl⟩ ⟨congrArg (fun z => some (Value.int z)) ?_, ?_⟩
        · rw [kMay, if_neg (by omega), if_pos hk]; first | rfl | (exfalso; omega)
        · rfl
      · refine pw_iload_n hX rfl dX2_mayBeHanded_34 (q := 35) rfl ?_
        refine pw_ifN_eq hX (by first | omega) (tgt := 42) dX2_mayBeHanded_35 (q := 38) rfl (by decide) (fun h_35 => ?_) (fun h_35 => ?_)
        · refine pw_iconst hX (k := 0) rfl (by decide) dX2_mayBeHanded_42 (q := 43) rfl ?_
          refine pw_ireturn hX dX2_mayBeHanded_43 ⟨_, rfl, by first | exact bI_nar _ | decide | rfl⟩ ⟨congrArg (fun z => some (Value.int z)) ?_, ?_⟩
          · rw [kMay, if_neg (by omega), if_pos hk]; first | rfl | (exfalso; omega)
          · rfl
        · refine pw_iconst hX (k := 1) rfl (by decide) dX2_mayBeHanded_38 (q := 39) rfl ?_
          refine pw_goto hX (tgt := 43) dX2_mayBeHanded_39 (by decide) ?_
          refine pw_ireturn hX dX2_mayBeHanded_43 ⟨_, rfl, by first | exact bI_nar _ | decide | rfl⟩ ⟨congrArg (fun z => some (Value.int z)) ?_, ?_⟩
          · rw [kMay, if_neg (by omega), if_pos hk]; first | rfl | (exfalso; omega)
          · rfl
  · skip
    refine pw_iload_n hX rfl dX2_mayBeHanded_0 (q := 1) rfl ?_
    · refine pw_lookup hX (off := 43) (tgt := 44) dX2_mayBeHanded_1 (by decide) (by rw [nI_toInt hk0]; exact (swK _).trans (by rw [if_neg hk.1, if_neg hk.2])) (by decide) ?_
      refine pw_iconst hX (k := 1) rfl (by decide) dX2_mayBeHanded_44 (q := 45) rfl ?_
      refine pw_ireturn hX dX2_mayBeHanded_45 ⟨_, rfl, by first | exact bI_nar _ | decide | rfl⟩ ⟨congrArg (fun z => some (Value.int z)) ?_, ?_⟩
      · rw [kMay, if_neg hk.1, if_neg hk.2]; rfl
      · rfl
  · skip
    refine pw_iload_n hX rfl dX2_mayBeHanded_0 (q := 1) rfl ?_
    · refine pw_lookup hX (off := 27) (tgt := 28) dX2_mayBeHanded_1 (by decide) (by rw [nI_toInt hk0]; exact (swK _).trans (if_pos hk)) (by decide) ?_
      refine pw_iload_n hX rfl dX2_mayBeHanded_28 (q := 29) rfl ?_
      refine pw_ireturn hX dX2_mayBeHanded_29 ⟨_, rfl, by first | exact bI_nar _ | decide | rfl⟩ ⟨congrArg (fun z => some (Value.int z)) ?_, ?_⟩
      · rw [kMay, if_pos hk]; rfl
      · rfl
  · skip
    refine pw_iload_n hX rfl dX2_mayBeHanded_0 (q := 1) rfl ?_
    · refine pw_lookup hX (off := 29) (tgt := 30) dX2_mayBeHanded_1 (by decide) (by rw [nI_toInt hk0]; exact (swK _).trans (by rw [if_neg (by omega), if_pos hk])) (by decide) ?_
      refine pw_iload_n hX rfl dX2_mayBeHanded_30 (q := 31) rfl ?_
      refine pw_ifN_eq hX (by first | omega) (tgt := 42) dX2_mayBeHanded_31 (q := 34) rfl (by decide) (fun h_31 => ?_) (fun h_31 => ?_)
      · refine pw_iconst hX (k := 0) rfl (by decide) dX2_mayBeHanded_42 (q := 43) rfl ?_
        refine pw_ireturn hX dX2_mayBeHanded_43 ⟨_, rfl, by first | exact bI_nar _ | decide | rfl⟩ ⟨congrArg (fun z => some (Value.int z)) ?_, ?_⟩
        · rw [kMay, if_neg (by omega), if_pos hk]; first | rfl | (exfalso; omega)
        · rfl
      · refine pw_iload_n hX rfl dX2_mayBeHanded_34 (q := 35) rfl ?_
        refine pw_ifN_eq hX (by first | omega) (tgt := 42) dX2_mayBeHanded_35 (q := 38) rfl (by decide) (fun h_35 => ?_) (fun h_35 => ?_)
        · refine pw_iconst hX (k := 0) rfl (by decide) dX2_mayBeHanded_42 (q := 43) rfl ?_
          refine pw_ireturn hX dX2_mayBeHanded_43 ⟨_, rfl, by first | exact bI_nar _ | decide | rfl⟩ ⟨congrArg (fun z => some (Value.int z)) ?_, ?_⟩
          · rw [kMay, if_neg (by omega), if_pos hk]; first | rfl | (exfalso; omega)
          · rfl
        · refine pw_iconst hX (k := 1) rfl (by decide) dX2_mayBeHanded_38 (q := 39) rfl ?_
          refine pw_goto hX (tgt := 43) dX2_mayBeHanded_39 (by decide) ?_
          refine pw_ireturn hX dX2_mayBeHanded_43 ⟨_, rfl, by first | exact bI_nar _ | decide | rfl⟩ ⟨congrArg (fun z => some (Value.int z)) ?_, ?_⟩
          · rw [kMay, if_neg (by omega), if_pos hk]; first | rfl | (exfalso; omega)
          · rfl
  · skip
    refine pw_iload_n hX rfl dX2_mayBeHanded_0 (q := 1) rfl ?_
    · refine pw_lookup hX (off := 43) (tgt := 44) dX2_mayBeHanded_1 (by decide) (by rw [nI_toInt hk0]; exact (swK _).trans (by rw [if_neg hk.1, if_neg hk.2])) (by decide) ?_
      refine pw_iconst hX (k := 1) rfl (by decide) dX2_mayBeHanded_44 (q := 45) rfl ?_
      refine pw_ireturn hX dX2_mayBeHanded_45 ⟨_, rfl, by first | exact bI_nar _ | decide | rfl⟩ ⟨congrArg (fun z => some (Value.int z)) ?_, ?_⟩
      · rw [kMay, if_neg hk.1, if_neg hk.2]; rfl
      · rfl
abbrev rm_X2_giver : Room := { frames := 1, cells := 0, slots := 0, locals := 22 }
set_option maxHeartbeats 800000 in
set_option maxRecDepth 20000 in
theorem c_X2_giver {l : Launch} {g : Geo} {w : WD} {V : Nat → Nat → Nat} {o : Nat} {a b t : Nat} (ho : o < 7) (hV : bV V) (ha : a < 7) (hb : b < 7) (ht : t < 12) : CtI l g yX2_giver cX2_giver 9 (some .int) rm_X2_giver [.ref (g_ad g o 0), .int (nI a), .int (nI b), .int (nI t)] (wO w o V) (bv (kGv V a b t)) (wO w o V) := by
  refine ct_of mi_X2_giver.2.2.2.2.2 ⟨rfl, rfl⟩ (List.forall_mem_cons.mpr ⟨rfl, List.forall_mem_cons.mpr ⟨rfl, List.forall_mem_cons.mpr ⟨rfl, List.forall_mem_cons.mpr ⟨rfl, fun _ h => absurd h List.not_mem_nil⟩⟩⟩⟩) (Nat.le_of_ble_eq_true rfl) (fun P hX => ?_)
  replace hX : Gd l g RX2 cX2_giver rm_X2_giver 9 (some .int) _ _ P := hX
  show P (wO w o V) 0 [some (.ref (g_ad g o 0)), some (.int (nI a)), some (.int (nI b)), some (.int (nI t)), none, none, none, none, none] []
  refine pw_aload_n hX rfl dX2_giver_0 (q := 1) rfl ?_
  refine pw_getVF hX ho 8 (by decide) fl_X2_37 rfl dX2_giver_1 (q := 4) rfl ?_
  refine pw_iload_n hX rfl dX2_giver_4 (q := 5) rfl ?_
  refine pw_iload_n hX rfl dX2_giver_5 (q := 6) rfl ?_
  refine pw_cnI2 hX dX2_giver_6 (q := 9) rfl mi_X3_place mn_X2_88 ⟨rfl, rfl, by decide, by decide⟩ rfl (Nat.le_of_ble_eq_true rfl) (c_X3_place) ?_
  refine pw_ialdVF hX ho 5 (by decide) (show _ < 84 by omega) dX2_giver_9 (q := 10) rfl ?_
  refine pw_istore hX (by decide) dX2_giver_10 (q := 12) rfl ?_
  refine pw_aload_n hX rfl dX2_giver_12 (q := 13) rfl ?_
  refine pw_getVF hX ho 8 (by decide) fl_X2_37 rfl dX2_giver_13 (q := 16) rfl ?_
  refine pw_iload_n hX rfl dX2_giver_16 (q := 17) rfl ?_
  refine pw_iload_n hX rfl dX2_giver_17 (q := 18) rfl ?_
  refine pw_cnI2 hX dX2_giver_18 (q := 21) rfl mi_X3_place mn_X2_88 ⟨rfl, rfl, by decide, by decide⟩ rfl (Nat.le_of_ble_eq_true rfl) (c_X3_place) ?_
  refine pw_ialdVF hX ho 5 (by decide) (show _ < 84 by omega) dX2_giver_21 (q := 22) rfl ?_
  refine pw_istore hX (by decide) dX2_giver_22 (q := 24) rfl ?_
  refine pw_iload hX rfl dX2_giver_24 (q := 26) rfl ?_
  refine pw_iload hX rfl dX2_giver_26 (q := 28) rfl ?_
  refine pw_icmpN_ne hX (by first | omega | (have h9 := bV84 hV (show 5 ≤ 5 ∧ 5 ≤ 10 by decide) (show a * 12 + t < 84 by omega); omega) | (have h9 := bV84 hV (show 5 ≤ 5 ∧ 5 ≤ 10 by decide) (show b * 12 + t < 84 by omega); omega) | first | omega | exact bV_0 hV | exact bV7 hV (by decide) (by omega) | exact bV84 hV (by decide) (by omega) | exact bV12 hV (by omega) | exact bV_1 hV | exact bV_2 hV) (by first | omega | (have h9 := bV84 hV (show 5 ≤ 5 ∧ 5 ≤ 10 by decide) (show a * 12 + t < 84 by omega); omega) | (have h9 := bV84 hV (show 5 ≤ 5 ∧ 5 ≤ 10 by decide) (show b * 12 + t < 84 by omega); omega) | first | omega | exact bV_0 hV | exact bV7 hV (by decide) (by omega) | exact bV84 hV (by decide) (by omega) | exact bV12 hV (by omega) | exact bV_1 hV | exact bV_2 hV) (tgt := 33) dX2_giver_28 (q := 31) rfl (by decide) (fun h_28 => ?_) (fun h_28 => ?_)
  · refine pw_iload hX rfl dX2_giver_33 (q := 35) rfl ?_
    refine pw_iload hX rfl dX2_giver_35 (q := 37) rfl ?_
    refine pw_icmpN_le hX (by first | omega | (have h9 := bV84 hV (show 5 ≤ 5 ∧ 5 ≤ 10 by decide) (show a * 12 + t < 84 by omega); omega) | (have h9 := bV84 hV (show 5 ≤ 5 ∧ 5 ≤ 10 by decide) (show b * 12 + t < 84 by omega); omega) | first | omega | exact bV_0 hV | exact bV7 hV (by decide) (by omega) | exact bV84 hV (by decide) (by omega) | exact bV12 hV (by omega) | exact bV_1 hV | exact bV_2 hV) (by first | omega | (have h9 := bV84 hV (show 5 ≤ 5 ∧ 5 ≤ 10 by decide) (show a * 12 + t < 84 by omega); omega) | (have h9 := bV84 hV (show 5 ≤ 5 ∧ 5 ≤ 10 by decide) (show b * 12 + t < 84 by omega); omega) | first | omega | exact bV_0 hV | exact bV7 hV (by decide) (by omega) | exact bV84 hV (by decide) (by omega) | exact bV12 hV (by omega) | exact bV_1 hV | exact bV_2 hV) (tgt := 44) dX2_giver_37 (q := 40) rfl (by decide) (fun h_37 => ?_) (fun h_37 => ?_)
    · refine pw_iload_n hX rfl dX2_giver_44 (q := 45) rfl ?_
      refine pw_istore hX (by decide) dX2_giver_45 (q := 47) rfl ?_
      refine pw_iload hX rfl dX2_giver_47 (q := 49) rfl ?_
      refine pw_iload hX rfl dX2_giver_49 (q := 51) rfl ?_
      refine pw_icmpN_le hX (by first | omega | (have h9 := bV84 hV (show 5 ≤ 5 ∧ 5 ≤ 10 by decide) (show a * 12 + t < 84 by omega); omega) | (have h9 := bV84 hV (show 5 ≤ 5 ∧ 5 ≤ 10 by decide) (show b * 12 + t < 84 by omega); omega) | first | omega | exact bV_0 hV | exact bV7 hV (by decide) (by omega) | exact bV84 hV (by decide) (by omega) | exact bV12 hV (by omega) | exact bV_1 hV | exact bV_2 hV) (by first | omega | (have h9 := bV84 hV (show 5 ≤ 5 ∧ 5 ≤ 10 by decide) (show a * 12 + t < 84 by omega); omega) | (have h9 := bV84 hV (show 5 ≤ 5 ∧ 5 ≤ 10 by decide) (show b * 12 + t < 84 by omega); omega) | first | omega | exact bV_0 hV | exact bV7 hV (by decide) (by omega) | exact bV84 hV (by decide) (by omega) | exact bV12 hV (by omega) | exact bV_1 hV | exact bV_2 hV) (tgt := 58) dX2_giver_51 (q := 54) rfl (by decide) (fun h_51 => ?_) (fun h_51 => ?_)
      · refine pw_iload_n hX rfl dX2_giver_58 (q := 59) rfl ?_
        refine pw_istore hX (by decide) dX2_giver_59 (q := 61) rfl ?_
        refine pw_iload hX rfl dX2_giver_61 (q := 63) rfl ?_
        refine pw_iload_n hX rfl dX2_giver_63 (q := 64) rfl ?_
        refine pw_cnI2 hX dX2_giver_64 (q := 67) rfl mi_X3_place mn_X2_88 ⟨rfl, rfl, by decide, by decide⟩ rfl (Nat.le_of_ble_eq_true rfl) (c_X3_place) ?_
        refine pw_istore hX (by decide) dX2_giver_67 (q := 69) rfl ?_
        refine pw_aload_n hX rfl dX2_giver_69 (q := 70) rfl ?_
        refine pw_getVF hX ho 9 (by decide) fl_X2_40 rfl dX2_giver_70 (q := 73) rfl ?_
        refine pw_iload hX rfl dX2_giver_73 (q := 75) rfl ?_
        refine pw_ialdVF hX ho 6 (by decide) (show _ < 84 by omega) dX2_giver_75 (q := 76) rfl ?_
        refine pw_aload_n hX rfl dX2_giver_76 (q := 77) rfl ?_
        refine pw_iload hX rfl dX2_giver_77 (q := 79) rfl ?_
        refine pw_cvI1 hX dX2_giver_79 (q := 82) rfl mi_X2_author ml_X2_144 (rcV ho) ⟨rfl, rfl, by decide, by decide⟩ rfl (Nat.le_of_ble_eq_true rfl) (c_X2_author ho hV (by omega)) ?_
        refine pw_iload hX rfl dX2_giver_82 (q := 84) rfl ?_
        refine pw_icmpN_ne hX (by first | omega | (have h9 := bV84 hV (show 5 ≤ 5 ∧ 5 ≤ 10 by decide) (show a * 12 + t < 84 by omega); omega) | (have h9 := bV84 hV (show 5 ≤ 5 ∧ 5 ≤ 10 by decide) (show b * 12 + t < 84 by omega); omega) | first | omega | exact bV_0 hV | exact bV7 hV (by decide) (by omega) | exact bV84 hV (by decide) (by omega) | exact bV12 hV (by omega) | exact bV_1 hV | exact bV_2 hV) (by first | omega | (have h9 := bV84 hV (show 5 ≤ 5 ∧ 5 ≤ 10 by decide) (show a * 12 + t < 84 by omega); omega) | (have h9 := bV84 hV (show 5 ≤ 5 ∧ 5 ≤ 10 by decide) (show b * 12 + t < 84 by omega); omega) | first | omega | exact bV_0 hV | exact bV7 hV (by decide) (by omega) | exact bV84 hV (by decide) (by omega) | exact bV12 hV (by omega) | exact bV_1 hV | exact bV_2 hV) (tgt := 91) dX2_giver_84 (q := 87) rfl (by decide) (fun h_84 => ?_) (fun h_84 => ?_)
        · refine pw_iconst hX (k := 0) rfl (by decide) dX2_giver_91 (q := 92) rfl ?_
          refine pw_iload hX rfl dX2_giver_92 (q := 94) rfl ?_
          refine pw_iload hX rfl dX2_giver_94 (q := 96) rfl ?_
          refine pw_icmpN_le hX (by first | omega | (have h9 := bV84 hV (show 5 ≤ 5 ∧ 5 ≤ 10 by decide) (show a * 12 + t < 84 by omega); omega) | (have h9 := bV84 hV (show 5 ≤ 5 ∧ 5 ≤ 10 by decide) (show b * 12 + t < 84 by omega); omega) | first | omega | exact bV_0 hV | exact bV7 hV (by decide) (by omega) | exact bV84 hV (by decide) (by omega) | exact bV12 hV (by omega) | exact bV_1 hV | exact bV_2 hV) (by first | omega | (have h9 := bV84 hV (show 5 ≤ 5 ∧ 5 ≤ 10 by decide) (show a * 12 + t < 84 by omega); omega) | (have h9 := bV84 hV (show 5 ≤ 5 ∧ 5 ≤ 10 by decide) (show b * 12 + t < 84 by omega); omega) | first | omega | exact bV_0 hV | exact bV7 hV (by decide) (by omega) | exact bV84 hV (by decide) (by omega) | exact bV12 hV (by omega) | exact bV_1 hV | exact bV_2 hV) (tgt := 103) dX2_giver_96 (q := 99) rfl (by decide) (fun h_96 => ?_) (fun h_96 => ?_)
          · refine pw_iconst hX (k := 0) rfl (by decide) dX2_giver_103 (q := 104) rfl ?_
            refine pw_csI3 hX dX2_giver_104 (q := 107) rfl mi_X2_mayBeHanded ml_X2_147 ⟨rfl, rfl, by decide, by decide⟩ rfl (Nat.le_of_ble_eq_true rfl) (c_X2_mayBeHanded (by exact bV84 hV (by decide) (by omega)) (by decide) (by decide)) ?_
            refine pw_ifB_eq hX (tgt := 115) dX2_giver_107 (q := 110) rfl (by decide) (fun h_107 => ?_) (fun h_107 => ?_)
            · refine pw_iconstm hX dX2_giver_115 (q := 116) rfl ?_
              refine pw_ireturn hX dX2_giver_116 ⟨_, rfl, rfl⟩ ⟨congrArg (fun z => some (Value.int z)) ?_, ?_⟩
              · rw [kGv, if_neg h_28]; first | (exfalso; omega) | (have e := kHM (V := V) (t := t) (f := a) (p := b) (x := 0) (y := 0) (by omega) (by omega); rw [if_pos (by omega), e]; first | (rw [if_pos h_107]; rfl) | (rw [if_neg (by rw [h_107]; decide)]; rfl)) | (have e := kHM (V := V) (t := t) (f := a) (p := b) (x := 0) (y := 1) (by omega) (by omega); rw [if_pos (by omega), e]; first | (rw [if_pos h_107]; rfl) | (rw [if_neg (by rw [h_107]; decide)]; rfl)) | (have e := kHM (V := V) (t := t) (f := a) (p := b) (x := 1) (y := 0) (by omega) (by omega); rw [if_pos (by omega), e]; first | (rw [if_pos h_107]; rfl) | (rw [if_neg (by rw [h_107]; decide)]; rfl)) | (have e := kHM (V := V) (t := t) (f := a) (p := b) (x := 1) (y := 1) (by omega) (by omega); rw [if_pos (by omega), e]; first | (rw [if_pos h_107]; rfl) | (rw [if_neg (by rw [h_107]; decide)]; rfl)) | (have e := kHM (V := V) (t := t) (f := b) (p := a) (x := 0) (y := 0) (by omega) (by omega); rw [if_neg (by omega), e]; first | (rw [if_pos h_107]; rfl) | (rw [if_neg (by rw [h_107]; decide)]; rfl)) | (have e := kHM (V := V) (t := t) (f := b) (p := a) (x := 0) (y := 1) (by omega) (by omega); rw [if_neg (by omega), e]; first | (rw [if_pos h_107]; rfl) | (rw [if_neg (by rw [h_107]; decide)]; rfl)) | (have e := kHM (V := V) (t := t) (f := b) (p := a) (x := 1) (y := 0) (by omega) (by omega); rw [if_neg (by omega), e]; first | (rw [if_pos h_107]; rfl) | (rw [if_neg (by rw [h_107]; decide)]; rfl)) | (have e := kHM (V := V) (t := t) (f := b) (p := a) (x := 1) (y := 1) (by omega) (by omega); rw [if_neg (by omega), e]; first | (rw [if_pos h_107]; rfl) | (rw [if_neg (by rw [h_107]; decide)]; rfl))
              · rfl
            · refine pw_iload hX rfl dX2_giver_110 (q := 112) rfl ?_
              refine pw_goto hX (tgt := 116) dX2_giver_112 (by decide) ?_
              refine pw_ireturn hX dX2_giver_116 ⟨_, rfl, rfl⟩ ⟨congrArg (fun z => some (Value.int z)) ?_, ?_⟩
              · rw [kGv, if_neg h_28]; first | (exfalso; omega) | (have e := kHM (V := V) (t := t) (f := a) (p := b) (x := 0) (y := 0) (by omega) (by omega); rw [if_pos (by omega), e]; first | (rw [if_pos h_107]; rfl) | (rw [if_neg (by rw [h_107]; decide)]; rfl)) | (have e := kHM (V := V) (t := t) (f := a) (p := b) (x := 0) (y := 1) (by omega) (by omega); rw [if_pos (by omega), e]; first | (rw [if_pos h_107]; rfl) | (rw [if_neg (by rw [h_107]; decide)]; rfl)) | (have e := kHM (V := V) (t := t) (f := a) (p := b) (x := 1) (y := 0) (by omega) (by omega); rw [if_pos (by omega), e]; first | (rw [if_pos h_107]; rfl) | (rw [if_neg (by rw [h_107]; decide)]; rfl)) | (have e := kHM (V := V) (t := t) (f := a) (p := b) (x := 1) (y := 1) (by omega) (by omega); rw [if_pos (by omega), e]; first | (rw [if_pos h_107]; rfl) | (rw [if_neg (by rw [h_107]; decide)]; rfl)) | (have e := kHM (V := V) (t := t) (f := b) (p := a) (x := 0) (y := 0) (by omega) (by omega); rw [if_neg (by omega), e]; first | (rw [if_pos h_107]; rfl) | (rw [if_neg (by rw [h_107]; decide)]; rfl)) | (have e := kHM (V := V) (t := t) (f := b) (p := a) (x := 0) (y := 1) (by omega) (by omega); rw [if_neg (by omega), e]; first | (rw [if_pos h_107]; rfl) | (rw [if_neg (by rw [h_107]; decide)]; rfl)) | (have e := kHM (V := V) (t := t) (f := b) (p := a) (x := 1) (y := 0) (by omega) (by omega); rw [if_neg (by omega), e]; first | (rw [if_pos h_107]; rfl) | (rw [if_neg (by rw [h_107]; decide)]; rfl)) | (have e := kHM (V := V) (t := t) (f := b) (p := a) (x := 1) (y := 1) (by omega) (by omega); rw [if_neg (by omega), e]; first | (rw [if_pos h_107]; rfl) | (rw [if_neg (by rw [h_107]; decide)]; rfl))
              · rfl
          · refine pw_iconst hX (k := 1) rfl (by decide) dX2_giver_99 (q := 100) rfl ?_
            refine pw_goto hX (tgt := 104) dX2_giver_100 (by decide) ?_
            refine pw_csI3 hX dX2_giver_104 (q := 107) rfl mi_X2_mayBeHanded ml_X2_147 ⟨rfl, rfl, by decide, by decide⟩ rfl (Nat.le_of_ble_eq_true rfl) (c_X2_mayBeHanded (by exact bV84 hV (by decide) (by omega)) (by decide) (by decide)) ?_
            refine pw_ifB_eq hX (tgt := 115) dX2_giver_107 (q := 110) rfl (by decide) (fun h_107 => ?_) (fun h_107 => ?_)
            · refine pw_iconstm hX dX2_giver_115 (q := 116) rfl ?_
              refine pw_ireturn hX dX2_giver_116 ⟨_, rfl, rfl⟩ ⟨congrArg (fun z => some (Value.int z)) ?_, ?_⟩
              · rw [kGv, if_neg h_28]; first | (exfalso; omega) | (have e := kHM (V := V) (t := t) (f := a) (p := b) (x := 0) (y := 0) (by omega) (by omega); rw [if_pos (by omega), e]; first | (rw [if_pos h_107]; rfl) | (rw [if_neg (by rw [h_107]; decide)]; rfl)) | (have e := kHM (V := V) (t := t) (f := a) (p := b) (x := 0) (y := 1) (by omega) (by omega); rw [if_pos (by omega), e]; first | (rw [if_pos h_107]; rfl) | (rw [if_neg (by rw [h_107]; decide)]; rfl)) | (have e := kHM (V := V) (t := t) (f := a) (p := b) (x := 1) (y := 0) (by omega) (by omega); rw [if_pos (by omega), e]; first | (rw [if_pos h_107]; rfl) | (rw [if_neg (by rw [h_107]; decide)]; rfl)) | (have e := kHM (V := V) (t := t) (f := a) (p := b) (x := 1) (y := 1) (by omega) (by omega); rw [if_pos (by omega), e]; first | (rw [if_pos h_107]; rfl) | (rw [if_neg (by rw [h_107]; decide)]; rfl)) | (have e := kHM (V := V) (t := t) (f := b) (p := a) (x := 0) (y := 0) (by omega) (by omega); rw [if_neg (by omega), e]; first | (rw [if_pos h_107]; rfl) | (rw [if_neg (by rw [h_107]; decide)]; rfl)) | (have e := kHM (V := V) (t := t) (f := b) (p := a) (x := 0) (y := 1) (by omega) (by omega); rw [if_neg (by omega), e]; first | (rw [if_pos h_107]; rfl) | (rw [if_neg (by rw [h_107]; decide)]; rfl)) | (have e := kHM (V := V) (t := t) (f := b) (p := a) (x := 1) (y := 0) (by omega) (by omega); rw [if_neg (by omega), e]; first | (rw [if_pos h_107]; rfl) | (rw [if_neg (by rw [h_107]; decide)]; rfl)) | (have e := kHM (V := V) (t := t) (f := b) (p := a) (x := 1) (y := 1) (by omega) (by omega); rw [if_neg (by omega), e]; first | (rw [if_pos h_107]; rfl) | (rw [if_neg (by rw [h_107]; decide)]; rfl))
              · rfl
            · refine pw_iload hX rfl dX2_giver_110 (q := 112) rfl ?_
              refine pw_goto hX (tgt := 116) dX2_giver_112 (by decide) ?_
              refine pw_ireturn hX dX2_giver_116 ⟨_, rfl, rfl⟩ ⟨congrArg (fun z => some (Value.int z)) ?_, ?_⟩
              · rw [kGv, if_neg h_28]; first | (exfalso; omega) | (have e := kHM (V := V) (t := t) (f := a) (p := b) (x := 0) (y := 0) (by omega) (by omega); rw [if_pos (by omega), e]; first | (rw [if_pos h_107]; rfl) | (rw [if_neg (by rw [h_107]; decide)]; rfl)) | (have e := kHM (V := V) (t := t) (f := a) (p := b) (x := 0) (y := 1) (by omega) (by omega); rw [if_pos (by omega), e]; first | (rw [if_pos h_107]; rfl) | (rw [if_neg (by rw [h_107]; decide)]; rfl)) | (have e := kHM (V := V) (t := t) (f := a) (p := b) (x := 1) (y := 0) (by omega) (by omega); rw [if_pos (by omega), e]; first | (rw [if_pos h_107]; rfl) | (rw [if_neg (by rw [h_107]; decide)]; rfl)) | (have e := kHM (V := V) (t := t) (f := a) (p := b) (x := 1) (y := 1) (by omega) (by omega); rw [if_pos (by omega), e]; first | (rw [if_pos h_107]; rfl) | (rw [if_neg (by rw [h_107]; decide)]; rfl)) | (have e := kHM (V := V) (t := t) (f := b) (p := a) (x := 0) (y := 0) (by omega) (by omega); rw [if_neg (by omega), e]; first | (rw [if_pos h_107]; rfl) | (rw [if_neg (by rw [h_107]; decide)]; rfl)) | (have e := kHM (V := V) (t := t) (f := b) (p := a) (x := 0) (y := 1) (by omega) (by omega); rw [if_neg (by omega), e]; first | (rw [if_pos h_107]; rfl) | (rw [if_neg (by rw [h_107]; decide)]; rfl)) | (have e := kHM (V := V) (t := t) (f := b) (p := a) (x := 1) (y := 0) (by omega) (by omega); rw [if_neg (by omega), e]; first | (rw [if_pos h_107]; rfl) | (rw [if_neg (by rw [h_107]; decide)]; rfl)) | (have e := kHM (V := V) (t := t) (f := b) (p := a) (x := 1) (y := 1) (by omega) (by omega); rw [if_neg (by omega), e]; first | (rw [if_pos h_107]; rfl) | (rw [if_neg (by rw [h_107]; decide)]; rfl))
              · rfl
        · refine pw_iconst hX (k := 1) rfl (by decide) dX2_giver_87 (q := 88) rfl ?_
          refine pw_goto hX (tgt := 92) dX2_giver_88 (by decide) ?_
          refine pw_iload hX rfl dX2_giver_92 (q := 94) rfl ?_
          refine pw_iload hX rfl dX2_giver_94 (q := 96) rfl ?_
          refine pw_icmpN_le hX (by first | omega | (have h9 := bV84 hV (show 5 ≤ 5 ∧ 5 ≤ 10 by decide) (show a * 12 + t < 84 by omega); omega) | (have h9 := bV84 hV (show 5 ≤ 5 ∧ 5 ≤ 10 by decide) (show b * 12 + t < 84 by omega); omega) | first | omega | exact bV_0 hV | exact bV7 hV (by decide) (by omega) | exact bV84 hV (by decide) (by omega) | exact bV12 hV (by omega) | exact bV_1 hV | exact bV_2 hV) (by first | omega | (have h9 := bV84 hV (show 5 ≤ 5 ∧ 5 ≤ 10 by decide) (show a * 12 + t < 84 by omega); omega) | (have h9 := bV84 hV (show 5 ≤ 5 ∧ 5 ≤ 10 by decide) (show b * 12 + t < 84 by omega); omega) | first | omega | exact bV_0 hV | exact bV7 hV (by decide) (by omega) | exact bV84 hV (by decide) (by omega) | exact bV12 hV (by omega) | exact bV_1 hV | exact bV_2 hV) (tgt := 103) dX2_giver_96 (q := 99) rfl (by decide) (fun h_96 => ?_) (fun h_96 => ?_)
          · refine pw_iconst hX (k := 0) rfl (by decide) dX2_giver_103 (q := 104) rfl ?_
            refine pw_csI3 hX dX2_giver_104 (q := 107) rfl mi_X2_mayBeHanded ml_X2_147 ⟨rfl, rfl, by decide, by decide⟩ rfl (Nat.le_of_ble_eq_true rfl) (c_X2_mayBeHanded (by exact bV84 hV (by decide) (by omega)) (by decide) (by decide)) ?_
            refine pw_ifB_eq hX (tgt := 115) dX2_giver_107 (q := 110) rfl (by decide) (fun h_107 => ?_) (fun h_107 => ?_)
            · refine pw_iconstm hX dX2_giver_115 (q := 116) rfl ?_
              refine pw_ireturn hX dX2_giver_116 ⟨_, rfl, rfl⟩ ⟨congrArg (fun z => some (Value.int z)) ?_, ?_⟩
              · rw [kGv, if_neg h_28]; first | (exfalso; omega) | (have e := kHM (V := V) (t := t) (f := a) (p := b) (x := 0) (y := 0) (by omega) (by omega); rw [if_pos (by omega), e]; first | (rw [if_pos h_107]; rfl) | (rw [if_neg (by rw [h_107]; decide)]; rfl)) | (have e := kHM (V := V) (t := t) (f := a) (p := b) (x := 0) (y := 1) (by omega) (by omega); rw [if_pos (by omega), e]; first | (rw [if_pos h_107]; rfl) | (rw [if_neg (by rw [h_107]; decide)]; rfl)) | (have e := kHM (V := V) (t := t) (f := a) (p := b) (x := 1) (y := 0) (by omega) (by omega); rw [if_pos (by omega), e]; first | (rw [if_pos h_107]; rfl) | (rw [if_neg (by rw [h_107]; decide)]; rfl)) | (have e := kHM (V := V) (t := t) (f := a) (p := b) (x := 1) (y := 1) (by omega) (by omega); rw [if_pos (by omega), e]; first | (rw [if_pos h_107]; rfl) | (rw [if_neg (by rw [h_107]; decide)]; rfl)) | (have e := kHM (V := V) (t := t) (f := b) (p := a) (x := 0) (y := 0) (by omega) (by omega); rw [if_neg (by omega), e]; first | (rw [if_pos h_107]; rfl) | (rw [if_neg (by rw [h_107]; decide)]; rfl)) | (have e := kHM (V := V) (t := t) (f := b) (p := a) (x := 0) (y := 1) (by omega) (by omega); rw [if_neg (by omega), e]; first | (rw [if_pos h_107]; rfl) | (rw [if_neg (by rw [h_107]; decide)]; rfl)) | (have e := kHM (V := V) (t := t) (f := b) (p := a) (x := 1) (y := 0) (by omega) (by omega); rw [if_neg (by omega), e]; first | (rw [if_pos h_107]; rfl) | (rw [if_neg (by rw [h_107]; decide)]; rfl)) | (have e := kHM (V := V) (t := t) (f := b) (p := a) (x := 1) (y := 1) (by omega) (by omega); rw [if_neg (by omega), e]; first | (rw [if_pos h_107]; rfl) | (rw [if_neg (by rw [h_107]; decide)]; rfl))
              · rfl
            · refine pw_iload hX rfl dX2_giver_110 (q := 112) rfl ?_
              refine pw_goto hX (tgt := 116) dX2_giver_112 (by decide) ?_
              refine pw_ireturn hX dX2_giver_116 ⟨_, rfl, rfl⟩ ⟨congrArg (fun z => some (Value.int z)) ?_, ?_⟩
              · rw [kGv, if_neg h_28]; first | (exfalso; omega) | (have e := kHM (V := V) (t := t) (f := a) (p := b) (x := 0) (y := 0) (by omega) (by omega); rw [if_pos (by omega), e]; first | (rw [if_pos h_107]; rfl) | (rw [if_neg (by rw [h_107]; decide)]; rfl)) | (have e := kHM (V := V) (t := t) (f := a) (p := b) (x := 0) (y := 1) (by omega) (by omega); rw [if_pos (by omega), e]; first | (rw [if_pos h_107]; rfl) | (rw [if_neg (by rw [h_107]; decide)]; rfl)) | (have e := kHM (V := V) (t := t) (f := a) (p := b) (x := 1) (y := 0) (by omega) (by omega); rw [if_pos (by omega), e]; first | (rw [if_pos h_107]; rfl) | (rw [if_neg (by rw [h_107]; decide)]; rfl)) | (have e := kHM (V := V) (t := t) (f := a) (p := b) (x := 1) (y := 1) (by omega) (by omega); rw [if_pos (by omega), e]; first | (rw [if_pos h_107]; rfl) | (rw [if_neg (by rw [h_107]; decide)]; rfl)) | (have e := kHM (V := V) (t := t) (f := b) (p := a) (x := 0) (y := 0) (by omega) (by omega); rw [if_neg (by omega), e]; first | (rw [if_pos h_107]; rfl) | (rw [if_neg (by rw [h_107]; decide)]; rfl)) | (have e := kHM (V := V) (t := t) (f := b) (p := a) (x := 0) (y := 1) (by omega) (by omega); rw [if_neg (by omega), e]; first | (rw [if_pos h_107]; rfl) | (rw [if_neg (by rw [h_107]; decide)]; rfl)) | (have e := kHM (V := V) (t := t) (f := b) (p := a) (x := 1) (y := 0) (by omega) (by omega); rw [if_neg (by omega), e]; first | (rw [if_pos h_107]; rfl) | (rw [if_neg (by rw [h_107]; decide)]; rfl)) | (have e := kHM (V := V) (t := t) (f := b) (p := a) (x := 1) (y := 1) (by omega) (by omega); rw [if_neg (by omega), e]; first | (rw [if_pos h_107]; rfl) | (rw [if_neg (by rw [h_107]; decide)]; rfl))
              · rfl
          · refine pw_iconst hX (k := 1) rfl (by decide) dX2_giver_99 (q := 100) rfl ?_
            refine pw_goto hX (tgt := 104) dX2_giver_100 (by decide) ?_
            refine pw_csI3 hX dX2_giver_104 (q := 107) rfl mi_X2_mayBeHanded ml_X2_147 ⟨rfl, rfl, by decide, by decide⟩ rfl (Nat.le_of_ble_eq_true rfl) (c_X2_mayBeHanded (by exact bV84 hV (by decide) (by omega)) (by decide) (by decide)) ?_
            refine pw_ifB_eq hX (tgt := 115) dX2_giver_107 (q := 110) rfl (by decide) (fun h_107 => ?_) (fun h_107 => ?_)
            · refine pw_iconstm hX dX2_giver_115 (q := 116) rfl ?_
              refine pw_ireturn hX dX2_giver_116 ⟨_, rfl, rfl⟩ ⟨congrArg (fun z => some (Value.int z)) ?_, ?_⟩
              · rw [kGv, if_neg h_28]; first | (exfalso; omega) | (have e := kHM (V := V) (t := t) (f := a) (p := b) (x := 0) (y := 0) (by omega) (by omega); rw [if_pos (by omega), e]; first | (rw [if_pos h_107]; rfl) | (rw [if_neg (by rw [h_107]; decide)]; rfl)) | (have e := kHM (V := V) (t := t) (f := a) (p := b) (x := 0) (y := 1) (by omega) (by omega); rw [if_pos (by omega), e]; first | (rw [if_pos h_107]; rfl) | (rw [if_neg (by rw [h_107]; decide)]; rfl)) | (have e := kHM (V := V) (t := t) (f := a) (p := b) (x := 1) (y := 0) (by omega) (by omega); rw [if_pos (by omega), e]; first | (rw [if_pos h_107]; rfl) | (rw [if_neg (by rw [h_107]; decide)]; rfl)) | (have e := kHM (V := V) (t := t) (f := a) (p := b) (x := 1) (y := 1) (by omega) (by omega); rw [if_pos (by omega), e]; first | (rw [if_pos h_107]; rfl) | (rw [if_neg (by rw [h_107]; decide)]; rfl)) | (have e := kHM (V := V) (t := t) (f := b) (p := a) (x := 0) (y := 0) (by omega) (by omega); rw [if_neg (by omega), e]; first | (rw [if_pos h_107]; rfl) | (rw [if_neg (by rw [h_107]; decide)]; rfl)) | (have e := kHM (V := V) (t := t) (f := b) (p := a) (x := 0) (y := 1) (by omega) (by omega); rw [if_neg (by omega), e]; first | (rw [if_pos h_107]; rfl) | (rw [if_neg (by rw [h_107]; decide)]; rfl)) | (have e := kHM (V := V) (t := t) (f := b) (p := a) (x := 1) (y := 0) (by omega) (by omega); rw [if_neg (by omega), e]; first | (rw [if_pos h_107]; rfl) | (rw [if_neg (by rw [h_107]; decide)]; rfl)) | (have e := kHM (V := V) (t := t) (f := b) (p := a) (x := 1) (y := 1) (by omega) (by omega); rw [if_neg (by omega), e]; first | (rw [if_pos h_107]; rfl) | (rw [if_neg (by rw [h_107]; decide)]; rfl))
              · rfl
            · refine pw_iload hX rfl dX2_giver_110 (q := 112) rfl ?_
              refine pw_goto hX (tgt := 116) dX2_giver_112 (by decide) ?_
              refine pw_ireturn hX dX2_giver_116 ⟨_, rfl, rfl⟩ ⟨congrArg (fun z => some (Value.int z)) ?_, ?_⟩
              · rw [kGv, if_neg h_28]; first | (exfalso; omega) | (have e := kHM (V := V) (t := t) (f := a) (p := b) (x := 0) (y := 0) (by omega) (by omega); rw [if_pos (by omega), e]; first | (rw [if_pos h_107]; rfl) | (rw [if_neg (by rw [h_107]; decide)]; rfl)) | (have e := kHM (V := V) (t := t) (f := a) (p := b) (x := 0) (y := 1) (by omega) (by omega); rw [if_pos (by omega), e]; first | (rw [if_pos h_107]; rfl) | (rw [if_neg (by rw [h_107]; decide)]; rfl)) | (have e := kHM (V := V) (t := t) (f := a) (p := b) (x := 1) (y := 0) (by omega) (by omega); rw [if_pos (by omega), e]; first | (rw [if_pos h_107]; rfl) | (rw [if_neg (by rw [h_107]; decide)]; rfl)) | (have e := kHM (V := V) (t := t) (f := a) (p := b) (x := 1) (y := 1) (by omega) (by omega); rw [if_pos (by omega), e]; first | (rw [if_pos h_107]; rfl) | (rw [if_neg (by rw [h_107]; decide)]; rfl)) | (have e := kHM (V := V) (t := t) (f := b) (p := a) (x := 0) (y := 0) (by omega) (by omega); rw [if_neg (by omega), e]; first | (rw [if_pos h_107]; rfl) | (rw [if_neg (by rw [h_107]; decide)]; rfl)) | (have e := kHM (V := V) (t := t) (f := b) (p := a) (x := 0) (y := 1) (by omega) (by omega); rw [if_neg (by omega), e]; first | (rw [if_pos h_107]; rfl) | (rw [if_neg (by rw [h_107]; decide)]; rfl)) | (have e := kHM (V := V) (t := t) (f := b) (p := a) (x := 1) (y := 0) (by omega) (by omega); rw [if_neg (by omega), e]; first | (rw [if_pos h_107]; rfl) | (rw [if_neg (by rw [h_107]; decide)]; rfl)) | (have e := kHM (V := V) (t := t) (f := b) (p := a) (x := 1) (y := 1) (by omega) (by omega); rw [if_neg (by omega), e]; first | (rw [if_pos h_107]; rfl) | (rw [if_neg (by rw [h_107]; decide)]; rfl))
              · rfl
      · refine pw_iload_n hX rfl dX2_giver_54 (q := 55) rfl ?_
        refine pw_goto hX (tgt := 59) dX2_giver_55 (by decide) ?_
        refine pw_istore hX (by decide) dX2_giver_59 (q := 61) rfl ?_
        refine pw_iload hX rfl dX2_giver_61 (q := 63) rfl ?_
        refine pw_iload_n hX rfl dX2_giver_63 (q := 64) rfl ?_
        refine pw_cnI2 hX dX2_giver_64 (q := 67) rfl mi_X3_place mn_X2_88 ⟨rfl, rfl, by decide, by decide⟩ rfl (Nat.le_of_ble_eq_true rfl) (c_X3_place) ?_
        refine pw_istore hX (by decide) dX2_giver_67 (q := 69) rfl ?_
        refine pw_aload_n hX rfl dX2_giver_69 (q := 70) rfl ?_
        refine pw_getVF hX ho 9 (by decide) fl_X2_40 rfl dX2_giver_70 (q := 73) rfl ?_
        refine pw_iload hX rfl dX2_giver_73 (q := 75) rfl ?_
        refine pw_ialdVF hX ho 6 (by decide) (show _ < 84 by omega) dX2_giver_75 (q := 76) rfl ?_
        refine pw_aload_n hX rfl dX2_giver_76 (q := 77) rfl ?_
        refine pw_iload hX rfl dX2_giver_77 (q := 79) rfl ?_
        refine pw_cvI1 hX dX2_giver_79 (q := 82) rfl mi_X2_author ml_X2_144 (rcV ho) ⟨rfl, rfl, by decide, by decide⟩ rfl (Nat.le_of_ble_eq_true rfl) (c_X2_author ho hV (by omega)) ?_
        refine pw_iload hX rfl dX2_giver_82 (q := 84) rfl ?_
        refine pw_icmpN_ne hX (by first | omega | (have h9 := bV84 hV (show 5 ≤ 5 ∧ 5 ≤ 10 by decide) (show a * 12 + t < 84 by omega); omega) | (have h9 := bV84 hV (show 5 ≤ 5 ∧ 5 ≤ 10 by decide) (show b * 12 + t < 84 by omega); omega) | first | omega | exact bV_0 hV | exact bV7 hV (by decide) (by omega) | exact bV84 hV (by decide) (by omega) | exact bV12 hV (by omega) | exact bV_1 hV | exact bV_2 hV) (by first | omega | (have h9 := bV84 hV (show 5 ≤ 5 ∧ 5 ≤ 10 by decide) (show a * 12 + t < 84 by omega); omega) | (have h9 := bV84 hV (show 5 ≤ 5 ∧ 5 ≤ 10 by decide) (show b * 12 + t < 84 by omega); omega) | first | omega | exact bV_0 hV | exact bV7 hV (by decide) (by omega) | exact bV84 hV (by decide) (by omega) | exact bV12 hV (by omega) | exact bV_1 hV | exact bV_2 hV) (tgt := 91) dX2_giver_84 (q := 87) rfl (by decide) (fun h_84 => ?_) (fun h_84 => ?_)
        · refine pw_iconst hX (k := 0) rfl (by decide) dX2_giver_91 (q := 92) rfl ?_
          refine pw_iload hX rfl dX2_giver_92 (q := 94) rfl ?_
          refine pw_iload hX rfl dX2_giver_94 (q := 96) rfl ?_
          refine pw_icmpN_le hX (by first | omega | (have h9 := bV84 hV (show 5 ≤ 5 ∧ 5 ≤ 10 by decide) (show a * 12 + t < 84 by omega); omega) | (have h9 := bV84 hV (show 5 ≤ 5 ∧ 5 ≤ 10 by decide) (show b * 12 + t < 84 by omega); omega) | first | omega | exact bV_0 hV | exact bV7 hV (by decide) (by omega) | exact bV84 hV (by decide) (by omega) | exact bV12 hV (by omega) | exact bV_1 hV | exact bV_2 hV) (by first | omega | (have h9 := bV84 hV (show 5 ≤ 5 ∧ 5 ≤ 10 by decide) (show a * 12 + t < 84 by omega); omega) | (have h9 := bV84 hV (show 5 ≤ 5 ∧ 5 ≤ 10 by decide) (show b * 12 + t < 84 by omega); omega) | first | omega | exact bV_0 hV | exact bV7 hV (by decide) (by omega) | exact bV84 hV (by decide) (by omega) | exact bV12 hV (by omega) | exact bV_1 hV | exact bV_2 hV) (tgt := 103) dX2_giver_96 (q := 99) rfl (by decide) (fun h_96 => ?_) (fun h_96 => ?_)
          · refine pw_iconst hX (k := 0) rfl (by decide) dX2_giver_103 (q := 104) rfl ?_
            refine pw_csI3 hX dX2_giver_104 (q := 107) rfl mi_X2_mayBeHanded ml_X2_147 ⟨rfl, rfl, by decide, by decide⟩ rfl (Nat.le_of_ble_eq_true rfl) (c_X2_mayBeHanded (by exact bV84 hV (by decide) (by omega)) (by decide) (by decide)) ?_
            refine pw_ifB_eq hX (tgt := 115) dX2_giver_107 (q := 110) rfl (by decide) (fun h_107 => ?_) (fun h_107 => ?_)
            · refine pw_iconstm hX dX2_giver_115 (q := 116) rfl ?_
              refine pw_ireturn hX dX2_giver_116 ⟨_, rfl, rfl⟩ ⟨congrArg (fun z => some (Value.int z)) ?_, ?_⟩
              · rw [kGv, if_neg h_28]; first | (exfalso; omega) | (have e := kHM (V := V) (t := t) (f := a) (p := b) (x := 0) (y := 0) (by omega) (by omega); rw [if_pos (by omega), e]; first | (rw [if_pos h_107]; rfl) | (rw [if_neg (by rw [h_107]; decide)]; rfl)) | (have e := kHM (V := V) (t := t) (f := a) (p := b) (x := 0) (y := 1) (by omega) (by omega); rw [if_pos (by omega), e]; first | (rw [if_pos h_107]; rfl) | (rw [if_neg (by rw [h_107]; decide)]; rfl)) | (have e := kHM (V := V) (t := t) (f := a) (p := b) (x := 1) (y := 0) (by omega) (by omega); rw [if_pos (by omega), e]; first | (rw [if_pos h_107]; rfl) | (rw [if_neg (by rw [h_107]; decide)]; rfl)) | (have e := kHM (V := V) (t := t) (f := a) (p := b) (x := 1) (y := 1) (by omega) (by omega); rw [if_pos (by omega), e]; first | (rw [if_pos h_107]; rfl) | (rw [if_neg (by rw [h_107]; decide)]; rfl)) | (have e := kHM (V := V) (t := t) (f := b) (p := a) (x := 0) (y := 0) (by omega) (by omega); rw [if_neg (by omega), e]; first | (rw [if_pos h_107]; rfl) | (rw [if_neg (by rw [h_107]; decide)]; rfl)) | (have e := kHM (V := V) (t := t) (f := b) (p := a) (x := 0) (y := 1) (by omega) (by omega); rw [if_neg (by omega), e]; first | (rw [if_pos h_107]; rfl) | (rw [if_neg (by rw [h_107]; decide)]; rfl)) | (have e := kHM (V := V) (t := t) (f := b) (p := a) (x := 1) (y := 0) (by omega) (by omega); rw [if_neg (by omega), e]; first | (rw [if_pos h_107]; rfl) | (rw [if_neg (by rw [h_107]; decide)]; rfl)) | (have e := kHM (V := V) (t := t) (f := b) (p := a) (x := 1) (y := 1) (by omega) (by omega); rw [if_neg (by omega), e]; first | (rw [if_pos h_107]; rfl) | (rw [if_neg (by rw [h_107]; decide)]; rfl))
              · rfl
            · refine pw_iload hX rfl dX2_giver_110 (q := 112) rfl ?_
              refine pw_goto hX (tgt := 116) dX2_giver_112 (by decide) ?_
              refine pw_ireturn hX dX2_giver_116 ⟨_, rfl, rfl⟩ ⟨congrArg (fun z => some (Value.int z)) ?_, ?_⟩
              · rw [kGv, if_neg h_28]; first | (exfalso; omega) | (have e := kHM (V := V) (t := t) (f := a) (p := b) (x := 0) (y := 0) (by omega) (by omega); rw [if_pos (by omega), e]; first | (rw [if_pos h_107]; rfl) | (rw [if_neg (by rw [h_107]; decide)]; rfl)) | (have e := kHM (V := V) (t := t) (f := a) (p := b) (x := 0) (y := 1) (by omega) (by omega); rw [if_pos (by omega), e]; first | (rw [if_pos h_107]; rfl) | (rw [if_neg (by rw [h_107]; decide)]; rfl)) | (have e := kHM (V := V) (t := t) (f := a) (p := b) (x := 1) (y := 0) (by omega) (by omega); rw [if_pos (by omega), e]; first | (rw [if_pos h_107]; rfl) | (rw [if_neg (by rw [h_107]; decide)]; rfl)) | (have e := kHM (V := V) (t := t) (f := a) (p := b) (x := 1) (y := 1) (by omega) (by omega); rw [if_pos (by omega), e]; first | (rw [if_pos h_107]; rfl) | (rw [if_neg (by rw [h_107]; decide)]; rfl)) | (have e := kHM (V := V) (t := t) (f := b) (p := a) (x := 0) (y := 0) (by omega) (by omega); rw [if_neg (by omega), e]; first | (rw [if_pos h_107]; rfl) | (rw [if_neg (by rw [h_107]; decide)]; rfl)) | (have e := kHM (V := V) (t := t) (f := b) (p := a) (x := 0) (y := 1) (by omega) (by omega); rw [if_neg (by omega), e]; first | (rw [if_pos h_107]; rfl) | (rw [if_neg (by rw [h_107]; decide)]; rfl)) | (have e := kHM (V := V) (t := t) (f := b) (p := a) (x := 1) (y := 0) (by omega) (by omega); rw [if_neg (by omega), e]; first | (rw [if_pos h_107]; rfl) | (rw [if_neg (by rw [h_107]; decide)]; rfl)) | (have e := kHM (V := V) (t := t) (f := b) (p := a) (x := 1) (y := 1) (by omega) (by omega); rw [if_neg (by omega), e]; first | (rw [if_pos h_107]; rfl) | (rw [if_neg (by rw [h_107]; decide)]; rfl))
              · rfl
          · refine pw_iconst hX (k := 1) rfl (by decide) dX2_giver_99 (q := 100) rfl ?_
            refine pw_goto hX (tgt := 104) dX2_giver_100 (by decide) ?_
            refine pw_csI3 hX dX2_giver_104 (q := 107) rfl mi_X2_mayBeHanded ml_X2_147 ⟨rfl, rfl, by decide, by decide⟩ rfl (Nat.le_of_ble_eq_true rfl) (c_X2_mayBeHanded (by exact bV84 hV (by decide) (by omega)) (by decide) (by decide)) ?_
            refine pw_ifB_eq hX (tgt := 115) dX2_giver_107 (q := 110) rfl (by decide) (fun h_107 => ?_) (fun h_107 => ?_)
            · refine pw_iconstm hX dX2_giver_115 (q := 116) rfl ?_
              refine pw_ireturn hX dX2_giver_116 ⟨_, rfl, rfl⟩ ⟨congrArg (fun z => some (Value.int z)) ?_, ?_⟩
              · rw [kGv, if_neg h_28]; first | (exfalso; omega) | (have e := kHM (V := V) (t := t) (f := a) (p := b) (x := 0) (y := 0) (by omega) (by omega); rw [if_pos (by omega), e]; first | (rw [if_pos h_107]; rfl) | (rw [if_neg (by rw [h_107]; decide)]; rfl)) | (have e := kHM (V := V) (t := t) (f := a) (p := b) (x := 0) (y := 1) (by omega) (by omega); rw [if_pos (by omega), e]; first | (rw [if_pos h_107]; rfl) | (rw [if_neg (by rw [h_107]; decide)]; rfl)) | (have e := kHM (V := V) (t := t) (f := a) (p := b) (x := 1) (y := 0) (by omega) (by omega); rw [if_pos (by omega), e]; first | (rw [if_pos h_107]; rfl) | (rw [if_neg (by rw [h_107]; decide)]; rfl)) | (have e := kHM (V := V) (t := t) (f := a) (p := b) (x := 1) (y := 1) (by omega) (by omega); rw [if_pos (by omega), e]; first | (rw [if_pos h_107]; rfl) | (rw [if_neg (by rw [h_107]; decide)]; rfl)) | (have e := kHM (V := V) (t := t) (f := b) (p := a) (x := 0) (y := 0) (by omega) (by omega); rw [if_neg (by omega), e]; first | (rw [if_pos h_107]; rfl) | (rw [if_neg (by rw [h_107]; decide)]; rfl)) | (have e := kHM (V := V) (t := t) (f := b) (p := a) (x := 0) (y := 1) (by omega) (by omega); rw [if_neg (by omega), e]; first | (rw [if_pos h_107]; rfl) | (rw [if_neg (by rw [h_107]; decide)]; rfl)) | (have e := kHM (V := V) (t := t) (f := b) (p := a) (x := 1) (y := 0) (by omega) (by omega); rw [if_neg (by omega), e]; first | (rw [if_pos h_107]; rfl) | (rw [if_neg (by rw [h_107]; decide)]; rfl)) | (have e := kHM (V := V) (t := t) (f := b) (p := a) (x := 1) (y := 1) (by omega) (by omega); rw [if_neg (by omega), e]; first | (rw [if_pos h_107]; rfl) | (rw [if_neg (by rw [h_107]; decide)]; rfl))
              · rfl
            · refine pw_iload hX rfl dX2_giver_110 (q := 112) rfl ?_
              refine pw_goto hX (tgt := 116) dX2_giver_112 (by decide) ?_
              refine pw_ireturn hX dX2_giver_116 ⟨_, rfl, rfl⟩ ⟨congrArg (fun z => some (Value.int z)) ?_, ?_⟩
              · rw [kGv, if_neg h_28]; first | (exfalso; omega) | (have e := kHM (V := V) (t := t) (f := a) (p := b) (x := 0) (y := 0) (by omega) (by omega); rw [if_pos (by omega), e]; first | (rw [if_pos h_107]; rfl) | (rw [if_neg (by rw [h_107]; decide)]; rfl)) | (have e := kHM (V := V) (t := t) (f := a) (p := b) (x := 0) (y := 1) (by omega) (by omega); rw [if_pos (by omega), e]; first | (rw [if_pos h_107]; rfl) | (rw [if_neg (by rw [h_107]; decide)]; rfl)) | (have e := kHM (V := V) (t := t) (f := a) (p := b) (x := 1) (y := 0) (by omega) (by omega); rw [if_pos (by omega), e]; first | (rw [if_pos h_107]; rfl) | (rw [if_neg (by rw [h_107]; decide)]; rfl)) | (have e := kHM (V := V) (t := t) (f := a) (p := b) (x := 1) (y := 1) (by omega) (by omega); rw [if_pos (by omega), e]; first | (rw [if_pos h_107]; rfl) | (rw [if_neg (by rw [h_107]; decide)]; rfl)) | (have e := kHM (V := V) (t := t) (f := b) (p := a) (x := 0) (y := 0) (by omega) (by omega); rw [if_neg (by omega), e]; first | (rw [if_pos h_107]; rfl) | (rw [if_neg (by rw [h_107]; decide)]; rfl)) | (have e := kHM (V := V) (t := t) (f := b) (p := a) (x := 0) (y := 1) (by omega) (by omega); rw [if_neg (by omega), e]; first | (rw [if_pos h_107]; rfl) | (rw [if_neg (by rw [h_107]; decide)]; rfl)) | (have e := kHM (V := V) (t := t) (f := b) (p := a) (x := 1) (y := 0) (by omega) (by omega); rw [if_neg (by omega), e]; first | (rw [if_pos h_107]; rfl) | (rw [if_neg (by rw [h_107]; decide)]; rfl)) | (have e := kHM (V := V) (t := t) (f := b) (p := a) (x := 1) (y := 1) (by omega) (by omega); rw [if_neg (by omega), e]; first | (rw [if_pos h_107]; rfl) | (rw [if_neg (by rw [h_107]; decide)]; rfl))
              · rfl
        · refine pw_iconst hX (k := 1) rfl (by decide) dX2_giver_87 (q := 88) rfl ?_
          refine pw_goto hX (tgt := 92) dX2_giver_88 (by decide) ?_
          refine pw_iload hX rfl dX2_giver_92 (q := 94) rfl ?_
          refine pw_iload hX rfl dX2_giver_94 (q := 96) rfl ?_
          refine pw_icmpN_le hX (by first | omega | (have h9 := bV84 hV (show 5 ≤ 5 ∧ 5 ≤ 10 by decide) (show a * 12 + t < 84 by omega); omega) | (have h9 := bV84 hV (show 5 ≤ 5 ∧ 5 ≤ 10 by decide) (show b * 12 + t < 84 by omega); omega) | first | omega | exact bV_0 hV | exact bV7 hV (by decide) (by omega) | exact bV84 hV (by decide) (by omega) | exact bV12 hV (by omega) | exact bV_1 hV | exact bV_2 hV) (by first | omega | (have h9 := bV84 hV (show 5 ≤ 5 ∧ 5 ≤ 10 by decide) (show a * 12 + t < 84 by omega); omega) | (have h9 := bV84 hV (show 5 ≤ 5 ∧ 5 ≤ 10 by decide) (show b * 12 + t < 84 by omega); omega) | first | omega | exact bV_0 hV | exact bV7 hV (by decide) (by omega) | exact bV84 hV (by decide) (by omega) | exact bV12 hV (by omega) | exact bV_1 hV | exact bV_2 hV) (tgt := 103) dX2_giver_96 (q := 99) rfl (by decide) (fun h_96 => ?_) (fun h_96 => ?_)
          · refine pw_iconst hX (k := 0) rfl (by decide) dX2_giver_103 (q := 104) rfl ?_
            refine pw_csI3 hX dX2_giver_104 (q := 107) rfl mi_X2_mayBeHanded ml_X2_147 ⟨rfl, rfl, by decide, by decide⟩ rfl (Nat.le_of_ble_eq_true rfl) (c_X2_mayBeHanded (by exact bV84 hV (by decide) (by omega)) (by decide) (by decide)) ?_
            refine pw_ifB_eq hX (tgt := 115) dX2_giver_107 (q := 110) rfl (by decide) (fun h_107 => ?_) (fun h_107 => ?_)
            · refine pw_iconstm hX dX2_giver_115 (q := 116) rfl ?_
              refine pw_ireturn hX dX2_giver_116 ⟨_, rfl, rfl⟩ ⟨congrArg (fun z => some (Value.int z)) ?_, ?_⟩
              · rw [kGv, if_neg h_28]; first | (exfalso; omega) | (have e := kHM (V := V) (t := t) (f := a) (p := b) (x := 0) (y := 0) (by omega) (by omega); rw [if_pos (by omega), e]; first | (rw [if_pos h_107]; rfl) | (rw [if_neg (by rw [h_107]; decide)]; rfl)) | (have e := kHM (V := V) (t := t) (f := a) (p := b) (x := 0) (y := 1) (by omega) (by omega); rw [if_pos (by omega), e]; first | (rw [if_pos h_107]; rfl) | (rw [if_neg (by rw [h_107]; decide)]; rfl)) | (have e := kHM (V := V) (t := t) (f := a) (p := b) (x := 1) (y := 0) (by omega) (by omega); rw [if_pos (by omega), e]; first | (rw [if_pos h_107]; rfl) | (rw [if_neg (by rw [h_107]; decide)]; rfl)) | (have e := kHM (V := V) (t := t) (f := a) (p := b) (x := 1) (y := 1) (by omega) (by omega); rw [if_pos (by omega), e]; first | (rw [if_pos h_107]; rfl) | (rw [if_neg (by rw [h_107]; decide)]; rfl)) | (have e := kHM (V := V) (t := t) (f := b) (p := a) (x := 0) (y := 0) (by omega) (by omega); rw [if_neg (by omega), e]; first | (rw [if_pos h_107]; rfl) | (rw [if_neg (by rw [h_107]; decide)]; rfl)) | (have e := kHM (V := V) (t := t) (f := b) (p := a) (x := 0) (y := 1) (by omega) (by omega); rw [if_neg (by omega), e]; first | (rw [if_pos h_107]; rfl) | (rw [if_neg (by rw [h_107]; decide)]; rfl)) | (have e := kHM (V := V) (t := t) (f := b) (p := a) (x := 1) (y := 0) (by omega) (by omega); rw [if_neg (by omega), e]; first | (rw [if_pos h_107]; rfl) | (rw [if_neg (by rw [h_107]; decide)]; rfl)) | (have e := kHM (V := V) (t := t) (f := b) (p := a) (x := 1) (y := 1) (by omega) (by omega); rw [if_neg (by omega), e]; first | (rw [if_pos h_107]; rfl) | (rw [if_neg (by rw [h_107]; decide)]; rfl))
              · rfl
            · refine pw_iload hX rfl dX2_giver_110 (q := 112) rfl ?_
              refine pw_goto hX (tgt := 116) dX2_giver_112 (by decide) ?_
              refine pw_ireturn hX dX2_giver_116 ⟨_, rfl, rfl⟩ ⟨congrArg (fun z => some (Value.int z)) ?_, ?_⟩
              · rw [kGv, if_neg h_28]; first | (exfalso; omega) | (have e := kHM (V := V) (t := t) (f := a) (p := b) (x := 0) (y := 0) (by omega) (by omega); rw [if_pos (by omega), e]; first | (rw [if_pos h_107]; rfl) | (rw [if_neg (by rw [h_107]; decide)]; rfl)) | (have e := kHM (V := V) (t := t) (f := a) (p := b) (x := 0) (y := 1) (by omega) (by omega); rw [if_pos (by omega), e]; first | (rw [if_pos h_107]; rfl) | (rw [if_neg (by rw [h_107]; decide)]; rfl)) | (have e := kHM (V := V) (t := t) (f := a) (p := b) (x := 1) (y := 0) (by omega) (by omega); rw [if_pos (by omega), e]; first | (rw [if_pos h_107]; rfl) | (rw [if_neg (by rw [h_107]; decide)]; rfl)) | (have e := kHM (V := V) (t := t) (f := a) (p := b) (x := 1) (y := 1) (by omega) (by omega); rw [if_pos (by omega), e]; first | (rw [if_pos h_107]; rfl) | (rw [if_neg (by rw [h_107]; decide)]; rfl)) | (have e := kHM (V := V) (t := t) (f := b) (p := a) (x := 0) (y := 0) (by omega) (by omega); rw [if_neg (by omega), e]; first | (rw [if_pos h_107]; rfl) | (rw [if_neg (by rw [h_107]; decide)]; rfl)) | (have e := kHM (V := V) (t := t) (f := b) (p := a) (x := 0) (y := 1) (by omega) (by omega); rw [if_neg (by omega), e]; first | (rw [if_pos h_107]; rfl) | (rw [if_neg (by rw [h_107]; decide)]; rfl)) | (have e := kHM (V := V) (t := t) (f := b) (p := a) (x := 1) (y := 0) (by omega) (by omega); rw [if_neg (by omega), e]; first | (rw [if_pos h_107]; rfl) | (rw [if_neg (by rw [h_107]; decide)]; rfl)) | (have e := kHM (V := V) (t := t) (f := b) (p := a) (x := 1) (y := 1) (by omega) (by omega); rw [if_neg (by omega), e]; first | (rw [if_pos h_107]; rfl) | (rw [if_neg (by rw [h_107]; decide)]; rfl))
              · rfl
          · refine pw_iconst hX (k := 1) rfl (by decide) dX2_giver_99 (q := 100) rfl ?_
            refine pw_goto hX (tgt := 104) dX2_giver_100 (by decide) ?_
            refine pw_csI3 hX dX2_giver_104 (q := 107) rfl mi_X2_mayBeHanded ml_X2_147 ⟨rfl, rfl, by decide, by decide⟩ rfl (Nat.le_of_ble_eq_true rfl) (c_X2_mayBeHanded (by exact bV84 hV (by decide) (by omega)) (by decide) (by decide)) ?_
            refine pw_ifB_eq hX (tgt := 115) dX2_giver_107 (q := 110) rfl (by decide) (fun h_107 => ?_) (fun h_107 => ?_)
            · refine pw_iconstm hX dX2_giver_115 (q := 116) rfl ?_
              refine pw_ireturn hX dX2_giver_116 ⟨_, rfl, rfl⟩ ⟨congrArg (fun z => some (Value.int z)) ?_, ?_⟩
              · rw [kGv, if_neg h_28]; first | (exfalso; omega) | (have e := kHM (V := V) (t := t) (f := a) (p := b) (x := 0) (y := 0) (by omega) (by omega); rw [if_pos (by omega), e]; first | (rw [if_pos h_107]; rfl) | (rw [if_neg (by rw [h_107]; decide)]; rfl)) | (have e := kHM (V := V) (t := t) (f := a) (p := b) (x := 0) (y := 1) (by omega) (by omega); rw [if_pos (by omega), e]; first | (rw [if_pos h_107]; rfl) | (rw [if_neg (by rw [h_107]; decide)]; rfl)) | (have e := kHM (V := V) (t := t) (f := a) (p := b) (x := 1) (y := 0) (by omega) (by omega); rw [if_pos (by omega), e]; first | (rw [if_pos h_107]; rfl) | (rw [if_neg (by rw [h_107]; decide)]; rfl)) | (have e := kHM (V := V) (t := t) (f := a) (p := b) (x := 1) (y := 1) (by omega) (by omega); rw [if_pos (by omega), e]; first | (rw [if_pos h_107]; rfl) | (rw [if_neg (by rw [h_107]; decide)]; rfl)) | (have e := kHM (V := V) (t := t) (f := b) (p := a) (x := 0) (y := 0) (by omega) (by omega); rw [if_neg (by omega), e]; first | (rw [if_pos h_107]; rfl) | (rw [if_neg (by rw [h_107]; decide)]; rfl)) | (have e := kHM (V := V) (t := t) (f := b) (p := a) (x := 0) (y := 1) (by omega) (by omega); rw [if_neg (by omega), e]; first | (rw [if_pos h_107]; rfl) | (rw [if_neg (by rw [h_107]; decide)]; rfl)) | (have e := kHM (V := V) (t := t) (f := b) (p := a) (x := 1) (y := 0) (by omega) (by omega); rw [if_neg (by omega), e]; first | (rw [if_pos h_107]; rfl) | (rw [if_neg (by rw [h_107]; decide)]; rfl)) | (have e := kHM (V := V) (t := t) (f := b) (p := a) (x := 1) (y := 1) (by omega) (by omega); rw [if_neg (by omega), e]; first | (rw [if_pos h_107]; rfl) | (rw [if_neg (by rw [h_107]; decide)]; rfl))
              · rfl
            · refine pw_iload hX rfl dX2_giver_110 (q := 112) rfl ?_
              refine pw_goto hX (tgt := 116) dX2_giver_112 (by decide) ?_
              refine pw_ireturn hX dX2_giver_116 ⟨_, rfl, rfl⟩ ⟨congrArg (fun z => some (Value.int z)) ?_, ?_⟩
              · rw [kGv, if_neg h_28]; first | (exfalso; omega) | (have e := kHM (V := V) (t := t) (f := a) (p := b) (x := 0) (y := 0) (by omega) (by omega); rw [if_pos (by omega), e]; first | (rw [if_pos h_107]; rfl) | (rw [if_neg (by rw [h_107]; decide)]; rfl)) | (have e := kHM (V := V) (t := t) (f := a) (p := b) (x := 0) (y := 1) (by omega) (by omega); rw [if_pos (by omega), e]; first | (rw [if_pos h_107]; rfl) | (rw [if_neg (by rw [h_107]; decide)]; rfl)) | (have e := kHM (V := V) (t := t) (f := a) (p := b) (x := 1) (y := 0) (by omega) (by omega); rw [if_pos (by omega), e]; first | (rw [if_pos h_107]; rfl) | (rw [if_neg (by rw [h_107]; decide)]; rfl)) | (have e := kHM (V := V) (t := t) (f := a) (p := b) (x := 1) (y := 1) (by omega) (by omega); rw [if_pos (by omega), e]; first | (rw [if_pos h_107]; rfl) | (rw [if_neg (by rw [h_107]; decide)]; rfl)) | (have e := kHM (V := V) (t := t) (f := b) (p := a) (x := 0) (y := 0) (by omega) (by omega); rw [if_neg (by omega), e]; first | (rw [if_pos h_107]; rfl) | (rw [if_neg (by rw [h_107]; decide)]; rfl)) | (have e := kHM (V := V) (t := t) (f := b) (p := a) (x := 0) (y := 1) (by omega) (by omega); rw [if_neg (by omega), e]; first | (rw [if_pos h_107]; rfl) | (rw [if_neg (by rw [h_107]; decide)]; rfl)) | (have e := kHM (V := V) (t := t) (f := b) (p := a) (x := 1) (y := 0) (by omega) (by omega); rw [if_neg (by omega), e]; first | (rw [if_pos h_107]; rfl) | (rw [if_neg (by rw [h_107]; decide)]; rfl)) | (have e := kHM (V := V) (t := t) (f := b) (p := a) (x := 1) (y := 1) (by omega) (by omega); rw [if_neg (by omega), e]; first | (rw [if_pos h_107]; rfl) | (rw [if_neg (by rw [h_107]; decide)]; rfl))
              · rfl
    · refine pw_iload_n hX rfl dX2_giver_40 (q := 41) rfl ?_
      refine pw_goto hX (tgt := 45) dX2_giver_41 (by decide) ?_
      refine pw_istore hX (by decide) dX2_giver_45 (q := 47) rfl ?_
      refine pw_iload hX rfl dX2_giver_47 (q := 49) rfl ?_
      refine pw_iload hX rfl dX2_giver_49 (q := 51) rfl ?_
      refine pw_icmpN_le hX (by first | omega | (have h9 := bV84 hV (show 5 ≤ 5 ∧ 5 ≤ 10 by decide) (show a * 12 + t < 84 by omega); omega) | (have h9 := bV84 hV (show 5 ≤ 5 ∧ 5 ≤ 10 by decide) (show b * 12 + t < 84 by omega); omega) | first | omega | exact bV_0 hV | exact bV7 hV (by decide) (by omega) | exact bV84 hV (by decide) (by omega) | exact bV12 hV (by omega) | exact bV_1 hV | exact bV_2 hV) (by first | omega | (have h9 := bV84 hV (show 5 ≤ 5 ∧ 5 ≤ 10 by decide) (show a * 12 + t < 84 by omega); omega) | (have h9 := bV84 hV (show 5 ≤ 5 ∧ 5 ≤ 10 by decide) (show b * 12 + t < 84 by omega); omega) | first | omega | exact bV_0 hV | exact bV7 hV (by decide) (by omega) | exact bV84 hV (by decide) (by omega) | exact bV12 hV (by omega) | exact bV_1 hV | exact bV_2 hV) (tgt := 58) dX2_giver_51 (q := 54) rfl (by decide) (fun h_51 => ?_) (fun h_51 => ?_)
      · refine pw_iload_n hX rfl dX2_giver_58 (q := 59) rfl ?_
        refine pw_istore hX (by decide) dX2_giver_59 (q := 61) rfl ?_
        refine pw_iload hX rfl dX2_giver_61 (q := 63) rfl ?_
        refine pw_iload_n hX rfl dX2_giver_63 (q := 64) rfl ?_
        refine pw_cnI2 hX dX2_giver_64 (q := 67) rfl mi_X3_place mn_X2_88 ⟨rfl, rfl, by decide, by decide⟩ rfl (Nat.le_of_ble_eq_true rfl) (c_X3_place) ?_
        refine pw_istore hX (by decide) dX2_giver_67 (q := 69) rfl ?_
        refine pw_aload_n hX rfl dX2_giver_69 (q := 70) rfl ?_
        refine pw_getVF hX ho 9 (by decide) fl_X2_40 rfl dX2_giver_70 (q := 73) rfl ?_
        refine pw_iload hX rfl dX2_giver_73 (q := 75) rfl ?_
        refine pw_ialdVF hX ho 6 (by decide) (show _ < 84 by omega) dX2_giver_75 (q := 76) rfl ?_
        refine pw_aload_n hX rfl dX2_giver_76 (q := 77) rfl ?_
        refine pw_iload hX rfl dX2_giver_77 (q := 79) rfl ?_
        refine pw_cvI1 hX dX2_giver_79 (q := 82) rfl mi_X2_author ml_X2_144 (rcV ho) ⟨rfl, rfl, by decide, by decide⟩ rfl (Nat.le_of_ble_eq_true rfl) (c_X2_author ho hV (by omega)) ?_
        refine pw_iload hX rfl dX2_giver_82 (q := 84) rfl ?_
        refine pw_icmpN_ne hX (by first | omega | (have h9 := bV84 hV (show 5 ≤ 5 ∧ 5 ≤ 10 by decide) (show a * 12 + t < 84 by omega); omega) | (have h9 := bV84 hV (show 5 ≤ 5 ∧ 5 ≤ 10 by decide) (show b * 12 + t < 84 by omega); omega) | first | omega | exact bV_0 hV | exact bV7 hV (by decide) (by omega) | exact bV84 hV (by decide) (by omega) | exact bV12 hV (by omega) | exact bV_1 hV | exact bV_2 hV) (by first | omega | (have h9 := bV84 hV (show 5 ≤ 5 ∧ 5 ≤ 10 by decide) (show a * 12 + t < 84 by omega); omega) | (have h9 := bV84 hV (show 5 ≤ 5 ∧ 5 ≤ 10 by decide) (show b * 12 + t < 84 by omega); omega) | first | omega | exact bV_0 hV | exact bV7 hV (by decide) (by omega) | exact bV84 hV (by decide) (by omega) | exact bV12 hV (by omega) | exact bV_1 hV | exact bV_2 hV) (tgt := 91) dX2_giver_84 (q := 87) rfl (by decide) (fun h_84 => ?_) (fun h_84 => ?_)
        · refine pw_iconst hX (k := 0) rfl (by decide) dX2_giver_91 (q := 92) rfl ?_
          refine pw_iload hX rfl dX2_giver_92 (q := 94) rfl ?_
          refine pw_iload hX rfl dX2_giver_94 (q := 96) rfl ?_
          refine pw_icmpN_le hX (by first | omega | (have h9 := bV84 hV (show 5 ≤ 5 ∧ 5 ≤ 10 by decide) (show a * 12 + t < 84 by omega); omega) | (have h9 := bV84 hV (show 5 ≤ 5 ∧ 5 ≤ 10 by decide) (show b * 12 + t < 84 by omega); omega) | first | omega | exact bV_0 hV | exact bV7 hV (by decide) (by omega) | exact bV84 hV (by decide) (by omega) | exact bV12 hV (by omega) | exact bV_1 hV | exact bV_2 hV) (by first | omega | (have h9 := bV84 hV (show 5 ≤ 5 ∧ 5 ≤ 10 by decide) (show a * 12 + t < 84 by omega); omega) | (have h9 := bV84 hV (show 5 ≤ 5 ∧ 5 ≤ 10 by decide) (show b * 12 + t < 84 by omega); omega) | first | omega | exact bV_0 hV | exact bV7 hV (by decide) (by omega) | exact bV84 hV (by decide) (by omega) | exact bV12 hV (by omega) | exact bV_1 hV | exact bV_2 hV) (tgt := 103) dX2_giver_96 (q := 99) rfl (by decide) (fun h_96 => ?_) (fun h_96 => ?_)
          · refine pw_iconst hX (k := 0) rfl (by decide) dX2_giver_103 (q := 104) rfl ?_
            refine pw_csI3 hX dX2_giver_104 (q := 107) rfl mi_X2_mayBeHanded ml_X2_147 ⟨rfl, rfl, by decide, by decide⟩ rfl (Nat.le_of_ble_eq_true rfl) (c_X2_mayBeHanded (by exact bV84 hV (by decide) (by omega)) (by decide) (by decide)) ?_
            refine pw_ifB_eq hX (tgt := 115) dX2_giver_107 (q := 110) rfl (by decide) (fun h_107 => ?_) (fun h_107 => ?_)
            · refine pw_iconstm hX dX2_giver_115 (q := 116) rfl ?_
              refine pw_ireturn hX dX2_giver_116 ⟨_, rfl, rfl⟩ ⟨congrArg (fun z => some (Value.int z)) ?_, ?_⟩
              · rw [kGv, if_neg h_28]; first | (exfalso; omega) | (have e := kHM (V := V) (t := t) (f := a) (p := b) (x := 0) (y := 0) (by omega) (by omega); rw [if_pos (by omega), e]; first | (rw [if_pos h_107]; rfl) | (rw [if_neg (by rw [h_107]; decide)]; rfl)) | (have e := kHM (V := V) (t := t) (f := a) (p := b) (x := 0) (y := 1) (by omega) (by omega); rw [if_pos (by omega), e]; first | (rw [if_pos h_107]; rfl) | (rw [if_neg (by rw [h_107]; decide)]; rfl)) | (have e := kHM (V := V) (t := t) (f := a) (p := b) (x := 1) (y := 0) (by omega) (by omega); rw [if_pos (by omega), e]; first | (rw [if_pos h_107]; rfl) | (rw [if_neg (by rw [h_107]; decide)]; rfl)) | (have e := kHM (V := V) (t := t) (f := a) (p := b) (x := 1) (y := 1) (by omega) (by omega); rw [if_pos (by omega), e]; first | (rw [if_pos h_107]; rfl) | (rw [if_neg (by rw [h_107]; decide)]; rfl)) | (have e := kHM (V := V) (t := t) (f := b) (p := a) (x := 0) (y := 0) (by omega) (by omega); rw [if_neg (by omega), e]; first | (rw [if_pos h_107]; rfl) | (rw [if_neg (by rw [h_107]; decide)]; rfl)) | (have e := kHM (V := V) (t := t) (f := b) (p := a) (x := 0) (y := 1) (by omega) (by omega); rw [if_neg (by omega), e]; first | (rw [if_pos h_107]; rfl) | (rw [if_neg (by rw [h_107]; decide)]; rfl)) | (have e := kHM (V := V) (t := t) (f := b) (p := a) (x := 1) (y := 0) (by omega) (by omega); rw [if_neg (by omega), e]; first | (rw [if_pos h_107]; rfl) | (rw [if_neg (by rw [h_107]; decide)]; rfl)) | (have e := kHM (V := V) (t := t) (f := b) (p := a) (x := 1) (y := 1) (by omega) (by omega); rw [if_neg (by omega), e]; first | (rw [if_pos h_107]; rfl) | (rw [if_neg (by rw [h_107]; decide)]; rfl))
              · rfl
            · refine pw_iload hX rfl dX2_giver_110 (q := 112) rfl ?_
              refine pw_goto hX (tgt := 116) dX2_giver_112 (by decide) ?_
              refine pw_ireturn hX dX2_giver_116 ⟨_, rfl, rfl⟩ ⟨congrArg (fun z => some (Value.int z)) ?_, ?_⟩
              · rw [kGv, if_neg h_28]; first | (exfalso; omega) | (have e := kHM (V := V) (t := t) (f := a) (p := b) (x := 0) (y := 0) (by omega) (by omega); rw [if_pos (by omega), e]; first | (rw [if_pos h_107]; rfl) | (rw [if_neg (by rw [h_107]; decide)]; rfl)) | (have e := kHM (V := V) (t := t) (f := a) (p := b) (x := 0) (y := 1) (by omega) (by omega); rw [if_pos (by omega), e]; first | (rw [if_pos h_107]; rfl) | (rw [if_neg (by rw [h_107]; decide)]; rfl)) | (have e := kHM (V := V) (t := t) (f := a) (p := b) (x := 1) (y := 0) (by omega) (by omega); rw [if_pos (by omega), e]; first | (rw [if_pos h_107]; rfl) | (rw [if_neg (by rw [h_107]; decide)]; rfl)) | (have e := kHM (V := V) (t := t) (f := a) (p := b) (x := 1) (y := 1) (by omega) (by omega); rw [if_pos (by omega), e]; first | (rw [if_pos h_107]; rfl) | (rw [if_neg (by rw [h_107]; decide)]; rfl)) | (have e := kHM (V := V) (t := t) (f := b) (p := a) (x := 0) (y := 0) (by omega) (by omega); rw [if_neg (by omega), e]; first | (rw [if_pos h_107]; rfl) | (rw [if_neg (by rw [h_107]; decide)]; rfl)) | (have e := kHM (V := V) (t := t) (f := b) (p := a) (x := 0) (y := 1) (by omega) (by omega); rw [if_neg (by omega), e]; first | (rw [if_pos h_107]; rfl) | (rw [if_neg (by rw [h_107]; decide)]; rfl)) | (have e := kHM (V := V) (t := t) (f := b) (p := a) (x := 1) (y := 0) (by omega) (by omega); rw [if_neg (by omega), e]; first | (rw [if_pos h_107]; rfl) | (rw [if_neg (by rw [h_107]; decide)]; rfl)) | (have e := kHM (V := V) (t := t) (f := b) (p := a) (x := 1) (y := 1) (by omega) (by omega); rw [if_neg (by omega), e]; first | (rw [if_pos h_107]; rfl) | (rw [if_neg (by rw [h_107]; decide)]; rfl))
              · rfl
          · refine pw_iconst hX (k := 1) rfl (by decide) dX2_giver_99 (q := 100) rfl ?_
            refine pw_goto hX (tgt := 104) dX2_giver_100 (by decide) ?_
            refine pw_csI3 hX dX2_giver_104 (q := 107) rfl mi_X2_mayBeHanded ml_X2_147 ⟨rfl, rfl, by decide, by decide⟩ rfl (Nat.le_of_ble_eq_true rfl) (c_X2_mayBeHanded (by exact bV84 hV (by decide) (by omega)) (by decide) (by decide)) ?_
            refine pw_ifB_eq hX (tgt := 115) dX2_giver_107 (q := 110) rfl (by decide) (fun h_107 => ?_) (fun h_107 => ?_)
            · refine pw_iconstm hX dX2_giver_115 (q := 116) rfl ?_
              refine pw_ireturn hX dX2_giver_116 ⟨_, rfl, rfl⟩ ⟨congrArg (fun z => some (Value.int z)) ?_, ?_⟩
              · rw [kGv, if_neg h_28]; first | (exfalso; omega) | (have e := kHM (V := V) (t := t) (f := a) (p := b) (x := 0) (y := 0) (by omega) (by omega); rw [if_pos (by omega), e]; first | (rw [if_pos h_107]; rfl) | (rw [if_neg (by rw [h_107]; decide)]; rfl)) | (have e := kHM (V := V) (t := t) (f := a) (p := b) (x := 0) (y := 1) (by omega) (by omega); rw [if_pos (by omega), e]; first | (rw [if_pos h_107]; rfl) | (rw [if_neg (by rw [h_107]; decide)]; rfl)) | (have e := kHM (V := V) (t := t) (f := a) (p := b) (x := 1) (y := 0) (by omega) (by omega); rw [if_pos (by omega), e]; first | (rw [if_pos h_107]; rfl) | (rw [if_neg (by rw [h_107]; decide)]; rfl)) | (have e := kHM (V := V) (t := t) (f := a) (p := b) (x := 1) (y := 1) (by omega) (by omega); rw [if_pos (by omega), e]; first | (rw [if_pos h_107]; rfl) | (rw [if_neg (by rw [h_107]; decide)]; rfl)) | (have e := kHM (V := V) (t := t) (f := b) (p := a) (x := 0) (y := 0) (by omega) (by omega); rw [if_neg (by omega), e]; first | (rw [if_pos h_107]; rfl) | (rw [if_neg (by rw [h_107]; decide)]; rfl)) | (have e := kHM (V := V) (t := t) (f := b) (p := a) (x := 0) (y := 1) (by omega) (by omega); rw [if_neg (by omega), e]; first | (rw [if_pos h_107]; rfl) | (rw [if_neg (by rw [h_107]; decide)]; rfl)) | (have e := kHM (V := V) (t := t) (f := b) (p := a) (x := 1) (y := 0) (by omega) (by omega); rw [if_neg (by omega), e]; first | (rw [if_pos h_107]; rfl) | (rw [if_neg (by rw [h_107]; decide)]; rfl)) | (have e := kHM (V := V) (t := t) (f := b) (p := a) (x := 1) (y := 1) (by omega) (by omega); rw [if_neg (by omega), e]; first | (rw [if_pos h_107]; rfl) | (rw [if_neg (by rw [h_107]; decide)]; rfl))
              · rfl
            · refine pw_iload hX rfl dX2_giver_110 (q := 112) rfl ?_
              refine pw_goto hX (tgt := 116) dX2_giver_112 (by decide) ?_
              refine pw_ireturn hX dX2_giver_116 ⟨_, rfl, rfl⟩ ⟨congrArg (fun z => some (Value.int z)) ?_, ?_⟩
              · rw [kGv, if_neg h_28]; first | (exfalso; omega) | (have e := kHM (V := V) (t := t) (f := a) (p := b) (x := 0) (y := 0) (by omega) (by omega); rw [if_pos (by omega), e]; first | (rw [if_pos h_107]; rfl) | (rw [if_neg (by rw [h_107]; decide)]; rfl)) | (have e := kHM (V := V) (t := t) (f := a) (p := b) (x := 0) (y := 1) (by omega) (by omega); rw [if_pos (by omega), e]; first | (rw [if_pos h_107]; rfl) | (rw [if_neg (by rw [h_107]; decide)]; rfl)) | (have e := kHM (V := V) (t := t) (f := a) (p := b) (x := 1) (y := 0) (by omega) (by omega); rw [if_pos (by omega), e]; first | (rw [if_pos h_107]; rfl) | (rw [if_neg (by rw [h_107]; decide)]; rfl)) | (have e := kHM (V := V) (t := t) (f := a) (p := b) (x := 1) (y := 1) (by omega) (by omega); rw [if_pos (by omega), e]; first | (rw [if_pos h_107]; rfl) | (rw [if_neg (by rw [h_107]; decide)]; rfl)) | (have e := kHM (V := V) (t := t) (f := b) (p := a) (x := 0) (y := 0) (by omega) (by omega); rw [if_neg (by omega), e]; first | (rw [if_pos h_107]; rfl) | (rw [if_neg (by rw [h_107]; decide)]; rfl)) | (have e := kHM (V := V) (t := t) (f := b) (p := a) (x := 0) (y := 1) (by omega) (by omega); rw [if_neg (by omega), e]; first | (rw [if_pos h_107]; rfl) | (rw [if_neg (by rw [h_107]; decide)]; rfl)) | (have e := kHM (V := V) (t := t) (f := b) (p := a) (x := 1) (y := 0) (by omega) (by omega); rw [if_neg (by omega), e]; first | (rw [if_pos h_107]; rfl) | (rw [if_neg (by rw [h_107]; decide)]; rfl)) | (have e := kHM (V := V) (t := t) (f := b) (p := a) (x := 1) (y := 1) (by omega) (by omega); rw [if_neg (by omega), e]; first | (rw [if_pos h_107]; rfl) | (rw [if_neg (by rw [h_107]; decide)]; rfl))
              · rfl
        · refine pw_iconst hX (k := 1) rfl (by decide) dX2_giver_87 (q := 88) rfl ?_
          refine pw_goto hX (tgt := 92) dX2_giver_88 (by decide) ?_
          refine pw_iload hX rfl dX2_giver_92 (q := 94) rfl ?_
          refine pw_iload hX rfl dX2_giver_94 (q := 96) rfl ?_
          refine pw_icmpN_le hX (by first | omega | (have h9 := bV84 hV (show 5 ≤ 5 ∧ 5 ≤ 10 by decide) (show a * 12 + t < 84 by omega); omega) | (have h9 := bV84 hV (show 5 ≤ 5 ∧ 5 ≤ 10 by decide) (show b * 12 + t < 84 by omega); omega) | first | omega | exact bV_0 hV | exact bV7 hV (by decide) (by omega) | exact bV84 hV (by decide) (by omega) | exact bV12 hV (by omega) | exact bV_1 hV | exact bV_2 hV) (by first | omega | (have h9 := bV84 hV (show 5 ≤ 5 ∧ 5 ≤ 10 by decide) (show a * 12 + t < 84 by omega); omega) | (have h9 := bV84 hV (show 5 ≤ 5 ∧ 5 ≤ 10 by decide) (show b * 12 + t < 84 by omega); omega) | first | omega | exact bV_0 hV | exact bV7 hV (by decide) (by omega) | exact bV84 hV (by decide) (by omega) | exact bV12 hV (by omega) | exact bV_1 hV | exact bV_2 hV) (tgt := 103) dX2_giver_96 (q := 99) rfl (by decide) (fun h_96 => ?_) (fun h_96 => ?_)
          · refine pw_iconst hX (k := 0) rfl (by decide) dX2_giver_103 (q := 104) rfl ?_
            refine pw_csI3 hX dX2_giver_104 (q := 107) rfl mi_X2_mayBeHanded ml_X2_147 ⟨rfl, rfl, by decide, by decide⟩ rfl (Nat.le_of_ble_eq_true rfl) (c_X2_mayBeHanded (by exact bV84 hV (by decide) (by omega)) (by decide) (by decide)) ?_
            refine pw_ifB_eq hX (tgt := 115) dX2_giver_107 (q := 110) rfl (by decide) (fun h_107 => ?_) (fun h_107 => ?_)
            · refine pw_iconstm hX dX2_giver_115 (q := 116) rfl ?_
              refine pw_ireturn hX dX2_giver_116 ⟨_, rfl, rfl⟩ ⟨congrArg (fun z => some (Value.int z)) ?_, ?_⟩
              · rw [kGv, if_neg h_28]; first | (exfalso; omega) | (have e := kHM (V := V) (t := t) (f := a) (p := b) (x := 0) (y := 0) (by omega) (by omega); rw [if_pos (by omega), e]; first | (rw [if_pos h_107]; rfl) | (rw [if_neg (by rw [h_107]; decide)]; rfl)) | (have e := kHM (V := V) (t := t) (f := a) (p := b) (x := 0) (y := 1) (by omega) (by omega); rw [if_pos (by omega), e]; first | (rw [if_pos h_107]; rfl) | (rw [if_neg (by rw [h_107]; decide)]; rfl)) | (have e := kHM (V := V) (t := t) (f := a) (p := b) (x := 1) (y := 0) (by omega) (by omega); rw [if_pos (by omega), e]; first | (rw [if_pos h_107]; rfl) | (rw [if_neg (by rw [h_107]; decide)]; rfl)) | (have e := kHM (V := V) (t := t) (f := a) (p := b) (x := 1) (y := 1) (by omega) (by omega); rw [if_pos (by omega), e]; first | (rw [if_pos h_107]; rfl) | (rw [if_neg (by rw [h_107]; decide)]; rfl)) | (have e := kHM (V := V) (t := t) (f := b) (p := a) (x := 0) (y := 0) (by omega) (by omega); rw [if_neg (by omega), e]; first | (rw [if_pos h_107]; rfl) | (rw [if_neg (by rw [h_107]; decide)]; rfl)) | (have e := kHM (V := V) (t := t) (f := b) (p := a) (x := 0) (y := 1) (by omega) (by omega); rw [if_neg (by omega), e]; first | (rw [if_pos h_107]; rfl) | (rw [if_neg (by rw [h_107]; decide)]; rfl)) | (have e := kHM (V := V) (t := t) (f := b) (p := a) (x := 1) (y := 0) (by omega) (by omega); rw [if_neg (by omega), e]; first | (rw [if_pos h_107]; rfl) | (rw [if_neg (by rw [h_107]; decide)]; rfl)) | (have e := kHM (V := V) (t := t) (f := b) (p := a) (x := 1) (y := 1) (by omega) (by omega); rw [if_neg (by omega), e]; first | (rw [if_pos h_107]; rfl) | (rw [if_neg (by rw [h_107]; decide)]; rfl))
              · rfl
            · refine pw_iload hX rfl dX2_giver_110 (q := 112) rfl ?_
              refine pw_goto hX (tgt := 116) dX2_giver_112 (by decide) ?_
              refine pw_ireturn hX dX2_giver_116 ⟨_, rfl, rfl⟩ ⟨congrArg (fun z => some (Value.int z)) ?_, ?_⟩
              · rw [kGv, if_neg h_28]; first | (exfalso; omega) | (have e := kHM (V := V) (t := t) (f := a) (p := b) (x := 0) (y := 0) (by omega) (by omega); rw [if_pos (by omega), e]; first | (rw [if_pos h_107]; rfl) | (rw [if_neg (by rw [h_107]; decide)]; rfl)) | (have e := kHM (V := V) (t := t) (f := a) (p := b) (x := 0) (y := 1) (by omega) (by omega); rw [if_pos (by omega), e]; first | (rw [if_pos h_107]; rfl) | (rw [if_neg (by rw [h_107]; decide)]; rfl)) | (have e := kHM (V := V) (t := t) (f := a) (p := b) (x := 1) (y := 0) (by omega) (by omega); rw [if_pos (by omega), e]; first | (rw [if_pos h_107]; rfl) | (rw [if_neg (by rw [h_107]; decide)]; rfl)) | (have e := kHM (V := V) (t := t) (f := a) (p := b) (x := 1) (y := 1) (by omega) (by omega); rw [if_pos (by omega), e]; first | (rw [if_pos h_107]; rfl) | (rw [if_neg (by rw [h_107]; decide)]; rfl)) | (have e := kHM (V := V) (t := t) (f := b) (p := a) (x := 0) (y := 0) (by omega) (by omega); rw [if_neg (by omega), e]; first | (rw [if_pos h_107]; rfl) | (rw [if_neg (by rw [h_107]; decide)]; rfl)) | (have e := kHM (V := V) (t := t) (f := b) (p := a) (x := 0) (y := 1) (by omega) (by omega); rw [if_neg (by omega), e]; first | (rw [if_pos h_107]; rfl) | (rw [if_neg (by rw [h_107]; decide)]; rfl)) | (have e := kHM (V := V) (t := t) (f := b) (p := a) (x := 1) (y := 0) (by omega) (by omega); rw [if_neg (by omega), e]; first | (rw [if_pos h_107]; rfl) | (rw [if_neg (by rw [h_107]; decide)]; rfl)) | (have e := kHM (V := V) (t := t) (f := b) (p := a) (x := 1) (y := 1) (by omega) (by omega); rw [if_neg (by omega), e]; first | (rw [if_pos h_107]; rfl) | (rw [if_neg (by rw [h_107]; decide)]; rfl))
              · rfl
          · refine pw_iconst hX (k := 1) rfl (by decide) dX2_giver_99 (q := 100) rfl ?_
            refine pw_goto hX (tgt := 104) dX2_giver_100 (by decide) ?_
            refine pw_csI3 hX dX2_giver_104 (q := 107) rfl mi_X2_mayBeHanded ml_X2_147 ⟨rfl, rfl, by decide, by decide⟩ rfl (Nat.le_of_ble_eq_true rfl) (c_X2_mayBeHanded (by exact bV84 hV (by decide) (by omega)) (by decide) (by decide)) ?_
            refine pw_ifB_eq hX (tgt := 115) dX2_giver_107 (q := 110) rfl (by decide) (fun h_107 => ?_) (fun h_107 => ?_)
            · refine pw_iconstm hX dX2_giver_115 (q := 116) rfl ?_
              refine pw_ireturn hX dX2_giver_116 ⟨_, rfl, rfl⟩ ⟨congrArg (fun z => some (Value.int z)) ?_, ?_⟩
              · rw [kGv, if_neg h_28]; first | (exfalso; omega) | (have e := kHM (V := V) (t := t) (f := a) (p := b) (x := 0) (y := 0) (by omega) (by omega); rw [if_pos (by omega), e]; first | (rw [if_pos h_107]; rfl) | (rw [if_neg (by rw [h_107]; decide)]; rfl)) | (have e := kHM (V := V) (t := t) (f := a) (p := b) (x := 0) (y := 1) (by omega) (by omega); rw [if_pos (by omega), e]; first | (rw [if_pos h_107]; rfl) | (rw [if_neg (by rw [h_107]; decide)]; rfl)) | (have e := kHM (V := V) (t := t) (f := a) (p := b) (x := 1) (y := 0) (by omega) (by omega); rw [if_pos (by omega), e]; first | (rw [if_pos h_107]; rfl) | (rw [if_neg (by rw [h_107]; decide)]; rfl)) | (have e := kHM (V := V) (t := t) (f := a) (p := b) (x := 1) (y := 1) (by omega) (by omega); rw [if_pos (by omega), e]; first | (rw [if_pos h_107]; rfl) | (rw [if_neg (by rw [h_107]; decide)]; rfl)) | (have e := kHM (V := V) (t := t) (f := b) (p := a) (x := 0) (y := 0) (by omega) (by omega); rw [if_neg (by omega), e]; first | (rw [if_pos h_107]; rfl) | (rw [if_neg (by rw [h_107]; decide)]; rfl)) | (have e := kHM (V := V) (t := t) (f := b) (p := a) (x := 0) (y := 1) (by omega) (by omega); rw [if_neg (by omega), e]; first | (rw [if_pos h_107]; rfl) | (rw [if_neg (by rw [h_107]; decide)]; rfl)) | (have e := kHM (V := V) (t := t) (f := b) (p := a) (x := 1) (y := 0) (by omega) (by omega); rw [if_neg (by omega), e]; first | (rw [if_pos h_107]; rfl) | (rw [if_neg (by rw [h_107]; decide)]; rfl)) | (have e := kHM (V := V) (t := t) (f := b) (p := a) (x := 1) (y := 1) (by omega) (by omega); rw [if_neg (by omega), e]; first | (rw [if_pos h_107]; rfl) | (rw [if_neg (by rw [h_107]; decide)]; rfl))
              · rfl
            · refine pw_iload hX rfl dX2_giver_110 (q := 112) rfl ?_
              refine pw_goto hX (tgt := 116) dX2_giver_112 (by decide) ?_
              refine pw_ireturn hX dX2_giver_116 ⟨_, rfl, rfl⟩ ⟨congrArg (fun z => some (Value.int z)) ?_, ?_⟩
              · rw [kGv, if_neg h_28]; first | (exfalso; omega) | (have e := kHM (V := V) (t := t) (f := a) (p := b) (x := 0) (y := 0) (by omega) (by omega); rw [if_pos (by omega), e]; first | (rw [if_pos h_107]; rfl) | (rw [if_neg (by rw [h_107]; decide)]; rfl)) | (have e := kHM (V := V) (t := t) (f := a) (p := b) (x := 0) (y := 1) (by omega) (by omega); rw [if_pos (by omega), e]; first | (rw [if_pos h_107]; rfl) | (rw [if_neg (by rw [h_107]; decide)]; rfl)) | (have e := kHM (V := V) (t := t) (f := a) (p := b) (x := 1) (y := 0) (by omega) (by omega); rw [if_pos (by omega), e]; first | (rw [if_pos h_107]; rfl) | (rw [if_neg (by rw [h_107]; decide)]; rfl)) | (have e := kHM (V := V) (t := t) (f := a) (p := b) (x := 1) (y := 1) (by omega) (by omega); rw [if_pos (by omega), e]; first | (rw [if_pos h_107]; rfl) | (rw [if_neg (by rw [h_107]; decide)]; rfl)) | (have e := kHM (V := V) (t := t) (f := b) (p := a) (x := 0) (y := 0) (by omega) (by omega); rw [if_neg (by omega), e]; first | (rw [if_pos h_107]; rfl) | (rw [if_neg (by rw [h_107]; decide)]; rfl)) | (have e := kHM (V := V) (t := t) (f := b) (p := a) (x := 0) (y := 1) (by omega) (by omega); rw [if_neg (by omega), e]; first | (rw [if_pos h_107]; rfl) | (rw [if_neg (by rw [h_107]; decide)]; rfl)) | (have e := kHM (V := V) (t := t) (f := b) (p := a) (x := 1) (y := 0) (by omega) (by omega); rw [if_neg (by omega), e]; first | (rw [if_pos h_107]; rfl) | (rw [if_neg (by rw [h_107]; decide)]; rfl)) | (have e := kHM (V := V) (t := t) (f := b) (p := a) (x := 1) (y := 1) (by omega) (by omega); rw [if_neg (by omega), e]; first | (rw [if_pos h_107]; rfl) | (rw [if_neg (by rw [h_107]; decide)]; rfl))
              · rfl
      · refine pw_iload_n hX rfl dX2_giver_54 (q := 55) rfl ?_
        refine pw_goto hX (tgt := 59) dX2_giver_55 (by decide) ?_
        refine pw_istore hX (by decide) dX2_giver_59 (q := 61) rfl ?_
        refine pw_iload hX rfl dX2_giver_61 (q := 63) rfl ?_
        refine pw_iload_n hX rfl dX2_giver_63 (q := 64) rfl ?_
        refine pw_cnI2 hX dX2_giver_64 (q := 67) rfl mi_X3_place mn_X2_88 ⟨rfl, rfl, by decide, by decide⟩ rfl (Nat.le_of_ble_eq_true rfl) (c_X3_place) ?_
        refine pw_istore hX (by decide) dX2_giver_67 (q := 69) rfl ?_
        refine pw_aload_n hX rfl dX2_giver_69 (q := 70) rfl ?_
        refine pw_getVF hX ho 9 (by decide) fl_X2_40 rfl dX2_giver_70 (q := 73) rfl ?_
        refine pw_iload hX rfl dX2_giver_73 (q := 75) rfl ?_
        refine pw_ialdVF hX ho 6 (by decide) (show _ < 84 by omega) dX2_giver_75 (q := 76) rfl ?_
        refine pw_aload_n hX rfl dX2_giver_76 (q := 77) rfl ?_
        refine pw_iload hX rfl dX2_giver_77 (q := 79) rfl ?_
        refine pw_cvI1 hX dX2_giver_79 (q := 82) rfl mi_X2_author ml_X2_144 (rcV ho) ⟨rfl, rfl, by decide, by decide⟩ rfl (Nat.le_of_ble_eq_true rfl) (c_X2_author ho hV (by omega)) ?_
        refine pw_iload hX rfl dX2_giver_82 (q := 84) rfl ?_
        refine pw_icmpN_ne hX (by first | omega | (have h9 := bV84 hV (show 5 ≤ 5 ∧ 5 ≤ 10 by decide) (show a * 12 + t < 84 by omega); omega) | (have h9 := bV84 hV (show 5 ≤ 5 ∧ 5 ≤ 10 by decide) (show b * 12 + t < 84 by omega); omega) | first | omega | exact bV_0 hV | exact bV7 hV (by decide) (by omega) | exact bV84 hV (by decide) (by omega) | exact bV12 hV (by omega) | exact bV_1 hV | exact bV_2 hV) (by first | omega | (have h9 := bV84 hV (show 5 ≤ 5 ∧ 5 ≤ 10 by decide) (show a * 12 + t < 84 by omega); omega) | (have h9 := bV84 hV (show 5 ≤ 5 ∧ 5 ≤ 10 by decide) (show b * 12 + t < 84 by omega); omega) | first | omega | exact bV_0 hV | exact bV7 hV (by decide) (by omega) | exact bV84 hV (by decide) (by omega) | exact bV12 hV (by omega) | exact bV_1 hV | exact bV_2 hV) (tgt := 91) dX2_giver_84 (q := 87) rfl (by decide) (fun h_84 => ?_) (fun h_84 => ?_)
        · refine pw_iconst hX (k := 0) rfl (by decide) dX2_giver_91 (q := 92) rfl ?_
          refine pw_iload hX rfl dX2_giver_92 (q := 94) rfl ?_
          refine pw_iload hX rfl dX2_giver_94 (q := 96) rfl ?_
          refine pw_icmpN_le hX (by first | omega | (have h9 := bV84 hV (show 5 ≤ 5 ∧ 5 ≤ 10 by decide) (show a * 12 + t < 84 by omega); omega) | (have h9 := bV84 hV (show 5 ≤ 5 ∧ 5 ≤ 10 by decide) (show b * 12 + t < 84 by omega); omega) | first | omega | exact bV_0 hV | exact bV7 hV (by decide) (by omega) | exact bV84 hV (by decide) (by omega) | exact bV12 hV (by omega) | exact bV_1 hV | exact bV_2 hV) (by first | omega | (have h9 := bV84 hV (show 5 ≤ 5 ∧ 5 ≤ 10 by decide) (show a * 12 + t < 84 by omega); omega) | (have h9 := bV84 hV (show 5 ≤ 5 ∧ 5 ≤ 10 by decide) (show b * 12 + t < 84 by omega); omega) | first | omega | exact bV_0 hV | exact bV7 hV (by decide) (by omega) | exact bV84 hV (by decide) (by omega) | exact bV12 hV (by omega) | exact bV_1 hV | exact bV_2 hV) (tgt := 103) dX2_giver_96 (q := 99) rfl (by decide) (fun h_96 => ?_) (fun h_96 => ?_)
          · refine pw_iconst hX (k := 0) rfl (by decide) dX2_giver_103 (q := 104) rfl ?_
            refine pw_csI3 hX dX2_giver_104 (q := 107) rfl mi_X2_mayBeHanded ml_X2_147 ⟨rfl, rfl, by decide, by decide⟩ rfl (Nat.le_of_ble_eq_true rfl) (c_X2_mayBeHanded (by exact bV84 hV (by decide) (by omega)) (by decide) (by decide)) ?_
            refine pw_ifB_eq hX (tgt := 115) dX2_giver_107 (q := 110) rfl (by decide) (fun h_107 => ?_) (fun h_107 => ?_)
            · refine pw_iconstm hX dX2_giver_115 (q := 116) rfl ?_
              refine pw_ireturn hX dX2_giver_116 ⟨_, rfl, rfl⟩ ⟨congrArg (fun z => some (Value.int z)) ?_, ?_⟩
              · rw [kGv, if_neg h_28]; first | (exfalso; omega) | (have e := kHM (V := V) (t := t) (f := a) (p := b) (x := 0) (y := 0) (by omega) (by omega); rw [if_pos (by omega), e]; first | (rw [if_pos h_107]; rfl) | (rw [if_neg (by rw [h_107]; decide)]; rfl)) | (have e := kHM (V := V) (t := t) (f := a) (p := b) (x := 0) (y := 1) (by omega) (by omega); rw [if_pos (by omega), e]; first | (rw [if_pos h_107]; rfl) | (rw [if_neg (by rw [h_107]; decide)]; rfl)) | (have e := kHM (V := V) (t := t) (f := a) (p := b) (x := 1) (y := 0) (by omega) (by omega); rw [if_pos (by omega), e]; first | (rw [if_pos h_107]; rfl) | (rw [if_neg (by rw [h_107]; decide)]; rfl)) | (have e := kHM (V := V) (t := t) (f := a) (p := b) (x := 1) (y := 1) (by omega) (by omega); rw [if_pos (by omega), e]; first | (rw [if_pos h_107]; rfl) | (rw [if_neg (by rw [h_107]; decide)]; rfl)) | (have e := kHM (V := V) (t := t) (f := b) (p := a) (x := 0) (y := 0) (by omega) (by omega); rw [if_neg (by omega), e]; first | (rw [if_pos h_107]; rfl) | (rw [if_neg (by rw [h_107]; decide)]; rfl)) | (have e := kHM (V := V) (t := t) (f := b) (p := a) (x := 0) (y := 1) (by omega) (by omega); rw [if_neg (by omega), e]; first | (rw [if_pos h_107]; rfl) | (rw [if_neg (by rw [h_107]; decide)]; rfl)) | (have e := kHM (V := V) (t := t) (f := b) (p := a) (x := 1) (y := 0) (by omega) (by omega); rw [if_neg (by omega), e]; first | (rw [if_pos h_107]; rfl) | (rw [if_neg (by rw [h_107]; decide)]; rfl)) | (have e := kHM (V := V) (t := t) (f := b) (p := a) (x := 1) (y := 1) (by omega) (by omega); rw [if_neg (by omega), e]; first | (rw [if_pos h_107]; rfl) | (rw [if_neg (by rw [h_107]; decide)]; rfl))
              · rfl
            · refine pw_iload hX rfl dX2_giver_110 (q := 112) rfl ?_
              refine pw_goto hX (tgt := 116) dX2_giver_112 (by decide) ?_
              refine pw_ireturn hX dX2_giver_116 ⟨_, rfl, rfl⟩ ⟨congrArg (fun z => some (Value.int z)) ?_, ?_⟩
              · rw [kGv, if_neg h_28]; first | (exfalso; omega) | (have e := kHM (V := V) (t := t) (f := a) (p := b) (x := 0) (y := 0) (by omega) (by omega); rw [if_pos (by omega), e]; first | (rw [if_pos h_107]; rfl) | (rw [if_neg (by rw [h_107]; decide)]; rfl)) | (have e := kHM (V := V) (t := t) (f := a) (p := b) (x := 0) (y := 1) (by omega) (by omega); rw [if_pos (by omega), e]; first | (rw [if_pos h_107]; rfl) | (rw [if_neg (by rw [h_107]; decide)]; rfl)) | (have e := kHM (V := V) (t := t) (f := a) (p := b) (x := 1) (y := 0) (by omega) (by omega); rw [if_pos (by omega), e]; first | (rw [if_pos h_107]; rfl) | (rw [if_neg (by rw [h_107]; decide)]; rfl)) | (have e := kHM (V := V) (t := t) (f := a) (p := b) (x := 1) (y := 1) (by omega) (by omega); rw [if_pos (by omega), e]; first | (rw [if_pos h_107]; rfl) | (rw [if_neg (by rw [h_107]; decide)]; rfl)) | (have e := kHM (V := V) (t := t) (f := b) (p := a) (x := 0) (y := 0) (by omega) (by omega); rw [if_neg (by omega), e]; first | (rw [if_pos h_107]; rfl) | (rw [if_neg (by rw [h_107]; decide)]; rfl)) | (have e := kHM (V := V) (t := t) (f := b) (p := a) (x := 0) (y := 1) (by omega) (by omega); rw [if_neg (by omega), e]; first | (rw [if_pos h_107]; rfl) | (rw [if_neg (by rw [h_107]; decide)]; rfl)) | (have e := kHM (V := V) (t := t) (f := b) (p := a) (x := 1) (y := 0) (by omega) (by omega); rw [if_neg (by omega), e]; first | (rw [if_pos h_107]; rfl) | (rw [if_neg (by rw [h_107]; decide)]; rfl)) | (have e := kHM (V := V) (t := t) (f := b) (p := a) (x := 1) (y := 1) (by omega) (by omega); rw [if_neg (by omega), e]; first | (rw [if_pos h_107]; rfl) | (rw [if_neg (by rw [h_107]; decide)]; rfl))
              · rfl
          · refine pw_iconst hX (k := 1) rfl (by decide) dX2_giver_99 (q := 100) rfl ?_
            refine pw_goto hX (tgt := 104) dX2_giver_100 (by decide) ?_
            refine pw_csI3 hX dX2_giver_104 (q := 107) rfl mi_X2_mayBeHanded ml_X2_147 ⟨rfl, rfl, by decide, by decide⟩ rfl (Nat.le_of_ble_eq_true rfl) (c_X2_mayBeHanded (by exact bV84 hV (by decide) (by omega)) (by decide) (by decide)) ?_
            refine pw_ifB_eq hX (tgt := 115) dX2_giver_107 (q := 110) rfl (by decide) (fun h_107 => ?_) (fun h_107 => ?_)
            · refine pw_iconstm hX dX2_giver_115 (q := 116) rfl ?_
              refine pw_ireturn hX dX2_giver_116 ⟨_, rfl, rfl⟩ ⟨congrArg (fun z => some (Value.int z)) ?_, ?_⟩
              · rw [kGv, if_neg h_28]; first | (exfalso; omega) | (have e := kHM (V := V) (t := t) (f := a) (p := b) (x := 0) (y := 0) (by omega) (by omega); rw [if_pos (by omega), e]; first | (rw [if_pos h_107]; rfl) | (rw [if_neg (by rw [h_107]; decide)]; rfl)) | (have e := kHM (V := V) (t := t) (f := a) (p := b) (x := 0) (y := 1) (by omega) (by omega); rw [if_pos (by omega), e]; first | (rw [if_pos h_107]; rfl) | (rw [if_neg (by rw [h_107]; decide)]; rfl)) | (have e := kHM (V := V) (t := t) (f := a) (p := b) (x := 1) (y := 0) (by omega) (by omega); rw [if_pos (by omega), e]; first | (rw [if_pos h_107]; rfl) | (rw [if_neg (by rw [h_107]; decide)]; rfl)) | (have e := kHM (V := V) (t := t) (f := a) (p := b) (x := 1) (y := 1) (by omega) (by omega); rw [if_pos (by omega), e]; first | (rw [if_pos h_107]; rfl) | (rw [if_neg (by rw [h_107]; decide)]; rfl)) | (have e := kHM (V := V) (t := t) (f := b) (p := a) (x := 0) (y := 0) (by omega) (by omega); rw [if_neg (by omega), e]; first | (rw [if_pos h_107]; rfl) | (rw [if_neg (by rw [h_107]; decide)]; rfl)) | (have e := kHM (V := V) (t := t) (f := b) (p := a) (x := 0) (y := 1) (by omega) (by omega); rw [if_neg (by omega), e]; first | (rw [if_pos h_107]; rfl) | (rw [if_neg (by rw [h_107]; decide)]; rfl)) | (have e := kHM (V := V) (t := t) (f := b) (p := a) (x := 1) (y := 0) (by omega) (by omega); rw [if_neg (by omega), e]; first | (rw [if_pos h_107]; rfl) | (rw [if_neg (by rw [h_107]; decide)]; rfl)) | (have e := kHM (V := V) (t := t) (f := b) (p := a) (x := 1) (y := 1) (by omega) (by omega); rw [if_neg (by omega), e]; first | (rw [if_pos h_107]; rfl) | (rw [if_neg (by rw [h_107]; decide)]; rfl))
              · rfl
            · refine pw_iload hX rfl dX2_giver_110 (q := 112) rfl ?_
              refine pw_goto hX (tgt := 116) dX2_giver_112 (by decide) ?_
              refine pw_ireturn hX dX2_giver_116 ⟨_, rfl, rfl⟩ ⟨congrArg (fun z => some (Value.int z)) ?_, ?_⟩
              · rw [kGv, if_neg h_28]; first | (exfalso; omega) | (have e := kHM (V := V) (t := t) (f := a) (p := b) (x := 0) (y := 0) (by omega) (by omega); rw [if_pos (by omega), e]; first | (rw [if_pos h_107]; rfl) | (rw [if_neg (by rw [h_107]; decide)]; rfl)) | (have e := kHM (V := V) (t := t) (f := a) (p := b) (x := 0) (y := 1) (by omega) (by omega); rw [if_pos (by omega), e]; first | (rw [if_pos h_107]; rfl) | (rw [if_neg (by rw [h_107]; decide)]; rfl)) | (have e := kHM (V := V) (t := t) (f := a) (p := b) (x := 1) (y := 0) (by omega) (by omega); rw [if_pos (by omega), e]; first | (rw [if_pos h_107]; rfl) | (rw [if_neg (by rw [h_107]; decide)]; rfl)) | (have e := kHM (V := V) (t := t) (f := a) (p := b) (x := 1) (y := 1) (by omega) (by omega); rw [if_pos (by omega), e]; first | (rw [if_pos h_107]; rfl) | (rw [if_neg (by rw [h_107]; decide)]; rfl)) | (have e := kHM (V := V) (t := t) (f := b) (p := a) (x := 0) (y := 0) (by omega) (by omega); rw [if_neg (by omega), e]; first | (rw [if_pos h_107]; rfl) | (rw [if_neg (by rw [h_107]; decide)]; rfl)) | (have e := kHM (V := V) (t := t) (f := b) (p := a) (x := 0) (y := 1) (by omega) (by omega); rw [if_neg (by omega), e]; first | (rw [if_pos h_107]; rfl) | (rw [if_neg (by rw [h_107]; decide)]; rfl)) | (have e := kHM (V := V) (t := t) (f := b) (p := a) (x := 1) (y := 0) (by omega) (by omega); rw [if_neg (by omega), e]; first | (rw [if_pos h_107]; rfl) | (rw [if_neg (by rw [h_107]; decide)]; rfl)) | (have e := kHM (V := V) (t := t) (f := b) (p := a) (x := 1) (y := 1) (by omega) (by omega); rw [if_neg (by omega), e]; first | (rw [if_pos h_107]; rfl) | (rw [if_neg (by rw [h_107]; decide)]; rfl))
              · rfl
        · refine pw_iconst hX (k := 1) rfl (by decide) dX2_giver_87 (q := 88) rfl ?_
          refine pw_goto hX (tgt := 92) dX2_giver_88 (by decide) ?_
          refine pw_iload hX rfl dX2_giver_92 (q := 94) rfl ?_
          refine pw_iload hX rfl dX2_giver_94 (q := 96) rfl ?_
          refine pw_icmpN_le hX (by first | omega | (have h9 := bV84 hV (show 5 ≤ 5 ∧ 5 ≤ 10 by decide) (show a * 12 + t < 84 by omega); omega) | (have h9 := bV84 hV (show 5 ≤ 5 ∧ 5 ≤ 10 by decide) (show b * 12 + t < 84 by omega); omega) | first | omega | exact bV_0 hV | exact bV7 hV (by decide) (by omega) | exact bV84 hV (by decide) (by omega) | exact bV12 hV (by omega) | exact bV_1 hV | exact bV_2 hV) (by first | omega | (have h9 := bV84 hV (show 5 ≤ 5 ∧ 5 ≤ 10 by decide) (show a * 12 + t < 84 by omega); omega) | (have h9 := bV84 hV (show 5 ≤ 5 ∧ 5 ≤ 10 by decide) (show b * 12 + t < 84 by omega); omega) | first | omega | exact bV_0 hV | exact bV7 hV (by decide) (by omega) | exact bV84 hV (by decide) (by omega) | exact bV12 hV (by omega) | exact bV_1 hV | exact bV_2 hV) (tgt := 103) dX2_giver_96 (q := 99) rfl (by decide) (fun h_96 => ?_) (fun h_96 => ?_)
          · refine pw_iconst hX (k := 0) rfl (by decide) dX2_giver_103 (q := 104) rfl ?_
            refine pw_csI3 hX dX2_giver_104 (q := 107) rfl mi_X2_mayBeHanded ml_X2_147 ⟨rfl, rfl, by decide, by decide⟩ rfl (Nat.le_of_ble_eq_true rfl) (c_X2_mayBeHanded (by exact bV84 hV (by decide) (by omega)) (by decide) (by decide)) ?_
            refine pw_ifB_eq hX (tgt := 115) dX2_giver_107 (q := 110) rfl (by decide) (fun h_107 => ?_) (fun h_107 => ?_)
            · refine pw_iconstm hX dX2_giver_115 (q := 116) rfl ?_
              refine pw_ireturn hX dX2_giver_116 ⟨_, rfl, rfl⟩ ⟨congrArg (fun z => some (Value.int z)) ?_, ?_⟩
              · rw [kGv, if_neg h_28]; first | (exfalso; omega) | (have e := kHM (V := V) (t := t) (f := a) (p := b) (x := 0) (y := 0) (by omega) (by omega); rw [if_pos (by omega), e]; first | (rw [if_pos h_107]; rfl) | (rw [if_neg (by rw [h_107]; decide)]; rfl)) | (have e := kHM (V := V) (t := t) (f := a) (p := b) (x := 0) (y := 1) (by omega) (by omega); rw [if_pos (by omega), e]; first | (rw [if_pos h_107]; rfl) | (rw [if_neg (by rw [h_107]; decide)]; rfl)) | (have e := kHM (V := V) (t := t) (f := a) (p := b) (x := 1) (y := 0) (by omega) (by omega); rw [if_pos (by omega), e]; first | (rw [if_pos h_107]; rfl) | (rw [if_neg (by rw [h_107]; decide)]; rfl)) | (have e := kHM (V := V) (t := t) (f := a) (p := b) (x := 1) (y := 1) (by omega) (by omega); rw [if_pos (by omega), e]; first | (rw [if_pos h_107]; rfl) | (rw [if_neg (by rw [h_107]; decide)]; rfl)) | (have e := kHM (V := V) (t := t) (f := b) (p := a) (x := 0) (y := 0) (by omega) (by omega); rw [if_neg (by omega), e]; first | (rw [if_pos h_107]; rfl) | (rw [if_neg (by rw [h_107]; decide)]; rfl)) | (have e := kHM (V := V) (t := t) (f := b) (p := a) (x := 0) (y := 1) (by omega) (by omega); rw [if_neg (by omega), e]; first | (rw [if_pos h_107]; rfl) | (rw [if_neg (by rw [h_107]; decide)]; rfl)) | (have e := kHM (V := V) (t := t) (f := b) (p := a) (x := 1) (y := 0) (by omega) (by omega); rw [if_neg (by omega), e]; first | (rw [if_pos h_107]; rfl) | (rw [if_neg (by rw [h_107]; decide)]; rfl)) | (have e := kHM (V := V) (t := t) (f := b) (p := a) (x := 1) (y := 1) (by omega) (by omega); rw [if_neg (by omega), e]; first | (rw [if_pos h_107]; rfl) | (rw [if_neg (by rw [h_107]; decide)]; rfl))
              · rfl
            · refine pw_iload hX rfl dX2_giver_110 (q := 112) rfl ?_
              refine pw_goto hX (tgt := 116) dX2_giver_112 (by decide) ?_
              refine pw_ireturn hX dX2_giver_116 ⟨_, rfl, rfl⟩ ⟨congrArg (fun z => some (Value.int z)) ?_, ?_⟩
              · rw [kGv, if_neg h_28]; first | (exfalso; omega) | (have e := kHM (V := V) (t := t) (f := a) (p := b) (x := 0) (y := 0) (by omega) (by omega); rw [if_pos (by omega), e]; first | (rw [if_pos h_107]; rfl) | (rw [if_neg (by rw [h_107]; decide)]; rfl)) | (have e := kHM (V := V) (t := t) (f := a) (p := b) (x := 0) (y := 1) (by omega) (by omega); rw [if_pos (by omega), e]; first | (rw [if_pos h_107]; rfl) | (rw [if_neg (by rw [h_107]; decide)]; rfl)) | (have e := kHM (V := V) (t := t) (f := a) (p := b) (x := 1) (y := 0) (by omega) (by omega); rw [if_pos (by omega), e]; first | (rw [if_pos h_107]; rfl) | (rw [if_neg (by rw [h_107]; decide)]; rfl)) | (have e := kHM (V := V) (t := t) (f := a) (p := b) (x := 1) (y := 1) (by omega) (by omega); rw [if_pos (by omega), e]; first | (rw [if_pos h_107]; rfl) | (rw [if_neg (by rw [h_107]; decide)]; rfl)) | (have e := kHM (V := V) (t := t) (f := b) (p := a) (x := 0) (y := 0) (by omega) (by omega); rw [if_neg (by omega), e]; first | (rw [if_pos h_107]; rfl) | (rw [if_neg (by rw [h_107]; decide)]; rfl)) | (have e := kHM (V := V) (t := t) (f := b) (p := a) (x := 0) (y := 1) (by omega) (by omega); rw [if_neg (by omega), e]; first | (rw [if_pos h_107]; rfl) | (rw [if_neg (by rw [h_107]; decide)]; rfl)) | (have e := kHM (V := V) (t := t) (f := b) (p := a) (x := 1) (y := 0) (by omega) (by omega); rw [if_neg (by omega), e]; first | (rw [if_pos h_107]; rfl) | (rw [if_neg (by rw [h_107]; decide)]; rfl)) | (have e := kHM (V := V) (t := t) (f := b) (p := a) (x := 1) (y := 1) (by omega) (by omega); rw [if_neg (by omega), e]; first | (rw [if_pos h_107]; rfl) | (rw [if_neg (by rw [h_107]; decide)]; rfl))
              · rfl
          · refine pw_iconst hX (k := 1) rfl (by decide) dX2_giver_99 (q := 100) rfl ?_
            refine pw_goto hX (tgt := 104) dX2_giver_100 (by decide) ?_
            refine pw_csI3 hX dX2_giver_104 (q := 107) rfl mi_X2_mayBeHanded ml_X2_147 ⟨rfl, rfl, by decide, by decide⟩ rfl (Nat.le_of_ble_eq_true rfl) (c_X2_mayBeHanded (by exact bV84 hV (by decide) (by omega)) (by decide) (by decide)) ?_
            refine pw_ifB_eq hX (tgt := 115) dX2_giver_107 (q := 110) rfl (by decide) (fun h_107 => ?_) (fun h_107 => ?_)
            · refine pw_iconstm hX dX2_giver_115 (q := 116) rfl ?_
              refine pw_ireturn hX dX2_giver_116 ⟨_, rfl, rfl⟩ ⟨congrArg (fun z => some (Value.int z)) ?_, ?_⟩
              · rw [kGv, if_neg h_28]; first | (exfalso; omega) | (have e := kHM (V := V) (t := t) (f := a) (p := b) (x := 0) (y := 0) (by omega) (by omega); rw [if_pos (by omega), e]; first | (rw [if_pos h_107]; rfl) | (rw [if_neg (by rw [h_107]; decide)]; rfl)) | (have e := kHM (V := V) (t := t) (f := a) (p := b) (x := 0) (y := 1) (by omega) (by omega); rw [if_pos (by omega), e]; first | (rw [if_pos h_107]; rfl) | (rw [if_neg (by rw [h_107]; decide)]; rfl)) | (have e := kHM (V := V) (t := t) (f := a) (p := b) (x := 1) (y := 0) (by omega) (by omega); rw [if_pos (by omega), e]; first | (rw [if_pos h_107]; rfl) | (rw [if_neg (by rw [h_107]; decide)]; rfl)) | (have e := kHM (V := V) (t := t) (f := a) (p := b) (x := 1) (y := 1) (by omega) (by omega); rw [if_pos (by omega), e]; first | (rw [if_pos h_107]; rfl) | (rw [if_neg (by rw [h_107]; decide)]; rfl)) | (have e := kHM (V := V) (t := t) (f := b) (p := a) (x := 0) (y := 0) (by omega) (by omega); rw [if_neg (by omega), e]; first | (rw [if_pos h_107]; rfl) | (rw [if_neg (by rw [h_107]; decide)]; rfl)) | (have e := kHM (V := V) (t := t) (f := b) (p := a) (x := 0) (y := 1) (by omega) (by omega); rw [if_neg (by omega), e]; first | (rw [if_pos h_107]; rfl) | (rw [if_neg (by rw [h_107]; decide)]; rfl)) | (have e := kHM (V := V) (t := t) (f := b) (p := a) (x := 1) (y := 0) (by omega) (by omega); rw [if_neg (by omega), e]; first | (rw [if_pos h_107]; rfl) | (rw [if_neg (by rw [h_107]; decide)]; rfl)) | (have e := kHM (V := V) (t := t) (f := b) (p := a) (x := 1) (y := 1) (by omega) (by omega); rw [if_neg (by omega), e]; first | (rw [if_pos h_107]; rfl) | (rw [if_neg (by rw [h_107]; decide)]; rfl))
              · rfl
            · refine pw_iload hX rfl dX2_giver_110 (q := 112) rfl ?_
              refine pw_goto hX (tgt := 116) dX2_giver_112 (by decide) ?_
              refine pw_ireturn hX dX2_giver_116 ⟨_, rfl, rfl⟩ ⟨congrArg (fun z => some (Value.int z)) ?_, ?_⟩
              · rw [kGv, if_neg h_28]; first | (exfalso; omega) | (have e := kHM (V := V) (t := t) (f := a) (p := b) (x := 0) (y := 0) (by omega) (by omega); rw [if_pos (by omega), e]; first | (rw [if_pos h_107]; rfl) | (rw [if_neg (by rw [h_107]; decide)]; rfl)) | (have e := kHM (V := V) (t := t) (f := a) (p := b) (x := 0) (y := 1) (by omega) (by omega); rw [if_pos (by omega), e]; first | (rw [if_pos h_107]; rfl) | (rw [if_neg (by rw [h_107]; decide)]; rfl)) | (have e := kHM (V := V) (t := t) (f := a) (p := b) (x := 1) (y := 0) (by omega) (by omega); rw [if_pos (by omega), e]; first | (rw [if_pos h_107]; rfl) | (rw [if_neg (by rw [h_107]; decide)]; rfl)) | (have e := kHM (V := V) (t := t) (f := a) (p := b) (x := 1) (y := 1) (by omega) (by omega); rw [if_pos (by omega), e]; first | (rw [if_pos h_107]; rfl) | (rw [if_neg (by rw [h_107]; decide)]; rfl)) | (have e := kHM (V := V) (t := t) (f := b) (p := a) (x := 0) (y := 0) (by omega) (by omega); rw [if_neg (by omega), e]; first | (rw [if_pos h_107]; rfl) | (rw [if_neg (by rw [h_107]; decide)]; rfl)) | (have e := kHM (V := V) (t := t) (f := b) (p := a) (x := 0) (y := 1) (by omega) (by omega); rw [if_neg (by omega), e]; first | (rw [if_pos h_107]; rfl) | (rw [if_neg (by rw [h_107]; decide)]; rfl)) | (have e := kHM (V := V) (t := t) (f := b) (p := a) (x := 1) (y := 0) (by omega) (by omega); rw [if_neg (by omega), e]; first | (rw [if_pos h_107]; rfl) | (rw [if_neg (by rw [h_107]; decide)]; rfl)) | (have e := kHM (V := V) (t := t) (f := b) (p := a) (x := 1) (y := 1) (by omega) (by omega); rw [if_neg (by omega), e]; first | (rw [if_pos h_107]; rfl) | (rw [if_neg (by rw [h_107]; decide)]; rfl))
              · rfl
  · refine pw_iconstm hX dX2_giver_31 (q := 32) rfl ?_
    refine pw_ireturn hX dX2_giver_32 ⟨_, rfl, rfl⟩ ⟨congrArg (fun z => some (Value.int z)) ?_, ?_⟩
    · rw [kGv, if_pos h_28]; rfl
    · rfl
end
section
theorem nat_or30 {a b : Nat} (ha : a < 2 ^ 30) (hb : b < 2 ^ 30) : a ||| b < 2 ^ 30 := Nat.or_lt_two_pow ha hb
theorem p2_30 {a : Nat} (h : a < 7) : 2 ^ a < 2 ^ 30 := Nat.pow_lt_pow_right (by decide) (by omega)
theorem bV_H1 {V : Nat → Nat → Nat} (h : bV V) (t f p : Nat) : bV (kH1 V t f p) := by
  unfold kH1
  split
  · exact bV_v4 h _ _
  · exact h
theorem bV_H2 {V : Nat → Nat → Nat} (h : bV V) {f p : Nat} (hf : f < 84) : bV (kH2 V f p) := by
  unfold kH2
  have e := fun k h1 => h.2.1 k f (show 5 ≤ k from (by omega : 5 ≤ k ∧ k ≤ 10 → 5 ≤ k) h1) h1.2 hf
  exact bV_vU (bV_vU (bV_vU (bV_vU (bV_vU h (e 5 (by decide)) (by omega)) (e 6 (by decide)) (by omega)) (e 7 (by decide)) (by omega)) (e 8 (by decide)) (by omega)) (e 9 (by decide)) (by omega)
theorem bV_Hn {V : Nat → Nat → Nat} (h : bV V) {t f : Nat} (p : Nat) (ht : t < 12) (hf : f < 7) : bV (kHn V t f p) := bV_H2 (bV_H1 h _ _ _) (by omega)
theorem kBoth_lt {V : Nat → Nat → Nat} (h : bV V) {a b t : Nat} (ha : a < 7) (hb : b < 7) (ht : t < 12) : kBoth V a b t < 2 ^ 30 := nat_or30 (nat_or30 (nat_or30 (h.2.1 9 _ (by decide) (by decide) (by omega)) (h.2.1 9 _ (by decide) (by decide) (by omega))) (p2_30 ha)) (p2_30 hb)
theorem bV_Sh {V : Nat → Nat → Nat} (h : bV V) {a b t : Nat} (ha : a < 7) (hb : b < 7) (ht : t < 12) : bV (kSh V a b t) := by
  unfold kSh
  split
  · exact bV_vU (bV_vU h (kBoth_lt h ha hb ht) (by omega)) (kBoth_lt h ha hb ht) (by omega)
  · exact h
theorem kGv_ab {V : Nat → Nat → Nat} {a b t e : Nat} (h : kGv V a b t = e + 1) : e = a ∨ e = b := by
  unfold kGv at h
  (repeat' split at h) <;> omega
def kT0 (V : Nat → Nat → Nat) (a b : Nat) : Nat → Nat → Nat := vU (vU V 2 a (mx (V 2 a) (V 2 b))) 2 b (mx (V 2 a) (V 2 b))
def kSt (V : Nat → Nat → Nat) (a b t : Nat) : Nat → Nat → Nat := kSh (if kGv V a b t = 0 then V else kHn V t (kGv V a b t - 1) (if kGv V a b t - 1 = a then b else a)) a b t
def kTt (V : Nat → Nat → Nat) (a b : Nat) : Nat → (Nat → Nat → Nat) × Nat
  | 0 => (kT0 V a b, 0)
  | t + 1 => (kSt (kTt V a b t).1 a b t, (kTt V a b t).2 + if kGv (kTt V a b t).1 a b t = 0 then 0 else 1)
theorem kTt_s (V : Nat → Nat → Nat) (a b t : Nat) : kTt V a b (t + 1) = (kSt (kTt V a b t).1 a b t, (kTt V a b t).2 + if kGv (kTt V a b t).1 a b t = 0 then 0 else 1) := rfl
def kTk (V : Nat → Nat → Nat) (a b : Nat) : (Nat → Nat → Nat) × Nat := kTt V a b 12
theorem bV_St {V : Nat → Nat → Nat} (h : bV V) {a b t : Nat} (ha : a < 7) (hb : b < 7) (ht : t < 12) : bV (kSt V a b t) := by
  unfold kSt
  refine bV_Sh ?_ ha hb ht
  rcases hG : kGv V a b t with _ | e
  · rw [if_pos rfl]; exact h
  · rw [if_neg (by omega), Nat.add_sub_cancel]
    have := kGv_ab hG
    exact bV_Hn h _ ht (by omega)
theorem bV_Tt {V : Nat → Nat → Nat} (h : bV V) {a b : Nat} (ha : a < 7) (hb : b < 7) : ∀ t, t ≤ 12 → bV (kTt V a b t).1
  | 0, _ => bV_vU (bV_vU h (mx_lt (h.1 2 a (by decide) (by decide) ha) (h.1 2 b (by decide) (by decide) hb)) (by omega)) (mx_lt (h.1 2 a (by decide) (by decide) ha) (h.1 2 b (by decide) (by decide) hb)) (by omega)
  | t + 1, ht => by
    rw [kTt_s]
    exact bV_St (bV_Tt h ha hb t (by omega)) ha hb (by omega)
theorem bV_Tk {V : Nat → Nat → Nat} (h : bV V) {a b : Nat} (ha : a < 7) (hb : b < 7) : bV (kTk V a b).1 := bV_Tt h ha hb 12 (Nat.le_refl _)
theorem kTt_n (V : Nat → Nat → Nat) (a b : Nat) : ∀ t, (kTt V a b t).2 ≤ t
  | 0 => Nat.le_refl _
  | t + 1 => by
    have := kTt_n V a b t
    rw [kTt_s]
    show _ + _ ≤ t + 1
    split <;> omega
def kMeet (V : Nat → Nat → Nat) (v u : Int32) : (Nat → Nat → Nat) × Int32 := if kTwo V v u = true then (if V 1 (ix v) = 0 ∧ V 1 (ix u) = 0 then ((kTk V (ix v) (ix u)).1, nI (kTk V (ix v) (ix u)).2) else (V, -1000002)) else (V, -1000001)
theorem kTwo_of {V : Nat → Nat → Nat} {v u : Int32} (h0 : V 0 0 < 2 ^ 31) (h : kTwo V v u = true) : ∃ i j, i < V 0 0 ∧ j < V 0 0 ∧ i ≠ j ∧ v = nI i ∧ u = nI j ∧ hasN (V 0 0) v = true ∧ hasN (V 0 0) u = true := by
  unfold kTwo at h
  simp only [Bool.and_eq_true, decide_eq_true_eq] at h
  obtain ⟨h1, h2, h3⟩ := h
  obtain ⟨i, hi, rfl⟩ := hasN_of h0 h1
  obtain ⟨j, hj, rfl⟩ := hasN_of h0 h2
  exact ⟨i, j, hi, hj, fun z => h3 (by rw [z]), rfl, rfl, h1, h2⟩
def kSl (V : Nat → Nat → Nat) (v : Int32) : (Nat → Nat → Nat) × Int32 := if hasN (V 0 0) v = true then (if V 1 (ix v) = 0 then (vU (vU V 1 (ix v) 1) 3 (ix v) (V 0 1), nI (kMany (vU (vU V 1 (ix v) 1) 3 (ix v) (V 0 1)) 0)) else (V, -1000002)) else (V, -1000001)
def kWk (V : Nat → Nat → Nat) (v : Int32) : (Nat → Nat → Nat) × Int32 := if hasN (V 0 0) v = true then (if V 1 (ix v) = 1 then (vU V 1 (ix v) 0, nI (V 0 1) - nI (V 3 (ix v))) else (V, -1000002)) else (V, -1000001)
def kZ (V : Nat → Nat → Nat) (v n : Nat) : Nat → Nat → Nat := vA V 5 (fun j => if v * 12 ≤ j ∧ j < v * 12 + n then 0 else V 5 j)
theorem kZ_0 (V : Nat → Nat → Nat) (v : Nat) : kZ V v 0 = V := by
  unfold kZ
  rw [show (fun j => if v * 12 ≤ j ∧ j < v * 12 + 0 then 0 else V 5 j) = V 5 from funext fun j => if_neg (by omega), vA_id]
theorem kZ_s (V : Nat → Nat → Nat) (v n : Nat) : vU (kZ V v n) 5 (v * 12 + n) 0 = kZ V v (n + 1) := by
  unfold kZ vU
  rw [vA_vA, vA_s]
  refine congrArg (vA V 5) (funext fun j => ?_)
  unfold upN
  by_cases h : j = v * 12 + n
  · rw [if_pos h, if_pos (by omega)]
  · rw [if_neg h]
    dsimp only
    by_cases h2 : v * 12 ≤ j ∧ j < v * 12 + n
    · rw [if_pos h2, if_pos (by omega)]
    · rw [if_neg h2, if_neg (by omega)]
theorem bV_Z {V : Nat → Nat → Nat} (h : bV V) (v n : Nat) : bV (kZ V v n) := by
  obtain ⟨h1, h2, h3, h4, h5, h6⟩ := h
  refine ⟨fun b j a1 a2 a3 => ?_, fun b j a1 a2 a3 => ?_, h3, h4, h5, h6⟩
  · unfold kZ; rw [vA_n _ _ (by omega)]; exact h1 b j a1 a2 a3
  · unfold kZ
    by_cases hk : b = 5
    · subst hk
      rw [vA_s]
      split
      · decide
      · exact h2 5 j a1 a2 a3
    · rw [vA_n _ _ hk]; exact h2 b j a1 a2 a3
def kGo (V : Nat → Nat → Nat) (v : Nat) : Nat → Nat → Nat := kZ (vU V 1 v 2) v 12
def kLv (V : Nat → Nat → Nat) (v : Int32) : (Nat → Nat → Nat) × Int32 := if hasN (V 0 0) v = true then (if V 1 (ix v) = 2 then (V, -1000002) else (kGo V (ix v), nI (kMany (kGo V (ix v)) 0 + kMany (kGo V (ix v)) 1))) else (V, -1000001)
def kCw (V : Nat → Nat → Nat) (v : Int32) : (Nat → Nat → Nat) × Int32 := if inN 1 60 v = true then (vU V 0 2 (ix v), nI (V 0 2)) else (V, -1000001)
def kAdd (V : Nat → Nat → Nat) : (Nat → Nat → Nat) × Int32 := if V 0 0 < 7 then (vU V 0 0 (V 0 0 + 1), nI (V 0 0)) else (V, -1000003)
def kPres (V : Nat → Nat → Nat) : Nat := bits (fun v => !(decide (V 1 v = 2))) (V 0 0)
abbrev rm_X2_hand : Room := { frames := 1, cells := 0, slots := 0, locals := 21 }
set_option maxHeartbeats 800000 in
set_option maxRecDepth 20000 in
theorem c_X2_hand {l : Launch} {g : Geo} {w : WD} {V : Nat → Nat → Nat} {o : Nat} {t f p : Nat} (ho : o < 7) (hV : bV V) (ht : t < 12) (hf : f < 7) (hp : p < 7) : CtV l g yX2_hand cX2_hand 6 none rm_X2_hand [.ref (g_ad g o 0), .int (nI t), .int (nI f), .int (nI p)] (wO w o V) (wO w o (kHn V t f p)) := by
  refine ct_of mi_X2_hand.2.2.2.2.2 ⟨rfl, rfl⟩ (List.forall_mem_cons.mpr ⟨rfl, List.forall_mem_cons.mpr ⟨rfl, List.forall_mem_cons.mpr ⟨rfl, List.forall_mem_cons.mpr ⟨rfl, fun _ h => absurd h List.not_mem_nil⟩⟩⟩⟩) (Nat.le_of_ble_eq_true rfl) (fun P hX => ?_)
  replace hX : Gd l g RX2 cX2_hand rm_X2_hand 6 none _ _ P := hX
  show P (wO w o V) 0 [some (.ref (g_ad g o 0)), some (.int (nI t)), some (.int (nI f)), some (.int (nI p)), none, none] []
  refine pw_iload_n hX rfl dX2_hand_0 (q := 1) rfl ?_
  refine pw_iload_n hX rfl dX2_hand_1 (q := 2) rfl ?_
  refine pw_cnI2 hX dX2_hand_2 (q := 5) rfl mi_X3_place mn_X2_88 ⟨rfl, rfl, by decide, by decide⟩ rfl (Nat.le_of_ble_eq_true rfl) (c_X3_place) ?_
  refine pw_istore hX (by decide) dX2_hand_5 (q := 7) rfl ?_
  refine pw_iload_n hX rfl dX2_hand_7 (q := 8) rfl ?_
  refine pw_iload_n hX rfl dX2_hand_8 (q := 9) rfl ?_
  refine pw_cnI2 hX dX2_hand_9 (q := 12) rfl mi_X3_place mn_X2_88 ⟨rfl, rfl, by decide, by decide⟩ rfl (Nat.le_of_ble_eq_true rfl) (c_X3_place) ?_
  refine pw_istore hX (by decide) dX2_hand_12 (q := 14) rfl ?_
  refine pw_aload_n hX rfl dX2_hand_14 (q := 15) rfl ?_
  refine pw_iload hX rfl dX2_hand_15 (q := 17) rfl ?_
  refine pw_cvI1 hX dX2_hand_17 (q := 20) rfl mi_X2_isRumor ml_X2_92 (rcV ho) ⟨rfl, rfl, by decide, by decide⟩ rfl (Nat.le_of_ble_eq_true rfl) (c_X2_isRumor ho hV (by omega)) ?_
  refine pw_ifB_eq hX (tgt := 50) dX2_hand_20 (q := 23) rfl (by decide) (fun h_20 => ?_) (fun h_20 => ?_)
  · have e1 : kH1 V t f p = V := if_neg (fun z => by rw [h_20] at z; exact absurd z.1 (by decide))
    refine pw_aload_n hX rfl dX2_hand_50 (q := 51) rfl ?_
    refine pw_getVF hX ho 8 (by decide) fl_X2_37 rfl dX2_hand_51 (q := 54) rfl ?_
    refine pw_iload hX rfl dX2_hand_54 (q := 56) rfl ?_
    refine pw_aload_n hX rfl dX2_hand_56 (q := 57) rfl ?_
    refine pw_getVF hX ho 8 (by decide) fl_X2_37 rfl dX2_hand_57 (q := 60) rfl ?_
    refine pw_iload hX rfl dX2_hand_60 (q := 62) rfl ?_
    refine pw_ialdVF hX ho 5 (by decide) (show _ < 84 by omega) dX2_hand_62 (q := 63) rfl ?_
    refine pw_iastVF hX ho 5 (by decide) (show _ < 84 by omega) dX2_hand_63 (q := 64) rfl ?_
    refine pw_aload_n hX rfl dX2_hand_64 (q := 65) rfl ?_
    refine pw_getVF hX ho 9 (by decide) fl_X2_40 rfl dX2_hand_65 (q := 68) rfl ?_
    refine pw_iload hX rfl dX2_hand_68 (q := 70) rfl ?_
    refine pw_aload_n hX rfl dX2_hand_70 (q := 71) rfl ?_
    refine pw_getVF hX ho 9 (by decide) fl_X2_40 rfl dX2_hand_71 (q := 74) rfl ?_
    refine pw_iload hX rfl dX2_hand_74 (q := 76) rfl ?_
    refine pw_ialdVF hX ho 6 (by decide) (show _ < 84 by omega) dX2_hand_76 (q := 77) rfl ?_
    refine pw_iastVF hX ho 6 (by decide) (show _ < 84 by omega) dX2_hand_77 (q := 78) rfl ?_
    refine pw_aload_n hX rfl dX2_hand_78 (q := 79) rfl ?_
    refine pw_getVF hX ho 10 (by decide) fl_X2_43 rfl dX2_hand_79 (q := 82) rfl ?_
    refine pw_iload hX rfl dX2_hand_82 (q := 84) rfl ?_
    refine pw_aload_n hX rfl dX2_hand_84 (q := 85) rfl ?_
    refine pw_getVF hX ho 10 (by decide) fl_X2_43 rfl dX2_hand_85 (q := 88) rfl ?_
    refine pw_iload hX rfl dX2_hand_88 (q := 90) rfl ?_
    refine pw_ialdVF hX ho 7 (by decide) (show _ < 84 by omega) dX2_hand_90 (q := 91) rfl ?_
    refine pw_iastVF hX ho 7 (by decide) (show _ < 84 by omega) dX2_hand_91 (q := 92) rfl ?_
    refine pw_aload_n hX rfl dX2_hand_92 (q := 93) rfl ?_
    refine pw_getVF hX ho 11 (by decide) fl_X2_46 rfl dX2_hand_93 (q := 96) rfl ?_
    refine pw_iload hX rfl dX2_hand_96 (q := 98) rfl ?_
    refine pw_aload_n hX rfl dX2_hand_98 (q := 99) rfl ?_
    refine pw_getVF hX ho 11 (by decide) fl_X2_46 rfl dX2_hand_99 (q := 102) rfl ?_
    refine pw_iload hX rfl dX2_hand_102 (q := 104) rfl ?_
    refine pw_ialdVF hX ho 8 (by decide) (show _ < 84 by omega) dX2_hand_104 (q := 105) rfl ?_
    refine pw_iastVF hX ho 8 (by decide) (show _ < 84 by omega) dX2_hand_105 (q := 106) rfl ?_
    refine pw_aload_n hX rfl dX2_hand_106 (q := 107) rfl ?_
    refine pw_getVF hX ho 12 (by decide) fl_X2_49 rfl dX2_hand_107 (q := 110) rfl ?_
    refine pw_iload hX rfl dX2_hand_110 (q := 112) rfl ?_
    refine pw_aload_n hX rfl dX2_hand_112 (q := 113) rfl ?_
    refine pw_getVF hX ho 12 (by decide) fl_X2_49 rfl dX2_hand_113 (q := 116) rfl ?_
    refine pw_iload hX rfl dX2_hand_116 (q := 118) rfl ?_
    refine pw_ialdVF hX ho 9 (by decide) (show _ < 84 by omega) dX2_hand_118 (q := 119) rfl ?_
    refine pw_iastVF hX ho 9 (by decide) (show _ < 84 by omega) dX2_hand_119 (q := 120) rfl ?_
    refine pw_return hX dX2_hand_120 rfl ⟨rfl, ?_⟩
    rw [kHn, e1]; rfl
  · refine pw_aload_n hX rfl dX2_hand_23 (q := 24) rfl ?_
    refine pw_getVF hX ho 8 (by decide) fl_X2_37 rfl dX2_hand_24 (q := 27) rfl ?_
    refine pw_iload hX rfl dX2_hand_27 (q := 29) rfl ?_
    refine pw_ialdVF hX ho 5 (by decide) (show _ < 84 by omega) dX2_hand_29 (q := 30) rfl ?_
    refine pw_aload_n hX rfl dX2_hand_30 (q := 31) rfl ?_
    refine pw_getVF hX ho 13 (by decide) fl_X2_52 rfl dX2_hand_31 (q := 34) rfl ?_
    refine pw_iload hX rfl dX2_hand_34 (q := 36) rfl ?_
    refine pw_ialdVF hX ho 10 (by decide) (show _ < 84 by omega) dX2_hand_36 (q := 37) rfl ?_
    refine pw_icmpN_ge hX (by first | omega | exact bV_0 hV | exact bV7 hV (by decide) (by omega) | exact bV84 hV (by decide) (by omega) | exact bV12 hV (by omega) | exact bV_1 hV | exact bV_2 hV) (by first | omega | exact bV_0 hV | exact bV7 hV (by decide) (by omega) | exact bV84 hV (by decide) (by omega) | exact bV12 hV (by omega) | exact bV_1 hV | exact bV_2 hV) (tgt := 50) dX2_hand_37 (q := 40) rfl (by decide) (fun h_37 => ?_) (fun h_37 => ?_)
    · have e1 : kH1 V t f p = V := if_neg (fun z => by have := z.2; omega)
      refine pw_aload_n hX rfl dX2_hand_50 (q := 51) rfl ?_
      refine pw_getVF hX ho 8 (by decide) fl_X2_37 rfl dX2_hand_51 (q := 54) rfl ?_
      refine pw_iload hX rfl dX2_hand_54 (q := 56) rfl ?_
      refine pw_aload_n hX rfl dX2_hand_56 (q := 57) rfl ?_
      refine pw_getVF hX ho 8 (by decide) fl_X2_37 rfl dX2_hand_57 (q := 60) rfl ?_
      refine pw_iload hX rfl dX2_hand_60 (q := 62) rfl ?_
      refine pw_ialdVF hX ho 5 (by decide) (show _ < 84 by omega) dX2_hand_62 (q := 63) rfl ?_
      refine pw_iastVF hX ho 5 (by decide) (show _ < 84 by omega) dX2_hand_63 (q := 64) rfl ?_
      refine pw_aload_n hX rfl dX2_hand_64 (q := 65) rfl ?_
      refine pw_getVF hX ho 9 (by decide) fl_X2_40 rfl dX2_hand_65 (q := 68) rfl ?_
      refine pw_iload hX rfl dX2_hand_68 (q := 70) rfl ?_
      refine pw_aload_n hX rfl dX2_hand_70 (q := 71) rfl ?_
      refine pw_getVF hX ho 9 (by decide) fl_X2_40 rfl dX2_hand_71 (q := 74) rfl ?_
      refine pw_iload hX rfl dX2_hand_74 (q := 76) rfl ?_
      refine pw_ialdVF hX ho 6 (by decide) (show _ < 84 by omega) dX2_hand_76 (q := 77) rfl ?_
      refine pw_iastVF hX ho 6 (by decide) (show _ < 84 by omega) dX2_hand_77 (q := 78) rfl ?_
      refine pw_aload_n hX rfl dX2_hand_78 (q := 79) rfl ?_
      refine pw_getVF hX ho 10 (by decide) fl_X2_43 rfl dX2_hand_79 (q := 82) rfl ?_
      refine pw_iload hX rfl dX2_hand_82 (q := 84) rfl ?_
      refine pw_aload_n hX rfl dX2_hand_84 (q := 85) rfl ?_
      refine pw_getVF hX ho 10 (by decide) fl_X2_43 rfl dX2_hand_85 (q := 88) rfl ?_
      refine pw_iload hX rfl dX2_hand_88 (q := 90) rfl ?_
      refine pw_ialdVF hX ho 7 (by decide) (show _ < 84 by omega) dX2_hand_90 (q := 91) rfl ?_
      refine pw_iastVF hX ho 7 (by decide) (show _ < 84 by omega) dX2_hand_91 (q := 92) rfl ?_
      refine pw_aload_n hX rfl dX2_hand_92 (q := 93) rfl ?_
      refine pw_getVF hX ho 11 (by decide) fl_X2_46 rfl dX2_hand_93 (q := 96) rfl ?_
      refine pw_iload hX rfl dX2_hand_96 (q := 98) rfl ?_
      refine pw_aload_n hX rfl dX2_hand_98 (q := 99) rfl ?_
      refine pw_getVF hX ho 11 (by decide) fl_X2_46 rfl dX2_hand_99 (q := 102) rfl ?_
      refine pw_iload hX rfl dX2_hand_102 (q := 104) rfl ?_
      refine pw_ialdVF hX ho 8 (by decide) (show _ < 84 by omega) dX2_hand_104 (q := 105) rfl ?_
      refine pw_iastVF hX ho 8 (by decide) (show _ < 84 by omega) dX2_hand_105 (q := 106) rfl ?_
      refine pw_aload_n hX rfl dX2_hand_106 (q := 107) rfl ?_
      refine pw_getVF hX ho 12 (by decide) fl_X2_49 rfl dX2_hand_107 (q := 110) rfl ?_
      refine pw_iload hX rfl dX2_hand_110 (q := 112) rfl ?_
      refine pw_aload_n hX rfl dX2_hand_112 (q := 113) rfl ?_
      refine pw_getVF hX ho 12 (by decide) fl_X2_49 rfl dX2_hand_113 (q := 116) rfl ?_
      refine pw_iload hX rfl dX2_hand_116 (q := 118) rfl ?_
      refine pw_ialdVF hX ho 9 (by decide) (show _ < 84 by omega) dX2_hand_118 (q := 119) rfl ?_
      refine pw_iastVF hX ho 9 (by decide) (show _ < 84 by omega) dX2_hand_119 (q := 120) rfl ?_
      refine pw_return hX dX2_hand_120 rfl ⟨rfl, ?_⟩
      rw [kHn, e1]; rfl
    · refine pw_aload_n hX rfl dX2_hand_40 (q := 41) rfl ?_
      refine pw_getVF hX ho 7 (by decide) fl_X2_34 rfl dX2_hand_41 (q := 44) rfl ?_
      refine pw_iload_n hX rfl dX2_hand_44 (q := 45) rfl ?_
      refine pw_dup2 hX rfl rfl dX2_hand_45 (q := 46) rfl ?_
      refine pw_ialdVF hX ho 4 (by decide) (show _ < 7 by omega) dX2_hand_46 (q := 47) rfl ?_
      refine pw_iconst hX (k := 1) rfl (by decide) dX2_hand_47 (q := 48) rfl ?_
      refine pw_iaddN hX dX2_hand_48 (q := 49) rfl ?_
      refine pw_iastVF hX ho 4 (by decide) (show _ < 7 by omega) dX2_hand_49 (q := 50) rfl ?_
      have e1 : kH1 V t f p = vU V 4 p (V 4 p + 1) := if_pos ⟨h_20, h_37⟩
      refine pw_aload_n hX rfl dX2_hand_50 (q := 51) rfl ?_
      refine pw_getVF hX ho 8 (by decide) fl_X2_37 rfl dX2_hand_51 (q := 54) rfl ?_
      refine pw_iload hX rfl dX2_hand_54 (q := 56) rfl ?_
      refine pw_aload_n hX rfl dX2_hand_56 (q := 57) rfl ?_
      refine pw_getVF hX ho 8 (by decide) fl_X2_37 rfl dX2_hand_57 (q := 60) rfl ?_
      refine pw_iload hX rfl dX2_hand_60 (q := 62) rfl ?_
      refine pw_ialdVF hX ho 5 (by decide) (show _ < 84 by omega) dX2_hand_62 (q := 63) rfl ?_
      refine pw_iastVF hX ho 5 (by decide) (show _ < 84 by omega) dX2_hand_63 (q := 64) rfl ?_
      refine pw_aload_n hX rfl dX2_hand_64 (q := 65) rfl ?_
      refine pw_getVF hX ho 9 (by decide) fl_X2_40 rfl dX2_hand_65 (q := 68) rfl ?_
      refine pw_iload hX rfl dX2_hand_68 (q := 70) rfl ?_
      refine pw_aload_n hX rfl dX2_hand_70 (q := 71) rfl ?_
      refine pw_getVF hX ho 9 (by decide) fl_X2_40 rfl dX2_hand_71 (q := 74) rfl ?_
      refine pw_iload hX rfl dX2_hand_74 (q := 76) rfl ?_
      refine pw_ialdVF hX ho 6 (by decide) (show _ < 84 by omega) dX2_hand_76 (q := 77) rfl ?_
      refine pw_iastVF hX ho 6 (by decide) (show _ < 84 by omega) dX2_hand_77 (q := 78) rfl ?_
      refine pw_aload_n hX rfl dX2_hand_78 (q := 79) rfl ?_
      refine pw_getVF hX ho 10 (by decide) fl_X2_43 rfl dX2_hand_79 (q := 82) rfl ?_
      refine pw_iload hX rfl dX2_hand_82 (q := 84) rfl ?_
      refine pw_aload_n hX rfl dX2_hand_84 (q := 85) rfl ?_
      refine pw_getVF hX ho 10 (by decide) fl_X2_43 rfl dX2_hand_85 (q := 88) rfl ?_
      refine pw_iload hX rfl dX2_hand_88 (q := 90) rfl ?_
      refine pw_ialdVF hX ho 7 (by decide) (show _ < 84 by omega) dX2_hand_90 (q := 91) rfl ?_
      refine pw_iastVF hX ho 7 (by decide) (show _ < 84 by omega) dX2_hand_91 (q := 92) rfl ?_
      refine pw_aload_n hX rfl dX2_hand_92 (q := 93) rfl ?_
      refine pw_getVF hX ho 11 (by decide) fl_X2_46 rfl dX2_hand_93 (q := 96) rfl ?_
      refine pw_iload hX rfl dX2_hand_96 (q := 98) rfl ?_
      refine pw_aload_n hX rfl dX2_hand_98 (q := 99) rfl ?_
      refine pw_getVF hX ho 11 (by decide) fl_X2_46 rfl dX2_hand_99 (q := 102) rfl ?_
      refine pw_iload hX rfl dX2_hand_102 (q := 104) rfl ?_
      refine pw_ialdVF hX ho 8 (by decide) (show _ < 84 by omega) dX2_hand_104 (q := 105) rfl ?_
      refine pw_iastVF hX ho 8 (by decide) (show _ < 84 by omega) dX2_hand_105 (q := 106) rfl ?_
      refine pw_aload_n hX rfl dX2_hand_106 (q := 107) rfl ?_
      refine pw_getVF hX ho 12 (by decide) fl_X2_49 rfl dX2_hand_107 (q := 110) rfl ?_
      refine pw_iload hX rfl dX2_hand_110 (q := 112) rfl ?_
      refine pw_aload_n hX rfl dX2_hand_112 (q := 113) rfl ?_
      refine pw_getVF hX ho 12 (by decide) fl_X2_49 rfl dX2_hand_113 (q := 116) rfl ?_
      refine pw_iload hX rfl dX2_hand_116 (q := 118) rfl ?_
      refine pw_ialdVF hX ho 9 (by decide) (show _ < 84 by omega) dX2_hand_118 (q := 119) rfl ?_
      refine pw_iastVF hX ho 9 (by decide) (show _ < 84 by omega) dX2_hand_119 (q := 120) rfl ?_
      refine pw_return hX dX2_hand_120 rfl ⟨rfl, ?_⟩
      rw [kHn, e1]; rfl
abbrev rm_X2_shareSight : Room := { frames := 1, cells := 0, slots := 0, locals := 21 }
set_option maxHeartbeats 800000 in
set_option maxRecDepth 20000 in
theorem c_X2_shareSight {l : Launch} {g : Geo} {w : WD} {V : Nat → Nat → Nat} {o : Nat} {a b t : Nat} (ho : o < 7) (hV : bV V) (ha : a < 7) (hb : b < 7) (ht : t < 12) : CtV l g yX2_shareSight cX2_shareSight 7 none rm_X2_shareSight [.ref (g_ad g o 0), .int (nI a), .int (nI b), .int (nI t)] (wO w o V) (wO w o (kSh V a b t)) := by
  refine ct_of mi_X2_shareSight.2.2.2.2.2 ⟨rfl, rfl⟩ (List.forall_mem_cons.mpr ⟨rfl, List.forall_mem_cons.mpr ⟨rfl, List.forall_mem_cons.mpr ⟨rfl, List.forall_mem_cons.mpr ⟨rfl, fun _ h => absurd h List.not_mem_nil⟩⟩⟩⟩) (Nat.le_of_ble_eq_true rfl) (fun P hX => ?_)
  replace hX : Gd l g RX2 cX2_shareSight rm_X2_shareSight 7 none _ _ P := hX
  show P (wO w o V) 0 [some (.ref (g_ad g o 0)), some (.int (nI a)), some (.int (nI b)), some (.int (nI t)), none, none, none] []
  refine pw_iload_n hX rfl dX2_shareSight_0 (q := 1) rfl ?_
  refine pw_iload_n hX rfl dX2_shareSight_1 (q := 2) rfl ?_
  refine pw_cnI2 hX dX2_shareSight_2 (q := 5) rfl mi_X3_place mn_X2_88 ⟨rfl, rfl, by decide, by decide⟩ rfl (Nat.le_of_ble_eq_true rfl) (c_X3_place) ?_
  refine pw_istore hX (by decide) dX2_shareSight_5 (q := 7) rfl ?_
  refine pw_iload_n hX rfl dX2_shareSight_7 (q := 8) rfl ?_
  refine pw_iload_n hX rfl dX2_shareSight_8 (q := 9) rfl ?_
  refine pw_cnI2 hX dX2_shareSight_9 (q := 12) rfl mi_X3_place mn_X2_88 ⟨rfl, rfl, by decide, by decide⟩ rfl (Nat.le_of_ble_eq_true rfl) (c_X3_place) ?_
  refine pw_istore hX (by decide) dX2_shareSight_12 (q := 14) rfl ?_
  refine pw_aload_n hX rfl dX2_shareSight_14 (q := 15) rfl ?_
  refine pw_iload hX rfl dX2_shareSight_15 (q := 17) rfl ?_
  refine pw_cvI1 hX dX2_shareSight_17 (q := 20) rfl mi_X2_isTomb ml_X2_95 (rcV ho) ⟨rfl, rfl, by decide, by decide⟩ rfl (Nat.le_of_ble_eq_true rfl) (c_X2_isTomb ho hV (by omega)) ?_
  refine pw_ifB_eq hX (tgt := 83) dX2_shareSight_20 (q := 23) rfl (by decide) (fun h_20 => ?_) (fun h_20 => ?_)
  · have e1 : kSh V a b t = V := if_neg (fun z => by rw [h_20] at z; exact absurd z.1 (by decide))
    refine pw_return hX dX2_shareSight_83 rfl ⟨rfl, ?_⟩
    first | (rw [e1]; done) | (rw [e1]; rfl)
  · refine pw_aload_n hX rfl dX2_shareSight_23 (q := 24) rfl ?_
    refine pw_getVF hX ho 8 (by decide) fl_X2_37 rfl dX2_shareSight_24 (q := 27) rfl ?_
    refine pw_iload hX rfl dX2_shareSight_27 (q := 29) rfl ?_
    refine pw_ialdVF hX ho 5 (by decide) (show _ < 84 by omega) dX2_shareSight_29 (q := 30) rfl ?_
    refine pw_aload_n hX rfl dX2_shareSight_30 (q := 31) rfl ?_
    refine pw_getVF hX ho 8 (by decide) fl_X2_37 rfl dX2_shareSight_31 (q := 34) rfl ?_
    refine pw_iload hX rfl dX2_shareSight_34 (q := 36) rfl ?_
    refine pw_ialdVF hX ho 5 (by decide) (show _ < 84 by omega) dX2_shareSight_36 (q := 37) rfl ?_
    refine pw_icmpN_ne hX (by first | omega | exact bV_0 hV | exact bV7 hV (by decide) (by omega) | exact bV84 hV (by decide) (by omega) | exact bV12 hV (by omega) | exact bV_1 hV | exact bV_2 hV) (by first | omega | exact bV_0 hV | exact bV7 hV (by decide) (by omega) | exact bV84 hV (by decide) (by omega) | exact bV12 hV (by omega) | exact bV_1 hV | exact bV_2 hV) (tgt := 83) dX2_shareSight_37 (q := 40) rfl (by decide) (fun h_37 => ?_) (fun h_37 => ?_)
    · have e1 : kSh V a b t = V := if_neg (fun z => h_37 z.2)
      refine pw_return hX dX2_shareSight_83 rfl ⟨rfl, ?_⟩
      first | (rw [e1]; done) | (rw [e1]; rfl)
    · refine pw_aload_n hX rfl dX2_shareSight_40 (q := 41) rfl ?_
      refine pw_getVF hX ho 12 (by decide) fl_X2_49 rfl dX2_shareSight_41 (q := 44) rfl ?_
      refine pw_iload hX rfl dX2_shareSight_44 (q := 46) rfl ?_
      refine pw_ialdVF hX ho 9 (by decide) (show _ < 84 by omega) dX2_shareSight_46 (q := 47) rfl ?_
      refine pw_aload_n hX rfl dX2_shareSight_47 (q := 48) rfl ?_
      refine pw_getVF hX ho 12 (by decide) fl_X2_49 rfl dX2_shareSight_48 (q := 51) rfl ?_
      refine pw_iload hX rfl dX2_shareSight_51 (q := 53) rfl ?_
      refine pw_ialdVF hX ho 9 (by decide) (show _ < 84 by omega) dX2_shareSight_53 (q := 54) rfl ?_
      refine pw_iorN hX dX2_shareSight_54 (q := 55) rfl ?_
      refine pw_iconst hX (k := 1) rfl (by decide) dX2_shareSight_55 (q := 56) rfl ?_
      refine pw_iload_n hX rfl dX2_shareSight_56 (q := 57) rfl ?_
      refine pw_ishl1 hX (by omega) dX2_shareSight_57 (q := 58) rfl ?_
      refine pw_iorN hX dX2_shareSight_58 (q := 59) rfl ?_
      refine pw_iconst hX (k := 1) rfl (by decide) dX2_shareSight_59 (q := 60) rfl ?_
      refine pw_iload_n hX rfl dX2_shareSight_60 (q := 61) rfl ?_
      refine pw_ishl1 hX (by omega) dX2_shareSight_61 (q := 62) rfl ?_
      refine pw_iorN hX dX2_shareSight_62 (q := 63) rfl ?_
      refine pw_istore hX (by decide) dX2_shareSight_63 (q := 65) rfl ?_
      refine pw_aload_n hX rfl dX2_shareSight_65 (q := 66) rfl ?_
      refine pw_getVF hX ho 12 (by decide) fl_X2_49 rfl dX2_shareSight_66 (q := 69) rfl ?_
      refine pw_iload hX rfl dX2_shareSight_69 (q := 71) rfl ?_
      refine pw_iload hX rfl dX2_shareSight_71 (q := 73) rfl ?_
      refine pw_iastVF hX ho 9 (by decide) (show _ < 84 by omega) dX2_shareSight_73 (q := 74) rfl ?_
      refine pw_aload_n hX rfl dX2_shareSight_74 (q := 75) rfl ?_
      refine pw_getVF hX ho 12 (by decide) fl_X2_49 rfl dX2_shareSight_75 (q := 78) rfl ?_
      refine pw_iload hX rfl dX2_shareSight_78 (q := 80) rfl ?_
      refine pw_iload hX rfl dX2_shareSight_80 (q := 82) rfl ?_
      refine pw_iastVF hX ho 9 (by decide) (show _ < 84 by omega) dX2_shareSight_82 (q := 83) rfl ?_
      have e1 : kSh V a b t = vU (vU V 9 (a * 12 + t) (kBoth V a b t)) 9 (b * 12 + t) (kBoth V a b t) := if_pos ⟨h_20, h_37⟩
      refine pw_return hX dX2_shareSight_83 rfl ⟨rfl, ?_⟩
      first | (rw [e1]; done) | (rw [e1]; rfl)
abbrev rm_X2_talk : Room := { frames := 3, cells := 0, slots := 0, locals := 72 }
set_option maxHeartbeats 800000 in
set_option maxRecDepth 20000 in
theorem c_X2_talk {l : Launch} {g : Geo} {w : WD} {V : Nat → Nat → Nat} {o : Nat} {a b : Nat} (ho : o < 7) (hV : bV V) (ha : a < 7) (hb : b < 7) : CtI l g yX2_talk cX2_talk 7 (some .int) rm_X2_talk [.ref (g_ad g o 0), .int (nI a), .int (nI b)] (wO w o V) (nI (kTk V a b).2) (wO w o (kTk V a b).1) := by
  refine ct_of mi_X2_talk.2.2.2.2.2 ⟨rfl, rfl⟩ (List.forall_mem_cons.mpr ⟨rfl, List.forall_mem_cons.mpr ⟨rfl, List.forall_mem_cons.mpr ⟨rfl, fun _ h => absurd h List.not_mem_nil⟩⟩⟩) (Nat.le_of_ble_eq_true rfl) (fun P hX => ?_)
  replace hX : Gd l g RX2 cX2_talk rm_X2_talk 7 (some .int) _ _ P := hX
  show P (wO w o V) 0 [some (.ref (g_ad g o 0)), some (.int (nI a)), some (.int (nI b)), none, none, none, none] []
  refine pw_aload_n hX rfl dX2_talk_0 (q := 1) rfl ?_
  refine pw_getVF hX ho 5 (by decide) fl_X2_28 rfl dX2_talk_1 (q := 4) rfl ?_
  refine pw_iload_n hX rfl dX2_talk_4 (q := 5) rfl ?_
  refine pw_ialdVF hX ho 2 (by decide) (show _ < 7 by omega) dX2_talk_5 (q := 6) rfl ?_
  refine pw_aload_n hX rfl dX2_talk_6 (q := 7) rfl ?_
  refine pw_getVF hX ho 5 (by decide) fl_X2_28 rfl dX2_talk_7 (q := 10) rfl ?_
  refine pw_iload_n hX rfl dX2_talk_10 (q := 11) rfl ?_
  refine pw_ialdVF hX ho 2 (by decide) (show _ < 7 by omega) dX2_talk_11 (q := 12) rfl ?_
  refine pw_max hX dX2_talk_12 (q := 15) rfl ml_X2_123 tw_max_s tw_max_i tw_max_c (by decide) (Nat.le_of_ble_eq_true rfl) ?_
  rw [n_max (bV7 hV (by decide) ha) (bV7 hV (by decide) hb)]
  refine pw_istore_n hX (by decide) dX2_talk_15 (q := 16) rfl ?_
  refine pw_aload_n hX rfl dX2_talk_16 (q := 17) rfl ?_
  refine pw_getVF hX ho 5 (by decide) fl_X2_28 rfl dX2_talk_17 (q := 20) rfl ?_
  refine pw_iload_n hX rfl dX2_talk_20 (q := 21) rfl ?_
  refine pw_iload_n hX rfl dX2_talk_21 (q := 22) rfl ?_
  refine pw_iastVF hX ho 2 (by decide) (show _ < 7 by omega) dX2_talk_22 (q := 23) rfl ?_
  refine pw_aload_n hX rfl dX2_talk_23 (q := 24) rfl ?_
  refine pw_getVF hX ho 5 (by decide) fl_X2_28 rfl dX2_talk_24 (q := 27) rfl ?_
  refine pw_iload_n hX rfl dX2_talk_27 (q := 28) rfl ?_
  refine pw_iload_n hX rfl dX2_talk_28 (q := 29) rfl ?_
  refine pw_iastVF hX ho 2 (by decide) (show _ < 7 by omega) dX2_talk_29 (q := 30) rfl ?_
  refine pw_iconst hX (k := 0) rfl (by decide) dX2_talk_30 (q := 31) rfl ?_
  refine pw_istore hX (by decide) dX2_talk_31 (q := 33) rfl ?_
  refine pw_iconst hX (k := 0) rfl (by decide) dX2_talk_33 (q := 34) rfl ?_
  refine pw_istore hX (by decide) dX2_talk_34 (q := 36) rfl ?_
  suffices L : ∀ t, t ≤ 12 → P (wO w o (kTt V a b t).1) 36 [some (.ref (g_ad g o 0)), some (.int (nI a)), some (.int (nI b)), some (.int (nI (mx (V 2 a) (V 2 b)))), some (.int (nI (kTt V a b t).2)), some (.int (nI t)), none] [] by exact L 0 (Nat.zero_le _)
  refine loopUp (fun t ht ih => ?_)
  have hVt := bV_Tt hV ha hb t ht
  refine pw_iload hX rfl dX2_talk_36 (q := 38) rfl ?_
  refine pw_bipush hX (k := 12) (by decide) dX2_talk_38 (q := 40) rfl ?_
  refine pw_icmpN_ge hX (by first | omega | exact bV_0 hV | exact bV7 hV (by decide) (by omega) | exact bV84 hV (by decide) (by omega) | exact bV12 hV (by omega) | exact bV_1 hV | exact bV_2 hV) (by first | omega | exact bV_0 hV | exact bV7 hV (by decide) (by omega) | exact bV84 hV (by decide) (by omega) | exact bV12 hV (by omega) | exact bV_1 hV | exact bV_2 hV) (tgt := 95) dX2_talk_40 (q := 43) rfl (by decide) (fun h_40 => ?_) (fun h_40 => ?_)
  · refine pw_iload hX rfl dX2_talk_95 (q := 97) rfl ?_
    refine pw_ireturn hX dX2_talk_97 ⟨_, rfl, rfl⟩ ⟨congrArg (fun z => some (Value.int z)) ?_, ?_⟩
    · rw [show t = 12 by omega]; rfl
    · rw [show t = 12 by omega]; rfl
  · refine pw_aload_n hX rfl dX2_talk_43 (q := 44) rfl ?_
    refine pw_iload_n hX rfl dX2_talk_44 (q := 45) rfl ?_
    refine pw_iload_n hX rfl dX2_talk_45 (q := 46) rfl ?_
    refine pw_iload hX rfl dX2_talk_46 (q := 48) rfl ?_
    refine pw_cvI3 hX dX2_talk_48 (q := 51) rfl mi_X2_giver ml_X2_134 (rcV ho) ⟨rfl, rfl, by decide, by decide⟩ rfl (Nat.le_of_ble_eq_true rfl) (c_X2_giver ho hVt ha hb (by omega)) ?_
    refine pw_istore hX (by decide) dX2_talk_51 (q := 53) rfl ?_
    rcases hG : kGv (kTt V a b t).1 a b t with _ | e
    · skip
      refine pw_iload hX rfl dX2_talk_53 (q := 55) rfl ?_
      refine pw_iconstm hX dX2_talk_55 (q := 56) rfl ?_
      refine pw_icmp_eq hX (tgt := 81) dX2_talk_56 (q := 59) rfl (by decide) (fun h_56 => ?_) (fun h_56 => ?_)
      · refine pw_aload_n hX rfl dX2_talk_81 (q := 82) rfl ?_
        refine pw_iload_n hX rfl dX2_talk_82 (q := 83) rfl ?_
        refine pw_iload_n hX rfl dX2_talk_83 (q := 84) rfl ?_
        refine pw_iload hX rfl dX2_talk_84 (q := 86) rfl ?_
        refine pw_cvV3 hX dX2_talk_86 (q := 89) rfl mi_X2_shareSight ml_X2_141 (rcV ho) ⟨rfl, rfl, by decide, by decide⟩ rfl (Nat.le_of_ble_eq_true rfl) (c_X2_shareSight ho hVt ha hb (by omega)) ?_
        refine pw_iinc hX rfl (by decide) (inc1 _) dX2_talk_89 (q := 92) rfl ?_
        refine pw_goto hX (tgt := 36) dX2_talk_92 (by decide) ?_
        refine pw_fg hX (lv' := [some (.ref (g_ad g o 0)), some (.int (nI a)), some (.int (nI b)), some (.int (nI (mx (V 2 a) (V 2 b)))), some (.int (nI ((kTt V a b t).2 + 0))), some (.int (nI (t + 1))), none]) (by repeat first | exact lle_nil | refine lle_cons ?_ | refine lle_none ?_) (pw_eq (congrArg (wO w o) ?_) ?_ rfl (ih (by omega)))
        · rw [kTt_s]; show _ = kSt _ a b t; rw [kSt, hG, if_pos rfl]
        · rw [kTt_s]; dsimp only; rw [hG, if_pos rfl]
      · exact absurd (show bv 0 = -1 by decide) h_56
    · rw [bv_s]
      have hab := kGv_ab hG
      refine pw_iload hX rfl dX2_talk_53 (q := 55) rfl ?_
      refine pw_iconstm hX dX2_talk_55 (q := 56) rfl ?_
      refine pw_icmp_eq hX (tgt := 81) dX2_talk_56 (q := 59) rfl (by decide) (fun h_56 => ?_) (fun h_56 => ?_)
      · exact absurd h_56 (nI_nn (by omega) (by decide))
      · refine pw_aload_n hX rfl dX2_talk_59 (q := 60) rfl ?_
        refine pw_iload hX rfl dX2_talk_60 (q := 62) rfl ?_
        refine pw_iload hX rfl dX2_talk_62 (q := 64) rfl ?_
        refine pw_iload hX rfl dX2_talk_64 (q := 66) rfl ?_
        refine pw_iload_n hX rfl dX2_talk_66 (q := 67) rfl ?_
        refine pw_icmpN_ne hX (by first | omega | exact bV_0 hV | exact bV7 hV (by decide) (by omega) | exact bV84 hV (by decide) (by omega) | exact bV12 hV (by omega) | exact bV_1 hV | exact bV_2 hV) (by first | omega | exact bV_0 hV | exact bV7 hV (by decide) (by omega) | exact bV84 hV (by decide) (by omega) | exact bV12 hV (by omega) | exact bV_1 hV | exact bV_2 hV) (tgt := 74) dX2_talk_67 (q := 70) rfl (by decide) (fun h_67 => ?_) (fun h_67 => ?_)
        · refine pw_iload_n hX rfl dX2_talk_74 (q := 75) rfl ?_
          refine pw_cvV3 hX dX2_talk_75 (q := 78) rfl mi_X2_hand ml_X2_138 (rcV ho) ⟨rfl, rfl, by decide, by decide⟩ rfl (Nat.le_of_ble_eq_true rfl) (c_X2_hand ho hVt (by omega) (by omega) (by omega)) ?_
          refine pw_iinc hX rfl (by decide) (inc1 _) dX2_talk_78 (q := 81) rfl ?_
          refine pw_aload_n hX rfl dX2_talk_81 (q := 82) rfl ?_
          refine pw_iload_n hX rfl dX2_talk_82 (q := 83) rfl ?_
          refine pw_iload_n hX rfl dX2_talk_83 (q := 84) rfl ?_
          refine pw_iload hX rfl dX2_talk_84 (q := 86) rfl ?_
          refine pw_cvV3 hX dX2_talk_86 (q := 89) rfl mi_X2_shareSight ml_X2_141 (rcV ho) ⟨rfl, rfl, by decide, by decide⟩ rfl (Nat.le_of_ble_eq_true rfl) (c_X2_shareSight ho (bV_Hn hVt _ (by omega) (by omega)) ha hb (by omega)) ?_
          refine pw_iinc hX rfl (by decide) (inc1 _) dX2_talk_89 (q := 92) rfl ?_
          refine pw_goto hX (tgt := 36) dX2_talk_92 (by decide) ?_
          refine pw_fg hX (lv' := [some (.ref (g_ad g o 0)), some (.int (nI a)), some (.int (nI b)), some (.int (nI (mx (V 2 a) (V 2 b)))), some (.int (nI ((kTt V a b t).2 + 1))), some (.int (nI (t + 1))), none]) (by repeat first | exact lle_nil | refine lle_cons ?_ | refine lle_none ?_) (pw_eq (congrArg (wO w o) ?_) ?_ rfl (ih (by omega)))
          · rw [kTt_s]; show _ = kSt _ a b t; rw [kSt, hG, if_neg (by omega), Nat.add_sub_cancel, if_neg h_67]
          · rw [kTt_s]; dsimp only; rw [hG, if_neg (by omega)]
        · refine pw_iload_n hX rfl dX2_talk_70 (q := 71) rfl ?_
          refine pw_goto hX (tgt := 75) dX2_talk_71 (by decide) ?_
          refine pw_cvV3 hX dX2_talk_75 (q := 78) rfl mi_X2_hand ml_X2_138 (rcV ho) ⟨rfl, rfl, by decide, by decide⟩ rfl (Nat.le_of_ble_eq_true rfl) (c_X2_hand ho hVt (by omega) (by omega) (by omega)) ?_
          refine pw_iinc hX rfl (by decide) (inc1 _) dX2_talk_78 (q := 81) rfl ?_
          refine pw_aload_n hX rfl dX2_talk_81 (q := 82) rfl ?_
          refine pw_iload_n hX rfl dX2_talk_82 (q := 83) rfl ?_
          refine pw_iload_n hX rfl dX2_talk_83 (q := 84) rfl ?_
          refine pw_iload hX rfl dX2_talk_84 (q := 86) rfl ?_
          refine pw_cvV3 hX dX2_talk_86 (q := 89) rfl mi_X2_shareSight ml_X2_141 (rcV ho) ⟨rfl, rfl, by decide, by decide⟩ rfl (Nat.le_of_ble_eq_true rfl) (c_X2_shareSight ho (bV_Hn hVt _ (by omega) (by omega)) ha hb (by omega)) ?_
          refine pw_iinc hX rfl (by decide) (inc1 _) dX2_talk_89 (q := 92) rfl ?_
          refine pw_goto hX (tgt := 36) dX2_talk_92 (by decide) ?_
          refine pw_fg hX (lv' := [some (.ref (g_ad g o 0)), some (.int (nI a)), some (.int (nI b)), some (.int (nI (mx (V 2 a) (V 2 b)))), some (.int (nI ((kTt V a b t).2 + 1))), some (.int (nI (t + 1))), none]) (by repeat first | exact lle_nil | refine lle_cons ?_ | refine lle_none ?_) (pw_eq (congrArg (wO w o) ?_) ?_ rfl (ih (by omega)))
          · rw [kTt_s]; show _ = kSt _ a b t; rw [kSt, hG, if_neg (by omega), Nat.add_sub_cancel, if_pos h_67]
          · rw [kTt_s]; dsimp only; rw [hG, if_neg (by omega)]
abbrev rm_X2_bringTogether : Room := { frames := 4, cells := 0, slots := 0, locals := 98 }
set_option maxHeartbeats 800000 in
set_option maxRecDepth 20000 in
theorem c_X2_bringTogether {l : Launch} {g : Geo} {w : WD} {V : Nat → Nat → Nat} {o : Nat} {v u : Int32} (ho : o < 7) (hV : bV V) : CtI l g yX2_bringTogether cX2_bringTogether 3 (some .int) rm_X2_bringTogether [.ref (g_ad g o 0), .int v, .int u] (wO w o V) ((kMeet V v u).2) (wO w o (kMeet V v u).1) := by
  refine ct_of mi_X2_bringTogether.2.2.2.2.2 ⟨rfl, rfl⟩ (List.forall_mem_cons.mpr ⟨rfl, List.forall_mem_cons.mpr ⟨rfl, List.forall_mem_cons.mpr ⟨rfl, fun _ h => absurd h List.not_mem_nil⟩⟩⟩) (Nat.le_of_ble_eq_true rfl) (fun P hX => ?_)
  replace hX : Gd l g RX2 cX2_bringTogether rm_X2_bringTogether 3 (some .int) _ _ P := hX
  show P (wO w o V) 0 [some (.ref (g_ad g o 0)), some (.int v), some (.int u)] []
  refine pw_aload_n hX rfl dX2_bringTogether_0 (q := 1) rfl ?_
  refine pw_iload_n hX rfl dX2_bringTogether_1 (q := 2) rfl ?_
  refine pw_iload_n hX rfl dX2_bringTogether_2 (q := 3) rfl ?_
  refine pw_cvI2 hX dX2_bringTogether_3 (q := 6) rfl mi_X2_areTwo ml_X2_128 (rcV ho) ⟨rfl, rfl, by decide, by decide⟩ rfl (Nat.le_of_ble_eq_true rfl) (c_X2_areTwo (by first | assumption | omega) (by first | assumption | omega)) ?_
  refine pw_ifB_ne hX (tgt := 12) dX2_bringTogether_6 (q := 9) rfl (by decide) (fun h_6 => ?_) (fun h_6 => ?_)
  · obtain ⟨i, j, hi, hj, hij, rfl, rfl, k1, k2⟩ := kTwo_of (bV_0 hV) h_6
    have h7 := hV.2.2.2.1
    have hx : ix (nI i) = i := ix_nI (by omega)
    have hxj : ix (nI j) = j := ix_nI (by omega)
    refine pw_aload_n hX rfl dX2_bringTogether_12 (q := 13) rfl ?_
    refine pw_iload_n hX rfl dX2_bringTogether_13 (q := 14) rfl ?_
    refine pw_cvI1 hX dX2_bringTogether_14 (q := 17) rfl mi_X2_isAwake ml_X2_74 (rcV ho) ⟨rfl, rfl, by decide, by decide⟩ rfl (Nat.le_of_ble_eq_true rfl) (c_X2_isAwake (by first | assumption | omega) (by first | assumption | omega)) ?_
    rw [kAw_n k1 hx]
    refine pw_ifB_eq hX (tgt := 28) dX2_bringTogether_17 (q := 20) rfl (by decide) (fun h_17 => ?_) (fun h_17 => ?_)
    · have h_17 := of_decide_eq_false h_17
      refine pw_ldc hX cn_X2_77 dX2_bringTogether_28 (q := 30) rfl ?_
      refine pw_ireturn hX dX2_bringTogether_30 ⟨_, rfl, rfl⟩ ⟨congrArg (fun z => some (Value.int z)) ?_, ?_⟩
      · rw [kMeet, if_pos h_6, hx, hxj, if_neg (show ¬ (V 1 i = 0 ∧ V 1 j = 0) by omega)]
      · rw [kMeet, if_pos h_6, hx, hxj, if_neg (show ¬ (V 1 i = 0 ∧ V 1 j = 0) by omega)]
    · have h_17 := of_decide_eq_true h_17
      refine pw_aload_n hX rfl dX2_bringTogether_20 (q := 21) rfl ?_
      refine pw_iload_n hX rfl dX2_bringTogether_21 (q := 22) rfl ?_
      refine pw_cvI1 hX dX2_bringTogether_22 (q := 25) rfl mi_X2_isAwake ml_X2_74 (rcV ho) ⟨rfl, rfl, by decide, by decide⟩ rfl (Nat.le_of_ble_eq_true rfl) (c_X2_isAwake (by first | assumption | omega) (by first | assumption | omega)) ?_
      rw [kAw_n k2 hxj]
      refine pw_ifB_ne hX (tgt := 31) dX2_bringTogether_25 (q := 28) rfl (by decide) (fun h_25 => ?_) (fun h_25 => ?_)
      · have h_25 := of_decide_eq_true h_25
        refine pw_aload_n hX rfl dX2_bringTogether_31 (q := 32) rfl ?_
        refine pw_iload_n hX rfl dX2_bringTogether_32 (q := 33) rfl ?_
        refine pw_iload_n hX rfl dX2_bringTogether_33 (q := 34) rfl ?_
        refine pw_cvI2 hX dX2_bringTogether_34 (q := 37) rfl mi_X2_talk ml_X2_131 (rcV ho) ⟨rfl, rfl, by decide, by decide⟩ rfl (Nat.le_of_ble_eq_true rfl) (c_X2_talk ho hV (by omega) (by omega)) ?_
        refine pw_ireturn hX dX2_bringTogether_37 ⟨_, rfl, rfl⟩ ⟨congrArg (fun z => some (Value.int z)) ?_, ?_⟩
        · rw [kMeet, if_pos h_6, hx, hxj, if_pos (show V 1 i = 0 ∧ V 1 j = 0 by omega)]
        · rw [kMeet, if_pos h_6, hx, hxj, if_pos (show V 1 i = 0 ∧ V 1 j = 0 by omega)]
      · have h_25 := of_decide_eq_false h_25
        refine pw_ldc hX cn_X2_77 dX2_bringTogether_28 (q := 30) rfl ?_
        refine pw_ireturn hX dX2_bringTogether_30 ⟨_, rfl, rfl⟩ ⟨congrArg (fun z => some (Value.int z)) ?_, ?_⟩
        · rw [kMeet, if_pos h_6, hx, hxj, if_neg (show ¬ (V 1 i = 0 ∧ V 1 j = 0) by omega)]
        · rw [kMeet, if_pos h_6, hx, hxj, if_neg (show ¬ (V 1 i = 0 ∧ V 1 j = 0) by omega)]
  · refine pw_ldc hX cn_X2_73 dX2_bringTogether_9 (q := 11) rfl ?_
    refine pw_ireturn hX dX2_bringTogether_11 ⟨_, rfl, rfl⟩ ⟨congrArg (fun z => some (Value.int z)) ?_, ?_⟩
    · rw [kMeet, if_neg (by rw [h_6]; decide)]
    · rw [kMeet, if_neg (by rw [h_6]; decide)]
abbrev rm_X2_fallAsleep : Room := { frames := 2, cells := 0, slots := 0, locals := 42 }
set_option maxHeartbeats 800000 in
set_option maxRecDepth 20000 in
theorem c_X2_fallAsleep {l : Launch} {g : Geo} {w : WD} {V : Nat → Nat → Nat} {o : Nat} {v : Int32} (ho : o < 7) (hV : bV V) : CtI l g yX2_fallAsleep cX2_fallAsleep 2 (some .int) rm_X2_fallAsleep [.ref (g_ad g o 0), .int v] (wO w o V) ((kSl V v).2) (wO w o (kSl V v).1) := by
  refine ct_of mi_X2_fallAsleep.2.2.2.2.2 ⟨rfl, rfl⟩ (List.forall_mem_cons.mpr ⟨rfl, List.forall_mem_cons.mpr ⟨rfl, fun _ h => absurd h List.not_mem_nil⟩⟩) (Nat.le_of_ble_eq_true rfl) (fun P hX => ?_)
  replace hX : Gd l g RX2 cX2_fallAsleep rm_X2_fallAsleep 2 (some .int) _ _ P := hX
  show P (wO w o V) 0 [some (.ref (g_ad g o 0)), some (.int v)] []
  refine pw_aload_n hX rfl dX2_fallAsleep_0 (q := 1) rfl ?_
  refine pw_iload_n hX rfl dX2_fallAsleep_1 (q := 2) rfl ?_
  refine pw_cvI1 hX dX2_fallAsleep_2 (q := 5) rfl mi_X2_has ml_X2_68 (rcV ho) ⟨rfl, rfl, by decide, by decide⟩ rfl (Nat.le_of_ble_eq_true rfl) (c_X2_has (by first | assumption | omega) (by first | assumption | omega)) ?_
  refine pw_ifB_ne hX (tgt := 11) dX2_fallAsleep_5 (q := 8) rfl (by decide) (fun h_5 => ?_) (fun h_5 => ?_)
  · obtain ⟨i, hi, rfl⟩ := hasN_of (bV_0 hV) h_5
    have hx : ix (nI i) = i := ix_nI (by have := hV.2.2.2.1; omega)
    have h7 := hV.2.2.2.1
    refine pw_aload_n hX rfl dX2_fallAsleep_11 (q := 12) rfl ?_
    refine pw_iload_n hX rfl dX2_fallAsleep_12 (q := 13) rfl ?_
    refine pw_cvI1 hX dX2_fallAsleep_13 (q := 16) rfl mi_X2_isAwake ml_X2_74 (rcV ho) ⟨rfl, rfl, by decide, by decide⟩ rfl (Nat.le_of_ble_eq_true rfl) (c_X2_isAwake (by first | assumption | omega) (by first | assumption | omega)) ?_
    rw [kAw_n h_5 hx]
    refine pw_ifB_ne hX (tgt := 22) dX2_fallAsleep_16 (q := 19) rfl (by decide) (fun h_16 => ?_) (fun h_16 => ?_)
    · have h_16 := of_decide_eq_true h_16
      refine pw_aload_n hX rfl dX2_fallAsleep_22 (q := 23) rfl ?_
      refine pw_getVF hX ho 4 (by decide) fl_X2_24 rfl dX2_fallAsleep_23 (q := 26) rfl ?_
      refine pw_iload_n hX rfl dX2_fallAsleep_26 (q := 27) rfl ?_
      refine pw_iconst hX (k := 1) rfl (by decide) dX2_fallAsleep_27 (q := 28) rfl ?_
      refine pw_iastVF hX ho 1 (by decide) (show _ < 7 by omega) dX2_fallAsleep_28 (q := 29) rfl ?_
      refine pw_aload_n hX rfl dX2_fallAsleep_29 (q := 30) rfl ?_
      refine pw_getVF hX ho 6 (by decide) fl_X2_31 rfl dX2_fallAsleep_30 (q := 33) rfl ?_
      refine pw_iload_n hX rfl dX2_fallAsleep_33 (q := 34) rfl ?_
      refine pw_aload_n hX rfl dX2_fallAsleep_34 (q := 35) rfl ?_
      refine pw_getVF hX ho 1 (by decide) fl_X2_15 rfl dX2_fallAsleep_35 (q := 38) rfl ?_
      rw [show vU V 1 i 1 0 1 = V 0 1 from rfl]
      refine pw_iastVF hX ho 3 (by decide) (show _ < 7 by omega) dX2_fallAsleep_38 (q := 39) rfl ?_
      refine pw_aload_n hX rfl dX2_fallAsleep_39 (q := 40) rfl ?_
      refine pw_iconst hX (k := 0) rfl (by decide) dX2_fallAsleep_40 (q := 41) rfl ?_
      refine pw_cvI1 hX dX2_fallAsleep_41 (q := 44) rfl mi_X2_howMany ml_X2_78 (rcV ho) ⟨rfl, rfl, by decide, by decide⟩ rfl (Nat.le_of_ble_eq_true rfl) (c_X2_howMany ho (bV_vU (bV_vU hV (by decide) (by omega)) hV.2.2.2.2.1 (by omega)) (by decide)) ?_
      refine pw_ireturn hX dX2_fallAsleep_44 ⟨_, rfl, rfl⟩ ⟨congrArg (fun z => some (Value.int z)) ?_, ?_⟩
      · rw [kSl, if_pos h_5, hx, if_pos h_16]
      · rw [kSl, if_pos h_5, hx, if_pos h_16]
    · have h_16 := of_decide_eq_false h_16
      refine pw_ldc hX cn_X2_77 dX2_fallAsleep_19 (q := 21) rfl ?_
      refine pw_ireturn hX dX2_fallAsleep_21 ⟨_, rfl, rfl⟩ ⟨congrArg (fun z => some (Value.int z)) ?_, ?_⟩
      · rw [kSl, if_pos h_5, hx, if_neg h_16]
      · rw [kSl, if_pos h_5, hx, if_neg h_16]
  · refine pw_ldc hX cn_X2_73 dX2_fallAsleep_8 (q := 10) rfl ?_
    refine pw_ireturn hX dX2_fallAsleep_10 ⟨_, rfl, rfl⟩ ⟨congrArg (fun z => some (Value.int z)) ?_, ?_⟩
    · rw [kSl, if_neg (by rw [h_5]; decide)]
    · rw [kSl, if_neg (by rw [h_5]; decide)]
abbrev rm_X2_wakeUp : Room := { frames := 2, cells := 0, slots := 0, locals := 42 }
set_option maxHeartbeats 800000 in
set_option maxRecDepth 20000 in
theorem c_X2_wakeUp {l : Launch} {g : Geo} {w : WD} {V : Nat → Nat → Nat} {o : Nat} {v : Int32} (ho : o < 7) (hV : bV V) : CtI l g yX2_wakeUp cX2_wakeUp 2 (some .int) rm_X2_wakeUp [.ref (g_ad g o 0), .int v] (wO w o V) ((kWk V v).2) (wO w o (kWk V v).1) := by
  refine ct_of mi_X2_wakeUp.2.2.2.2.2 ⟨rfl, rfl⟩ (List.forall_mem_cons.mpr ⟨rfl, List.forall_mem_cons.mpr ⟨rfl, fun _ h => absurd h List.not_mem_nil⟩⟩) (Nat.le_of_ble_eq_true rfl) (fun P hX => ?_)
  replace hX : Gd l g RX2 cX2_wakeUp rm_X2_wakeUp 2 (some .int) _ _ P := hX
  show P (wO w o V) 0 [some (.ref (g_ad g o 0)), some (.int v)] []
  refine pw_aload_n hX rfl dX2_wakeUp_0 (q := 1) rfl ?_
  refine pw_iload_n hX rfl dX2_wakeUp_1 (q := 2) rfl ?_
  refine pw_cvI1 hX dX2_wakeUp_2 (q := 5) rfl mi_X2_has ml_X2_68 (rcV ho) ⟨rfl, rfl, by decide, by decide⟩ rfl (Nat.le_of_ble_eq_true rfl) (c_X2_has (by first | assumption | omega) (by first | assumption | omega)) ?_
  refine pw_ifB_ne hX (tgt := 11) dX2_wakeUp_5 (q := 8) rfl (by decide) (fun h_5 => ?_) (fun h_5 => ?_)
  · obtain ⟨i, hi, rfl⟩ := hasN_of (bV_0 hV) h_5
    have hx : ix (nI i) = i := ix_nI (by have := hV.2.2.2.1; omega)
    have h7 := hV.2.2.2.1
    refine pw_aload_n hX rfl dX2_wakeUp_11 (q := 12) rfl ?_
    refine pw_iload_n hX rfl dX2_wakeUp_12 (q := 13) rfl ?_
    refine pw_cvI1 hX dX2_wakeUp_13 (q := 16) rfl mi_X2_isAsleep ml_X2_82 (rcV ho) ⟨rfl, rfl, by decide, by decide⟩ rfl (Nat.le_of_ble_eq_true rfl) (c_X2_isAsleep (by first | assumption | omega) (by first | assumption | omega)) ?_
    rw [kAs_n h_5 hx]
    refine pw_ifB_ne hX (tgt := 22) dX2_wakeUp_16 (q := 19) rfl (by decide) (fun h_16 => ?_) (fun h_16 => ?_)
    · have h_16 := of_decide_eq_true h_16
      refine pw_aload_n hX rfl dX2_wakeUp_22 (q := 23) rfl ?_
      refine pw_getVF hX ho 4 (by decide) fl_X2_24 rfl dX2_wakeUp_23 (q := 26) rfl ?_
      refine pw_iload_n hX rfl dX2_wakeUp_26 (q := 27) rfl ?_
      refine pw_iconst hX (k := 0) rfl (by decide) dX2_wakeUp_27 (q := 28) rfl ?_
      refine pw_iastVF hX ho 1 (by decide) (show _ < 7 by omega) dX2_wakeUp_28 (q := 29) rfl ?_
      refine pw_aload_n hX rfl dX2_wakeUp_29 (q := 30) rfl ?_
      refine pw_iload_n hX rfl dX2_wakeUp_30 (q := 31) rfl ?_
      refine pw_cvI1 hX dX2_wakeUp_31 (q := 34) rfl mi_X2_ticksAsleep ml_X2_85 (rcV ho) ⟨rfl, rfl, by decide, by decide⟩ rfl (Nat.le_of_ble_eq_true rfl) (c_X2_ticksAsleep ho (by omega)) ?_
      refine pw_ireturn hX dX2_wakeUp_34 ⟨_, rfl, rfl⟩ ⟨congrArg (fun z => some (Value.int z)) ?_, ?_⟩
      · rw [kWk, if_pos h_5, hx, if_pos h_16]; rfl
      · rw [kWk, if_pos h_5, hx, if_pos h_16]
    · have h_16 := of_decide_eq_false h_16
      refine pw_ldc hX cn_X2_77 dX2_wakeUp_19 (q := 21) rfl ?_
      refine pw_ireturn hX dX2_wakeUp_21 ⟨_, rfl, rfl⟩ ⟨congrArg (fun z => some (Value.int z)) ?_, ?_⟩
      · rw [kWk, if_pos h_5, hx, if_neg h_16]
      · rw [kWk, if_pos h_5, hx, if_neg h_16]
  · refine pw_ldc hX cn_X2_73 dX2_wakeUp_8 (q := 10) rfl ?_
    refine pw_ireturn hX dX2_wakeUp_10 ⟨_, rfl, rfl⟩ ⟨congrArg (fun z => some (Value.int z)) ?_, ?_⟩
    · rw [kWk, if_neg (by rw [h_5]; decide)]
    · rw [kWk, if_neg (by rw [h_5]; decide)]
abbrev rm_X2_addVillager : Room := { frames := 0, cells := 0, slots := 0, locals := 0 }
set_option maxHeartbeats 800000 in
set_option maxRecDepth 20000 in
theorem c_X2_addVillager {l : Launch} {g : Geo} {w : WD} {V : Nat → Nat → Nat} {o : Nat} (ho : o < 7) (hV : bV V) : CtI l g yX2_addVillager cX2_addVillager 1 (some .int) rm_X2_addVillager [.ref (g_ad g o 0)] (wO w o V) ((kAdd V).2) (wO w o (kAdd V).1) := by
  refine ct_of mi_X2_addVillager.2.2.2.2.2 ⟨rfl, rfl⟩ (List.forall_mem_cons.mpr ⟨rfl, fun _ h => absurd h List.not_mem_nil⟩) (Nat.le_of_ble_eq_true rfl) (fun P hX => ?_)
  replace hX : Gd l g RX2 cX2_addVillager rm_X2_addVillager 1 (some .int) _ _ P := hX
  show P (wO w o V) 0 [some (.ref (g_ad g o 0))] []
  refine pw_aload_n hX rfl dX2_addVillager_0 (q := 1) rfl ?_
  refine pw_getVF hX ho 0 (by decide) fl_X2_9 rfl dX2_addVillager_1 (q := 4) rfl ?_
  refine pw_bipush hX (k := 7) (by decide) dX2_addVillager_4 (q := 6) rfl ?_
  refine pw_icmpN_lt hX (by first | omega | exact bV_0 hV | exact bV7 hV (by decide) (by omega) | exact bV84 hV (by decide) (by omega) | exact bV12 hV (by omega) | exact bV_1 hV | exact bV_2 hV) (by first | omega | exact bV_0 hV | exact bV7 hV (by decide) (by omega) | exact bV84 hV (by decide) (by omega) | exact bV12 hV (by omega) | exact bV_1 hV | exact bV_2 hV) (tgt := 12) dX2_addVillager_6 (q := 9) rfl (by decide) (fun h_6 => ?_) (fun h_6 => ?_)
  · refine pw_aload_n hX rfl dX2_addVillager_12 (q := 13) rfl ?_
    refine pw_dup hX rfl dX2_addVillager_13 (q := 14) rfl ?_
    refine pw_getVF hX ho 0 (by decide) fl_X2_9 rfl dX2_addVillager_14 (q := 17) rfl ?_
    refine pw_iconst hX (k := 1) rfl (by decide) dX2_addVillager_17 (q := 18) rfl ?_
    refine pw_iaddN hX dX2_addVillager_18 (q := 19) rfl ?_
    refine pw_putVF hX ho 0 (by decide) fl_X2_9 dX2_addVillager_19 (q := 22) rfl ?_
    refine pw_aload_n hX rfl dX2_addVillager_22 (q := 23) rfl ?_
    refine pw_getVF hX ho 0 (by decide) fl_X2_9 rfl dX2_addVillager_23 (q := 26) rfl ?_
    rw [show vU V 0 0 (V 0 0 + 1) 0 0 = upN (V 0) 0 (V 0 0 + 1) 0 from rfl, upN_s]
    refine pw_iconst hX (k := 1) rfl (by decide) dX2_addVillager_26 (q := 27) rfl ?_
    refine pw_isubN hX (by first | assumption | omega) dX2_addVillager_27 (q := 28) rfl ?_
    refine pw_ireturn hX dX2_addVillager_28 ⟨_, rfl, rfl⟩ ⟨congrArg (fun z => some (Value.int z)) ?_, ?_⟩
    · rw [kAdd, if_pos h_6]; rfl
    · rw [kAdd, if_pos h_6]
  · refine pw_ldc hX cn_X2_72 dX2_addVillager_9 (q := 11) rfl ?_
    refine pw_ireturn hX dX2_addVillager_11 ⟨_, rfl, rfl⟩ ⟨congrArg (fun z => some (Value.int z)) ?_, ?_⟩
    · rw [kAdd, if_neg (by omega)]
    · rw [kAdd, if_neg (by omega)]
abbrev rm_X2_changeWatch : Room := { frames := 0, cells := 0, slots := 0, locals := 0 }
set_option maxHeartbeats 800000 in
set_option maxRecDepth 20000 in
theorem c_X2_changeWatch {l : Launch} {g : Geo} {w : WD} {V : Nat → Nat → Nat} {o : Nat} {v : Int32} (ho : o < 7) : CtI l g yX2_changeWatch cX2_changeWatch 3 (some .int) rm_X2_changeWatch [.ref (g_ad g o 0), .int v] (wO w o V) ((kCw V v).2) (wO w o (kCw V v).1) := by
  refine ct_of mi_X2_changeWatch.2.2.2.2.2 ⟨rfl, rfl⟩ (List.forall_mem_cons.mpr ⟨rfl, List.forall_mem_cons.mpr ⟨rfl, fun _ h => absurd h List.not_mem_nil⟩⟩) (Nat.le_of_ble_eq_true rfl) (fun P hX => ?_)
  replace hX : Gd l g RX2 cX2_changeWatch rm_X2_changeWatch 3 (some .int) _ _ P := hX
  show P (wO w o V) 0 [some (.ref (g_ad g o 0)), some (.int v), none] []
  refine pw_iload_n hX rfl dX2_changeWatch_0 (q := 1) rfl ?_
  refine pw_iconst hX (k := 1) rfl (by decide) dX2_changeWatch_1 (q := 2) rfl ?_
  refine pw_icmp_lt hX (tgt := 11) dX2_changeWatch_2 (q := 5) rfl (by decide) (fun h_2 => ?_) (fun h_2 => ?_)
  · have hz : inN 1 60 v = false := inN_lo (by decide) h_2
    refine pw_ldc hX cn_X2_73 dX2_changeWatch_11 (q := 13) rfl ?_
    refine pw_ireturn hX dX2_changeWatch_13 ⟨_, rfl, rfl⟩ ⟨congrArg (fun z => some (Value.int z)) ?_, ?_⟩
    · rw [kCw, if_neg (by rw [hz]; decide)]
    · rw [kCw, if_neg (by rw [hz]; decide)]
  · refine pw_iload_n hX rfl dX2_changeWatch_5 (q := 6) rfl ?_
    refine pw_bipush hX (k := 60) (by decide) dX2_changeWatch_6 (q := 8) rfl ?_
    refine pw_icmp_le hX (tgt := 14) dX2_changeWatch_8 (q := 11) rfl (by decide) (fun h_8 => ?_) (fun h_8 => ?_)
    · have hc := inN_ok (lo := 1) (hi := 60) (by decide) (by decide) h_2 (Int32.not_lt.mpr h_8)
      obtain ⟨x, hx1, hx2, rfl⟩ := inN_of (by decide) hc
      have hxx : ix (nI x) = x := ix_nI (by omega)
      refine pw_aload_n hX rfl dX2_changeWatch_14 (q := 15) rfl ?_
      refine pw_getVF hX ho 2 (by decide) fl_X2_18 rfl dX2_changeWatch_15 (q := 18) rfl ?_
      refine pw_istore_n hX (by decide) dX2_changeWatch_18 (q := 19) rfl ?_
      refine pw_aload_n hX rfl dX2_changeWatch_19 (q := 20) rfl ?_
      refine pw_iload_n hX rfl dX2_changeWatch_20 (q := 21) rfl ?_
      refine pw_putVF hX ho 2 (by decide) fl_X2_18 dX2_changeWatch_21 (q := 24) rfl ?_
      refine pw_iload_n hX rfl dX2_changeWatch_24 (q := 25) rfl ?_
      refine pw_ireturn hX dX2_changeWatch_25 ⟨_, rfl, rfl⟩ ⟨congrArg (fun z => some (Value.int z)) ?_, ?_⟩
      · rw [kCw, if_pos hc]
      · rw [kCw, if_pos hc, hxx]
    · have hz : inN 1 60 v = false := inN_hi (by decide) (Int32.not_le.mp h_8)
      refine pw_ldc hX cn_X2_73 dX2_changeWatch_11 (q := 13) rfl ?_
      refine pw_ireturn hX dX2_changeWatch_13 ⟨_, rfl, rfl⟩ ⟨congrArg (fun z => some (Value.int z)) ?_, ?_⟩
      · rw [kCw, if_neg (by rw [hz]; decide)]
      · rw [kCw, if_neg (by rw [hz]; decide)]
abbrev rm_X2_goAway : Room := { frames := 1, cells := 0, slots := 0, locals := 23 }
set_option maxHeartbeats 800000 in
set_option maxRecDepth 20000 in
theorem c_X2_goAway {l : Launch} {g : Geo} {w : WD} {V : Nat → Nat → Nat} {o : Nat} {v : Int32} (ho : o < 7) (hV : bV V) : CtI l g yX2_goAway cX2_goAway 3 (some .int) rm_X2_goAway [.ref (g_ad g o 0), .int v] (wO w o V) ((kLv V v).2) (wO w o (kLv V v).1) := by
  refine ct_of mi_X2_goAway.2.2.2.2.2 ⟨rfl, rfl⟩ (List.forall_mem_cons.mpr ⟨rfl, List.forall_mem_cons.mpr ⟨rfl, fun _ h => absurd h List.not_mem_nil⟩⟩) (Nat.le_of_ble_eq_true rfl) (fun P hX => ?_)
  replace hX : Gd l g RX2 cX2_goAway rm_X2_goAway 3 (some .int) _ _ P := hX
  show P (wO w o V) 0 [some (.ref (g_ad g o 0)), some (.int v), none] []
  refine pw_aload_n hX rfl dX2_goAway_0 (q := 1) rfl ?_
  refine pw_iload_n hX rfl dX2_goAway_1 (q := 2) rfl ?_
  refine pw_cvI1 hX dX2_goAway_2 (q := 5) rfl mi_X2_has ml_X2_68 (rcV ho) ⟨rfl, rfl, by decide, by decide⟩ rfl (Nat.le_of_ble_eq_true rfl) (c_X2_has (by first | assumption | omega) (by first | assumption | omega)) ?_
  refine pw_ifB_ne hX (tgt := 11) dX2_goAway_5 (q := 8) rfl (by decide) (fun h_5 => ?_) (fun h_5 => ?_)
  · obtain ⟨i, hi, rfl⟩ := hasN_of (bV_0 hV) h_5
    have hx : ix (nI i) = i := ix_nI (by have := hV.2.2.2.1; omega)
    have h7 := hV.2.2.2.1
    refine pw_aload_n hX rfl dX2_goAway_11 (q := 12) rfl ?_
    refine pw_getVF hX ho 4 (by decide) fl_X2_24 rfl dX2_goAway_12 (q := 15) rfl ?_
    refine pw_iload_n hX rfl dX2_goAway_15 (q := 16) rfl ?_
    refine pw_ialdVF hX ho 1 (by decide) (show _ < 7 by omega) dX2_goAway_16 (q := 17) rfl ?_
    refine pw_iconst hX (k := 2) rfl (by decide) dX2_goAway_17 (q := 18) rfl ?_
    refine pw_icmpN_ne hX (by first | omega | exact bV_0 hV | exact bV7 hV (by decide) (by omega) | exact bV84 hV (by decide) (by omega) | exact bV12 hV (by omega) | exact bV_1 hV | exact bV_2 hV) (by first | omega | exact bV_0 hV | exact bV7 hV (by decide) (by omega) | exact bV84 hV (by decide) (by omega) | exact bV12 hV (by omega) | exact bV_1 hV | exact bV_2 hV) (tgt := 24) dX2_goAway_18 (q := 21) rfl (by decide) (fun h_18 => ?_) (fun h_18 => ?_)
    · refine pw_aload_n hX rfl dX2_goAway_24 (q := 25) rfl ?_
      refine pw_getVF hX ho 4 (by decide) fl_X2_24 rfl dX2_goAway_25 (q := 28) rfl ?_
      refine pw_iload_n hX rfl dX2_goAway_28 (q := 29) rfl ?_
      refine pw_iconst hX (k := 2) rfl (by decide) dX2_goAway_29 (q := 30) rfl ?_
      refine pw_iastVF hX ho 1 (by decide) (show _ < 7 by omega) dX2_goAway_30 (q := 31) rfl ?_
      refine pw_iconst hX (k := 0) rfl (by decide) dX2_goAway_31 (q := 32) rfl ?_
      refine pw_istore_n hX (by decide) dX2_goAway_32 (q := 33) rfl ?_
      suffices L : ∀ t, t ≤ 12 → P (wO w o (kZ (vU V 1 i 2) i t)) 33 [some (.ref (g_ad g o 0)), some (.int (nI i)), some (.int (nI t))] [] by have h9 := L 0 (Nat.zero_le _); rw [kZ_0] at h9; exact h9
      refine loopUp (fun t ht ih => ?_)
      refine pw_iload_n hX rfl dX2_goAway_33 (q := 34) rfl ?_
      refine pw_bipush hX (k := 12) (by decide) dX2_goAway_34 (q := 36) rfl ?_
      refine pw_icmpN_ge hX (by first | omega | exact bV_0 hV | exact bV7 hV (by decide) (by omega) | exact bV84 hV (by decide) (by omega) | exact bV12 hV (by omega) | exact bV_1 hV | exact bV_2 hV) (by first | omega | exact bV_0 hV | exact bV7 hV (by decide) (by omega) | exact bV84 hV (by decide) (by omega) | exact bV12 hV (by omega) | exact bV_1 hV | exact bV_2 hV) (tgt := 56) dX2_goAway_36 (q := 39) rfl (by decide) (fun h_36 => ?_) (fun h_36 => ?_)
      · have e4 : t = 12 := by omega
        subst e4
        have hVz := bV_Z (bV_vU hV (show 2 < 2 ^ 30 by decide) (show ¬ (1 = 0 ∧ i = 0) by omega)) i 12
        refine pw_aload_n hX rfl dX2_goAway_56 (q := 57) rfl ?_
        refine pw_iconst hX (k := 0) rfl (by decide) dX2_goAway_57 (q := 58) rfl ?_
        refine pw_cvI1 hX dX2_goAway_58 (q := 61) rfl mi_X2_howMany ml_X2_78 (rcV ho) ⟨rfl, rfl, by decide, by decide⟩ rfl (Nat.le_of_ble_eq_true rfl) (c_X2_howMany ho hVz (by decide)) ?_
        refine pw_aload_n hX rfl dX2_goAway_61 (q := 62) rfl ?_
        refine pw_iconst hX (k := 1) rfl (by decide) dX2_goAway_62 (q := 63) rfl ?_
        refine pw_cvI1 hX dX2_goAway_63 (q := 66) rfl mi_X2_howMany ml_X2_78 (rcV ho) ⟨rfl, rfl, by decide, by decide⟩ rfl (Nat.le_of_ble_eq_true rfl) (c_X2_howMany ho hVz (by decide)) ?_
        refine pw_iaddN hX dX2_goAway_66 (q := 67) rfl ?_
        refine pw_ireturn hX dX2_goAway_67 ⟨_, rfl, rfl⟩ ⟨congrArg (fun z => some (Value.int z)) ?_, ?_⟩
        · rw [kLv, if_pos h_5, hx, if_neg h_18]; rfl
        · rw [kLv, if_pos h_5, hx, if_neg h_18]; rfl
      · refine pw_aload_n hX rfl dX2_goAway_39 (q := 40) rfl ?_
        refine pw_getVF hX ho 8 (by decide) fl_X2_37 rfl dX2_goAway_40 (q := 43) rfl ?_
        refine pw_iload_n hX rfl dX2_goAway_43 (q := 44) rfl ?_
        refine pw_iload_n hX rfl dX2_goAway_44 (q := 45) rfl ?_
        refine pw_cnI2 hX dX2_goAway_45 (q := 48) rfl mi_X3_place mn_X2_88 ⟨rfl, rfl, by decide, by decide⟩ rfl (Nat.le_of_ble_eq_true rfl) (c_X3_place) ?_
        refine pw_iconst hX (k := 0) rfl (by decide) dX2_goAway_48 (q := 49) rfl ?_
        refine pw_iastVF hX ho 5 (by decide) (show _ < 84 by omega) dX2_goAway_49 (q := 50) rfl ?_
        refine pw_iinc hX rfl (by decide) (inc1 _) dX2_goAway_50 (q := 53) rfl ?_
        refine pw_goto hX (tgt := 33) dX2_goAway_53 (by decide) ?_
        exact pw_eq (congrArg (wO w o) (kZ_s _ _ _)) rfl rfl (ih (by omega))
    · refine pw_ldc hX cn_X2_77 dX2_goAway_21 (q := 23) rfl ?_
      refine pw_ireturn hX dX2_goAway_23 ⟨_, rfl, rfl⟩ ⟨congrArg (fun z => some (Value.int z)) ?_, ?_⟩
      · rw [kLv, if_pos h_5, hx, if_pos h_18]
      · rw [kLv, if_pos h_5, hx, if_pos h_18]
  · refine pw_ldc hX cn_X2_73 dX2_goAway_8 (q := 10) rfl ?_
    refine pw_ireturn hX dX2_goAway_10 ⟨_, rfl, rfl⟩ ⟨congrArg (fun z => some (Value.int z)) ?_, ?_⟩
    · rw [kLv, if_neg (by rw [h_5]; decide)]
    · rw [kLv, if_neg (by rw [h_5]; decide)]
abbrev rm_X2_present : Room := { frames := 0, cells := 0, slots := 0, locals := 0 }
set_option maxHeartbeats 800000 in
set_option maxRecDepth 20000 in
theorem c_X2_present {l : Launch} {g : Geo} {w : WD} {V : Nat → Nat → Nat} {o : Nat} (ho : o < 7) (hV : bV V) : CtI l g yX2_present cX2_present 3 (some .int) rm_X2_present [.ref (g_ad g o 0)] (wO w o V) (nI (kPres V)) (wO w o V) := by
  refine ct_of mi_X2_present.2.2.2.2.2 ⟨rfl, rfl⟩ (List.forall_mem_cons.mpr ⟨rfl, fun _ h => absurd h List.not_mem_nil⟩) (Nat.le_of_ble_eq_true rfl) (fun P hX => ?_)
  replace hX : Gd l g RX2 cX2_present rm_X2_present 3 (some .int) _ _ P := hX
  show P (wO w o V) 0 [some (.ref (g_ad g o 0)), none, none] []
  have h7 := hV.2.2.2.1
  refine pw_iconst hX (k := 0) rfl (by decide) dX2_present_0 (q := 1) rfl ?_
  refine pw_istore_n hX (by decide) dX2_present_1 (q := 2) rfl ?_
  refine pw_iconst hX (k := 0) rfl (by decide) dX2_present_2 (q := 3) rfl ?_
  refine pw_istore_n hX (by decide) dX2_present_3 (q := 4) rfl ?_
  suffices L : ∀ v, v ≤ V 0 0 → P (wO w o V) 4 [some (.ref (g_ad g o 0)), some (.int (nI (bits (fun v => !(decide (V 1 v = 2))) v))), some (.int (nI v))] [] by exact L 0 (Nat.zero_le _)
  refine loopUp (fun v hv ih => ?_)
  refine pw_iload_n hX rfl dX2_present_4 (q := 5) rfl ?_
  refine pw_aload_n hX rfl dX2_present_5 (q := 6) rfl ?_
  refine pw_getVF hX ho 0 (by decide) fl_X2_9 rfl dX2_present_6 (q := 9) rfl ?_
  refine pw_icmpN_ge hX (by first | omega | exact bV_0 hV | exact bV7 hV (by decide) (by omega) | exact bV84 hV (by decide) (by omega) | exact bV12 hV (by omega) | exact bV_1 hV | exact bV_2 hV) (by first | omega | exact bV_0 hV | exact bV7 hV (by decide) (by omega) | exact bV84 hV (by decide) (by omega) | exact bV12 hV (by omega) | exact bV_1 hV | exact bV_2 hV) (tgt := 34) dX2_present_9 (q := 12) rfl (by decide) (fun h_9 => ?_) (fun h_9 => ?_)
  · refine pw_iload_n hX rfl dX2_present_34 (q := 35) rfl ?_
    refine pw_ireturn hX dX2_present_35 ⟨_, rfl, rfl⟩ ⟨congrArg (fun z => some (Value.int z)) ?_, ?_⟩
    · rw [show v = V 0 0 by omega]; rfl
    · rfl
  · refine pw_aload_n hX rfl dX2_present_12 (q := 13) rfl ?_
    refine pw_getVF hX ho 4 (by decide) fl_X2_24 rfl dX2_present_13 (q := 16) rfl ?_
    refine pw_iload_n hX rfl dX2_present_16 (q := 17) rfl ?_
    refine pw_ialdVF hX ho 1 (by decide) (show _ < 7 by omega) dX2_present_17 (q := 18) rfl ?_
    refine pw_iconst hX (k := 2) rfl (by decide) dX2_present_18 (q := 19) rfl ?_
    refine pw_icmpN_eq hX (by first | omega | exact bV_0 hV | exact bV7 hV (by decide) (by omega) | exact bV84 hV (by decide) (by omega) | exact bV12 hV (by omega) | exact bV_1 hV | exact bV_2 hV) (by first | omega | exact bV_0 hV | exact bV7 hV (by decide) (by omega) | exact bV84 hV (by decide) (by omega) | exact bV12 hV (by omega) | exact bV_1 hV | exact bV_2 hV) (tgt := 28) dX2_present_19 (q := 22) rfl (by decide) (fun h_19 => ?_) (fun h_19 => ?_)
    · refine pw_iinc hX rfl (by decide) (inc1 _) dX2_present_28 (q := 31) rfl ?_
      refine pw_goto hX (tgt := 4) dX2_present_31 (by decide) ?_
      exact pw_eq rfl (by simp_all [lst, bits]) rfl (ih (by omega))
    · refine pw_iload_n hX rfl dX2_present_22 (q := 23) rfl ?_
      refine pw_iconst hX (k := 1) rfl (by decide) dX2_present_23 (q := 24) rfl ?_
      refine pw_iload_n hX rfl dX2_present_24 (q := 25) rfl ?_
      refine pw_ishl1 hX (by omega) dX2_present_25 (q := 26) rfl ?_
      refine pw_iorN hX dX2_present_26 (q := 27) rfl ?_
      refine pw_istore_n hX (by decide) dX2_present_27 (q := 28) rfl ?_
      refine pw_iinc hX rfl (by decide) (inc1 _) dX2_present_28 (q := 31) rfl ?_
      refine pw_goto hX (tgt := 4) dX2_present_31 (by decide) ?_
      exact pw_eq rfl (by simp_all [lst, bits]) rfl (ih (by omega))
end
section
theorem n_andnot {a s : Nat} (ha : a < 2 ^ 31) : nI a &&& (nI s ^^^ (-1)) = 0 ↔ s &&& a = a := by
  have e32 : a < 2 ^ 32 := by omega
  constructor
  · intro h
    have hb : (BitVec.ofNat 32 a &&& (BitVec.ofNat 32 s ^^^ BitVec.allOnes 32)) = 0#32 := congrArg Int32.toBitVec h
    apply Nat.eq_of_testBit_eq
    intro i
    rw [Nat.testBit_and]
    by_cases hi : i < 32
    · have h3 := congrArg (fun b => b.getLsbD i) hb
      simp only [BitVec.getLsbD_and, BitVec.getLsbD_xor, BitVec.getLsbD_ofNat, BitVec.getLsbD_allOnes, BitVec.getLsbD_zero, Nat.zero_testBit, hi, decide_true, Bool.true_and] at h3
      cases h5 : a.testBit i <;> cases h6 : s.testBit i <;> rw [h5, h6] at h3 <;> revert h3 <;> decide
    · rw [Nat.testBit_lt_two_pow (Nat.lt_of_lt_of_le e32 (Nat.pow_le_pow_right (by decide) (by omega))), Bool.and_false]
  · intro h
    apply Int32.toBitVec_inj.mp
    show (BitVec.ofNat 32 a &&& (BitVec.ofNat 32 s ^^^ BitVec.allOnes 32)) = 0#32
    apply BitVec.eq_of_getLsbD_eq
    intro i hi
    have h3 : (s.testBit i && a.testBit i) = a.testBit i := by rw [← Nat.testBit_and, h]
    simp only [BitVec.getLsbD_and, BitVec.getLsbD_xor, BitVec.getLsbD_ofNat, BitVec.getLsbD_allOnes, BitVec.getLsbD_zero, Nat.zero_testBit, hi, decide_true, Bool.true_and]
    cases h5 : a.testBit i <;> cases h6 : s.testBit i <;> rw [h5, h6] at h3 <;> revert h3 <;> decide
def kOver (V : Nat → Nat → Nat) (p a : Nat) : Bool := decide (V 9 p &&& a = a ∨ V 0 2 ≤ V 0 1 - V 8 p)
def bP (V : Nat → Nat → Nat) : Prop := bV V ∧ ∀ p, p < 84 → V 8 p ≤ V 0 1
def kPb (V : Nat → Nat → Nat) (p a : Nat) : Bool := kTmb V p && kOver V p a
def kPs (V : Nat → Nat → Nat) (p a : Nat) : Nat → Nat → Nat := if kPb V p a = true then vU (vU V 10 p (mx (V 10 p) (V 5 p))) 5 p 0 else V
def kPt (V : Nat → Nat → Nat) (v a : Nat) : Nat → (Nat → Nat → Nat) × Nat
  | 0 => (V, 0)
  | t + 1 => (kPs (kPt V v a t).1 (v * 12 + t) a, (kPt V v a t).2 + if kPb (kPt V v a t).1 (v * 12 + t) a = true then 1 else 0)
theorem kPt_s (V : Nat → Nat → Nat) (v a t : Nat) : kPt V v a (t + 1) = (kPs (kPt V v a t).1 (v * 12 + t) a, (kPt V v a t).2 + if kPb (kPt V v a t).1 (v * 12 + t) a = true then 1 else 0) := rfl
def kPr (V : Nat → Nat → Nat) (v a : Nat) : (Nat → Nat → Nat) × Nat := kPt V v a 12
def kPv (V : Nat → Nat → Nat) (a : Nat) : Nat → (Nat → Nat → Nat) × Nat
  | 0 => (V, 0)
  | v + 1 => ((kPr (kPv V a v).1 v a).1, (kPv V a v).2 + (kPr (kPv V a v).1 v a).2)
theorem kPv_s (V : Nat → Nat → Nat) (a v : Nat) : kPv V a (v + 1) = ((kPr (kPv V a v).1 v a).1, (kPv V a v).2 + (kPr (kPv V a v).1 v a).2) := rfl
theorem kPs_0 (V : Nat → Nat → Nat) (p a : Nat) : kPs V p a 0 = V 0 ∧ kPs V p a 8 = V 8 := by
  unfold kPs
  split
  · exact ⟨rfl, rfl⟩
  · exact ⟨rfl, rfl⟩
theorem bP_Ps {V : Nat → Nat → Nat} (h : bP V) {p : Nat} (a : Nat) (hp : p < 84) : bP (kPs V p a) := by
  refine ⟨?_, fun q hq => by rw [(kPs_0 V p a).1, (kPs_0 V p a).2]; exact h.2 q hq⟩
  unfold kPs
  split
  · exact bV_vU (bV_vU h.1 (mx_lt (h.1.2.1 10 p (by decide) (by decide) hp) (h.1.2.1 5 p (by decide) (by decide) hp)) (by omega)) (by decide) (by omega)
  · exact h.1
theorem bP_Pt {V : Nat → Nat → Nat} (h : bP V) {v a : Nat} (hv : v < 7) : ∀ t, t ≤ 12 → bP (kPt V v a t).1 ∧ (kPt V v a t).1 0 = V 0
  | 0, _ => ⟨h, rfl⟩
  | t + 1, ht => by
    have h1 := bP_Pt h (a := a) hv t (by omega)
    rw [kPt_s]
    exact ⟨bP_Ps h1.1 a (by omega), (kPs_0 _ _ _).1.trans h1.2⟩
theorem bP_Pr {V : Nat → Nat → Nat} (h : bP V) {v a : Nat} (hv : v < 7) : bP (kPr V v a).1 ∧ (kPr V v a).1 0 = V 0 := by
  unfold kPr
  exact bP_Pt h hv 12 (Nat.le_refl _)
theorem bP_Pv {V : Nat → Nat → Nat} (h : bP V) {a : Nat} : ∀ v, v ≤ 7 → bP (kPv V a v).1 ∧ (kPv V a v).1 0 = V 0
  | 0, _ => ⟨h, rfl⟩
  | v + 1, hv => by
    have h1 := bP_Pv h (a := a) v (by omega)
    rw [kPv_s]
    have h2 := bP_Pr h1.1 (a := a) (v := v) (by omega)
    dsimp only
    exact ⟨h2.1, h2.2.trans h1.2⟩
def kPass (V : Nat → Nat → Nat) (k : Nat) : (Nat → Nat → Nat) × Nat := kPv (vU V 0 1 (V 0 1 + k)) (kPres (vU V 0 1 (V 0 1 + k))) (V 0 0)
def kTick (V : Nat → Nat → Nat) (v : Int32) : (Nat → Nat → Nat) × Int32 := if inN 1 60 v = true then (if 100000 < V 0 1 + ix v then (V, -1000003) else ((kPass V (ix v)).1, nI (kPass V (ix v)).2)) else (V, -1000001)
theorem bP_t {V : Nat → Nat → Nat} (h : bP V) {k : Nat} (hk : V 0 1 + k < 2 ^ 30) : bP (vU V 0 1 (V 0 1 + k)) := by
  refine ⟨bV_vU h.1 hk (by omega), fun p hp => ?_⟩
  show V 8 p ≤ upN (V 0) 1 (V 0 1 + k) 1
  rw [upN_s]
  have := h.2 p hp
  omega
theorem cnt_congr {p q : Nat → Bool} : ∀ n, (∀ i, i < n → p i = q i) → cnt p n = cnt q n
  | 0, _ => rfl
  | n + 1, h => by rw [cnt_s, cnt_s, cnt_congr n (fun i hi => h i (by omega)), h n (by omega)]
theorem bits_tb (p : Nat → Bool) : ∀ n i, (bits p n).testBit i = (decide (i < n) && p i)
  | 0, i => by rw [decide_eq_false (by omega)]; exact Nat.zero_testBit i
  | n + 1, i => by
    rw [bits_s, Nat.testBit_or, bits_tb p n i]
    by_cases h : i = n
    · subst h
      rw [decide_eq_false (Nat.lt_irrefl i), decide_eq_true (Nat.lt_succ_self i)]
      cases hp : p i
      · rw [if_neg (by decide), Nat.zero_testBit]; rfl
      · rw [if_pos rfl, Nat.testBit_two_pow_self]; rfl
    · have e : (if p n = true then 2 ^ n else 0).testBit i = false := by
        split
        · exact Nat.testBit_two_pow_of_ne (fun z => h z.symm)
        · exact Nat.zero_testBit i
      rw [e, Bool.or_false]
      by_cases h2 : i < n
      · rw [decide_eq_true h2, decide_eq_true (show i < n + 1 by omega)]
      · rw [decide_eq_false h2, decide_eq_false (show ¬ i < n + 1 by omega)]
def popc (n : Nat) : Nat := cnt (fun i => n.testBit i) 12
theorem popc_bits (p : Nat → Bool) : popc (bits p 12) = cnt p 12 := cnt_congr 12 (fun i hi => by rw [bits_tb, decide_eq_true hi, Bool.true_and])
theorem mx_r {a b : Nat} (h : a < b) : mx a b = b := if_pos h
theorem mx_l {a b : Nat} (h : ¬ a < b) : mx a b = a := if_neg h
abbrev rm_X2_isOver : Room := { frames := 0, cells := 0, slots := 0, locals := 0 }
set_option maxHeartbeats 800000 in
set_option maxRecDepth 20000 in
theorem c_X2_isOver {l : Launch} {g : Geo} {w : WD} {V : Nat → Nat → Nat} {o : Nat} {p a : Nat} (ho : o < 7) (hV : bV V) (hp : p < 84) (ha : a < 2 ^ 31) (hm : V 8 p ≤ V 0 1) : CtI l g yX2_isOver cX2_isOver 3 (some .boolean) rm_X2_isOver [.ref (g_ad g o 0), .int (nI p), .int (nI a)] (wO w o V) (bI (kOver V p a)) (wO w o V) := by
  refine ct_of mi_X2_isOver.2.2.2.2.2 ⟨rfl, rfl⟩ (List.forall_mem_cons.mpr ⟨rfl, List.forall_mem_cons.mpr ⟨rfl, List.forall_mem_cons.mpr ⟨rfl, fun _ h => absurd h List.not_mem_nil⟩⟩⟩) (Nat.le_of_ble_eq_true rfl) (fun P hX => ?_)
  replace hX : Gd l g RX2 cX2_isOver rm_X2_isOver 3 (some .boolean) _ _ P := hX
  show P (wO w o V) 0 [some (.ref (g_ad g o 0)), some (.int (nI p)), some (.int (nI a))] []
  refine pw_iload_n hX rfl dX2_isOver_0 (q := 1) rfl ?_
  refine pw_aload_n hX rfl dX2_isOver_1 (q := 2) rfl ?_
  refine pw_getVF hX ho 12 (by decide) fl_X2_49 rfl dX2_isOver_2 (q := 5) rfl ?_
  refine pw_iload_n hX rfl dX2_isOver_5 (q := 6) rfl ?_
  refine pw_ialdVF hX ho 9 (by decide) (show _ < 84 by omega) dX2_isOver_6 (q := 7) rfl ?_
  refine pw_iconstm hX dX2_isOver_7 (q := 8) rfl ?_
  refine pw_ixor hX dX2_isOver_8 (q := 9) rfl ?_
  refine pw_iand hX dX2_isOver_9 (q := 10) rfl ?_
  refine pw_if_eq hX (tgt := 31) dX2_isOver_10 (q := 13) rfl (by decide) (fun h_10 => ?_) (fun h_10 => ?_)
  · rw [n_andnot ha] at h_10
    refine pw_iconst hX (k := 1) rfl (by decide) dX2_isOver_31 (q := 32) rfl ?_
    refine pw_goto hX (tgt := 36) dX2_isOver_32 (by decide) ?_
    refine pw_ireturn hX dX2_isOver_36 ⟨_, rfl, by first | exact bI_nar _ | decide | rfl⟩ ⟨congrArg (fun z => some (Value.int z)) ?_, ?_⟩
    · first | (rw [show kOver V p a = true from decide_eq_true (Or.inl h_10)]; rfl) | (rw [show kOver V p a = true from decide_eq_true (Or.inr h_28)]; rfl) | (rw [show kOver V p a = false from decide_eq_false (fun z => z.elim h_10 (by omega))]; rfl)
    · rfl
  · rw [n_andnot ha] at h_10
    refine pw_aload_n hX rfl dX2_isOver_13 (q := 14) rfl ?_
    refine pw_getVF hX ho 1 (by decide) fl_X2_15 rfl dX2_isOver_14 (q := 17) rfl ?_
    refine pw_aload_n hX rfl dX2_isOver_17 (q := 18) rfl ?_
    refine pw_getVF hX ho 11 (by decide) fl_X2_46 rfl dX2_isOver_18 (q := 21) rfl ?_
    refine pw_iload_n hX rfl dX2_isOver_21 (q := 22) rfl ?_
    refine pw_ialdVF hX ho 8 (by decide) (show _ < 84 by omega) dX2_isOver_22 (q := 23) rfl ?_
    refine pw_isubN hX (by first | assumption | omega) dX2_isOver_23 (q := 24) rfl ?_
    refine pw_aload_n hX rfl dX2_isOver_24 (q := 25) rfl ?_
    refine pw_getVF hX ho 2 (by decide) fl_X2_18 rfl dX2_isOver_25 (q := 28) rfl ?_
    refine pw_icmpN_lt hX (by first | omega | exact bV_0 hV | exact bV7 hV (by decide) (by omega) | exact bV84 hV (by decide) (by omega) | exact bV12 hV (by omega) | exact bV_1 hV | exact bV_2 hV | (have h9 := bV_1 hV; omega)) (by first | omega | exact bV_0 hV | exact bV7 hV (by decide) (by omega) | exact bV84 hV (by decide) (by omega) | exact bV12 hV (by omega) | exact bV_1 hV | exact bV_2 hV | (have h9 := bV_1 hV; omega)) (tgt := 35) dX2_isOver_28 (q := 31) rfl (by decide) (fun h_28 => ?_) (fun h_28 => ?_)
    · refine pw_iconst hX (k := 0) rfl (by decide) dX2_isOver_35 (q := 36) rfl ?_
      refine pw_ireturn hX dX2_isOver_36 ⟨_, rfl, by first | exact bI_nar _ | decide | rfl⟩ ⟨congrArg (fun z => some (Value.int z)) ?_, ?_⟩
      · first | (rw [show kOver V p a = true from decide_eq_true (Or.inl h_10)]; rfl) | (rw [show kOver V p a = true from decide_eq_true (Or.inr h_28)]; rfl) | (rw [show kOver V p a = false from decide_eq_false (fun z => z.elim h_10 (by omega))]; rfl)
      · rfl
    · refine pw_iconst hX (k := 1) rfl (by decide) dX2_isOver_31 (q := 32) rfl ?_
      refine pw_goto hX (tgt := 36) dX2_isOver_32 (by decide) ?_
      refine pw_ireturn hX dX2_isOver_36 ⟨_, rfl, by first | exact bI_nar _ | decide | rfl⟩ ⟨congrArg (fun z => some (Value.int z)) ?_, ?_⟩
      · first | (rw [show kOver V p a = true from decide_eq_true (Or.inl h_10)]; rfl) | (rw [show kOver V p a = true from decide_eq_true (Or.inr h_28)]; rfl) | (rw [show kOver V p a = false from decide_eq_false (fun z => z.elim h_10 (by omega))]; rfl)
      · rfl
abbrev rm_X2_pass : Room := { frames := 1, cells := 0, slots := 0, locals := 22 }
set_option maxHeartbeats 800000 in
set_option maxRecDepth 20000 in
theorem c_X2_pass {l : Launch} {g : Geo} {w : WD} {V : Nat → Nat → Nat} {o : Nat} {k : Nat} (ho : o < 7) (hP : bP V) (hk : V 0 1 + k < 2 ^ 30) : CtI l g yX2_pass cX2_pass 7 (some .int) rm_X2_pass [.ref (g_ad g o 0), .int (nI k)] (wO w o V) (nI (kPass V k).2) (wO w o (kPass V k).1) := by
  refine ct_of mi_X2_pass.2.2.2.2.2 ⟨rfl, rfl⟩ (List.forall_mem_cons.mpr ⟨rfl, List.forall_mem_cons.mpr ⟨rfl, fun _ h => absurd h List.not_mem_nil⟩⟩) (Nat.le_of_ble_eq_true rfl) (fun P hX => ?_)
  replace hX : Gd l g RX2 cX2_pass rm_X2_pass 7 (some .int) _ _ P := hX
  show P (wO w o V) 0 [some (.ref (g_ad g o 0)), some (.int (nI k)), none, none, none, none, none] []
  have hV1 := bP_t hP hk
  have h7 := hP.1.2.2.2.1
  have hap : (kPres (vU V 0 1 (V 0 1 + k))) < 2 ^ 31 := Nat.lt_of_lt_of_le (bits_lt _ _) (Nat.pow_le_pow_right (by decide) (by show V 0 0 ≤ 31; omega))
  refine pw_aload_n hX rfl dX2_pass_0 (q := 1) rfl ?_
  refine pw_dup hX rfl dX2_pass_1 (q := 2) rfl ?_
  refine pw_getVF hX ho 1 (by decide) fl_X2_15 rfl dX2_pass_2 (q := 5) rfl ?_
  refine pw_iload_n hX rfl dX2_pass_5 (q := 6) rfl ?_
  refine pw_iaddN hX dX2_pass_6 (q := 7) rfl ?_
  refine pw_putVF hX ho 1 (by decide) fl_X2_15 dX2_pass_7 (q := 10) rfl ?_
  refine pw_iconst hX (k := 0) rfl (by decide) dX2_pass_10 (q := 11) rfl ?_
  refine pw_istore_n hX (by decide) dX2_pass_11 (q := 12) rfl ?_
  refine pw_aload_n hX rfl dX2_pass_12 (q := 13) rfl ?_
  refine pw_cvI0 hX dX2_pass_13 (q := 16) rfl mi_X2_present ml_X2_158 (rcV ho) ⟨rfl, rfl, by decide, by decide⟩ rfl (Nat.le_of_ble_eq_true rfl) (c_X2_present ho hV1.1) ?_
  refine pw_istore_n hX (by decide) dX2_pass_16 (q := 17) rfl ?_
  refine pw_iconst hX (k := 0) rfl (by decide) dX2_pass_17 (q := 18) rfl ?_
  refine pw_istore hX (by decide) dX2_pass_18 (q := 20) rfl ?_
  suffices L : ∀ v, v ≤ V 0 0 → P (wO w o (kPv (vU V 0 1 (V 0 1 + k)) (kPres (vU V 0 1 (V 0 1 + k))) v).1) 20 [some (.ref (g_ad g o 0)), some (.int (nI k)), some (.int (nI (kPv (vU V 0 1 (V 0 1 + k)) (kPres (vU V 0 1 (V 0 1 + k))) v).2)), some (.int (nI (kPres (vU V 0 1 (V 0 1 + k))))), some (.int (nI v)), none, none] [] by exact L 0 (Nat.zero_le _)
  refine loopUp (fun v hv ihv => ?_)
  have hVv := bP_Pv hV1 (a := (kPres (vU V 0 1 (V 0 1 + k)))) v (by omega)
  refine pw_iload hX rfl dX2_pass_20 (q := 22) rfl ?_
  refine pw_aload_n hX rfl dX2_pass_22 (q := 23) rfl ?_
  refine pw_getVF hX ho 0 (by decide) fl_X2_9 rfl dX2_pass_23 (q := 26) rfl ?_
  rw [show (kPv (vU V 0 1 (V 0 1 + k)) (kPres (vU V 0 1 (V 0 1 + k))) v).1 0 0 = V 0 0 from congrFun hVv.2 0]
  refine pw_icmpN_ge hX (by first | omega | exact bV_0 hV1.1) (by first | omega | exact bV_0 hV1.1) (tgt := 114) dX2_pass_26 (q := 29) rfl (by decide) (fun h_26 => ?_) (fun h_26 => ?_)
  · have e95 : v = V 0 0 := by omega
    subst e95
    refine pw_iload_n hX rfl dX2_pass_114 (q := 115) rfl ?_
    refine pw_ireturn hX dX2_pass_115 ⟨_, rfl, rfl⟩ ⟨congrArg (fun z => some (Value.int z)) ?_, ?_⟩
    · rfl
    · rfl
  · refine pw_iconst hX (k := 0) rfl (by decide) dX2_pass_29 (q := 30) rfl ?_
    refine pw_istore hX (by decide) dX2_pass_30 (q := 32) rfl ?_
    suffices L : ∀ t, t ≤ 12 → P (wO w o (kPt (kPv (vU V 0 1 (V 0 1 + k)) (kPres (vU V 0 1 (V 0 1 + k))) v).1 v (kPres (vU V 0 1 (V 0 1 + k))) t).1) 32 [some (.ref (g_ad g o 0)), some (.int (nI k)), some (.int (nI ((kPv (vU V 0 1 (V 0 1 + k)) (kPres (vU V 0 1 (V 0 1 + k))) v).2 + (kPt (kPv (vU V 0 1 (V 0 1 + k)) (kPres (vU V 0 1 (V 0 1 + k))) v).1 v (kPres (vU V 0 1 (V 0 1 + k))) t).2))), some (.int (nI (kPres (vU V 0 1 (V 0 1 + k))))), some (.int (nI v)), some (.int (nI t)), none] [] by exact L 0 (Nat.zero_le _)
    refine loopUp (fun t ht iht => ?_)
    have hVt := bP_Pt hVv.1 (a := (kPres (vU V 0 1 (V 0 1 + k)))) (v := v) (by omega) t ht
    refine pw_iload hX rfl dX2_pass_32 (q := 34) rfl ?_
    refine pw_bipush hX (k := 12) (by decide) dX2_pass_34 (q := 36) rfl ?_
    refine pw_icmpN_ge hX (by first | omega | exact bV_0 hV1.1) (by first | omega | exact bV_0 hV1.1) (tgt := 108) dX2_pass_36 (q := 39) rfl (by decide) (fun h_36 => ?_) (fun h_36 => ?_)
    · refine pw_iinc hX rfl (by decide) (inc1 _) dX2_pass_108 (q := 111) rfl ?_
      refine pw_goto hX (tgt := 20) dX2_pass_111 (by decide) ?_
      have e32 : t = 12 := by omega
      subst e32
      exact pw_fg hX (lv' := [_, _, _, _, _, none, none]) (by repeat first | exact lle_nil | refine lle_cons ?_ | refine lle_none ?_) (pw_eq (congrArg (wO w o) (by simp only [kPv_s, kPr])) (by simp only [kPv_s, kPr, lst, inc1]) rfl (ihv (by omega)))
    · refine pw_iload hX rfl dX2_pass_39 (q := 41) rfl ?_
      refine pw_iload hX rfl dX2_pass_41 (q := 43) rfl ?_
      refine pw_cnI2 hX dX2_pass_43 (q := 46) rfl mi_X3_place mn_X2_88 ⟨rfl, rfl, by decide, by decide⟩ rfl (Nat.le_of_ble_eq_true rfl) (c_X3_place) ?_
      refine pw_istore hX (by decide) dX2_pass_46 (q := 48) rfl ?_
      refine pw_aload_n hX rfl dX2_pass_48 (q := 49) rfl ?_
      refine pw_iload hX rfl dX2_pass_49 (q := 51) rfl ?_
      refine pw_cvI1 hX dX2_pass_51 (q := 54) rfl mi_X2_isTomb ml_X2_95 (rcV ho) ⟨rfl, rfl, by decide, by decide⟩ rfl (Nat.le_of_ble_eq_true rfl) (c_X2_isTomb ho hVt.1.1 (by omega)) ?_
      refine pw_ifB_eq hX (tgt := 102) dX2_pass_54 (q := 57) rfl (by decide) (fun h_54 => ?_) (fun h_54 => ?_)
      · refine pw_iinc hX rfl (by decide) (inc1 _) dX2_pass_102 (q := 105) rfl ?_
        refine pw_goto hX (tgt := 32) dX2_pass_105 (by decide) ?_
        have hpb : kPb (kPt (kPv (vU V 0 1 (V 0 1 + k)) (kPres (vU V 0 1 (V 0 1 + k))) v).1 v (kPres (vU V 0 1 (V 0 1 + k))) t).1 (v * 12 + t) (kPres (vU V 0 1 (V 0 1 + k))) = false := by rw [kPb, h_54]; rfl
        exact pw_fg hX (lv' := [_, _, _, _, _, _, none]) (by repeat first | exact lle_nil | refine lle_cons ?_ | refine lle_none ?_) (pw_eq (congrArg (wO w o) (by rw [kPt_s, kPs, hpb]; rfl)) (by rw [kPt_s, hpb]; rfl) rfl (iht (by omega)))
      · refine pw_aload_n hX rfl dX2_pass_57 (q := 58) rfl ?_
        refine pw_iload hX rfl dX2_pass_58 (q := 60) rfl ?_
        refine pw_iload_n hX rfl dX2_pass_60 (q := 61) rfl ?_
        refine pw_cvI2 hX dX2_pass_61 (q := 64) rfl mi_X2_isOver ml_X2_162 (rcV ho) ⟨rfl, rfl, by decide, by decide⟩ rfl (Nat.le_of_ble_eq_true rfl) (c_X2_isOver ho hVt.1.1 (by omega) hap (hVt.1.2 _ (by omega))) ?_
        refine pw_ifB_eq hX (tgt := 102) dX2_pass_64 (q := 67) rfl (by decide) (fun h_64 => ?_) (fun h_64 => ?_)
        · refine pw_iinc hX rfl (by decide) (inc1 _) dX2_pass_102 (q := 105) rfl ?_
          refine pw_goto hX (tgt := 32) dX2_pass_105 (by decide) ?_
          have hpb : kPb (kPt (kPv (vU V 0 1 (V 0 1 + k)) (kPres (vU V 0 1 (V 0 1 + k))) v).1 v (kPres (vU V 0 1 (V 0 1 + k))) t).1 (v * 12 + t) (kPres (vU V 0 1 (V 0 1 + k))) = false := by rw [kPb, h_54, h_64]; rfl
          exact pw_fg hX (lv' := [_, _, _, _, _, _, none]) (by repeat first | exact lle_nil | refine lle_cons ?_ | refine lle_none ?_) (pw_eq (congrArg (wO w o) (by rw [kPt_s, kPs, hpb]; rfl)) (by rw [kPt_s, hpb]; rfl) rfl (iht (by omega)))
        · refine pw_aload_n hX rfl dX2_pass_67 (q := 68) rfl ?_
          refine pw_getVF hX ho 13 (by decide) fl_X2_52 rfl dX2_pass_68 (q := 71) rfl ?_
          refine pw_iload hX rfl dX2_pass_71 (q := 73) rfl ?_
          refine pw_aload_n hX rfl dX2_pass_73 (q := 74) rfl ?_
          refine pw_getVF hX ho 13 (by decide) fl_X2_52 rfl dX2_pass_74 (q := 77) rfl ?_
          refine pw_iload hX rfl dX2_pass_77 (q := 79) rfl ?_
          refine pw_ialdVF hX ho 10 (by decide) (show _ < 84 by omega) dX2_pass_79 (q := 80) rfl ?_
          refine pw_aload_n hX rfl dX2_pass_80 (q := 81) rfl ?_
          refine pw_getVF hX ho 8 (by decide) fl_X2_37 rfl dX2_pass_81 (q := 84) rfl ?_
          refine pw_iload hX rfl dX2_pass_84 (q := 86) rfl ?_
          refine pw_ialdVF hX ho 5 (by decide) (show _ < 84 by omega) dX2_pass_86 (q := 87) rfl ?_
          refine pw_max hX dX2_pass_87 (q := 90) rfl ml_X2_123 tw_max_s tw_max_i tw_max_c (by decide) (Nat.le_of_ble_eq_true rfl) ?_
          rw [n_max (bV84 hVt.1.1 (by decide) (by omega)) (bV84 hVt.1.1 (by decide) (by omega))]
          refine pw_iastVF hX ho 10 (by decide) (show _ < 84 by omega) dX2_pass_90 (q := 91) rfl ?_
          refine pw_aload_n hX rfl dX2_pass_91 (q := 92) rfl ?_
          refine pw_getVF hX ho 8 (by decide) fl_X2_37 rfl dX2_pass_92 (q := 95) rfl ?_
          refine pw_iload hX rfl dX2_pass_95 (q := 97) rfl ?_
          refine pw_iconst hX (k := 0) rfl (by decide) dX2_pass_97 (q := 98) rfl ?_
          refine pw_iastVF hX ho 5 (by decide) (show _ < 84 by omega) dX2_pass_98 (q := 99) rfl ?_
          refine pw_iinc hX rfl (by decide) (inc1 _) dX2_pass_99 (q := 102) rfl ?_
          refine pw_iinc hX rfl (by decide) (inc1 _) dX2_pass_102 (q := 105) rfl ?_
          refine pw_goto hX (tgt := 32) dX2_pass_105 (by decide) ?_
          have hpb : kPb (kPt (kPv (vU V 0 1 (V 0 1 + k)) (kPres (vU V 0 1 (V 0 1 + k))) v).1 v (kPres (vU V 0 1 (V 0 1 + k))) t).1 (v * 12 + t) (kPres (vU V 0 1 (V 0 1 + k))) = true := by rw [kPb, h_54, h_64]; rfl
          exact pw_fg hX (lv' := [_, _, _, _, _, _, none]) (by repeat first | exact lle_nil | refine lle_cons ?_ | refine lle_none ?_) (pw_eq (congrArg (wO w o) (by rw [kPt_s, kPs, hpb]; rfl)) (by rw [kPt_s, hpb, Nat.add_assoc]; rfl) rfl (iht (by omega)))
abbrev rm_X2_letGoBy : Room := { frames := 2, cells := 0, slots := 0, locals := 48 }
set_option maxHeartbeats 800000 in
set_option maxRecDepth 20000 in
theorem c_X2_letGoBy {l : Launch} {g : Geo} {w : WD} {V : Nat → Nat → Nat} {o : Nat} {v : Int32} (ho : o < 7) (hP : bP V) : CtI l g yX2_letGoBy cX2_letGoBy 2 (some .int) rm_X2_letGoBy [.ref (g_ad g o 0), .int v] (wO w o V) ((kTick V v).2) (wO w o (kTick V v).1) := by
  refine ct_of mi_X2_letGoBy.2.2.2.2.2 ⟨rfl, rfl⟩ (List.forall_mem_cons.mpr ⟨rfl, List.forall_mem_cons.mpr ⟨rfl, fun _ h => absurd h List.not_mem_nil⟩⟩) (Nat.le_of_ble_eq_true rfl) (fun P hX => ?_)
  replace hX : Gd l g RX2 cX2_letGoBy rm_X2_letGoBy 2 (some .int) _ _ P := hX
  show P (wO w o V) 0 [some (.ref (g_ad g o 0)), some (.int v)] []
  have h1V := hP.1.2.2.2.2.1
  refine pw_iload_n hX rfl dX2_letGoBy_0 (q := 1) rfl ?_
  refine pw_iconst hX (k := 1) rfl (by decide) dX2_letGoBy_1 (q := 2) rfl ?_
  refine pw_icmp_lt hX (tgt := 11) dX2_letGoBy_2 (q := 5) rfl (by decide) (fun h_2 => ?_) (fun h_2 => ?_)
  · have hz : inN 1 60 v = false := inN_lo (by decide) h_2
    refine pw_ldc hX cn_X2_73 dX2_letGoBy_11 (q := 13) rfl ?_
    refine pw_ireturn hX dX2_letGoBy_13 ⟨_, rfl, rfl⟩ ⟨congrArg (fun z => some (Value.int z)) ?_, ?_⟩
    · rw [kTick, if_neg (by rw [hz]; decide)]
    · rw [kTick, if_neg (by rw [hz]; decide)]
  · refine pw_iload_n hX rfl dX2_letGoBy_5 (q := 6) rfl ?_
    refine pw_bipush hX (k := 60) (by decide) dX2_letGoBy_6 (q := 8) rfl ?_
    refine pw_icmp_le hX (tgt := 14) dX2_letGoBy_8 (q := 11) rfl (by decide) (fun h_8 => ?_) (fun h_8 => ?_)
    · have hc := inN_ok (lo := 1) (hi := 60) (by decide) (by decide) h_2 (Int32.not_lt.mpr h_8)
      obtain ⟨x, hx1, hx2, rfl⟩ := inN_of (by decide) hc
      have hxx : ix (nI x) = x := ix_nI (by omega)
      refine pw_aload_n hX rfl dX2_letGoBy_14 (q := 15) rfl ?_
      refine pw_getVF hX ho 1 (by decide) fl_X2_15 rfl dX2_letGoBy_15 (q := 18) rfl ?_
      refine pw_iload_n hX rfl dX2_letGoBy_18 (q := 19) rfl ?_
      refine pw_iaddN hX dX2_letGoBy_19 (q := 20) rfl ?_
      refine pw_ldc hX cn_X2_154 dX2_letGoBy_20 (q := 22) rfl ?_
      rw [show (100000 : Int32) = nI 100000 by decide]
      refine pw_icmpN_le hX (by first | omega | exact bV_1 hP.1) (by first | omega | exact bV_1 hP.1) (tgt := 28) dX2_letGoBy_22 (q := 25) rfl (by decide) (fun h_22 => ?_) (fun h_22 => ?_)
      · refine pw_aload_n hX rfl dX2_letGoBy_28 (q := 29) rfl ?_
        refine pw_iload_n hX rfl dX2_letGoBy_29 (q := 30) rfl ?_
        refine pw_cvI1 hX dX2_letGoBy_30 (q := 33) rfl mi_X2_pass ml_X2_155 (rcV ho) ⟨rfl, rfl, by decide, by decide⟩ rfl (Nat.le_of_ble_eq_true rfl) (c_X2_pass ho hP (by omega)) ?_
        refine pw_ireturn hX dX2_letGoBy_33 ⟨_, rfl, rfl⟩ ⟨congrArg (fun z => some (Value.int z)) ?_, ?_⟩
        · rw [kTick, if_pos hc, hxx, if_neg (by omega)]
        · rw [kTick, if_pos hc, hxx, if_neg (by omega)]
      · refine pw_ldc hX cn_X2_72 dX2_letGoBy_25 (q := 27) rfl ?_
        refine pw_ireturn hX dX2_letGoBy_27 ⟨_, rfl, rfl⟩ ⟨congrArg (fun z => some (Value.int z)) ?_, ?_⟩
        · rw [kTick, if_pos hc, hxx, if_pos h_22]
        · rw [kTick, if_pos hc, hxx, if_pos h_22]
    · have hz : inN 1 60 v = false := inN_hi (by decide) (Int32.not_le.mp h_8)
      refine pw_ldc hX cn_X2_73 dX2_letGoBy_11 (q := 13) rfl ?_
      refine pw_ireturn hX dX2_letGoBy_13 ⟨_, rfl, rfl⟩ ⟨congrArg (fun z => some (Value.int z)) ?_, ?_⟩
      · rw [kTick, if_neg (by rw [hz]; decide)]
      · rw [kTick, if_neg (by rw [hz]; decide)]
def us (x y : Int32) : Int32 := (x.toUInt32 >>> (y.toUInt32 &&& Int32.toUInt32 31)).toInt32
def pc1 (x : Int32) : Int32 := x - (us x (nI 1) &&& 1431655765)
def pc2 (x : Int32) : Int32 := (x &&& 858993459) + (us x (nI 2) &&& 858993459)
def pc3 (x : Int32) : Int32 := (x + us x (nI 4)) &&& 252645135
def pc4 (x : Int32) : Int32 := x + us x (nI 8)
def pc5 (x : Int32) : Int32 := (x + us x (nI 16)) &&& nI 63
def pcE (x : Int32) : Int32 := pc5 (pc4 (pc3 (pc2 (pc1 x))))
theorem pc_all : (List.range 4096).all (fun n => decide (pcE (nI n) = nI (popc n))) = true := by decide +kernel
theorem pc_ok {n : Nat} (h : n < 4096) : pcE (nI n) = nI (popc n) := of_decide_eq_true (List.all_eq_true.mp pc_all n (List.mem_range.mpr h))
abbrev rm_J6_bitCount_0f7a4 : Room := { frames := 0, cells := 0, slots := 0, locals := 0 }
set_option maxHeartbeats 800000 in
set_option maxRecDepth 20000 in
theorem c_J6_bitCount_0f7a4 {l : Launch} {g : Geo} {w : WD} {n : Nat} (hn : n < 4096) : CtI l g yJ6_bitCount_0f7a4 cJ6_bitCount_0f7a4 1 (some .int) rm_J6_bitCount_0f7a4 [.int (nI n)] (w) (nI (popc n)) (w) := by
  refine ct_of mi_J6_bitCount_0f7a4.2.2.2.2 ⟨rfl, rfl⟩ (List.forall_mem_cons.mpr ⟨rfl, fun _ h => absurd h List.not_mem_nil⟩) (Nat.le_of_ble_eq_true rfl) (fun P hX => ?_)
  replace hX : Gd l g RJ6 cJ6_bitCount_0f7a4 rm_J6_bitCount_0f7a4 1 (some .int) _ _ P := hX
  show P (w) 0 [some (.int (nI n))] []
  refine pw_iload_n hX rfl dJ6_bitCount_0f7a4_0 (q := 1) rfl ?_
  refine pw_iload_n hX rfl dJ6_bitCount_0f7a4_1 (q := 2) rfl ?_
  refine pw_iconst hX (k := 1) rfl (by decide) dJ6_bitCount_0f7a4_2 (q := 3) rfl ?_
  refine pw_iushr hX dJ6_bitCount_0f7a4_3 (q := 4) rfl ?_
  refine pw_ldcw hX cn_J6_265 dJ6_bitCount_0f7a4_4 (q := 7) rfl ?_
  refine pw_iand hX dJ6_bitCount_0f7a4_7 (q := 8) rfl ?_
  refine pw_isub hX dJ6_bitCount_0f7a4_8 (q := 9) rfl ?_
  refine pw_istore_n hX (by decide) dJ6_bitCount_0f7a4_9 (q := 10) rfl ?_
  refine pw_iload_n hX rfl dJ6_bitCount_0f7a4_10 (q := 11) rfl ?_
  refine pw_ldcw hX cn_J6_266 dJ6_bitCount_0f7a4_11 (q := 14) rfl ?_
  refine pw_iand hX dJ6_bitCount_0f7a4_14 (q := 15) rfl ?_
  refine pw_iload_n hX rfl dJ6_bitCount_0f7a4_15 (q := 16) rfl ?_
  refine pw_iconst hX (k := 2) rfl (by decide) dJ6_bitCount_0f7a4_16 (q := 17) rfl ?_
  refine pw_iushr hX dJ6_bitCount_0f7a4_17 (q := 18) rfl ?_
  refine pw_ldcw hX cn_J6_266 dJ6_bitCount_0f7a4_18 (q := 21) rfl ?_
  refine pw_iand hX dJ6_bitCount_0f7a4_21 (q := 22) rfl ?_
  refine pw_iadd hX dJ6_bitCount_0f7a4_22 (q := 23) rfl ?_
  refine pw_istore_n hX (by decide) dJ6_bitCount_0f7a4_23 (q := 24) rfl ?_
  refine pw_iload_n hX rfl dJ6_bitCount_0f7a4_24 (q := 25) rfl ?_
  refine pw_iload_n hX rfl dJ6_bitCount_0f7a4_25 (q := 26) rfl ?_
  refine pw_iconst hX (k := 4) rfl (by decide) dJ6_bitCount_0f7a4_26 (q := 27) rfl ?_
  refine pw_iushr hX dJ6_bitCount_0f7a4_27 (q := 28) rfl ?_
  refine pw_iadd hX dJ6_bitCount_0f7a4_28 (q := 29) rfl ?_
  refine pw_ldcw hX cn_J6_267 dJ6_bitCount_0f7a4_29 (q := 32) rfl ?_
  refine pw_iand hX dJ6_bitCount_0f7a4_32 (q := 33) rfl ?_
  refine pw_istore_n hX (by decide) dJ6_bitCount_0f7a4_33 (q := 34) rfl ?_
  refine pw_iload_n hX rfl dJ6_bitCount_0f7a4_34 (q := 35) rfl ?_
  refine pw_iload_n hX rfl dJ6_bitCount_0f7a4_35 (q := 36) rfl ?_
  refine pw_bipush hX (k := 8) (by decide) dJ6_bitCount_0f7a4_36 (q := 38) rfl ?_
  refine pw_iushr hX dJ6_bitCount_0f7a4_38 (q := 39) rfl ?_
  refine pw_iadd hX dJ6_bitCount_0f7a4_39 (q := 40) rfl ?_
  refine pw_istore_n hX (by decide) dJ6_bitCount_0f7a4_40 (q := 41) rfl ?_
  refine pw_iload_n hX rfl dJ6_bitCount_0f7a4_41 (q := 42) rfl ?_
  refine pw_iload_n hX rfl dJ6_bitCount_0f7a4_42 (q := 43) rfl ?_
  refine pw_bipush hX (k := 16) (by decide) dJ6_bitCount_0f7a4_43 (q := 45) rfl ?_
  refine pw_iushr hX dJ6_bitCount_0f7a4_45 (q := 46) rfl ?_
  refine pw_iadd hX dJ6_bitCount_0f7a4_46 (q := 47) rfl ?_
  refine pw_istore_n hX (by decide) dJ6_bitCount_0f7a4_47 (q := 48) rfl ?_
  refine pw_iload_n hX rfl dJ6_bitCount_0f7a4_48 (q := 49) rfl ?_
  refine pw_bipush hX (k := 63) (by decide) dJ6_bitCount_0f7a4_49 (q := 51) rfl ?_
  refine pw_iand hX dJ6_bitCount_0f7a4_51 (q := 52) rfl ?_
  refine pw_ireturn hX dJ6_bitCount_0f7a4_52 ⟨_, rfl, rfl⟩ ⟨congrArg (fun z => some (Value.int z)) ?_, ?_⟩
  · exact pc_ok hn
  · rfl
abbrev rm_X2_allRumors : Room := { frames := 2, cells := 0, slots := 0, locals := 44 }
set_option maxHeartbeats 800000 in
set_option maxRecDepth 20000 in
theorem c_X2_allRumors {l : Launch} {g : Geo} {w : WD} {V : Nat → Nat → Nat} {o : Nat} (ho : o < 7) (hV : bV V) : CtI l g yX2_allRumors cX2_allRumors 3 (some .int) rm_X2_allRumors [.ref (g_ad g o 0)] (wO w o V) (nI (sm (fun v => cnt (fun t => kRum V (v * 12 + t)) 12) (V 0 0))) (wO w o V) := by
  refine ct_of mi_X2_allRumors.2.2.2.2.2 ⟨rfl, rfl⟩ (List.forall_mem_cons.mpr ⟨rfl, fun _ h => absurd h List.not_mem_nil⟩) (Nat.le_of_ble_eq_true rfl) (fun P hX => ?_)
  replace hX : Gd l g RX2 cX2_allRumors rm_X2_allRumors 3 (some .int) _ _ P := hX
  show P (wO w o V) 0 [some (.ref (g_ad g o 0)), none, none] []
  have h7 := hV.2.2.2.1
  refine pw_iconst hX (k := 0) rfl (by decide) dX2_allRumors_0 (q := 1) rfl ?_
  refine pw_istore_n hX (by decide) dX2_allRumors_1 (q := 2) rfl ?_
  refine pw_iconst hX (k := 0) rfl (by decide) dX2_allRumors_2 (q := 3) rfl ?_
  refine pw_istore_n hX (by decide) dX2_allRumors_3 (q := 4) rfl ?_
  suffices L : ∀ v, v ≤ V 0 0 → P (wO w o V) 4 [some (.ref (g_ad g o 0)), some (.int (nI (sm (fun v => cnt (fun t => kRum V (v * 12 + t)) 12) v))), some (.int (nI v))] [] by exact L 0 (Nat.zero_le _)
  refine loopUp (fun v hv ih => ?_)
  refine pw_iload_n hX rfl dX2_allRumors_4 (q := 5) rfl ?_
  refine pw_aload_n hX rfl dX2_allRumors_5 (q := 6) rfl ?_
  refine pw_getVF hX ho 0 (by decide) fl_X2_9 rfl dX2_allRumors_6 (q := 9) rfl ?_
  refine pw_icmpN_ge hX (by first | omega | exact bV_0 hV | exact bV7 hV (by decide) (by omega) | exact bV84 hV (by decide) (by omega) | exact bV12 hV (by omega) | exact bV_1 hV | exact bV_2 hV) (by first | omega | exact bV_0 hV | exact bV7 hV (by decide) (by omega) | exact bV84 hV (by decide) (by omega) | exact bV12 hV (by omega) | exact bV_1 hV | exact bV_2 hV) (tgt := 29) dX2_allRumors_9 (q := 12) rfl (by decide) (fun h_9 => ?_) (fun h_9 => ?_)
  · refine pw_iload_n hX rfl dX2_allRumors_29 (q := 30) rfl ?_
    refine pw_ireturn hX dX2_allRumors_30 ⟨_, rfl, rfl⟩ ⟨congrArg (fun z => some (Value.int z)) ?_, ?_⟩
    · rw [show v = V 0 0 by omega]
    · rfl
  · refine pw_iload_n hX rfl dX2_allRumors_12 (q := 13) rfl ?_
    refine pw_aload_n hX rfl dX2_allRumors_13 (q := 14) rfl ?_
    refine pw_iload_n hX rfl dX2_allRumors_14 (q := 15) rfl ?_
    refine pw_cvI1 hX dX2_allRumors_15 (q := 18) rfl mi_X2_rumorTopics ml_X2_102 (rcV ho) ⟨rfl, rfl, by decide, by decide⟩ rfl (Nat.le_of_ble_eq_true rfl) (c_X2_rumorTopics ho hV (by omega)) ?_
    refine pw_csI1 hX dX2_allRumors_18 (q := 21) rfl mi_J6_bitCount_0f7a4 ml_X2_105 ⟨rfl, rfl, by decide, by decide⟩ rfl (Nat.le_of_ble_eq_true rfl) (c_J6_bitCount_0f7a4 (bits_lt _ 12)) ?_
    rw [popc_bits]
    refine pw_iaddN hX dX2_allRumors_21 (q := 22) rfl ?_
    refine pw_istore_n hX (by decide) dX2_allRumors_22 (q := 23) rfl ?_
    refine pw_iinc hX rfl (by decide) (inc1 _) dX2_allRumors_23 (q := 26) rfl ?_
    refine pw_goto hX (tgt := 4) dX2_allRumors_26 (by decide) ?_
    exact pw_eq rfl rfl rfl (ih (by omega))
abbrev rm_X2_allTombs : Room := { frames := 2, cells := 0, slots := 0, locals := 44 }
set_option maxHeartbeats 800000 in
set_option maxRecDepth 20000 in
theorem c_X2_allTombs {l : Launch} {g : Geo} {w : WD} {V : Nat → Nat → Nat} {o : Nat} (ho : o < 7) (hV : bV V) : CtI l g yX2_allTombs cX2_allTombs 3 (some .int) rm_X2_allTombs [.ref (g_ad g o 0)] (wO w o V) (nI (sm (fun v => cnt (fun t => kTmb V (v * 12 + t)) 12) (V 0 0))) (wO w o V) := by
  refine ct_of mi_X2_allTombs.2.2.2.2.2 ⟨rfl, rfl⟩ (List.forall_mem_cons.mpr ⟨rfl, fun _ h => absurd h List.not_mem_nil⟩) (Nat.le_of_ble_eq_true rfl) (fun P hX => ?_)
  replace hX : Gd l g RX2 cX2_allTombs rm_X2_allTombs 3 (some .int) _ _ P := hX
  show P (wO w o V) 0 [some (.ref (g_ad g o 0)), none, none] []
  have h7 := hV.2.2.2.1
  refine pw_iconst hX (k := 0) rfl (by decide) dX2_allTombs_0 (q := 1) rfl ?_
  refine pw_istore_n hX (by decide) dX2_allTombs_1 (q := 2) rfl ?_
  refine pw_iconst hX (k := 0) rfl (by decide) dX2_allTombs_2 (q := 3) rfl ?_
  refine pw_istore_n hX (by decide) dX2_allTombs_3 (q := 4) rfl ?_
  suffices L : ∀ v, v ≤ V 0 0 → P (wO w o V) 4 [some (.ref (g_ad g o 0)), some (.int (nI (sm (fun v => cnt (fun t => kTmb V (v * 12 + t)) 12) v))), some (.int (nI v))] [] by exact L 0 (Nat.zero_le _)
  refine loopUp (fun v hv ih => ?_)
  refine pw_iload_n hX rfl dX2_allTombs_4 (q := 5) rfl ?_
  refine pw_aload_n hX rfl dX2_allTombs_5 (q := 6) rfl ?_
  refine pw_getVF hX ho 0 (by decide) fl_X2_9 rfl dX2_allTombs_6 (q := 9) rfl ?_
  refine pw_icmpN_ge hX (by first | omega | exact bV_0 hV | exact bV7 hV (by decide) (by omega) | exact bV84 hV (by decide) (by omega) | exact bV12 hV (by omega) | exact bV_1 hV | exact bV_2 hV) (by first | omega | exact bV_0 hV | exact bV7 hV (by decide) (by omega) | exact bV84 hV (by decide) (by omega) | exact bV12 hV (by omega) | exact bV_1 hV | exact bV_2 hV) (tgt := 29) dX2_allTombs_9 (q := 12) rfl (by decide) (fun h_9 => ?_) (fun h_9 => ?_)
  · refine pw_iload_n hX rfl dX2_allTombs_29 (q := 30) rfl ?_
    refine pw_ireturn hX dX2_allTombs_30 ⟨_, rfl, rfl⟩ ⟨congrArg (fun z => some (Value.int z)) ?_, ?_⟩
    · rw [show v = V 0 0 by omega]
    · rfl
  · refine pw_iload_n hX rfl dX2_allTombs_12 (q := 13) rfl ?_
    refine pw_aload_n hX rfl dX2_allTombs_13 (q := 14) rfl ?_
    refine pw_iload_n hX rfl dX2_allTombs_14 (q := 15) rfl ?_
    refine pw_cvI1 hX dX2_allTombs_15 (q := 18) rfl mi_X2_tombTopics ml_X2_110 (rcV ho) ⟨rfl, rfl, by decide, by decide⟩ rfl (Nat.le_of_ble_eq_true rfl) (c_X2_tombTopics ho hV (by omega)) ?_
    refine pw_csI1 hX dX2_allTombs_18 (q := 21) rfl mi_J6_bitCount_0f7a4 ml_X2_105 ⟨rfl, rfl, by decide, by decide⟩ rfl (Nat.le_of_ble_eq_true rfl) (c_J6_bitCount_0f7a4 (bits_lt _ 12)) ?_
    rw [popc_bits]
    refine pw_iaddN hX dX2_allTombs_21 (q := 22) rfl ?_
    refine pw_istore_n hX (by decide) dX2_allTombs_22 (q := 23) rfl ?_
    refine pw_iinc hX rfl (by decide) (inc1 _) dX2_allTombs_23 (q := 26) rfl ?_
    refine pw_goto hX (tgt := 4) dX2_allTombs_26 (by decide) ?_
    exact pw_eq rfl rfl rfl (ih (by omega))
abbrev rm_X2_allDead : Room := { frames := 3, cells := 0, slots := 0, locals := 67 }
set_option maxHeartbeats 800000 in
set_option maxRecDepth 20000 in
theorem c_X2_allDead {l : Launch} {g : Geo} {w : WD} {V : Nat → Nat → Nat} {o : Nat} (ho : o < 7) (hV : bV V) : CtI l g yX2_allDead cX2_allDead 3 (some .int) rm_X2_allDead [.ref (g_ad g o 0)] (wO w o V) (nI (sm (fun v => cnt (fun t => kDead V v t) 12) (V 0 0))) (wO w o V) := by
  refine ct_of mi_X2_allDead.2.2.2.2.2 ⟨rfl, rfl⟩ (List.forall_mem_cons.mpr ⟨rfl, fun _ h => absurd h List.not_mem_nil⟩) (Nat.le_of_ble_eq_true rfl) (fun P hX => ?_)
  replace hX : Gd l g RX2 cX2_allDead rm_X2_allDead 3 (some .int) _ _ P := hX
  show P (wO w o V) 0 [some (.ref (g_ad g o 0)), none, none] []
  have h7 := hV.2.2.2.1
  refine pw_iconst hX (k := 0) rfl (by decide) dX2_allDead_0 (q := 1) rfl ?_
  refine pw_istore_n hX (by decide) dX2_allDead_1 (q := 2) rfl ?_
  refine pw_iconst hX (k := 0) rfl (by decide) dX2_allDead_2 (q := 3) rfl ?_
  refine pw_istore_n hX (by decide) dX2_allDead_3 (q := 4) rfl ?_
  suffices L : ∀ v, v ≤ V 0 0 → P (wO w o V) 4 [some (.ref (g_ad g o 0)), some (.int (nI (sm (fun v => cnt (fun t => kDead V v t) 12) v))), some (.int (nI v))] [] by exact L 0 (Nat.zero_le _)
  refine loopUp (fun v hv ih => ?_)
  refine pw_iload_n hX rfl dX2_allDead_4 (q := 5) rfl ?_
  refine pw_aload_n hX rfl dX2_allDead_5 (q := 6) rfl ?_
  refine pw_getVF hX ho 0 (by decide) fl_X2_9 rfl dX2_allDead_6 (q := 9) rfl ?_
  refine pw_icmpN_ge hX (by first | omega | exact bV_0 hV | exact bV7 hV (by decide) (by omega) | exact bV84 hV (by decide) (by omega) | exact bV12 hV (by omega) | exact bV_1 hV | exact bV_2 hV) (by first | omega | exact bV_0 hV | exact bV7 hV (by decide) (by omega) | exact bV84 hV (by decide) (by omega) | exact bV12 hV (by omega) | exact bV_1 hV | exact bV_2 hV) (tgt := 29) dX2_allDead_9 (q := 12) rfl (by decide) (fun h_9 => ?_) (fun h_9 => ?_)
  · refine pw_iload_n hX rfl dX2_allDead_29 (q := 30) rfl ?_
    refine pw_ireturn hX dX2_allDead_30 ⟨_, rfl, rfl⟩ ⟨congrArg (fun z => some (Value.int z)) ?_, ?_⟩
    · rw [show v = V 0 0 by omega]
    · rfl
  · refine pw_iload_n hX rfl dX2_allDead_12 (q := 13) rfl ?_
    refine pw_aload_n hX rfl dX2_allDead_13 (q := 14) rfl ?_
    refine pw_iload_n hX rfl dX2_allDead_14 (q := 15) rfl ?_
    refine pw_cvI1 hX dX2_allDead_15 (q := 18) rfl mi_X2_deadTopics ml_X2_113 (rcV ho) ⟨rfl, rfl, by decide, by decide⟩ rfl (Nat.le_of_ble_eq_true rfl) (c_X2_deadTopics ho hV (by omega)) ?_
    refine pw_csI1 hX dX2_allDead_18 (q := 21) rfl mi_J6_bitCount_0f7a4 ml_X2_105 ⟨rfl, rfl, by decide, by decide⟩ rfl (Nat.le_of_ble_eq_true rfl) (c_J6_bitCount_0f7a4 (bits_lt _ 12)) ?_
    rw [popc_bits]
    refine pw_iaddN hX dX2_allDead_21 (q := 22) rfl ?_
    refine pw_istore_n hX (by decide) dX2_allDead_22 (q := 23) rfl ?_
    refine pw_iinc hX rfl (by decide) (inc1 _) dX2_allDead_23 (q := 26) rfl ?_
    refine pw_goto hX (tgt := 4) dX2_allDead_26 (by decide) ?_
    exact pw_eq rfl rfl rfl (ih (by omega))
end
section
theorem kHn_0 (V : Nat → Nat → Nat) (t f p : Nat) : kHn V t f p 0 = V 0 ∧ kHn V t f p 1 = V 1 := by
  unfold kHn kH2 kH1
  split
  · exact ⟨rfl, rfl⟩
  · exact ⟨rfl, rfl⟩
theorem kSh_0 (V : Nat → Nat → Nat) (a b t : Nat) : kSh V a b t 0 = V 0 ∧ kSh V a b t 1 = V 1 := by
  unfold kSh
  split
  · exact ⟨rfl, rfl⟩
  · exact ⟨rfl, rfl⟩
theorem kSt_0 (V : Nat → Nat → Nat) (a b t : Nat) : kSt V a b t 0 = V 0 ∧ kSt V a b t 1 = V 1 := by
  unfold kSt
  rw [(kSh_0 _ a b t).1, (kSh_0 _ a b t).2]
  split
  · exact ⟨rfl, rfl⟩
  · exact kHn_0 _ _ _ _
theorem kTt_0 (V : Nat → Nat → Nat) (a b : Nat) : ∀ t, (kTt V a b t).1 0 = V 0 ∧ (kTt V a b t).1 1 = V 1
  | 0 => ⟨rfl, rfl⟩
  | t + 1 => by
    rw [kTt_s]
    dsimp only
    rw [(kSt_0 _ a b t).1, (kSt_0 _ a b t).2]
    exact kTt_0 V a b t
theorem kTk_0 (V : Nat → Nat → Nat) (a b : Nat) : (kTk V a b).1 0 = V 0 := by unfold kTk; exact (kTt_0 V a b 12).1
theorem kTk_1 (V : Nat → Nat → Nat) (a b : Nat) : (kTk V a b).1 1 = V 1 := by unfold kTk; exact (kTt_0 V a b 12).2
end
section
def hK (w : WD) (k : Nat) (s : Nat → Nat) : WD := ((wA w 8 0 (upN (w.1 8 0) 1 k)).1, s)
def rot (s : Nat → Nat) : Nat → Nat := fun j => if j = 4 then s 0 else if j < 4 then s (j + 1) else s j
def rH (w : WD) (i : Nat) : WD := (w.1, fun j => if j < i then w.2 (j + 1) else w.2 j)
theorem rH_0 (w : WD) : rH w 0 = w := Prod.ext rfl (funext fun j => by show (if j < 0 then w.2 (j + 1) else w.2 j) = w.2 j; exact if_neg (by omega))
theorem rH_s (w : WD) (i : Nat) : wH (rH w i) i (w.2 (i + 1)) = rH w (i + 1) := by
  refine Prod.ext rfl (funext fun j => ?_)
  show (if j = i then w.2 (i + 1) else if j < i then w.2 (j + 1) else w.2 j) = if j < i + 1 then w.2 (j + 1) else w.2 j
  by_cases h : j = i
  · subst h; rw [if_pos rfl, if_pos (by omega)]
  · rw [if_neg h]
    by_cases h2 : j < i
    · rw [if_pos h2, if_pos (by omega)]
    · rw [if_neg h2, if_neg (by omega)]
def hKeep (w : WD) : WD := if w.1 8 0 1 = 4 then hK w 4 (rot w.2) else hK w (w.1 8 0 1 + 1) w.2
theorem hK_hK (w : WD) (k k' : Nat) (s s' : Nat → Nat) : hK (hK w k s) k' s' = hK w k' s' := by
  refine Prod.ext (funext fun a => funext fun b => ?_) rfl
  by_cases h : a = 8 ∧ b = 0
  · obtain ⟨rfl, rfl⟩ := h
    show upN (upN (w.1 8 0) 1 k) 1 k' = upN (w.1 8 0) 1 k'
    rw [upN_upN]
  · simp only [hK, wA, if_neg h]
theorem hK_1 (w : WD) (k : Nat) : wA w 8 0 (upN (w.1 8 0) 1 k) = hK w k w.2 := rfl
theorem hK_k (w : WD) (k : Nat) (s : Nat → Nat) : (hK w k s).1 8 0 1 = k := rfl
theorem hK_n (w : WD) (k : Nat) (s : Nat → Nat) {a : Nat} (h : a ≠ 8) : (hK w k s).1 a = w.1 a := by
  funext b
  simp only [hK, wA]
  rw [if_neg (fun z => h z.1)]
abbrev rm_X0_prepare : Room := { frames := 3, cells := 0, slots := 0, locals := 69 }
set_option maxHeartbeats 800000 in
set_option maxRecDepth 20000 in
theorem c_X0_prepare {l : Launch} {g : Geo} {w : WD} {o2 : Nat} (hk : w.1 8 0 1 < 5) (hs : w.2 (w.1 8 0 1) < 7) (ho2 : o2 < 7) (hne : o2 ≠ w.2 (w.1 8 0 1)) : CtV l g yX0_prepare cX0_prepare 2 none rm_X0_prepare [.ref (g_ad g 8 0), .ref (g_ad g o2 0)] (w) (wO w (w.2 (w.1 8 0 1)) (kCp (w.1 (w.2 (w.1 8 0 1))) (w.1 o2))) := by
  refine ct_of mi_X0_prepare.2.2.2.2.2 ⟨rfl, rfl⟩ (List.forall_mem_cons.mpr ⟨rfl, List.forall_mem_cons.mpr ⟨rfl, fun _ h => absurd h List.not_mem_nil⟩⟩) (Nat.le_of_ble_eq_true rfl) (fun P hX => ?_)
  replace hX : Gd l g RX0 cX0_prepare rm_X0_prepare 2 none _ _ P := hX
  show P (w) 0 [some (.ref (g_ad g 8 0)), some (.ref (g_ad g o2 0))] []
  refine pw_aload_n hX rfl dX0_prepare_0 (q := 1) rfl ?_
  refine pw_getH hX 0 (by decide) fl_X0_11 rfl dX0_prepare_1 (q := 4) rfl ?_
  refine pw_aload_n hX rfl dX0_prepare_4 (q := 5) rfl ?_
  refine pw_getH hX 1 (by decide) fl_X0_17 rfl dX0_prepare_5 (q := 8) rfl ?_
  refine pw_aald hX (by exact hk) dX0_prepare_8 (q := 9) rfl ?_
  refine pw_aload_n hX rfl dX0_prepare_9 (q := 10) rfl ?_
  refine pw_cvV1 hX dX0_prepare_10 (q := 13) rfl mi_X2_copyFrom ml_X0_22 (rcV hs) ⟨rfl, rfl, by decide, by decide⟩ rfl (Nat.le_of_ble_eq_true rfl) (c_X2_copyFrom hs ho2 hne).at ?_
  refine pw_return hX dX0_prepare_13 rfl ⟨rfl, ?_⟩
  rfl
abbrev rm_X0_dropOldest : Room := { frames := 0, cells := 0, slots := 0, locals := 0 }
set_option maxHeartbeats 800000 in
set_option maxRecDepth 20000 in
theorem c_X0_dropOldest {l : Launch} {g : Geo} {w : WD} (h1 : 1 ≤ w.1 8 0 1) (hs : ∀ i, i < 5 → w.2 i < 7) : CtV l g yX0_dropOldest cX0_dropOldest 3 none rm_X0_dropOldest [.ref (g_ad g 8 0)] (w) (hK w (w.1 8 0 1 - 1) (rot w.2)) := by
  refine ct_of mi_X0_dropOldest.2.2.2.2.2 ⟨rfl, rfl⟩ (List.forall_mem_cons.mpr ⟨rfl, fun _ h => absurd h List.not_mem_nil⟩) (Nat.le_of_ble_eq_true rfl) (fun P hX => ?_)
  replace hX : Gd l g RX0 cX0_dropOldest rm_X0_dropOldest 3 none _ _ P := hX
  show P (w) 0 [some (.ref (g_ad g 8 0)), none, none] []
  refine pw_aload_n hX rfl dX0_dropOldest_0 (q := 1) rfl ?_
  refine pw_getH hX 0 (by decide) fl_X0_11 rfl dX0_dropOldest_1 (q := 4) rfl ?_
  refine pw_iconst hX (k := 0) rfl (by decide) dX0_dropOldest_4 (q := 5) rfl ?_
  refine pw_aald hX (by decide) dX0_dropOldest_5 (q := 6) rfl ?_
  refine pw_astore_n hX (by decide) dX0_dropOldest_6 (q := 7) rfl ?_
  refine pw_iconst hX (k := 0) rfl (by decide) dX0_dropOldest_7 (q := 8) rfl ?_
  refine pw_istore_n hX (by decide) dX0_dropOldest_8 (q := 9) rfl ?_
  suffices L : ∀ i, i ≤ 4 → P (rH w i) 9 [some (.ref (g_ad g 8 0)), some (.ref (g_ad g (w.2 0) 0)), some (.int (nI i))] [] by have h9 := L 0 (Nat.zero_le _); rw [rH_0] at h9; exact h9
  refine loopUp (fun i hi ih => ?_)
  refine pw_iload_n hX rfl dX0_dropOldest_9 (q := 10) rfl ?_
  refine pw_iconst hX (k := 4) rfl (by decide) dX0_dropOldest_10 (q := 11) rfl ?_
  refine pw_icmpN_ge hX (by first | omega) (by first | omega) (tgt := 34) dX0_dropOldest_11 (q := 14) rfl (by decide) (fun h_11 => ?_) (fun h_11 => ?_)
  · have e4 : i = 4 := by omega
    subst e4
    refine pw_aload_n hX rfl dX0_dropOldest_34 (q := 35) rfl ?_
    refine pw_getH hX 0 (by decide) fl_X0_11 rfl dX0_dropOldest_35 (q := 38) rfl ?_
    refine pw_iconst hX (k := 4) rfl (by decide) dX0_dropOldest_38 (q := 39) rfl ?_
    refine pw_aload_n hX rfl dX0_dropOldest_39 (q := 40) rfl ?_
    refine pw_aast hX (by decide) (by exact hs 0 (by decide)) dX0_dropOldest_40 (q := 41) rfl ?_
    refine pw_aload_n hX rfl dX0_dropOldest_41 (q := 42) rfl ?_
    refine pw_dup hX rfl dX0_dropOldest_42 (q := 43) rfl ?_
    refine pw_getH hX 1 (by decide) fl_X0_17 rfl dX0_dropOldest_43 (q := 46) rfl ?_
    rw [show (wH (rH w 4) 4 (w.2 0)).1 8 0 1 = w.1 8 0 1 from rfl]
    refine pw_iconst hX (k := 1) rfl (by decide) dX0_dropOldest_46 (q := 47) rfl ?_
    refine pw_isubN hX (by first | assumption | omega) dX0_dropOldest_47 (q := 48) rfl ?_
    refine pw_putH hX 1 (by decide) fl_X0_17 dX0_dropOldest_48 (q := 51) rfl ?_
    refine pw_return hX dX0_dropOldest_51 rfl ⟨rfl, ?_⟩
    rfl
  · refine pw_aload_n hX rfl dX0_dropOldest_14 (q := 15) rfl ?_
    refine pw_getH hX 0 (by decide) fl_X0_11 rfl dX0_dropOldest_15 (q := 18) rfl ?_
    refine pw_iload_n hX rfl dX0_dropOldest_18 (q := 19) rfl ?_
    refine pw_aload_n hX rfl dX0_dropOldest_19 (q := 20) rfl ?_
    refine pw_getH hX 0 (by decide) fl_X0_11 rfl dX0_dropOldest_20 (q := 23) rfl ?_
    refine pw_iload_n hX rfl dX0_dropOldest_23 (q := 24) rfl ?_
    refine pw_iconst hX (k := 1) rfl (by decide) dX0_dropOldest_24 (q := 25) rfl ?_
    refine pw_iaddN hX dX0_dropOldest_25 (q := 26) rfl ?_
    refine pw_aald hX (by omega) dX0_dropOldest_26 (q := 27) rfl ?_
    rw [show (rH w i).2 (i + 1) = w.2 (i + 1) from if_neg (by omega)]
    refine pw_aast hX (by omega) (by exact hs _ (by omega)) dX0_dropOldest_27 (q := 28) rfl ?_
    refine pw_iinc hX rfl (by decide) (inc1 _) dX0_dropOldest_28 (q := 31) rfl ?_
    refine pw_goto hX (tgt := 9) dX0_dropOldest_31 (by decide) ?_
    rw [rH_s]
    exact pw_eq rfl rfl rfl (ih (by omega))
abbrev rm_X0_keep : Room := { frames := 1, cells := 0, slots := 0, locals := 22 }
set_option maxHeartbeats 800000 in
set_option maxRecDepth 20000 in
theorem c_X0_keep {l : Launch} {g : Geo} {w : WD} (hk : w.1 8 0 1 ≤ 4) (hs : ∀ i, i < 5 → w.2 i < 7) : CtV l g yX0_keep cX0_keep 1 none rm_X0_keep [.ref (g_ad g 8 0)] (w) (hKeep w) := by
  refine ct_of mi_X0_keep.2.2.2.2.2 ⟨rfl, rfl⟩ (List.forall_mem_cons.mpr ⟨rfl, fun _ h => absurd h List.not_mem_nil⟩) (Nat.le_of_ble_eq_true rfl) (fun P hX => ?_)
  replace hX : Gd l g RX0 cX0_keep rm_X0_keep 1 none _ _ P := hX
  show P (w) 0 [some (.ref (g_ad g 8 0))] []
  refine pw_aload_n hX rfl dX0_keep_0 (q := 1) rfl ?_
  refine pw_dup hX rfl dX0_keep_1 (q := 2) rfl ?_
  refine pw_getH hX 1 (by decide) fl_X0_17 rfl dX0_keep_2 (q := 5) rfl ?_
  refine pw_iconst hX (k := 1) rfl (by decide) dX0_keep_5 (q := 6) rfl ?_
  refine pw_iaddN hX dX0_keep_6 (q := 7) rfl ?_
  refine pw_putH hX 1 (by decide) fl_X0_17 dX0_keep_7 (q := 10) rfl ?_
  rw [hK_1]
  refine pw_aload_n hX rfl dX0_keep_10 (q := 11) rfl ?_
  refine pw_getH hX 1 (by decide) fl_X0_17 rfl dX0_keep_11 (q := 14) rfl ?_
  rw [hK_k]
  refine pw_iconst hX (k := 4) rfl (by decide) dX0_keep_14 (q := 15) rfl ?_
  refine pw_icmpN_le hX (by omega) (by omega) (tgt := 22) dX0_keep_15 (q := 18) rfl (by decide) (fun h_15 => ?_) (fun h_15 => ?_)
  · have e : hKeep w = hK w (w.1 8 0 1 + 1) w.2 := if_neg (by omega)
    refine pw_return hX dX0_keep_22 rfl ⟨rfl, ?_⟩
    rw [e]; first | done | (rw [hK_hK, hK_k, show w.1 8 0 1 + 1 - 1 = 4 by omega]; rfl)
  · refine pw_aload_n hX rfl dX0_keep_18 (q := 19) rfl ?_
    refine pw_cvV0 hX dX0_keep_19 (q := 22) rfl mi_X0_dropOldest ml_X0_26 rcH ⟨rfl, rfl, by decide, by decide⟩ rfl (Nat.le_of_ble_eq_true rfl) (c_X0_dropOldest (by rw [hK_k]; omega) hs) ?_
    have e : hKeep w = hK w 4 (rot w.2) := if_pos (by omega)
    refine pw_return hX dX0_keep_22 rfl ⟨rfl, ?_⟩
    rw [e]; first | done | (rw [hK_hK, hK_k, show w.1 8 0 1 + 1 - 1 = 4 by omega]; rfl)
abbrev rm_X0_restore : Room := { frames := 3, cells := 0, slots := 0, locals := 69 }
set_option maxHeartbeats 800000 in
set_option maxRecDepth 20000 in
theorem c_X0_restore {l : Launch} {g : Geo} {w : WD} {o2 : Nat} (h1 : 1 ≤ w.1 8 0 1) (hk : w.1 8 0 1 < 6) (hs : w.2 (w.1 8 0 1 - 1) < 7) (ho2 : o2 < 7) (hne : w.2 (w.1 8 0 1 - 1) ≠ o2) : CtV l g yX0_restore cX0_restore 2 none rm_X0_restore [.ref (g_ad g 8 0), .ref (g_ad g o2 0)] (w) (wO (hK w (w.1 8 0 1 - 1) w.2) o2 (kCp (w.1 o2) (w.1 (w.2 (w.1 8 0 1 - 1))))) := by
  refine ct_of mi_X0_restore.2.2.2.2.2 ⟨rfl, rfl⟩ (List.forall_mem_cons.mpr ⟨rfl, List.forall_mem_cons.mpr ⟨rfl, fun _ h => absurd h List.not_mem_nil⟩⟩) (Nat.le_of_ble_eq_true rfl) (fun P hX => ?_)
  replace hX : Gd l g RX0 cX0_restore rm_X0_restore 2 none _ _ P := hX
  show P (w) 0 [some (.ref (g_ad g 8 0)), some (.ref (g_ad g o2 0))] []
  refine pw_aload_n hX rfl dX0_restore_0 (q := 1) rfl ?_
  refine pw_dup hX rfl dX0_restore_1 (q := 2) rfl ?_
  refine pw_getH hX 1 (by decide) fl_X0_17 rfl dX0_restore_2 (q := 5) rfl ?_
  refine pw_iconst hX (k := 1) rfl (by decide) dX0_restore_5 (q := 6) rfl ?_
  refine pw_isubN hX (by first | assumption | omega) dX0_restore_6 (q := 7) rfl ?_
  refine pw_putH hX 1 (by decide) fl_X0_17 dX0_restore_7 (q := 10) rfl ?_
  rw [hK_1]
  refine pw_aload_n hX rfl dX0_restore_10 (q := 11) rfl ?_
  refine pw_aload_n hX rfl dX0_restore_11 (q := 12) rfl ?_
  refine pw_getH hX 0 (by decide) fl_X0_11 rfl dX0_restore_12 (q := 15) rfl ?_
  refine pw_aload_n hX rfl dX0_restore_15 (q := 16) rfl ?_
  refine pw_getH hX 1 (by decide) fl_X0_17 rfl dX0_restore_16 (q := 19) rfl ?_
  rw [hK_k]
  refine pw_aald hX (by omega) dX0_restore_19 (q := 20) rfl ?_
  refine pw_cvV1 hX dX0_restore_20 (q := 23) rfl mi_X2_copyFrom ml_X0_22 (rcV ho2) ⟨rfl, rfl, by decide, by decide⟩ rfl (Nat.le_of_ble_eq_true rfl) (c_X2_copyFrom ho2 hs hne).at ?_
  refine pw_return hX dX0_restore_23 rfl ⟨rfl, ?_⟩
  rw [hK_n _ _ _ (show o2 ≠ 8 by omega), hK_n _ _ _ (show w.2 (w.1 8 0 1 - 1) ≠ 8 by omega)]
end
section
def oW (w : WD) (O : Nat → Nat → Nat) : WD := wO w 7 O
end
section
def HH (w : WD) : Prop := w.1 8 0 1 ≤ 4 ∧ ∀ i, i < 5 → 2 ≤ w.2 i ∧ w.2 i < 7
theorem HH_wO {w : WD} (h : HH w) {o : Nat} (V : Nat → Nat → Nat) (ho : o < 8) : HH (wO w o V) := by
  refine ⟨?_, h.2⟩
  rw [wO_n _ _ (show 8 ≠ o by omega)]; exact h.1
theorem h07 : 0 < 7 := by decide
abbrev Prep (w : WD) : WD := wO w (w.2 (w.1 8 0 1)) (kCp (w.1 (w.2 (w.1 8 0 1))) (w.1 0))
def Rec (w : WD) (r : Int32) : WD := if r < 0 then w else hKeep w
theorem HH.k {w : WD} (h : HH w) : w.1 8 0 1 < 5 := by have := h.1; omega
theorem HH.s {w : WD} (h : HH w) : w.2 (w.1 8 0 1) < 7 := (h.2 _ h.k).2
theorem HH.n {w : WD} (h : HH w) : 0 ≠ w.2 (w.1 8 0 1) := by have := (h.2 _ h.k).1; omega
theorem Prep_H {w : WD} (h : HH w) : HH (Prep w) := HH_wO h _ (by have := h.s; omega)
theorem Prep_id {w : WD} (h : HH w) : wO (Prep w) 0 (w.1 0) = Prep w := by
  have e : (Prep w).1 0 = w.1 0 := wO_n _ _ h.n
  rw [← e, wO_id]
theorem CtI.p {l : Launch} {g : Geo} {y : MethodName} {bytes : ByteArray} {maxL : Nat} {ret : Option FieldType} {rm : Room} {av : List Value} {w : WD} {r : Int32} {z : WD} (h : CtI l g y bytes maxL ret rm av (wO (Prep w) 0 (w.1 0)) r z) (hH : HH w) : CtI l g y bytes maxL ret rm av (Prep w) r z := by
  rw [Prep_id hH] at h; exact h
theorem CtI.r {l : Launch} {g : Geo} {y : MethodName} {bytes : ByteArray} {maxL : Nat} {ret : Option FieldType} {rm : Room} {av : List Value} {w : WD} {o : Nat} {r : Int32} (h : CtI l g y bytes maxL ret rm av (wO w o (w.1 o)) r (wO w o (w.1 o))) : CtI l g y bytes maxL ret rm av w r w := by
  rw [wO_id] at h; exact h
theorem oW_id (w : WD) : oW w (w.1 7) = w := wO_id w 7
theorem CtI.o {l : Launch} {g : Geo} {y : MethodName} {bytes : ByteArray} {maxL : Nat} {ret : Option FieldType} {rm : Room} {av : List Value} {w : WD} {r : Int32} {z : WD} (h : CtI l g y bytes maxL ret rm av (oW w (w.1 7)) r z) : CtI l g y bytes maxL ret rm av w r z := by
  rw [oW_id] at h; exact h
theorem CtV.o {l : Launch} {g : Geo} {y : MethodName} {bytes : ByteArray} {maxL : Nat} {ret : Option FieldType} {rm : Room} {av : List Value} {w : WD} {o : Nat} {V : Nat → Nat → Nat} {z : WD} (h : CtV l g y bytes maxL ret rm av (wO (oW w (w.1 7)) o V) z) : CtV l g y bytes maxL ret rm av (wO w o V) z := by
  rw [oW_id] at h; exact h
abbrev rm_X3_recorded : Room := { frames := 2, cells := 0, slots := 0, locals := 42 }
set_option maxHeartbeats 800000 in
set_option maxRecDepth 20000 in
theorem c_X3_recorded {l : Launch} {g : Geo} {w : WD} {r : Int32} (hH : HH w) : CtI l g yX3_recorded cX3_recorded 2 (some .int) rm_X3_recorded [.ref (g_ad g 10 0), .int r] (w) (r) (Rec w r) := by
  refine ct_of mi_X3_recorded.2.2.2.2.2 ⟨rfl, rfl⟩ (List.forall_mem_cons.mpr ⟨rfl, List.forall_mem_cons.mpr ⟨rfl, fun _ h => absurd h List.not_mem_nil⟩⟩) (Nat.le_of_ble_eq_true rfl) (fun P hX => ?_)
  replace hX : Gd l g RX3 cX3_recorded rm_X3_recorded 2 (some .int) _ _ P := hX
  show P (w) 0 [some (.ref (g_ad g 10 0)), some (.int r)] []
  refine pw_iload_n hX rfl dX3_recorded_0 (q := 1) rfl ?_
  refine pw_if_lt hX (tgt := 11) dX3_recorded_1 (q := 4) rfl (by decide) (fun h_1 => ?_) (fun h_1 => ?_)
  · refine pw_iload_n hX rfl dX3_recorded_11 (q := 12) rfl ?_
    refine pw_ireturn hX dX3_recorded_12 ⟨_, rfl, rfl⟩ ⟨congrArg (fun z => some (Value.int z)) ?_, ?_⟩
    · rfl
    · first | (rw [Rec, if_pos h_1]; done) | (rw [Rec, if_neg h_1]; done)
  · refine pw_aload_n hX rfl dX3_recorded_4 (q := 5) rfl ?_
    refine pw_getR hX 2 (by decide) fl_X3_22 rfl dX3_recorded_5 (q := 8) rfl ?_
    refine pw_cvV0 hX dX3_recorded_8 (q := 11) rfl mi_X0_keep ml_X3_219 rcH ⟨rfl, rfl, by decide, by decide⟩ rfl (Nat.le_of_ble_eq_true rfl) (c_X0_keep hH.1 (fun i hi => (hH.2 i hi).2)) ?_
    refine pw_iload_n hX rfl dX3_recorded_11 (q := 12) rfl ?_
    refine pw_ireturn hX dX3_recorded_12 ⟨_, rfl, rfl⟩ ⟨congrArg (fun z => some (Value.int z)) ?_, ?_⟩
    · rfl
    · first | (rw [Rec, if_pos h_1]; done) | (rw [Rec, if_neg h_1]; done)
abbrev rm_X3_villager : Room := { frames := 4, cells := 0, slots := 0, locals := 90 }
set_option maxHeartbeats 800000 in
set_option maxRecDepth 20000 in
theorem c_X3_villager {l : Launch} {g : Geo} {w : WD} (hH : HH w) (hV : bV (w.1 0)) : CtI l g yX3_villager cX3_villager 1 (some .int) rm_X3_villager [.ref (g_ad g 10 0)] (w) ((kAdd (w.1 0)).2) (Rec (wO (Prep w) 0 (kAdd (w.1 0)).1) (kAdd (w.1 0)).2) := by
  refine ct_of mi_X3_villager.2.2.2.2.2 ⟨rfl, rfl⟩ (List.forall_mem_cons.mpr ⟨rfl, fun _ h => absurd h List.not_mem_nil⟩) (Nat.le_of_ble_eq_true rfl) (fun P hX => ?_)
  replace hX : Gd l g RX3 cX3_villager rm_X3_villager 1 (some .int) _ _ P := hX
  show P (w) 0 [some (.ref (g_ad g 10 0))] []
  refine pw_aload_n hX rfl dX3_villager_0 (q := 1) rfl ?_
  refine pw_getR hX 2 (by decide) fl_X3_22 rfl dX3_villager_1 (q := 4) rfl ?_
  refine pw_aload_n hX rfl dX3_villager_4 (q := 5) rfl ?_
  refine pw_getR hX 0 (by decide) fl_X3_10 rfl dX3_villager_5 (q := 8) rfl ?_
  refine pw_cvV1 hX dX3_villager_8 (q := 11) rfl mi_X0_prepare ml_X3_33 rcH ⟨rfl, rfl, by decide, by decide⟩ rfl (Nat.le_of_ble_eq_true rfl) (c_X0_prepare hH.k hH.s h07 hH.n) ?_
  refine pw_aload_n hX rfl dX3_villager_11 (q := 12) rfl ?_
  refine pw_aload_n hX rfl dX3_villager_12 (q := 13) rfl ?_
  refine pw_getR hX 0 (by decide) fl_X3_10 rfl dX3_villager_13 (q := 16) rfl ?_
  refine pw_cvI0 hX dX3_villager_16 (q := 19) rfl mi_X2_addVillager ml_X3_37 (rcV (show 0 < 7 by decide)) ⟨rfl, rfl, by decide, by decide⟩ rfl (Nat.le_of_ble_eq_true rfl) ((c_X2_addVillager h07 hV).p hH) ?_
  refine pw_cvI1 hX dX3_villager_19 (q := 22) rfl mi_X3_recorded ml_X3_41 rcR ⟨rfl, rfl, by decide, by decide⟩ rfl (Nat.le_of_ble_eq_true rfl) (c_X3_recorded (HH_wO (Prep_H hH) _ (by decide))) ?_
  refine pw_ireturn hX dX3_villager_22 ⟨_, rfl, rfl⟩ ⟨congrArg (fun z => some (Value.int z)) ?_, ?_⟩
  · rfl
  · rfl
abbrev rm_X3_sleep : Room := { frames := 4, cells := 0, slots := 0, locals := 90 }
set_option maxHeartbeats 800000 in
set_option maxRecDepth 20000 in
theorem c_X3_sleep {l : Launch} {g : Geo} {w : WD} {v : Int32} (hH : HH w) (hV : bV (w.1 0)) : CtI l g yX3_sleep cX3_sleep 2 (some .int) rm_X3_sleep [.ref (g_ad g 10 0), .int v] (w) ((kSl (w.1 0) v).2) (Rec (wO (Prep w) 0 (kSl (w.1 0) v).1) (kSl (w.1 0) v).2) := by
  refine ct_of mi_X3_sleep.2.2.2.2.2 ⟨rfl, rfl⟩ (List.forall_mem_cons.mpr ⟨rfl, List.forall_mem_cons.mpr ⟨rfl, fun _ h => absurd h List.not_mem_nil⟩⟩) (Nat.le_of_ble_eq_true rfl) (fun P hX => ?_)
  replace hX : Gd l g RX3 cX3_sleep rm_X3_sleep 2 (some .int) _ _ P := hX
  show P (w) 0 [some (.ref (g_ad g 10 0)), some (.int v)] []
  refine pw_aload_n hX rfl dX3_sleep_0 (q := 1) rfl ?_
  refine pw_getR hX 2 (by decide) fl_X3_22 rfl dX3_sleep_1 (q := 4) rfl ?_
  refine pw_aload_n hX rfl dX3_sleep_4 (q := 5) rfl ?_
  refine pw_getR hX 0 (by decide) fl_X3_10 rfl dX3_sleep_5 (q := 8) rfl ?_
  refine pw_cvV1 hX dX3_sleep_8 (q := 11) rfl mi_X0_prepare ml_X3_33 rcH ⟨rfl, rfl, by decide, by decide⟩ rfl (Nat.le_of_ble_eq_true rfl) (c_X0_prepare hH.k hH.s h07 hH.n) ?_
  refine pw_aload_n hX rfl dX3_sleep_11 (q := 12) rfl ?_
  refine pw_aload_n hX rfl dX3_sleep_12 (q := 13) rfl ?_
  refine pw_getR hX 0 (by decide) fl_X3_10 rfl dX3_sleep_13 (q := 16) rfl ?_
  refine pw_iload_n hX rfl dX3_sleep_16 (q := 17) rfl ?_
  refine pw_cvI1 hX dX3_sleep_17 (q := 20) rfl mi_X2_fallAsleep ml_X3_45 (rcV (show 0 < 7 by decide)) ⟨rfl, rfl, by decide, by decide⟩ rfl (Nat.le_of_ble_eq_true rfl) ((c_X2_fallAsleep h07 hV).p hH) ?_
  refine pw_cvI1 hX dX3_sleep_20 (q := 23) rfl mi_X3_recorded ml_X3_41 rcR ⟨rfl, rfl, by decide, by decide⟩ rfl (Nat.le_of_ble_eq_true rfl) (c_X3_recorded (HH_wO (Prep_H hH) _ (by decide))) ?_
  refine pw_ireturn hX dX3_sleep_23 ⟨_, rfl, rfl⟩ ⟨congrArg (fun z => some (Value.int z)) ?_, ?_⟩
  · rfl
  · rfl
abbrev rm_X3_wake : Room := { frames := 4, cells := 0, slots := 0, locals := 90 }
set_option maxHeartbeats 800000 in
set_option maxRecDepth 20000 in
theorem c_X3_wake {l : Launch} {g : Geo} {w : WD} {v : Int32} (hH : HH w) (hV : bV (w.1 0)) : CtI l g yX3_wake cX3_wake 2 (some .int) rm_X3_wake [.ref (g_ad g 10 0), .int v] (w) ((kWk (w.1 0) v).2) (Rec (wO (Prep w) 0 (kWk (w.1 0) v).1) (kWk (w.1 0) v).2) := by
  refine ct_of mi_X3_wake.2.2.2.2.2 ⟨rfl, rfl⟩ (List.forall_mem_cons.mpr ⟨rfl, List.forall_mem_cons.mpr ⟨rfl, fun _ h => absurd h List.not_mem_nil⟩⟩) (Nat.le_of_ble_eq_true rfl) (fun P hX => ?_)
  replace hX : Gd l g RX3 cX3_wake rm_X3_wake 2 (some .int) _ _ P := hX
  show P (w) 0 [some (.ref (g_ad g 10 0)), some (.int v)] []
  refine pw_aload_n hX rfl dX3_wake_0 (q := 1) rfl ?_
  refine pw_getR hX 2 (by decide) fl_X3_22 rfl dX3_wake_1 (q := 4) rfl ?_
  refine pw_aload_n hX rfl dX3_wake_4 (q := 5) rfl ?_
  refine pw_getR hX 0 (by decide) fl_X3_10 rfl dX3_wake_5 (q := 8) rfl ?_
  refine pw_cvV1 hX dX3_wake_8 (q := 11) rfl mi_X0_prepare ml_X3_33 rcH ⟨rfl, rfl, by decide, by decide⟩ rfl (Nat.le_of_ble_eq_true rfl) (c_X0_prepare hH.k hH.s h07 hH.n) ?_
  refine pw_aload_n hX rfl dX3_wake_11 (q := 12) rfl ?_
  refine pw_aload_n hX rfl dX3_wake_12 (q := 13) rfl ?_
  refine pw_getR hX 0 (by decide) fl_X3_10 rfl dX3_wake_13 (q := 16) rfl ?_
  refine pw_iload_n hX rfl dX3_wake_16 (q := 17) rfl ?_
  refine pw_cvI1 hX dX3_wake_17 (q := 20) rfl mi_X2_wakeUp ml_X3_48 (rcV (show 0 < 7 by decide)) ⟨rfl, rfl, by decide, by decide⟩ rfl (Nat.le_of_ble_eq_true rfl) ((c_X2_wakeUp h07 hV).p hH) ?_
  refine pw_cvI1 hX dX3_wake_20 (q := 23) rfl mi_X3_recorded ml_X3_41 rcR ⟨rfl, rfl, by decide, by decide⟩ rfl (Nat.le_of_ble_eq_true rfl) (c_X3_recorded (HH_wO (Prep_H hH) _ (by decide))) ?_
  refine pw_ireturn hX dX3_wake_23 ⟨_, rfl, rfl⟩ ⟨congrArg (fun z => some (Value.int z)) ?_, ?_⟩
  · rfl
  · rfl
abbrev rm_X3_leave : Room := { frames := 4, cells := 0, slots := 0, locals := 90 }
set_option maxHeartbeats 800000 in
set_option maxRecDepth 20000 in
theorem c_X3_leave {l : Launch} {g : Geo} {w : WD} {v : Int32} (hH : HH w) (hV : bV (w.1 0)) : CtI l g yX3_leave cX3_leave 2 (some .int) rm_X3_leave [.ref (g_ad g 10 0), .int v] (w) ((kLv (w.1 0) v).2) (Rec (wO (Prep w) 0 (kLv (w.1 0) v).1) (kLv (w.1 0) v).2) := by
  refine ct_of mi_X3_leave.2.2.2.2.2 ⟨rfl, rfl⟩ (List.forall_mem_cons.mpr ⟨rfl, List.forall_mem_cons.mpr ⟨rfl, fun _ h => absurd h List.not_mem_nil⟩⟩) (Nat.le_of_ble_eq_true rfl) (fun P hX => ?_)
  replace hX : Gd l g RX3 cX3_leave rm_X3_leave 2 (some .int) _ _ P := hX
  show P (w) 0 [some (.ref (g_ad g 10 0)), some (.int v)] []
  refine pw_aload_n hX rfl dX3_leave_0 (q := 1) rfl ?_
  refine pw_getR hX 2 (by decide) fl_X3_22 rfl dX3_leave_1 (q := 4) rfl ?_
  refine pw_aload_n hX rfl dX3_leave_4 (q := 5) rfl ?_
  refine pw_getR hX 0 (by decide) fl_X3_10 rfl dX3_leave_5 (q := 8) rfl ?_
  refine pw_cvV1 hX dX3_leave_8 (q := 11) rfl mi_X0_prepare ml_X3_33 rcH ⟨rfl, rfl, by decide, by decide⟩ rfl (Nat.le_of_ble_eq_true rfl) (c_X0_prepare hH.k hH.s h07 hH.n) ?_
  refine pw_aload_n hX rfl dX3_leave_11 (q := 12) rfl ?_
  refine pw_aload_n hX rfl dX3_leave_12 (q := 13) rfl ?_
  refine pw_getR hX 0 (by decide) fl_X3_10 rfl dX3_leave_13 (q := 16) rfl ?_
  refine pw_iload_n hX rfl dX3_leave_16 (q := 17) rfl ?_
  refine pw_cvI1 hX dX3_leave_17 (q := 20) rfl mi_X2_goAway ml_X3_51 (rcV (show 0 < 7 by decide)) ⟨rfl, rfl, by decide, by decide⟩ rfl (Nat.le_of_ble_eq_true rfl) ((c_X2_goAway h07 hV).p hH) ?_
  refine pw_cvI1 hX dX3_leave_20 (q := 23) rfl mi_X3_recorded ml_X3_41 rcR ⟨rfl, rfl, by decide, by decide⟩ rfl (Nat.le_of_ble_eq_true rfl) (c_X3_recorded (HH_wO (Prep_H hH) _ (by decide))) ?_
  refine pw_ireturn hX dX3_leave_23 ⟨_, rfl, rfl⟩ ⟨congrArg (fun z => some (Value.int z)) ?_, ?_⟩
  · rfl
  · rfl
abbrev rm_X3_watch : Room := { frames := 4, cells := 0, slots := 0, locals := 90 }
set_option maxHeartbeats 800000 in
set_option maxRecDepth 20000 in
theorem c_X3_watch {l : Launch} {g : Geo} {w : WD} {v : Int32} (hH : HH w) (hV : bV (w.1 0)) : CtI l g yX3_watch cX3_watch 2 (some .int) rm_X3_watch [.ref (g_ad g 10 0), .int v] (w) ((kCw (w.1 0) v).2) (Rec (wO (Prep w) 0 (kCw (w.1 0) v).1) (kCw (w.1 0) v).2) := by
  refine ct_of mi_X3_watch.2.2.2.2.2 ⟨rfl, rfl⟩ (List.forall_mem_cons.mpr ⟨rfl, List.forall_mem_cons.mpr ⟨rfl, fun _ h => absurd h List.not_mem_nil⟩⟩) (Nat.le_of_ble_eq_true rfl) (fun P hX => ?_)
  replace hX : Gd l g RX3 cX3_watch rm_X3_watch 2 (some .int) _ _ P := hX
  show P (w) 0 [some (.ref (g_ad g 10 0)), some (.int v)] []
  refine pw_aload_n hX rfl dX3_watch_0 (q := 1) rfl ?_
  refine pw_getR hX 2 (by decide) fl_X3_22 rfl dX3_watch_1 (q := 4) rfl ?_
  refine pw_aload_n hX rfl dX3_watch_4 (q := 5) rfl ?_
  refine pw_getR hX 0 (by decide) fl_X3_10 rfl dX3_watch_5 (q := 8) rfl ?_
  refine pw_cvV1 hX dX3_watch_8 (q := 11) rfl mi_X0_prepare ml_X3_33 rcH ⟨rfl, rfl, by decide, by decide⟩ rfl (Nat.le_of_ble_eq_true rfl) (c_X0_prepare hH.k hH.s h07 hH.n) ?_
  refine pw_aload_n hX rfl dX3_watch_11 (q := 12) rfl ?_
  refine pw_aload_n hX rfl dX3_watch_12 (q := 13) rfl ?_
  refine pw_getR hX 0 (by decide) fl_X3_10 rfl dX3_watch_13 (q := 16) rfl ?_
  refine pw_iload_n hX rfl dX3_watch_16 (q := 17) rfl ?_
  refine pw_cvI1 hX dX3_watch_17 (q := 20) rfl mi_X2_changeWatch ml_X3_54 (rcV (show 0 < 7 by decide)) ⟨rfl, rfl, by decide, by decide⟩ rfl (Nat.le_of_ble_eq_true rfl) ((c_X2_changeWatch h07).p hH) ?_
  refine pw_cvI1 hX dX3_watch_20 (q := 23) rfl mi_X3_recorded ml_X3_41 rcR ⟨rfl, rfl, by decide, by decide⟩ rfl (Nat.le_of_ble_eq_true rfl) (c_X3_recorded (HH_wO (Prep_H hH) _ (by decide))) ?_
  refine pw_ireturn hX dX3_watch_23 ⟨_, rfl, rfl⟩ ⟨congrArg (fun z => some (Value.int z)) ?_, ?_⟩
  · rfl
  · rfl
abbrev rm_X3_tell : Room := { frames := 4, cells := 0, slots := 0, locals := 90 }
set_option maxHeartbeats 800000 in
set_option maxRecDepth 20000 in
theorem c_X3_tell {l : Launch} {g : Geo} {w : WD} {v t a k : Int32} (hH : HH w) (hV : bV (w.1 0)) : CtI l g yX3_tell cX3_tell 5 (some .int) rm_X3_tell [.ref (g_ad g 10 0), .int v, .int t, .int a, .int k] (w) ((kMR (w.1 0) v t a k).2) (Rec (wO (Prep w) 0 (kMR (w.1 0) v t a k).1) (kMR (w.1 0) v t a k).2) := by
  refine ct_of mi_X3_tell.2.2.2.2.2 ⟨rfl, rfl⟩ (List.forall_mem_cons.mpr ⟨rfl, List.forall_mem_cons.mpr ⟨rfl, List.forall_mem_cons.mpr ⟨rfl, List.forall_mem_cons.mpr ⟨rfl, List.forall_mem_cons.mpr ⟨rfl, fun _ h => absurd h List.not_mem_nil⟩⟩⟩⟩⟩) (Nat.le_of_ble_eq_true rfl) (fun P hX => ?_)
  replace hX : Gd l g RX3 cX3_tell rm_X3_tell 5 (some .int) _ _ P := hX
  show P (w) 0 [some (.ref (g_ad g 10 0)), some (.int v), some (.int t), some (.int a), some (.int k)] []
  refine pw_aload_n hX rfl dX3_tell_0 (q := 1) rfl ?_
  refine pw_getR hX 2 (by decide) fl_X3_22 rfl dX3_tell_1 (q := 4) rfl ?_
  refine pw_aload_n hX rfl dX3_tell_4 (q := 5) rfl ?_
  refine pw_getR hX 0 (by decide) fl_X3_10 rfl dX3_tell_5 (q := 8) rfl ?_
  refine pw_cvV1 hX dX3_tell_8 (q := 11) rfl mi_X0_prepare ml_X3_33 rcH ⟨rfl, rfl, by decide, by decide⟩ rfl (Nat.le_of_ble_eq_true rfl) (c_X0_prepare hH.k hH.s h07 hH.n) ?_
  refine pw_aload_n hX rfl dX3_tell_11 (q := 12) rfl ?_
  refine pw_aload_n hX rfl dX3_tell_12 (q := 13) rfl ?_
  refine pw_getR hX 0 (by decide) fl_X3_10 rfl dX3_tell_13 (q := 16) rfl ?_
  refine pw_iload_n hX rfl dX3_tell_16 (q := 17) rfl ?_
  refine pw_iload_n hX rfl dX3_tell_17 (q := 18) rfl ?_
  refine pw_iload_n hX rfl dX3_tell_18 (q := 19) rfl ?_
  refine pw_iload hX rfl dX3_tell_19 (q := 21) rfl ?_
  refine pw_cvI4 hX dX3_tell_21 (q := 24) rfl mi_X2_makeRumor ml_X3_85 (rcV (show 0 < 7 by decide)) ⟨rfl, rfl, by decide, by decide⟩ rfl (Nat.le_of_ble_eq_true rfl) ((c_X2_makeRumor h07 hV).p hH) ?_
  refine pw_cvI1 hX dX3_tell_24 (q := 27) rfl mi_X3_recorded ml_X3_41 rcR ⟨rfl, rfl, by decide, by decide⟩ rfl (Nat.le_of_ble_eq_true rfl) (c_X3_recorded (HH_wO (Prep_H hH) _ (by decide))) ?_
  refine pw_ireturn hX dX3_tell_27 ⟨_, rfl, rfl⟩ ⟨congrArg (fun z => some (Value.int z)) ?_, ?_⟩
  · rfl
  · rfl
abbrev rm_X3_bury : Room := { frames := 4, cells := 0, slots := 0, locals := 90 }
set_option maxHeartbeats 800000 in
set_option maxRecDepth 20000 in
theorem c_X3_bury {l : Launch} {g : Geo} {w : WD} {v t : Int32} (hH : HH w) (hV : bV (w.1 0)) (hc2 : ∀ i, i < 7 → (w.1 0 2 i + 1) * 8 + i < 2 ^ 30) : CtI l g yX3_bury cX3_bury 3 (some .int) rm_X3_bury [.ref (g_ad g 10 0), .int v, .int t] (w) ((kMT (w.1 0) v t).2) (Rec (wO (Prep w) 0 (kMT (w.1 0) v t).1) (kMT (w.1 0) v t).2) := by
  refine ct_of mi_X3_bury.2.2.2.2.2 ⟨rfl, rfl⟩ (List.forall_mem_cons.mpr ⟨rfl, List.forall_mem_cons.mpr ⟨rfl, List.forall_mem_cons.mpr ⟨rfl, fun _ h => absurd h List.not_mem_nil⟩⟩⟩) (Nat.le_of_ble_eq_true rfl) (fun P hX => ?_)
  replace hX : Gd l g RX3 cX3_bury rm_X3_bury 3 (some .int) _ _ P := hX
  show P (w) 0 [some (.ref (g_ad g 10 0)), some (.int v), some (.int t)] []
  refine pw_aload_n hX rfl dX3_bury_0 (q := 1) rfl ?_
  refine pw_getR hX 2 (by decide) fl_X3_22 rfl dX3_bury_1 (q := 4) rfl ?_
  refine pw_aload_n hX rfl dX3_bury_4 (q := 5) rfl ?_
  refine pw_getR hX 0 (by decide) fl_X3_10 rfl dX3_bury_5 (q := 8) rfl ?_
  refine pw_cvV1 hX dX3_bury_8 (q := 11) rfl mi_X0_prepare ml_X3_33 rcH ⟨rfl, rfl, by decide, by decide⟩ rfl (Nat.le_of_ble_eq_true rfl) (c_X0_prepare hH.k hH.s h07 hH.n) ?_
  refine pw_aload_n hX rfl dX3_bury_11 (q := 12) rfl ?_
  refine pw_aload_n hX rfl dX3_bury_12 (q := 13) rfl ?_
  refine pw_getR hX 0 (by decide) fl_X3_10 rfl dX3_bury_13 (q := 16) rfl ?_
  refine pw_iload_n hX rfl dX3_bury_16 (q := 17) rfl ?_
  refine pw_iload_n hX rfl dX3_bury_17 (q := 18) rfl ?_
  refine pw_cvI2 hX dX3_bury_18 (q := 21) rfl mi_X2_makeTomb ml_X3_89 (rcV (show 0 < 7 by decide)) ⟨rfl, rfl, by decide, by decide⟩ rfl (Nat.le_of_ble_eq_true rfl) ((c_X2_makeTomb h07 hV hc2).p hH) ?_
  refine pw_cvI1 hX dX3_bury_21 (q := 24) rfl mi_X3_recorded ml_X3_41 rcR ⟨rfl, rfl, by decide, by decide⟩ rfl (Nat.le_of_ble_eq_true rfl) (c_X3_recorded (HH_wO (Prep_H hH) _ (by decide))) ?_
  refine pw_ireturn hX dX3_bury_24 ⟨_, rfl, rfl⟩ ⟨congrArg (fun z => some (Value.int z)) ?_, ?_⟩
  · rfl
  · rfl
abbrev rm_X3_meet : Room := { frames := 5, cells := 0, slots := 0, locals := 120 }
set_option maxHeartbeats 800000 in
set_option maxRecDepth 20000 in
theorem c_X3_meet {l : Launch} {g : Geo} {w : WD} {v u : Int32} (hH : HH w) (hV : bV (w.1 0)) : CtI l g yX3_meet cX3_meet 3 (some .int) rm_X3_meet [.ref (g_ad g 10 0), .int v, .int u] (w) ((kMeet (w.1 0) v u).2) (Rec (wO (Prep w) 0 (kMeet (w.1 0) v u).1) (kMeet (w.1 0) v u).2) := by
  refine ct_of mi_X3_meet.2.2.2.2.2 ⟨rfl, rfl⟩ (List.forall_mem_cons.mpr ⟨rfl, List.forall_mem_cons.mpr ⟨rfl, List.forall_mem_cons.mpr ⟨rfl, fun _ h => absurd h List.not_mem_nil⟩⟩⟩) (Nat.le_of_ble_eq_true rfl) (fun P hX => ?_)
  replace hX : Gd l g RX3 cX3_meet rm_X3_meet 3 (some .int) _ _ P := hX
  show P (w) 0 [some (.ref (g_ad g 10 0)), some (.int v), some (.int u)] []
  refine pw_aload_n hX rfl dX3_meet_0 (q := 1) rfl ?_
  refine pw_getR hX 2 (by decide) fl_X3_22 rfl dX3_meet_1 (q := 4) rfl ?_
  refine pw_aload_n hX rfl dX3_meet_4 (q := 5) rfl ?_
  refine pw_getR hX 0 (by decide) fl_X3_10 rfl dX3_meet_5 (q := 8) rfl ?_
  refine pw_cvV1 hX dX3_meet_8 (q := 11) rfl mi_X0_prepare ml_X3_33 rcH ⟨rfl, rfl, by decide, by decide⟩ rfl (Nat.le_of_ble_eq_true rfl) (c_X0_prepare hH.k hH.s h07 hH.n) ?_
  refine pw_aload_n hX rfl dX3_meet_11 (q := 12) rfl ?_
  refine pw_aload_n hX rfl dX3_meet_12 (q := 13) rfl ?_
  refine pw_getR hX 0 (by decide) fl_X3_10 rfl dX3_meet_13 (q := 16) rfl ?_
  refine pw_iload_n hX rfl dX3_meet_16 (q := 17) rfl ?_
  refine pw_iload_n hX rfl dX3_meet_17 (q := 18) rfl ?_
  refine pw_cvI2 hX dX3_meet_18 (q := 21) rfl mi_X2_bringTogether ml_X3_93 (rcV (show 0 < 7 by decide)) ⟨rfl, rfl, by decide, by decide⟩ rfl (Nat.le_of_ble_eq_true rfl) ((c_X2_bringTogether h07 hV).p hH) ?_
  refine pw_cvI1 hX dX3_meet_21 (q := 24) rfl mi_X3_recorded ml_X3_41 rcR ⟨rfl, rfl, by decide, by decide⟩ rfl (Nat.le_of_ble_eq_true rfl) (c_X3_recorded (HH_wO (Prep_H hH) _ (by decide))) ?_
  refine pw_ireturn hX dX3_meet_24 ⟨_, rfl, rfl⟩ ⟨congrArg (fun z => some (Value.int z)) ?_, ?_⟩
  · rfl
  · rfl
abbrev rm_X3_tick : Room := { frames := 4, cells := 0, slots := 0, locals := 90 }
set_option maxHeartbeats 800000 in
set_option maxRecDepth 20000 in
theorem c_X3_tick {l : Launch} {g : Geo} {w : WD} {v : Int32} (hH : HH w) (hV : bV (w.1 0)) (hm : ∀ p, p < 84 → w.1 0 8 p ≤ w.1 0 0 1) : CtI l g yX3_tick cX3_tick 2 (some .int) rm_X3_tick [.ref (g_ad g 10 0), .int v] (w) ((kTick (w.1 0) v).2) (Rec (wO (Prep w) 0 (kTick (w.1 0) v).1) (kTick (w.1 0) v).2) := by
  refine ct_of mi_X3_tick.2.2.2.2.2 ⟨rfl, rfl⟩ (List.forall_mem_cons.mpr ⟨rfl, List.forall_mem_cons.mpr ⟨rfl, fun _ h => absurd h List.not_mem_nil⟩⟩) (Nat.le_of_ble_eq_true rfl) (fun P hX => ?_)
  replace hX : Gd l g RX3 cX3_tick rm_X3_tick 2 (some .int) _ _ P := hX
  show P (w) 0 [some (.ref (g_ad g 10 0)), some (.int v)] []
  refine pw_aload_n hX rfl dX3_tick_0 (q := 1) rfl ?_
  refine pw_getR hX 2 (by decide) fl_X3_22 rfl dX3_tick_1 (q := 4) rfl ?_
  refine pw_aload_n hX rfl dX3_tick_4 (q := 5) rfl ?_
  refine pw_getR hX 0 (by decide) fl_X3_10 rfl dX3_tick_5 (q := 8) rfl ?_
  refine pw_cvV1 hX dX3_tick_8 (q := 11) rfl mi_X0_prepare ml_X3_33 rcH ⟨rfl, rfl, by decide, by decide⟩ rfl (Nat.le_of_ble_eq_true rfl) (c_X0_prepare hH.k hH.s h07 hH.n) ?_
  refine pw_aload_n hX rfl dX3_tick_11 (q := 12) rfl ?_
  refine pw_aload_n hX rfl dX3_tick_12 (q := 13) rfl ?_
  refine pw_getR hX 0 (by decide) fl_X3_10 rfl dX3_tick_13 (q := 16) rfl ?_
  refine pw_iload_n hX rfl dX3_tick_16 (q := 17) rfl ?_
  refine pw_cvI1 hX dX3_tick_17 (q := 20) rfl mi_X2_letGoBy ml_X3_127 (rcV (show 0 < 7 by decide)) ⟨rfl, rfl, by decide, by decide⟩ rfl (Nat.le_of_ble_eq_true rfl) ((c_X2_letGoBy h07 ⟨hV, hm⟩).p hH) ?_
  refine pw_cvI1 hX dX3_tick_20 (q := 23) rfl mi_X3_recorded ml_X3_41 rcR ⟨rfl, rfl, by decide, by decide⟩ rfl (Nat.le_of_ble_eq_true rfl) (c_X3_recorded (HH_wO (Prep_H hH) _ (by decide))) ?_
  refine pw_ireturn hX dX3_tick_23 ⟨_, rfl, rfl⟩ ⟨congrArg (fun z => some (Value.int z)) ?_, ?_⟩
  · rfl
  · rfl
abbrev rm_X3_undo : Room := { frames := 4, cells := 0, slots := 0, locals := 90 }
set_option maxHeartbeats 800000 in
set_option maxRecDepth 20000 in
theorem c_X3_undo {l : Launch} {g : Geo} {w : WD} (hH : HH w) : CtI l g yX3_undo cX3_undo 1 (some .int) rm_X3_undo [.ref (g_ad g 10 0)] (w) (if w.1 8 0 1 = 0 then -1000002 else nI (w.1 8 0 1 - 1)) (if w.1 8 0 1 = 0 then w else wO (hK w (w.1 8 0 1 - 1) w.2) 0 (kCp (w.1 0) (w.1 (w.2 (w.1 8 0 1 - 1))))) := by
  refine ct_of mi_X3_undo.2.2.2.2.2 ⟨rfl, rfl⟩ (List.forall_mem_cons.mpr ⟨rfl, fun _ h => absurd h List.not_mem_nil⟩) (Nat.le_of_ble_eq_true rfl) (fun P hX => ?_)
  replace hX : Gd l g RX3 cX3_undo rm_X3_undo 1 (some .int) _ _ P := hX
  show P (w) 0 [some (.ref (g_ad g 10 0))] []
  refine pw_aload_n hX rfl dX3_undo_0 (q := 1) rfl ?_
  refine pw_getR hX 2 (by decide) fl_X3_22 rfl dX3_undo_1 (q := 4) rfl ?_
  refine pw_getHN hX 1 (by decide) fn_X3_193 rfl dX3_undo_4 (q := 7) rfl ?_
  refine pw_ifN_ne hX (by first | omega | (have h9 := hH.1; omega)) (tgt := 13) dX3_undo_7 (q := 10) rfl (by decide) (fun h_7 => ?_) (fun h_7 => ?_)
  · refine pw_aload_n hX rfl dX3_undo_13 (q := 14) rfl ?_
    refine pw_getR hX 2 (by decide) fl_X3_22 rfl dX3_undo_14 (q := 17) rfl ?_
    refine pw_aload_n hX rfl dX3_undo_17 (q := 18) rfl ?_
    refine pw_getR hX 0 (by decide) fl_X3_10 rfl dX3_undo_18 (q := 21) rfl ?_
    refine pw_cvV1 hX dX3_undo_21 (q := 24) rfl mi_X0_restore ml_X3_199 rcH ⟨rfl, rfl, by decide, by decide⟩ rfl (Nat.le_of_ble_eq_true rfl) (c_X0_restore (by omega) (by have h9 := hH.1; omega) (hH.2 _ (by have h9 := hH.1; omega)).2 h07 (by have h9 := (hH.2 (w.1 8 0 1 - 1) (by have h9 := hH.1; omega)).1; omega)) ?_
    refine pw_aload_n hX rfl dX3_undo_24 (q := 25) rfl ?_
    refine pw_getR hX 2 (by decide) fl_X3_22 rfl dX3_undo_25 (q := 28) rfl ?_
    refine pw_getHN hX 1 (by decide) fn_X3_193 rfl dX3_undo_28 (q := 31) rfl ?_
    refine pw_ireturn hX dX3_undo_31 ⟨_, rfl, rfl⟩ ⟨congrArg (fun z => some (Value.int z)) ?_, ?_⟩
    · rw [if_neg h_7]; rfl
    · rw [if_neg h_7]
  · refine pw_ldc hX cn_X3_142 dX3_undo_10 (q := 12) rfl ?_
    refine pw_ireturn hX dX3_undo_12 ⟨_, rfl, rfl⟩ ⟨congrArg (fun z => some (Value.int z)) ?_, ?_⟩
    · rw [if_pos h_7]
    · rw [if_pos h_7]
end
section
def qOf (V : Nat → Nat → Nat) (v a : Int32) : Int32 := if hasN (V 0 0) v = true ∧ inN 0 5 a = true then (if ix a = 0 then nI (V 1 (ix v)) else if ix a = 1 then nI (V 2 (ix v)) else if ix a = 2 then nI (bits (fun t => kRum V (ix v * 12 + t)) 12) else if ix a = 3 then nI (bits (fun t => kTmb V (ix v * 12 + t)) 12) else if ix a = 4 then nI (V 4 (ix v)) else (if V 1 (ix v) = 1 then nI (V 0 1) - nI (V 3 (ix v)) else -1000004)) else -1000001
def qUnl (V : Nat → Nat → Nat) (v u : Int32) : Int32 := if hasN (V 0 0) v = true ∧ hasN (V 0 0) u = true then nI (bits (fun t => !(decide (V 5 (ix v * 12 + t) = V 5 (ix u * 12 + t)))) 12) else -1000001
def qDead (V : Nat → Nat → Nat) (v : Int32) : Int32 := if hasN (V 0 0) v = true then nI (bits (fun t => kDead V (ix v) t) 12) else -1000001
def qCnt (V : Nat → Nat → Nat) (k n : Nat) (a : Int32) : Int32 := if inN 0 11 a = true then (if ix a = 0 then nI (V 0 0) else if ix a = 1 then nI (kMany V 0) else if ix a = 2 then nI (kMany V 1) else if ix a = 3 then nI (V 0 1) else if ix a = 4 then nI (V 0 2) else if ix a = 5 then nI (sm (fun v => cnt (fun t => kRum V (v * 12 + t)) 12) (V 0 0)) else if ix a = 6 then nI (sm (fun v => cnt (fun t => kTmb V (v * 12 + t)) 12) (V 0 0)) else if ix a = 7 then nI (sm (fun v => cnt (fun t => kDead V v t) 12) (V 0 0)) else if ix a = 8 then nI (sm (V 4) (V 0 0)) else if ix a = 9 then nI (V 0 3) else if ix a = 10 then nI k else nI n) else -1000001
def qEO (V : Nat → Nat → Nat) (v t a : Int32) : Int32 :=
  if hasN (V 0 0) v = true ∧ hasN 12 t = true ∧ inN 0 7 a = true then
    (if V 5 (ix v * 12 + ix t) = 0 then -1000004
     else if ix a = 0 then bI (kTmb V (ix v * 12 + ix t))
     else if ix a = 1 then nI (V 5 (ix v * 12 + ix t) / 8)
     else if ix a = 2 then nI (V 5 (ix v * 12 + ix t) % 8)
     else if ix a = 3 then (if kTmb V (ix v * 12 + ix t) = true then -1000004 else nI (V 7 (ix v * 12 + ix t)))
     else if ix a = 4 then (if kTmb V (ix v * 12 + ix t) = true then -1000004 else nI (V 6 (ix v * 12 + ix t)))
     else if ix a = 5 then (if kTmb V (ix v * 12 + ix t) = true then nI (V 8 (ix v * 12 + ix t)) else -1000004)
     else if ix a = 6 then (if kTmb V (ix v * 12 + ix t) = true then nI (V 9 (ix v * 12 + ix t)) else -1000004)
     else (if kTmb V (ix v * 12 + ix t) = true then -1000004 else bI (kDead V (ix v) (ix t))))
  else -1000001
theorem inN_out {n : Nat} {v : Int32} (h : ¬ inN 0 n v = true) : v.toInt < 0 ∨ (n : Int) < v.toInt := by
  unfold inN at h
  simp only [decide_eq_true_eq] at h
  omega
abbrev rm_X3_unlike : Room := { frames := 2, cells := 0, slots := 0, locals := 45 }
set_option maxHeartbeats 800000 in
set_option maxRecDepth 20000 in
theorem c_X3_unlike {l : Launch} {g : Geo} {w : WD} {v u : Int32} (hV : bV (w.1 0)) : CtI l g yX3_unlike cX3_unlike 3 (some .int) rm_X3_unlike [.ref (g_ad g 10 0), .int v, .int u] (w) (qUnl (w.1 0) v u) (w) := by
  refine ct_of mi_X3_unlike.2.2.2.2.2 ⟨rfl, rfl⟩ (List.forall_mem_cons.mpr ⟨rfl, List.forall_mem_cons.mpr ⟨rfl, List.forall_mem_cons.mpr ⟨rfl, fun _ h => absurd h List.not_mem_nil⟩⟩⟩) (Nat.le_of_ble_eq_true rfl) (fun P hX => ?_)
  replace hX : Gd l g RX3 cX3_unlike rm_X3_unlike 3 (some .int) _ _ P := hX
  show P (w) 0 [some (.ref (g_ad g 10 0)), some (.int v), some (.int u)] []
  refine pw_aload_n hX rfl dX3_unlike_0 (q := 1) rfl ?_
  refine pw_getR hX 0 (by decide) fl_X3_10 rfl dX3_unlike_1 (q := 4) rfl ?_
  refine pw_iload_n hX rfl dX3_unlike_4 (q := 5) rfl ?_
  refine pw_cvI1 hX dX3_unlike_5 (q := 8) rfl mi_X2_has ml_X3_57 (rcV (show 0 < 7 by decide)) ⟨rfl, rfl, by decide, by decide⟩ rfl (Nat.le_of_ble_eq_true rfl) (c_X2_has h07 hV).r ?_
  refine pw_ifB_eq hX (tgt := 22) dX3_unlike_8 (q := 11) rfl (by decide) (fun h_8 => ?_) (fun h_8 => ?_)
  · have hz : ¬ (hasN (w.1 0 0 0) v = true ∧ hasN (w.1 0 0 0) u = true) := fun z => by rw [h_8] at z; exact absurd z.1 (by decide)
    refine pw_ldc hX cn_X3_61 dX3_unlike_22 (q := 24) rfl ?_
    refine pw_ireturn hX dX3_unlike_24 ⟨_, rfl, rfl⟩ ⟨congrArg (fun z => some (Value.int z)) ?_, ?_⟩
    · rw [qUnl, if_neg hz]
    · rfl
  · obtain ⟨i, hi, rfl⟩ := hasN_of (bV_0 hV) h_8
    have hx : ix (nI i) = i := ix_nI (by have := hV.2.2.2.1; omega)
    have h7 := hV.2.2.2.1
    refine pw_aload_n hX rfl dX3_unlike_11 (q := 12) rfl ?_
    refine pw_getR hX 0 (by decide) fl_X3_10 rfl dX3_unlike_12 (q := 15) rfl ?_
    refine pw_iload_n hX rfl dX3_unlike_15 (q := 16) rfl ?_
    refine pw_cvI1 hX dX3_unlike_16 (q := 19) rfl mi_X2_has ml_X3_57 (rcV (show 0 < 7 by decide)) ⟨rfl, rfl, by decide, by decide⟩ rfl (Nat.le_of_ble_eq_true rfl) (c_X2_has h07 hV).r ?_
    refine pw_ifB_ne hX (tgt := 25) dX3_unlike_19 (q := 22) rfl (by decide) (fun h_19 => ?_) (fun h_19 => ?_)
    · obtain ⟨j, hj, rfl⟩ := hasN_of (bV_0 hV) h_19
      have hxj : ix (nI j) = j := ix_nI (by have := hV.2.2.2.1; omega)
      refine pw_aload_n hX rfl dX3_unlike_25 (q := 26) rfl ?_
      refine pw_getR hX 0 (by decide) fl_X3_10 rfl dX3_unlike_26 (q := 29) rfl ?_
      refine pw_iload_n hX rfl dX3_unlike_29 (q := 30) rfl ?_
      refine pw_iload_n hX rfl dX3_unlike_30 (q := 31) rfl ?_
      refine pw_cvI2 hX dX3_unlike_31 (q := 34) rfl mi_X2_unlikeTopics ml_X3_133 (rcV (show 0 < 7 by decide)) ⟨rfl, rfl, by decide, by decide⟩ rfl (Nat.le_of_ble_eq_true rfl) (c_X2_unlikeTopics h07 hV (by omega) (by omega)).r ?_
      refine pw_ireturn hX dX3_unlike_34 ⟨_, rfl, rfl⟩ ⟨congrArg (fun z => some (Value.int z)) ?_, ?_⟩
      · rw [qUnl, if_pos ⟨h_8, h_19⟩, hx, hxj]
      · rfl
    · have hz : ¬ (hasN (w.1 0 0 0) (nI i) = true ∧ hasN (w.1 0 0 0) u = true) := fun z => by rw [h_19] at z; exact absurd z.2 (by decide)
      refine pw_ldc hX cn_X3_61 dX3_unlike_22 (q := 24) rfl ?_
      refine pw_ireturn hX dX3_unlike_24 ⟨_, rfl, rfl⟩ ⟨congrArg (fun z => some (Value.int z)) ?_, ?_⟩
      · rw [qUnl, if_neg hz]
      · rfl
abbrev rm_X3_dead : Room := { frames := 3, cells := 0, slots := 0, locals := 67 }
set_option maxHeartbeats 800000 in
set_option maxRecDepth 20000 in
theorem c_X3_dead {l : Launch} {g : Geo} {w : WD} {v : Int32} (hV : bV (w.1 0)) : CtI l g yX3_dead cX3_dead 2 (some .int) rm_X3_dead [.ref (g_ad g 10 0), .int v] (w) (qDead (w.1 0) v) (w) := by
  refine ct_of mi_X3_dead.2.2.2.2.2 ⟨rfl, rfl⟩ (List.forall_mem_cons.mpr ⟨rfl, List.forall_mem_cons.mpr ⟨rfl, fun _ h => absurd h List.not_mem_nil⟩⟩) (Nat.le_of_ble_eq_true rfl) (fun P hX => ?_)
  replace hX : Gd l g RX3 cX3_dead rm_X3_dead 2 (some .int) _ _ P := hX
  show P (w) 0 [some (.ref (g_ad g 10 0)), some (.int v)] []
  refine pw_aload_n hX rfl dX3_dead_0 (q := 1) rfl ?_
  refine pw_getR hX 0 (by decide) fl_X3_10 rfl dX3_dead_1 (q := 4) rfl ?_
  refine pw_iload_n hX rfl dX3_dead_4 (q := 5) rfl ?_
  refine pw_cvI1 hX dX3_dead_5 (q := 8) rfl mi_X2_has ml_X3_57 (rcV (show 0 < 7 by decide)) ⟨rfl, rfl, by decide, by decide⟩ rfl (Nat.le_of_ble_eq_true rfl) (c_X2_has h07 hV).r ?_
  refine pw_ifB_eq hX (tgt := 22) dX3_dead_8 (q := 11) rfl (by decide) (fun h_8 => ?_) (fun h_8 => ?_)
  · refine pw_ldc hX cn_X3_61 dX3_dead_22 (q := 24) rfl ?_
    refine pw_ireturn hX dX3_dead_24 ⟨_, rfl, rfl⟩ ⟨congrArg (fun z => some (Value.int z)) ?_, ?_⟩
    · first | (rw [qDead, if_pos h_8, hx]; done) | (rw [qDead, if_neg (by rw [h_8]; decide)]; done)
    · rfl
  · obtain ⟨i, hi, rfl⟩ := hasN_of (bV_0 hV) h_8
    have hx : ix (nI i) = i := ix_nI (by have := hV.2.2.2.1; omega)
    have h7 := hV.2.2.2.1
    refine pw_aload_n hX rfl dX3_dead_11 (q := 12) rfl ?_
    refine pw_getR hX 0 (by decide) fl_X3_10 rfl dX3_dead_12 (q := 15) rfl ?_
    refine pw_iload_n hX rfl dX3_dead_15 (q := 16) rfl ?_
    refine pw_cvI1 hX dX3_dead_16 (q := 19) rfl mi_X2_deadTopics ml_X3_136 (rcV (show 0 < 7 by decide)) ⟨rfl, rfl, by decide, by decide⟩ rfl (Nat.le_of_ble_eq_true rfl) (c_X2_deadTopics h07 hV (by omega)).r ?_
    refine pw_goto hX (tgt := 24) dX3_dead_19 (by decide) ?_
    refine pw_ireturn hX dX3_dead_24 ⟨_, rfl, rfl⟩ ⟨congrArg (fun z => some (Value.int z)) ?_, ?_⟩
    · first | (rw [qDead, if_pos h_8, hx]; done) | (rw [qDead, if_neg (by rw [h_8]; decide)]; done)
    · rfl
abbrev rm_X3_count : Room := { frames := 4, cells := 0, slots := 0, locals := 89 }
set_option maxHeartbeats 800000 in
set_option maxRecDepth 20000 in
theorem c_X3_count {l : Launch} {g : Geo} {w : WD} {a : Int32} (hV : bV (w.1 0)) : CtI l g yX3_count cX3_count 2 (some .int) rm_X3_count [.ref (g_ad g 10 0), .int a] (w) (qCnt (w.1 0) (w.1 8 0 1) (w.1 7 0 1) a) (w) := by
  refine ct_of mi_X3_count.2.2.2.2.2 ⟨rfl, rfl⟩ (List.forall_mem_cons.mpr ⟨rfl, List.forall_mem_cons.mpr ⟨rfl, fun _ h => absurd h List.not_mem_nil⟩⟩) (Nat.le_of_ble_eq_true rfl) (fun P hX => ?_)
  replace hX : Gd l g RX3 cX3_count rm_X3_count 2 (some .int) _ _ P := hX
  show P (w) 0 [some (.ref (g_ad g 10 0)), some (.int a)] []
  refine pw_iload_n hX rfl dX3_count_0 (q := 1) rfl ?_
  rcases (show (∃ _ : inN 0 11 a = true, a = nI 0) ∨ (∃ _ : inN 0 11 a = true, a = nI 1) ∨ (∃ _ : inN 0 11 a = true, a = nI 2) ∨ (∃ _ : inN 0 11 a = true, a = nI 3) ∨ (∃ _ : inN 0 11 a = true, a = nI 4) ∨ (∃ _ : inN 0 11 a = true, a = nI 5) ∨ (∃ _ : inN 0 11 a = true, a = nI 6) ∨ (∃ _ : inN 0 11 a = true, a = nI 7) ∨ (∃ _ : inN 0 11 a = true, a = nI 8) ∨ (∃ _ : inN 0 11 a = true, a = nI 9) ∨ (∃ _ : inN 0 11 a = true, a = nI 10) ∨ (∃ _ : inN 0 11 a = true, a = nI 11) ∨ ¬ inN 0 11 a = true by
      by_cases hv : inN 0 11 a = true
      · obtain ⟨k, -, hk, e⟩ := inN_of (by decide) hv
        rcases (show k = 0 ∨ k = 1 ∨ k = 2 ∨ k = 3 ∨ k = 4 ∨ k = 5 ∨ k = 6 ∨ k = 7 ∨ k = 8 ∨ k = 9 ∨ k = 10 ∨ k = 11 by omega) with rfl | rfl | rfl | rfl | rfl | rfl | rfl | rfl | rfl | rfl | rfl | rfl
        · exact Or.inl ⟨hv, e⟩
        · exact Or.inr (Or.inl ⟨hv, e⟩)
        · exact Or.inr (Or.inr (Or.inl ⟨hv, e⟩))
        · exact Or.inr (Or.inr (Or.inr (Or.inl ⟨hv, e⟩)))
        · exact Or.inr (Or.inr (Or.inr (Or.inr (Or.inl ⟨hv, e⟩))))
        · exact Or.inr (Or.inr (Or.inr (Or.inr (Or.inr (Or.inl ⟨hv, e⟩)))))
        · exact Or.inr (Or.inr (Or.inr (Or.inr (Or.inr (Or.inr (Or.inl ⟨hv, e⟩))))))
        · exact Or.inr (Or.inr (Or.inr (Or.inr (Or.inr (Or.inr (Or.inr (Or.inl ⟨hv, e⟩)))))))
        · exact Or.inr (Or.inr (Or.inr (Or.inr (Or.inr (Or.inr (Or.inr (Or.inr (Or.inl ⟨hv, e⟩))))))))
        · exact Or.inr (Or.inr (Or.inr (Or.inr (Or.inr (Or.inr (Or.inr (Or.inr (Or.inr (Or.inl ⟨hv, e⟩)))))))))
        · exact Or.inr (Or.inr (Or.inr (Or.inr (Or.inr (Or.inr (Or.inr (Or.inr (Or.inr (Or.inr (Or.inl ⟨hv, e⟩))))))))))
        · exact Or.inr (Or.inr (Or.inr (Or.inr (Or.inr (Or.inr (Or.inr (Or.inr (Or.inr (Or.inr (Or.inr (Or.inl ⟨hv, e⟩)))))))))))
      · exact Or.inr (Or.inr (Or.inr (Or.inr (Or.inr (Or.inr (Or.inr (Or.inr (Or.inr (Or.inr (Or.inr (Or.inr (hv))))))))))))) with ⟨hv, rfl⟩ | ⟨hv, rfl⟩ | ⟨hv, rfl⟩ | ⟨hv, rfl⟩ | ⟨hv, rfl⟩ | ⟨hv, rfl⟩ | ⟨hv, rfl⟩ | ⟨hv, rfl⟩ | ⟨hv, rfl⟩ | ⟨hv, rfl⟩ | ⟨hv, rfl⟩ | ⟨hv, rfl⟩ | hv
  · have hxk := ix_nI (show 0 < 2 ^ 31 by decide)
    · refine pw_tabIn hX (tgt := 64) (off := 63) dX3_count_1 (by decide) (by decide) (by decide) (by decide) ?_
      refine pw_aload_n hX rfl dX3_count_64 (q := 65) rfl ?_
      refine pw_getR hX 0 (by decide) fl_X3_10 rfl dX3_count_65 (q := 68) rfl ?_
      refine pw_getVN hX (show 0 < 7 by decide) 0 (by decide) fn_X3_168 rfl dX3_count_68 (q := 71) rfl ?_
      refine pw_ireturn hX dX3_count_71 ⟨_, rfl, rfl⟩ ⟨congrArg (fun z => some (Value.int z)) ?_, ?_⟩
      · rw [qCnt, if_pos hv, hxk]; rfl
      · rfl
  · have hxk := ix_nI (show 1 < 2 ^ 31 by decide)
    · refine pw_tabIn hX (tgt := 72) (off := 71) dX3_count_1 (by decide) (by decide) (by decide) (by decide) ?_
      refine pw_aload_n hX rfl dX3_count_72 (q := 73) rfl ?_
      refine pw_getR hX 0 (by decide) fl_X3_10 rfl dX3_count_73 (q := 76) rfl ?_
      refine pw_iconst hX (k := 0) rfl (by decide) dX3_count_76 (q := 77) rfl ?_
      refine pw_cvI1 hX dX3_count_77 (q := 80) rfl mi_X2_howMany ml_X3_172 (rcV (show 0 < 7 by decide)) ⟨rfl, rfl, by decide, by decide⟩ rfl (Nat.le_of_ble_eq_true rfl) (c_X2_howMany h07 hV (by decide)).r ?_
      refine pw_ireturn hX dX3_count_80 ⟨_, rfl, rfl⟩ ⟨congrArg (fun z => some (Value.int z)) ?_, ?_⟩
      · rw [qCnt, if_pos hv, hxk]; rfl
      · rfl
  · have hxk := ix_nI (show 2 < 2 ^ 31 by decide)
    · refine pw_tabIn hX (tgt := 81) (off := 80) dX3_count_1 (by decide) (by decide) (by decide) (by decide) ?_
      refine pw_aload_n hX rfl dX3_count_81 (q := 82) rfl ?_
      refine pw_getR hX 0 (by decide) fl_X3_10 rfl dX3_count_82 (q := 85) rfl ?_
      refine pw_iconst hX (k := 1) rfl (by decide) dX3_count_85 (q := 86) rfl ?_
      refine pw_cvI1 hX dX3_count_86 (q := 89) rfl mi_X2_howMany ml_X3_172 (rcV (show 0 < 7 by decide)) ⟨rfl, rfl, by decide, by decide⟩ rfl (Nat.le_of_ble_eq_true rfl) (c_X2_howMany h07 hV (by decide)).r ?_
      refine pw_ireturn hX dX3_count_89 ⟨_, rfl, rfl⟩ ⟨congrArg (fun z => some (Value.int z)) ?_, ?_⟩
      · rw [qCnt, if_pos hv, hxk]; rfl
      · rfl
  · have hxk := ix_nI (show 3 < 2 ^ 31 by decide)
    · refine pw_tabIn hX (tgt := 90) (off := 89) dX3_count_1 (by decide) (by decide) (by decide) (by decide) ?_
      refine pw_aload_n hX rfl dX3_count_90 (q := 91) rfl ?_
      refine pw_getR hX 0 (by decide) fl_X3_10 rfl dX3_count_91 (q := 94) rfl ?_
      refine pw_getVN hX (show 0 < 7 by decide) 1 (by decide) fn_X3_175 rfl dX3_count_94 (q := 97) rfl ?_
      refine pw_ireturn hX dX3_count_97 ⟨_, rfl, rfl⟩ ⟨congrArg (fun z => some (Value.int z)) ?_, ?_⟩
      · rw [qCnt, if_pos hv, hxk]; rfl
      · rfl
  · have hxk := ix_nI (show 4 < 2 ^ 31 by decide)
    · refine pw_tabIn hX (tgt := 98) (off := 97) dX3_count_1 (by decide) (by decide) (by decide) (by decide) ?_
      refine pw_aload_n hX rfl dX3_count_98 (q := 99) rfl ?_
      refine pw_getR hX 0 (by decide) fl_X3_10 rfl dX3_count_99 (q := 102) rfl ?_
      refine pw_getVN hX (show 0 < 7 by decide) 2 (by decide) fn_X3_178 rfl dX3_count_102 (q := 105) rfl ?_
      refine pw_ireturn hX dX3_count_105 ⟨_, rfl, rfl⟩ ⟨congrArg (fun z => some (Value.int z)) ?_, ?_⟩
      · rw [qCnt, if_pos hv, hxk]; rfl
      · rfl
  · have hxk := ix_nI (show 5 < 2 ^ 31 by decide)
    · refine pw_tabIn hX (tgt := 106) (off := 105) dX3_count_1 (by decide) (by decide) (by decide) (by decide) ?_
      refine pw_aload_n hX rfl dX3_count_106 (q := 107) rfl ?_
      refine pw_getR hX 0 (by decide) fl_X3_10 rfl dX3_count_107 (q := 110) rfl ?_
      refine pw_cvI0 hX dX3_count_110 (q := 113) rfl mi_X2_allRumors ml_X3_181 (rcV (show 0 < 7 by decide)) ⟨rfl, rfl, by decide, by decide⟩ rfl (Nat.le_of_ble_eq_true rfl) (c_X2_allRumors h07 hV).r ?_
      refine pw_ireturn hX dX3_count_113 ⟨_, rfl, rfl⟩ ⟨congrArg (fun z => some (Value.int z)) ?_, ?_⟩
      · rw [qCnt, if_pos hv, hxk]; rfl
      · rfl
  · have hxk := ix_nI (show 6 < 2 ^ 31 by decide)
    · refine pw_tabIn hX (tgt := 114) (off := 113) dX3_count_1 (by decide) (by decide) (by decide) (by decide) ?_
      refine pw_aload_n hX rfl dX3_count_114 (q := 115) rfl ?_
      refine pw_getR hX 0 (by decide) fl_X3_10 rfl dX3_count_115 (q := 118) rfl ?_
      refine pw_cvI0 hX dX3_count_118 (q := 121) rfl mi_X2_allTombs ml_X3_184 (rcV (show 0 < 7 by decide)) ⟨rfl, rfl, by decide, by decide⟩ rfl (Nat.le_of_ble_eq_true rfl) (c_X2_allTombs h07 hV).r ?_
      refine pw_ireturn hX dX3_count_121 ⟨_, rfl, rfl⟩ ⟨congrArg (fun z => some (Value.int z)) ?_, ?_⟩
      · rw [qCnt, if_pos hv, hxk]; rfl
      · rfl
  · have hxk := ix_nI (show 7 < 2 ^ 31 by decide)
    · refine pw_tabIn hX (tgt := 122) (off := 121) dX3_count_1 (by decide) (by decide) (by decide) (by decide) ?_
      refine pw_aload_n hX rfl dX3_count_122 (q := 123) rfl ?_
      refine pw_getR hX 0 (by decide) fl_X3_10 rfl dX3_count_123 (q := 126) rfl ?_
      refine pw_cvI0 hX dX3_count_126 (q := 129) rfl mi_X2_allDead ml_X3_187 (rcV (show 0 < 7 by decide)) ⟨rfl, rfl, by decide, by decide⟩ rfl (Nat.le_of_ble_eq_true rfl) (c_X2_allDead h07 hV).r ?_
      refine pw_ireturn hX dX3_count_129 ⟨_, rfl, rfl⟩ ⟨congrArg (fun z => some (Value.int z)) ?_, ?_⟩
      · rw [qCnt, if_pos hv, hxk]; rfl
      · rfl
  · have hxk := ix_nI (show 8 < 2 ^ 31 by decide)
    · refine pw_tabIn hX (tgt := 130) (off := 129) dX3_count_1 (by decide) (by decide) (by decide) (by decide) ?_
      refine pw_aload_n hX rfl dX3_count_130 (q := 131) rfl ?_
      refine pw_getR hX 0 (by decide) fl_X3_10 rfl dX3_count_131 (q := 134) rfl ?_
      refine pw_cvI0 hX dX3_count_134 (q := 137) rfl mi_X2_allGhosts ml_X3_152 (rcV (show 0 < 7 by decide)) ⟨rfl, rfl, by decide, by decide⟩ rfl (Nat.le_of_ble_eq_true rfl) (c_X2_allGhosts h07 hV).r ?_
      refine pw_ireturn hX dX3_count_137 ⟨_, rfl, rfl⟩ ⟨congrArg (fun z => some (Value.int z)) ?_, ?_⟩
      · rw [qCnt, if_pos hv, hxk]; rfl
      · rfl
  · have hxk := ix_nI (show 9 < 2 ^ 31 by decide)
    · refine pw_tabIn hX (tgt := 138) (off := 137) dX3_count_1 (by decide) (by decide) (by decide) (by decide) ?_
      refine pw_aload_n hX rfl dX3_count_138 (q := 139) rfl ?_
      refine pw_getR hX 0 (by decide) fl_X3_10 rfl dX3_count_139 (q := 142) rfl ?_
      refine pw_getVN hX (show 0 < 7 by decide) 3 (by decide) fn_X3_190 rfl dX3_count_142 (q := 145) rfl ?_
      refine pw_ireturn hX dX3_count_145 ⟨_, rfl, rfl⟩ ⟨congrArg (fun z => some (Value.int z)) ?_, ?_⟩
      · rw [qCnt, if_pos hv, hxk]; rfl
      · rfl
  · have hxk := ix_nI (show 10 < 2 ^ 31 by decide)
    · refine pw_tabIn hX (tgt := 146) (off := 145) dX3_count_1 (by decide) (by decide) (by decide) (by decide) ?_
      refine pw_aload_n hX rfl dX3_count_146 (q := 147) rfl ?_
      refine pw_getR hX 2 (by decide) fl_X3_22 rfl dX3_count_147 (q := 150) rfl ?_
      refine pw_getHN hX 1 (by decide) fn_X3_193 rfl dX3_count_150 (q := 153) rfl ?_
      refine pw_ireturn hX dX3_count_153 ⟨_, rfl, rfl⟩ ⟨congrArg (fun z => some (Value.int z)) ?_, ?_⟩
      · rw [qCnt, if_pos hv, hxk]; rfl
      · rfl
  · have hxk := ix_nI (show 11 < 2 ^ 31 by decide)
    · refine pw_tabIn hX (tgt := 154) (off := 153) dX3_count_1 (by decide) (by decide) (by decide) (by decide) ?_
      refine pw_aload_n hX rfl dX3_count_154 (q := 155) rfl ?_
      refine pw_getR hX 3 (by decide) fl_X3_29 rfl dX3_count_155 (q := 158) rfl ?_
      refine pw_getON hX 1 (by decide) fn_X3_196 rfl dX3_count_158 (q := 161) rfl ?_
      refine pw_ireturn hX dX3_count_161 ⟨_, rfl, rfl⟩ ⟨congrArg (fun z => some (Value.int z)) ?_, ?_⟩
      · rw [qCnt, if_pos hv, hxk]; rfl
      · rfl
  · skip
    · refine pw_tabOut hX (tgt := 162) dX3_count_1 (inN_out hv) (by decide) ?_
      refine pw_ldc hX cn_X3_61 dX3_count_162 (q := 164) rfl ?_
      refine pw_ireturn hX dX3_count_164 ⟨_, rfl, rfl⟩ ⟨congrArg (fun z => some (Value.int z)) ?_, ?_⟩
      · rw [qCnt, if_neg hv]
      · rfl
abbrev rm_X3_villagerOf : Room := { frames := 2, cells := 0, slots := 0, locals := 44 }
set_option maxHeartbeats 800000 in
set_option maxRecDepth 20000 in
theorem c_X3_villagerOf {l : Launch} {g : Geo} {w : WD} {v a : Int32} (hV : bV (w.1 0)) : CtI l g yX3_villagerOf cX3_villagerOf 3 (some .int) rm_X3_villagerOf [.ref (g_ad g 10 0), .int v, .int a] (w) (qOf (w.1 0) v a) (w) := by
  refine ct_of mi_X3_villagerOf.2.2.2.2.2 ⟨rfl, rfl⟩ (List.forall_mem_cons.mpr ⟨rfl, List.forall_mem_cons.mpr ⟨rfl, List.forall_mem_cons.mpr ⟨rfl, fun _ h => absurd h List.not_mem_nil⟩⟩⟩) (Nat.le_of_ble_eq_true rfl) (fun P hX => ?_)
  replace hX : Gd l g RX3 cX3_villagerOf rm_X3_villagerOf 3 (some .int) _ _ P := hX
  show P (w) 0 [some (.ref (g_ad g 10 0)), some (.int v), some (.int a)] []
  refine pw_aload_n hX rfl dX3_villagerOf_0 (q := 1) rfl ?_
  refine pw_getR hX 0 (by decide) fl_X3_10 rfl dX3_villagerOf_1 (q := 4) rfl ?_
  refine pw_iload_n hX rfl dX3_villagerOf_4 (q := 5) rfl ?_
  refine pw_cvI1 hX dX3_villagerOf_5 (q := 8) rfl mi_X2_has ml_X3_57 (rcV (show 0 < 7 by decide)) ⟨rfl, rfl, by decide, by decide⟩ rfl (Nat.le_of_ble_eq_true rfl) (c_X2_has h07 hV).r ?_
  refine pw_ifB_ne hX (tgt := 14) dX3_villagerOf_8 (q := 11) rfl (by decide) (fun h_8 => ?_) (fun h_8 => ?_)
  · obtain ⟨i, hi, rfl⟩ := hasN_of (bV_0 hV) h_8
    have hx : ix (nI i) = i := ix_nI (by have := hV.2.2.2.1; omega)
    have h7 := hV.2.2.2.1
    refine pw_iload_n hX rfl dX3_villagerOf_14 (q := 15) rfl ?_
    rcases (show (∃ _ : inN 0 5 a = true, a = nI 0) ∨ (∃ _ : inN 0 5 a = true, a = nI 1) ∨ (∃ _ : inN 0 5 a = true, a = nI 2) ∨ (∃ _ : inN 0 5 a = true, a = nI 3) ∨ (∃ _ : inN 0 5 a = true, a = nI 4) ∨ (∃ _ : inN 0 5 a = true, a = nI 5) ∨ ¬ inN 0 5 a = true by
        by_cases hv : inN 0 5 a = true
        · obtain ⟨k, -, hk, e⟩ := inN_of (by decide) hv
          rcases (show k = 0 ∨ k = 1 ∨ k = 2 ∨ k = 3 ∨ k = 4 ∨ k = 5 by omega) with rfl | rfl | rfl | rfl | rfl | rfl
          · exact Or.inl ⟨hv, e⟩
          · exact Or.inr (Or.inl ⟨hv, e⟩)
          · exact Or.inr (Or.inr (Or.inl ⟨hv, e⟩))
          · exact Or.inr (Or.inr (Or.inr (Or.inl ⟨hv, e⟩)))
          · exact Or.inr (Or.inr (Or.inr (Or.inr (Or.inl ⟨hv, e⟩))))
          · exact Or.inr (Or.inr (Or.inr (Or.inr (Or.inr (Or.inl ⟨hv, e⟩)))))
        · exact Or.inr (Or.inr (Or.inr (Or.inr (Or.inr (Or.inr (hv))))))) with ⟨hv, rfl⟩ | ⟨hv, rfl⟩ | ⟨hv, rfl⟩ | ⟨hv, rfl⟩ | ⟨hv, rfl⟩ | ⟨hv, rfl⟩ | hv
    · have hxk := ix_nI (show 0 < 2 ^ 31 by decide)
      · refine pw_tabIn hX (tgt := 52) (off := 37) dX3_villagerOf_15 (by decide) (by decide) (by decide) (by decide) ?_
        refine pw_aload_n hX rfl dX3_villagerOf_52 (q := 53) rfl ?_
        refine pw_getR hX 0 (by decide) fl_X3_10 rfl dX3_villagerOf_53 (q := 56) rfl ?_
        refine pw_getVN hX (show 0 < 7 by decide) 4 (by decide) fn_X3_62 rfl dX3_villagerOf_56 (q := 59) rfl ?_
        refine pw_iload_n hX rfl dX3_villagerOf_59 (q := 60) rfl ?_
        refine pw_ialdV hX (show 0 < 7 by decide) 1 (by decide) (show _ < 7 by omega) dX3_villagerOf_60 (q := 61) rfl ?_
        refine pw_ireturn hX dX3_villagerOf_61 ⟨_, rfl, rfl⟩ ⟨congrArg (fun z => some (Value.int z)) ?_, ?_⟩
        · rw [qOf, if_pos ⟨h_8, hv⟩, hx, hxk]; rfl
        · rfl
    · have hxk := ix_nI (show 1 < 2 ^ 31 by decide)
      · refine pw_tabIn hX (tgt := 62) (off := 47) dX3_villagerOf_15 (by decide) (by decide) (by decide) (by decide) ?_
        refine pw_aload_n hX rfl dX3_villagerOf_62 (q := 63) rfl ?_
        refine pw_getR hX 0 (by decide) fl_X3_10 rfl dX3_villagerOf_63 (q := 66) rfl ?_
        refine pw_getVN hX (show 0 < 7 by decide) 5 (by decide) fn_X3_66 rfl dX3_villagerOf_66 (q := 69) rfl ?_
        refine pw_iload_n hX rfl dX3_villagerOf_69 (q := 70) rfl ?_
        refine pw_ialdV hX (show 0 < 7 by decide) 2 (by decide) (show _ < 7 by omega) dX3_villagerOf_70 (q := 71) rfl ?_
        refine pw_ireturn hX dX3_villagerOf_71 ⟨_, rfl, rfl⟩ ⟨congrArg (fun z => some (Value.int z)) ?_, ?_⟩
        · rw [qOf, if_pos ⟨h_8, hv⟩, hx, hxk]; rfl
        · rfl
    · have hxk := ix_nI (show 2 < 2 ^ 31 by decide)
      · refine pw_tabIn hX (tgt := 72) (off := 57) dX3_villagerOf_15 (by decide) (by decide) (by decide) (by decide) ?_
        refine pw_aload_n hX rfl dX3_villagerOf_72 (q := 73) rfl ?_
        refine pw_getR hX 0 (by decide) fl_X3_10 rfl dX3_villagerOf_73 (q := 76) rfl ?_
        refine pw_iload_n hX rfl dX3_villagerOf_76 (q := 77) rfl ?_
        refine pw_cvI1 hX dX3_villagerOf_77 (q := 80) rfl mi_X2_rumorTopics ml_X3_69 (rcV (show 0 < 7 by decide)) ⟨rfl, rfl, by decide, by decide⟩ rfl (Nat.le_of_ble_eq_true rfl) (c_X2_rumorTopics h07 hV (by omega)).r ?_
        refine pw_ireturn hX dX3_villagerOf_80 ⟨_, rfl, rfl⟩ ⟨congrArg (fun z => some (Value.int z)) ?_, ?_⟩
        · rw [qOf, if_pos ⟨h_8, hv⟩, hx, hxk]; rfl
        · rfl
    · have hxk := ix_nI (show 3 < 2 ^ 31 by decide)
      · refine pw_tabIn hX (tgt := 81) (off := 66) dX3_villagerOf_15 (by decide) (by decide) (by decide) (by decide) ?_
        refine pw_aload_n hX rfl dX3_villagerOf_81 (q := 82) rfl ?_
        refine pw_getR hX 0 (by decide) fl_X3_10 rfl dX3_villagerOf_82 (q := 85) rfl ?_
        refine pw_iload_n hX rfl dX3_villagerOf_85 (q := 86) rfl ?_
        refine pw_cvI1 hX dX3_villagerOf_86 (q := 89) rfl mi_X2_tombTopics ml_X3_72 (rcV (show 0 < 7 by decide)) ⟨rfl, rfl, by decide, by decide⟩ rfl (Nat.le_of_ble_eq_true rfl) (c_X2_tombTopics h07 hV (by omega)).r ?_
        refine pw_ireturn hX dX3_villagerOf_89 ⟨_, rfl, rfl⟩ ⟨congrArg (fun z => some (Value.int z)) ?_, ?_⟩
        · rw [qOf, if_pos ⟨h_8, hv⟩, hx, hxk]; rfl
        · rfl
    · have hxk := ix_nI (show 4 < 2 ^ 31 by decide)
      · refine pw_tabIn hX (tgt := 90) (off := 75) dX3_villagerOf_15 (by decide) (by decide) (by decide) (by decide) ?_
        refine pw_aload_n hX rfl dX3_villagerOf_90 (q := 91) rfl ?_
        refine pw_getR hX 0 (by decide) fl_X3_10 rfl dX3_villagerOf_91 (q := 94) rfl ?_
        refine pw_getVN hX (show 0 < 7 by decide) 7 (by decide) fn_X3_75 rfl dX3_villagerOf_94 (q := 97) rfl ?_
        refine pw_iload_n hX rfl dX3_villagerOf_97 (q := 98) rfl ?_
        refine pw_ialdV hX (show 0 < 7 by decide) 4 (by decide) (show _ < 7 by omega) dX3_villagerOf_98 (q := 99) rfl ?_
        refine pw_ireturn hX dX3_villagerOf_99 ⟨_, rfl, rfl⟩ ⟨congrArg (fun z => some (Value.int z)) ?_, ?_⟩
        · rw [qOf, if_pos ⟨h_8, hv⟩, hx, hxk]; rfl
        · rfl
    · have hxk := ix_nI (show 5 < 2 ^ 31 by decide)
      · refine pw_tabIn hX (tgt := 100) (off := 85) dX3_villagerOf_15 (by decide) (by decide) (by decide) (by decide) ?_
        refine pw_aload_n hX rfl dX3_villagerOf_100 (q := 101) rfl ?_
        refine pw_getR hX 0 (by decide) fl_X3_10 rfl dX3_villagerOf_101 (q := 104) rfl ?_
        refine pw_iload_n hX rfl dX3_villagerOf_104 (q := 105) rfl ?_
        refine pw_cvI1 hX dX3_villagerOf_105 (q := 108) rfl mi_X2_isAsleep ml_X3_78 (rcV (show 0 < 7 by decide)) ⟨rfl, rfl, by decide, by decide⟩ rfl (Nat.le_of_ble_eq_true rfl) (c_X2_isAsleep h07 hV).r ?_
        refine pw_ifB_eq hX (tgt := 122) dX3_villagerOf_108 (q := 111) rfl (by decide) (fun h_108 => ?_) (fun h_108 => ?_)
        · rw [kAs_n h_8 hx] at h_108
          have h_108 := of_decide_eq_false h_108
          refine pw_ldc hX cn_X3_84 dX3_villagerOf_122 (q := 124) rfl ?_
          refine pw_ireturn hX dX3_villagerOf_124 ⟨_, rfl, rfl⟩ ⟨congrArg (fun z => some (Value.int z)) ?_, ?_⟩
          · rw [qOf, if_pos ⟨h_8, hv⟩, hx, hxk]; first | (rw [if_neg (by decide), if_neg (by decide), if_neg (by decide), if_neg (by decide), if_neg (by decide), if_pos h_108]; done) | (rw [if_neg (by decide), if_neg (by decide), if_neg (by decide), if_neg (by decide), if_neg (by decide), if_neg h_108]; done)
          · rfl
        · rw [kAs_n h_8 hx] at h_108
          have h_108 := of_decide_eq_true h_108
          refine pw_aload_n hX rfl dX3_villagerOf_111 (q := 112) rfl ?_
          refine pw_getR hX 0 (by decide) fl_X3_10 rfl dX3_villagerOf_112 (q := 115) rfl ?_
          refine pw_iload_n hX rfl dX3_villagerOf_115 (q := 116) rfl ?_
          refine pw_cvI1 hX dX3_villagerOf_116 (q := 119) rfl mi_X2_ticksAsleep ml_X3_81 (rcV (show 0 < 7 by decide)) ⟨rfl, rfl, by decide, by decide⟩ rfl (Nat.le_of_ble_eq_true rfl) (c_X2_ticksAsleep h07 (by omega)).r ?_
          refine pw_goto hX (tgt := 124) dX3_villagerOf_119 (by decide) ?_
          refine pw_ireturn hX dX3_villagerOf_124 ⟨_, rfl, rfl⟩ ⟨congrArg (fun z => some (Value.int z)) ?_, ?_⟩
          · rw [qOf, if_pos ⟨h_8, hv⟩, hx, hxk]; first | (rw [if_neg (by decide), if_neg (by decide), if_neg (by decide), if_neg (by decide), if_neg (by decide), if_pos h_108]; done) | (rw [if_neg (by decide), if_neg (by decide), if_neg (by decide), if_neg (by decide), if_neg (by decide), if_neg h_108]; done)
          · rfl
    · skip
      · refine pw_tabOut hX (tgt := 125) dX3_villagerOf_15 (inN_out hv) (by decide) ?_
        refine pw_ldc hX cn_X3_61 dX3_villagerOf_125 (q := 127) rfl ?_
        refine pw_ireturn hX dX3_villagerOf_127 ⟨_, rfl, rfl⟩ ⟨congrArg (fun z => some (Value.int z)) ?_, ?_⟩
        · rw [qOf, if_neg (fun z => hv z.2)]
        · rfl
  · refine pw_ldc hX cn_X3_61 dX3_villagerOf_11 (q := 13) rfl ?_
    refine pw_ireturn hX dX3_villagerOf_13 ⟨_, rfl, rfl⟩ ⟨congrArg (fun z => some (Value.int z)) ?_, ?_⟩
    · rw [qOf, if_neg (fun z => by rw [h_8] at z; exact absurd z.1 (by decide))]
    · rfl
end
section
abbrev rm_X3_entryOf : Room := { frames := 2, cells := 0, slots := 0, locals := 44 }
set_option maxHeartbeats 800000 in
set_option maxRecDepth 20000 in
theorem c_X3_entryOf {l : Launch} {g : Geo} {w : WD} {v t a : Int32} (hV : bV (w.1 0)) : CtI l g yX3_entryOf cX3_entryOf 6 (some .int) rm_X3_entryOf [.ref (g_ad g 10 0), .int v, .int t, .int a] (w) (qEO (w.1 0) v t a) (w) := by
  refine ct_of mi_X3_entryOf.2.2.2.2.2 ⟨rfl, rfl⟩ (List.forall_mem_cons.mpr ⟨rfl, List.forall_mem_cons.mpr ⟨rfl, List.forall_mem_cons.mpr ⟨rfl, List.forall_mem_cons.mpr ⟨rfl, fun _ h => absurd h List.not_mem_nil⟩⟩⟩⟩) (Nat.le_of_ble_eq_true rfl) (fun P hX => ?_)
  replace hX : Gd l g RX3 cX3_entryOf rm_X3_entryOf 6 (some .int) _ _ P := hX
  show P (w) 0 [some (.ref (g_ad g 10 0)), some (.int v), some (.int t), some (.int a), none, none] []
  refine pw_aload_n hX rfl dX3_entryOf_0 (q := 1) rfl ?_
  refine pw_getR hX 0 (by decide) fl_X3_10 rfl dX3_entryOf_1 (q := 4) rfl ?_
  refine pw_iload_n hX rfl dX3_entryOf_4 (q := 5) rfl ?_
  refine pw_cvI1 hX dX3_entryOf_5 (q := 8) rfl mi_X2_has ml_X3_57 (rcV (show 0 < 7 by decide)) ⟨rfl, rfl, by decide, by decide⟩ rfl (Nat.le_of_ble_eq_true rfl) (c_X2_has h07 hV).r ?_
  refine pw_ifB_eq hX (tgt := 28) dX3_entryOf_8 (q := 11) rfl (by decide) (fun h_8 => ?_) (fun h_8 => ?_)
  · have hz : ¬ (hasN (w.1 0 0 0) v = true ∧ hasN 12 t = true ∧ inN 0 7 a = true) := fun z => by rw [h_8] at z; exact absurd z.1 (by decide)
    refine pw_ldc hX cn_X3_61 dX3_entryOf_28 (q := 30) rfl ?_
    refine pw_ireturn hX dX3_entryOf_30 ⟨_, rfl, rfl⟩ ⟨congrArg (fun z => some (Value.int z)) ?_, ?_⟩
    · rw [qEO, if_neg hz]
    · rfl
  · obtain ⟨i, hi, rfl⟩ := hasN_of (bV_0 hV) h_8
    have hx : ix (nI i) = i := ix_nI (by have := hV.2.2.2.1; omega)
    have h7 := hV.2.2.2.1
    refine pw_iload_n hX rfl dX3_entryOf_11 (q := 12) rfl ?_
    refine pw_csI1 hX dX3_entryOf_12 (q := 15) rfl mi_X3_isTopic ml_X3_96 ⟨rfl, rfl, by decide, by decide⟩ rfl (Nat.le_of_ble_eq_true rfl) (c_X3_isTopic) ?_
    refine pw_ifB_eq hX (tgt := 28) dX3_entryOf_15 (q := 18) rfl (by decide) (fun h_15 => ?_) (fun h_15 => ?_)
    · have hz : ¬ (hasN (w.1 0 0 0) (nI i) = true ∧ hasN 12 t = true ∧ inN 0 7 a = true) := fun z => by rw [h_15] at z; exact absurd z.2.1 (by decide)
      refine pw_ldc hX cn_X3_61 dX3_entryOf_28 (q := 30) rfl ?_
      refine pw_ireturn hX dX3_entryOf_30 ⟨_, rfl, rfl⟩ ⟨congrArg (fun z => some (Value.int z)) ?_, ?_⟩
      · rw [qEO, if_neg hz]
      · rfl
    · obtain ⟨j, hj, rfl⟩ := hasN_of (by decide) h_15
      have hxj : ix (nI j) = j := ix_nI (by omega)
      refine pw_iload_n hX rfl dX3_entryOf_18 (q := 19) rfl ?_
      refine pw_if_lt hX (tgt := 28) dX3_entryOf_19 (q := 22) rfl (by decide) (fun h_19 => ?_) (fun h_19 => ?_)
      · have hz : ¬ (hasN (w.1 0 0 0) (nI i) = true ∧ hasN 12 (nI j) = true ∧ inN 0 7 a = true) := fun z => by rw [inN_lo0 h_19] at z; exact absurd z.2.2 (by decide)
        refine pw_ldc hX cn_X3_61 dX3_entryOf_28 (q := 30) rfl ?_
        refine pw_ireturn hX dX3_entryOf_30 ⟨_, rfl, rfl⟩ ⟨congrArg (fun z => some (Value.int z)) ?_, ?_⟩
        · rw [qEO, if_neg hz]
        · rfl
      · refine pw_iload_n hX rfl dX3_entryOf_22 (q := 23) rfl ?_
        refine pw_bipush hX (k := 7) (by decide) dX3_entryOf_23 (q := 25) rfl ?_
        refine pw_icmp_le hX (tgt := 31) dX3_entryOf_25 (q := 28) rfl (by decide) (fun h_25 => ?_) (fun h_25 => ?_)
        · obtain ⟨k, -, hk, rfl⟩ := inN_of (by decide) (inN_ok0 (by decide) h_19 (Int32.not_lt.mpr h_25))
          have hc : (hasN (w.1 0 0 0) (nI i) = true ∧ hasN 12 (nI j) = true ∧ inN 0 7 (nI k) = true) := ⟨h_8, h_15, by rw [inN_nI (by omega)]; exact decide_eq_true ⟨Nat.zero_le _, hk⟩⟩
          have hxk : ix (nI k) = k := ix_nI (by omega)
          refine pw_iload_n hX rfl dX3_entryOf_31 (q := 32) rfl ?_
          refine pw_iload_n hX rfl dX3_entryOf_32 (q := 33) rfl ?_
          refine pw_csI2 hX dX3_entryOf_33 (q := 36) rfl mi_X3_place ml_X3_99 ⟨rfl, rfl, by decide, by decide⟩ rfl (Nat.le_of_ble_eq_true rfl) (c_X3_place) ?_
          refine pw_istore hX (by decide) dX3_entryOf_36 (q := 38) rfl ?_
          refine pw_aload_n hX rfl dX3_entryOf_38 (q := 39) rfl ?_
          refine pw_getR hX 0 (by decide) fl_X3_10 rfl dX3_entryOf_39 (q := 42) rfl ?_
          refine pw_getVN hX (show 0 < 7 by decide) 8 (by decide) fn_X3_102 rfl dX3_entryOf_42 (q := 45) rfl ?_
          refine pw_iload hX rfl dX3_entryOf_45 (q := 47) rfl ?_
          refine pw_ialdV hX (show 0 < 7 by decide) 5 (by decide) (show _ < 84 by omega) dX3_entryOf_47 (q := 48) rfl ?_
          refine pw_ifN_ne hX (by first | omega | exact bV_0 hV | exact bV7 hV (by decide) (by omega) | exact bV84 hV (by decide) (by omega) | exact bV12 hV (by omega) | exact bV_1 hV | exact bV_2 hV | exact Nat.lt_trans (bits_lt _ 12) (by decide)) (tgt := 54) dX3_entryOf_48 (q := 51) rfl (by decide) (fun h_48 => ?_) (fun h_48 => ?_)
          · refine pw_aload_n hX rfl dX3_entryOf_54 (q := 55) rfl ?_
            refine pw_getR hX 0 (by decide) fl_X3_10 rfl dX3_entryOf_55 (q := 58) rfl ?_
            refine pw_iload hX rfl dX3_entryOf_58 (q := 60) rfl ?_
            refine pw_cvI1 hX dX3_entryOf_60 (q := 63) rfl mi_X2_isTomb ml_X3_105 (rcV (show 0 < 7 by decide)) ⟨rfl, rfl, by decide, by decide⟩ rfl (Nat.le_of_ble_eq_true rfl) (c_X2_isTomb h07 hV (by omega)).r ?_
            refine pw_istore hX (by decide) dX3_entryOf_63 (q := 65) rfl ?_
            refine pw_iload_n hX rfl dX3_entryOf_65 (q := 66) rfl ?_
            rcases (show k = 0 ∨ k = 1 ∨ k = 2 ∨ k = 3 ∨ k = 4 ∨ k = 5 ∨ k = 6 ∨ k = 7 by omega) with rfl | rfl | rfl | rfl | rfl | rfl | rfl | rfl
            · skip
              · refine pw_tabIn hX (tgt := 108) (off := 42) dX3_entryOf_66 (by decide) (by decide) (by decide) (by decide) ?_
                refine pw_iload hX rfl dX3_entryOf_108 (q := 110) rfl ?_
                refine pw_ifB_eq hX (tgt := 117) dX3_entryOf_110 (q := 113) rfl (by decide) (fun h_110 => ?_) (fun h_110 => ?_)
                · refine pw_iconst hX (k := 0) rfl (by decide) dX3_entryOf_117 (q := 118) rfl ?_
                  refine pw_ireturn hX dX3_entryOf_118 ⟨_, rfl, rfl⟩ ⟨congrArg (fun z => some (Value.int z)) ?_, ?_⟩
                  · rw [qEO, if_pos hc, hx, hxj, hxk, if_neg h_48, h_110]; rfl
                  · rfl
                · refine pw_iconst hX (k := 1) rfl (by decide) dX3_entryOf_113 (q := 114) rfl ?_
                  refine pw_goto hX (tgt := 118) dX3_entryOf_114 (by decide) ?_
                  refine pw_ireturn hX dX3_entryOf_118 ⟨_, rfl, rfl⟩ ⟨congrArg (fun z => some (Value.int z)) ?_, ?_⟩
                  · rw [qEO, if_pos hc, hx, hxj, hxk, if_neg h_48, h_110]; rfl
                  · rfl
            · skip
              · refine pw_tabIn hX (tgt := 119) (off := 53) dX3_entryOf_66 (by decide) (by decide) (by decide) (by decide) ?_
                refine pw_aload_n hX rfl dX3_entryOf_119 (q := 120) rfl ?_
                refine pw_getR hX 0 (by decide) fl_X3_10 rfl dX3_entryOf_120 (q := 123) rfl ?_
                refine pw_getVN hX (show 0 < 7 by decide) 8 (by decide) fn_X3_102 rfl dX3_entryOf_123 (q := 126) rfl ?_
                refine pw_iload hX rfl dX3_entryOf_126 (q := 128) rfl ?_
                refine pw_ialdV hX (show 0 < 7 by decide) 5 (by decide) (show _ < 84 by omega) dX3_entryOf_128 (q := 129) rfl ?_
                refine pw_bipush hX (k := 8) (by decide) dX3_entryOf_129 (q := 131) rfl ?_
                refine pw_idivN hX (by first | omega | exact bV_0 hV | exact bV7 hV (by decide) (by omega) | exact bV84 hV (by decide) (by omega) | exact bV12 hV (by omega) | exact bV_1 hV | exact bV_2 hV | exact Nat.lt_trans (bits_lt _ 12) (by decide)) (by decide) (by decide) dX3_entryOf_131 (q := 132) rfl ?_
                refine pw_ireturn hX dX3_entryOf_132 ⟨_, rfl, rfl⟩ ⟨congrArg (fun z => some (Value.int z)) ?_, ?_⟩
                · rw [qEO, if_pos hc, hx, hxj, hxk, if_neg h_48]; rfl
                · rfl
            · skip
              · refine pw_tabIn hX (tgt := 133) (off := 67) dX3_entryOf_66 (by decide) (by decide) (by decide) (by decide) ?_
                refine pw_aload_n hX rfl dX3_entryOf_133 (q := 134) rfl ?_
                refine pw_getR hX 0 (by decide) fl_X3_10 rfl dX3_entryOf_134 (q := 137) rfl ?_
                refine pw_iload hX rfl dX3_entryOf_137 (q := 139) rfl ?_
                refine pw_cvI1 hX dX3_entryOf_139 (q := 142) rfl mi_X2_author ml_X3_108 (rcV (show 0 < 7 by decide)) ⟨rfl, rfl, by decide, by decide⟩ rfl (Nat.le_of_ble_eq_true rfl) (c_X2_author h07 hV (by omega)).r ?_
                refine pw_ireturn hX dX3_entryOf_142 ⟨_, rfl, rfl⟩ ⟨congrArg (fun z => some (Value.int z)) ?_, ?_⟩
                · rw [qEO, if_pos hc, hx, hxj, hxk, if_neg h_48]; rfl
                · rfl
            · skip
              · refine pw_tabIn hX (tgt := 143) (off := 77) dX3_entryOf_66 (by decide) (by decide) (by decide) (by decide) ?_
                refine pw_iload hX rfl dX3_entryOf_143 (q := 145) rfl ?_
                refine pw_ifB_eq hX (tgt := 153) dX3_entryOf_145 (q := 148) rfl (by decide) (fun h_145 => ?_) (fun h_145 => ?_)
                · refine pw_aload_n hX rfl dX3_entryOf_153 (q := 154) rfl ?_
                  refine pw_getR hX 0 (by decide) fl_X3_10 rfl dX3_entryOf_154 (q := 157) rfl ?_
                  refine pw_getVN hX (show 0 < 7 by decide) 10 (by decide) fn_X3_111 rfl dX3_entryOf_157 (q := 160) rfl ?_
                  refine pw_iload hX rfl dX3_entryOf_160 (q := 162) rfl ?_
                  refine pw_ialdV hX (show 0 < 7 by decide) 7 (by decide) (show _ < 84 by omega) dX3_entryOf_162 (q := 163) rfl ?_
                  refine pw_ireturn hX dX3_entryOf_163 ⟨_, rfl, rfl⟩ ⟨congrArg (fun z => some (Value.int z)) ?_, ?_⟩
                  · rw [qEO, if_pos hc, hx, hxj, hxk, if_neg h_48, h_145]; rfl
                  · rfl
                · refine pw_ldc hX cn_X3_84 dX3_entryOf_148 (q := 150) rfl ?_
                  refine pw_goto hX (tgt := 163) dX3_entryOf_150 (by decide) ?_
                  refine pw_ireturn hX dX3_entryOf_163 ⟨_, rfl, rfl⟩ ⟨congrArg (fun z => some (Value.int z)) ?_, ?_⟩
                  · rw [qEO, if_pos hc, hx, hxj, hxk, if_neg h_48, h_145]; rfl
                  · rfl
            · skip
              · refine pw_tabIn hX (tgt := 164) (off := 98) dX3_entryOf_66 (by decide) (by decide) (by decide) (by decide) ?_
                refine pw_iload hX rfl dX3_entryOf_164 (q := 166) rfl ?_
                refine pw_ifB_eq hX (tgt := 174) dX3_entryOf_166 (q := 169) rfl (by decide) (fun h_166 => ?_) (fun h_166 => ?_)
                · refine pw_aload_n hX rfl dX3_entryOf_174 (q := 175) rfl ?_
                  refine pw_getR hX 0 (by decide) fl_X3_10 rfl dX3_entryOf_175 (q := 178) rfl ?_
                  refine pw_getVN hX (show 0 < 7 by decide) 9 (by decide) fn_X3_114 rfl dX3_entryOf_178 (q := 181) rfl ?_
                  refine pw_iload hX rfl dX3_entryOf_181 (q := 183) rfl ?_
                  refine pw_ialdV hX (show 0 < 7 by decide) 6 (by decide) (show _ < 84 by omega) dX3_entryOf_183 (q := 184) rfl ?_
                  refine pw_ireturn hX dX3_entryOf_184 ⟨_, rfl, rfl⟩ ⟨congrArg (fun z => some (Value.int z)) ?_, ?_⟩
                  · rw [qEO, if_pos hc, hx, hxj, hxk, if_neg h_48, h_166]; rfl
                  · rfl
                · refine pw_ldc hX cn_X3_84 dX3_entryOf_169 (q := 171) rfl ?_
                  refine pw_goto hX (tgt := 184) dX3_entryOf_171 (by decide) ?_
                  refine pw_ireturn hX dX3_entryOf_184 ⟨_, rfl, rfl⟩ ⟨congrArg (fun z => some (Value.int z)) ?_, ?_⟩
                  · rw [qEO, if_pos hc, hx, hxj, hxk, if_neg h_48, h_166]; rfl
                  · rfl
            · skip
              · refine pw_tabIn hX (tgt := 185) (off := 119) dX3_entryOf_66 (by decide) (by decide) (by decide) (by decide) ?_
                refine pw_iload hX rfl dX3_entryOf_185 (q := 187) rfl ?_
                refine pw_ifB_eq hX (tgt := 203) dX3_entryOf_187 (q := 190) rfl (by decide) (fun h_187 => ?_) (fun h_187 => ?_)
                · refine pw_ldc hX cn_X3_84 dX3_entryOf_203 (q := 205) rfl ?_
                  refine pw_ireturn hX dX3_entryOf_205 ⟨_, rfl, rfl⟩ ⟨congrArg (fun z => some (Value.int z)) ?_, ?_⟩
                  · rw [qEO, if_pos hc, hx, hxj, hxk, if_neg h_48, h_187]; rfl
                  · rfl
                · refine pw_aload_n hX rfl dX3_entryOf_190 (q := 191) rfl ?_
                  refine pw_getR hX 0 (by decide) fl_X3_10 rfl dX3_entryOf_191 (q := 194) rfl ?_
                  refine pw_getVN hX (show 0 < 7 by decide) 11 (by decide) fn_X3_117 rfl dX3_entryOf_194 (q := 197) rfl ?_
                  refine pw_iload hX rfl dX3_entryOf_197 (q := 199) rfl ?_
                  refine pw_ialdV hX (show 0 < 7 by decide) 8 (by decide) (show _ < 84 by omega) dX3_entryOf_199 (q := 200) rfl ?_
                  refine pw_goto hX (tgt := 205) dX3_entryOf_200 (by decide) ?_
                  refine pw_ireturn hX dX3_entryOf_205 ⟨_, rfl, rfl⟩ ⟨congrArg (fun z => some (Value.int z)) ?_, ?_⟩
                  · rw [qEO, if_pos hc, hx, hxj, hxk, if_neg h_48, h_187]; rfl
                  · rfl
            · skip
              · refine pw_tabIn hX (tgt := 206) (off := 140) dX3_entryOf_66 (by decide) (by decide) (by decide) (by decide) ?_
                refine pw_iload hX rfl dX3_entryOf_206 (q := 208) rfl ?_
                refine pw_ifB_eq hX (tgt := 224) dX3_entryOf_208 (q := 211) rfl (by decide) (fun h_208 => ?_) (fun h_208 => ?_)
                · refine pw_ldc hX cn_X3_84 dX3_entryOf_224 (q := 226) rfl ?_
                  refine pw_ireturn hX dX3_entryOf_226 ⟨_, rfl, rfl⟩ ⟨congrArg (fun z => some (Value.int z)) ?_, ?_⟩
                  · rw [qEO, if_pos hc, hx, hxj, hxk, if_neg h_48, h_208]; rfl
                  · rfl
                · refine pw_aload_n hX rfl dX3_entryOf_211 (q := 212) rfl ?_
                  refine pw_getR hX 0 (by decide) fl_X3_10 rfl dX3_entryOf_212 (q := 215) rfl ?_
                  refine pw_getVN hX (show 0 < 7 by decide) 12 (by decide) fn_X3_120 rfl dX3_entryOf_215 (q := 218) rfl ?_
                  refine pw_iload hX rfl dX3_entryOf_218 (q := 220) rfl ?_
                  refine pw_ialdV hX (show 0 < 7 by decide) 9 (by decide) (show _ < 84 by omega) dX3_entryOf_220 (q := 221) rfl ?_
                  refine pw_goto hX (tgt := 226) dX3_entryOf_221 (by decide) ?_
                  refine pw_ireturn hX dX3_entryOf_226 ⟨_, rfl, rfl⟩ ⟨congrArg (fun z => some (Value.int z)) ?_, ?_⟩
                  · rw [qEO, if_pos hc, hx, hxj, hxk, if_neg h_48, h_208]; rfl
                  · rfl
            · skip
              · refine pw_tabOut hX (tgt := 227) dX3_entryOf_66 (by decide) (by decide) ?_
                refine pw_iload hX rfl dX3_entryOf_227 (q := 229) rfl ?_
                refine pw_ifB_eq hX (tgt := 237) dX3_entryOf_229 (q := 232) rfl (by decide) (fun h_229 => ?_) (fun h_229 => ?_)
                · refine pw_aload_n hX rfl dX3_entryOf_237 (q := 238) rfl ?_
                  refine pw_getR hX 0 (by decide) fl_X3_10 rfl dX3_entryOf_238 (q := 241) rfl ?_
                  refine pw_iload_n hX rfl dX3_entryOf_241 (q := 242) rfl ?_
                  refine pw_iload_n hX rfl dX3_entryOf_242 (q := 243) rfl ?_
                  refine pw_cvI2 hX dX3_entryOf_243 (q := 246) rfl mi_X2_isDead ml_X3_123 (rcV (show 0 < 7 by decide)) ⟨rfl, rfl, by decide, by decide⟩ rfl (Nat.le_of_ble_eq_true rfl) (c_X2_isDead h07 hV (by omega) hj).r ?_
                  refine pw_ifB_eq hX (tgt := 253) dX3_entryOf_246 (q := 249) rfl (by decide) (fun h_246 => ?_) (fun h_246 => ?_)
                  · refine pw_iconst hX (k := 0) rfl (by decide) dX3_entryOf_253 (q := 254) rfl ?_
                    refine pw_ireturn hX dX3_entryOf_254 ⟨_, rfl, rfl⟩ ⟨congrArg (fun z => some (Value.int z)) ?_, ?_⟩
                    · rw [qEO, if_pos hc, hx, hxj, hxk, if_neg h_48, h_229]; first | rfl | (rw [h_246]; rfl)
                    · rfl
                  · refine pw_iconst hX (k := 1) rfl (by decide) dX3_entryOf_249 (q := 250) rfl ?_
                    refine pw_goto hX (tgt := 254) dX3_entryOf_250 (by decide) ?_
                    refine pw_ireturn hX dX3_entryOf_254 ⟨_, rfl, rfl⟩ ⟨congrArg (fun z => some (Value.int z)) ?_, ?_⟩
                    · rw [qEO, if_pos hc, hx, hxj, hxk, if_neg h_48, h_229]; first | rfl | (rw [h_246]; rfl)
                    · rfl
                · refine pw_ldc hX cn_X3_84 dX3_entryOf_232 (q := 234) rfl ?_
                  refine pw_goto hX (tgt := 254) dX3_entryOf_234 (by decide) ?_
                  refine pw_ireturn hX dX3_entryOf_254 ⟨_, rfl, rfl⟩ ⟨congrArg (fun z => some (Value.int z)) ?_, ?_⟩
                  · rw [qEO, if_pos hc, hx, hxj, hxk, if_neg h_48, h_229]; first | rfl | (rw [h_246]; rfl)
                  · rfl
          · refine pw_ldc hX cn_X3_84 dX3_entryOf_51 (q := 53) rfl ?_
            refine pw_ireturn hX dX3_entryOf_53 ⟨_, rfl, rfl⟩ ⟨congrArg (fun z => some (Value.int z)) ?_, ?_⟩
            · rw [qEO, if_pos hc, hx, hxj, if_pos h_48]
            · rfl
        · have hz : ¬ (hasN (w.1 0 0 0) (nI i) = true ∧ hasN 12 (nI j) = true ∧ inN 0 7 a = true) := fun z => by rw [inN_hi (by decide) (Int32.not_le.mp h_25)] at z; exact absurd z.2.2 (by decide)
          refine pw_ldc hX cn_X3_61 dX3_entryOf_28 (q := 30) rfl ?_
          refine pw_ireturn hX dX3_entryOf_30 ⟨_, rfl, rfl⟩ ⟨congrArg (fun z => some (Value.int z)) ?_, ?_⟩
          · rw [qEO, if_neg hz]
          · rfl
end
section
theorem wl_L_10 : Cond.classLink "RumorTombsLaw" 10 RX3 ∈ TB := tb_of 16 (by decide +kernel) rfl
theorem wi_X3 : Cond.instantiable RX3 4 ∈ TB := tb_of 17 (by decide +kernel) rfl
theorem wm_X3 : Cond.instanceMethod yX3_init ∈ TB := tb_of 19 (by decide +kernel) rfl
theorem wc_X3 : Cond.code yX3_init cX3_init 1 none ∈ TB := tb_of 20 (by exact rfl) rfl
theorem wm_obj : Cond.instanceMethod objectInit ∈ TB := tb_of 22 (by decide +kernel) rfl
theorem wc_obj : Cond.code objectInit ⟨#[0xb1]⟩ 1 none ∈ TB := tb_of 23 (by exact rfl) rfl
theorem wl_X3_7 : Cond.classLink RX3 7 RX2 ∈ TB := tb_of 24 (by decide +kernel) rfl
theorem wi_X2 : Cond.instantiable RX2 15 ∈ TB := tb_of 25 (by decide +kernel) rfl
theorem wm_X2 : Cond.instanceMethod yX2_init ∈ TB := tb_of 27 (by decide +kernel) rfl
theorem wc_X2 : Cond.code yX2_init cX2_init 1 none ∈ TB := tb_of 28 (by exact rfl) rfl
theorem wa_int : Cond.arrayClass .int ∈ TB := tb_of 88 (by decide +kernel) rfl
theorem wa_char : Cond.arrayClass .char ∈ TB := tb_of 132 (by decide +kernel) rfl
theorem wl_X3_19 : Cond.classLink RX3 19 RX0 ∈ TB := tb_of 89 (by decide +kernel) rfl
theorem wi_X0 : Cond.instantiable RX0 2 ∈ TB := tb_of 90 (by decide +kernel) rfl
theorem wm_X0 : Cond.instanceMethod yX0_init ∈ TB := tb_of 92 (by decide +kernel) rfl
theorem wc_X0 : Cond.code yX0_init cX0_init 2 none ∈ TB := tb_of 93 (by exact rfl) rfl
theorem wl_X0_9 : Cond.classLink RX0 9 RX2 ∈ TB := tb_of 95 (by decide +kernel) rfl
theorem wo_X2 : Cond.arrayOver (.object RX2) ∈ lw_tbl := List.mem_of_getElem? (i := 96) (by decide +kernel)
theorem wl_X3_26 : Cond.classLink RX3 26 RX1 ∈ TB := tb_of 106 (by decide +kernel) rfl
theorem wi_X1 : Cond.instantiable RX1 6 ∈ TB := tb_of 107 (by decide +kernel) rfl
theorem wm_X1 : Cond.instanceMethod yX1_init ∈ TB := tb_of 109 (by decide +kernel) rfl
theorem wc_X1 : Cond.code yX1_init cX1_init 1 none ∈ TB := tb_of 110 (by exact rfl) rfl
/-! THE CONSTRUCTORS: the cells that they leave -/
def aI (n : Nat) (f : Nat → Int32) : vp_A := (n, .inl f)
def tyK (cI cC cO : ClassId) : List (ClassId × FieldType) := [(cI, .int), (cC, .char), (cO, .object RX2)]
def vC (cI : ClassId) (h : Nat) (a : Nat → Nat) : va_W := [(h, .inr (2, [.int (nI 0), .int (nI 0), .int (nI 10), .int (nI 0), .ref (a 1), .ref (a 2), .ref (a 3), .ref (a 4), .ref (a 5), .ref (a 6), .ref (a 7), .ref (a 8), .ref (a 9), .ref (a 10), .ref (a 11)])), (a 1, .inl (cI, 7, .inl (fun _ => nI 0))), (a 2, .inl (cI, 7, .inl (fun _ => nI 0))), (a 3, .inl (cI, 7, .inl (fun _ => nI 0))), (a 4, .inl (cI, 7, .inl (fun _ => nI 0))), (a 5, .inl (cI, 84, .inl (fun _ => nI 0))), (a 6, .inl (cI, 84, .inl (fun _ => nI 0))), (a 7, .inl (cI, 84, .inl (fun _ => nI 0))), (a 8, .inl (cI, 84, .inl (fun _ => nI 0))), (a 9, .inl (cI, 84, .inl (fun _ => nI 0))), (a 10, .inl (cI, 84, .inl (fun _ => nI 0))), (a 11, .inl (cI, 12, .inl (fun _ => nI 0)))]
def hC (cI cO : ClassId) (h : Nat) (a : Nat → Nat → Nat) (f : Nat → Option Nat) : va_W := [(h, .inr (0, [.ref (a 5 1), .int (nI 0)])), (a 5 1, .inl (cO, 5, .inr (.inr (.inr (.inr f)))))] ++ vC cI (a 0 0) (a 0) ++ vC cI (a 1 0) (a 1) ++ vC cI (a 2 0) (a 2) ++ vC cI (a 3 0) (a 3) ++ vC cI (a 4 0) (a 4)
def oC (cI cC : ClassId) (h : Nat) (a : Nat → Nat) : va_W := [(h, .inr (1, [.ref (a 1), .int (nI 0), .ref (a 2), .int (nI 0), .int (nI 0), .int (nI 0)])), (a 1, .inl (cC, 60, .inl (fun _ => nI 0))), (a 2, .inl (cI, 3, .inl (fun _ => nI 0)))]
def hH (a : Nat → Nat → Nat) : Nat → Nat → Nat := fun i k => if i = 5 then a 8 k else a (i + 2) k
def rC (cI cC cO : ClassId) (h : Nat) (a : Nat → Nat → Nat) (f : Nat → Option Nat) : va_W := [(h, .inr (3, [.ref (a 0 0), .ref (a 1 0), .ref (a 8 0), .ref (a 7 0)]))] ++ vC cI (a 0 0) (a 0) ++ vC cI (a 1 0) (a 1) ++ hC cI cO (a 8 0) (hH a) f ++ oC cI cC (a 7 0) (a 7)
abbrev vZ : List Value := [.int (nI 0), .int (nI 0), .int (nI 0), .int (nI 0), .null, .null, .null, .null, .null, .null, .null, .null, .null, .null, .null]
abbrev hZ : List Value := [.null, .int (nI 0)]
abbrev oZ : List Value := [.null, .int (nI 0), .null, .int (nI 0), .int (nI 0), .int (nI 0)]
abbrev rZ : List Value := [.null, .null, .null, .null]
theorem dv_X2 : ∀ j, j < 15 → defaultValue (tyX2 j) = vp_V vZ j := fun j hj => by rcases (show j = 0 ∨ j = 1 ∨ j = 2 ∨ j = 3 ∨ j = 4 ∨ j = 5 ∨ j = 6 ∨ j = 7 ∨ j = 8 ∨ j = 9 ∨ j = 10 ∨ j = 11 ∨ j = 12 ∨ j = 13 ∨ j = 14 by omega) with rfl | rfl | rfl | rfl | rfl | rfl | rfl | rfl | rfl | rfl | rfl | rfl | rfl | rfl | rfl <;> rfl
theorem dv_X0 : ∀ j, j < 2 → defaultValue (tyX0 j) = vp_V hZ j := fun j hj => by rcases (show j = 0 ∨ j = 1 by omega) with rfl | rfl <;> rfl
theorem dv_X1 : ∀ j, j < 6 → defaultValue (tyX1 j) = vp_V oZ j := fun j hj => by rcases (show j = 0 ∨ j = 1 ∨ j = 2 ∨ j = 3 ∨ j = 4 ∨ j = 5 by omega) with rfl | rfl | rfl | rfl | rfl | rfl <;> rfl
theorem dv_X3 : ∀ j, j < 4 → defaultValue (tyX3 j) = vp_V rZ j := fun j hj => by rcases (show j = 0 ∨ j = 1 ∨ j = 2 ∨ j = 3 by omega) with rfl | rfl | rfl | rfl <;> rfl
theorem tys_eq {D : va_G} {cl : List vw_C} {tys : List (ClassId × FieldType)} {s : State} (hK : va_K D cl tys s) {i j : Nat} {x y : ClassId} {ty : FieldType} (hi : tys[i]? = some (x, ty)) (hj : tys[j]? = some (y, ty)) : x = y := by
  have h1 := (hK.2 i _ hi).2
  have h2 := (hK.2 j _ hj).2
  cases ty with
  | object C =>
    obtain ⟨-, -, -, -, -, h3⟩ := h1
    obtain ⟨-, -, -, -, -, h4⟩ := h2
    exact Option.some.inj (h3.symm.trans h4)
  | _ => exact Option.some.inj (h1.symm.trans h2)
theorem va_newI {p : Program} {l : Launch} {e : Env} {R : Room} {s : State} {m : MethodId} {args : Array Value} {below : List Frame} {meth : Method} {c : Code} {Q : State → Prop} {cc : ByteArray} {pc : Nat} {ls : Array Slot} {rest : List Value} {D : va_G} {cl : List vw_C} {tys : List (ClassId × FieldType)} {ws : va_W} {A : Nat → Prop} {H0 H : Heap} {locs : List Loc} {cells slots : Nat} {cI : ClassId} (hexec : p.tables.exec = Jvm.exec) (hb : c.code = cc) {atype : ArrayType} (harr : (Cond.arrayClass (newarray.typeOf atype)).before args s = true) {ty : FieldType} (hty : newarray.typeOf atype = ty) (hK : va_K D cl tys s) (hP : va_P D cl ws H) (hD : va_D A ws) (hS : va_S A H0 H locs) (hA : ∀ q, H0.size ≤ q → A q) (t0 : Nat) (ht : tys[t0]? = some (cI, ty))
    {n : Int32} {N' : Nat} {a0 : vp_A} (ha : ∀ cA : ClassId, vp_cell cA a0 = arrV cA N' (fun _ => defaultValue ty)) (hn : ¬ n < 0) (hN : n.toNatClampNeg = N') (hbytes : N' * componentBytes ty ≤ 536870912) (hcells : cells + 1 ≤ R.cells) (hslots : slots + N' ≤ R.slots) (hdg : decode cc pc = .ok (.newarray atype, 2))
    (kk : ∀ (q : Nat) (H1 : Heap), va_P D cl (ws ++ [(q, .inl (cI, a0))]) H1 → va_D A (ws ++ [(q, .inl (cI, a0))]) → va_S A H0 H1 locs → W p l e R s m args below meth c H1 locs (cells + 1) (slots + N') Q (F0 m (pc + 2) ls (.ref q :: rest))) : W p l e R s m args below meth c H locs cells slots Q (F0 m pc ls (.int n :: rest)) := by
  refine va_newa hexec hb harr hty hK hP hD hS hA ha hn hN hbytes hcells hslots hdg (fun q cA H1 hK' hP' hD' hS' => ?_)
  have hlt : t0 < tys.length := (List.getElem?_eq_some_iff.mp ht).1
  have e1 : cA = cI := tys_eq hK' (i := tys.length) (j := t0) (ty := ty) (by rw [List.getElem?_append_right (Nat.le_refl _), Nat.sub_self]; rfl) (by rw [List.getElem?_append_left hlt]; exact ht)
  subst e1
  exact kk q H1 hP' hD' hS'
/-- a constructor's start: its own new cell, the tables -/
def IP (D : va_G) (cI cC cO : ClassId) (sz : Nat) (x : Nat × va_E) (U : State) : Prop := U.heap.size = sz ∧ va_P D vwCl [x] U.heap ∧ va_K D vwCl (tyK cI cC cO) U ∧ va_D (fun _ => True) [x] ∧ (∀ w ∈ NL, va_Nw w U) ∧ va_AO RX2 U
abbrev QP {S : Type} (D : va_G) (cf : S → va_W) (post : S → Prop) (x : Nat × va_E) (sz : Nat) : Array Value → State → Outcome → State → Prop := va_Qv post (fun u t => va_P D vwCl (cf u) t.heap ∧ va_D (va_A [x] sz) (cf u)) (va_A [x] sz)
theorem one_D (x : Nat × va_E) : va_D (fun _ => True) [x] := by
  refine ⟨fun i j p q hi hj _ => ?_, fun _ _ _ => trivial⟩
  have h1 : i < 1 := (List.getElem?_eq_some_iff.mp hi).1
  have h2 : j < 1 := (List.getElem?_eq_some_iff.mp hj).1
  omega
theorem ip_blind {D : va_G} {cI cC cO : ClassId} {sz : Nat} {x : Nat × va_E} {av : List Value} : FrameBlind (va_Pc av (IP D cI cC cO sz x)) := fun a U fr mk q => by
  obtain ⟨q0, qz, qP, qK, qD, qN, qO⟩ := q
  exact ⟨q0, qz, qP, va_K.moved (u := U) (U := U.calling fr mk a) (Vm.Alike.refl U.vm) qK, qD, nl_same (s := U) (U := U.calling fr mk a) rfl qN, va_AO.moved (u := U) (U := U.calling fr mk a) (Vm.Alike.refl U.vm) qO⟩
theorem ip_pre {D : va_G} {cI cC cO : ClassId} {ws0 : va_W} {x : Nat × va_E} {av : List Value} {s : State} {H : Heap} (hP : va_P D vwCl (ws0 ++ [x]) H) (hK : va_K D vwCl (tyK cI cC cO) s) (hN : ∀ w ∈ NL, va_Nw w s) (hO : va_AO RX2 s) : ∀ U : State, U.heap = H → s.WarmedH U.vm → va_Pc av (IP D cI cC cO H.size x) av.toArray U := fun U hU hW => by
  refine ⟨rfl, by rw [hU], ?_, va_K.moved hW.alike hK, one_D x, nl_warm hW hN, va_AO.moved hW.alike hO⟩
  rw [hU]
  refine hP.sub [ws0.length] ?_
  simp
theorem ic_back {S : Type} {post : S → Prop} {cf : S → va_W} {p : Program} {l : Launch} {e : Env} {R : Room} {s : State} {m : MethodId} {args : Array Value} {below : List Frame} {meth : Method} {c : Code} {Q : State → Prop} {pc : Nat} {ls : Array Slot} {st0 rest : List Value} {D : va_G} {ws0 : va_W} {q : Nat} {e0 : va_E} {A : Nat → Prop} {H0 H : Heap} {locs : List Loc} {cells slots mc ms : Nat} {a : Array Value}
    (hr : va_Run p l e R s m args below meth c H locs cells slots mc ms (F0 m pc ls st0) rest (QP D cf post (q, e0) H.size a) (va_A [(q, e0)] H.size))
    (hP : va_P D vwCl (ws0 ++ [(q, e0)]) H) (hD : va_D A (ws0 ++ [(q, e0)])) (hS : va_S A H0 H locs) (hA : ∀ x, H0.size ≤ x → A x)
    (kk : ∀ (u : S) (H1 : Heap) (locs1 : List Loc), post u → va_P D vwCl (ws0 ++ cf u) H1 → va_D A (ws0 ++ cf u) → va_S A H0 H1 locs1 → W p l e R s m args below meth c H1 locs1 (cells + mc) (slots + ms) Q (F0 m (pc + 3) ls rest)) : W p l e R s m args below meth c H locs cells slots Q (F0 m pc ls st0) := by
  have hq : (ws0 ++ [(q, e0)])[ws0.length]? = some (q, e0) := by simp
  have hF : ∀ x, va_A [(q, e0)] H.size x → A x := fun x hx => by
    rcases hx with ⟨k, e1, hk⟩ | hx
    · have hk1 : k < 1 := (List.getElem?_eq_some_iff.mp hk).1
      obtain rfl : k = 0 := by omega
      cases hk
      exact hD.2 _ _ hq
    · exact hA x (Nat.le_trans hS.1 hx)
  refine va_callv hr hS (fun x _ h => hF x h) hF (fun u t H1 locs1 ht hvm hpost hB hz hk hS1 => ?_)
  obtain ⟨hB1, hB2⟩ := hB
  rw [ht] at hB1
  have hw0 : ∀ (k : Nat) (x : Nat × va_E), ws0[k]? = some x → (ws0 ++ [(q, e0)])[k]? = some x ∧ k < ws0.length := fun k x hx => by
    have hl := (List.getElem?_eq_some_iff.mp hx).1
    exact ⟨by rw [List.getElem?_append_left hl]; exact hx, hl⟩
  have hne : ∀ (k : Nat) (x : Nat × va_E), ws0[k]? = some x → x.1 < H.size ∧ ¬ va_A [(q, e0)] H.size x.1 := fun k x hx => by
    obtain ⟨h1, h2⟩ := hw0 k x hx
    have hl : x.1 < H.size := (hP k x h1).lt
    refine ⟨hl, fun z => ?_⟩
    rcases z with ⟨j, e1, hj⟩ | z
    · have hj1 : j < 1 := (List.getElem?_eq_some_iff.mp hj).1
      obtain rfl : j = 0 := by omega
      cases hj
      have := hD.1 k ws0.length x _ h1 hq rfl
      omega
    · omega
  refine kk u H1 locs1 hpost (va_P.app (va_P.kept (ws := ws0) (H := H) (fun k x hx => hP k x (hw0 k x hx).1) (fun k x hx => hk _ (hne k x hx).1 (hne k x hx).2)) hB1) (va_D.app ⟨fun i j x y hx hy hxy => hD.1 i j x y (hw0 i x hx).1 (hw0 j y hy).1 hxy, fun k x hx => hD.2 k x (hw0 k x hx).1⟩ (va_D.weaken hB2 (fun _ _ _ h => hF _ h)) (fun i j x y hx hy hxy => ?_)) hS1
  exact (hne i x hx).2 (by rw [hxy]; exact hB2.2 j y hy)
end
section
/-! what makes a row: the law's own methods, whose contracts make cells -/
theorem pw_sld {l : Launch} {g : Geo} {own : String} {cc : ByteArray} {rm : Room} {nL : Nat} {ret : Option FieldType} {fin : Option Value → WD → Prop} {X : Nat → Nat → (Nat → Int32) → Prop} {P : PT} (hX : Gd l g own cc rm nL ret fin X P) {w : WD} {pc q : Nat} {lv : List (Option Value)} {st : List Value} {b L : Nat} {xs : Nat → Int32} (hb0 : X b L xs) {i : Int32} (hin : vp_in i L) (hd : decode cc pc = .ok (.iaload, 1)) (hq : pc + 1 = q) (kk : P w q lv (.int (xs i.toNatClampNeg) :: st)) : P w pc lv (.int i :: .ref b :: st) := by
  obtain ⟨p, e, s, m, args, below, meth, c, cells, slots, Q, A, rfl, hx, hb, hml, hown, hTB, hNL, hK, hG, hcs, hScr, hri, hrv⟩ := hX
  subst hq
  obtain ⟨x1, x2, x3⟩ := hScr _ _ _ hb0
  intro H locs ls hP hS hl
  exact va_sld hx hb x3 x1 x2 hS hin hd (kk H locs ls hP hS hl)
theorem pw_slen {l : Launch} {g : Geo} {own : String} {cc : ByteArray} {rm : Room} {nL : Nat} {ret : Option FieldType} {fin : Option Value → WD → Prop} {X : Nat → Nat → (Nat → Int32) → Prop} {P : PT} (hX : Gd l g own cc rm nL ret fin X P) {w : WD} {pc q : Nat} {lv : List (Option Value)} {st : List Value} {b L : Nat} {xs : Nat → Int32} (hb0 : X b L xs) (hd : decode cc pc = .ok (.arraylength, 1)) (hq : pc + 1 = q) (kk : P w q lv (.int (nI L) :: st)) : P w pc lv (.ref b :: st) := by
  obtain ⟨p, e, s, m, args, below, meth, c, cells, slots, Q, A, rfl, hx, hb, hml, hown, hTB, hNL, hK, hG, hcs, hScr, hri, hrv⟩ := hX
  subst hq
  obtain ⟨x1, x2, x3⟩ := hScr _ _ _ hb0
  intro H locs ls hP hS hl
  exact va_slen hx hb x3 x1 x2 hS hd (kk H locs ls hP hS hl)
theorem pw_ishr {l : Launch} {g : Geo} {own : String} {cc : ByteArray} {rm : Room} {nL : Nat} {ret : Option FieldType} {fin : Option Value → WD → Prop} {X : Nat → Nat → (Nat → Int32) → Prop} {P : PT} (hX : Gd l g own cc rm nL ret fin X P) {w : WD} {pc q : Nat} {lv : List (Option Value)} {st : List Value} {x y : Int32} (hd : decode cc pc = .ok (.ishr, 1)) (hq : pc + 1 = q) (kk : P w q lv (.int (x >>> (y &&& 31)) :: st)) : P w pc lv (.int y :: .int x :: st) := by
  obtain ⟨p, e, s, m, args, below, meth, c, cells, slots, Q, A, rfl, hx, hb, hml, hown, hTB, hNL, hK, hG, hcs, hScr, hri, hrv⟩ := hX
  subst hq
  intro H locs ls hP hS hl
  exact lv_ishr hx hb hd (kk H locs ls hP hS hl)
/-- a point of a run in the open -/
def PW (l : Launch) (g : Geo) (rm : Room) (nL : Nat) (p : Program) (e : Env) (s : State) (m : MethodId) (args : Array Value) (below : List Frame) (meth : Method) (c : Code) (Q : State → Prop) (A : Nat → Prop) (n k : Nat) : PT :=
  fun w pc lv st => ∀ (H : Heap) (locs : List Loc) (ls : Array Slot), va_P g.1 vwCl (g_wl g w) H → va_S A s.heap H locs → lvh ls nL lv → W p l e rm s m args below meth c H locs n k Q (F0 m pc ls st)
def GX (l : Launch) (g : Geo) (own : String) (cc : ByteArray) (rm : Room) (nL : Nat) (ret : Option FieldType) (fin : Option Value → WD → Prop) (X : Nat → Nat → (Nat → Int32) → Prop) (mc ms : Nat) (p : Program) (e : Env) (s : State) (m : MethodId) (args : Array Value) (below : List Frame) (meth : Method) (c : Code) (Q : State → Prop) (A : Nat → Prop) : Prop :=
  p.tables.exec = Jvm.exec ∧ c.code = cc ∧ c.maxLocals = nL ∧ s.vm.findClass own = some m.cls ∧ (∀ w ∈ TB, w.before args s = true) ∧ (∀ x ∈ NL, va_Nw x s) ∧ va_K g.1 vwCl (g_ty g) s ∧ (Ginj g ∧ ∀ q, Ag g q → A q) ∧ (mc ≤ rm.cells ∧ ms ≤ rm.slots) ∧
  (∀ b L xs, X b L xs → b < s.heap.size ∧ ¬ A b ∧ va_X b L xs s s.heap) ∧ (∀ q, s.heap.size ≤ q → A q) ∧
  (∀ n k, n ≤ mc → k ≤ ms → ∀ w pc lv v, decode cc pc = .ok (.ireturn, 1) → (∃ ty, ret = some ty ∧ narrow ty (.int v) = .int v) → fin (some (.int v)) w → PW l g rm nL p e s m args below meth c Q A n k w pc lv [.int v])
theorem GX.gd {l : Launch} {g : Geo} {own : String} {cc : ByteArray} {rm : Room} {nL : Nat} {ret : Option FieldType} {fin : Option Value → WD → Prop} {X : Nat → Nat → (Nat → Int32) → Prop} {mc ms : Nat} {p : Program} {e : Env} {s : State} {m : MethodId} {args : Array Value} {below : List Frame} {meth : Method} {c : Code} {Q : State → Prop} {A : Nat → Prop} (h : GX l g own cc rm nL ret fin X mc ms p e s m args below meth c Q A) (hret : ret ≠ none) {n k : Nat} (hn : n ≤ mc) (hk : k ≤ ms) : Gd l g own cc rm nL ret fin X (PW l g rm nL p e s m args below meth c Q A n k) := by
  obtain ⟨hx, hb, hml, hown, hTB, hNL, hK, hG, hcs, hScr, hA, hri⟩ := h
  exact ⟨p, e, s, m, args, below, meth, c, n, k, Q, A, rfl, hx, hb, hml, hown, hTB, hNL, hK, hG, ⟨Nat.le_trans hn hcs.1, Nat.le_trans hk hcs.2⟩, hScr, hri n k hn hk, fun _ _ _ _ h => absurd h hret⟩
/-- the geometry with the law's row -/
def gR (g : Geo) (q : Nat) : Geo := (g.1, fun o k => if o = 9 ∧ k = 1 then q else g_ad g o k, g.2.2.1, g.2.2.2.1, g.2.2.2.2.1, true)
theorem gR_fl (g : Geo) (q : Nat) : g_fl (gR g q) = true := rfl
theorem gR_9 (g : Geo) (q : Nat) : g_ad (gR g q) 9 1 = q := rfl
theorem gR_n (g : Geo) (q : Nat) {o k : Nat} (h : ¬ (o = 9 ∧ k = 1)) : g_ad (gR g q) o k = g_ad g o k := if_neg h
theorem gR_a (g : Geo) (q : Nat) {o : Nat} (k : Nat) (h : o ≠ 9) : g_ad (gR g q) o k = g_ad g o k := gR_n g q (fun z => h z.1)
theorem d0_9 {o k : Nat} (h : (o, k) ∈ g_d0) : o ≠ 9 := by
  have h0 : g_d0.all (fun q => decide (q.1 ≠ 9)) = true := by decide +kernel
  exact of_decide_eq_true (List.all_eq_true.mp h0 _ h)
theorem d0_8 {k : Nat} (h : (8, k) ∈ g_d0) : k < 2 := by
  have h0 : g_d0.all (fun q => decide (q.1 = 8 → q.2 < 2)) = true := by decide +kernel
  exact of_decide_eq_true (List.all_eq_true.mp h0 _ h) rfl
theorem dm_f {g : Geo} (h : g_fl g = false) : g_dm g = g_d0 := by
  unfold g_dm
  rw [h]
  simp
theorem dm_t {g : Geo} (h : g_fl g = true) : g_dm g = g_d0 ++ [(9, 1)] := by
  unfold g_dm
  rw [h]
  simp
theorem gR_cell {g : Geo} {q : Nat} {w : WD} {o k : Nat} (hz : (o, k) ∈ g_d0) : g_cell (gR g q) w o k = g_cell g w o k := by
  have h9 : o ≠ 9 := d0_9 hz
  unfold g_cell
  by_cases hk : k = 0
  · rw [if_pos hk, if_pos hk]
    have e : ∀ a b, a ≠ 9 → g_ad (gR g q) a b = g_ad g a b := fun a b h => gR_a g q b h
    unfold g_fs
    by_cases h1 : o < 7
    · simp only [if_pos h1, fsV, e o _ h9]
    · by_cases h2 : o = 7
      · simp only [if_neg h1, if_pos h2, fsO, e 7 _ (by decide)]
      · by_cases h3 : o = 8
        · simp only [if_neg h1, if_neg h2, if_pos h3, fsH, e 8 _ (by decide)]
        · simp only [if_neg h1, if_neg h2, if_neg h3, fsR, e 0 _ (by decide), e 1 _ (by decide), e 8 _ (by decide), e 7 _ (by decide)]
  · rw [if_neg hk, if_neg hk]
    by_cases h8 : o = 8
    · rw [if_pos h8, if_pos h8]
      have e : (fun i => some (g_ad (gR g q) (w.2 i) 0)) = fun i => some (g_ad g (w.2 i) 0) := funext (fun i => by rw [gR_n g q (o := w.2 i) (k := 0) (fun z => absurd z.2 (by decide))])
      rw [e]
      rfl
    · rw [if_neg h8, if_neg h8]
      rfl
theorem gR_wl {g : Geo} (hf : g_fl g = false) (q : Nat) (w : WD) : g_wl (gR g q) w = g_wl g w ++ [(q, .inl (g.2.2.1, 24, .inl (fun j => nI (w.1 9 1 j))))] := by
  unfold g_wl
  rw [dm_f hf, dm_t (gR_fl g q), List.map_append]
  congr 1
  refine List.map_congr_left (fun z hz => ?_)
  obtain ⟨o, k⟩ := z
  dsimp only
  rw [gR_cell hz, gR_a g q k (d0_9 hz)]
theorem wl_wA9 {g : Geo} (hf : g_fl g = false) (w : WD) (f : Nat → Nat) : g_wl g (wA w 9 1 f) = g_wl g w := by
  unfold g_wl
  rw [dm_f hf]
  refine List.map_congr_left (fun z hz => ?_)
  obtain ⟨o, k⟩ := z
  dsimp only
  rw [cell_wA (fun h => d0_9 hz (congrArg Prod.fst h))]
theorem va_P_left {D : va_G} {cl : List vw_C} {ws ys : va_W} {H : Heap} (h : va_P D cl (ws ++ ys) H) : va_P D cl ws H := fun k q hq => h k q (by rw [List.getElem?_append_left (List.getElem?_eq_some_iff.mp hq).1]; exact hq)
theorem ginj_of {g : Geo} {A : Nat → Prop} {w : WD} (hD : va_D A (g_wl g w)) : Ginj g ∧ ∀ q, Ag g q → A q := by
  refine ⟨fun z hz z' hz' e => ?_, fun q hq => ?_⟩
  · obtain ⟨i, i1, i2⟩ := wl_at g hz
    obtain ⟨j, j1, j2⟩ := wl_at g hz'
    have := hD.1 i j _ _ (i2 w) (j2 w) e
    subst this
    exact Option.some.inj (i1.symm.trans j1)
  · obtain ⟨z, hz, rfl⟩ := hq
    obtain ⟨i, i1, i2⟩ := wl_at g hz
    exact hD.2 i _ (i2 w)
theorem pw_newR {l : Launch} {g : Geo} {own : String} {cc : ByteArray} {rm : Room} {nL : Nat} {ret : Option FieldType} {fin : Option Value → WD → Prop} {X : Nat → Nat → (Nat → Int32) → Prop} {mc ms : Nat} {p : Program} {e : Env} {s : State} {m : MethodId} {args : Array Value} {below : List Frame} {meth : Method} {c : Code} {Q : State → Prop} {A : Nat → Prop} (h : GX l g own cc rm nL ret fin X mc ms p e s m args below meth c Q A) (hf : g_fl g = false) {n k : Nat} (hn : n + 1 ≤ mc) (hk : k + 24 ≤ ms) {w : WD} {pc q : Nat} {lv : List (Option Value)} {st : List Value} (hd : decode cc pc = .ok (.newarray .int, 2)) (hq : pc + 2 = q)
    (kk : ∀ a, GX l (gR g a) own cc rm nL ret fin X mc ms p e s m args below meth c Q A → PW l (gR g a) rm nL p e s m args below meth c Q A (n + 1) (k + 24) (wA w 9 1 (fun _ => 0)) q lv (.ref (g_ad (gR g a) 9 1) :: st)) : PW l g rm nL p e s m args below meth c Q A n k w pc lv (.int (nI 24) :: st) := by
  obtain ⟨hx, hb, hml, hown, hTB, hNL, hK, hG, hcs, hScr, hA, hri⟩ := h
  subst hq
  intro H locs ls hP hS hl
  refine va_newI (cI := g.2.2.1) (atype := .int) (ty := .int) hx hb (hTB _ wa_int) rfl hK hP (g_D hG.1 hG.2 w) hS hA 0 rfl (n := nI 24) (N' := 24) (a0 := (24, .inl (fun _ => nI 0))) (fun _ => rfl) (by decide +kernel) (by decide +kernel) (by decide +kernel) (by omega) (by omega) hd (fun a H1 hP1 hD1 hS1 => ?_)
  have e1 : ∀ w' : WD, w'.1 9 1 = (fun _ => 0) → g_wl g w' = g_wl g w → g_wl (gR g a) w' = g_wl g w ++ [(a, .inl (g.2.2.1, 24, .inl (fun _ => nI 0)))] := fun w' h1 h2 => by rw [gR_wl hf, h1, h2]
  have e2 := e1 (wA w 9 1 (fun _ => 0)) (wA_s _ _ _ _) (wl_wA9 hf w _)
  have hD2 : va_D A (g_wl (gR g a) (wA w 9 1 (fun _ => 0))) := by rw [e2]; exact hD1
  refine kk a ⟨hx, hb, hml, hown, hTB, hNL, hK, ginj_of hD2, hcs, hScr, hA, fun n k hn hk w pc lv v h1 h2 h3 H locs ls hP hS hl => hri n k hn hk w pc lv v h1 h2 h3 H locs ls (by rw [gR_wl hf] at hP; exact va_P_left hP) hS hl⟩ H1 locs ls (by rw [e2]; exact hP1) hS1 hl
/-- which cells a method that makes cells may change -/
def Af (g : Geo) (sz : Nat) : Nat → Prop := fun q => Ag g q ∨ sz ≤ q
/-- a contract of a method that makes cells: by what its answer and its world hold -/
def CtN (mc ms : Nat) (l : Launch) (g : Geo) (sz : Nat) (y : MethodName) (bytes : ByteArray) (maxL : Nat) (ret : Option FieldType) (rm : Room) (av : List Value) (w : WD) (T : Option Value → WD → Prop) : Prop :=
  Met l y (.code y bytes maxL ret :: TB) rm (va_Pc av (fun U => U.heap.size = sz ∧ va_P g.1 vwCl (g_wl g w) U.heap ∧ va_K g.1 vwCl (g_ty g) U ∧ (∀ x ∈ NL, va_Nw x U) ∧ Ginj g)) (fun _ st o t => ∃ (r : Option Value) (w' : WD), o = .returned r ∧ T r w' ∧ va_P g.1 vwCl (g_wl g w') t.heap ∧ va_F (Af g sz) st t) mc ms (Af g sz)
theorem ct_ofN {mc ms : Nat} {l : Launch} {g : Geo} {sz : Nat} {y : MethodName} {bytes : ByteArray} {maxL : Nat} {ret : Option FieldType} {rm : Room} {av : List Value} {w : WD} {T : Option Value → WD → Prop} (hy : plainName y.cls = true) (hrc : rm.cells = mc ∧ rm.slots = ms) (hcat : ∀ v ∈ av, v.category = 1) (hlen : av.length ≤ maxL)
    (body : ∀ (p : Program) (e : Env) (s : State) (m : MethodId) (args : Array Value) (below : List Frame) (meth : Method) (c : Code) (Q : State → Prop) (A : Nat → Prop), GX l g y.cls bytes rm maxL ret T (fun _ _ _ => False) mc ms p e s m args below meth c Q A → PW l g rm maxL p e s m args below meth c Q A 0 0 w 0 (lvOf maxL av) []) : CtN mc ms l g sz y bytes maxL ret rm av w T := by
  refine Met.ofW (cc := bytes) (maxL := maxL) (ret := ret) hy rfl ?_
  intro p e s m args below meth c s₁ B hml hv
  obtain ⟨rfl, hsz, hP, hK, hN, hG⟩ := hv
  have hx := B.exec
  have hb := B.bytes
  have hr := B.returns
  have hts := atoms_spec (ws := Cond.code y bytes maxL ret :: TB) B.pre
  have hown : s.vm.findClass y.cls = some m.cls := findClass_of_methodNamed B.named
  have hl := lv_entry av (n := maxL) (by rw [lg_slen av hcat]; exact hlen)
  rw [lg_entry_eq]
  generalize (lg_sl av ++ List.replicate (maxL - (lg_sl av).length) Slot.unset).toArray = ls at hl ⊢
  have hlv : lvh ls maxL (lvOf maxL av) := ⟨hl.1, hl.2.1, fun i v h => by
    have h1 := lg_of _ av i v 0 hcat h
    rw [Nat.zero_add] at h1
    exact ⟨hl.2.2 _ h1.1, h1.2⟩⟩
  refine body p e s m av.toArray below meth c (MQ below (fun _ st o t => ∃ (r : Option Value) (w' : WD), o = .returned r ∧ T r w' ∧ va_P g.1 vwCl (g_wl g w') t.heap ∧ va_F (Af g sz) st t) av.toArray s mc ms (Af g sz)) (Af g sz) ⟨hx, hb, hml, hown, fun w hw => hts w (List.mem_cons_of_mem _ hw), hN, hK, ⟨hG, fun _ h => Or.inl h⟩, ⟨Nat.le_of_eq hrc.1.symm, Nat.le_of_eq hrc.2.symm⟩, fun _ _ _ h => h.elim, fun q hq => Or.inr (by rw [← hsz]; exact hq), ?_⟩ s.heap [] ls hP va_S.rf hlv
  intro n k hn hk w2 pc lv v hd hty hfin H locs ls hP hS hl
  obtain ⟨ty, hty, hnr⟩ := hty
  refine W.widen (k := mc) (n := ms) hn hk ?_
  exact W.zret hx hb (hr.trans hty) hnr (fun t ht _ => ⟨_, w2, rfl, hfin, by rw [ht]; exact hP, hS.F ht⟩) hS.2.2 hd
theorem ctn_blind {g : Geo} {sz : Nat} {av : List Value} {w : WD} : FrameBlind (va_Pc av (fun U => U.heap.size = sz ∧ va_P g.1 vwCl (g_wl g w) U.heap ∧ va_K g.1 vwCl (g_ty g) U ∧ (∀ x ∈ NL, va_Nw x U) ∧ Ginj g)) := fun a U fr mk q => by
  obtain ⟨q0, qz, qP, qK, qN, qG⟩ := q
  exact ⟨q0, qz, qP, va_K.moved (u := U) (U := U.calling fr mk a) (Vm.Alike.refl U.vm) qK, nl_same (s := U) (U := U.calling fr mk a) rfl qN, qG⟩
theorem ctn_pre {g : Geo} {av : List Value} {w : WD} {s : State} {H : Heap} (hP : va_P g.1 vwCl (g_wl g w) H) (hK : va_K g.1 vwCl (g_ty g) s) (hN : ∀ x ∈ NL, va_Nw x s) (hG : Ginj g) : ∀ U : State, U.heap = H → s.WarmedH U.vm → va_Pc av (fun U => U.heap.size = H.size ∧ va_P g.1 vwCl (g_wl g w) U.heap ∧ va_K g.1 vwCl (g_ty g) U ∧ (∀ x ∈ NL, va_Nw x U) ∧ Ginj g) av.toArray U :=
  fun U hU hW => ⟨rfl, by rw [hU], by rw [hU]; exact hP, va_K.moved hW.alike hK, nl_warm hW hN, hG⟩
abbrev RmOkN (mc ms : Nat) (rm rmc : Room) (maxL : Nat) : Prop := rmc.cells = mc ∧ rmc.slots = ms ∧ rmc.frames + 1 ≤ rm.frames ∧ 8 + (maxL + 11) + rmc.locals ≤ rm.locals
theorem pw_csN {l : Launch} {g : Geo} {own : String} {cc : ByteArray} {rm : Room} {nL : Nat} {ret : Option FieldType} {fin : Option Value → WD → Prop} {X : Nat → Nat → (Nat → Int32) → Prop} {mc ms : Nat} {p : Program} {e : Env} {s : State} {m : MethodId} {args : Array Value} {below : List Frame} {meth : Method} {c : Code} {Q : State → Prop} {A : Nat → Prop} (h : GX l g own cc rm nL ret fin X mc ms p e s m args below meth c Q A) {n k mc' ms' : Nat} (hn' : n + mc' ≤ mc) (hk' : k + ms' ≤ ms) {w : WD} {pc q : Nat} {lv : List (Option Value)} {st : List Value} {y : MethodName} {bytes : ByteArray} {maxL np index : Nat} {rt : Option FieldType} {rmc : Room} {T : Option Value → WD → Prop} {As : List Value} {st0 : List Value} (hd : decode cc pc = .ok (.invokestatic index, 3)) (hq : pc + 3 = q) (hM : MS y bytes maxL rt np) (hlk : Cond.methodLink own index y ∈ TB) (hrm : RmOkN mc' ms' rm rmc maxL) (hn : As.length = np) (hst : st0 = As.reverse ++ st) (hcat : (st.map fun v => v.category).sum ≤ 8) (hC : ∀ sz, CtN mc' ms' l g sz y bytes maxL rt rmc As w T) (kk : ∀ r w', T r w' → PW l g rm nL p e s m args below meth c Q A (n + mc') (k + ms') w' q lv (r.toList ++ st)) : PW l g rm nL p e s m args below meth c Q A n k w pc lv st0 := by
  subst hst
  obtain ⟨hx, hb, hml, hown, hTB, hNL, hK, hG, hcs, hScr, hA, hri⟩ := h
  subst hq
  intro H locs ls hP hS hl
  obtain ⟨h1, h3, h4, h5, h6⟩ := hM
  have hr := va_runS (own := own) (index := index) (n := np) (y := y) (bytes := bytes) (maxL := maxL) (ret := rt) (As := As) (rest := st) (g := F0 m pc ls (As.reverse ++ st)) (p := p) (e := e) (s := s) (m := m) (args := args) (below := below) (meth := meth) (c := c) (H := H) (locs := locs) (cells := n) (slots := k) (R := rm) ⟨hx, hb, hml, hown, hTB⟩ (hC H.size) ⟨⟨hrm.1, hrm.2.1, hrm.2.2.1, hrm.2.2.2, ct_ws hTB h4, List.mem_cons_self, hTB _ h4, hTB _ h3, ⟨h5.1, h5.2.1⟩, fun sig hs => by have h9 := h5.2.2; rw [hs] at h9; exact (Option.some.inj h9).symm, hTB _ hlk⟩, hTB _ h1⟩ ⟨ctn_blind, ctn_pre hP hK hNL hG.1⟩ rfl hn hl.1 rfl (lv_room hcat) hd ⟨by omega, by omega⟩
  intro TT hT XX
  obtain ⟨v, st₀, t, T', L, h0, X', hL, e1, e2, ⟨r, w', hv, hT', hP', hF⟩, stp⟩ := hr TT hT XX
  cases hv
  obtain ⟨hz, hk⟩ := hF
  rw [h0] at hz hk
  have hAf : ∀ q, Af g H.size q → A q := fun q hq => by
    rcases hq with hq | hq
    · exact hG.2 q hq
    · exact hA q (Nat.le_trans hS.1 hq)
  have hS1 : va_S A s.heap T'.heap (locs ++ L) := ⟨Nat.le_trans hS.1 (by rw [e1]; exact hz), fun q h1 h2 => by rw [e1, hk q (Nat.lt_of_lt_of_le h1 hS.1) (fun z => h2 (hAf q z))]; exact hS.2.1 q h1 h2, fun q hq => by
    rcases List.mem_append.mp hq with h | h
    · exact hS.2.2 q h
    · exact hAf _ (hL q h)⟩
  obtain ⟨t2, a1, b1⟩ := kk _ w' hT' T'.heap (locs ++ L) ls (by rw [e1]; exact hP') hS1 hl T' rfl X'
  exact ⟨t2, stp t2 a1, b1⟩
/-- a contract of a method that reads the script too -/
def CtS (b L : Nat) (xs : Nat → Int32) (l : Launch) (g : Geo) (y : MethodName) (bytes : ByteArray) (maxL : Nat) (ret : Option FieldType) (rm : Room) (av : List Value) (w : WD) (T : Option Value → WD → Prop) : Prop :=
  Met l y (.code y bytes maxL ret :: TB) rm (va_Pc av (fun U => (va_X b L xs U U.heap ∧ b < U.heap.size ∧ ¬ Ag g b) ∧ va_P g.1 vwCl (g_wl g w) U.heap ∧ va_K g.1 vwCl (g_ty g) U ∧ (∀ x ∈ NL, va_Nw x U) ∧ Ginj g)) (fun _ st o t => ∃ (r : Option Value) (w' : WD), o = .returned r ∧ T r w' ∧ va_P g.1 vwCl (g_wl g w') t.heap ∧ va_F (Ag g) st t) 0 0 (Ag g)
theorem ct_ofS {b L : Nat} {xs : Nat → Int32} {l : Launch} {g : Geo} {y : MethodName} {bytes : ByteArray} {maxL : Nat} {ret : Option FieldType} {rm : Room} {av : List Value} {w : WD} {T : Option Value → WD → Prop} (hy : plainName y.cls = true) (hrc : rm.cells = 0 ∧ rm.slots = 0) (hcat : ∀ v ∈ av, v.category = 1) (hlen : av.length ≤ maxL)
    (body : ∀ P : PT, Gd l g y.cls bytes rm maxL ret T (fun b' L' xs' => b' = b ∧ L' = L ∧ xs' = xs) P → P w 0 (lvOf maxL av) []) : CtS b L xs l g y bytes maxL ret rm av w T := by
  refine Met.ofW (cc := bytes) (maxL := maxL) (ret := ret) hy rfl ?_
  intro p e s m args below meth c s₁ B hml hv
  obtain ⟨rfl, ⟨hX, hbl, hbA⟩, hP, hK, hN, hG⟩ := hv
  have hx := B.exec
  have hb := B.bytes
  have hr := B.returns
  have hts := atoms_spec (ws := Cond.code y bytes maxL ret :: TB) B.pre
  have hown : s.vm.findClass y.cls = some m.cls := findClass_of_methodNamed B.named
  have hl := lv_entry av (n := maxL) (by rw [lg_slen av hcat]; exact hlen)
  rw [lg_entry_eq]
  generalize (lg_sl av ++ List.replicate (maxL - (lg_sl av).length) Slot.unset).toArray = ls at hl ⊢
  have hlv : lvh ls maxL (lvOf maxL av) := ⟨hl.1, hl.2.1, fun i v h => by
    have h1 := lg_of _ av i v 0 hcat h
    rw [Nat.zero_add] at h1
    exact ⟨hl.2.2 _ h1.1, h1.2⟩⟩
  refine body _ ⟨p, e, s, m, av.toArray, below, meth, c, 0, 0, MQ below (fun _ st o t => ∃ (r : Option Value) (w' : WD), o = .returned r ∧ T r w' ∧ va_P g.1 vwCl (g_wl g w') t.heap ∧ va_F (Ag g) st t) av.toArray s 0 0 (Ag g), Ag g, rfl, hx, hb, hml, hown, fun w hw => hts w (List.mem_cons_of_mem _ hw), hN, hK, ⟨hG, fun _ h => h⟩, ⟨Nat.zero_le _, Nat.zero_le _⟩, fun b' L' xs' h => by obtain ⟨rfl, rfl, rfl⟩ := h; exact ⟨hbl, hbA, hX⟩, ?_, ?_⟩ s.heap [] ls hP va_S.rf hlv
  · intro w2 pc lv v hd hty hfin H locs ls hP hS hl
    obtain ⟨ty, hty, hn⟩ := hty
    exact W.zret hx hb (hr.trans hty) hn (fun t ht _ => ⟨_, w2, rfl, hfin, by rw [ht]; exact hP, hS.F ht⟩) hS.2.2 hd
  · intro w2 pc lv hd hty hfin H locs ls hP hS hl
    exact W.vret hx hb (hr.trans hty) (fun t ht _ => ⟨_, w2, rfl, hfin, by rw [ht]; exact hP, hS.F ht⟩) hS.2.2 hd
theorem cts_blind {b L : Nat} {xs : Nat → Int32} {g : Geo} {av : List Value} {w : WD} : FrameBlind (va_Pc av (fun U => (va_X b L xs U U.heap ∧ b < U.heap.size ∧ ¬ Ag g b) ∧ va_P g.1 vwCl (g_wl g w) U.heap ∧ va_K g.1 vwCl (g_ty g) U ∧ (∀ x ∈ NL, va_Nw x U) ∧ Ginj g)) := fun a U fr mk q => by
  obtain ⟨q0, ⟨qX, ql, qA⟩, qP, qK, qN, qG⟩ := q
  exact ⟨q0, ⟨va_X.moved (u := U) (U := U.calling fr mk a) (Vm.Alike.refl U.vm) qX, ql, qA⟩, qP, va_K.moved (u := U) (U := U.calling fr mk a) (Vm.Alike.refl U.vm) qK, nl_same (s := U) (U := U.calling fr mk a) rfl qN, qG⟩
theorem pw_csS {b L : Nat} {xs : Nat → Int32} {l : Launch} {g : Geo} {own : String} {cc : ByteArray} {rm : Room} {nL : Nat} {ret : Option FieldType} {fin : Option Value → WD → Prop} {X : Nat → Nat → (Nat → Int32) → Prop} {P : PT} (hX : Gd l g own cc rm nL ret fin X P) (hb0 : X b L xs) {w : WD} {pc q : Nat} {lv : List (Option Value)} {st : List Value} {y : MethodName} {bytes : ByteArray} {maxL n index : Nat} {rt : Option FieldType} {rmc : Room} {T : Option Value → WD → Prop} {As : List Value} {st0 : List Value} (hd : decode cc pc = .ok (.invokestatic index, 3)) (hq : pc + 3 = q) (hM : MS y bytes maxL rt n) (hlk : Cond.methodLink own index y ∈ TB) (hrm : RmOk rm rmc maxL) (hn : As.length = n) (hst : st0 = As.reverse ++ st) (hcat : (st.map fun v => v.category).sum ≤ 8) (hC : CtS b L xs l g y bytes maxL rt rmc As w T) (kk : ∀ r w', T r w' → P w' q lv (r.toList ++ st)) : P w pc lv st0 := by
  subst hst
  obtain ⟨p, e, s, m, args, below, meth, c, cells, slots, Q, A, rfl, hx, hb, hml, hown, hTB, hNL, hK, hG, hcs, hScr, hri, hrv⟩ := hX
  subst hq
  obtain ⟨x1, x2, x3⟩ := hScr _ _ _ hb0
  intro H locs ls hP hS hl
  obtain ⟨h1, h3, h4, h5, h6⟩ := hM
  have hr := va_runS (own := own) (index := index) (n := n) (y := y) (bytes := bytes) (maxL := maxL) (ret := rt) (As := As) (rest := st) (g := F0 m pc ls (As.reverse ++ st)) (p := p) (e := e) (s := s) (m := m) (args := args) (below := below) (meth := meth) (c := c) (H := H) (locs := locs) (cells := cells) (slots := slots) (R := rm) ⟨hx, hb, hml, hown, hTB⟩ hC ⟨⟨hrm.1, hrm.2.1, hrm.2.2.1, hrm.2.2.2, ct_ws hTB h4, List.mem_cons_self, hTB _ h4, hTB _ h3, ⟨h5.1, h5.2.1⟩, fun sig hs => by have h9 := h5.2.2; rw [hs] at h9; exact (Option.some.inj h9).symm, hTB _ hlk⟩, hTB _ h1⟩ ⟨cts_blind, fun U hU hW => ⟨rfl, ⟨by rw [hU]; exact (x3.kept (hS.2.1 b x1 x2)).moved hW.alike, by rw [hU]; exact Nat.lt_of_lt_of_le x1 hS.1, fun z => x2 (hG.2 b z)⟩, (ct_pre (av := As) hP hK hNL hG.1 U hU hW).2⟩⟩ rfl hn hl.1 rfl (lv_room hcat) hd ⟨hcs.1, hcs.2⟩
  intro TT hT XX
  obtain ⟨v, st₀, t, T', L, h0, X', hL, e1, e2, ⟨r, w', hv, hT', hP', hF⟩, stp⟩ := hr TT hT XX
  cases hv
  obtain ⟨hz, hk⟩ := hF
  rw [h0] at hz hk
  have hS1 : va_S A s.heap T'.heap (locs ++ L) := ⟨Nat.le_trans hS.1 (by rw [e1]; exact hz), fun q h1 h2 => by rw [e1, hk q (Nat.lt_of_lt_of_le h1 hS.1) (fun z => h2 (hG.2 q z))]; exact hS.2.1 q h1 h2, fun q hq => by
    rcases List.mem_append.mp hq with h | h
    · exact hS.2.2 q h
    · exact hG.2 _ (hL q h)⟩
  obtain ⟨t2, a1, b1⟩ := kk _ w' hT' T'.heap (locs ++ L) ls (by rw [e1]; exact hP') hS1 hl T' rfl X'
  exact ⟨t2, stp t2 a1, b1⟩
end
section
/-! numbers, bits, what the public calls answer at numbers -/
theorem smod_b : ∀ b, b < 31 → ((nI b &&& 31).toBitVec.smod 32).toNat = b := by decide +kernel
theorem n_shr {a b : Nat} (ha : a < 2 ^ 31) (hb : b < 31) : nI a >>> (nI b &&& 31) = nI (a / 2 ^ b) := pk_shrN ha _ b (smod_b b hb)
theorem n_bit {a b : Nat} (ha : a < 2 ^ 31) (hb : b < 31) : nI a >>> (nI b &&& 31) &&& nI 1 = nI (a / 2 ^ b % 2) := by
  rw [n_shr ha hb, n_and, Nat.and_one_is_mod]
/-- the bits of a that b has not -/
def an (a b : Nat) : Nat := a ^^^ (a &&& b)
theorem an_tb (a b i : Nat) : (an a b).testBit i = (a.testBit i && !(b.testBit i)) := by
  unfold an
  rw [Nat.testBit_xor, Nat.testBit_and]
  cases a.testBit i <;> cases b.testBit i <;> rfl
theorem n_an (a b : Nat) : nI a &&& (nI b ^^^ (-1 : Int32)) = nI (an a b) := by
  apply Int32.toBitVec_inj.mp
  show BitVec.ofNat 32 a &&& (BitVec.ofNat 32 b ^^^ BitVec.allOnes 32) = BitVec.ofNat 32 (an a b)
  apply BitVec.eq_of_getLsbD_eq
  intro i hi
  simp only [BitVec.getLsbD_and, BitVec.getLsbD_xor, BitVec.getLsbD_ofNat, BitVec.getLsbD_allOnes, an_tb, hi, decide_true, Bool.true_and]
  cases a.testBit i <;> cases b.testBit i <;> rfl
theorem an_bits (p q : Nat → Bool) (n : Nat) : an (bits p n) (bits q n) = bits (fun t => p t && !(q t)) n := by
  apply Nat.eq_of_testBit_eq
  intro i
  rw [an_tb, bits_tb, bits_tb, bits_tb]
  by_cases h : i < n
  · simp [h]
  · simp [h]
theorem and_bits (p q : Nat → Bool) (n : Nat) : bits p n &&& bits q n = bits (fun t => p t && q t) n := by
  apply Nat.eq_of_testBit_eq
  intro i
  rw [Nat.testBit_and, bits_tb, bits_tb, bits_tb]
  by_cases h : i < n
  · simp [h]
  · simp [h]
theorem bits_0 {p : Nat → Bool} {n : Nat} (h : ∀ t, t < n → p t = false) : bits p n = 0 := by
  apply Nat.eq_of_testBit_eq
  intro i
  rw [bits_tb, Nat.zero_testBit]
  by_cases hi : i < n
  · rw [h i hi, Bool.and_false]
  · rw [decide_eq_false hi, Bool.false_and]
theorem tb_dm (a i : Nat) : a.testBit i = decide (a / 2 ^ i % 2 = 1) := Nat.testBit_eq_decide_div_mod_eq
theorem bit_tb {a i : Nat} (h : a.testBit i = true) : a / 2 ^ i % 2 = 1 := by
  rw [tb_dm] at h
  exact of_decide_eq_true h
theorem bit_nt {a i : Nat} (h : a.testBit i = false) : a / 2 ^ i % 2 = 0 := by
  rw [tb_dm] at h
  have := of_decide_eq_false h
  omega
theorem bit_at (p : Nat → Bool) {n t : Nat} (h : t < n) : bits p n / 2 ^ t % 2 = if p t = true then 1 else 0 := by
  have e := bits_tb p n t
  rw [decide_eq_true h, Bool.true_and] at e
  cases hp : p t with
  | true => rw [hp] at e; rw [bit_tb e]; rfl
  | false => rw [hp] at e; rw [bit_nt e]; rfl
theorem bits12 (p : Nat → Bool) : bits p 12 < 2 ^ 31 := Nat.lt_trans (bits_lt p 12) (by decide)
theorem ixn {i : Nat} (h : i < 2 ^ 31) : ix (nI i) = i := ix_nI h
theorem hasn {n i : Nat} (h : i < n) (hn : n ≤ 12) : hasN n (nI i) = true := by rw [hasN_nI (by omega)]; exact decide_eq_true h
theorem qOf_at {V : Nat → Nat → Nat} {v k : Nat} (hn : V 0 0 ≤ 7) (hv : v < V 0 0) (hk : k ≤ 5) : qOf V (nI v) (nI k) = if k = 0 then nI (V 1 v) else if k = 1 then nI (V 2 v) else if k = 2 then nI (bits (fun t => kRum V (v * 12 + t)) 12) else if k = 3 then nI (bits (fun t => kTmb V (v * 12 + t)) 12) else if k = 4 then nI (V 4 v) else (if V 1 v = 1 then nI (V 0 1) - nI (V 3 v) else -1000004) := by
  unfold qOf
  rw [if_pos ⟨hasn hv (by omega), by rw [inN_nI (by omega)]; exact decide_eq_true ⟨Nat.zero_le _, hk⟩⟩, ixn (i := v) (by omega), ixn (i := k) (by omega)]
theorem qOf_0 {V : Nat → Nat → Nat} {v : Nat} (hn : V 0 0 ≤ 7) (hv : v < V 0 0) : qOf V (nI v) (nI 0) = nI (V 1 v) := qOf_at hn hv (by decide)
theorem qOf_1 {V : Nat → Nat → Nat} {v : Nat} (hn : V 0 0 ≤ 7) (hv : v < V 0 0) : qOf V (nI v) (nI 1) = nI (V 2 v) := qOf_at hn hv (by decide)
theorem qOf_2 {V : Nat → Nat → Nat} {v : Nat} (hn : V 0 0 ≤ 7) (hv : v < V 0 0) : qOf V (nI v) (nI 2) = nI (bits (fun t => kRum V (v * 12 + t)) 12) := qOf_at hn hv (by decide)
theorem qOf_3 {V : Nat → Nat → Nat} {v : Nat} (hn : V 0 0 ≤ 7) (hv : v < V 0 0) : qOf V (nI v) (nI 3) = nI (bits (fun t => kTmb V (v * 12 + t)) 12) := qOf_at hn hv (by decide)
theorem qOf_4 {V : Nat → Nat → Nat} {v : Nat} (hn : V 0 0 ≤ 7) (hv : v < V 0 0) : qOf V (nI v) (nI 4) = nI (V 4 v) := qOf_at hn hv (by decide)
theorem qOf_5 {V : Nat → Nat → Nat} {v : Nat} (hn : V 0 0 ≤ 7) (hv : v < V 0 0) : qOf V (nI v) (nI 5) = if V 1 v = 1 then nI (V 0 1) - nI (V 3 v) else -1000004 := qOf_at hn hv (by decide)
theorem qEO_at {V : Nat → Nat → Nat} {v t k : Nat} (hn : V 0 0 ≤ 7) (hv : v < V 0 0) (ht : t < 12) (hk : k ≤ 7) : qEO V (nI v) (nI t) (nI k) = if V 5 (v * 12 + t) = 0 then -1000004
     else if k = 0 then bI (kTmb V (v * 12 + t))
     else if k = 1 then nI (V 5 (v * 12 + t) / 8)
     else if k = 2 then nI (V 5 (v * 12 + t) % 8)
     else if k = 3 then (if kTmb V (v * 12 + t) = true then -1000004 else nI (V 7 (v * 12 + t)))
     else if k = 4 then (if kTmb V (v * 12 + t) = true then -1000004 else nI (V 6 (v * 12 + t)))
     else if k = 5 then (if kTmb V (v * 12 + t) = true then nI (V 8 (v * 12 + t)) else -1000004)
     else if k = 6 then (if kTmb V (v * 12 + t) = true then nI (V 9 (v * 12 + t)) else -1000004)
     else (if kTmb V (v * 12 + t) = true then -1000004 else bI (kDead V v t)) := by
  unfold qEO
  rw [if_pos ⟨hasn hv (by omega), hasn ht (by omega), by rw [inN_nI (by omega)]; exact decide_eq_true ⟨Nat.zero_le _, hk⟩⟩, ixn (i := v) (by omega), ixn (i := k) (by omega), ixn (i := t) (by omega)]
theorem qEO_z {V : Nat → Nat → Nat} {v t k : Nat} (hn : V 0 0 ≤ 7) (hv : v < V 0 0) (ht : t < 12) (hk : k ≤ 7) (h : V 5 (v * 12 + t) = 0) : qEO V (nI v) (nI t) (nI k) = -1000004 := by rw [qEO_at hn hv ht hk, if_pos h]
theorem qEO_0 {V : Nat → Nat → Nat} {v t : Nat} (hn : V 0 0 ≤ 7) (hv : v < V 0 0) (ht : t < 12) (h : V 5 (v * 12 + t) ≠ 0) : qEO V (nI v) (nI t) (nI 0) = bI (kTmb V (v * 12 + t)) := by rw [qEO_at hn hv ht (by decide), if_neg h]; rfl
theorem qEO_1 {V : Nat → Nat → Nat} {v t : Nat} (hn : V 0 0 ≤ 7) (hv : v < V 0 0) (ht : t < 12) (h : V 5 (v * 12 + t) ≠ 0) : qEO V (nI v) (nI t) (nI 1) = nI (V 5 (v * 12 + t) / 8) := by rw [qEO_at hn hv ht (by decide), if_neg h]; rfl
theorem qEO_2 {V : Nat → Nat → Nat} {v t : Nat} (hn : V 0 0 ≤ 7) (hv : v < V 0 0) (ht : t < 12) (h : V 5 (v * 12 + t) ≠ 0) : qEO V (nI v) (nI t) (nI 2) = nI (V 5 (v * 12 + t) % 8) := by rw [qEO_at hn hv ht (by decide), if_neg h]; rfl
theorem kTmb_0 {V : Nat → Nat → Nat} {p : Nat} (h : kTmb V p = true) : V 5 p ≠ 0 ∧ V 6 p = 3 := of_decide_eq_true h
theorem kRum_0 {V : Nat → Nat → Nat} {p : Nat} (h : kRum V p = true) : V 5 p ≠ 0 ∧ V 6 p ≠ 3 := of_decide_eq_true h
theorem qEO_5 {V : Nat → Nat → Nat} {v t : Nat} (hn : V 0 0 ≤ 7) (hv : v < V 0 0) (ht : t < 12) (h : kTmb V (v * 12 + t) = true) : qEO V (nI v) (nI t) (nI 5) = nI (V 8 (v * 12 + t)) := by rw [qEO_at hn hv ht (by decide), if_neg (kTmb_0 h).1, if_neg (by decide), if_neg (by decide), if_neg (by decide), if_neg (by decide), if_neg (by decide), if_pos rfl, if_pos h]
theorem qEO_6 {V : Nat → Nat → Nat} {v t : Nat} (hn : V 0 0 ≤ 7) (hv : v < V 0 0) (ht : t < 12) (h : kTmb V (v * 12 + t) = true) : qEO V (nI v) (nI t) (nI 6) = nI (V 9 (v * 12 + t)) := by rw [qEO_at hn hv ht (by decide), if_neg (kTmb_0 h).1, if_neg (by decide), if_neg (by decide), if_neg (by decide), if_neg (by decide), if_neg (by decide), if_neg (by decide), if_pos rfl, if_pos h]
theorem qCnt_0 (V : Nat → Nat → Nat) (k n : Nat) : qCnt V k n (nI 0) = nI (V 0 0) := by unfold qCnt; rw [inN_nI (by decide), ixn (by decide)]; rfl
theorem qCnt_1 (V : Nat → Nat → Nat) (k n : Nat) : qCnt V k n (nI 1) = nI (kMany V 0) := by unfold qCnt; rw [inN_nI (by decide), ixn (by decide)]; rfl
theorem qCnt_2 (V : Nat → Nat → Nat) (k n : Nat) : qCnt V k n (nI 2) = nI (kMany V 1) := by unfold qCnt; rw [inN_nI (by decide), ixn (by decide)]; rfl
theorem qCnt_3 (V : Nat → Nat → Nat) (k n : Nat) : qCnt V k n (nI 3) = nI (V 0 1) := by unfold qCnt; rw [inN_nI (by decide), ixn (by decide)]; rfl
def nRu (V : Nat → Nat → Nat) (v : Nat) : Nat := sm (fun v => cnt (fun t => kRum V (v * 12 + t)) 12) v
def nTo (V : Nat → Nat → Nat) (v : Nat) : Nat := sm (fun v => cnt (fun t => kTmb V (v * 12 + t)) 12) v
def nDe (V : Nat → Nat → Nat) (v : Nat) : Nat := sm (fun v => cnt (fun t => kDead V v t) 12) v
def nGh (V : Nat → Nat → Nat) (v : Nat) : Nat := sm (V 4) v
theorem qCnt_5 (V : Nat → Nat → Nat) (k n : Nat) : qCnt V k n (nI 5) = nI (nRu V (V 0 0)) := by unfold qCnt; rw [inN_nI (by decide), ixn (by decide)]; rfl
theorem qCnt_6 (V : Nat → Nat → Nat) (k n : Nat) : qCnt V k n (nI 6) = nI (nTo V (V 0 0)) := by unfold qCnt; rw [inN_nI (by decide), ixn (by decide)]; rfl
theorem qCnt_7 (V : Nat → Nat → Nat) (k n : Nat) : qCnt V k n (nI 7) = nI (nDe V (V 0 0)) := by unfold qCnt; rw [inN_nI (by decide), ixn (by decide)]; rfl
theorem qCnt_8 (V : Nat → Nat → Nat) (k n : Nat) : qCnt V k n (nI 8) = nI (nGh V (V 0 0)) := by unfold qCnt; rw [inN_nI (by decide), ixn (by decide)]; rfl
theorem qCnt_9 (V : Nat → Nat → Nat) (k n : Nat) : qCnt V k n (nI 9) = nI (V 0 3) := by unfold qCnt; rw [inN_nI (by decide), ixn (by decide)]; rfl
theorem qDead_at {V : Nat → Nat → Nat} {v : Nat} (hn : V 0 0 ≤ 7) (hv : v < V 0 0) : qDead V (nI v) = nI (bits (fun t => kDead V v t) 12) := by
  unfold qDead
  rw [if_pos (hasn hv (by omega)), ixn (i := v) (by omega)]
theorem qUnl_at {V : Nat → Nat → Nat} {v u : Nat} (hn : V 0 0 ≤ 7) (hv : v < V 0 0) (hu : u < V 0 0) : qUnl V (nI v) (nI u) = nI (bits (fun t => !(decide (V 5 (v * 12 + t) = V 5 (u * 12 + t)))) 12) := by
  unfold qUnl
  rw [if_pos ⟨hasn hv (by omega), hasn hu (by omega)⟩, ixn (i := v) (by omega), ixn (i := u) (by omega)]
/-- what holds of a village -/
def J (V : Nat → Nat → Nat) (N G : Nat) : Prop :=
  V 0 0 ≤ 7 ∧ V 0 1 ≤ 4 * N ∧ V 0 2 ≤ 30 ∧ V 0 3 ≤ N ∧
  (∀ i, i < 7 → V 1 i ≤ 2 ∧ V 2 i ≤ N ∧ V 3 i ≤ V 0 1 ∧ V 4 i ≤ G ∧ (V 1 i = 2 → ∀ t, t < 12 → V 5 (i * 12 + t) = 0)) ∧
  (∀ i t, i < 7 → t < 12 → V 5 (i * 12 + t) ≠ 0 → 8 ≤ V 5 (i * 12 + t) ∧ V 5 (i * 12 + t) / 8 ≤ V 2 i ∧ V 5 (i * 12 + t) % 8 < 7 ∧ (V 6 (i * 12 + t) = 3 → (V 9 (i * 12 + t)).testBit i = true ∧ (V 9 (i * 12 + t)).testBit (V 5 (i * 12 + t) % 8) = true)) ∧
  (∀ p, p < 84 → V 6 p ≤ 3 ∧ V 7 p ≤ 99 ∧ V 8 p ≤ V 0 1 ∧ V 9 p < 128 ∧ V 10 p ≤ 8 * N + 7) ∧ ∀ t, t < 12 → V 11 t ≤ 8 * N + 7
theorem p84 {p : Nat} (h : p < 84) : ∃ i t, i < 7 ∧ t < 12 ∧ p = i * 12 + t := ⟨p / 12, p % 12, by omega, by omega, by omega⟩
theorem J5 {V : Nat → Nat → Nat} {N G p : Nat} (h : J V N G) (hp : p < 84) : V 5 p ≤ 8 * N + 7 := by
  obtain ⟨h0, h1, h2, h3, h4, h5, h6, h7⟩ := h
  obtain ⟨i, t, hi, ht, rfl⟩ := p84 hp
  by_cases hz : V 5 (i * 12 + t) = 0
  · omega
  · have a := h5 i t hi ht hz
    have b := (h4 i hi).2.1
    omega
theorem J_b {V : Nat → Nat → Nat} {N G : Nat} (h : J V N G) (hN : N ≤ 2 ^ 20) : bP V := by
  have h5' : ∀ p, p < 84 → V 5 p ≤ 8 * N + 7 := fun p hp => J5 h hp
  obtain ⟨h0, h1, h2, h3, h4, h5, h6, h7⟩ := h
  refine ⟨⟨fun k i a b hi => ?_, fun k p a b hp => ?_, fun t ht => ?_, h0, by omega, by omega⟩, fun p hp => (h6 p hp).2.2.1⟩
  · have := h4 i hi
    rcases (show k = 1 ∨ k = 2 ∨ k = 3 by omega) with rfl | rfl | rfl <;> omega
  · have := h6 p hp
    have := h5' p hp
    rcases (show k = 5 ∨ k = 6 ∨ k = 7 ∨ k = 8 ∨ k = 9 ∨ k = 10 by omega) with rfl | rfl | rfl | rfl | rfl | rfl <;> omega
  · have := h7 t ht
    omega
theorem pw_ishrN {l : Launch} {g : Geo} {own : String} {cc : ByteArray} {rm : Room} {nL : Nat} {ret : Option FieldType} {fin : Option Value → WD → Prop} {X : Nat → Nat → (Nat → Int32) → Prop} {P : PT} (hX : Gd l g own cc rm nL ret fin X P) {w : WD} {pc q : Nat} {lv : List (Option Value)} {st : List Value} {a b : Nat} (ha : a < 2 ^ 31) (hb : b < 31) (hd : decode cc pc = .ok (.ishr, 1)) (hq : pc + 1 = q) (kk : P w q lv (.int (nI (a / 2 ^ b)) :: st)) : P w pc lv (.int (nI b) :: .int (nI a) :: st) := pw_ishr hX hd hq (by rw [n_shr ha hb]; exact kk)
theorem rt_0 (V : Nat → Nat → Nat) (v : Nat) : bits (fun t => kRum V (v * 12 + t)) 12 &&& bits (fun t => kTmb V (v * 12 + t)) 12 = 0 := by
  rw [and_bits]
  refine bits_0 (fun t _ => ?_)
  unfold kRum kTmb
  by_cases h : V 6 (v * 12 + t) = 3
  · simp [h]
  · simp [h]
theorem dr_0 (V : Nat → Nat → Nat) (v : Nat) : an (bits (fun t => kDead V v t) 12) (bits (fun t => kRum V (v * 12 + t)) 12) = 0 := by
  rw [an_bits]
  refine bits_0 (fun t _ => ?_)
  unfold kDead
  cases kRum V (v * 12 + t) <;> simp
theorem gone_0 {V : Nat → Nat → Nat} {v : Nat} (h : ∀ t, t < 12 → V 5 (v * 12 + t) = 0) : bits (fun t => kRum V (v * 12 + t)) 12 + bits (fun t => kTmb V (v * 12 + t)) 12 = 0 := by
  have e1 : bits (fun t => kRum V (v * 12 + t)) 12 = 0 := bits_0 (fun t ht => by unfold kRum; simp [h t ht])
  have e2 : bits (fun t => kTmb V (v * 12 + t)) 12 = 0 := bits_0 (fun t ht => by unfold kTmb; simp [h t ht])
  rw [e1, e2]
theorem ent3 (V : Nat → Nat → Nat) (p : Nat) : (V 5 p = 0 ∧ kRum V p = false ∧ kTmb V p = false) ∨ (V 5 p ≠ 0 ∧ kRum V p = true ∧ kTmb V p = false) ∨ (V 5 p ≠ 0 ∧ kRum V p = false ∧ kTmb V p = true) := by
  unfold kRum kTmb
  by_cases h : V 5 p = 0
  · exact Or.inl ⟨h, decide_eq_false (fun z => z.1 h), decide_eq_false (fun z => z.1 h)⟩
  · by_cases h3 : V 6 p = 3
    · exact Or.inr (Or.inr ⟨h, decide_eq_false (fun z => z.2 h3), decide_eq_true ⟨h, h3⟩⟩)
    · exact Or.inr (Or.inl ⟨h, decide_eq_true ⟨h, h3⟩, decide_eq_false (fun z => h3 z.2)⟩)
theorem lt31_and {a b : Nat} (h : a < 2 ^ 31) : a &&& b < 2 ^ 31 := Nat.lt_of_le_of_lt Nat.and_le_left h
theorem nI_sub {a b : Nat} (h : b ≤ a) : nI a - nI b = nI (a - b) := pk_sub h
end
section
/-! what the calls do to a village, and that J stays -/
theorem vUe (V : Nat → Nat → Nat) (k i x j : Nat) : vU V k i x k j = if j = i then x else V k j := by
  rw [vU_s]
  rfl
theorem J_le {V : Nat → Nat → Nat} {N N' G G' : Nat} (h : J V N G) (hN : N ≤ N') (hG : G ≤ G') : J V N' G' := by
  obtain ⟨h0, h1, h2, h3, h4, h5, h6, h7⟩ := h
  refine ⟨h0, by omega, h2, by omega, fun i hi => ?_, h5, fun p hp => ?_, fun t ht => ?_⟩
  · obtain ⟨a, b, c, d, e⟩ := h4 i hi
    exact ⟨a, by omega, c, by omega, e⟩
  · obtain ⟨a, b, c, d, e⟩ := h6 p hp
    exact ⟨a, b, c, d, by omega⟩
  · have := h7 t ht
    omega
theorem pl_inj {i v t s : Nat} (ht : t < 12) (hs : s < 12) : i * 12 + t = v * 12 + s ↔ i = v ∧ t = s := by omega
/-- a new rumor -/
def kMr (V : Nat → Nat → Nat) (v t a k : Nat) : Nat → Nat → Nat := vU (kWr V v (v * 12 + t) k) 7 (v * 12 + t) a
theorem J_Mr {V : Nat → Nat → Nat} {N G v t a k : Nat} (h : J V N G) (hv : v < 7) (ht : t < 12) (ha : a ≤ 99) (hk : k ≤ 2) (h0 : V 1 v ≠ 2) : J (kMr V v t a k) (N + 1) G := by
  have e0 : kMr V v t a k 0 = V 0 := by unfold kMr kWr; simp (disch := decide) only [vU_n]
  have e1 : kMr V v t a k 1 = V 1 := by unfold kMr kWr; simp (disch := decide) only [vU_n]
  have e2 : ∀ j, kMr V v t a k 2 j = if j = v then V 2 v + 1 else V 2 j := fun j => by unfold kMr kWr; simp (disch := decide) only [vU_n, vUe]
  have e3 : kMr V v t a k 3 = V 3 := by unfold kMr kWr; simp (disch := decide) only [vU_n]
  have e4 : kMr V v t a k 4 = V 4 := by unfold kMr kWr; simp (disch := decide) only [vU_n]
  have e5 : ∀ j, kMr V v t a k 5 j = if j = v * 12 + t then (V 2 v + 1) * 8 + v else V 5 j := fun j => by unfold kMr kWr; simp (disch := decide) only [vU_n, vUe]
  have e6 : ∀ j, kMr V v t a k 6 j = if j = v * 12 + t then k else V 6 j := fun j => by unfold kMr kWr; simp (disch := decide) only [vU_n, vUe]
  have e7 : ∀ j, kMr V v t a k 7 j = if j = v * 12 + t then a else V 7 j := fun j => by unfold kMr kWr; simp (disch := decide) only [vU_n, vUe]
  have e8 : kMr V v t a k 8 = V 8 := by unfold kMr kWr; simp (disch := decide) only [vU_n]
  have e9 : kMr V v t a k 9 = V 9 := by unfold kMr kWr; simp (disch := decide) only [vU_n]
  have e10 : kMr V v t a k 10 = V 10 := by unfold kMr kWr; simp (disch := decide) only [vU_n]
  have e11 : kMr V v t a k 11 = V 11 := by unfold kMr kWr; simp (disch := decide) only [vU_n]
  generalize kMr V v t a k = V' at *
  obtain ⟨h0', h1, h2, h3, h4, h5, h6, h7⟩ := h
  refine ⟨by rw [e0]; exact h0', by rw [e0]; omega, by rw [e0]; exact h2, by rw [e0]; omega, fun i hi => ?_, fun i s hi hs hne => ?_, fun p hp => ?_, fun s hs => ?_⟩
  · obtain ⟨a1, a2, a3, a4, a5⟩ := h4 i hi
    have av := (h4 v hv).2.1
    rw [e0, e1, e2, e3, e4]
    refine ⟨a1, by split <;> omega, a3, a4, fun z s hs => ?_⟩
    rw [e5, if_neg (fun q => by have := (pl_inj hs ht).mp q; exact h0 (by rw [← this.1]; exact z))]
    exact a5 z s hs
  · rw [e5] at hne ⊢
    rw [e2, e6, e9]
    by_cases hq : i * 12 + s = v * 12 + t
    · have hq' := (pl_inj hs ht).mp hq
      rw [if_pos hq, if_pos hq, if_pos hq'.1]
      refine ⟨by omega, by omega, by omega, fun z => by omega⟩
    · rw [if_neg hq] at hne ⊢
      rw [if_neg hq]
      obtain ⟨b1, b2, b3, b4⟩ := h5 i s hi hs hne
      refine ⟨b1, ?_, b3, b4⟩
      split
      · rename_i z; subst z; omega
      · exact b2
  · obtain ⟨c1, c2, c3, c4, c5⟩ := h6 p hp
    rw [e0, e6, e7, e8, e9, e10]
    refine ⟨by split <;> omega, by split <;> omega, c3, c4, by omega⟩
  · have := h7 s hs
    rw [e11]
    omega
theorem J_Tb {V : Nat → Nat → Nat} {N G v t : Nat} (h : J V N G) (hv : v < 7) (ht : t < 12) (h0 : V 1 v ≠ 2) : J (kTb V v t) (N + 1) G := by
  have e00 : ∀ j, kTb V v t 0 j = if j = 3 then V 0 3 + 1 else V 0 j := fun j => by unfold kTb kWr; simp (disch := decide) only [vU_n, vUe]
  have e1 : kTb V v t 1 = V 1 := by unfold kTb kWr; simp (disch := decide) only [vU_n]
  have e2 : ∀ j, kTb V v t 2 j = if j = v then V 2 v + 1 else V 2 j := fun j => by unfold kTb kWr; simp (disch := decide) only [vU_n, vUe]
  have e3 : kTb V v t 3 = V 3 := by unfold kTb kWr; simp (disch := decide) only [vU_n]
  have e4 : kTb V v t 4 = V 4 := by unfold kTb kWr; simp (disch := decide) only [vU_n]
  have e5 : ∀ j, kTb V v t 5 j = if j = v * 12 + t then (V 2 v + 1) * 8 + v else V 5 j := fun j => by unfold kTb kWr; simp (disch := decide) only [vU_n, vUe]
  have e6 : ∀ j, kTb V v t 6 j = if j = v * 12 + t then 3 else V 6 j := fun j => by unfold kTb kWr; simp (disch := decide) only [vU_n, vUe]
  have e7 : kTb V v t 7 = V 7 := by unfold kTb kWr; simp (disch := decide) only [vU_n]
  have e8 : ∀ j, kTb V v t 8 j = if j = v * 12 + t then V 0 1 else V 8 j := fun j => by unfold kTb kWr; simp (disch := decide) only [vU_n, vUe]
  have e9 : ∀ j, kTb V v t 9 j = if j = v * 12 + t then 2 ^ v else V 9 j := fun j => by unfold kTb kWr; simp (disch := decide) only [vU_n, vUe]
  have e10 : kTb V v t 10 = V 10 := by unfold kTb kWr; simp (disch := decide) only [vU_n]
  have e11 : ∀ j, kTb V v t 11 j = if j = t then mx (V 11 t) ((V 2 v + 1) * 8 + v) else V 11 j := fun j => by unfold kTb kWr; simp (disch := decide) only [vU_n, vUe]
  generalize kTb V v t = V' at *
  have e0 : V' 0 0 = V 0 0 ∧ V' 0 1 = V 0 1 ∧ V' 0 2 = V 0 2 ∧ V' 0 3 = V 0 3 + 1 := ⟨by rw [e00]; rfl, by rw [e00]; rfl, by rw [e00]; rfl, by rw [e00]; rfl⟩
  obtain ⟨h0', h1, h2, h3, h4, h5, h6, h7⟩ := h
  have av := (h4 v hv).2.1
  have hp7 : 2 ^ v < 128 := Nat.lt_of_lt_of_le (Nat.pow_lt_pow_right (by decide) hv) (by decide)
  refine ⟨by rw [e0.1]; exact h0', by rw [e0.2.1]; omega, by rw [e0.2.2.1]; exact h2, by rw [e0.2.2.2]; omega, fun i hi => ?_, fun i s hi hs hne => ?_, fun p hp => ?_, fun s hs => ?_⟩
  · obtain ⟨a1, a2, a3, a4, a5⟩ := h4 i hi
    rw [e0.2.1, e1, e2, e3, e4]
    refine ⟨a1, by split <;> omega, a3, a4, fun z s hs => ?_⟩
    rw [e5, if_neg (fun q => by have := (pl_inj hs ht).mp q; exact h0 (by rw [← this.1]; exact z))]
    exact a5 z s hs
  · rw [e5] at hne ⊢
    rw [e2, e6, e9]
    by_cases hq : i * 12 + s = v * 12 + t
    · have hq' := (pl_inj hs ht).mp hq
      rw [if_pos hq, if_pos hq, if_pos hq, if_pos hq'.1]
      refine ⟨by omega, by omega, by omega, fun _ => ?_⟩
      have hm : ((V 2 v + 1) * 8 + v) % 8 = v := by omega
      rw [hm, hq'.1]
      exact ⟨Nat.testBit_two_pow_self, Nat.testBit_two_pow_self⟩
    · rw [if_neg hq] at hne ⊢
      rw [if_neg hq, if_neg hq]
      obtain ⟨b1, b2, b3, b4⟩ := h5 i s hi hs hne
      refine ⟨b1, ?_, b3, b4⟩
      split
      · rename_i z; subst z; omega
      · exact b2
  · obtain ⟨c1, c2, c3, c4, c5⟩ := h6 p hp
    rw [e0.2.1, e6, e7, e8, e9, e10]
    refine ⟨by split <;> omega, c2, by split <;> omega, by split <;> omega, by omega⟩
  · have := h7 s hs
    have := h7 t ht
    rw [e11]
    unfold mx
    (repeat' split) <;> omega
theorem J_sl {V : Nat → Nat → Nat} {N G v : Nat} (h : J V N G) : J (vU (vU V 1 v 1) 3 v (V 0 1)) N G := by
  have e0 : vU (vU V 1 v 1) 3 v (V 0 1) 0 = V 0 := by simp (disch := decide) only [vU_n]
  have e1 : ∀ j, vU (vU V 1 v 1) 3 v (V 0 1) 1 j = if j = v then 1 else V 1 j := fun j => by simp (disch := decide) only [vU_n, vUe]
  have e3 : ∀ j, vU (vU V 1 v 1) 3 v (V 0 1) 3 j = if j = v then V 0 1 else V 3 j := fun j => by simp (disch := decide) only [vU_n, vUe]
  have en : ∀ k, k ≠ 1 → k ≠ 3 → vU (vU V 1 v 1) 3 v (V 0 1) k = V k := fun k a b => by rw [vU_n _ _ _ b, vU_n _ _ _ a]
  generalize vU (vU V 1 v 1) 3 v (V 0 1) = V' at *
  obtain ⟨h0', h1, h2, h3, h4, h5, h6, h7⟩ := h
  rw [J, e0, en 2 (by decide) (by decide), en 4 (by decide) (by decide), en 5 (by decide) (by decide), en 6 (by decide) (by decide), en 7 (by decide) (by decide), en 8 (by decide) (by decide), en 9 (by decide) (by decide), en 10 (by decide) (by decide), en 11 (by decide) (by decide)]
  refine ⟨h0', h1, h2, h3, fun i hi => ?_, h5, h6, h7⟩
  obtain ⟨a1, a2, a3, a4, a5⟩ := h4 i hi
  rw [e1, e3]
  by_cases hq : i = v
  · rw [if_pos hq, if_pos hq]
    exact ⟨by decide, a2, Nat.le_refl _, a4, fun z => absurd z (by decide)⟩
  · rw [if_neg hq, if_neg hq]
    exact ⟨a1, a2, a3, a4, a5⟩
theorem J_wk {V : Nat → Nat → Nat} {N G v : Nat} (h : J V N G) : J (vU V 1 v 0) N G := by
  have e1 : ∀ j, vU V 1 v 0 1 j = if j = v then 0 else V 1 j := fun j => by simp (disch := decide) only [vUe]
  have en : ∀ k, k ≠ 1 → vU V 1 v 0 k = V k := fun k a => by rw [vU_n _ _ _ a]
  generalize vU V 1 v 0 = V' at *
  obtain ⟨h0', h1, h2, h3, h4, h5, h6, h7⟩ := h
  rw [J, en 0 (by decide), en 2 (by decide), en 3 (by decide), en 4 (by decide), en 5 (by decide), en 6 (by decide), en 7 (by decide), en 8 (by decide), en 9 (by decide), en 10 (by decide), en 11 (by decide)]
  refine ⟨h0', h1, h2, h3, fun i hi => ?_, h5, h6, h7⟩
  obtain ⟨a1, a2, a3, a4, a5⟩ := h4 i hi
  rw [e1]
  by_cases hq : i = v
  · rw [if_pos hq]
    exact ⟨by decide, a2, a3, a4, fun z => absurd z (by decide)⟩
  · rw [if_neg hq]
    exact ⟨a1, a2, a3, a4, a5⟩
theorem kGo_5 (V : Nat → Nat → Nat) (v j : Nat) : kGo V v 5 j = if v * 12 ≤ j ∧ j < v * 12 + 12 then 0 else V 5 j := by
  unfold kGo kZ
  rw [vA_s, vU_n _ _ _ (by decide)]
theorem kGo_1 (V : Nat → Nat → Nat) (v j : Nat) : kGo V v 1 j = if j = v then 2 else V 1 j := by
  unfold kGo kZ
  rw [vA_n _ _ (by decide), vUe]
theorem kGo_n (V : Nat → Nat → Nat) (v : Nat) {k : Nat} (h1 : k ≠ 1) (h5 : k ≠ 5) : kGo V v k = V k := by
  unfold kGo kZ
  rw [vA_n _ _ h5, vU_n _ _ _ h1]
theorem J_go {V : Nat → Nat → Nat} {N G v : Nat} (h : J V N G) : J (kGo V v) N G := by
  have e1 := kGo_1 V v
  have e5 := kGo_5 V v
  have en : ∀ k, k ≠ 1 → k ≠ 5 → kGo V v k = V k := fun k a b => kGo_n V v a b
  generalize kGo V v = V' at *
  obtain ⟨h0', h1, h2, h3, h4, h5, h6, h7⟩ := h
  rw [J, en 0 (by decide) (by decide), en 2 (by decide) (by decide), en 3 (by decide) (by decide), en 4 (by decide) (by decide), en 6 (by decide) (by decide), en 7 (by decide) (by decide), en 8 (by decide) (by decide), en 9 (by decide) (by decide), en 10 (by decide) (by decide), en 11 (by decide) (by decide)]
  refine ⟨h0', h1, h2, h3, fun i hi => ?_, fun i s hi hs hne => ?_, h6, h7⟩
  · obtain ⟨a1, a2, a3, a4, a5⟩ := h4 i hi
    rw [e1]
    by_cases hq : i = v
    · rw [if_pos hq]
      refine ⟨by decide, a2, a3, a4, fun z s hs => ?_⟩
      rw [e5, if_pos (by omega)]
    · rw [if_neg hq]
      refine ⟨a1, a2, a3, a4, fun z s hs => ?_⟩
      rw [e5]
      split
      · rfl
      · exact a5 z s hs
  · rw [e5] at hne ⊢
    by_cases hq : v * 12 ≤ i * 12 + s ∧ i * 12 + s < v * 12 + 12
    · rw [if_pos hq] at hne
      exact absurd rfl hne
    · rw [if_neg hq] at hne ⊢
      exact h5 i s hi hs hne
theorem J_cw {V : Nat → Nat → Nat} {N G x : Nat} (h : J V N G) (hx : x ≤ 30) : J (vU V 0 2 x) N G := by
  have e0 : ∀ j, vU V 0 2 x 0 j = if j = 2 then x else V 0 j := fun j => by simp (disch := decide) only [vUe]
  have en : ∀ k, k ≠ 0 → vU V 0 2 x k = V k := fun k a => by rw [vU_n _ _ _ a]
  generalize vU V 0 2 x = V' at *
  obtain ⟨h0', h1, h2, h3, h4, h5, h6, h7⟩ := h
  rw [J, e0 0, e0 1, e0 2, e0 3, en 1 (by decide), en 2 (by decide), en 3 (by decide), en 4 (by decide), en 5 (by decide), en 6 (by decide), en 7 (by decide), en 8 (by decide), en 9 (by decide), en 10 (by decide), en 11 (by decide)]
  exact ⟨h0', h1, hx, h3, h4, h5, h6, h7⟩
theorem J_add {V : Nat → Nat → Nat} {N G : Nat} (h : J V N G) (hx : V 0 0 < 7) : J (vU V 0 0 (V 0 0 + 1)) N G := by
  have e0 : ∀ j, vU V 0 0 (V 0 0 + 1) 0 j = if j = 0 then V 0 0 + 1 else V 0 j := fun j => by simp (disch := decide) only [vUe]
  have en : ∀ k, k ≠ 0 → vU V 0 0 (V 0 0 + 1) k = V k := fun k a => by rw [vU_n _ _ _ a]
  generalize vU V 0 0 (V 0 0 + 1) = V' at *
  obtain ⟨h0', h1, h2, h3, h4, h5, h6, h7⟩ := h
  rw [J, e0 0, e0 1, e0 2, e0 3, en 1 (by decide), en 2 (by decide), en 3 (by decide), en 4 (by decide), en 5 (by decide), en 6 (by decide), en 7 (by decide), en 8 (by decide), en 9 (by decide), en 10 (by decide), en 11 (by decide)]
  exact ⟨hx, h1, h2, h3, h4, h5, h6, h7⟩
end
section
/-! a meeting, topic by topic -/
theorem H1_n (V : Nat → Nat → Nat) (t f p : Nat) {k : Nat} (h : k ≠ 4) : kH1 V t f p k = V k := by
  unfold kH1
  split
  · rw [vU_n _ _ _ h]
  · rfl
theorem Hn_n (V : Nat → Nat → Nat) (t f p : Nat) {k : Nat} (h : k < 4 ∨ 10 ≤ k) : kHn V t f p k = V k := by
  unfold kHn kH2
  rw [vU_n _ _ _ (by omega), vU_n _ _ _ (by omega), vU_n _ _ _ (by omega), vU_n _ _ _ (by omega), vU_n _ _ _ (by omega), H1_n _ _ _ _ (by omega)]
theorem Hn_4 (V : Nat → Nat → Nat) (t f p : Nat) : kHn V t f p 4 = V 4 ∨ kHn V t f p 4 = upN (V 4) p (V 4 p + 1) := by
  have e : kHn V t f p 4 = kH1 V t f p 4 := by unfold kHn kH2; simp (disch := decide) only [vU_n]
  rw [e]
  unfold kH1
  split
  · exact Or.inr (vU_s _ _ _ _)
  · exact Or.inl rfl
theorem Hn_k (V : Nat → Nat → Nat) (t f p : Nat) {k : Nat} (h : 5 ≤ k ∧ k ≤ 9) : kHn V t f p k = upN (V k) (p * 12 + t) (V k (f * 12 + t)) := by
  unfold kHn kH2
  rcases (show k = 5 ∨ k = 6 ∨ k = 7 ∨ k = 8 ∨ k = 9 by omega) with rfl | rfl | rfl | rfl | rfl <;> simp (disch := decide) only [vU_n, vU_s, H1_n]
theorem Sh_n (V : Nat → Nat → Nat) (a b t : Nat) {k : Nat} (h : k ≠ 9) : kSh V a b t k = V k := by
  unfold kSh
  split
  · rw [vU_n _ _ _ h, vU_n _ _ _ h]
  · rfl
theorem Sh_9 (V : Nat → Nat → Nat) (a b t j : Nat) : kSh V a b t 9 j = if (kTmb V (a * 12 + t) = true ∧ V 5 (a * 12 + t) = V 5 (b * 12 + t)) ∧ (j = a * 12 + t ∨ j = b * 12 + t) then kBoth V a b t else V 9 j := by
  unfold kSh
  by_cases h : kTmb V (a * 12 + t) = true ∧ V 5 (a * 12 + t) = V 5 (b * 12 + t)
  · rw [if_pos h, vUe, vUe]
    by_cases h1 : j = b * 12 + t
    · rw [if_pos h1, if_pos ⟨h, Or.inr h1⟩]
    · rw [if_neg h1]
      by_cases h2 : j = a * 12 + t
      · rw [if_pos h2, if_pos ⟨h, Or.inl h2⟩]
      · rw [if_neg h2, if_neg (fun z => by rcases z.2 with z | z <;> contradiction)]
  · rw [if_neg h, if_neg (fun z => h z.1)]
theorem kBoth_128 {V : Nat → Nat → Nat} {a b t : Nat} (h1 : V 9 (a * 12 + t) < 128) (h2 : V 9 (b * 12 + t) < 128) (ha : a < 7) (hb : b < 7) : kBoth V a b t < 128 := by
  have p : ∀ x, x < 7 → 2 ^ x < 2 ^ 7 := fun x hx => Nat.pow_lt_pow_right (by decide) hx
  exact Nat.or_lt_two_pow (n := 7) (Nat.or_lt_two_pow (Nat.or_lt_two_pow h1 h2) (p a ha)) (p b hb)
theorem kBoth_tb (V : Nat → Nat → Nat) (a b t i : Nat) : (kBoth V a b t).testBit i = ((V 9 (a * 12 + t)).testBit i || (V 9 (b * 12 + t)).testBit i || (2 ^ a).testBit i || (2 ^ b).testBit i) := by
  unfold kBoth
  rw [Nat.testBit_or, Nat.testBit_or, Nat.testBit_or]
theorem St_0 {V : Nat → Nat → Nat} {a b t : Nat} (h : kGv V a b t = 0) : kSt V a b t = kSh V a b t := by unfold kSt; rw [if_pos h]
theorem St_1 {V : Nat → Nat → Nat} {a b t f : Nat} (h : kGv V a b t = f + 1) : kSt V a b t = kSh (kHn V t f (if f = a then b else a)) a b t := by unfold kSt; rw [if_neg (by omega), h, Nat.add_sub_cancel]
theorem Gv_1 {V : Nat → Nat → Nat} {a b t f : Nat} (h : kGv V a b t = f + 1) : (f = a ∧ V 5 (b * 12 + t) < V 5 (a * 12 + t)) ∨ (f = b ∧ V 5 (a * 12 + t) < V 5 (b * 12 + t)) := by
  unfold kGv at h
  (repeat' split at h) <;> omega
theorem kHand_k {V : Nat → Nat → Nat} {t f p : Nat} (h : ¬ kHand V t f p = true) : V 6 (f * 12 + t) ≠ 3 := by
  unfold kHand at h
  intro z
  rw [if_neg (by omega), if_neg (by omega)] at h
  exact h rfl
theorem Gv_0 {V : Nat → Nat → Nat} {a b t : Nat} (h : kGv V a b t = 0) : V 5 (a * 12 + t) = V 5 (b * 12 + t) ∨ (V 5 (b * 12 + t) < V 5 (a * 12 + t) ∧ V 6 (a * 12 + t) ≠ 3) ∨ (V 5 (a * 12 + t) < V 5 (b * 12 + t) ∧ V 6 (b * 12 + t) ≠ 3) := by
  unfold kGv at h
  split at h
  · rename_i z; exact Or.inl z
  · split at h
    · rename_i z
      split at h
      · omega
      · rename_i y; exact Or.inr (Or.inl ⟨z, kHand_k y⟩)
    · split at h
      · omega
      · rename_i y; exact Or.inr (Or.inr ⟨by omega, kHand_k y⟩)
/-- J, where the sight of the two places is still to be shared -/
def K (V : Nat → Nat → Nat) (N G A B : Nat) : Prop :=
  V 0 0 ≤ 7 ∧ V 0 1 ≤ 4 * N ∧ V 0 2 ≤ 30 ∧ V 0 3 ≤ N ∧
  (∀ i, i < 7 → V 1 i ≤ 2 ∧ V 2 i ≤ N ∧ V 3 i ≤ V 0 1 ∧ V 4 i ≤ G ∧ (V 1 i = 2 → ∀ t, t < 12 → V 5 (i * 12 + t) = 0)) ∧
  (∀ i t, i < 7 → t < 12 → V 5 (i * 12 + t) ≠ 0 → 8 ≤ V 5 (i * 12 + t) ∧ V 5 (i * 12 + t) / 8 ≤ V 2 i ∧ V 5 (i * 12 + t) % 8 < 7 ∧ (V 6 (i * 12 + t) = 3 → (¬ (V 6 A = 3 ∧ V 6 B = 3 ∧ V 5 A = V 5 B ∧ (i * 12 + t = A ∨ i * 12 + t = B)) → (V 9 (i * 12 + t)).testBit i = true) ∧ (V 9 (i * 12 + t)).testBit (V 5 (i * 12 + t) % 8) = true)) ∧
  (∀ p, p < 84 → V 6 p ≤ 3 ∧ V 7 p ≤ 99 ∧ V 8 p ≤ V 0 1 ∧ V 9 p < 128 ∧ V 10 p ≤ 8 * N + 7) ∧ ∀ t, t < 12 → V 11 t ≤ 8 * N + 7
theorem K_J {V : Nat → Nat → Nat} {N G : Nat} (A B : Nat) (h : J V N G) : K V N G A B := by
  obtain ⟨h0, h1, h2, h3, h4, h5, h6, h7⟩ := h
  refine ⟨h0, h1, h2, h3, h4, fun i t hi ht hne => ?_, h6, h7⟩
  obtain ⟨b1, b2, b3, b4⟩ := h5 i t hi ht hne
  exact ⟨b1, b2, b3, fun z => ⟨fun _ => (b4 z).1, (b4 z).2⟩⟩
theorem K_comm {V : Nat → Nat → Nat} {N G A B : Nat} (h : K V N G A B) : K V N G B A := by
  obtain ⟨h0, h1, h2, h3, h4, h5, h6, h7⟩ := h
  refine ⟨h0, h1, h2, h3, h4, fun i t hi ht hne => ?_, h6, h7⟩
  obtain ⟨b1, b2, b3, b4⟩ := h5 i t hi ht hne
  exact ⟨b1, b2, b3, fun z => ⟨fun y => (b4 z).1 (fun x => y ⟨x.2.1, x.1, x.2.2.1.symm, x.2.2.2.symm⟩), (b4 z).2⟩⟩
theorem K_Hn {V : Nat → Nat → Nat} {N G t f p : Nat} (h : J V N G) (hf : f < 7) (hp : p < 7) (ht : t < 12) (hne : f ≠ p) (hc : V 2 f = V 2 p) (hs : V 1 p ≠ 2) (hlt : V 5 (p * 12 + t) < V 5 (f * 12 + t)) : K (kHn V t f p) N (G + 1) (f * 12 + t) (p * 12 + t) := by
  have e0 := Hn_n V t f p (k := 0) (by decide)
  have e1 := Hn_n V t f p (k := 1) (by decide)
  have e2 := Hn_n V t f p (k := 2) (by decide)
  have e3 := Hn_n V t f p (k := 3) (by decide)
  have e4 := Hn_4 V t f p
  have e5 := Hn_k V t f p (k := 5) (by decide)
  have e6 := Hn_k V t f p (k := 6) (by decide)
  have e7 := Hn_k V t f p (k := 7) (by decide)
  have e8 := Hn_k V t f p (k := 8) (by decide)
  have e9 := Hn_k V t f p (k := 9) (by decide)
  have e10 := Hn_n V t f p (k := 10) (by decide)
  have e11 := Hn_n V t f p (k := 11) (by decide)
  generalize kHn V t f p = V' at *
  have hFP : f * 12 + t ≠ p * 12 + t := by omega
  obtain ⟨h0, h1, h2, h3, h4, h5, h6, h7⟩ := h
  have hF := h5 f t hf ht (by omega)
  refine ⟨by rw [e0]; exact h0, by rw [e0]; exact h1, by rw [e0]; exact h2, by rw [e0]; exact h3, fun i hi => ?_, fun i s hi hs' hq => ?_, fun q hq => ?_, by rw [e11]; exact h7⟩
  · obtain ⟨a1, a2, a3, a4, a5⟩ := h4 i hi
    rw [e0, e1, e2, e3]
    refine ⟨a1, a2, a3, ?_, fun z s hs' => ?_⟩
    · have := (h4 p hp).2.2.2.1
      rcases e4 with e4 | e4
      · rw [e4]; omega
      · rw [e4]
        unfold upN
        split <;> omega
    · rw [e5, upN_n _ _ (fun q => by have := (pl_inj hs' ht).mp q; exact hs (by rw [← this.1]; exact z))]
      exact a5 z s hs'
  · by_cases hP : i * 12 + s = p * 12 + t
    · obtain ⟨rfl, rfl⟩ := (pl_inj hs' ht).mp hP
      rw [e2, e5, e6, e9, upN_s, upN_s, upN_s, upN_n _ _ hFP, upN_n _ _ hFP]
      refine ⟨hF.1, by rw [← hc]; exact hF.2.1, hF.2.2.1, fun z => ⟨fun y => absurd ⟨z, z, rfl, Or.inr rfl⟩ y, (hF.2.2.2 z).2⟩⟩
    · rw [e5, upN_n _ _ hP] at hq
      rw [e2, e5, e6, e9, upN_n _ _ hP, upN_n _ _ hP, upN_n _ _ hP]
      obtain ⟨b1, b2, b3, b4⟩ := h5 i s hi hs' hq
      exact ⟨b1, b2, b3, fun z => ⟨fun _ => (b4 z).1, (b4 z).2⟩⟩
  · obtain ⟨c1, c2, c3, c4, c5⟩ := h6 q hq
    obtain ⟨d1, d2, d3, d4, d5⟩ := h6 (f * 12 + t) (by omega)
    rw [e0, e6, e7, e8, e9, e10]
    unfold upN
    refine ⟨by split <;> omega, by split <;> omega, by split <;> omega, by split <;> omega, c5⟩
theorem J_Sh {V : Nat → Nat → Nat} {N G a b t : Nat} (h : K V N G (a * 12 + t) (b * 12 + t)) (ha : a < 7) (hb : b < 7) (ht : t < 12) : J (kSh V a b t) N G := by
  have en : ∀ k, k ≠ 9 → kSh V a b t k = V k := fun k z => Sh_n V a b t z
  have e9 := Sh_9 V a b t
  generalize kSh V a b t = V' at *
  obtain ⟨h0, h1, h2, h3, h4, h5, h6, h7⟩ := h
  rw [J, en 0 (by decide), en 1 (by decide), en 2 (by decide), en 3 (by decide), en 4 (by decide), en 5 (by decide), en 6 (by decide), en 7 (by decide), en 8 (by decide), en 10 (by decide), en 11 (by decide)]
  refine ⟨h0, h1, h2, h3, h4, fun i s hi hs hq => ?_, fun q hq => ?_, h7⟩
  · obtain ⟨b1, b2, b3, b4⟩ := h5 i s hi hs hq
    refine ⟨b1, b2, b3, fun z => ?_⟩
    obtain ⟨b5, b6⟩ := b4 z
    rw [e9]
    by_cases hc : (kTmb V (a * 12 + t) = true ∧ V 5 (a * 12 + t) = V 5 (b * 12 + t)) ∧ (i * 12 + s = a * 12 + t ∨ i * 12 + s = b * 12 + t)
    · rw [if_pos hc, kBoth_tb, kBoth_tb]
      rcases hc.2 with hx | hx
      · obtain ⟨rfl, rfl⟩ := (pl_inj hs ht).mp hx
        rw [b6, Nat.testBit_two_pow_self]
        simp
      · obtain ⟨rfl, rfl⟩ := (pl_inj hs ht).mp hx
        rw [b6, Nat.testBit_two_pow_self]
        simp
    · rw [if_neg hc]
      refine ⟨b5 (fun y => hc ⟨⟨?_, y.2.2.1⟩, y.2.2.2⟩), b6⟩
      refine decide_eq_true ⟨?_, y.1⟩
      rcases y.2.2.2 with hx | hx
      · rw [← hx]; exact hq
      · rw [y.2.2.1, ← hx]; exact hq
  · obtain ⟨c1, c2, c3, c4, c5⟩ := h6 q hq
    refine ⟨c1, c2, c3, ?_, c5⟩
    rw [e9]
    split
    · exact kBoth_128 (h6 _ (by omega)).2.2.2.1 (h6 _ (by omega)).2.2.2.1 ha hb
    · exact c4
theorem K_le {V : Nat → Nat → Nat} {N G A B : Nat} (h : K V N G A B) : K V N (G + 1) A B := by
  obtain ⟨h0, h1, h2, h3, h4, h5, h6, h7⟩ := h
  refine ⟨h0, h1, h2, h3, fun i hi => ?_, h5, h6, h7⟩
  obtain ⟨a1, a2, a3, a4, a5⟩ := h4 i hi
  exact ⟨a1, a2, a3, by omega, a5⟩
theorem J_St {V : Nat → Nat → Nat} {N G a b t : Nat} (h : J V N G) (ha : a < 7) (hb : b < 7) (ht : t < 12) (hne : a ≠ b) (hc : V 2 a = V 2 b) (hsa : V 1 a ≠ 2) (hsb : V 1 b ≠ 2) : J (kSt V a b t) N (G + 1) := by
  rcases hG : kGv V a b t with _ | f
  · rw [St_0 hG]
    exact J_Sh (K_le (K_J _ _ h)) ha hb ht
  · rw [St_1 hG]
    rcases Gv_1 hG with ⟨rfl, hl⟩ | ⟨rfl, hl⟩
    · rw [if_pos rfl]
      exact J_Sh (K_Hn h ha hb ht hne hc hsb hl) ha hb ht
    · rw [if_neg (Ne.symm hne)]
      exact J_Sh (K_comm (K_Hn h hb ha ht (Ne.symm hne) hc.symm hsa hl)) ha hb ht
end
section
/-! a meeting as a whole -/
def Fin (V V' : Nat → Nat → Nat) (a b s : Nat) : Prop :=
  (kGv V a b s = 0 ∧ V' 5 (a * 12 + s) = V 5 (a * 12 + s) ∧ V' 5 (b * 12 + s) = V 5 (b * 12 + s) ∧ V' 6 (a * 12 + s) = V 6 (a * 12 + s) ∧ V' 6 (b * 12 + s) = V 6 (b * 12 + s)) ∨
  (kGv V a b s ≠ 0 ∧ V 5 (a * 12 + s) ≠ V 5 (b * 12 + s) ∧ V' 5 (a * 12 + s) = V' 5 (b * 12 + s) ∧ V 5 (a * 12 + s) ≤ V' 5 (a * 12 + s) ∧ V 5 (b * 12 + s) ≤ V' 5 (a * 12 + s) ∧ (V' 5 (a * 12 + s) = V 5 (a * 12 + s) ∨ V' 5 (a * 12 + s) = V 5 (b * 12 + s)))
theorem Gv_eq {V V' : Nat → Nat → Nat} {a b s : Nat} (h1 : V' 5 (a * 12 + s) = V 5 (a * 12 + s)) (h2 : V' 5 (b * 12 + s) = V 5 (b * 12 + s)) (h3 : V' 6 (a * 12 + s) = V 6 (a * 12 + s)) (h4 : V' 6 (b * 12 + s) = V 6 (b * 12 + s)) : kGv V' a b s = kGv V a b s := by
  unfold kGv kHand
  rw [h1, h2, h3, h4]
theorem St_n {V : Nat → Nat → Nat} {a b t : Nat} {k : Nat} (h : k < 4 ∨ 10 ≤ k) : kSt V a b t k = V k := by
  unfold kSt
  rw [Sh_n _ _ _ _ (by omega)]
  split
  · rfl
  · rw [Hn_n _ _ _ _ h]
theorem St_k {V : Nat → Nat → Nat} {a b t : Nat} {k j : Nat} (h : 5 ≤ k ∧ k ≤ 8) (h1 : j ≠ a * 12 + t) (h2 : j ≠ b * 12 + t) : kSt V a b t k j = V k j := by
  unfold kSt
  rw [Sh_n _ _ _ _ (by omega)]
  split
  · rfl
  · rw [Hn_k _ _ _ _ (by omega)]
    refine upN_n _ _ ?_
    split <;> assumption
theorem St_fin {V : Nat → Nat → Nat} {a b t : Nat} (hne : a ≠ b) : Fin V (kSt V a b t) a b t := by
  have hAB : a * 12 + t ≠ b * 12 + t := by omega
  rcases hG : kGv V a b t with _ | f
  · rw [St_0 hG]
    exact Or.inl ⟨hG, by rw [Sh_n _ _ _ _ (by decide)], by rw [Sh_n _ _ _ _ (by decide)], by rw [Sh_n _ _ _ _ (by decide)], by rw [Sh_n _ _ _ _ (by decide)]⟩
  · rw [St_1 hG]
    rcases Gv_1 hG with ⟨rfl, hl⟩ | ⟨rfl, hl⟩
    · rw [if_pos rfl]
      refine Or.inr ⟨by omega, by omega, ?_⟩
      rw [Sh_n _ _ _ _ (by decide), Hn_k _ _ _ _ (by decide), upN_s, upN_n _ _ hAB]
      exact ⟨rfl, Nat.le_refl _, by omega, Or.inl rfl⟩
    · rw [if_neg (Ne.symm hne)]
      refine Or.inr ⟨by omega, by omega, ?_⟩
      rw [Sh_n _ _ _ _ (by decide), Hn_k _ _ _ _ (by decide), upN_s, upN_n _ _ (Ne.symm hAB)]
      exact ⟨rfl, by omega, Nat.le_refl _, Or.inr rfl⟩
theorem sm_le {f g : Nat → Nat} : ∀ n, (∀ i, i < n → f i ≤ g i) → sm f n ≤ sm g n
  | 0, _ => Nat.le_refl _
  | n + 1, h => by
    have := sm_le n (fun i hi => h i (by omega))
    have := h n (by omega)
    show sm f n + f n ≤ sm g n + g n
    omega
theorem sm_up (f : Nat → Nat) (p x : Nat) (hx : f p ≤ x ∧ x ≤ f p + 1) : ∀ n, sm f n ≤ sm (upN f p x) n ∧ sm (upN f p x) n ≤ sm f n + 1 ∧ (n ≤ p → sm (upN f p x) n = sm f n)
  | 0 => ⟨Nat.le_refl _, Nat.zero_le _, fun _ => rfl⟩
  | n + 1 => by
    obtain ⟨h1, h2, h3⟩ := sm_up f p x hx n
    show sm f n + f n ≤ sm (upN f p x) n + upN f p x n ∧ sm (upN f p x) n + upN f p x n ≤ sm f n + f n + 1 ∧ (n + 1 ≤ p → sm (upN f p x) n + upN f p x n = sm f n + f n)
    by_cases hq : n = p
    · subst hq
      rw [upN_s, h3 (Nat.le_refl _)]
      omega
    · rw [upN_n _ _ hq]
      refine ⟨by omega, by omega, fun z => by rw [h3 (by omega)]⟩
theorem St_gh (V : Nat → Nat → Nat) (a b t n : Nat) : nGh V n ≤ nGh (kSt V a b t) n ∧ nGh (kSt V a b t) n ≤ nGh V n + (if kGv V a b t = 0 then 0 else 1) := by
  unfold nGh
  by_cases hG : kGv V a b t = 0
  · rw [if_pos hG, St_0 hG, Sh_n _ _ _ _ (by decide)]
    exact ⟨Nat.le_refl _, Nat.le_refl _⟩
  · rw [if_neg hG]
    unfold kSt
    rw [Sh_n _ _ _ _ (by decide), if_neg hG]
    rcases Hn_4 V t (kGv V a b t - 1) (if kGv V a b t - 1 = a then b else a) with e | e
    · rw [e]; exact ⟨Nat.le_refl _, by omega⟩
    · rw [e]
      have := sm_up (V 4) (if kGv V a b t - 1 = a then b else a) (V 4 (if kGv V a b t - 1 = a then b else a) + 1) ⟨by omega, Nat.le_refl _⟩ n
      exact ⟨this.1, this.2.1⟩
theorem Fin_c {V V' V'' : Nat → Nat → Nat} {a b s : Nat} (h : Fin V V' a b s) (h1 : V'' 5 (a * 12 + s) = V' 5 (a * 12 + s)) (h2 : V'' 5 (b * 12 + s) = V' 5 (b * 12 + s)) (h3 : V'' 6 (a * 12 + s) = V' 6 (a * 12 + s)) (h4 : V'' 6 (b * 12 + s) = V' 6 (b * 12 + s)) : Fin V V'' a b s := by
  unfold Fin at h ⊢
  rw [h1, h2, h3, h4]
  exact h
theorem T0_n (V : Nat → Nat → Nat) (a b : Nat) {k : Nat} (h : k ≠ 2) : kT0 V a b k = V k := by
  unfold kT0
  rw [vU_n _ _ _ h, vU_n _ _ _ h]
theorem T0_2 (V : Nat → Nat → Nat) (a b j : Nat) : kT0 V a b 2 j = if j = b then mx (V 2 a) (V 2 b) else if j = a then mx (V 2 a) (V 2 b) else V 2 j := by
  unfold kT0
  rw [vUe, vUe]
theorem J_T0 {V : Nat → Nat → Nat} {N G a b : Nat} (h : J V N G) (ha : a < 7) (hb : b < 7) : J (kT0 V a b) N G := by
  have en : ∀ k, k ≠ 2 → kT0 V a b k = V k := fun k z => T0_n V a b z
  have e2 := T0_2 V a b
  generalize kT0 V a b = V' at *
  obtain ⟨h0, h1, h2, h3, h4, h5, h6, h7⟩ := h
  have ca := (h4 a ha).2.1
  have cb := (h4 b hb).2.1
  have hge : ∀ i, i < 7 → V 2 i ≤ V' 2 i ∧ V' 2 i ≤ N := fun i hi => by
    have := (h4 i hi).2.1
    rw [e2]
    unfold mx
    (repeat' split) <;> (try subst i) <;> omega
  rw [J, en 0 (by decide), en 1 (by decide), en 3 (by decide), en 4 (by decide), en 5 (by decide), en 6 (by decide), en 7 (by decide), en 8 (by decide), en 9 (by decide), en 10 (by decide), en 11 (by decide)]
  refine ⟨h0, h1, h2, h3, fun i hi => ?_, fun i s hi hs hq => ?_, h6, h7⟩
  · obtain ⟨a1, a2, a3, a4, a5⟩ := h4 i hi
    exact ⟨a1, (hge i hi).2, a3, a4, a5⟩
  · obtain ⟨b1, b2, b3, b4⟩ := h5 i s hi hs hq
    exact ⟨b1, Nat.le_trans b2 (hge i hi).1, b3, b4⟩
/-- the loop over the topics -/
theorem Tt_spec {V : Nat → Nat → Nat} {N G a b : Nat} (h : J V N G) (ha : a < 7) (hb : b < 7) (hne : a ≠ b) (hsa : V 1 a ≠ 2) (hsb : V 1 b ≠ 2) : ∀ t, t ≤ 12 →
    J (kTt V a b t).1 N (G + t) ∧ (∀ k, (k < 4 ∨ 10 ≤ k) → (kTt V a b t).1 k = kT0 V a b k) ∧ (∀ k s, 5 ≤ k → k ≤ 8 → t ≤ s → s < 12 → (kTt V a b t).1 k (a * 12 + s) = V k (a * 12 + s) ∧ (kTt V a b t).1 k (b * 12 + s) = V k (b * 12 + s)) ∧
    (∀ s, s < t → Fin V (kTt V a b t).1 a b s) ∧ (kTt V a b t).2 = cnt (fun s => decide (kGv V a b s ≠ 0)) t ∧ nGh V (V 0 0) ≤ nGh (kTt V a b t).1 (V 0 0) ∧ nGh (kTt V a b t).1 (V 0 0) ≤ nGh V (V 0 0) + (kTt V a b t).2
  | 0, _ => by
    refine ⟨J_T0 h ha hb, fun _ _ => rfl, fun k s h1 h2 _ _ => ?_, fun s hs => absurd hs (Nat.not_lt_zero s), rfl, ?_, ?_⟩
    · show kT0 V a b k _ = _ ∧ kT0 V a b k _ = _
      rw [T0_n V a b (by omega)]
      exact ⟨rfl, rfl⟩
    · show nGh V _ ≤ sm (kT0 V a b 4) _
      rw [T0_n V a b (by decide)]
      exact Nat.le_refl _
    · show sm (kT0 V a b 4) _ ≤ nGh V _ + 0
      rw [T0_n V a b (by decide)]
      exact Nat.le_refl _
  | t + 1, ht => by
    obtain ⟨i1, i2, i3, i4, i5, i6, i7⟩ := Tt_spec h ha hb hne hsa hsb t (by omega)
    rw [kTt_s]
    dsimp only
    have g5 := i3 5 t (by decide) (by decide) (Nat.le_refl _) (by omega)
    have g6 := i3 6 t (by decide) (by decide) (Nat.le_refl _) (by omega)
    have eG : kGv (kTt V a b t).1 a b t = kGv V a b t := Gv_eq g5.1 g5.2 g6.1 g6.2
    have c2 : (kTt V a b t).1 2 a = (kTt V a b t).1 2 b := by
      rw [i2 2 (by decide), T0_2, T0_2]
      rw [if_pos (show b = b from rfl)]
      by_cases hq : a = b
      · rw [if_pos hq]
      · rw [if_neg hq, if_pos rfl]
    have s1 : (kTt V a b t).1 1 = V 1 := by rw [i2 1 (by decide), T0_n V a b (by decide)]
    have hgh := St_gh (kTt V a b t).1 a b t (V 0 0)
    rw [eG] at hgh
    refine ⟨J_St i1 ha hb (by omega) hne c2 (by rw [s1]; exact hsa) (by rw [s1]; exact hsb), fun k hk => by rw [St_n hk]; exact i2 k hk, fun k s h1 h2 h3 h4 => ?_, fun s hs => ?_, ?_, by omega, ?_⟩
    · rw [St_k ⟨h1, h2⟩ (by omega) (by omega), St_k ⟨h1, h2⟩ (by omega) (by omega)]
      exact i3 k s h1 h2 (by omega) h4
    · by_cases hq : s = t
      · subst hq
        have hf := St_fin (V := (kTt V a b s).1) (t := s) hne
        unfold Fin at hf ⊢
        rw [eG, g5.1, g5.2, g6.1, g6.2] at hf
        exact hf
      · have hf := i4 s (by omega)
        exact Fin_c hf (St_k ⟨by decide, by decide⟩ (by omega) (by omega)) (St_k ⟨by decide, by decide⟩ (by omega) (by omega)) (St_k ⟨by decide, by decide⟩ (by omega) (by omega)) (St_k ⟨by decide, by decide⟩ (by omega) (by omega))
    · rw [eG, i5, cnt_s]
      by_cases hq : kGv V a b t = 0
      · simp [hq]
      · simp [hq]
    · rw [eG]
      omega
/-- what a meeting does -/
theorem Tk_spec {V : Nat → Nat → Nat} {N G a b : Nat} (h : J V N G) (ha : a < 7) (hb : b < 7) (hne : a ≠ b) (hsa : V 1 a ≠ 2) (hsb : V 1 b ≠ 2) :
    J (kTk V a b).1 N (G + 12) ∧ (kTk V a b).1 0 = V 0 ∧ (kTk V a b).1 2 a = mx (V 2 a) (V 2 b) ∧ (kTk V a b).1 2 b = mx (V 2 a) (V 2 b) ∧ (∀ s, s < 12 → Fin V (kTk V a b).1 a b s) ∧ nGh V (V 0 0) ≤ nGh (kTk V a b).1 (V 0 0) ∧ nGh (kTk V a b).1 (V 0 0) ≤ nGh V (V 0 0) + (kTk V a b).2 := by
  obtain ⟨i1, i2, i3, i4, i5, i6, i7⟩ := Tt_spec h ha hb hne hsa hsb 12 (Nat.le_refl _)
  refine ⟨i1, by rw [kTk_0], ?_, ?_, i4, i6, i7⟩
  · unfold kTk
    rw [i2 2 (by decide), T0_2]
    by_cases hq : a = b
    · rw [if_pos hq]
    · rw [if_neg hq, if_pos rfl]
  · unfold kTk
    rw [i2 2 (by decide), T0_2, if_pos rfl]
theorem Fin_m {V V' : Nat → Nat → Nat} {a b s : Nat} (h : Fin V V' a b s) : V 5 (a * 12 + s) ≤ V' 5 (a * 12 + s) ∧ V 5 (b * 12 + s) ≤ V' 5 (b * 12 + s) ∧ V' 5 (a * 12 + s) ≤ mx (V 5 (b * 12 + s)) (V 5 (a * 12 + s)) ∧ V' 5 (b * 12 + s) ≤ mx (V 5 (b * 12 + s)) (V 5 (a * 12 + s)) ∧
    ((V 5 (a * 12 + s) < V' 5 (a * 12 + s) ∨ V 5 (b * 12 + s) < V' 5 (b * 12 + s)) ↔ (V 5 (a * 12 + s) ≠ V 5 (b * 12 + s) ∧ V' 5 (a * 12 + s) = V' 5 (b * 12 + s))) ∧ (V' 5 (a * 12 + s) ≠ V' 5 (b * 12 + s) → V 5 (a * 12 + s) ≠ V 5 (b * 12 + s)) ∧
    (kTmb V' (a * 12 + s) = true → kTmb V' (b * 12 + s) = true → V' 5 (a * 12 + s) = mx (V 5 (b * 12 + s)) (V 5 (a * 12 + s)) ∧ V' 5 (b * 12 + s) = mx (V 5 (b * 12 + s)) (V 5 (a * 12 + s))) := by
  unfold mx
  rcases h with ⟨h1, h2, h3, h4, h5⟩ | ⟨h1, h2, h3, h4, h5, h6⟩
  · rw [h2, h3]
    refine ⟨Nat.le_refl _, Nat.le_refl _, by split <;> omega, by split <;> omega, by omega, fun z => z, fun z y => ?_⟩
    have z := (kTmb_0 z).2
    have y := (kTmb_0 y).2
    rw [h4] at z
    rw [h5] at y
    rcases Gv_0 h1 with q | q | q
    · rw [q]; simp
    · exact absurd z q.2
    · exact absurd y q.2
  · rw [← h3]
    refine ⟨h4, h5, by split <;> omega, by split <;> omega, by omega, fun z => absurd rfl z, fun _ _ => ⟨by split <;> omega, by split <;> omega⟩⟩
end
section
/-! ticks -/
theorem Pb_eq {V W : Nat → Nat → Nat} {p a : Nat} (h0 : W 0 = V 0) (h5 : W 5 p = V 5 p) (h6 : W 6 = V 6) (h8 : W 8 = V 8) (h9 : W 9 = V 9) : kPb W p a = kPb V p a := by
  unfold kPb kTmb kOver
  rw [h0, h5, h6, h8, h9]
theorem Ps_n (V : Nat → Nat → Nat) (p a : Nat) {k : Nat} (h5 : k ≠ 5) (h10 : k ≠ 10) : kPs V p a k = V k := by
  unfold kPs
  split
  · rw [vU_n _ _ _ h5, vU_n _ _ _ h10]
  · rfl
theorem Ps_5 (V : Nat → Nat → Nat) (p a j : Nat) : kPs V p a 5 j = if j = p ∧ kPb V p a = true then 0 else V 5 j := by
  unfold kPs
  by_cases h : kPb V p a = true
  · rw [if_pos h, vUe, vU_n _ _ _ (by decide)]
    by_cases hq : j = p
    · rw [if_pos hq, if_pos ⟨hq, h⟩]
    · rw [if_neg hq, if_neg (fun z => hq z.1)]
  · rw [if_neg h, if_neg (fun z => h z.2)]
theorem Ps_10 (V : Nat → Nat → Nat) (p a j : Nat) : kPs V p a 10 j = V 10 j ∨ (j = p ∧ kPs V p a 10 j = mx (V 10 j) (V 5 j)) := by
  unfold kPs
  by_cases h : kPb V p a = true
  · rw [if_pos h, vU_n _ _ _ (by decide), vUe]
    by_cases hq : j = p
    · subst hq; rw [if_pos rfl]; exact Or.inr ⟨rfl, rfl⟩
    · rw [if_neg hq]; exact Or.inl rfl
  · rw [if_neg h]; exact Or.inl rfl
theorem Pt_spec (V : Nat → Nat → Nat) (v a : Nat) : ∀ t, t ≤ 12 → (∀ k, k ≠ 5 → k ≠ 10 → (kPt V v a t).1 k = V k) ∧ (∀ j, ¬ (v * 12 ≤ j ∧ j < v * 12 + t) → (kPt V v a t).1 5 j = V 5 j ∧ (kPt V v a t).1 10 j = V 10 j) ∧ (∀ j, v * 12 ≤ j → j < v * 12 + t → (kPt V v a t).1 5 j = if kPb V j a = true then 0 else V 5 j) ∧ (∀ j, (kPt V v a t).1 10 j ≤ mx (V 10 j) (V 5 j)) ∧ (kPt V v a t).2 = cnt (fun s => kPb V (v * 12 + s) a) t
  | 0, _ => ⟨fun _ _ _ => rfl, fun _ _ => ⟨rfl, rfl⟩, fun j h1 h2 => absurd h2 (by omega), fun j => by show V 10 j ≤ _; unfold mx; split <;> omega, rfl⟩
  | t + 1, ht => by
    obtain ⟨i1, i2, i3, i4, i5⟩ := Pt_spec V v a t (by omega)
    rw [kPt_s]
    dsimp only
    have g := i2 (v * 12 + t) (by omega)
    have eP : kPb (kPt V v a t).1 (v * 12 + t) a = kPb V (v * 12 + t) a := Pb_eq (i1 0 (by decide) (by decide)) g.1 (i1 6 (by decide) (by decide)) (i1 8 (by decide) (by decide)) (i1 9 (by decide) (by decide))
    refine ⟨fun k h5 h10 => by rw [Ps_n _ _ _ h5 h10]; exact i1 k h5 h10, fun j hj => ?_, fun j h1 h2 => ?_, fun j => ?_, ?_⟩
    · have := i2 j (by omega)
      refine ⟨by rw [Ps_5, if_neg (fun z => by omega)]; exact this.1, ?_⟩
      rcases Ps_10 (kPt V v a t).1 (v * 12 + t) a j with e | e
      · rw [e]; exact this.2
      · omega
    · rw [Ps_5, eP]
      by_cases hq : j = v * 12 + t
      · subst hq
        by_cases hb : kPb V (v * 12 + t) a = true
        · rw [if_pos ⟨rfl, hb⟩, if_pos hb]
        · rw [if_neg (fun z => hb z.2), if_neg hb]; exact g.1
      · rw [if_neg (fun z => hq z.1)]
        exact i3 j h1 (by omega)
    · rcases Ps_10 (kPt V v a t).1 (v * 12 + t) a j with e | e
      · rw [e]; exact i4 j
      · rw [e.2, e.1, g.1, g.2]
        exact Nat.le_refl _
    · rw [eP, i5]
      rfl
theorem Pv_spec (V : Nat → Nat → Nat) (a : Nat) : ∀ v, v ≤ 7 → (∀ k, k ≠ 5 → k ≠ 10 → (kPv V a v).1 k = V k) ∧ (∀ j, v * 12 ≤ j → (kPv V a v).1 5 j = V 5 j ∧ (kPv V a v).1 10 j = V 10 j) ∧ (∀ j, j < v * 12 → (kPv V a v).1 5 j = if kPb V j a = true then 0 else V 5 j) ∧ (∀ j, (kPv V a v).1 10 j ≤ mx (V 10 j) (V 5 j)) ∧ (kPv V a v).2 = sm (fun u => cnt (fun s => kPb V (u * 12 + s) a) 12) v
  | 0, _ => ⟨fun _ _ _ => rfl, fun _ _ => ⟨rfl, rfl⟩, fun j h1 => absurd h1 (by omega), fun j => by show V 10 j ≤ _; unfold mx; split <;> omega, rfl⟩
  | v + 1, hv => by
    obtain ⟨i1, i2, i3, i4, i5⟩ := Pv_spec V a v (by omega)
    obtain ⟨q1, q2, q3, q4, q5⟩ := Pt_spec (kPv V a v).1 v a 12 (Nat.le_refl _)
    rw [kPv_s]
    dsimp only
    unfold kPr
    have eP : ∀ j, v * 12 ≤ j → kPb (kPv V a v).1 j a = kPb V j a := fun j hj => Pb_eq (i1 0 (by decide) (by decide)) (i2 j hj).1 (i1 6 (by decide) (by decide)) (i1 8 (by decide) (by decide)) (i1 9 (by decide) (by decide))
    refine ⟨fun k h5 h10 => by rw [q1 k h5 h10]; exact i1 k h5 h10, fun j hj => ?_, fun j hj => ?_, fun j => ?_, ?_⟩
    · have := q2 j (by omega)
      have := i2 j (by omega)
      exact ⟨by omega, by omega⟩
    · by_cases hq : v * 12 ≤ j
      · rw [q3 j hq (by omega), eP j hq, (i2 j hq).1]
      · rw [(q2 j (by omega)).1]
        exact i3 j (by omega)
    · by_cases hq : v * 12 ≤ j
      · have := q4 j
        rw [(i2 j hq).1, (i2 j hq).2] at this
        exact this
      · rw [(q2 j (by omega)).2]
        exact i4 j
    · rw [q5, i5]
      show _ + _ = sm _ v + cnt (fun s => kPb V (v * 12 + s) a) 12
      rw [cnt_congr 12 (fun s _ => eP (v * 12 + s) (by omega))]
theorem cnt_split {p p' q : Nat → Bool} : ∀ n, (∀ i, i < n → p' i = (p i && !(q i)) ∧ (q i = true → p i = true)) → cnt p n = cnt p' n + cnt q n
  | 0, _ => rfl
  | n + 1, h => by
    have ih := cnt_split n (fun i hi => h i (by omega))
    obtain ⟨h1, h2⟩ := h n (by omega)
    rw [cnt_s, cnt_s, cnt_s, ih, h1]
    cases hp : p n <;> cases hq : q n
    · simp
    · rw [hp] at h2; exact absurd (h2 hq) (by decide)
    · simp; omega
    · simp; omega
theorem sm_add {f g h : Nat → Nat} : ∀ n, (∀ i, i < n → f i = g i + h i) → sm f n = sm g n + sm h n
  | 0, _ => rfl
  | n + 1, e => by
    have ih := sm_add n (fun i hi => e i (by omega))
    have := e n (by omega)
    show sm f n + f n = (sm g n + g n) + (sm h n + h n)
    omega
theorem sm_congr {f g : Nat → Nat} : ∀ n, (∀ i, i < n → f i = g i) → sm f n = sm g n
  | 0, _ => rfl
  | n + 1, e => by
    show sm f n + f n = sm g n + g n
    rw [sm_congr n (fun i hi => e i (by omega)), e n (by omega)]
theorem sm_0 {f : Nat → Nat} : ∀ n, (∀ i, i < n → f i = 0) → sm f n = 0
  | 0, _ => rfl
  | n + 1, e => by
    show sm f n + f n = 0
    rw [sm_0 n (fun i hi => e i (by omega)), e n (by omega)]
theorem cnt_0 {p : Nat → Bool} : ∀ n, (∀ i, i < n → p i = false) → cnt p n = 0
  | 0, _ => rfl
  | n + 1, e => by rw [cnt_s, cnt_0 n (fun i hi => e i (by omega)), e n (by omega)]; rfl
theorem Pass_spec {V : Nat → Nat → Nat} {N G : Nat} (h : J V N G) (k d : Nat) (hk : k ≤ 4 * d) :
    J (kPass V k).1 (N + d) G ∧ (kPass V k).1 0 0 = V 0 0 ∧ (kPass V k).1 0 1 = V 0 1 + k ∧ nRu (kPass V k).1 (V 0 0) = nRu V (V 0 0) ∧ nTo V (V 0 0) = nTo (kPass V k).1 (V 0 0) + (kPass V k).2 ∧ (60 ≤ k → nTo (kPass V k).1 (V 0 0) = 0) := by
  have eV0 : ∀ j, vU V 0 1 (V 0 1 + k) 0 j = if j = 1 then V 0 1 + k else V 0 j := fun j => vUe _ _ _ _ _
  have eVn : ∀ z, z ≠ 0 → vU V 0 1 (V 0 1 + k) z = V z := fun z hz => vU_n _ _ _ hz
  have hn7 := h.1
  obtain ⟨i1, i2, i3, i4, i5⟩ := Pv_spec (vU V 0 1 (V 0 1 + k)) (kPres (vU V 0 1 (V 0 1 + k))) (V 0 0) hn7
  have hJ5 : ∀ p, p < 84 → V 5 p ≤ 8 * N + 7 := fun p hp => J5 h hp
  unfold kPass
  generalize hW : kPv (vU V 0 1 (V 0 1 + k)) (kPres (vU V 0 1 (V 0 1 + k))) (V 0 0) = W at *
  generalize kPres (vU V 0 1 (V 0 1 + k)) = a at *
  generalize vU V 0 1 (V 0 1 + k) = V1 at *
  have e0 : W.1 0 0 = V 0 0 ∧ W.1 0 1 = V 0 1 + k ∧ W.1 0 2 = V 0 2 ∧ W.1 0 3 = V 0 3 := by
    rw [i1 0 (by decide) (by decide), eV0, eV0, eV0, eV0]
    exact ⟨rfl, rfl, rfl, rfl⟩
  have en : ∀ z, z ≠ 0 → z ≠ 5 → z ≠ 10 → W.1 z = V z := fun z z0 z5 z10 => by rw [i1 z z5 z10, eVn z z0]
  have e5 : ∀ j, W.1 5 j = 0 ∨ W.1 5 j = V 5 j := fun j => by
    by_cases hj : j < V 0 0 * 12
    · rw [i3 j hj, eVn 5 (by decide)]
      split
      · exact Or.inl rfl
      · exact Or.inr rfl
    · rw [(i2 j (by omega)).1, eVn 5 (by decide)]
      exact Or.inr rfl
  have eT : ∀ j, j < V 0 0 * 12 → kTmb W.1 j = (kTmb V j && !(kPb V1 j a)) ∧ (kPb V1 j a = true → kTmb V j = true) := fun j hj => by
    have hT : kTmb V1 j = kTmb V j := by unfold kTmb; rw [eVn 5 (by decide), eVn 6 (by decide)]
    have hw : kTmb W.1 j = decide ((if kPb V1 j a = true then 0 else V 5 j) ≠ 0 ∧ V 6 j = 3) := by
      unfold kTmb
      rw [i3 j hj, eVn 5 (by decide), en 6 (by decide) (by decide) (by decide)]
    refine ⟨?_, fun z => ?_⟩
    · rw [hw]
      cases hb : kPb V1 j a
      · rw [if_neg (by decide), Bool.not_false, Bool.and_true]; rfl
      · rw [if_pos rfl, Bool.not_true, Bool.and_false]; exact decide_eq_false (fun z => z.1 rfl)
    · unfold kPb at z
      rw [Bool.and_eq_true] at z
      rw [← hT]; exact z.1
  have eR : ∀ j, j < V 0 0 * 12 → kRum W.1 j = kRum V j := fun j hj => by
    have hw : kRum W.1 j = decide ((if kPb V1 j a = true then 0 else V 5 j) ≠ 0 ∧ V 6 j ≠ 3) := by
      unfold kRum
      rw [i3 j hj, eVn 5 (by decide), en 6 (by decide) (by decide) (by decide)]
    rw [hw]
    cases hb : kPb V1 j a
    · rw [if_neg (by decide)]; rfl
    · rw [if_pos rfl]
      have := (kTmb_0 ((eT j hj).2 hb)).2
      unfold kRum
      rw [decide_eq_false (fun z => z.1 rfl), decide_eq_false (fun z => z.2 this)]
  obtain ⟨h0, h1, h2, h3, h4, h5, h6, h7⟩ := h
  refine ⟨⟨by rw [e0.1]; exact h0, by rw [e0.2.1]; omega, by rw [e0.2.2.1]; exact h2, by rw [e0.2.2.2]; omega, fun i hi => ?_, fun i s hi hs hq => ?_, fun p hp => ?_, fun t ht => ?_⟩, e0.1, e0.2.1, ?_, ?_, fun hk60 => ?_⟩
  · obtain ⟨a1, a2, a3, a4, a5⟩ := h4 i hi
    rw [e0.2.1, en 1 (by decide) (by decide) (by decide), en 2 (by decide) (by decide) (by decide), en 3 (by decide) (by decide) (by decide), en 4 (by decide) (by decide) (by decide)]
    refine ⟨a1, by omega, by omega, a4, fun z s hs => ?_⟩
    rcases e5 (i * 12 + s) with e | e
    · exact e
    · rw [e]; exact a5 z s hs
  · rcases e5 (i * 12 + s) with e | e
    · exact absurd e hq
    · rw [e] at hq ⊢
      rw [en 2 (by decide) (by decide) (by decide), en 6 (by decide) (by decide) (by decide), en 9 (by decide) (by decide) (by decide)]
      exact h5 i s hi hs hq
  · obtain ⟨c1, c2, c3, c4, c5⟩ := h6 p hp
    rw [e0.2.1, en 6 (by decide) (by decide) (by decide), en 7 (by decide) (by decide) (by decide), en 8 (by decide) (by decide) (by decide), en 9 (by decide) (by decide) (by decide)]
    refine ⟨c1, c2, by omega, c4, ?_⟩
    have a1 := i4 p
    have a2 := hJ5 p hp
    rw [eVn 10 (by decide), eVn 5 (by decide)] at a1
    unfold mx at a1
    split at a1 <;> omega
  · have := h7 t ht
    rw [en 11 (by decide) (by decide) (by decide)]
    omega
  · unfold nRu
    exact sm_congr _ (fun u hu => cnt_congr 12 (fun s hs => eR (u * 12 + s) (by omega)))
  · unfold nTo
    rw [i5]
    exact sm_add _ (fun u hu => cnt_split 12 (fun s hs => eT (u * 12 + s) (by omega)))
  · unfold nTo
    refine sm_0 _ (fun u hu => cnt_0 12 (fun s hs => ?_))
    have hj : u * 12 + s < V 0 0 * 12 := by omega
    show kTmb W.1 (u * 12 + s) = false
    rw [(eT _ hj).1]
    cases hT : kTmb V (u * 12 + s)
    · rfl
    · have hT1 : kTmb V1 (u * 12 + s) = true := by rw [← hT]; unfold kTmb; rw [eVn 5 (by decide), eVn 6 (by decide)]
      have hO : kOver V1 (u * 12 + s) a = true := by
        refine decide_eq_true (Or.inr ?_)
        rw [eV0, eV0, eVn 8 (by decide), if_neg (by decide), if_pos rfl]
        have := (h6 (u * 12 + s) (by omega)).2.2.1
        omega
      unfold kPb
      rw [hT1, hO]
      rfl
theorem kTick_at {V : Nat → Nat → Nat} {k : Nat} (h1 : 1 ≤ k) (h2 : k ≤ 60) (ht : V 0 1 + k ≤ 100000) : kTick V (nI k) = ((kPass V k).1, nI (kPass V k).2) := by
  unfold kTick
  rw [if_pos (by rw [inN_nI (by omega)]; exact decide_eq_true ⟨h1, h2⟩), ixn (i := k) (by omega), if_neg (by omega)]
end
section
/-! the world between calls -/
def WJ (w : WD) (N G n : Nat) : Prop := HH w ∧ (∀ i j, i < 5 → j < 5 → w.2 i = w.2 j → i = j) ∧ J (w.1 0) N G ∧ w.1 0 0 0 = n
theorem WJ_le {w : WD} {N N' G G' n : Nat} (h : WJ w N G n) (hN : N ≤ N') (hG : G ≤ G') : WJ w N' G' n := ⟨h.1, h.2.1, J_le h.2.2.1 hN hG, h.2.2.2⟩
theorem hKa_n (w : WD) (k : Nat) (s : Nat → Nat) {a : Nat} (h : a ≠ 8) : (hK w k s).1 a = w.1 a := by
  funext b
  exact wA_n w _ (fun z => h z.1)
theorem hKa_8 (w : WD) (k : Nat) (s : Nat → Nat) : (hK w k s).1 8 0 1 = k := by
  unfold hK
  dsimp only
  rw [wA_s, upN_s]
theorem rot_in {s : Nat → Nat} {i : Nat} (hi : i < 5) : ∃ j, j < 5 ∧ rot s i = s j ∧ j = (i + 1) % 5 := by
  by_cases h4 : i = 4
  · subst h4; exact ⟨0, by decide, rfl, rfl⟩
  · refine ⟨i + 1, by omega, ?_, by omega⟩
    unfold rot
    rw [if_neg h4, if_pos (by omega)]
theorem keep_spec {w : WD} {N G n N' G' n' : Nat} (h : WJ w N G n) {V' : Nat → Nat → Nat} (hJ : J V' N' G') (hn : V' 0 0 = n') : WJ (hKeep (wO (Prep w) 0 V')) N' G' n' ∧ (hKeep (wO (Prep w) 0 V')).1 0 = V' ∧ 1 ≤ (hKeep (wO (Prep w) 0 V')).1 8 0 1 ∧ ∃ U, (hKeep (wO (Prep w) 0 V')).1 ((hKeep (wO (Prep w) 0 V')).2 ((hKeep (wO (Prep w) 0 V')).1 8 0 1 - 1)) = kCp U (w.1 0) := by
  obtain ⟨hH, hI, -, -⟩ := h
  have hs := hH.s
  have hne := hH.n
  have hk4 := hH.1
  have p0 : (wO (Prep w) 0 V').1 0 = V' := wO_s _ _ _
  have p8 : (wO (Prep w) 0 V').1 8 = w.1 8 := by rw [wO_n _ _ (by decide), wO_n _ _ (by omega)]
  have p2 : (wO (Prep w) 0 V').2 = w.2 := rfl
  have pk : (wO (Prep w) 0 V').1 (w.2 (w.1 8 0 1)) = kCp (w.1 (w.2 (w.1 8 0 1))) (w.1 0) := by rw [wO_n _ _ (Ne.symm hne), wO_s]
  generalize wO (Prep w) 0 V' = W0 at *
  unfold hKeep
  rw [p8, p2]
  by_cases hk : w.1 8 0 1 = 4
  · rw [if_pos hk]
    refine ⟨⟨⟨by rw [hKa_8]; exact Nat.le_refl _, fun i hi => ?_⟩, fun i j hi hj e => ?_, by rw [hKa_n _ _ _ (by decide), p0]; exact hJ, by rw [hKa_n _ _ _ (by decide), p0]; exact hn⟩, by rw [hKa_n _ _ _ (by decide), p0], by rw [hKa_8]; decide, ⟨w.1 (w.2 (w.1 8 0 1)), ?_⟩⟩
    · obtain ⟨j, j1, j2, -⟩ := rot_in (s := w.2) hi
      show 2 ≤ rot w.2 i ∧ rot w.2 i < 7
      rw [j2]; exact hH.2 j j1
    · have e : rot w.2 i = rot w.2 j := e
      obtain ⟨x, x1, x2, x3⟩ := rot_in (s := w.2) hi
      obtain ⟨y, y1, y2, y3⟩ := rot_in (s := w.2) hj
      rw [x2, y2] at e
      have := hI x y x1 y1 e
      omega
    · rw [hKa_8]
      show (hK W0 4 (rot w.2)).1 (rot w.2 3) = _
      have e3 : rot w.2 3 = w.2 4 := rfl
      rw [e3, hKa_n _ _ _ (by have := (hH.2 4 (by decide)).2; omega), ← hk]
      exact pk
  · rw [if_neg hk]
    refine ⟨⟨⟨by rw [hKa_8]; omega, fun i hi => hH.2 i hi⟩, fun i j hi hj e => hI i j hi hj e, by rw [hKa_n _ _ _ (by decide), p0]; exact hJ, by rw [hKa_n _ _ _ (by decide), p0]; exact hn⟩, by rw [hKa_n _ _ _ (by decide), p0], by rw [hKa_8]; omega, ⟨w.1 (w.2 (w.1 8 0 1)), ?_⟩⟩
    rw [hKa_8]
    show (hK W0 (w.1 8 0 1 + 1) w.2).1 (w.2 (w.1 8 0 1 + 1 - 1)) = _
    rw [Nat.add_sub_cancel, hKa_n _ _ _ (by omega)]
    exact pk
theorem WJ_rec {w : WD} {N G n N' G' n' : Nat} (h : WJ w N G n) {V' : Nat → Nat → Nat} (hJ : J V' N' G') (hn : V' 0 0 = n') (r : Int32) : WJ (Rec (wO (Prep w) 0 V') r) N' G' n' ∧ (Rec (wO (Prep w) 0 V') r).1 0 = V' := by
  unfold Rec
  split
  · obtain ⟨hH, hI, -, -⟩ := h
    have p0 : (wO (Prep w) 0 V').1 0 = V' := wO_s _ _ _
    have p8 : (wO (Prep w) 0 V').1 8 = w.1 8 := by have := hH.s; rw [wO_n _ _ (by decide), wO_n _ _ (by omega)]
    exact ⟨⟨⟨by rw [p8]; exact hH.1, hH.2⟩, hI, by rw [p0]; exact hJ, by rw [p0]; exact hn⟩, p0⟩
  · have := keep_spec h hJ hn
    exact ⟨this.1, this.2.1⟩
theorem Cp_0 (U V : Nat → Nat → Nat) {j : Nat} (h : j < 4) : kCp U V 0 j = V 0 j := by
  unfold kCp
  rw [if_pos rfl]
  exact if_pos h
theorem Cp_k (U V : Nat → Nat → Nat) {k : Nat} (h : 1 ≤ k ∧ k < 12) : kCp U V k = V k := by
  unfold kCp
  rw [if_neg (by omega), if_pos h.2]
theorem J_cp {V : Nat → Nat → Nat} {N G : Nat} (U : Nat → Nat → Nat) (h : J V N G) : J (kCp U V) N G := by
  rw [J, Cp_0 U V (j := 0) (by decide), Cp_0 U V (j := 1) (by decide), Cp_0 U V (j := 2) (by decide), Cp_0 U V (j := 3) (by decide), Cp_k U V (k := 1) (by decide), Cp_k U V (k := 2) (by decide), Cp_k U V (k := 3) (by decide), Cp_k U V (k := 4) (by decide), Cp_k U V (k := 5) (by decide), Cp_k U V (k := 6) (by decide), Cp_k U V (k := 7) (by decide), Cp_k U V (k := 8) (by decide), Cp_k U V (k := 9) (by decide), Cp_k U V (k := 10) (by decide), Cp_k U V (k := 11) (by decide)]
  exact h
theorem nTo_cp (U V : Nat → Nat → Nat) (n : Nat) : nTo (kCp U V) n = nTo V n := by
  unfold nTo
  refine sm_congr _ (fun u _ => cnt_congr 12 (fun s _ => ?_))
  show kTmb (kCp U V) _ = kTmb V _
  unfold kTmb
  rw [Cp_k U V (k := 5) (by decide), Cp_k U V (k := 6) (by decide)]
theorem WJ_undo {w : WD} {N G n : Nat} (h : WJ w N G n) {V U U' : Nat → Nat → Nat} (h1 : 1 ≤ w.1 8 0 1) (hJ : J V N G) (hn : V 0 0 = n) : WJ (wO (hK w (w.1 8 0 1 - 1) w.2) 0 (kCp U' (kCp U V))) N G n := by
  obtain ⟨hH, hI, -, -⟩ := h
  have e0 : (wO (hK w (w.1 8 0 1 - 1) w.2) 0 (kCp U' (kCp U V))).1 0 = kCp U' (kCp U V) := wO_s _ _ _
  refine ⟨⟨?_, hH.2⟩, hI, by rw [e0]; exact J_cp _ (J_cp _ hJ), by rw [e0, Cp_0 _ _ (by decide), Cp_0 _ _ (by decide)]; exact hn⟩
  rw [wO_n _ _ (by decide), hKa_8]
  have := hH.1
  omega
/-- who is awake -/
theorem cnt_set {p q : Nat → Bool} {v : Nat} (hp : p v = true) (hq : q v = false) (h : ∀ i, i ≠ v → q i = p i) : ∀ n, (v < n → cnt p n = cnt q n + 1) ∧ (n ≤ v → cnt p n = cnt q n)
  | 0 => ⟨fun z => absurd z (Nat.not_lt_zero _), fun _ => rfl⟩
  | n + 1 => by
    obtain ⟨h1, h2⟩ := cnt_set hp hq h n
    rw [cnt_s, cnt_s]
    by_cases hv : n = v
    · subst hv
      rw [hp, hq, if_pos rfl, if_neg (by decide), h2 (Nat.le_refl _)]
      exact ⟨fun _ => rfl, fun z => absurd z (by omega)⟩
    · rw [h n hv]
      exact ⟨fun z => by rw [h1 (by omega)]; omega, fun z => by rw [h2 (by omega)]⟩
theorem many_sl {V : Nat → Nat → Nat} {v : Nat} (hv : v < V 0 0) (h : V 1 v = 0) : kMany V 0 = kMany (vU (vU V 1 v 1) 3 v (V 0 1)) 0 + 1 := by
  have e0 : vU (vU V 1 v 1) 3 v (V 0 1) 0 = V 0 := by simp (disch := decide) only [vU_n]
  have e1 : ∀ j, vU (vU V 1 v 1) 3 v (V 0 1) 1 j = if j = v then 1 else V 1 j := fun j => by simp (disch := decide) only [vU_n, vUe]
  unfold kMany
  rw [e0]
  refine (cnt_set (decide_eq_true h) ?_ (fun i hi => ?_) (V 0 0)).1 hv
  · show decide (vU (vU V 1 v 1) 3 v (V 0 1) 1 v = 0) = false
    rw [e1, if_pos rfl]
    rfl
  · show decide (vU (vU V 1 v 1) 3 v (V 0 1) 1 i = 0) = _
    rw [e1, if_neg hi]
end
