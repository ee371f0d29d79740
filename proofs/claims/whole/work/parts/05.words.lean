/-! the tables' good words, by their places; the nest words apart -/
def TB : List Cond := lw_tbl.filter goodWord
def NWq : Cond → Bool
  | .fieldLinkNest .. => true
  | .methodLinkNest .. => true
  | _ => false
def NL : List Cond := lw_tbl.filter NWq
theorem tb_of {w : Cond} (i : Nat) (h : lw_tbl[i]? = some w) (hg : goodWord w = true) : w ∈ TB := List.mem_filter.mpr ⟨List.mem_of_getElem? h, hg⟩
theorem nl_of {w : Cond} (i : Nat) (h : lw_tbl[i]? = some w) (hg : NWq w = true) : w ∈ NL := List.mem_filter.mpr ⟨List.mem_of_getElem? h, hg⟩
theorem tb_good : ∀ w ∈ TB, w ∈ TB ∧ ((w.onTables && w.keeps) = true ∨ ∃ ty, w = .arrayClass ty) := fun w h => ⟨h, good_of_word (List.mem_filter.mp h).2⟩
theorem tb_in {w : Cond} (h : w ∈ TB) : w ∈ lw_tbl := (List.mem_filter.mp h).1
def MI (y : MethodName) (b : ByteArray) (mL : Nat) (ret : Option FieldType) (n : Nat) : Prop := Cond.instanceMethod y ∈ TB ∧ Cond.selects y.cls y y ∈ TB ∧ Cond.initialized y.cls ∈ TB ∧ Cond.code y b mL ret ∈ TB ∧ (y.cls ≠ "java/lang/invoke/MethodHandle" ∧ y.cls ≠ "java/lang/invoke/VarHandle" ∧ (parseMethodDescriptor y.desc).map (fun d => d.parameters.length) = some n) ∧ plainName y.cls = true
def MS (y : MethodName) (b : ByteArray) (mL : Nat) (ret : Option FieldType) (n : Nat) : Prop := Cond.static y ∈ TB ∧ Cond.initialized y.cls ∈ TB ∧ Cond.code y b mL ret ∈ TB ∧ (y.cls ≠ "java/lang/invoke/MethodHandle" ∧ y.cls ≠ "java/lang/invoke/VarHandle" ∧ (parseMethodDescriptor y.desc).map (fun d => d.parameters.length) = some n) ∧ plainName y.cls = true
theorem ini_L : Cond.initialized "RumorTombsLaw" ∈ TB := tb_of 51 (by decide +kernel) rfl
theorem ini_X3 : Cond.initialized RX3 ∈ TB := tb_of 52 (by decide +kernel) rfl
theorem ini_X2 : Cond.initialized RX2 ∈ TB := tb_of 53 (by decide +kernel) rfl
theorem ini_X0 : Cond.initialized RX0 ∈ TB := tb_of 54 (by decide +kernel) rfl
theorem ini_X1 : Cond.initialized RX1 ∈ TB := tb_of 55 (by decide +kernel) rfl
theorem ini_X4 : Cond.initialized RX4 ∈ TB := tb_of 56 (by decide +kernel) rfl
theorem ini_J10 : Cond.initialized RJ10 ∈ TB := tb_of 57 (by decide +kernel) rfl
theorem ini_J9 : Cond.initialized RJ9 ∈ TB := tb_of 58 (by decide +kernel) rfl
theorem ini_J6 : Cond.initialized RJ6 ∈ TB := tb_of 59 (by decide +kernel) rfl
theorem ml_L_9 : Cond.methodLink "RumorTombsLaw" 9 yX3_init ∈ TB := tb_of 62 (by decide +kernel) rfl
theorem ml_X3_1 : Cond.methodLink RX3 1 objectInit ∈ TB := tb_of 65 (by decide +kernel) rfl
theorem mn_X3_9 : Cond.methodLinkNest RX3 9 yX2_init "RumorTombs" ∈ NL := nl_of 70 (by decide +kernel) rfl
theorem ml_X2_3 : Cond.methodLink RX2 3 objectInit ∈ TB := tb_of 73 (by decide +kernel) rfl
theorem fl_X2_9 : Cond.fieldLink RX2 9 "RumorTombs$Village" "villagers" "I" ∈ TB := tb_of 74 (by decide +kernel) rfl
theorem fn_X3_168 : Cond.fieldLinkNest RX3 168 "RumorTombs$Village" "villagers" "I" "RumorTombs" ∈ NL := nl_of 75 (by decide +kernel) rfl
theorem fl_X2_15 : Cond.fieldLink RX2 15 "RumorTombs$Village" "time" "I" ∈ TB := tb_of 76 (by decide +kernel) rfl
theorem fn_X3_175 : Cond.fieldLinkNest RX3 175 "RumorTombs$Village" "time" "I" "RumorTombs" ∈ NL := nl_of 77 (by decide +kernel) rfl
theorem fl_X2_18 : Cond.fieldLink RX2 18 "RumorTombs$Village" "watch" "I" ∈ TB := tb_of 78 (by decide +kernel) rfl
theorem fn_X3_178 : Cond.fieldLinkNest RX3 178 "RumorTombs$Village" "watch" "I" "RumorTombs" ∈ NL := nl_of 79 (by decide +kernel) rfl
theorem fl_X2_21 : Cond.fieldLink RX2 21 "RumorTombs$Village" "tombsMade" "I" ∈ TB := tb_of 80 (by decide +kernel) rfl
theorem fn_X3_190 : Cond.fieldLinkNest RX3 190 "RumorTombs$Village" "tombsMade" "I" "RumorTombs" ∈ NL := nl_of 81 (by decide +kernel) rfl
theorem fl_X2_24 : Cond.fieldLink RX2 24 "RumorTombs$Village" "states" "[I" ∈ TB := tb_of 82 (by decide +kernel) rfl
theorem fn_X3_62 : Cond.fieldLinkNest RX3 62 "RumorTombs$Village" "states" "[I" "RumorTombs" ∈ NL := nl_of 83 (by decide +kernel) rfl
theorem fl_X2_28 : Cond.fieldLink RX2 28 "RumorTombs$Village" "clocks" "[I" ∈ TB := tb_of 84 (by decide +kernel) rfl
theorem fn_X3_66 : Cond.fieldLinkNest RX3 66 "RumorTombs$Village" "clocks" "[I" "RumorTombs" ∈ NL := nl_of 85 (by decide +kernel) rfl
theorem fl_X2_31 : Cond.fieldLink RX2 31 "RumorTombs$Village" "asleepSince" "[I" ∈ TB := tb_of 86 (by decide +kernel) rfl
theorem fl_X2_34 : Cond.fieldLink RX2 34 "RumorTombs$Village" "ghostsOf" "[I" ∈ TB := tb_of 87 (by decide +kernel) rfl
theorem fn_X3_75 : Cond.fieldLinkNest RX3 75 "RumorTombs$Village" "ghostsOf" "[I" "RumorTombs" ∈ NL := nl_of 88 (by decide +kernel) rfl
theorem fl_X2_37 : Cond.fieldLink RX2 37 "RumorTombs$Village" "stamps" "[I" ∈ TB := tb_of 89 (by decide +kernel) rfl
theorem fn_X3_102 : Cond.fieldLinkNest RX3 102 "RumorTombs$Village" "stamps" "[I" "RumorTombs" ∈ NL := nl_of 90 (by decide +kernel) rfl
theorem fl_X2_40 : Cond.fieldLink RX2 40 "RumorTombs$Village" "kinds" "[I" ∈ TB := tb_of 91 (by decide +kernel) rfl
theorem fn_X3_114 : Cond.fieldLinkNest RX3 114 "RumorTombs$Village" "kinds" "[I" "RumorTombs" ∈ NL := nl_of 92 (by decide +kernel) rfl
theorem fl_X2_43 : Cond.fieldLink RX2 43 "RumorTombs$Village" "values" "[I" ∈ TB := tb_of 93 (by decide +kernel) rfl
theorem fn_X3_111 : Cond.fieldLinkNest RX3 111 "RumorTombs$Village" "values" "[I" "RumorTombs" ∈ NL := nl_of 94 (by decide +kernel) rfl
theorem fl_X2_46 : Cond.fieldLink RX2 46 "RumorTombs$Village" "made" "[I" ∈ TB := tb_of 95 (by decide +kernel) rfl
theorem fn_X3_117 : Cond.fieldLinkNest RX3 117 "RumorTombs$Village" "made" "[I" "RumorTombs" ∈ NL := nl_of 96 (by decide +kernel) rfl
theorem fl_X2_49 : Cond.fieldLink RX2 49 "RumorTombs$Village" "seen" "[I" ∈ TB := tb_of 97 (by decide +kernel) rfl
theorem fn_X3_120 : Cond.fieldLinkNest RX3 120 "RumorTombs$Village" "seen" "[I" "RumorTombs" ∈ NL := nl_of 98 (by decide +kernel) rfl
theorem fl_X2_52 : Cond.fieldLink RX2 52 "RumorTombs$Village" "newestDropped" "[I" ∈ TB := tb_of 99 (by decide +kernel) rfl
theorem fl_X2_55 : Cond.fieldLink RX2 55 "RumorTombs$Village" "newestTomb" "[I" ∈ TB := tb_of 100 (by decide +kernel) rfl
theorem ml_X3_21 : Cond.methodLink RX3 21 yX0_init ∈ TB := tb_of 135 (by decide +kernel) rfl
theorem ml_X0_3 : Cond.methodLink RX0 3 objectInit ∈ TB := tb_of 138 (by decide +kernel) rfl
theorem mn_X0_21 : Cond.methodLinkNest RX0 21 yX2_init "RumorTombs" ∈ NL := nl_of 141 (by decide +kernel) rfl
theorem fl_X0_11 : Cond.fieldLink RX0 11 "RumorTombs$History" "states" "[LRumorTombs$Village;" ∈ TB := tb_of 142 (by decide +kernel) rfl
theorem fl_X0_17 : Cond.fieldLink RX0 17 "RumorTombs$History" "kept" "I" ∈ TB := tb_of 143 (by decide +kernel) rfl
theorem fn_X3_193 : Cond.fieldLinkNest RX3 193 "RumorTombs$History" "kept" "I" "RumorTombs" ∈ NL := nl_of 144 (by decide +kernel) rfl
theorem mn_X3_28 : Cond.methodLinkNest RX3 28 yX1_init "RumorTombs" ∈ NL := nl_of 152 (by decide +kernel) rfl
theorem ml_X1_3 : Cond.methodLink RX1 3 objectInit ∈ TB := tb_of 155 (by decide +kernel) rfl
theorem fl_X1_9 : Cond.fieldLink RX1 9 "RumorTombs$Orders" "signs" "[C" ∈ TB := tb_of 156 (by decide +kernel) rfl
theorem fl_X1_15 : Cond.fieldLink RX1 15 "RumorTombs$Orders" "length" "I" ∈ TB := tb_of 157 (by decide +kernel) rfl
theorem fn_X3_196 : Cond.fieldLinkNest RX3 196 "RumorTombs$Orders" "length" "I" "RumorTombs" ∈ NL := nl_of 158 (by decide +kernel) rfl
theorem fl_X1_19 : Cond.fieldLink RX1 19 "RumorTombs$Orders" "numbers" "[I" ∈ TB := tb_of 159 (by decide +kernel) rfl
theorem fl_X1_23 : Cond.fieldLink RX1 23 "RumorTombs$Orders" "done" "I" ∈ TB := tb_of 160 (by decide +kernel) rfl
theorem fn_X3_216 : Cond.fieldLinkNest RX3 216 "RumorTombs$Orders" "done" "I" "RumorTombs" ∈ NL := nl_of 161 (by decide +kernel) rfl
theorem fl_X1_26 : Cond.fieldLink RX1 26 "RumorTombs$Orders" "faultPosition" "I" ∈ TB := tb_of 162 (by decide +kernel) rfl
theorem fn_X3_213 : Cond.fieldLinkNest RX3 213 "RumorTombs$Orders" "faultPosition" "I" "RumorTombs" ∈ NL := nl_of 163 (by decide +kernel) rfl
theorem fl_X1_29 : Cond.fieldLink RX1 29 "RumorTombs$Orders" "faultReason" "I" ∈ TB := tb_of 164 (by decide +kernel) rfl
theorem fn_X3_210 : Cond.fieldLinkNest RX3 210 "RumorTombs$Orders" "faultReason" "I" "RumorTombs" ∈ NL := nl_of 165 (by decide +kernel) rfl
theorem fl_X3_10 : Cond.fieldLink RX3 10 "RumorTombs" "now" "LRumorTombs$Village;" ∈ TB := tb_of 180 (by decide +kernel) rfl
theorem fl_X3_16 : Cond.fieldLink RX3 16 "RumorTombs" "trial" "LRumorTombs$Village;" ∈ TB := tb_of 181 (by decide +kernel) rfl
theorem fl_X3_22 : Cond.fieldLink RX3 22 "RumorTombs" "history" "LRumorTombs$History;" ∈ TB := tb_of 182 (by decide +kernel) rfl
theorem fl_X3_29 : Cond.fieldLink RX3 29 "RumorTombs" "orders" "LRumorTombs$Orders;" ∈ TB := tb_of 183 (by decide +kernel) rfl
theorem ml_L_13 : Cond.methodLink "RumorTombsLaw" 13 yX3_villager ∈ TB := tb_of 193 (by decide +kernel) rfl
theorem ml_X3_33 : Cond.methodLink RX3 33 yX0_prepare ∈ TB := tb_of 197 (by decide +kernel) rfl
theorem ml_X0_22 : Cond.methodLink RX0 22 yX2_copyFrom ∈ TB := tb_of 201 (by decide +kernel) rfl
theorem ml_X2_58 : Cond.methodLink RX2 58 yX2_copyRow ∈ TB := tb_of 205 (by decide +kernel) rfl
theorem ml_X2_62 : Cond.methodLink RX2 62 arraycopyName ∈ TB := tb_of 208 (by decide +kernel) rfl
theorem ml_X3_37 : Cond.methodLink RX3 37 yX2_addVillager ∈ TB := tb_of 211 (by decide +kernel) rfl
theorem cn_X2_72 : Cond.constant RX2 72 (-1000003) ∈ TB := tb_of 215 (by decide +kernel) rfl
theorem ml_X3_41 : Cond.methodLink RX3 41 yX3_recorded ∈ TB := tb_of 216 (by decide +kernel) rfl
theorem ml_X3_219 : Cond.methodLink RX3 219 yX0_keep ∈ TB := tb_of 220 (by decide +kernel) rfl
theorem ml_X0_26 : Cond.methodLink RX0 26 yX0_dropOldest ∈ TB := tb_of 224 (by decide +kernel) rfl
theorem ml_L_18 : Cond.methodLink "RumorTombsLaw" 18 yX3_sleep ∈ TB := tb_of 228 (by decide +kernel) rfl
theorem ml_X3_45 : Cond.methodLink RX3 45 yX2_fallAsleep ∈ TB := tb_of 232 (by decide +kernel) rfl
theorem ml_X2_68 : Cond.methodLink RX2 68 yX2_has ∈ TB := tb_of 236 (by decide +kernel) rfl
theorem cn_X2_73 : Cond.constant RX2 73 (-1000001) ∈ TB := tb_of 240 (by decide +kernel) rfl
theorem ml_X2_74 : Cond.methodLink RX2 74 yX2_isAwake ∈ TB := tb_of 241 (by decide +kernel) rfl
theorem cn_X2_77 : Cond.constant RX2 77 (-1000002) ∈ TB := tb_of 245 (by decide +kernel) rfl
theorem ml_X2_78 : Cond.methodLink RX2 78 yX2_howMany ∈ TB := tb_of 246 (by decide +kernel) rfl
theorem ml_L_23 : Cond.methodLink "RumorTombsLaw" 23 yX3_wake ∈ TB := tb_of 250 (by decide +kernel) rfl
theorem ml_X3_48 : Cond.methodLink RX3 48 yX2_wakeUp ∈ TB := tb_of 254 (by decide +kernel) rfl
theorem ml_X2_82 : Cond.methodLink RX2 82 yX2_isAsleep ∈ TB := tb_of 258 (by decide +kernel) rfl
theorem ml_X2_85 : Cond.methodLink RX2 85 yX2_ticksAsleep ∈ TB := tb_of 262 (by decide +kernel) rfl
theorem ml_L_27 : Cond.methodLink "RumorTombsLaw" 27 yX3_leave ∈ TB := tb_of 266 (by decide +kernel) rfl
theorem ml_X3_51 : Cond.methodLink RX3 51 yX2_goAway ∈ TB := tb_of 270 (by decide +kernel) rfl
theorem mn_X2_88 : Cond.methodLinkNest RX2 88 yX3_place "RumorTombs" ∈ NL := nl_of 274 (by decide +kernel) rfl
theorem ml_L_31 : Cond.methodLink "RumorTombsLaw" 31 yX3_watch ∈ TB := tb_of 277 (by decide +kernel) rfl
theorem ml_X3_54 : Cond.methodLink RX3 54 yX2_changeWatch ∈ TB := tb_of 281 (by decide +kernel) rfl
theorem ml_L_35 : Cond.methodLink "RumorTombsLaw" 35 yX3_villagerOf ∈ TB := tb_of 285 (by decide +kernel) rfl
theorem ml_X3_57 : Cond.methodLink RX3 57 yX2_has ∈ TB := tb_of 289 (by decide +kernel) rfl
theorem cn_X3_61 : Cond.constant RX3 61 (-1000001) ∈ TB := tb_of 290 (by decide +kernel) rfl
theorem ml_X3_69 : Cond.methodLink RX3 69 yX2_rumorTopics ∈ TB := tb_of 291 (by decide +kernel) rfl
theorem ml_X2_92 : Cond.methodLink RX2 92 yX2_isRumor ∈ TB := tb_of 295 (by decide +kernel) rfl
theorem ml_X3_72 : Cond.methodLink RX3 72 yX2_tombTopics ∈ TB := tb_of 299 (by decide +kernel) rfl
theorem ml_X2_95 : Cond.methodLink RX2 95 yX2_isTomb ∈ TB := tb_of 303 (by decide +kernel) rfl
theorem ml_X3_78 : Cond.methodLink RX3 78 yX2_isAsleep ∈ TB := tb_of 307 (by decide +kernel) rfl
theorem ml_X3_81 : Cond.methodLink RX3 81 yX2_ticksAsleep ∈ TB := tb_of 308 (by decide +kernel) rfl
theorem cn_X3_84 : Cond.constant RX3 84 (-1000004) ∈ TB := tb_of 309 (by decide +kernel) rfl
theorem ml_L_40 : Cond.methodLink "RumorTombsLaw" 40 yX3_tell ∈ TB := tb_of 310 (by decide +kernel) rfl
theorem ml_X3_85 : Cond.methodLink RX3 85 yX2_makeRumor ∈ TB := tb_of 314 (by decide +kernel) rfl
theorem mn_X2_116 : Cond.methodLinkNest RX2 116 yX3_isTopic "RumorTombs" ∈ NL := nl_of 318 (by decide +kernel) rfl
theorem ml_X2_119 : Cond.methodLink RX2 119 yX2_write ∈ TB := tb_of 321 (by decide +kernel) rfl
theorem ml_L_45 : Cond.methodLink "RumorTombsLaw" 45 yX3_bury ∈ TB := tb_of 325 (by decide +kernel) rfl
theorem ml_X3_89 : Cond.methodLink RX3 89 yX2_makeTomb ∈ TB := tb_of 329 (by decide +kernel) rfl
theorem ml_X2_123 : Cond.methodLink RX2 123 Lib.Math.max.name ∈ TB := tb_of 333 (by decide +kernel) rfl
theorem ml_L_49 : Cond.methodLink "RumorTombsLaw" 49 yX3_meet ∈ TB := tb_of 336 (by decide +kernel) rfl
theorem ml_X3_93 : Cond.methodLink RX3 93 yX2_bringTogether ∈ TB := tb_of 340 (by decide +kernel) rfl
theorem ml_X2_128 : Cond.methodLink RX2 128 yX2_areTwo ∈ TB := tb_of 344 (by decide +kernel) rfl
theorem ml_X2_131 : Cond.methodLink RX2 131 yX2_talk ∈ TB := tb_of 348 (by decide +kernel) rfl
theorem ml_X2_134 : Cond.methodLink RX2 134 yX2_giver ∈ TB := tb_of 352 (by decide +kernel) rfl
theorem ml_X2_144 : Cond.methodLink RX2 144 yX2_author ∈ TB := tb_of 356 (by decide +kernel) rfl
theorem ml_X2_147 : Cond.methodLink RX2 147 yX2_mayBeHanded ∈ TB := tb_of 360 (by decide +kernel) rfl
theorem ml_X2_138 : Cond.methodLink RX2 138 yX2_hand ∈ TB := tb_of 363 (by decide +kernel) rfl
theorem ml_X2_141 : Cond.methodLink RX2 141 yX2_shareSight ∈ TB := tb_of 367 (by decide +kernel) rfl
theorem ml_L_53 : Cond.methodLink "RumorTombsLaw" 53 yX3_entryOf ∈ TB := tb_of 371 (by decide +kernel) rfl
theorem ml_X3_96 : Cond.methodLink RX3 96 yX3_isTopic ∈ TB := tb_of 375 (by decide +kernel) rfl
theorem ml_X3_99 : Cond.methodLink RX3 99 yX3_place ∈ TB := tb_of 376 (by decide +kernel) rfl
theorem ml_X3_105 : Cond.methodLink RX3 105 yX2_isTomb ∈ TB := tb_of 377 (by decide +kernel) rfl
theorem ml_X3_108 : Cond.methodLink RX3 108 yX2_author ∈ TB := tb_of 378 (by decide +kernel) rfl
theorem ml_X3_123 : Cond.methodLink RX3 123 yX2_isDead ∈ TB := tb_of 379 (by decide +kernel) rfl
theorem ml_L_58 : Cond.methodLink "RumorTombsLaw" 58 yX3_tick ∈ TB := tb_of 383 (by decide +kernel) rfl
theorem ml_X3_127 : Cond.methodLink RX3 127 yX2_letGoBy ∈ TB := tb_of 387 (by decide +kernel) rfl
theorem cn_X2_154 : Cond.constant RX2 154 (100000) ∈ TB := tb_of 391 (by decide +kernel) rfl
theorem ml_X2_155 : Cond.methodLink RX2 155 yX2_pass ∈ TB := tb_of 392 (by decide +kernel) rfl
theorem ml_X2_158 : Cond.methodLink RX2 158 yX2_present ∈ TB := tb_of 396 (by decide +kernel) rfl
theorem ml_X2_162 : Cond.methodLink RX2 162 yX2_isOver ∈ TB := tb_of 400 (by decide +kernel) rfl
theorem ml_L_62 : Cond.methodLink "RumorTombsLaw" 62 yX3_newest ∈ TB := tb_of 404 (by decide +kernel) rfl
theorem ml_X3_130 : Cond.methodLink RX3 130 yX2_holdersOfNewest ∈ TB := tb_of 408 (by decide +kernel) rfl
theorem ml_L_66 : Cond.methodLink "RumorTombsLaw" 66 yX3_unlike ∈ TB := tb_of 412 (by decide +kernel) rfl
theorem ml_X3_133 : Cond.methodLink RX3 133 yX2_unlikeTopics ∈ TB := tb_of 416 (by decide +kernel) rfl
theorem ml_L_70 : Cond.methodLink "RumorTombsLaw" 70 yX3_dead ∈ TB := tb_of 420 (by decide +kernel) rfl
theorem ml_X3_136 : Cond.methodLink RX3 136 yX2_deadTopics ∈ TB := tb_of 424 (by decide +kernel) rfl
theorem ml_X2_98 : Cond.methodLink RX2 98 yX2_isDead ∈ TB := tb_of 428 (by decide +kernel) rfl
theorem ml_L_74 : Cond.methodLink "RumorTombsLaw" 74 yX3_ghosts ∈ TB := tb_of 429 (by decide +kernel) rfl
theorem ml_X3_139 : Cond.methodLink RX3 139 yX2_areTwo ∈ TB := tb_of 433 (by decide +kernel) rfl
theorem cn_X3_142 : Cond.constant RX3 142 (-1000002) ∈ TB := tb_of 434 (by decide +kernel) rfl
theorem ml_X3_143 : Cond.methodLink RX3 143 yX2_copyFrom ∈ TB := tb_of 435 (by decide +kernel) rfl
theorem ml_X3_146 : Cond.methodLink RX3 146 yX2_pass ∈ TB := tb_of 436 (by decide +kernel) rfl
theorem ml_X3_149 : Cond.methodLink RX3 149 yX2_talk ∈ TB := tb_of 437 (by decide +kernel) rfl
theorem ml_X3_152 : Cond.methodLink RX3 152 yX2_allGhosts ∈ TB := tb_of 438 (by decide +kernel) rfl
theorem ml_L_78 : Cond.methodLink "RumorTombsLaw" 78 yX3_bestMeeting ∈ TB := tb_of 442 (by decide +kernel) rfl
theorem ml_X3_155 : Cond.methodLink RX3 155 yX2_isAwake ∈ TB := tb_of 446 (by decide +kernel) rfl
theorem ml_X3_158 : Cond.methodLink RX3 158 yX2_wouldPass ∈ TB := tb_of 447 (by decide +kernel) rfl
theorem ml_L_82 : Cond.methodLink "RumorTombsLaw" 82 yX3_rounds ∈ TB := tb_of 451 (by decide +kernel) rfl
theorem ml_X3_161 : Cond.methodLink RX3 161 yX2_awakeAreAlike ∈ TB := tb_of 455 (by decide +kernel) rfl
theorem ml_X2_151 : Cond.methodLink RX2 151 yX2_unlikeTopics ∈ TB := tb_of 459 (by decide +kernel) rfl
theorem ml_X3_165 : Cond.methodLink RX3 165 yX2_meetInTurn ∈ TB := tb_of 460 (by decide +kernel) rfl
theorem ml_L_86 : Cond.methodLink "RumorTombsLaw" 86 yX3_count ∈ TB := tb_of 464 (by decide +kernel) rfl
theorem ml_X3_172 : Cond.methodLink RX3 172 yX2_howMany ∈ TB := tb_of 468 (by decide +kernel) rfl
theorem ml_X3_181 : Cond.methodLink RX3 181 yX2_allRumors ∈ TB := tb_of 469 (by decide +kernel) rfl
theorem ml_X2_102 : Cond.methodLink RX2 102 yX2_rumorTopics ∈ TB := tb_of 473 (by decide +kernel) rfl
theorem ml_X2_105 : Cond.methodLink RX2 105 yJ6_bitCount_0f7a4 ∈ TB := tb_of 474 (by decide +kernel) rfl
theorem cn_J6_265 : Cond.constant RJ6 265 (1431655765) ∈ TB := tb_of 477 (by decide +kernel) rfl
theorem cn_J6_266 : Cond.constant RJ6 266 (858993459) ∈ TB := tb_of 478 (by decide +kernel) rfl
theorem cn_J6_267 : Cond.constant RJ6 267 (252645135) ∈ TB := tb_of 479 (by decide +kernel) rfl
theorem ml_X3_184 : Cond.methodLink RX3 184 yX2_allTombs ∈ TB := tb_of 480 (by decide +kernel) rfl
theorem ml_X2_110 : Cond.methodLink RX2 110 yX2_tombTopics ∈ TB := tb_of 484 (by decide +kernel) rfl
theorem ml_X3_187 : Cond.methodLink RX3 187 yX2_allDead ∈ TB := tb_of 485 (by decide +kernel) rfl
theorem ml_X2_113 : Cond.methodLink RX2 113 yX2_deadTopics ∈ TB := tb_of 489 (by decide +kernel) rfl
theorem ml_L_90 : Cond.methodLink "RumorTombsLaw" 90 yX3_undo ∈ TB := tb_of 490 (by decide +kernel) rfl
theorem ml_X3_199 : Cond.methodLink RX3 199 yX0_restore ∈ TB := tb_of 494 (by decide +kernel) rfl
theorem ml_L_94 : Cond.methodLink "RumorTombsLaw" 94 yX3_type ∈ TB := tb_of 498 (by decide +kernel) rfl
theorem ml_X3_202 : Cond.methodLink RX3 202 yX1_append ∈ TB := tb_of 502 (by decide +kernel) rfl
theorem cn_X3_206 : Cond.constant RX3 206 (-1000003) ∈ TB := tb_of 506 (by decide +kernel) rfl
theorem ml_L_98 : Cond.methodLink "RumorTombsLaw" 98 yX3_clearText ∈ TB := tb_of 507 (by decide +kernel) rfl
theorem ml_L_102 : Cond.methodLink "RumorTombsLaw" 102 yX3_fault ∈ TB := tb_of 511 (by decide +kernel) rfl
theorem ml_X3_207 : Cond.methodLink RX3 207 yX1_carryOut ∈ TB := tb_of 515 (by decide +kernel) rfl
theorem ml_X1_32 : Cond.methodLink RX1 32 yX1_tryOrder ∈ TB := tb_of 519 (by decide +kernel) rfl
theorem ml_X1_40 : Cond.methodLink RX1 40 yX1_readNumbers ∈ TB := tb_of 523 (by decide +kernel) rfl
theorem ml_X1_52 : Cond.methodLink RX1 52 yX1_numbersOf ∈ TB := tb_of 527 (by decide +kernel) rfl
theorem ml_X1_44 : Cond.methodLink RX1 44 yX1_namesExist ∈ TB := tb_of 530 (by decide +kernel) rfl
theorem ml_X1_56 : Cond.methodLink RX1 56 yX2_has ∈ TB := tb_of 534 (by decide +kernel) rfl
theorem mn_X1_62 : Cond.methodLinkNest RX1 62 yX3_isTopic "RumorTombs" ∈ NL := nl_of 535 (by decide +kernel) rfl
theorem ml_X1_48 : Cond.methodLink RX1 48 yX1_doOrder ∈ TB := tb_of 536 (by decide +kernel) rfl
theorem ml_X1_65 : Cond.methodLink RX1 65 yX2_makeRumor ∈ TB := tb_of 540 (by decide +kernel) rfl
theorem ml_X1_69 : Cond.methodLink RX1 69 yX2_makeTomb ∈ TB := tb_of 541 (by decide +kernel) rfl
theorem ml_X1_73 : Cond.methodLink RX1 73 yX2_bringTogether ∈ TB := tb_of 542 (by decide +kernel) rfl
theorem ml_X1_76 : Cond.methodLink RX1 76 yX2_fallAsleep ∈ TB := tb_of 543 (by decide +kernel) rfl
theorem ml_X1_80 : Cond.methodLink RX1 80 yX2_wakeUp ∈ TB := tb_of 544 (by decide +kernel) rfl
theorem ml_X1_83 : Cond.methodLink RX1 83 yX2_letGoBy ∈ TB := tb_of 545 (by decide +kernel) rfl
theorem ml_X1_36 : Cond.methodLink RX1 36 yX1_setFault ∈ TB := tb_of 546 (by decide +kernel) rfl
theorem ml_L_106 : Cond.methodLink "RumorTombsLaw" 106 yX3_play ∈ TB := tb_of 550 (by decide +kernel) rfl
theorem ml_L_12 : Cond.methodLink "RumorTombsLaw" 12 yX4_init ∈ TB := tb_of 556 (by decide +kernel) rfl
theorem ml_X4_1 : Cond.methodLink RX4 1 objectInit ∈ TB := tb_of 559 (by decide +kernel) rfl
theorem fl_X4_7 : Cond.fieldLink RX4 7 "RumorTombsModel" "s" "[I" ∈ TB := tb_of 560 (by decide +kernel) rfl
theorem fl_X4_13 : Cond.fieldLink RX4 13 "RumorTombsModel" "was" "[I" ∈ TB := tb_of 561 (by decide +kernel) rfl
theorem fl_X4_16 : Cond.fieldLink RX4 16 "RumorTombsModel" "begun" "[I" ∈ TB := tb_of 562 (by decide +kernel) rfl
theorem fl_X4_19 : Cond.fieldLink RX4 19 "RumorTombsModel" "aside" "[I" ∈ TB := tb_of 563 (by decide +kernel) rfl
theorem fl_X4_41 : Cond.fieldLink RX4 41 "RumorTombsModel" "states" "I" ∈ TB := tb_of 564 (by decide +kernel) rfl
theorem fl_X4_22 : Cond.fieldLink RX4 22 "RumorTombsModel" "text" "[C" ∈ TB := tb_of 565 (by decide +kernel) rfl
theorem fl_X4_154 : Cond.fieldLink RX4 154 "RumorTombsModel" "typed" "I" ∈ TB := tb_of 566 (by decide +kernel) rfl
theorem fl_X4_157 : Cond.fieldLink RX4 157 "RumorTombsModel" "at" "I" ∈ TB := tb_of 567 (by decide +kernel) rfl
theorem fl_X4_180 : Cond.fieldLink RX4 180 "RumorTombsModel" "reason" "I" ∈ TB := tb_of 568 (by decide +kernel) rfl
theorem fl_X4_26 : Cond.fieldLink RX4 26 "RumorTombsModel" "got" "[I" ∈ TB := tb_of 569 (by decide +kernel) rfl
theorem ml_L_17 : Cond.methodLink "RumorTombsLaw" 17 yX4_villager ∈ TB := tb_of 591 (by decide +kernel) rfl
theorem cn_X4_45 : Cond.constant RX4 45 (-1000003) ∈ TB := tb_of 595 (by decide +kernel) rfl
theorem ml_X4_46 : Cond.methodLink RX4 46 yX4_keeps ∈ TB := tb_of 596 (by decide +kernel) rfl
theorem ml_X4_49 : Cond.methodLink RX4 49 yX4_acted ∈ TB := tb_of 600 (by decide +kernel) rfl
theorem cn_X4_40 : Cond.constant RX4 40 (-1000001) ∈ TB := tb_of 604 (by decide +kernel) rfl
theorem ml_L_22 : Cond.methodLink "RumorTombsLaw" 22 yX4_sleep ∈ TB := tb_of 605 (by decide +kernel) rfl
theorem ml_X4_64 : Cond.methodLink RX4 64 yX4_sleeps ∈ TB := tb_of 609 (by decide +kernel) rfl
theorem ml_X4_53 : Cond.methodLink RX4 53 yX4_isVillager ∈ TB := tb_of 613 (by decide +kernel) rfl
theorem ml_X4_33 : Cond.methodLink RX4 33 yX4_in ∈ TB := tb_of 617 (by decide +kernel) rfl
theorem ml_X4_57 : Cond.methodLink RX4 57 yX4_isAwake ∈ TB := tb_of 620 (by decide +kernel) rfl
theorem ml_X4_37 : Cond.methodLink RX4 37 yX4_vi ∈ TB := tb_of 624 (by decide +kernel) rfl
theorem cn_X4_60 : Cond.constant RX4 60 (-1000002) ∈ TB := tb_of 628 (by decide +kernel) rfl
theorem ml_X4_61 : Cond.methodLink RX4 61 yX4_many ∈ TB := tb_of 629 (by decide +kernel) rfl
theorem ml_L_26 : Cond.methodLink "RumorTombsLaw" 26 yX4_wake ∈ TB := tb_of 633 (by decide +kernel) rfl
theorem ml_X4_67 : Cond.methodLink RX4 67 yX4_wakes ∈ TB := tb_of 637 (by decide +kernel) rfl
theorem ml_L_30 : Cond.methodLink "RumorTombsLaw" 30 yX4_leave ∈ TB := tb_of 641 (by decide +kernel) rfl
theorem ml_X4_70 : Cond.methodLink RX4 70 yX4_isGone ∈ TB := tb_of 645 (by decide +kernel) rfl
theorem ml_X4_29 : Cond.methodLink RX4 29 yX4_place ∈ TB := tb_of 649 (by decide +kernel) rfl
theorem ml_L_34 : Cond.methodLink "RumorTombsLaw" 34 yX4_watch ∈ TB := tb_of 652 (by decide +kernel) rfl
theorem ml_L_39 : Cond.methodLink "RumorTombsLaw" 39 yX4_villagerOf ∈ TB := tb_of 656 (by decide +kernel) rfl
theorem ml_X4_77 : Cond.methodLink RX4 77 yX4_topics ∈ TB := tb_of 660 (by decide +kernel) rfl
theorem ml_X4_73 : Cond.methodLink RX4 73 yX4_en ∈ TB := tb_of 664 (by decide +kernel) rfl
theorem cn_X4_80 : Cond.constant RX4 80 (-1000004) ∈ TB := tb_of 668 (by decide +kernel) rfl
theorem ml_L_44 : Cond.methodLink "RumorTombsLaw" 44 yX4_tell ∈ TB := tb_of 669 (by decide +kernel) rfl
theorem ml_X4_95 : Cond.methodLink RX4 95 yX4_tells ∈ TB := tb_of 673 (by decide +kernel) rfl
theorem ml_X4_88 : Cond.methodLink RX4 88 yX4_isTopic ∈ TB := tb_of 677 (by decide +kernel) rfl
theorem ml_X4_91 : Cond.methodLink RX4 91 yX4_makes ∈ TB := tb_of 680 (by decide +kernel) rfl
theorem ml_L_48 : Cond.methodLink "RumorTombsLaw" 48 yX4_bury ∈ TB := tb_of 684 (by decide +kernel) rfl
theorem ml_X4_99 : Cond.methodLink RX4 99 yX4_buries ∈ TB := tb_of 688 (by decide +kernel) rfl
theorem ml_X4_81 : Cond.methodLink RX4 81 yX4_isNewer ∈ TB := tb_of 692 (by decide +kernel) rfl
theorem ml_L_52 : Cond.methodLink "RumorTombsLaw" 52 yX4_meet ∈ TB := tb_of 695 (by decide +kernel) rfl
theorem ml_X4_117 : Cond.methodLink RX4 117 yX4_meetsOne ∈ TB := tb_of 699 (by decide +kernel) rfl
theorem ml_X4_114 : Cond.methodLink RX4 114 yX4_meets ∈ TB := tb_of 703 (by decide +kernel) rfl
theorem ml_X4_108 : Cond.methodLink RX4 108 yX4_passes ∈ TB := tb_of 707 (by decide +kernel) rfl
theorem ml_X4_85 : Cond.methodLink RX4 85 yX4_hasNewer ∈ TB := tb_of 711 (by decide +kernel) rfl
theorem ml_X4_102 : Cond.methodLink RX4 102 yX4_mayPass ∈ TB := tb_of 715 (by decide +kernel) rfl
theorem ml_X4_105 : Cond.methodLink RX4 105 yX4_isGhost ∈ TB := tb_of 719 (by decide +kernel) rfl
theorem ml_X4_111 : Cond.methodLink RX4 111 yX4_areSame ∈ TB := tb_of 723 (by decide +kernel) rfl
theorem ml_L_57 : Cond.methodLink "RumorTombsLaw" 57 yX4_entryOf ∈ TB := tb_of 727 (by decide +kernel) rfl
theorem ml_X4_120 : Cond.methodLink RX4 120 yX4_isDead ∈ TB := tb_of 731 (by decide +kernel) rfl
theorem ml_L_61 : Cond.methodLink "RumorTombsLaw" 61 yX4_tick ∈ TB := tb_of 735 (by decide +kernel) rfl
theorem ml_X4_132 : Cond.methodLink RX4 132 yX4_ticks ∈ TB := tb_of 739 (by decide +kernel) rfl
theorem cn_X4_127 : Cond.constant RX4 127 (100000) ∈ TB := tb_of 743 (by decide +kernel) rfl
theorem ml_X4_128 : Cond.methodLink RX4 128 yX4_tickOne ∈ TB := tb_of 744 (by decide +kernel) rfl
theorem ml_X4_124 : Cond.methodLink RX4 124 yX4_drops ∈ TB := tb_of 748 (by decide +kernel) rfl
theorem ml_L_65 : Cond.methodLink "RumorTombsLaw" 65 yX4_newest ∈ TB := tb_of 752 (by decide +kernel) rfl
theorem ml_L_69 : Cond.methodLink "RumorTombsLaw" 69 yX4_unlike ∈ TB := tb_of 756 (by decide +kernel) rfl
theorem ml_L_73 : Cond.methodLink "RumorTombsLaw" 73 yX4_dead ∈ TB := tb_of 760 (by decide +kernel) rfl
theorem ml_L_77 : Cond.methodLink "RumorTombsLaw" 77 yX4_ghosts ∈ TB := tb_of 764 (by decide +kernel) rfl
theorem ml_X4_135 : Cond.methodLink RX4 135 yX4_puts ∈ TB := tb_of 768 (by decide +kernel) rfl
theorem ml_X4_138 : Cond.methodLink RX4 138 yX4_restores ∈ TB := tb_of 772 (by decide +kernel) rfl
theorem ml_L_81 : Cond.methodLink "RumorTombsLaw" 81 yX4_bestMeeting ∈ TB := tb_of 776 (by decide +kernel) rfl
theorem ml_L_85 : Cond.methodLink "RumorTombsLaw" 85 yX4_rounds ∈ TB := tb_of 780 (by decide +kernel) rfl
theorem ml_X4_144 : Cond.methodLink RX4 144 yX4_areAllSame ∈ TB := tb_of 784 (by decide +kernel) rfl
theorem ml_X4_141 : Cond.methodLink RX4 141 yX4_awakeBehind ∈ TB := tb_of 788 (by decide +kernel) rfl
theorem ml_X4_148 : Cond.methodLink RX4 148 yX4_round ∈ TB := tb_of 792 (by decide +kernel) rfl
theorem ml_L_89 : Cond.methodLink "RumorTombsLaw" 89 yX4_count ∈ TB := tb_of 796 (by decide +kernel) rfl
theorem ml_X4_151 : Cond.methodLink RX4 151 yX4_entries ∈ TB := tb_of 800 (by decide +kernel) rfl
theorem ml_L_93 : Cond.methodLink "RumorTombsLaw" 93 yX4_undo ∈ TB := tb_of 804 (by decide +kernel) rfl
theorem ml_L_97 : Cond.methodLink "RumorTombsLaw" 97 yX4_type ∈ TB := tb_of 808 (by decide +kernel) rfl
theorem ml_L_101 : Cond.methodLink "RumorTombsLaw" 101 yX4_clearText ∈ TB := tb_of 812 (by decide +kernel) rfl
theorem ml_L_105 : Cond.methodLink "RumorTombsLaw" 105 yX4_fault ∈ TB := tb_of 816 (by decide +kernel) rfl
theorem ml_X4_183 : Cond.methodLink RX4 183 yX4_faulty ∈ TB := tb_of 820 (by decide +kernel) rfl
theorem ml_X4_177 : Cond.methodLink RX4 177 yX4_doesNext ∈ TB := tb_of 824 (by decide +kernel) rfl
theorem ml_X4_167 : Cond.methodLink RX4 167 yX4_readsForm ∈ TB := tb_of 828 (by decide +kernel) rfl
theorem ml_X4_160 : Cond.methodLink RX4 160 yX4_number ∈ TB := tb_of 832 (by decide +kernel) rfl
theorem ml_X4_163 : Cond.methodLink RX4 163 yX4_has ∈ TB := tb_of 836 (by decide +kernel) rfl
theorem ml_X4_170 : Cond.methodLink RX4 170 yX4_isThere ∈ TB := tb_of 840 (by decide +kernel) rfl
theorem ml_X4_173 : Cond.methodLink RX4 173 yX4_does ∈ TB := tb_of 844 (by decide +kernel) rfl
theorem ml_L_109 : Cond.methodLink "RumorTombsLaw" 109 yX4_play ∈ TB := tb_of 848 (by decide +kernel) rfl
set_option maxRecDepth 20000 in
theorem mi_X3_villager : MI yX3_villager cX3_villager 1 (some .int) 0 := ⟨tb_of 194 (by decide +kernel) rfl, tb_of 195 (by decide +kernel) rfl, ini_X3, tb_of 196 (by exact rfl) rfl, ⟨by decide +kernel, by decide +kernel, by decide +kernel⟩, by decide +kernel⟩
set_option maxRecDepth 20000 in
theorem mi_X0_prepare : MI yX0_prepare cX0_prepare 2 none 1 := ⟨tb_of 198 (by decide +kernel) rfl, tb_of 199 (by decide +kernel) rfl, ini_X0, tb_of 200 (by exact rfl) rfl, ⟨by decide +kernel, by decide +kernel, by decide +kernel⟩, by decide +kernel⟩
set_option maxRecDepth 20000 in
theorem mi_X2_copyFrom : MI yX2_copyFrom cX2_copyFrom 2 none 1 := ⟨tb_of 202 (by decide +kernel) rfl, tb_of 203 (by decide +kernel) rfl, ini_X2, tb_of 204 (by exact rfl) rfl, ⟨by decide +kernel, by decide +kernel, by decide +kernel⟩, by decide +kernel⟩
set_option maxRecDepth 20000 in
theorem mi_X2_copyRow : MS yX2_copyRow cX2_copyRow 3 none 3 := ⟨tb_of 206 (by decide +kernel) rfl, ini_X2, tb_of 207 (by exact rfl) rfl, ⟨by decide +kernel, by decide +kernel, by decide +kernel⟩, by decide +kernel⟩
set_option maxRecDepth 20000 in
theorem mi_X2_addVillager : MI yX2_addVillager cX2_addVillager 1 (some .int) 0 := ⟨tb_of 212 (by decide +kernel) rfl, tb_of 213 (by decide +kernel) rfl, ini_X2, tb_of 214 (by exact rfl) rfl, ⟨by decide +kernel, by decide +kernel, by decide +kernel⟩, by decide +kernel⟩
set_option maxRecDepth 20000 in
theorem mi_X3_recorded : MI yX3_recorded cX3_recorded 2 (some .int) 1 := ⟨tb_of 218 (by decide +kernel) rfl, tb_of 0 (by decide +kernel) rfl, ini_X3, tb_of 219 (by exact rfl) rfl, ⟨by decide +kernel, by decide +kernel, by decide +kernel⟩, by decide +kernel⟩
set_option maxRecDepth 20000 in
theorem mi_X0_keep : MI yX0_keep cX0_keep 1 none 0 := ⟨tb_of 221 (by decide +kernel) rfl, tb_of 222 (by decide +kernel) rfl, ini_X0, tb_of 223 (by exact rfl) rfl, ⟨by decide +kernel, by decide +kernel, by decide +kernel⟩, by decide +kernel⟩
set_option maxRecDepth 20000 in
theorem mi_X0_dropOldest : MI yX0_dropOldest cX0_dropOldest 3 none 0 := ⟨tb_of 226 (by decide +kernel) rfl, tb_of 1 (by decide +kernel) rfl, ini_X0, tb_of 227 (by exact rfl) rfl, ⟨by decide +kernel, by decide +kernel, by decide +kernel⟩, by decide +kernel⟩
set_option maxRecDepth 20000 in
theorem mi_X3_sleep : MI yX3_sleep cX3_sleep 2 (some .int) 1 := ⟨tb_of 229 (by decide +kernel) rfl, tb_of 230 (by decide +kernel) rfl, ini_X3, tb_of 231 (by exact rfl) rfl, ⟨by decide +kernel, by decide +kernel, by decide +kernel⟩, by decide +kernel⟩
set_option maxRecDepth 20000 in
theorem mi_X2_fallAsleep : MI yX2_fallAsleep cX2_fallAsleep 2 (some .int) 1 := ⟨tb_of 233 (by decide +kernel) rfl, tb_of 234 (by decide +kernel) rfl, ini_X2, tb_of 235 (by exact rfl) rfl, ⟨by decide +kernel, by decide +kernel, by decide +kernel⟩, by decide +kernel⟩
set_option maxRecDepth 20000 in
theorem mi_X2_has : MI yX2_has cX2_has 2 (some .boolean) 1 := ⟨tb_of 237 (by decide +kernel) rfl, tb_of 238 (by decide +kernel) rfl, ini_X2, tb_of 239 (by exact rfl) rfl, ⟨by decide +kernel, by decide +kernel, by decide +kernel⟩, by decide +kernel⟩
set_option maxRecDepth 20000 in
theorem mi_X2_isAwake : MI yX2_isAwake cX2_isAwake 2 (some .boolean) 1 := ⟨tb_of 242 (by decide +kernel) rfl, tb_of 243 (by decide +kernel) rfl, ini_X2, tb_of 244 (by exact rfl) rfl, ⟨by decide +kernel, by decide +kernel, by decide +kernel⟩, by decide +kernel⟩
set_option maxRecDepth 20000 in
theorem mi_X2_howMany : MI yX2_howMany cX2_howMany 4 (some .int) 1 := ⟨tb_of 247 (by decide +kernel) rfl, tb_of 248 (by decide +kernel) rfl, ini_X2, tb_of 249 (by exact rfl) rfl, ⟨by decide +kernel, by decide +kernel, by decide +kernel⟩, by decide +kernel⟩
set_option maxRecDepth 20000 in
theorem mi_X3_wake : MI yX3_wake cX3_wake 2 (some .int) 1 := ⟨tb_of 251 (by decide +kernel) rfl, tb_of 252 (by decide +kernel) rfl, ini_X3, tb_of 253 (by exact rfl) rfl, ⟨by decide +kernel, by decide +kernel, by decide +kernel⟩, by decide +kernel⟩
set_option maxRecDepth 20000 in
theorem mi_X2_wakeUp : MI yX2_wakeUp cX2_wakeUp 2 (some .int) 1 := ⟨tb_of 255 (by decide +kernel) rfl, tb_of 256 (by decide +kernel) rfl, ini_X2, tb_of 257 (by exact rfl) rfl, ⟨by decide +kernel, by decide +kernel, by decide +kernel⟩, by decide +kernel⟩
set_option maxRecDepth 20000 in
theorem mi_X2_isAsleep : MI yX2_isAsleep cX2_isAsleep 2 (some .boolean) 1 := ⟨tb_of 259 (by decide +kernel) rfl, tb_of 260 (by decide +kernel) rfl, ini_X2, tb_of 261 (by exact rfl) rfl, ⟨by decide +kernel, by decide +kernel, by decide +kernel⟩, by decide +kernel⟩
set_option maxRecDepth 20000 in
theorem mi_X2_ticksAsleep : MI yX2_ticksAsleep cX2_ticksAsleep 2 (some .int) 1 := ⟨tb_of 263 (by decide +kernel) rfl, tb_of 264 (by decide +kernel) rfl, ini_X2, tb_of 265 (by exact rfl) rfl, ⟨by decide +kernel, by decide +kernel, by decide +kernel⟩, by decide +kernel⟩
set_option maxRecDepth 20000 in
theorem mi_X3_leave : MI yX3_leave cX3_leave 2 (some .int) 1 := ⟨tb_of 267 (by decide +kernel) rfl, tb_of 268 (by decide +kernel) rfl, ini_X3, tb_of 269 (by exact rfl) rfl, ⟨by decide +kernel, by decide +kernel, by decide +kernel⟩, by decide +kernel⟩
set_option maxRecDepth 20000 in
theorem mi_X2_goAway : MI yX2_goAway cX2_goAway 3 (some .int) 1 := ⟨tb_of 271 (by decide +kernel) rfl, tb_of 272 (by decide +kernel) rfl, ini_X2, tb_of 273 (by exact rfl) rfl, ⟨by decide +kernel, by decide +kernel, by decide +kernel⟩, by decide +kernel⟩
set_option maxRecDepth 20000 in
theorem mi_X3_place : MS yX3_place cX3_place 2 (some .int) 2 := ⟨tb_of 275 (by decide +kernel) rfl, ini_X3, tb_of 276 (by exact rfl) rfl, ⟨by decide +kernel, by decide +kernel, by decide +kernel⟩, by decide +kernel⟩
set_option maxRecDepth 20000 in
theorem mi_X3_watch : MI yX3_watch cX3_watch 2 (some .int) 1 := ⟨tb_of 278 (by decide +kernel) rfl, tb_of 279 (by decide +kernel) rfl, ini_X3, tb_of 280 (by exact rfl) rfl, ⟨by decide +kernel, by decide +kernel, by decide +kernel⟩, by decide +kernel⟩
set_option maxRecDepth 20000 in
theorem mi_X2_changeWatch : MI yX2_changeWatch cX2_changeWatch 3 (some .int) 1 := ⟨tb_of 282 (by decide +kernel) rfl, tb_of 283 (by decide +kernel) rfl, ini_X2, tb_of 284 (by exact rfl) rfl, ⟨by decide +kernel, by decide +kernel, by decide +kernel⟩, by decide +kernel⟩
set_option maxRecDepth 20000 in
theorem mi_X3_villagerOf : MI yX3_villagerOf cX3_villagerOf 3 (some .int) 2 := ⟨tb_of 286 (by decide +kernel) rfl, tb_of 287 (by decide +kernel) rfl, ini_X3, tb_of 288 (by exact rfl) rfl, ⟨by decide +kernel, by decide +kernel, by decide +kernel⟩, by decide +kernel⟩
set_option maxRecDepth 20000 in
theorem mi_X2_rumorTopics : MI yX2_rumorTopics cX2_rumorTopics 4 (some .int) 1 := ⟨tb_of 292 (by decide +kernel) rfl, tb_of 293 (by decide +kernel) rfl, ini_X2, tb_of 294 (by exact rfl) rfl, ⟨by decide +kernel, by decide +kernel, by decide +kernel⟩, by decide +kernel⟩
set_option maxRecDepth 20000 in
theorem mi_X2_isRumor : MI yX2_isRumor cX2_isRumor 2 (some .boolean) 1 := ⟨tb_of 296 (by decide +kernel) rfl, tb_of 297 (by decide +kernel) rfl, ini_X2, tb_of 298 (by exact rfl) rfl, ⟨by decide +kernel, by decide +kernel, by decide +kernel⟩, by decide +kernel⟩
set_option maxRecDepth 20000 in
theorem mi_X2_tombTopics : MI yX2_tombTopics cX2_tombTopics 4 (some .int) 1 := ⟨tb_of 300 (by decide +kernel) rfl, tb_of 301 (by decide +kernel) rfl, ini_X2, tb_of 302 (by exact rfl) rfl, ⟨by decide +kernel, by decide +kernel, by decide +kernel⟩, by decide +kernel⟩
set_option maxRecDepth 20000 in
theorem mi_X2_isTomb : MI yX2_isTomb cX2_isTomb 2 (some .boolean) 1 := ⟨tb_of 304 (by decide +kernel) rfl, tb_of 305 (by decide +kernel) rfl, ini_X2, tb_of 306 (by exact rfl) rfl, ⟨by decide +kernel, by decide +kernel, by decide +kernel⟩, by decide +kernel⟩
set_option maxRecDepth 20000 in
theorem mi_X3_tell : MI yX3_tell cX3_tell 5 (some .int) 4 := ⟨tb_of 311 (by decide +kernel) rfl, tb_of 312 (by decide +kernel) rfl, ini_X3, tb_of 313 (by exact rfl) rfl, ⟨by decide +kernel, by decide +kernel, by decide +kernel⟩, by decide +kernel⟩
set_option maxRecDepth 20000 in
theorem mi_X2_makeRumor : MI yX2_makeRumor cX2_makeRumor 6 (some .int) 4 := ⟨tb_of 315 (by decide +kernel) rfl, tb_of 316 (by decide +kernel) rfl, ini_X2, tb_of 317 (by exact rfl) rfl, ⟨by decide +kernel, by decide +kernel, by decide +kernel⟩, by decide +kernel⟩
set_option maxRecDepth 20000 in
theorem mi_X3_isTopic : MS yX3_isTopic cX3_isTopic 1 (some .boolean) 1 := ⟨tb_of 319 (by decide +kernel) rfl, ini_X3, tb_of 320 (by exact rfl) rfl, ⟨by decide +kernel, by decide +kernel, by decide +kernel⟩, by decide +kernel⟩
set_option maxRecDepth 20000 in
theorem mi_X2_write : MI yX2_write cX2_write 4 none 3 := ⟨tb_of 323 (by decide +kernel) rfl, tb_of 2 (by decide +kernel) rfl, ini_X2, tb_of 324 (by exact rfl) rfl, ⟨by decide +kernel, by decide +kernel, by decide +kernel⟩, by decide +kernel⟩
set_option maxRecDepth 20000 in
theorem mi_X3_bury : MI yX3_bury cX3_bury 3 (some .int) 2 := ⟨tb_of 326 (by decide +kernel) rfl, tb_of 327 (by decide +kernel) rfl, ini_X3, tb_of 328 (by exact rfl) rfl, ⟨by decide +kernel, by decide +kernel, by decide +kernel⟩, by decide +kernel⟩
set_option maxRecDepth 20000 in
theorem mi_X2_makeTomb : MI yX2_makeTomb cX2_makeTomb 4 (some .int) 2 := ⟨tb_of 330 (by decide +kernel) rfl, tb_of 331 (by decide +kernel) rfl, ini_X2, tb_of 332 (by exact rfl) rfl, ⟨by decide +kernel, by decide +kernel, by decide +kernel⟩, by decide +kernel⟩
set_option maxRecDepth 20000 in
theorem mi_X3_meet : MI yX3_meet cX3_meet 3 (some .int) 2 := ⟨tb_of 337 (by decide +kernel) rfl, tb_of 338 (by decide +kernel) rfl, ini_X3, tb_of 339 (by exact rfl) rfl, ⟨by decide +kernel, by decide +kernel, by decide +kernel⟩, by decide +kernel⟩
set_option maxRecDepth 20000 in
theorem mi_X2_bringTogether : MI yX2_bringTogether cX2_bringTogether 3 (some .int) 2 := ⟨tb_of 341 (by decide +kernel) rfl, tb_of 342 (by decide +kernel) rfl, ini_X2, tb_of 343 (by exact rfl) rfl, ⟨by decide +kernel, by decide +kernel, by decide +kernel⟩, by decide +kernel⟩
set_option maxRecDepth 20000 in
theorem mi_X2_areTwo : MI yX2_areTwo cX2_areTwo 3 (some .boolean) 2 := ⟨tb_of 345 (by decide +kernel) rfl, tb_of 346 (by decide +kernel) rfl, ini_X2, tb_of 347 (by exact rfl) rfl, ⟨by decide +kernel, by decide +kernel, by decide +kernel⟩, by decide +kernel⟩
set_option maxRecDepth 20000 in
theorem mi_X2_talk : MI yX2_talk cX2_talk 7 (some .int) 2 := ⟨tb_of 349 (by decide +kernel) rfl, tb_of 350 (by decide +kernel) rfl, ini_X2, tb_of 351 (by exact rfl) rfl, ⟨by decide +kernel, by decide +kernel, by decide +kernel⟩, by decide +kernel⟩
set_option maxRecDepth 20000 in
theorem mi_X2_giver : MI yX2_giver cX2_giver 9 (some .int) 3 := ⟨tb_of 354 (by decide +kernel) rfl, tb_of 3 (by decide +kernel) rfl, ini_X2, tb_of 355 (by exact rfl) rfl, ⟨by decide +kernel, by decide +kernel, by decide +kernel⟩, by decide +kernel⟩
set_option maxRecDepth 20000 in
theorem mi_X2_author : MI yX2_author cX2_author 2 (some .int) 1 := ⟨tb_of 357 (by decide +kernel) rfl, tb_of 358 (by decide +kernel) rfl, ini_X2, tb_of 359 (by exact rfl) rfl, ⟨by decide +kernel, by decide +kernel, by decide +kernel⟩, by decide +kernel⟩
set_option maxRecDepth 20000 in
theorem mi_X2_mayBeHanded : MS yX2_mayBeHanded cX2_mayBeHanded 3 (some .boolean) 3 := ⟨tb_of 361 (by decide +kernel) rfl, ini_X2, tb_of 362 (by exact rfl) rfl, ⟨by decide +kernel, by decide +kernel, by decide +kernel⟩, by decide +kernel⟩
set_option maxRecDepth 20000 in
theorem mi_X2_hand : MI yX2_hand cX2_hand 6 none 3 := ⟨tb_of 365 (by decide +kernel) rfl, tb_of 4 (by decide +kernel) rfl, ini_X2, tb_of 366 (by exact rfl) rfl, ⟨by decide +kernel, by decide +kernel, by decide +kernel⟩, by decide +kernel⟩
set_option maxRecDepth 20000 in
theorem mi_X2_shareSight : MI yX2_shareSight cX2_shareSight 7 none 3 := ⟨tb_of 369 (by decide +kernel) rfl, tb_of 5 (by decide +kernel) rfl, ini_X2, tb_of 370 (by exact rfl) rfl, ⟨by decide +kernel, by decide +kernel, by decide +kernel⟩, by decide +kernel⟩
set_option maxRecDepth 20000 in
theorem mi_X3_entryOf : MI yX3_entryOf cX3_entryOf 6 (some .int) 3 := ⟨tb_of 372 (by decide +kernel) rfl, tb_of 373 (by decide +kernel) rfl, ini_X3, tb_of 374 (by exact rfl) rfl, ⟨by decide +kernel, by decide +kernel, by decide +kernel⟩, by decide +kernel⟩
set_option maxRecDepth 20000 in
theorem mi_X2_isDead : MI yX2_isDead cX2_isDead 4 (some .boolean) 2 := ⟨tb_of 380 (by decide +kernel) rfl, tb_of 381 (by decide +kernel) rfl, ini_X2, tb_of 382 (by exact rfl) rfl, ⟨by decide +kernel, by decide +kernel, by decide +kernel⟩, by decide +kernel⟩
set_option maxRecDepth 20000 in
theorem mi_X3_tick : MI yX3_tick cX3_tick 2 (some .int) 1 := ⟨tb_of 384 (by decide +kernel) rfl, tb_of 385 (by decide +kernel) rfl, ini_X3, tb_of 386 (by exact rfl) rfl, ⟨by decide +kernel, by decide +kernel, by decide +kernel⟩, by decide +kernel⟩
set_option maxRecDepth 20000 in
theorem mi_X2_letGoBy : MI yX2_letGoBy cX2_letGoBy 2 (some .int) 1 := ⟨tb_of 388 (by decide +kernel) rfl, tb_of 389 (by decide +kernel) rfl, ini_X2, tb_of 390 (by exact rfl) rfl, ⟨by decide +kernel, by decide +kernel, by decide +kernel⟩, by decide +kernel⟩
set_option maxRecDepth 20000 in
theorem mi_X2_pass : MI yX2_pass cX2_pass 7 (some .int) 1 := ⟨tb_of 393 (by decide +kernel) rfl, tb_of 394 (by decide +kernel) rfl, ini_X2, tb_of 395 (by exact rfl) rfl, ⟨by decide +kernel, by decide +kernel, by decide +kernel⟩, by decide +kernel⟩
set_option maxRecDepth 20000 in
theorem mi_X2_present : MI yX2_present cX2_present 3 (some .int) 0 := ⟨tb_of 398 (by decide +kernel) rfl, tb_of 6 (by decide +kernel) rfl, ini_X2, tb_of 399 (by exact rfl) rfl, ⟨by decide +kernel, by decide +kernel, by decide +kernel⟩, by decide +kernel⟩
set_option maxRecDepth 20000 in
theorem mi_X2_isOver : MI yX2_isOver cX2_isOver 3 (some .boolean) 2 := ⟨tb_of 402 (by decide +kernel) rfl, tb_of 7 (by decide +kernel) rfl, ini_X2, tb_of 403 (by exact rfl) rfl, ⟨by decide +kernel, by decide +kernel, by decide +kernel⟩, by decide +kernel⟩
set_option maxRecDepth 20000 in
theorem mi_X3_newest : MI yX3_newest cX3_newest 3 (some .int) 1 := ⟨tb_of 405 (by decide +kernel) rfl, tb_of 406 (by decide +kernel) rfl, ini_X3, tb_of 407 (by exact rfl) rfl, ⟨by decide +kernel, by decide +kernel, by decide +kernel⟩, by decide +kernel⟩
set_option maxRecDepth 20000 in
theorem mi_X2_holdersOfNewest : MI yX2_holdersOfNewest cX2_holdersOfNewest 6 (some .int) 1 := ⟨tb_of 409 (by decide +kernel) rfl, tb_of 410 (by decide +kernel) rfl, ini_X2, tb_of 411 (by exact rfl) rfl, ⟨by decide +kernel, by decide +kernel, by decide +kernel⟩, by decide +kernel⟩
set_option maxRecDepth 20000 in
theorem mi_X3_unlike : MI yX3_unlike cX3_unlike 3 (some .int) 2 := ⟨tb_of 413 (by decide +kernel) rfl, tb_of 414 (by decide +kernel) rfl, ini_X3, tb_of 415 (by exact rfl) rfl, ⟨by decide +kernel, by decide +kernel, by decide +kernel⟩, by decide +kernel⟩
set_option maxRecDepth 20000 in
theorem mi_X2_unlikeTopics : MI yX2_unlikeTopics cX2_unlikeTopics 5 (some .int) 2 := ⟨tb_of 417 (by decide +kernel) rfl, tb_of 418 (by decide +kernel) rfl, ini_X2, tb_of 419 (by exact rfl) rfl, ⟨by decide +kernel, by decide +kernel, by decide +kernel⟩, by decide +kernel⟩
set_option maxRecDepth 20000 in
theorem mi_X3_dead : MI yX3_dead cX3_dead 2 (some .int) 1 := ⟨tb_of 421 (by decide +kernel) rfl, tb_of 422 (by decide +kernel) rfl, ini_X3, tb_of 423 (by exact rfl) rfl, ⟨by decide +kernel, by decide +kernel, by decide +kernel⟩, by decide +kernel⟩
set_option maxRecDepth 20000 in
theorem mi_X2_deadTopics : MI yX2_deadTopics cX2_deadTopics 4 (some .int) 1 := ⟨tb_of 425 (by decide +kernel) rfl, tb_of 426 (by decide +kernel) rfl, ini_X2, tb_of 427 (by exact rfl) rfl, ⟨by decide +kernel, by decide +kernel, by decide +kernel⟩, by decide +kernel⟩
set_option maxRecDepth 20000 in
theorem mi_X3_ghosts : MI yX3_ghosts cX3_ghosts 4 (some .int) 3 := ⟨tb_of 430 (by decide +kernel) rfl, tb_of 431 (by decide +kernel) rfl, ini_X3, tb_of 432 (by exact rfl) rfl, ⟨by decide +kernel, by decide +kernel, by decide +kernel⟩, by decide +kernel⟩
set_option maxRecDepth 20000 in
theorem mi_X2_allGhosts : MI yX2_allGhosts cX2_allGhosts 3 (some .int) 0 := ⟨tb_of 439 (by decide +kernel) rfl, tb_of 440 (by decide +kernel) rfl, ini_X2, tb_of 441 (by exact rfl) rfl, ⟨by decide +kernel, by decide +kernel, by decide +kernel⟩, by decide +kernel⟩
set_option maxRecDepth 20000 in
theorem mi_X3_bestMeeting : MI yX3_bestMeeting cX3_bestMeeting 7 (some .int) 1 := ⟨tb_of 443 (by decide +kernel) rfl, tb_of 444 (by decide +kernel) rfl, ini_X3, tb_of 445 (by exact rfl) rfl, ⟨by decide +kernel, by decide +kernel, by decide +kernel⟩, by decide +kernel⟩
set_option maxRecDepth 20000 in
theorem mi_X2_wouldPass : MI yX2_wouldPass cX2_wouldPass 5 (some .int) 2 := ⟨tb_of 448 (by decide +kernel) rfl, tb_of 449 (by decide +kernel) rfl, ini_X2, tb_of 450 (by exact rfl) rfl, ⟨by decide +kernel, by decide +kernel, by decide +kernel⟩, by decide +kernel⟩
set_option maxRecDepth 20000 in
theorem mi_X3_rounds : MI yX3_rounds cX3_rounds 2 (some .int) 0 := ⟨tb_of 452 (by decide +kernel) rfl, tb_of 453 (by decide +kernel) rfl, ini_X3, tb_of 454 (by exact rfl) rfl, ⟨by decide +kernel, by decide +kernel, by decide +kernel⟩, by decide +kernel⟩
set_option maxRecDepth 20000 in
theorem mi_X2_awakeAreAlike : MI yX2_awakeAreAlike cX2_awakeAreAlike 3 (some .boolean) 0 := ⟨tb_of 456 (by decide +kernel) rfl, tb_of 457 (by decide +kernel) rfl, ini_X2, tb_of 458 (by exact rfl) rfl, ⟨by decide +kernel, by decide +kernel, by decide +kernel⟩, by decide +kernel⟩
set_option maxRecDepth 20000 in
theorem mi_X2_meetInTurn : MI yX2_meetInTurn cX2_meetInTurn 4 none 0 := ⟨tb_of 461 (by decide +kernel) rfl, tb_of 462 (by decide +kernel) rfl, ini_X2, tb_of 463 (by exact rfl) rfl, ⟨by decide +kernel, by decide +kernel, by decide +kernel⟩, by decide +kernel⟩
set_option maxRecDepth 20000 in
theorem mi_X3_count : MI yX3_count cX3_count 2 (some .int) 1 := ⟨tb_of 465 (by decide +kernel) rfl, tb_of 466 (by decide +kernel) rfl, ini_X3, tb_of 467 (by exact rfl) rfl, ⟨by decide +kernel, by decide +kernel, by decide +kernel⟩, by decide +kernel⟩
set_option maxRecDepth 20000 in
theorem mi_X2_allRumors : MI yX2_allRumors cX2_allRumors 3 (some .int) 0 := ⟨tb_of 470 (by decide +kernel) rfl, tb_of 471 (by decide +kernel) rfl, ini_X2, tb_of 472 (by exact rfl) rfl, ⟨by decide +kernel, by decide +kernel, by decide +kernel⟩, by decide +kernel⟩
set_option maxRecDepth 20000 in
theorem mi_J6_bitCount_0f7a4 : MS yJ6_bitCount_0f7a4 cJ6_bitCount_0f7a4 1 (some .int) 1 := ⟨tb_of 475 (by decide +kernel) rfl, ini_J6, tb_of 476 (by exact rfl) rfl, ⟨by decide +kernel, by decide +kernel, by decide +kernel⟩, by decide +kernel⟩
set_option maxRecDepth 20000 in
theorem mi_X2_allTombs : MI yX2_allTombs cX2_allTombs 3 (some .int) 0 := ⟨tb_of 481 (by decide +kernel) rfl, tb_of 482 (by decide +kernel) rfl, ini_X2, tb_of 483 (by exact rfl) rfl, ⟨by decide +kernel, by decide +kernel, by decide +kernel⟩, by decide +kernel⟩
set_option maxRecDepth 20000 in
theorem mi_X2_allDead : MI yX2_allDead cX2_allDead 3 (some .int) 0 := ⟨tb_of 486 (by decide +kernel) rfl, tb_of 487 (by decide +kernel) rfl, ini_X2, tb_of 488 (by exact rfl) rfl, ⟨by decide +kernel, by decide +kernel, by decide +kernel⟩, by decide +kernel⟩
set_option maxRecDepth 20000 in
theorem mi_X3_undo : MI yX3_undo cX3_undo 1 (some .int) 0 := ⟨tb_of 491 (by decide +kernel) rfl, tb_of 492 (by decide +kernel) rfl, ini_X3, tb_of 493 (by exact rfl) rfl, ⟨by decide +kernel, by decide +kernel, by decide +kernel⟩, by decide +kernel⟩
set_option maxRecDepth 20000 in
theorem mi_X0_restore : MI yX0_restore cX0_restore 2 none 1 := ⟨tb_of 495 (by decide +kernel) rfl, tb_of 496 (by decide +kernel) rfl, ini_X0, tb_of 497 (by exact rfl) rfl, ⟨by decide +kernel, by decide +kernel, by decide +kernel⟩, by decide +kernel⟩
set_option maxRecDepth 20000 in
theorem mi_X3_type : MI yX3_type cX3_type 2 (some .int) 1 := ⟨tb_of 499 (by decide +kernel) rfl, tb_of 500 (by decide +kernel) rfl, ini_X3, tb_of 501 (by exact rfl) rfl, ⟨by decide +kernel, by decide +kernel, by decide +kernel⟩, by decide +kernel⟩
set_option maxRecDepth 20000 in
theorem mi_X1_append : MI yX1_append cX1_append 2 (some .boolean) 1 := ⟨tb_of 503 (by decide +kernel) rfl, tb_of 504 (by decide +kernel) rfl, ini_X1, tb_of 505 (by exact rfl) rfl, ⟨by decide +kernel, by decide +kernel, by decide +kernel⟩, by decide +kernel⟩
set_option maxRecDepth 20000 in
theorem mi_X3_clearText : MI yX3_clearText cX3_clearText 2 (some .int) 0 := ⟨tb_of 508 (by decide +kernel) rfl, tb_of 509 (by decide +kernel) rfl, ini_X3, tb_of 510 (by exact rfl) rfl, ⟨by decide +kernel, by decide +kernel, by decide +kernel⟩, by decide +kernel⟩
set_option maxRecDepth 20000 in
theorem mi_X3_fault : MI yX3_fault cX3_fault 2 (some .int) 1 := ⟨tb_of 512 (by decide +kernel) rfl, tb_of 513 (by decide +kernel) rfl, ini_X3, tb_of 514 (by exact rfl) rfl, ⟨by decide +kernel, by decide +kernel, by decide +kernel⟩, by decide +kernel⟩
set_option maxRecDepth 20000 in
theorem mi_X1_carryOut : MI yX1_carryOut cX1_carryOut 4 none 1 := ⟨tb_of 516 (by decide +kernel) rfl, tb_of 517 (by decide +kernel) rfl, ini_X1, tb_of 518 (by exact rfl) rfl, ⟨by decide +kernel, by decide +kernel, by decide +kernel⟩, by decide +kernel⟩
set_option maxRecDepth 20000 in
theorem mi_X1_tryOrder : MI yX1_tryOrder cX1_tryOrder 4 (some .int) 3 := ⟨tb_of 521 (by decide +kernel) rfl, tb_of 8 (by decide +kernel) rfl, ini_X1, tb_of 522 (by exact rfl) rfl, ⟨by decide +kernel, by decide +kernel, by decide +kernel⟩, by decide +kernel⟩
set_option maxRecDepth 20000 in
theorem mi_X1_readNumbers : MI yX1_readNumbers cX1_readNumbers 10 (some .boolean) 2 := ⟨tb_of 525 (by decide +kernel) rfl, tb_of 9 (by decide +kernel) rfl, ini_X1, tb_of 526 (by exact rfl) rfl, ⟨by decide +kernel, by decide +kernel, by decide +kernel⟩, by decide +kernel⟩
set_option maxRecDepth 20000 in
theorem mi_X1_numbersOf : MS yX1_numbersOf cX1_numbersOf 1 (some .int) 1 := ⟨tb_of 528 (by decide +kernel) rfl, ini_X1, tb_of 529 (by exact rfl) rfl, ⟨by decide +kernel, by decide +kernel, by decide +kernel⟩, by decide +kernel⟩
set_option maxRecDepth 20000 in
theorem mi_X1_namesExist : MI yX1_namesExist cX1_namesExist 3 (some .boolean) 2 := ⟨tb_of 532 (by decide +kernel) rfl, tb_of 10 (by decide +kernel) rfl, ini_X1, tb_of 533 (by exact rfl) rfl, ⟨by decide +kernel, by decide +kernel, by decide +kernel⟩, by decide +kernel⟩
set_option maxRecDepth 20000 in
theorem mi_X1_doOrder : MI yX1_doOrder cX1_doOrder 3 (some .int) 2 := ⟨tb_of 538 (by decide +kernel) rfl, tb_of 11 (by decide +kernel) rfl, ini_X1, tb_of 539 (by exact rfl) rfl, ⟨by decide +kernel, by decide +kernel, by decide +kernel⟩, by decide +kernel⟩
set_option maxRecDepth 20000 in
theorem mi_X1_setFault : MI yX1_setFault cX1_setFault 3 none 2 := ⟨tb_of 548 (by decide +kernel) rfl, tb_of 12 (by decide +kernel) rfl, ini_X1, tb_of 549 (by exact rfl) rfl, ⟨by decide +kernel, by decide +kernel, by decide +kernel⟩, by decide +kernel⟩
set_option maxRecDepth 20000 in
theorem mi_X3_play : MI yX3_play cX3_play 1 (some .int) 0 := ⟨tb_of 551 (by decide +kernel) rfl, tb_of 552 (by decide +kernel) rfl, ini_X3, tb_of 553 (by exact rfl) rfl, ⟨by decide +kernel, by decide +kernel, by decide +kernel⟩, by decide +kernel⟩
set_option maxRecDepth 20000 in
theorem mi_X4_villager : MI yX4_villager cX4_villager 3 (some .int) 0 := ⟨tb_of 592 (by decide +kernel) rfl, tb_of 593 (by decide +kernel) rfl, ini_X4, tb_of 594 (by exact rfl) rfl, ⟨by decide +kernel, by decide +kernel, by decide +kernel⟩, by decide +kernel⟩
set_option maxRecDepth 20000 in
theorem mi_X4_keeps : MI yX4_keeps cX4_keeps 2 none 0 := ⟨tb_of 598 (by decide +kernel) rfl, tb_of 13 (by decide +kernel) rfl, ini_X4, tb_of 599 (by exact rfl) rfl, ⟨by decide +kernel, by decide +kernel, by decide +kernel⟩, by decide +kernel⟩
set_option maxRecDepth 20000 in
theorem mi_X4_acted : MI yX4_acted cX4_acted 3 (some .int) 1 := ⟨tb_of 602 (by decide +kernel) rfl, tb_of 14 (by decide +kernel) rfl, ini_X4, tb_of 603 (by exact rfl) rfl, ⟨by decide +kernel, by decide +kernel, by decide +kernel⟩, by decide +kernel⟩
set_option maxRecDepth 20000 in
theorem mi_X4_sleep : MI yX4_sleep cX4_sleep 2 (some .int) 1 := ⟨tb_of 606 (by decide +kernel) rfl, tb_of 607 (by decide +kernel) rfl, ini_X4, tb_of 608 (by exact rfl) rfl, ⟨by decide +kernel, by decide +kernel, by decide +kernel⟩, by decide +kernel⟩
set_option maxRecDepth 20000 in
theorem mi_X4_sleeps : MI yX4_sleeps cX4_sleeps 2 (some .int) 1 := ⟨tb_of 611 (by decide +kernel) rfl, tb_of 15 (by decide +kernel) rfl, ini_X4, tb_of 612 (by exact rfl) rfl, ⟨by decide +kernel, by decide +kernel, by decide +kernel⟩, by decide +kernel⟩
set_option maxRecDepth 20000 in
theorem mi_X4_isVillager : MI yX4_isVillager cX4_isVillager 2 (some .boolean) 1 := ⟨tb_of 615 (by decide +kernel) rfl, tb_of 16 (by decide +kernel) rfl, ini_X4, tb_of 616 (by exact rfl) rfl, ⟨by decide +kernel, by decide +kernel, by decide +kernel⟩, by decide +kernel⟩
set_option maxRecDepth 20000 in
theorem mi_X4_in : MS yX4_in cX4_in 3 (some .boolean) 3 := ⟨tb_of 618 (by decide +kernel) rfl, ini_X4, tb_of 619 (by exact rfl) rfl, ⟨by decide +kernel, by decide +kernel, by decide +kernel⟩, by decide +kernel⟩
set_option maxRecDepth 20000 in
theorem mi_X4_isAwake : MI yX4_isAwake cX4_isAwake 2 (some .boolean) 1 := ⟨tb_of 622 (by decide +kernel) rfl, tb_of 17 (by decide +kernel) rfl, ini_X4, tb_of 623 (by exact rfl) rfl, ⟨by decide +kernel, by decide +kernel, by decide +kernel⟩, by decide +kernel⟩
set_option maxRecDepth 20000 in
theorem mi_X4_vi : MI yX4_vi cX4_vi 3 (some .int) 2 := ⟨tb_of 626 (by decide +kernel) rfl, tb_of 18 (by decide +kernel) rfl, ini_X4, tb_of 627 (by exact rfl) rfl, ⟨by decide +kernel, by decide +kernel, by decide +kernel⟩, by decide +kernel⟩
set_option maxRecDepth 20000 in
theorem mi_X4_many : MI yX4_many cX4_many 4 (some .int) 1 := ⟨tb_of 631 (by decide +kernel) rfl, tb_of 19 (by decide +kernel) rfl, ini_X4, tb_of 632 (by exact rfl) rfl, ⟨by decide +kernel, by decide +kernel, by decide +kernel⟩, by decide +kernel⟩
set_option maxRecDepth 20000 in
theorem mi_X4_wake : MI yX4_wake cX4_wake 2 (some .int) 1 := ⟨tb_of 634 (by decide +kernel) rfl, tb_of 635 (by decide +kernel) rfl, ini_X4, tb_of 636 (by exact rfl) rfl, ⟨by decide +kernel, by decide +kernel, by decide +kernel⟩, by decide +kernel⟩
set_option maxRecDepth 20000 in
theorem mi_X4_wakes : MI yX4_wakes cX4_wakes 2 (some .int) 1 := ⟨tb_of 639 (by decide +kernel) rfl, tb_of 20 (by decide +kernel) rfl, ini_X4, tb_of 640 (by exact rfl) rfl, ⟨by decide +kernel, by decide +kernel, by decide +kernel⟩, by decide +kernel⟩
set_option maxRecDepth 20000 in
theorem mi_X4_leave : MI yX4_leave cX4_leave 3 (some .int) 1 := ⟨tb_of 642 (by decide +kernel) rfl, tb_of 643 (by decide +kernel) rfl, ini_X4, tb_of 644 (by exact rfl) rfl, ⟨by decide +kernel, by decide +kernel, by decide +kernel⟩, by decide +kernel⟩
set_option maxRecDepth 20000 in
theorem mi_X4_isGone : MI yX4_isGone cX4_isGone 2 (some .boolean) 1 := ⟨tb_of 647 (by decide +kernel) rfl, tb_of 21 (by decide +kernel) rfl, ini_X4, tb_of 648 (by exact rfl) rfl, ⟨by decide +kernel, by decide +kernel, by decide +kernel⟩, by decide +kernel⟩
set_option maxRecDepth 20000 in
theorem mi_X4_place : MS yX4_place cX4_place 2 (some .int) 2 := ⟨tb_of 650 (by decide +kernel) rfl, ini_X4, tb_of 651 (by exact rfl) rfl, ⟨by decide +kernel, by decide +kernel, by decide +kernel⟩, by decide +kernel⟩
set_option maxRecDepth 20000 in
theorem mi_X4_watch : MI yX4_watch cX4_watch 3 (some .int) 1 := ⟨tb_of 653 (by decide +kernel) rfl, tb_of 654 (by decide +kernel) rfl, ini_X4, tb_of 655 (by exact rfl) rfl, ⟨by decide +kernel, by decide +kernel, by decide +kernel⟩, by decide +kernel⟩
set_option maxRecDepth 20000 in
theorem mi_X4_villagerOf : MI yX4_villagerOf cX4_villagerOf 3 (some .int) 2 := ⟨tb_of 657 (by decide +kernel) rfl, tb_of 658 (by decide +kernel) rfl, ini_X4, tb_of 659 (by exact rfl) rfl, ⟨by decide +kernel, by decide +kernel, by decide +kernel⟩, by decide +kernel⟩
set_option maxRecDepth 20000 in
theorem mi_X4_topics : MI yX4_topics cX4_topics 5 (some .int) 2 := ⟨tb_of 662 (by decide +kernel) rfl, tb_of 22 (by decide +kernel) rfl, ini_X4, tb_of 663 (by exact rfl) rfl, ⟨by decide +kernel, by decide +kernel, by decide +kernel⟩, by decide +kernel⟩
set_option maxRecDepth 20000 in
theorem mi_X4_en : MI yX4_en cX4_en 4 (some .int) 3 := ⟨tb_of 666 (by decide +kernel) rfl, tb_of 23 (by decide +kernel) rfl, ini_X4, tb_of 667 (by exact rfl) rfl, ⟨by decide +kernel, by decide +kernel, by decide +kernel⟩, by decide +kernel⟩
set_option maxRecDepth 20000 in
theorem mi_X4_tell : MI yX4_tell cX4_tell 5 (some .int) 4 := ⟨tb_of 670 (by decide +kernel) rfl, tb_of 671 (by decide +kernel) rfl, ini_X4, tb_of 672 (by exact rfl) rfl, ⟨by decide +kernel, by decide +kernel, by decide +kernel⟩, by decide +kernel⟩
set_option maxRecDepth 20000 in
theorem mi_X4_tells : MI yX4_tells cX4_tells 5 (some .int) 4 := ⟨tb_of 675 (by decide +kernel) rfl, tb_of 24 (by decide +kernel) rfl, ini_X4, tb_of 676 (by exact rfl) rfl, ⟨by decide +kernel, by decide +kernel, by decide +kernel⟩, by decide +kernel⟩
set_option maxRecDepth 20000 in
theorem mi_X4_isTopic : MS yX4_isTopic cX4_isTopic 1 (some .boolean) 1 := ⟨tb_of 678 (by decide +kernel) rfl, ini_X4, tb_of 679 (by exact rfl) rfl, ⟨by decide +kernel, by decide +kernel, by decide +kernel⟩, by decide +kernel⟩
set_option maxRecDepth 20000 in
theorem mi_X4_makes : MI yX4_makes cX4_makes 7 (some .int) 5 := ⟨tb_of 682 (by decide +kernel) rfl, tb_of 25 (by decide +kernel) rfl, ini_X4, tb_of 683 (by exact rfl) rfl, ⟨by decide +kernel, by decide +kernel, by decide +kernel⟩, by decide +kernel⟩
set_option maxRecDepth 20000 in
theorem mi_X4_bury : MI yX4_bury cX4_bury 3 (some .int) 2 := ⟨tb_of 685 (by decide +kernel) rfl, tb_of 686 (by decide +kernel) rfl, ini_X4, tb_of 687 (by exact rfl) rfl, ⟨by decide +kernel, by decide +kernel, by decide +kernel⟩, by decide +kernel⟩
set_option maxRecDepth 20000 in
theorem mi_X4_buries : MI yX4_buries cX4_buries 4 (some .int) 2 := ⟨tb_of 690 (by decide +kernel) rfl, tb_of 26 (by decide +kernel) rfl, ini_X4, tb_of 691 (by exact rfl) rfl, ⟨by decide +kernel, by decide +kernel, by decide +kernel⟩, by decide +kernel⟩
set_option maxRecDepth 20000 in
theorem mi_X4_isNewer : MS yX4_isNewer cX4_isNewer 4 (some .boolean) 4 := ⟨tb_of 693 (by decide +kernel) rfl, ini_X4, tb_of 694 (by exact rfl) rfl, ⟨by decide +kernel, by decide +kernel, by decide +kernel⟩, by decide +kernel⟩
set_option maxRecDepth 20000 in
theorem mi_X4_meet : MI yX4_meet cX4_meet 3 (some .int) 2 := ⟨tb_of 696 (by decide +kernel) rfl, tb_of 697 (by decide +kernel) rfl, ini_X4, tb_of 698 (by exact rfl) rfl, ⟨by decide +kernel, by decide +kernel, by decide +kernel⟩, by decide +kernel⟩
set_option maxRecDepth 20000 in
theorem mi_X4_meetsOne : MI yX4_meetsOne cX4_meetsOne 3 (some .int) 2 := ⟨tb_of 701 (by decide +kernel) rfl, tb_of 27 (by decide +kernel) rfl, ini_X4, tb_of 702 (by exact rfl) rfl, ⟨by decide +kernel, by decide +kernel, by decide +kernel⟩, by decide +kernel⟩
set_option maxRecDepth 20000 in
theorem mi_X4_meets : MI yX4_meets cX4_meets 8 (some .int) 2 := ⟨tb_of 705 (by decide +kernel) rfl, tb_of 28 (by decide +kernel) rfl, ini_X4, tb_of 706 (by exact rfl) rfl, ⟨by decide +kernel, by decide +kernel, by decide +kernel⟩, by decide +kernel⟩
set_option maxRecDepth 20000 in
theorem mi_X4_passes : MI yX4_passes cX4_passes 5 (some .int) 3 := ⟨tb_of 709 (by decide +kernel) rfl, tb_of 29 (by decide +kernel) rfl, ini_X4, tb_of 710 (by exact rfl) rfl, ⟨by decide +kernel, by decide +kernel, by decide +kernel⟩, by decide +kernel⟩
set_option maxRecDepth 20000 in
theorem mi_X4_hasNewer : MI yX4_hasNewer cX4_hasNewer 4 (some .boolean) 3 := ⟨tb_of 713 (by decide +kernel) rfl, tb_of 30 (by decide +kernel) rfl, ini_X4, tb_of 714 (by exact rfl) rfl, ⟨by decide +kernel, by decide +kernel, by decide +kernel⟩, by decide +kernel⟩
set_option maxRecDepth 20000 in
theorem mi_X4_mayPass : MI yX4_mayPass cX4_mayPass 5 (some .boolean) 3 := ⟨tb_of 717 (by decide +kernel) rfl, tb_of 31 (by decide +kernel) rfl, ini_X4, tb_of 718 (by exact rfl) rfl, ⟨by decide +kernel, by decide +kernel, by decide +kernel⟩, by decide +kernel⟩
set_option maxRecDepth 20000 in
theorem mi_X4_isGhost : MI yX4_isGhost cX4_isGhost 5 (some .boolean) 3 := ⟨tb_of 721 (by decide +kernel) rfl, tb_of 32 (by decide +kernel) rfl, ini_X4, tb_of 722 (by exact rfl) rfl, ⟨by decide +kernel, by decide +kernel, by decide +kernel⟩, by decide +kernel⟩
set_option maxRecDepth 20000 in
theorem mi_X4_areSame : MI yX4_areSame cX4_areSame 4 (some .boolean) 3 := ⟨tb_of 725 (by decide +kernel) rfl, tb_of 33 (by decide +kernel) rfl, ini_X4, tb_of 726 (by exact rfl) rfl, ⟨by decide +kernel, by decide +kernel, by decide +kernel⟩, by decide +kernel⟩
set_option maxRecDepth 20000 in
theorem mi_X4_entryOf : MI yX4_entryOf cX4_entryOf 6 (some .int) 3 := ⟨tb_of 728 (by decide +kernel) rfl, tb_of 729 (by decide +kernel) rfl, ini_X4, tb_of 730 (by exact rfl) rfl, ⟨by decide +kernel, by decide +kernel, by decide +kernel⟩, by decide +kernel⟩
set_option maxRecDepth 20000 in
theorem mi_X4_isDead : MI yX4_isDead cX4_isDead 3 (some .boolean) 2 := ⟨tb_of 733 (by decide +kernel) rfl, tb_of 34 (by decide +kernel) rfl, ini_X4, tb_of 734 (by exact rfl) rfl, ⟨by decide +kernel, by decide +kernel, by decide +kernel⟩, by decide +kernel⟩
set_option maxRecDepth 20000 in
theorem mi_X4_tick : MI yX4_tick cX4_tick 2 (some .int) 1 := ⟨tb_of 736 (by decide +kernel) rfl, tb_of 737 (by decide +kernel) rfl, ini_X4, tb_of 738 (by exact rfl) rfl, ⟨by decide +kernel, by decide +kernel, by decide +kernel⟩, by decide +kernel⟩
set_option maxRecDepth 20000 in
theorem mi_X4_ticks : MI yX4_ticks cX4_ticks 4 (some .int) 1 := ⟨tb_of 741 (by decide +kernel) rfl, tb_of 35 (by decide +kernel) rfl, ini_X4, tb_of 742 (by exact rfl) rfl, ⟨by decide +kernel, by decide +kernel, by decide +kernel⟩, by decide +kernel⟩
set_option maxRecDepth 20000 in
theorem mi_X4_tickOne : MI yX4_tickOne cX4_tickOne 5 (some .int) 0 := ⟨tb_of 746 (by decide +kernel) rfl, tb_of 36 (by decide +kernel) rfl, ini_X4, tb_of 747 (by exact rfl) rfl, ⟨by decide +kernel, by decide +kernel, by decide +kernel⟩, by decide +kernel⟩
set_option maxRecDepth 20000 in
theorem mi_X4_drops : MI yX4_drops cX4_drops 6 (some .int) 3 := ⟨tb_of 750 (by decide +kernel) rfl, tb_of 37 (by decide +kernel) rfl, ini_X4, tb_of 751 (by exact rfl) rfl, ⟨by decide +kernel, by decide +kernel, by decide +kernel⟩, by decide +kernel⟩
set_option maxRecDepth 20000 in
theorem mi_X4_newest : MI yX4_newest cX4_newest 5 (some .int) 1 := ⟨tb_of 753 (by decide +kernel) rfl, tb_of 754 (by decide +kernel) rfl, ini_X4, tb_of 755 (by exact rfl) rfl, ⟨by decide +kernel, by decide +kernel, by decide +kernel⟩, by decide +kernel⟩
set_option maxRecDepth 20000 in
theorem mi_X4_unlike : MI yX4_unlike cX4_unlike 5 (some .int) 2 := ⟨tb_of 757 (by decide +kernel) rfl, tb_of 758 (by decide +kernel) rfl, ini_X4, tb_of 759 (by exact rfl) rfl, ⟨by decide +kernel, by decide +kernel, by decide +kernel⟩, by decide +kernel⟩
set_option maxRecDepth 20000 in
theorem mi_X4_dead : MI yX4_dead cX4_dead 4 (some .int) 1 := ⟨tb_of 761 (by decide +kernel) rfl, tb_of 762 (by decide +kernel) rfl, ini_X4, tb_of 763 (by exact rfl) rfl, ⟨by decide +kernel, by decide +kernel, by decide +kernel⟩, by decide +kernel⟩
set_option maxRecDepth 20000 in
theorem mi_X4_ghosts : MI yX4_ghosts cX4_ghosts 6 (some .int) 3 := ⟨tb_of 765 (by decide +kernel) rfl, tb_of 766 (by decide +kernel) rfl, ini_X4, tb_of 767 (by exact rfl) rfl, ⟨by decide +kernel, by decide +kernel, by decide +kernel⟩, by decide +kernel⟩
set_option maxRecDepth 20000 in
theorem mi_X4_puts : MI yX4_puts cX4_puts 2 none 0 := ⟨tb_of 770 (by decide +kernel) rfl, tb_of 38 (by decide +kernel) rfl, ini_X4, tb_of 771 (by exact rfl) rfl, ⟨by decide +kernel, by decide +kernel, by decide +kernel⟩, by decide +kernel⟩
set_option maxRecDepth 20000 in
theorem mi_X4_restores : MI yX4_restores cX4_restores 2 none 0 := ⟨tb_of 774 (by decide +kernel) rfl, tb_of 39 (by decide +kernel) rfl, ini_X4, tb_of 775 (by exact rfl) rfl, ⟨by decide +kernel, by decide +kernel, by decide +kernel⟩, by decide +kernel⟩
set_option maxRecDepth 20000 in
theorem mi_X4_bestMeeting : MI yX4_bestMeeting cX4_bestMeeting 7 (some .int) 1 := ⟨tb_of 777 (by decide +kernel) rfl, tb_of 778 (by decide +kernel) rfl, ini_X4, tb_of 779 (by exact rfl) rfl, ⟨by decide +kernel, by decide +kernel, by decide +kernel⟩, by decide +kernel⟩
set_option maxRecDepth 20000 in
theorem mi_X4_rounds : MI yX4_rounds cX4_rounds 3 (some .int) 0 := ⟨tb_of 781 (by decide +kernel) rfl, tb_of 782 (by decide +kernel) rfl, ini_X4, tb_of 783 (by exact rfl) rfl, ⟨by decide +kernel, by decide +kernel, by decide +kernel⟩, by decide +kernel⟩
set_option maxRecDepth 20000 in
theorem mi_X4_areAllSame : MI yX4_areAllSame cX4_areAllSame 5 (some .boolean) 0 := ⟨tb_of 786 (by decide +kernel) rfl, tb_of 40 (by decide +kernel) rfl, ini_X4, tb_of 787 (by exact rfl) rfl, ⟨by decide +kernel, by decide +kernel, by decide +kernel⟩, by decide +kernel⟩
set_option maxRecDepth 20000 in
theorem mi_X4_awakeBehind : MI yX4_awakeBehind cX4_awakeBehind 3 (some .int) 1 := ⟨tb_of 790 (by decide +kernel) rfl, tb_of 41 (by decide +kernel) rfl, ini_X4, tb_of 791 (by exact rfl) rfl, ⟨by decide +kernel, by decide +kernel, by decide +kernel⟩, by decide +kernel⟩
set_option maxRecDepth 20000 in
theorem mi_X4_round : MI yX4_round cX4_round 4 none 0 := ⟨tb_of 794 (by decide +kernel) rfl, tb_of 42 (by decide +kernel) rfl, ini_X4, tb_of 795 (by exact rfl) rfl, ⟨by decide +kernel, by decide +kernel, by decide +kernel⟩, by decide +kernel⟩
set_option maxRecDepth 20000 in
theorem mi_X4_count : MI yX4_count cX4_count 2 (some .int) 1 := ⟨tb_of 797 (by decide +kernel) rfl, tb_of 798 (by decide +kernel) rfl, ini_X4, tb_of 799 (by exact rfl) rfl, ⟨by decide +kernel, by decide +kernel, by decide +kernel⟩, by decide +kernel⟩
set_option maxRecDepth 20000 in
theorem mi_X4_entries : MI yX4_entries cX4_entries 5 (some .int) 1 := ⟨tb_of 802 (by decide +kernel) rfl, tb_of 43 (by decide +kernel) rfl, ini_X4, tb_of 803 (by exact rfl) rfl, ⟨by decide +kernel, by decide +kernel, by decide +kernel⟩, by decide +kernel⟩
set_option maxRecDepth 20000 in
theorem mi_X4_undo : MI yX4_undo cX4_undo 2 (some .int) 0 := ⟨tb_of 805 (by decide +kernel) rfl, tb_of 806 (by decide +kernel) rfl, ini_X4, tb_of 807 (by exact rfl) rfl, ⟨by decide +kernel, by decide +kernel, by decide +kernel⟩, by decide +kernel⟩
set_option maxRecDepth 20000 in
theorem mi_X4_type : MI yX4_type cX4_type 2 (some .int) 1 := ⟨tb_of 809 (by decide +kernel) rfl, tb_of 810 (by decide +kernel) rfl, ini_X4, tb_of 811 (by exact rfl) rfl, ⟨by decide +kernel, by decide +kernel, by decide +kernel⟩, by decide +kernel⟩
set_option maxRecDepth 20000 in
theorem mi_X4_clearText : MI yX4_clearText cX4_clearText 2 (some .int) 0 := ⟨tb_of 813 (by decide +kernel) rfl, tb_of 814 (by decide +kernel) rfl, ini_X4, tb_of 815 (by exact rfl) rfl, ⟨by decide +kernel, by decide +kernel, by decide +kernel⟩, by decide +kernel⟩
set_option maxRecDepth 20000 in
theorem mi_X4_fault : MI yX4_fault cX4_fault 3 (some .int) 1 := ⟨tb_of 817 (by decide +kernel) rfl, tb_of 818 (by decide +kernel) rfl, ini_X4, tb_of 819 (by exact rfl) rfl, ⟨by decide +kernel, by decide +kernel, by decide +kernel⟩, by decide +kernel⟩
set_option maxRecDepth 20000 in
theorem mi_X4_faulty : MI yX4_faulty cX4_faulty 3 (some .int) 0 := ⟨tb_of 822 (by decide +kernel) rfl, tb_of 44 (by decide +kernel) rfl, ini_X4, tb_of 823 (by exact rfl) rfl, ⟨by decide +kernel, by decide +kernel, by decide +kernel⟩, by decide +kernel⟩
set_option maxRecDepth 20000 in
theorem mi_X4_doesNext : MI yX4_doesNext cX4_doesNext 2 (some .int) 0 := ⟨tb_of 826 (by decide +kernel) rfl, tb_of 45 (by decide +kernel) rfl, ini_X4, tb_of 827 (by exact rfl) rfl, ⟨by decide +kernel, by decide +kernel, by decide +kernel⟩, by decide +kernel⟩
set_option maxRecDepth 20000 in
theorem mi_X4_readsForm : MI yX4_readsForm cX4_readsForm 5 (some .boolean) 1 := ⟨tb_of 830 (by decide +kernel) rfl, tb_of 46 (by decide +kernel) rfl, ini_X4, tb_of 831 (by exact rfl) rfl, ⟨by decide +kernel, by decide +kernel, by decide +kernel⟩, by decide +kernel⟩
set_option maxRecDepth 20000 in
theorem mi_X4_number : MI yX4_number cX4_number 3 (some .boolean) 1 := ⟨tb_of 834 (by decide +kernel) rfl, tb_of 47 (by decide +kernel) rfl, ini_X4, tb_of 835 (by exact rfl) rfl, ⟨by decide +kernel, by decide +kernel, by decide +kernel⟩, by decide +kernel⟩
set_option maxRecDepth 20000 in
theorem mi_X4_has : MI yX4_has cX4_has 3 (some .boolean) 1 := ⟨tb_of 838 (by decide +kernel) rfl, tb_of 48 (by decide +kernel) rfl, ini_X4, tb_of 839 (by exact rfl) rfl, ⟨by decide +kernel, by decide +kernel, by decide +kernel⟩, by decide +kernel⟩
set_option maxRecDepth 20000 in
theorem mi_X4_isThere : MI yX4_isThere cX4_isThere 4 (some .boolean) 1 := ⟨tb_of 842 (by decide +kernel) rfl, tb_of 49 (by decide +kernel) rfl, ini_X4, tb_of 843 (by exact rfl) rfl, ⟨by decide +kernel, by decide +kernel, by decide +kernel⟩, by decide +kernel⟩
set_option maxRecDepth 20000 in
theorem mi_X4_does : MI yX4_does cX4_does 2 (some .int) 1 := ⟨tb_of 846 (by decide +kernel) rfl, tb_of 50 (by decide +kernel) rfl, ini_X4, tb_of 847 (by exact rfl) rfl, ⟨by decide +kernel, by decide +kernel, by decide +kernel⟩, by decide +kernel⟩
set_option maxRecDepth 20000 in
theorem mi_X4_play : MI yX4_play cX4_play 2 (some .int) 0 := ⟨tb_of 849 (by decide +kernel) rfl, tb_of 850 (by decide +kernel) rfl, ini_X4, tb_of 851 (by exact rfl) rfl, ⟨by decide +kernel, by decide +kernel, by decide +kernel⟩, by decide +kernel⟩
set_option maxRecDepth 20000 in
theorem inT_X0 : ∀ w ∈ wsX00, w ∈ TB := by
  have h : wsX00.all (fun w => decide (w ∈ lw_tbl) && goodWord w) = true := by decide +kernel
  intro w hw
  have h1 := List.all_eq_true.mp h w hw
  simp only [Bool.and_eq_true, decide_eq_true_eq] at h1
  exact List.mem_filter.mpr h1
set_option maxRecDepth 20000 in
theorem inT_X1 : ∀ w ∈ wsX10, w ∈ TB := by
  have h : wsX10.all (fun w => decide (w ∈ lw_tbl) && goodWord w) = true := by decide +kernel
  intro w hw
  have h1 := List.all_eq_true.mp h w hw
  simp only [Bool.and_eq_true, decide_eq_true_eq] at h1
  exact List.mem_filter.mpr h1
set_option maxRecDepth 20000 in
theorem inT_X2 : ∀ w ∈ wsX20, w ∈ TB := by
  have h : wsX20.all (fun w => decide (w ∈ lw_tbl) && goodWord w) = true := by decide +kernel
  intro w hw
  have h1 := List.all_eq_true.mp h w hw
  simp only [Bool.and_eq_true, decide_eq_true_eq] at h1
  exact List.mem_filter.mpr h1
set_option maxRecDepth 20000 in
theorem inT_X3 : ∀ w ∈ wsX30, w ∈ TB := by
  have h : wsX30.all (fun w => decide (w ∈ lw_tbl) && goodWord w) = true := by decide +kernel
  intro w hw
  have h1 := List.all_eq_true.mp h w hw
  simp only [Bool.and_eq_true, decide_eq_true_eq] at h1
  exact List.mem_filter.mpr h1
set_option maxRecDepth 20000 in
theorem inT_X4 : ∀ w ∈ wsX40, w ∈ TB := by
  have h : wsX40.all (fun w => decide (w ∈ lw_tbl) && goodWord w) = true := by decide +kernel
  intro w hw
  have h1 := List.all_eq_true.mp h w hw
  simp only [Bool.and_eq_true, decide_eq_true_eq] at h1
  exact List.mem_filter.mpr h1
