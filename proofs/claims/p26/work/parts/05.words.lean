/-! the tables' good words, by their places; the nest words apart -/
def TB : List Cond := lw_tbl.filter goodWord
def NWq : Cond → Bool
  | .fieldLinkNest .. => true
  | .methodLinkNest .. => true
  | _ => false
def NL : List Cond := lw_tbl.filter NWq
theorem tb_of {w : Cond} (i : Nat) (h : lw_tbl[i]? = some w) (hg : goodWord w = true) : w ∈ TB := List.mem_filter.mpr ⟨List.mem_of_getElem? h, hg⟩
theorem nl_of {w : Cond} (i : Nat) (h : lw_tbl[i]? = some w) (hg : NWq w = true) : w ∈ NL := List.mem_filter.mpr ⟨List.mem_of_getElem? h, hg⟩
theorem tb_good : ∀ w ∈ TB, w ∈ TB ∧ ((w.onTables && w.keeps) = true ∨ ∃ ty, w = .arrayClass ty) := fun w h => ⟨h, good_of_word (List.mem_filter.mp h).2⟩
theorem tb_in {w : Cond} (h : w ∈ TB) : w ∈ lw_tbl := (List.mem_filter.mp h).1
def MI (y : MethodName) (b : ByteArray) (mL : Nat) (ret : Option FieldType) (n : Nat) : Prop := Cond.instanceMethod y ∈ TB ∧ Cond.selects y.cls y y ∈ TB ∧ Cond.initialized y.cls ∈ TB ∧ Cond.code y b mL ret ∈ TB ∧ (y.cls ≠ "java/lang/invoke/MethodHandle" ∧ y.cls ≠ "java/lang/invoke/VarHandle" ∧ (parseMethodDescriptor y.desc).map (fun d => d.parameters.length) = some n) ∧ plainName y.cls = true
def MS (y : MethodName) (b : ByteArray) (mL : Nat) (ret : Option FieldType) (n : Nat) : Prop := Cond.static y ∈ TB ∧ Cond.initialized y.cls ∈ TB ∧ Cond.code y b mL ret ∈ TB ∧ (y.cls ≠ "java/lang/invoke/MethodHandle" ∧ y.cls ≠ "java/lang/invoke/VarHandle" ∧ (parseMethodDescriptor y.desc).map (fun d => d.parameters.length) = some n) ∧ plainName y.cls = true
theorem ini_L : Cond.initialized "RumorTombsLaw" ∈ TB := tb_of 8 (by decide +kernel) rfl
theorem ini_X3 : Cond.initialized RX3 ∈ TB := tb_of 9 (by decide +kernel) rfl
theorem ini_X2 : Cond.initialized RX2 ∈ TB := tb_of 10 (by decide +kernel) rfl
theorem ini_X0 : Cond.initialized RX0 ∈ TB := tb_of 11 (by decide +kernel) rfl
theorem ini_X1 : Cond.initialized RX1 ∈ TB := tb_of 12 (by decide +kernel) rfl
theorem ini_J6 : Cond.initialized RJ6 ∈ TB := tb_of 13 (by decide +kernel) rfl
theorem ini_J10 : Cond.initialized RJ10 ∈ TB := tb_of 14 (by decide +kernel) rfl
theorem ini_J9 : Cond.initialized RJ9 ∈ TB := tb_of 15 (by decide +kernel) rfl
theorem ml_L_66 : Cond.methodLink "RumorTombsLaw" 66 yX3_init ∈ TB := tb_of 18 (by decide +kernel) rfl
theorem ml_X3_1 : Cond.methodLink RX3 1 objectInit ∈ TB := tb_of 21 (by decide +kernel) rfl
theorem mn_X3_9 : Cond.methodLinkNest RX3 9 yX2_init "RumorTombs" ∈ NL := nl_of 26 (by decide +kernel) rfl
theorem ml_X2_3 : Cond.methodLink RX2 3 objectInit ∈ TB := tb_of 29 (by decide +kernel) rfl
theorem fl_X2_9 : Cond.fieldLink RX2 9 "RumorTombs$Village" "villagers" "I" ∈ TB := tb_of 30 (by decide +kernel) rfl
theorem fn_X3_168 : Cond.fieldLinkNest RX3 168 "RumorTombs$Village" "villagers" "I" "RumorTombs" ∈ NL := nl_of 31 (by decide +kernel) rfl
theorem fl_X2_15 : Cond.fieldLink RX2 15 "RumorTombs$Village" "time" "I" ∈ TB := tb_of 32 (by decide +kernel) rfl
theorem fn_X3_175 : Cond.fieldLinkNest RX3 175 "RumorTombs$Village" "time" "I" "RumorTombs" ∈ NL := nl_of 33 (by decide +kernel) rfl
theorem fl_X2_18 : Cond.fieldLink RX2 18 "RumorTombs$Village" "watch" "I" ∈ TB := tb_of 34 (by decide +kernel) rfl
theorem fn_X3_178 : Cond.fieldLinkNest RX3 178 "RumorTombs$Village" "watch" "I" "RumorTombs" ∈ NL := nl_of 35 (by decide +kernel) rfl
theorem fl_X2_21 : Cond.fieldLink RX2 21 "RumorTombs$Village" "tombsMade" "I" ∈ TB := tb_of 36 (by decide +kernel) rfl
theorem fn_X3_190 : Cond.fieldLinkNest RX3 190 "RumorTombs$Village" "tombsMade" "I" "RumorTombs" ∈ NL := nl_of 37 (by decide +kernel) rfl
theorem fl_X2_24 : Cond.fieldLink RX2 24 "RumorTombs$Village" "states" "[I" ∈ TB := tb_of 38 (by decide +kernel) rfl
theorem fn_X3_62 : Cond.fieldLinkNest RX3 62 "RumorTombs$Village" "states" "[I" "RumorTombs" ∈ NL := nl_of 39 (by decide +kernel) rfl
theorem fl_X2_28 : Cond.fieldLink RX2 28 "RumorTombs$Village" "clocks" "[I" ∈ TB := tb_of 40 (by decide +kernel) rfl
theorem fn_X3_66 : Cond.fieldLinkNest RX3 66 "RumorTombs$Village" "clocks" "[I" "RumorTombs" ∈ NL := nl_of 41 (by decide +kernel) rfl
theorem fl_X2_31 : Cond.fieldLink RX2 31 "RumorTombs$Village" "asleepSince" "[I" ∈ TB := tb_of 42 (by decide +kernel) rfl
theorem fl_X2_34 : Cond.fieldLink RX2 34 "RumorTombs$Village" "ghostsOf" "[I" ∈ TB := tb_of 43 (by decide +kernel) rfl
theorem fn_X3_75 : Cond.fieldLinkNest RX3 75 "RumorTombs$Village" "ghostsOf" "[I" "RumorTombs" ∈ NL := nl_of 44 (by decide +kernel) rfl
theorem fl_X2_37 : Cond.fieldLink RX2 37 "RumorTombs$Village" "stamps" "[I" ∈ TB := tb_of 45 (by decide +kernel) rfl
theorem fn_X3_102 : Cond.fieldLinkNest RX3 102 "RumorTombs$Village" "stamps" "[I" "RumorTombs" ∈ NL := nl_of 46 (by decide +kernel) rfl
theorem fl_X2_40 : Cond.fieldLink RX2 40 "RumorTombs$Village" "kinds" "[I" ∈ TB := tb_of 47 (by decide +kernel) rfl
theorem fn_X3_114 : Cond.fieldLinkNest RX3 114 "RumorTombs$Village" "kinds" "[I" "RumorTombs" ∈ NL := nl_of 48 (by decide +kernel) rfl
theorem fl_X2_43 : Cond.fieldLink RX2 43 "RumorTombs$Village" "values" "[I" ∈ TB := tb_of 49 (by decide +kernel) rfl
theorem fn_X3_111 : Cond.fieldLinkNest RX3 111 "RumorTombs$Village" "values" "[I" "RumorTombs" ∈ NL := nl_of 50 (by decide +kernel) rfl
theorem fl_X2_46 : Cond.fieldLink RX2 46 "RumorTombs$Village" "made" "[I" ∈ TB := tb_of 51 (by decide +kernel) rfl
theorem fn_X3_117 : Cond.fieldLinkNest RX3 117 "RumorTombs$Village" "made" "[I" "RumorTombs" ∈ NL := nl_of 52 (by decide +kernel) rfl
theorem fl_X2_49 : Cond.fieldLink RX2 49 "RumorTombs$Village" "seen" "[I" ∈ TB := tb_of 53 (by decide +kernel) rfl
theorem fn_X3_120 : Cond.fieldLinkNest RX3 120 "RumorTombs$Village" "seen" "[I" "RumorTombs" ∈ NL := nl_of 54 (by decide +kernel) rfl
theorem fl_X2_52 : Cond.fieldLink RX2 52 "RumorTombs$Village" "newestDropped" "[I" ∈ TB := tb_of 55 (by decide +kernel) rfl
theorem fl_X2_55 : Cond.fieldLink RX2 55 "RumorTombs$Village" "newestTomb" "[I" ∈ TB := tb_of 56 (by decide +kernel) rfl
theorem ml_X3_21 : Cond.methodLink RX3 21 yX0_init ∈ TB := tb_of 91 (by decide +kernel) rfl
theorem ml_X0_3 : Cond.methodLink RX0 3 objectInit ∈ TB := tb_of 94 (by decide +kernel) rfl
theorem mn_X0_21 : Cond.methodLinkNest RX0 21 yX2_init "RumorTombs" ∈ NL := nl_of 97 (by decide +kernel) rfl
theorem fl_X0_11 : Cond.fieldLink RX0 11 "RumorTombs$History" "states" "[LRumorTombs$Village;" ∈ TB := tb_of 98 (by decide +kernel) rfl
theorem fl_X0_17 : Cond.fieldLink RX0 17 "RumorTombs$History" "kept" "I" ∈ TB := tb_of 99 (by decide +kernel) rfl
theorem fn_X3_193 : Cond.fieldLinkNest RX3 193 "RumorTombs$History" "kept" "I" "RumorTombs" ∈ NL := nl_of 100 (by decide +kernel) rfl
theorem mn_X3_28 : Cond.methodLinkNest RX3 28 yX1_init "RumorTombs" ∈ NL := nl_of 108 (by decide +kernel) rfl
theorem ml_X1_3 : Cond.methodLink RX1 3 objectInit ∈ TB := tb_of 111 (by decide +kernel) rfl
theorem fl_X1_9 : Cond.fieldLink RX1 9 "RumorTombs$Orders" "signs" "[C" ∈ TB := tb_of 112 (by decide +kernel) rfl
theorem fl_X1_15 : Cond.fieldLink RX1 15 "RumorTombs$Orders" "length" "I" ∈ TB := tb_of 113 (by decide +kernel) rfl
theorem fn_X3_196 : Cond.fieldLinkNest RX3 196 "RumorTombs$Orders" "length" "I" "RumorTombs" ∈ NL := nl_of 114 (by decide +kernel) rfl
theorem fl_X1_19 : Cond.fieldLink RX1 19 "RumorTombs$Orders" "numbers" "[I" ∈ TB := tb_of 115 (by decide +kernel) rfl
theorem fl_X1_23 : Cond.fieldLink RX1 23 "RumorTombs$Orders" "done" "I" ∈ TB := tb_of 116 (by decide +kernel) rfl
theorem fl_X1_26 : Cond.fieldLink RX1 26 "RumorTombs$Orders" "faultPosition" "I" ∈ TB := tb_of 117 (by decide +kernel) rfl
theorem fl_X1_29 : Cond.fieldLink RX1 29 "RumorTombs$Orders" "faultReason" "I" ∈ TB := tb_of 118 (by decide +kernel) rfl
theorem fl_X3_10 : Cond.fieldLink RX3 10 "RumorTombs" "now" "LRumorTombs$Village;" ∈ TB := tb_of 133 (by decide +kernel) rfl
theorem fl_X3_16 : Cond.fieldLink RX3 16 "RumorTombs" "trial" "LRumorTombs$Village;" ∈ TB := tb_of 134 (by decide +kernel) rfl
theorem fl_X3_22 : Cond.fieldLink RX3 22 "RumorTombs" "history" "LRumorTombs$History;" ∈ TB := tb_of 135 (by decide +kernel) rfl
theorem fl_X3_29 : Cond.fieldLink RX3 29 "RumorTombs" "orders" "LRumorTombs$Orders;" ∈ TB := tb_of 136 (by decide +kernel) rfl
theorem ml_L_71 : Cond.methodLink "RumorTombsLaw" 71 yX3_villager ∈ TB := tb_of 146 (by decide +kernel) rfl
theorem ml_X3_33 : Cond.methodLink RX3 33 yX0_prepare ∈ TB := tb_of 150 (by decide +kernel) rfl
theorem ml_X0_22 : Cond.methodLink RX0 22 yX2_copyFrom ∈ TB := tb_of 154 (by decide +kernel) rfl
theorem ml_X2_58 : Cond.methodLink RX2 58 yX2_copyRow ∈ TB := tb_of 158 (by decide +kernel) rfl
theorem ml_X2_62 : Cond.methodLink RX2 62 arraycopyName ∈ TB := tb_of 161 (by decide +kernel) rfl
theorem ml_X3_37 : Cond.methodLink RX3 37 yX2_addVillager ∈ TB := tb_of 164 (by decide +kernel) rfl
theorem cn_X2_72 : Cond.constant RX2 72 (-1000003) ∈ TB := tb_of 168 (by decide +kernel) rfl
theorem ml_X3_41 : Cond.methodLink RX3 41 yX3_recorded ∈ TB := tb_of 169 (by decide +kernel) rfl
theorem ml_X3_219 : Cond.methodLink RX3 219 yX0_keep ∈ TB := tb_of 173 (by decide +kernel) rfl
theorem ml_X0_26 : Cond.methodLink RX0 26 yX0_dropOldest ∈ TB := tb_of 177 (by decide +kernel) rfl
theorem ml_L_52 : Cond.methodLink "RumorTombsLaw" 52 yX3_tick ∈ TB := tb_of 181 (by decide +kernel) rfl
theorem ml_X3_127 : Cond.methodLink RX3 127 yX2_letGoBy ∈ TB := tb_of 185 (by decide +kernel) rfl
theorem cn_X2_73 : Cond.constant RX2 73 (-1000001) ∈ TB := tb_of 189 (by decide +kernel) rfl
theorem cn_X2_154 : Cond.constant RX2 154 (100000) ∈ TB := tb_of 190 (by decide +kernel) rfl
theorem ml_X2_155 : Cond.methodLink RX2 155 yX2_pass ∈ TB := tb_of 191 (by decide +kernel) rfl
theorem ml_X2_158 : Cond.methodLink RX2 158 yX2_present ∈ TB := tb_of 195 (by decide +kernel) rfl
theorem mn_X2_88 : Cond.methodLinkNest RX2 88 yX3_place "RumorTombs" ∈ NL := nl_of 199 (by decide +kernel) rfl
theorem ml_X2_95 : Cond.methodLink RX2 95 yX2_isTomb ∈ TB := tb_of 202 (by decide +kernel) rfl
theorem ml_X2_162 : Cond.methodLink RX2 162 yX2_isOver ∈ TB := tb_of 206 (by decide +kernel) rfl
theorem ml_X2_123 : Cond.methodLink RX2 123 Lib.Math.max.name ∈ TB := tb_of 210 (by decide +kernel) rfl
theorem ml_L_15 : Cond.methodLink "RumorTombsLaw" 15 yX3_count ∈ TB := tb_of 213 (by decide +kernel) rfl
theorem ml_X3_172 : Cond.methodLink RX3 172 yX2_howMany ∈ TB := tb_of 217 (by decide +kernel) rfl
theorem ml_X3_181 : Cond.methodLink RX3 181 yX2_allRumors ∈ TB := tb_of 221 (by decide +kernel) rfl
theorem ml_X2_102 : Cond.methodLink RX2 102 yX2_rumorTopics ∈ TB := tb_of 225 (by decide +kernel) rfl
theorem ml_X2_92 : Cond.methodLink RX2 92 yX2_isRumor ∈ TB := tb_of 229 (by decide +kernel) rfl
theorem ml_X2_105 : Cond.methodLink RX2 105 yJ6_bitCount_0f7a4 ∈ TB := tb_of 233 (by decide +kernel) rfl
theorem cn_J6_265 : Cond.constant RJ6 265 (1431655765) ∈ TB := tb_of 236 (by decide +kernel) rfl
theorem cn_J6_266 : Cond.constant RJ6 266 (858993459) ∈ TB := tb_of 237 (by decide +kernel) rfl
theorem cn_J6_267 : Cond.constant RJ6 267 (252645135) ∈ TB := tb_of 238 (by decide +kernel) rfl
theorem ml_X3_184 : Cond.methodLink RX3 184 yX2_allTombs ∈ TB := tb_of 239 (by decide +kernel) rfl
theorem ml_X2_110 : Cond.methodLink RX2 110 yX2_tombTopics ∈ TB := tb_of 243 (by decide +kernel) rfl
theorem ml_X3_187 : Cond.methodLink RX3 187 yX2_allDead ∈ TB := tb_of 247 (by decide +kernel) rfl
theorem ml_X2_113 : Cond.methodLink RX2 113 yX2_deadTopics ∈ TB := tb_of 251 (by decide +kernel) rfl
theorem ml_X2_98 : Cond.methodLink RX2 98 yX2_isDead ∈ TB := tb_of 255 (by decide +kernel) rfl
theorem ml_X3_152 : Cond.methodLink RX3 152 yX2_allGhosts ∈ TB := tb_of 259 (by decide +kernel) rfl
theorem cn_X3_61 : Cond.constant RX3 61 (-1000001) ∈ TB := tb_of 263 (by decide +kernel) rfl
theorem ml_L_83 : Cond.methodLink "RumorTombsLaw" 83 yX3_undo ∈ TB := tb_of 264 (by decide +kernel) rfl
theorem cn_X3_142 : Cond.constant RX3 142 (-1000002) ∈ TB := tb_of 268 (by decide +kernel) rfl
theorem ml_X3_199 : Cond.methodLink RX3 199 yX0_restore ∈ TB := tb_of 269 (by decide +kernel) rfl
theorem ml_L_75 : Cond.methodLink "RumorTombsLaw" 75 yL_cell ∈ TB := tb_of 273 (by decide +kernel) rfl
theorem cn_L_7 : Cond.constant "RumorTombsLaw" 7 (134775813) ∈ TB := tb_of 276 (by decide +kernel) rfl
theorem cn_L_8 : Cond.constant "RumorTombsLaw" 8 (2147483647) ∈ TB := tb_of 277 (by decide +kernel) rfl
theorem ml_L_67 : Cond.methodLink "RumorTombsLaw" 67 yL_holds ∈ TB := tb_of 278 (by decide +kernel) rfl
theorem ml_L_19 : Cond.methodLink "RumorTombsLaw" 19 yX3_villagerOf ∈ TB := tb_of 281 (by decide +kernel) rfl
theorem ml_X3_57 : Cond.methodLink RX3 57 yX2_has ∈ TB := tb_of 285 (by decide +kernel) rfl
theorem ml_X3_69 : Cond.methodLink RX3 69 yX2_rumorTopics ∈ TB := tb_of 289 (by decide +kernel) rfl
theorem ml_X3_72 : Cond.methodLink RX3 72 yX2_tombTopics ∈ TB := tb_of 290 (by decide +kernel) rfl
theorem ml_X3_78 : Cond.methodLink RX3 78 yX2_isAsleep ∈ TB := tb_of 291 (by decide +kernel) rfl
theorem ml_X2_68 : Cond.methodLink RX2 68 yX2_has ∈ TB := tb_of 295 (by decide +kernel) rfl
theorem ml_X3_81 : Cond.methodLink RX3 81 yX2_ticksAsleep ∈ TB := tb_of 296 (by decide +kernel) rfl
theorem cn_X3_84 : Cond.constant RX3 84 (-1000004) ∈ TB := tb_of 300 (by decide +kernel) rfl
theorem ml_L_23 : Cond.methodLink "RumorTombsLaw" 23 yX3_dead ∈ TB := tb_of 301 (by decide +kernel) rfl
theorem ml_X3_136 : Cond.methodLink RX3 136 yX2_deadTopics ∈ TB := tb_of 305 (by decide +kernel) rfl
theorem ml_L_9 : Cond.methodLink "RumorTombsLaw" 9 yX3_entryOf ∈ TB := tb_of 306 (by decide +kernel) rfl
theorem ml_X3_96 : Cond.methodLink RX3 96 yX3_isTopic ∈ TB := tb_of 310 (by decide +kernel) rfl
theorem ml_X3_99 : Cond.methodLink RX3 99 yX3_place ∈ TB := tb_of 313 (by decide +kernel) rfl
theorem ml_X3_105 : Cond.methodLink RX3 105 yX2_isTomb ∈ TB := tb_of 314 (by decide +kernel) rfl
theorem ml_X3_108 : Cond.methodLink RX3 108 yX2_author ∈ TB := tb_of 315 (by decide +kernel) rfl
theorem ml_X3_123 : Cond.methodLink RX3 123 yX2_isDead ∈ TB := tb_of 319 (by decide +kernel) rfl
theorem ml_L_79 : Cond.methodLink "RumorTombsLaw" 79 yL_acts ∈ TB := tb_of 320 (by decide +kernel) rfl
theorem ml_L_39 : Cond.methodLink "RumorTombsLaw" 39 yX3_tell ∈ TB := tb_of 323 (by decide +kernel) rfl
theorem ml_X3_85 : Cond.methodLink RX3 85 yX2_makeRumor ∈ TB := tb_of 327 (by decide +kernel) rfl
theorem mn_X2_116 : Cond.methodLinkNest RX2 116 yX3_isTopic "RumorTombs" ∈ NL := nl_of 331 (by decide +kernel) rfl
theorem ml_X2_74 : Cond.methodLink RX2 74 yX2_isAwake ∈ TB := tb_of 332 (by decide +kernel) rfl
theorem cn_X2_77 : Cond.constant RX2 77 (-1000002) ∈ TB := tb_of 336 (by decide +kernel) rfl
theorem ml_X2_119 : Cond.methodLink RX2 119 yX2_write ∈ TB := tb_of 337 (by decide +kernel) rfl
theorem cn_L_38 : Cond.constant "RumorTombsLaw" 38 (-1000002) ∈ TB := tb_of 341 (by decide +kernel) rfl
theorem ml_L_43 : Cond.methodLink "RumorTombsLaw" 43 yX3_bury ∈ TB := tb_of 342 (by decide +kernel) rfl
theorem ml_X3_89 : Cond.methodLink RX3 89 yX2_makeTomb ∈ TB := tb_of 346 (by decide +kernel) rfl
theorem ml_L_46 : Cond.methodLink "RumorTombsLaw" 46 yX3_sleep ∈ TB := tb_of 350 (by decide +kernel) rfl
theorem ml_X3_45 : Cond.methodLink RX3 45 yX2_fallAsleep ∈ TB := tb_of 354 (by decide +kernel) rfl
theorem ml_X2_78 : Cond.methodLink RX2 78 yX2_howMany ∈ TB := tb_of 358 (by decide +kernel) rfl
theorem ml_L_49 : Cond.methodLink "RumorTombsLaw" 49 yX3_wake ∈ TB := tb_of 359 (by decide +kernel) rfl
theorem ml_X3_48 : Cond.methodLink RX3 48 yX2_wakeUp ∈ TB := tb_of 363 (by decide +kernel) rfl
theorem ml_X2_82 : Cond.methodLink RX2 82 yX2_isAsleep ∈ TB := tb_of 367 (by decide +kernel) rfl
theorem ml_X2_85 : Cond.methodLink RX2 85 yX2_ticksAsleep ∈ TB := tb_of 368 (by decide +kernel) rfl
theorem ml_L_55 : Cond.methodLink "RumorTombsLaw" 55 yX3_watch ∈ TB := tb_of 369 (by decide +kernel) rfl
theorem ml_X3_54 : Cond.methodLink RX3 54 yX2_changeWatch ∈ TB := tb_of 373 (by decide +kernel) rfl
theorem ml_L_58 : Cond.methodLink "RumorTombsLaw" 58 yX3_leave ∈ TB := tb_of 377 (by decide +kernel) rfl
theorem ml_X3_51 : Cond.methodLink RX3 51 yX2_goAway ∈ TB := tb_of 381 (by decide +kernel) rfl
theorem cn_L_61 : Cond.constant "RumorTombsLaw" 61 (-1000001) ∈ TB := tb_of 385 (by decide +kernel) rfl
theorem ml_L_62 : Cond.methodLink "RumorTombsLaw" 62 yL_meets ∈ TB := tb_of 386 (by decide +kernel) rfl
theorem ml_L_26 : Cond.methodLink "RumorTombsLaw" 26 yL_rank ∈ TB := tb_of 389 (by decide +kernel) rfl
theorem ml_L_32 : Cond.methodLink "RumorTombsLaw" 32 yX3_unlike ∈ TB := tb_of 392 (by decide +kernel) rfl
theorem ml_X3_133 : Cond.methodLink RX3 133 yX2_unlikeTopics ∈ TB := tb_of 396 (by decide +kernel) rfl
theorem ml_L_35 : Cond.methodLink "RumorTombsLaw" 35 yX3_meet ∈ TB := tb_of 400 (by decide +kernel) rfl
theorem ml_X3_93 : Cond.methodLink RX3 93 yX2_bringTogether ∈ TB := tb_of 404 (by decide +kernel) rfl
theorem ml_X2_128 : Cond.methodLink RX2 128 yX2_areTwo ∈ TB := tb_of 408 (by decide +kernel) rfl
theorem ml_X2_131 : Cond.methodLink RX2 131 yX2_talk ∈ TB := tb_of 412 (by decide +kernel) rfl
theorem ml_X2_134 : Cond.methodLink RX2 134 yX2_giver ∈ TB := tb_of 416 (by decide +kernel) rfl
theorem ml_X2_144 : Cond.methodLink RX2 144 yX2_author ∈ TB := tb_of 420 (by decide +kernel) rfl
theorem ml_X2_147 : Cond.methodLink RX2 147 yX2_mayBeHanded ∈ TB := tb_of 421 (by decide +kernel) rfl
theorem ml_X2_138 : Cond.methodLink RX2 138 yX2_hand ∈ TB := tb_of 424 (by decide +kernel) rfl
theorem ml_X2_141 : Cond.methodLink RX2 141 yX2_shareSight ∈ TB := tb_of 428 (by decide +kernel) rfl
set_option maxRecDepth 20000 in
theorem mi_X3_villager : MI yX3_villager cX3_villager 1 (some .int) 0 := ⟨tb_of 147 (by decide +kernel) rfl, tb_of 148 (by decide +kernel) rfl, ini_X3, tb_of 149 (by exact rfl) rfl, ⟨by decide +kernel, by decide +kernel, by decide +kernel⟩, by decide +kernel⟩
set_option maxRecDepth 20000 in
theorem mi_X0_prepare : MI yX0_prepare cX0_prepare 2 none 1 := ⟨tb_of 151 (by decide +kernel) rfl, tb_of 152 (by decide +kernel) rfl, ini_X0, tb_of 153 (by exact rfl) rfl, ⟨by decide +kernel, by decide +kernel, by decide +kernel⟩, by decide +kernel⟩
set_option maxRecDepth 20000 in
theorem mi_X2_copyFrom : MI yX2_copyFrom cX2_copyFrom 2 none 1 := ⟨tb_of 155 (by decide +kernel) rfl, tb_of 156 (by decide +kernel) rfl, ini_X2, tb_of 157 (by exact rfl) rfl, ⟨by decide +kernel, by decide +kernel, by decide +kernel⟩, by decide +kernel⟩
set_option maxRecDepth 20000 in
theorem mi_X2_copyRow : MS yX2_copyRow cX2_copyRow 3 none 3 := ⟨tb_of 159 (by decide +kernel) rfl, ini_X2, tb_of 160 (by exact rfl) rfl, ⟨by decide +kernel, by decide +kernel, by decide +kernel⟩, by decide +kernel⟩
set_option maxRecDepth 20000 in
theorem mi_X2_addVillager : MI yX2_addVillager cX2_addVillager 1 (some .int) 0 := ⟨tb_of 165 (by decide +kernel) rfl, tb_of 166 (by decide +kernel) rfl, ini_X2, tb_of 167 (by exact rfl) rfl, ⟨by decide +kernel, by decide +kernel, by decide +kernel⟩, by decide +kernel⟩
set_option maxRecDepth 20000 in
theorem mi_X3_recorded : MI yX3_recorded cX3_recorded 2 (some .int) 1 := ⟨tb_of 171 (by decide +kernel) rfl, tb_of 0 (by decide +kernel) rfl, ini_X3, tb_of 172 (by exact rfl) rfl, ⟨by decide +kernel, by decide +kernel, by decide +kernel⟩, by decide +kernel⟩
set_option maxRecDepth 20000 in
theorem mi_X0_keep : MI yX0_keep cX0_keep 1 none 0 := ⟨tb_of 174 (by decide +kernel) rfl, tb_of 175 (by decide +kernel) rfl, ini_X0, tb_of 176 (by exact rfl) rfl, ⟨by decide +kernel, by decide +kernel, by decide +kernel⟩, by decide +kernel⟩
set_option maxRecDepth 20000 in
theorem mi_X0_dropOldest : MI yX0_dropOldest cX0_dropOldest 3 none 0 := ⟨tb_of 179 (by decide +kernel) rfl, tb_of 1 (by decide +kernel) rfl, ini_X0, tb_of 180 (by exact rfl) rfl, ⟨by decide +kernel, by decide +kernel, by decide +kernel⟩, by decide +kernel⟩
set_option maxRecDepth 20000 in
theorem mi_X3_tick : MI yX3_tick cX3_tick 2 (some .int) 1 := ⟨tb_of 182 (by decide +kernel) rfl, tb_of 183 (by decide +kernel) rfl, ini_X3, tb_of 184 (by exact rfl) rfl, ⟨by decide +kernel, by decide +kernel, by decide +kernel⟩, by decide +kernel⟩
set_option maxRecDepth 20000 in
theorem mi_X2_letGoBy : MI yX2_letGoBy cX2_letGoBy 2 (some .int) 1 := ⟨tb_of 186 (by decide +kernel) rfl, tb_of 187 (by decide +kernel) rfl, ini_X2, tb_of 188 (by exact rfl) rfl, ⟨by decide +kernel, by decide +kernel, by decide +kernel⟩, by decide +kernel⟩
set_option maxRecDepth 20000 in
theorem mi_X2_pass : MI yX2_pass cX2_pass 7 (some .int) 1 := ⟨tb_of 192 (by decide +kernel) rfl, tb_of 193 (by decide +kernel) rfl, ini_X2, tb_of 194 (by exact rfl) rfl, ⟨by decide +kernel, by decide +kernel, by decide +kernel⟩, by decide +kernel⟩
set_option maxRecDepth 20000 in
theorem mi_X2_present : MI yX2_present cX2_present 3 (some .int) 0 := ⟨tb_of 197 (by decide +kernel) rfl, tb_of 2 (by decide +kernel) rfl, ini_X2, tb_of 198 (by exact rfl) rfl, ⟨by decide +kernel, by decide +kernel, by decide +kernel⟩, by decide +kernel⟩
set_option maxRecDepth 20000 in
theorem mi_X3_place : MS yX3_place cX3_place 2 (some .int) 2 := ⟨tb_of 200 (by decide +kernel) rfl, ini_X3, tb_of 201 (by exact rfl) rfl, ⟨by decide +kernel, by decide +kernel, by decide +kernel⟩, by decide +kernel⟩
set_option maxRecDepth 20000 in
theorem mi_X2_isTomb : MI yX2_isTomb cX2_isTomb 2 (some .boolean) 1 := ⟨tb_of 203 (by decide +kernel) rfl, tb_of 204 (by decide +kernel) rfl, ini_X2, tb_of 205 (by exact rfl) rfl, ⟨by decide +kernel, by decide +kernel, by decide +kernel⟩, by decide +kernel⟩
set_option maxRecDepth 20000 in
theorem mi_X2_isOver : MI yX2_isOver cX2_isOver 3 (some .boolean) 2 := ⟨tb_of 208 (by decide +kernel) rfl, tb_of 3 (by decide +kernel) rfl, ini_X2, tb_of 209 (by exact rfl) rfl, ⟨by decide +kernel, by decide +kernel, by decide +kernel⟩, by decide +kernel⟩
set_option maxRecDepth 20000 in
theorem mi_X3_count : MI yX3_count cX3_count 2 (some .int) 1 := ⟨tb_of 214 (by decide +kernel) rfl, tb_of 215 (by decide +kernel) rfl, ini_X3, tb_of 216 (by exact rfl) rfl, ⟨by decide +kernel, by decide +kernel, by decide +kernel⟩, by decide +kernel⟩
set_option maxRecDepth 20000 in
theorem mi_X2_howMany : MI yX2_howMany cX2_howMany 4 (some .int) 1 := ⟨tb_of 218 (by decide +kernel) rfl, tb_of 219 (by decide +kernel) rfl, ini_X2, tb_of 220 (by exact rfl) rfl, ⟨by decide +kernel, by decide +kernel, by decide +kernel⟩, by decide +kernel⟩
set_option maxRecDepth 20000 in
theorem mi_X2_allRumors : MI yX2_allRumors cX2_allRumors 3 (some .int) 0 := ⟨tb_of 222 (by decide +kernel) rfl, tb_of 223 (by decide +kernel) rfl, ini_X2, tb_of 224 (by exact rfl) rfl, ⟨by decide +kernel, by decide +kernel, by decide +kernel⟩, by decide +kernel⟩
set_option maxRecDepth 20000 in
theorem mi_X2_rumorTopics : MI yX2_rumorTopics cX2_rumorTopics 4 (some .int) 1 := ⟨tb_of 226 (by decide +kernel) rfl, tb_of 227 (by decide +kernel) rfl, ini_X2, tb_of 228 (by exact rfl) rfl, ⟨by decide +kernel, by decide +kernel, by decide +kernel⟩, by decide +kernel⟩
set_option maxRecDepth 20000 in
theorem mi_X2_isRumor : MI yX2_isRumor cX2_isRumor 2 (some .boolean) 1 := ⟨tb_of 230 (by decide +kernel) rfl, tb_of 231 (by decide +kernel) rfl, ini_X2, tb_of 232 (by exact rfl) rfl, ⟨by decide +kernel, by decide +kernel, by decide +kernel⟩, by decide +kernel⟩
set_option maxRecDepth 20000 in
theorem mi_J6_bitCount_0f7a4 : MS yJ6_bitCount_0f7a4 cJ6_bitCount_0f7a4 1 (some .int) 1 := ⟨tb_of 234 (by decide +kernel) rfl, ini_J6, tb_of 235 (by exact rfl) rfl, ⟨by decide +kernel, by decide +kernel, by decide +kernel⟩, by decide +kernel⟩
set_option maxRecDepth 20000 in
theorem mi_X2_allTombs : MI yX2_allTombs cX2_allTombs 3 (some .int) 0 := ⟨tb_of 240 (by decide +kernel) rfl, tb_of 241 (by decide +kernel) rfl, ini_X2, tb_of 242 (by exact rfl) rfl, ⟨by decide +kernel, by decide +kernel, by decide +kernel⟩, by decide +kernel⟩
set_option maxRecDepth 20000 in
theorem mi_X2_tombTopics : MI yX2_tombTopics cX2_tombTopics 4 (some .int) 1 := ⟨tb_of 244 (by decide +kernel) rfl, tb_of 245 (by decide +kernel) rfl, ini_X2, tb_of 246 (by exact rfl) rfl, ⟨by decide +kernel, by decide +kernel, by decide +kernel⟩, by decide +kernel⟩
set_option maxRecDepth 20000 in
theorem mi_X2_allDead : MI yX2_allDead cX2_allDead 3 (some .int) 0 := ⟨tb_of 248 (by decide +kernel) rfl, tb_of 249 (by decide +kernel) rfl, ini_X2, tb_of 250 (by exact rfl) rfl, ⟨by decide +kernel, by decide +kernel, by decide +kernel⟩, by decide +kernel⟩
set_option maxRecDepth 20000 in
theorem mi_X2_deadTopics : MI yX2_deadTopics cX2_deadTopics 4 (some .int) 1 := ⟨tb_of 252 (by decide +kernel) rfl, tb_of 253 (by decide +kernel) rfl, ini_X2, tb_of 254 (by exact rfl) rfl, ⟨by decide +kernel, by decide +kernel, by decide +kernel⟩, by decide +kernel⟩
set_option maxRecDepth 20000 in
theorem mi_X2_isDead : MI yX2_isDead cX2_isDead 4 (some .boolean) 2 := ⟨tb_of 256 (by decide +kernel) rfl, tb_of 257 (by decide +kernel) rfl, ini_X2, tb_of 258 (by exact rfl) rfl, ⟨by decide +kernel, by decide +kernel, by decide +kernel⟩, by decide +kernel⟩
set_option maxRecDepth 20000 in
theorem mi_X2_allGhosts : MI yX2_allGhosts cX2_allGhosts 3 (some .int) 0 := ⟨tb_of 260 (by decide +kernel) rfl, tb_of 261 (by decide +kernel) rfl, ini_X2, tb_of 262 (by exact rfl) rfl, ⟨by decide +kernel, by decide +kernel, by decide +kernel⟩, by decide +kernel⟩
set_option maxRecDepth 20000 in
theorem mi_X3_undo : MI yX3_undo cX3_undo 1 (some .int) 0 := ⟨tb_of 265 (by decide +kernel) rfl, tb_of 266 (by decide +kernel) rfl, ini_X3, tb_of 267 (by exact rfl) rfl, ⟨by decide +kernel, by decide +kernel, by decide +kernel⟩, by decide +kernel⟩
set_option maxRecDepth 20000 in
theorem mi_X0_restore : MI yX0_restore cX0_restore 2 none 1 := ⟨tb_of 270 (by decide +kernel) rfl, tb_of 271 (by decide +kernel) rfl, ini_X0, tb_of 272 (by exact rfl) rfl, ⟨by decide +kernel, by decide +kernel, by decide +kernel⟩, by decide +kernel⟩
set_option maxRecDepth 20000 in
theorem mi_L_cell : MS yL_cell cL_cell 2 (some .int) 2 := ⟨tb_of 274 (by decide +kernel) rfl, ini_L, tb_of 275 (by exact rfl) rfl, ⟨by decide +kernel, by decide +kernel, by decide +kernel⟩, by decide +kernel⟩
set_option maxRecDepth 20000 in
theorem mi_L_holds : MS yL_holds cL_holds 14 (some .boolean) 1 := ⟨tb_of 279 (by decide +kernel) rfl, ini_L, tb_of 280 (by exact rfl) rfl, ⟨by decide +kernel, by decide +kernel, by decide +kernel⟩, by decide +kernel⟩
set_option maxRecDepth 20000 in
theorem mi_X3_villagerOf : MI yX3_villagerOf cX3_villagerOf 3 (some .int) 2 := ⟨tb_of 282 (by decide +kernel) rfl, tb_of 283 (by decide +kernel) rfl, ini_X3, tb_of 284 (by exact rfl) rfl, ⟨by decide +kernel, by decide +kernel, by decide +kernel⟩, by decide +kernel⟩
set_option maxRecDepth 20000 in
theorem mi_X2_has : MI yX2_has cX2_has 2 (some .boolean) 1 := ⟨tb_of 286 (by decide +kernel) rfl, tb_of 287 (by decide +kernel) rfl, ini_X2, tb_of 288 (by exact rfl) rfl, ⟨by decide +kernel, by decide +kernel, by decide +kernel⟩, by decide +kernel⟩
set_option maxRecDepth 20000 in
theorem mi_X2_isAsleep : MI yX2_isAsleep cX2_isAsleep 2 (some .boolean) 1 := ⟨tb_of 292 (by decide +kernel) rfl, tb_of 293 (by decide +kernel) rfl, ini_X2, tb_of 294 (by exact rfl) rfl, ⟨by decide +kernel, by decide +kernel, by decide +kernel⟩, by decide +kernel⟩
set_option maxRecDepth 20000 in
theorem mi_X2_ticksAsleep : MI yX2_ticksAsleep cX2_ticksAsleep 2 (some .int) 1 := ⟨tb_of 297 (by decide +kernel) rfl, tb_of 298 (by decide +kernel) rfl, ini_X2, tb_of 299 (by exact rfl) rfl, ⟨by decide +kernel, by decide +kernel, by decide +kernel⟩, by decide +kernel⟩
set_option maxRecDepth 20000 in
theorem mi_X3_dead : MI yX3_dead cX3_dead 2 (some .int) 1 := ⟨tb_of 302 (by decide +kernel) rfl, tb_of 303 (by decide +kernel) rfl, ini_X3, tb_of 304 (by exact rfl) rfl, ⟨by decide +kernel, by decide +kernel, by decide +kernel⟩, by decide +kernel⟩
set_option maxRecDepth 20000 in
theorem mi_X3_entryOf : MI yX3_entryOf cX3_entryOf 6 (some .int) 3 := ⟨tb_of 307 (by decide +kernel) rfl, tb_of 308 (by decide +kernel) rfl, ini_X3, tb_of 309 (by exact rfl) rfl, ⟨by decide +kernel, by decide +kernel, by decide +kernel⟩, by decide +kernel⟩
set_option maxRecDepth 20000 in
theorem mi_X3_isTopic : MS yX3_isTopic cX3_isTopic 1 (some .boolean) 1 := ⟨tb_of 311 (by decide +kernel) rfl, ini_X3, tb_of 312 (by exact rfl) rfl, ⟨by decide +kernel, by decide +kernel, by decide +kernel⟩, by decide +kernel⟩
set_option maxRecDepth 20000 in
theorem mi_X2_author : MI yX2_author cX2_author 2 (some .int) 1 := ⟨tb_of 316 (by decide +kernel) rfl, tb_of 317 (by decide +kernel) rfl, ini_X2, tb_of 318 (by exact rfl) rfl, ⟨by decide +kernel, by decide +kernel, by decide +kernel⟩, by decide +kernel⟩
set_option maxRecDepth 20000 in
theorem mi_L_acts : MS yL_acts cL_acts 17 (some .boolean) 2 := ⟨tb_of 321 (by decide +kernel) rfl, ini_L, tb_of 322 (by exact rfl) rfl, ⟨by decide +kernel, by decide +kernel, by decide +kernel⟩, by decide +kernel⟩
set_option maxRecDepth 20000 in
theorem mi_X3_tell : MI yX3_tell cX3_tell 5 (some .int) 4 := ⟨tb_of 324 (by decide +kernel) rfl, tb_of 325 (by decide +kernel) rfl, ini_X3, tb_of 326 (by exact rfl) rfl, ⟨by decide +kernel, by decide +kernel, by decide +kernel⟩, by decide +kernel⟩
set_option maxRecDepth 20000 in
theorem mi_X2_makeRumor : MI yX2_makeRumor cX2_makeRumor 6 (some .int) 4 := ⟨tb_of 328 (by decide +kernel) rfl, tb_of 329 (by decide +kernel) rfl, ini_X2, tb_of 330 (by exact rfl) rfl, ⟨by decide +kernel, by decide +kernel, by decide +kernel⟩, by decide +kernel⟩
set_option maxRecDepth 20000 in
theorem mi_X2_isAwake : MI yX2_isAwake cX2_isAwake 2 (some .boolean) 1 := ⟨tb_of 333 (by decide +kernel) rfl, tb_of 334 (by decide +kernel) rfl, ini_X2, tb_of 335 (by exact rfl) rfl, ⟨by decide +kernel, by decide +kernel, by decide +kernel⟩, by decide +kernel⟩
set_option maxRecDepth 20000 in
theorem mi_X2_write : MI yX2_write cX2_write 4 none 3 := ⟨tb_of 339 (by decide +kernel) rfl, tb_of 4 (by decide +kernel) rfl, ini_X2, tb_of 340 (by exact rfl) rfl, ⟨by decide +kernel, by decide +kernel, by decide +kernel⟩, by decide +kernel⟩
set_option maxRecDepth 20000 in
theorem mi_X3_bury : MI yX3_bury cX3_bury 3 (some .int) 2 := ⟨tb_of 343 (by decide +kernel) rfl, tb_of 344 (by decide +kernel) rfl, ini_X3, tb_of 345 (by exact rfl) rfl, ⟨by decide +kernel, by decide +kernel, by decide +kernel⟩, by decide +kernel⟩
set_option maxRecDepth 20000 in
theorem mi_X2_makeTomb : MI yX2_makeTomb cX2_makeTomb 4 (some .int) 2 := ⟨tb_of 347 (by decide +kernel) rfl, tb_of 348 (by decide +kernel) rfl, ini_X2, tb_of 349 (by exact rfl) rfl, ⟨by decide +kernel, by decide +kernel, by decide +kernel⟩, by decide +kernel⟩
set_option maxRecDepth 20000 in
theorem mi_X3_sleep : MI yX3_sleep cX3_sleep 2 (some .int) 1 := ⟨tb_of 351 (by decide +kernel) rfl, tb_of 352 (by decide +kernel) rfl, ini_X3, tb_of 353 (by exact rfl) rfl, ⟨by decide +kernel, by decide +kernel, by decide +kernel⟩, by decide +kernel⟩
set_option maxRecDepth 20000 in
theorem mi_X2_fallAsleep : MI yX2_fallAsleep cX2_fallAsleep 2 (some .int) 1 := ⟨tb_of 355 (by decide +kernel) rfl, tb_of 356 (by decide +kernel) rfl, ini_X2, tb_of 357 (by exact rfl) rfl, ⟨by decide +kernel, by decide +kernel, by decide +kernel⟩, by decide +kernel⟩
set_option maxRecDepth 20000 in
theorem mi_X3_wake : MI yX3_wake cX3_wake 2 (some .int) 1 := ⟨tb_of 360 (by decide +kernel) rfl, tb_of 361 (by decide +kernel) rfl, ini_X3, tb_of 362 (by exact rfl) rfl, ⟨by decide +kernel, by decide +kernel, by decide +kernel⟩, by decide +kernel⟩
set_option maxRecDepth 20000 in
theorem mi_X2_wakeUp : MI yX2_wakeUp cX2_wakeUp 2 (some .int) 1 := ⟨tb_of 364 (by decide +kernel) rfl, tb_of 365 (by decide +kernel) rfl, ini_X2, tb_of 366 (by exact rfl) rfl, ⟨by decide +kernel, by decide +kernel, by decide +kernel⟩, by decide +kernel⟩
set_option maxRecDepth 20000 in
theorem mi_X3_watch : MI yX3_watch cX3_watch 2 (some .int) 1 := ⟨tb_of 370 (by decide +kernel) rfl, tb_of 371 (by decide +kernel) rfl, ini_X3, tb_of 372 (by exact rfl) rfl, ⟨by decide +kernel, by decide +kernel, by decide +kernel⟩, by decide +kernel⟩
set_option maxRecDepth 20000 in
theorem mi_X2_changeWatch : MI yX2_changeWatch cX2_changeWatch 3 (some .int) 1 := ⟨tb_of 374 (by decide +kernel) rfl, tb_of 375 (by decide +kernel) rfl, ini_X2, tb_of 376 (by exact rfl) rfl, ⟨by decide +kernel, by decide +kernel, by decide +kernel⟩, by decide +kernel⟩
set_option maxRecDepth 20000 in
theorem mi_X3_leave : MI yX3_leave cX3_leave 2 (some .int) 1 := ⟨tb_of 378 (by decide +kernel) rfl, tb_of 379 (by decide +kernel) rfl, ini_X3, tb_of 380 (by exact rfl) rfl, ⟨by decide +kernel, by decide +kernel, by decide +kernel⟩, by decide +kernel⟩
set_option maxRecDepth 20000 in
theorem mi_X2_goAway : MI yX2_goAway cX2_goAway 3 (some .int) 1 := ⟨tb_of 382 (by decide +kernel) rfl, tb_of 383 (by decide +kernel) rfl, ini_X2, tb_of 384 (by exact rfl) rfl, ⟨by decide +kernel, by decide +kernel, by decide +kernel⟩, by decide +kernel⟩
set_option maxRecDepth 20000 in
theorem mi_L_meets : MS yL_meets cL_meets 14 (some .boolean) 3 := ⟨tb_of 387 (by decide +kernel) rfl, ini_L, tb_of 388 (by exact rfl) rfl, ⟨by decide +kernel, by decide +kernel, by decide +kernel⟩, by decide +kernel⟩
set_option maxRecDepth 20000 in
theorem mi_L_rank : MS yL_rank cL_rank 3 (some .int) 3 := ⟨tb_of 390 (by decide +kernel) rfl, ini_L, tb_of 391 (by exact rfl) rfl, ⟨by decide +kernel, by decide +kernel, by decide +kernel⟩, by decide +kernel⟩
set_option maxRecDepth 20000 in
theorem mi_X3_unlike : MI yX3_unlike cX3_unlike 3 (some .int) 2 := ⟨tb_of 393 (by decide +kernel) rfl, tb_of 394 (by decide +kernel) rfl, ini_X3, tb_of 395 (by exact rfl) rfl, ⟨by decide +kernel, by decide +kernel, by decide +kernel⟩, by decide +kernel⟩
set_option maxRecDepth 20000 in
theorem mi_X2_unlikeTopics : MI yX2_unlikeTopics cX2_unlikeTopics 5 (some .int) 2 := ⟨tb_of 397 (by decide +kernel) rfl, tb_of 398 (by decide +kernel) rfl, ini_X2, tb_of 399 (by exact rfl) rfl, ⟨by decide +kernel, by decide +kernel, by decide +kernel⟩, by decide +kernel⟩
set_option maxRecDepth 20000 in
theorem mi_X3_meet : MI yX3_meet cX3_meet 3 (some .int) 2 := ⟨tb_of 401 (by decide +kernel) rfl, tb_of 402 (by decide +kernel) rfl, ini_X3, tb_of 403 (by exact rfl) rfl, ⟨by decide +kernel, by decide +kernel, by decide +kernel⟩, by decide +kernel⟩
set_option maxRecDepth 20000 in
theorem mi_X2_bringTogether : MI yX2_bringTogether cX2_bringTogether 3 (some .int) 2 := ⟨tb_of 405 (by decide +kernel) rfl, tb_of 406 (by decide +kernel) rfl, ini_X2, tb_of 407 (by exact rfl) rfl, ⟨by decide +kernel, by decide +kernel, by decide +kernel⟩, by decide +kernel⟩
set_option maxRecDepth 20000 in
theorem mi_X2_areTwo : MI yX2_areTwo cX2_areTwo 3 (some .boolean) 2 := ⟨tb_of 409 (by decide +kernel) rfl, tb_of 410 (by decide +kernel) rfl, ini_X2, tb_of 411 (by exact rfl) rfl, ⟨by decide +kernel, by decide +kernel, by decide +kernel⟩, by decide +kernel⟩
set_option maxRecDepth 20000 in
theorem mi_X2_talk : MI yX2_talk cX2_talk 7 (some .int) 2 := ⟨tb_of 413 (by decide +kernel) rfl, tb_of 414 (by decide +kernel) rfl, ini_X2, tb_of 415 (by exact rfl) rfl, ⟨by decide +kernel, by decide +kernel, by decide +kernel⟩, by decide +kernel⟩
set_option maxRecDepth 20000 in
theorem mi_X2_giver : MI yX2_giver cX2_giver 9 (some .int) 3 := ⟨tb_of 418 (by decide +kernel) rfl, tb_of 5 (by decide +kernel) rfl, ini_X2, tb_of 419 (by exact rfl) rfl, ⟨by decide +kernel, by decide +kernel, by decide +kernel⟩, by decide +kernel⟩
set_option maxRecDepth 20000 in
theorem mi_X2_mayBeHanded : MS yX2_mayBeHanded cX2_mayBeHanded 3 (some .boolean) 3 := ⟨tb_of 422 (by decide +kernel) rfl, ini_X2, tb_of 423 (by exact rfl) rfl, ⟨by decide +kernel, by decide +kernel, by decide +kernel⟩, by decide +kernel⟩
set_option maxRecDepth 20000 in
theorem mi_X2_hand : MI yX2_hand cX2_hand 6 none 3 := ⟨tb_of 426 (by decide +kernel) rfl, tb_of 6 (by decide +kernel) rfl, ini_X2, tb_of 427 (by exact rfl) rfl, ⟨by decide +kernel, by decide +kernel, by decide +kernel⟩, by decide +kernel⟩
set_option maxRecDepth 20000 in
theorem mi_X2_shareSight : MI yX2_shareSight cX2_shareSight 7 none 3 := ⟨tb_of 430 (by decide +kernel) rfl, tb_of 7 (by decide +kernel) rfl, ini_X2, tb_of 431 (by exact rfl) rfl, ⟨by decide +kernel, by decide +kernel, by decide +kernel⟩, by decide +kernel⟩
set_option maxRecDepth 20000 in
theorem inT_X0 : ∀ w ∈ wsX00, w ∈ TB := by
  have h : wsX00.all (fun w => decide (w ∈ lw_tbl) && goodWord w) = true := by decide +kernel
  intro w hw
  have h1 := List.all_eq_true.mp h w hw
  simp only [Bool.and_eq_true, decide_eq_true_eq] at h1
  exact List.mem_filter.mpr h1
set_option maxRecDepth 20000 in
theorem inT_X1 : ∀ w ∈ wsX10, w ∈ TB := by
  have h : wsX10.all (fun w => decide (w ∈ lw_tbl) && goodWord w) = true := by decide +kernel
  intro w hw
  have h1 := List.all_eq_true.mp h w hw
  simp only [Bool.and_eq_true, decide_eq_true_eq] at h1
  exact List.mem_filter.mpr h1
set_option maxRecDepth 20000 in
theorem inT_X2 : ∀ w ∈ wsX20, w ∈ TB := by
  have h : wsX20.all (fun w => decide (w ∈ lw_tbl) && goodWord w) = true := by decide +kernel
  intro w hw
  have h1 := List.all_eq_true.mp h w hw
  simp only [Bool.and_eq_true, decide_eq_true_eq] at h1
  exact List.mem_filter.mpr h1
set_option maxRecDepth 20000 in
theorem inT_X3 : ∀ w ∈ wsX30, w ∈ TB := by
  have h : wsX30.all (fun w => decide (w ∈ lw_tbl) && goodWord w) = true := by decide +kernel
  intro w hw
  have h1 := List.all_eq_true.mp h w hw
  simp only [Bool.and_eq_true, decide_eq_true_eq] at h1
  exact List.mem_filter.mpr h1
